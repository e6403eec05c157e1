section
def lw_okq (q : MethodName × Nat) : Prop := (q.1.cls ≠ "java/lang/invoke/MethodHandle" ∧ q.1.cls ≠ "java/lang/invoke/VarHandle") ∧ Cond.instantiable q.1.cls q.2 ∈ tables_1 ∧ Cond.privateMethod q.1 ∈ tables_1 ∧ Cond.instanceMethod q.1 ∈ tables_1
theorem lw_p0 : lw_okq (⟨"WideStore", "addEntry", "(LWideStore$Entry;)Z"⟩, 8) := ⟨⟨by decide +kernel, by decide +kernel⟩, List.mem_of_getElem? (i := 15) (by decide +kernel), List.mem_of_getElem? (i := 148) (by decide +kernel), List.mem_of_getElem? (i := 149) (by decide +kernel)⟩
theorem lw_p1 : lw_okq (⟨"WideStore", "flushMemory", "()V"⟩, 8) := ⟨⟨by decide +kernel, by decide +kernel⟩, List.mem_of_getElem? (i := 15) (by decide +kernel), List.mem_of_getElem? (i := 160) (by decide +kernel), List.mem_of_getElem? (i := 161) (by decide +kernel)⟩
theorem lw_p2 : lw_okq (⟨"java/util/ArrayList", "add", "(Ljava/lang/Object;[Ljava/lang/Object;I)V"⟩, 3) := ⟨⟨by decide +kernel, by decide +kernel⟩, List.mem_of_getElem? (i := 31) (by decide +kernel), List.mem_of_getElem? (i := 168) (by decide +kernel), List.mem_of_getElem? (i := 169) (by decide +kernel)⟩
theorem lw_p3 : lw_okq (⟨"java/util/ArrayList", "grow", "()[Ljava/lang/Object;"⟩, 3) := ⟨⟨by decide +kernel, by decide +kernel⟩, List.mem_of_getElem? (i := 31) (by decide +kernel), List.mem_of_getElem? (i := 172) (by decide +kernel), List.mem_of_getElem? (i := 173) (by decide +kernel)⟩
theorem lw_p4 : lw_okq (⟨"java/util/ArrayList", "grow", "(I)[Ljava/lang/Object;"⟩, 3) := ⟨⟨by decide +kernel, by decide +kernel⟩, List.mem_of_getElem? (i := 31) (by decide +kernel), List.mem_of_getElem? (i := 176) (by decide +kernel), List.mem_of_getElem? (i := 177) (by decide +kernel)⟩
theorem lw_p5 : lw_okq (⟨"WideStore", "newestAreOfOneTier", "()Z"⟩, 8) := ⟨⟨by decide +kernel, by decide +kernel⟩, List.mem_of_getElem? (i := 15) (by decide +kernel), List.mem_of_getElem? (i := 216) (by decide +kernel), List.mem_of_getElem? (i := 217) (by decide +kernel)⟩
theorem lw_p6 : lw_okq (⟨"WideStore", "mergeFrom", "(II)LWideStore$Table;"⟩, 8) := ⟨⟨by decide +kernel, by decide +kernel⟩, List.mem_of_getElem? (i := 15) (by decide +kernel), List.mem_of_getElem? (i := 234) (by decide +kernel), List.mem_of_getElem? (i := 235) (by decide +kernel)⟩
theorem lw_p7 : lw_okq (⟨"WideStore$Table", "dropEntry", "(LWideStore$Entry;)V"⟩, 4) := ⟨⟨by decide +kernel, by decide +kernel⟩, List.mem_of_getElem? (i := 57) (by decide +kernel), List.mem_of_getElem? (i := 259) (by decide +kernel), List.mem_of_getElem? (i := 260) (by decide +kernel)⟩
theorem lw_p8 : lw_okq (⟨"java/util/ArrayList", "fastRemove", "([Ljava/lang/Object;I)V"⟩, 3) := ⟨⟨by decide +kernel, by decide +kernel⟩, List.mem_of_getElem? (i := 31) (by decide +kernel), List.mem_of_getElem? (i := 271) (by decide +kernel), List.mem_of_getElem? (i := 272) (by decide +kernel)⟩
theorem lw_p9 : lw_okq (⟨"WideStore", "seenCell", "(II)LWideStore$Entry;"⟩, 8) := ⟨⟨by decide +kernel, by decide +kernel⟩, List.mem_of_getElem? (i := 15) (by decide +kernel), List.mem_of_getElem? (i := 289) (by decide +kernel), List.mem_of_getElem? (i := 290) (by decide +kernel)⟩
theorem lw_p10 : lw_okq (⟨"WideStore", "winningPoint", "(II)LWideStore$Entry;"⟩, 8) := ⟨⟨by decide +kernel, by decide +kernel⟩, List.mem_of_getElem? (i := 15) (by decide +kernel), List.mem_of_getElem? (i := 293) (by decide +kernel), List.mem_of_getElem? (i := 294) (by decide +kernel)⟩
theorem lw_p11 : lw_okq (⟨"WideStore", "isCovered", "(III)Z"⟩, 8) := ⟨⟨by decide +kernel, by decide +kernel⟩, List.mem_of_getElem? (i := 15) (by decide +kernel), List.mem_of_getElem? (i := 299) (by decide +kernel), List.mem_of_getElem? (i := 300) (by decide +kernel)⟩
theorem lw_p12 : lw_okq (⟨"WideStore", "greatestTier", "()I"⟩, 8) := ⟨⟨by decide +kernel, by decide +kernel⟩, List.mem_of_getElem? (i := 15) (by decide +kernel), List.mem_of_getElem? (i := 329) (by decide +kernel), List.mem_of_getElem? (i := 330) (by decide +kernel)⟩
theorem lw_p13 : lw_okq (⟨"WideStoreModel", "add", "(IIIIIII)Z"⟩, 16) := ⟨⟨by decide +kernel, by decide +kernel⟩, List.mem_of_getElem? (i := 360) (by decide +kernel), List.mem_of_getElem? (i := 426) (by decide +kernel), List.mem_of_getElem? (i := 427) (by decide +kernel)⟩
theorem lw_p14 : lw_okq (⟨"WideStoreModel", "remember", "(I)V"⟩, 16) := ⟨⟨by decide +kernel, by decide +kernel⟩, List.mem_of_getElem? (i := 360) (by decide +kernel), List.mem_of_getElem? (i := 430) (by decide +kernel), List.mem_of_getElem? (i := 431) (by decide +kernel)⟩
theorem lw_p15 : lw_okq (⟨"WideStoreModel", "flushAll", "()I"⟩, 16) := ⟨⟨by decide +kernel, by decide +kernel⟩, List.mem_of_getElem? (i := 360) (by decide +kernel), List.mem_of_getElem? (i := 446) (by decide +kernel), List.mem_of_getElem? (i := 447) (by decide +kernel)⟩
def lw_privs_1 : List (MethodName × Nat) := [(⟨"WideStore", "addEntry", "(LWideStore$Entry;)Z"⟩, 8), (⟨"WideStore", "flushMemory", "()V"⟩, 8), (⟨"java/util/ArrayList", "add", "(Ljava/lang/Object;[Ljava/lang/Object;I)V"⟩, 3), (⟨"java/util/ArrayList", "grow", "()[Ljava/lang/Object;"⟩, 3), (⟨"java/util/ArrayList", "grow", "(I)[Ljava/lang/Object;"⟩, 3), (⟨"WideStore", "newestAreOfOneTier", "()Z"⟩, 8), (⟨"WideStore", "mergeFrom", "(II)LWideStore$Table;"⟩, 8), (⟨"WideStore$Table", "dropEntry", "(LWideStore$Entry;)V"⟩, 4), (⟨"java/util/ArrayList", "fastRemove", "([Ljava/lang/Object;I)V"⟩, 3), (⟨"WideStore", "seenCell", "(II)LWideStore$Entry;"⟩, 8), (⟨"WideStore", "winningPoint", "(II)LWideStore$Entry;"⟩, 8), (⟨"WideStore", "isCovered", "(III)Z"⟩, 8), (⟨"WideStore", "greatestTier", "()I"⟩, 8), (⟨"WideStoreModel", "add", "(IIIIIII)Z"⟩, 16), (⟨"WideStoreModel", "remember", "(I)V"⟩, 16), (⟨"WideStoreModel", "flushAll", "()I"⟩, 16)]
theorem lw_r1 : ∀ q ∈ lw_privs_1, lw_okq q := List.forall_mem_cons.mpr ⟨lw_p0, List.forall_mem_cons.mpr ⟨lw_p1, List.forall_mem_cons.mpr ⟨lw_p2, List.forall_mem_cons.mpr ⟨lw_p3, List.forall_mem_cons.mpr ⟨lw_p4, List.forall_mem_cons.mpr ⟨lw_p5, List.forall_mem_cons.mpr ⟨lw_p6, List.forall_mem_cons.mpr ⟨lw_p7, List.forall_mem_cons.mpr ⟨lw_p8, List.forall_mem_cons.mpr ⟨lw_p9, List.forall_mem_cons.mpr ⟨lw_p10, List.forall_mem_cons.mpr ⟨lw_p11, List.forall_mem_cons.mpr ⟨lw_p12, List.forall_mem_cons.mpr ⟨lw_p13, List.forall_mem_cons.mpr ⟨lw_p14, List.forall_mem_cons.mpr ⟨lw_p15, fun _ h => absurd h List.not_mem_nil⟩⟩⟩⟩⟩⟩⟩⟩⟩⟩⟩⟩⟩⟩⟩⟩
theorem lw_p16 : lw_okq (⟨"WideStoreModel", "join", "(II)V"⟩, 16) := ⟨⟨by decide +kernel, by decide +kernel⟩, List.mem_of_getElem? (i := 360) (by decide +kernel), List.mem_of_getElem? (i := 450) (by decide +kernel), List.mem_of_getElem? (i := 451) (by decide +kernel)⟩
theorem lw_p17 : lw_okq (⟨"WideStoreModel", "seen", "(II)Z"⟩, 16) := ⟨⟨by decide +kernel, by decide +kernel⟩, List.mem_of_getElem? (i := 360) (by decide +kernel), List.mem_of_getElem? (i := 481) (by decide +kernel), List.mem_of_getElem? (i := 482) (by decide +kernel)⟩
theorem lw_p18 : lw_okq (⟨"WideStoreModel", "winner", "(II)I"⟩, 16) := ⟨⟨by decide +kernel, by decide +kernel⟩, List.mem_of_getElem? (i := 360) (by decide +kernel), List.mem_of_getElem? (i := 485) (by decide +kernel), List.mem_of_getElem? (i := 486) (by decide +kernel)⟩
def lw_privs_2 : List (MethodName × Nat) := [(⟨"WideStoreModel", "join", "(II)V"⟩, 16), (⟨"WideStoreModel", "seen", "(II)Z"⟩, 16), (⟨"WideStoreModel", "winner", "(II)I"⟩, 16)]
theorem lw_r2 : ∀ q ∈ lw_privs_2, lw_okq q := List.forall_mem_cons.mpr ⟨lw_p16, List.forall_mem_cons.mpr ⟨lw_p17, List.forall_mem_cons.mpr ⟨lw_p18, fun _ h => absurd h List.not_mem_nil⟩⟩⟩
def lw_privs : List (MethodName × Nat) := lw_privs_1 ++ (lw_privs_2)
def lw_tbl : List Cond := k2_sels lw_privs ++ tables_1
theorem lw_privs_ok : ∀ q ∈ lw_privs, lw_okq q := by
  show ∀ q ∈ lw_privs_1 ++ (lw_privs_2), lw_okq q
  exact List.forall_mem_append.mpr ⟨lw_r1, lw_r2⟩
def RXS : String := "WideStore"
def RXE : String := "WideStore$Entry"
def RXT : String := "WideStore$Table"
def RXM : String := "WideStoreModel"
def RXA : String := "java/util/ArrayList"
def RXO : String := "java/util/Objects"
def RXP : String := "jdk/internal/util/Preconditions"
def RXU : String := "jdk/internal/util/ArraysSupport"
def RXY : String := "java/util/Arrays"
def RXB : String := "java/util/AbstractList"
def RXC : String := "java/util/AbstractCollection"
def RXL : String := "WideStoreLaw"
def RL : String := "WideStoreLaw"
def TXE : u_T := fun k => match k with
  | 0 => ("WideStore$Entry", "kind", "I", true)
  | 1 => ("WideStore$Entry", "slot", "I", true)
  | 2 => ("WideStore$Entry", "stamp", "I", true)
  | 3 => ("WideStore$Entry", "value", "I", true)
  | _ => ("WideStore$Entry", "time", "I", true)
def tyXE : Nat → FieldType := fun k => match k with
  | 0 => .int
  | 1 => .int
  | 2 => .int
  | 3 => .int
  | _ => .int
theorem nmXE : ∀ a, a < 5 → ∀ b, b < 5 → a ≠ b → (TXE a).2.1 ≠ (TXE b).2.1 := by decide +kernel
theorem tyXE_ok : ∀ k, k < 5 → parseFieldDescriptor (TXE k).2.2.1 = some (tyXE k) := by decide +kernel
def TXT : u_T := fun k => match k with
  | 0 => ("WideStore$Table", "tier", "I", true)
  | 1 => ("WideStore$Table", "slots", "[LWideStore$Entry;", true)
  | 2 => ("WideStore$Table", "size", "I", false)
  | _ => ("WideStore$Table", "wipes", "I", false)
def tyXT : Nat → FieldType := fun k => match k with
  | 0 => .int
  | 1 => .array (.object "WideStore$Entry")
  | 2 => .int
  | _ => .int
theorem nmXT : ∀ a, a < 4 → ∀ b, b < 4 → a ≠ b → (TXT a).2.1 ≠ (TXT b).2.1 := by decide +kernel
theorem tyXT_ok : ∀ k, k < 4 → parseFieldDescriptor (TXT k).2.2.1 = some (tyXT k) := by decide +kernel
def TXS : u_T := fun k => match k with
  | 0 => ("WideStore", "cap", "I", true)
  | 1 => ("WideStore", "grace", "I", true)
  | 2 => ("WideStore", "log", "[LWideStore$Entry;", true)
  | 3 => ("WideStore", "runs", "Ljava/util/ArrayList;", true)
  | 4 => ("WideStore", "memory", "LWideStore$Table;", false)
  | 5 => ("WideStore", "logSize", "I", false)
  | 6 => ("WideStore", "safeSize", "I", false)
  | _ => ("WideStore", "now", "I", false)
def tyXS : Nat → FieldType := fun k => match k with
  | 0 => .int
  | 1 => .int
  | 2 => .array (.object "WideStore$Entry")
  | 3 => .object "java/util/ArrayList"
  | 4 => .object "WideStore$Table"
  | 5 => .int
  | 6 => .int
  | _ => .int
theorem nmXS : ∀ a, a < 8 → ∀ b, b < 8 → a ≠ b → (TXS a).2.1 ≠ (TXS b).2.1 := by decide +kernel
theorem tyXS_ok : ∀ k, k < 8 → parseFieldDescriptor (TXS k).2.2.1 = some (tyXS k) := by decide +kernel
def TXM : u_T := fun k => match k with
  | 0 => ("WideStoreModel", "cap", "I", true)
  | 1 => ("WideStoreModel", "grace", "I", true)
  | 2 => ("WideStoreModel", "now", "I", false)
  | 3 => ("WideStoreModel", "memories", "I", false)
  | 4 => ("WideStoreModel", "memory", "[I", true)
  | 5 => ("WideStoreModel", "logs", "I", false)
  | 6 => ("WideStoreModel", "safe", "I", false)
  | 7 => ("WideStoreModel", "log", "[I", true)
  | 8 => ("WideStoreModel", "flushed", "I", false)
  | 9 => ("WideStoreModel", "entry", "[I", true)
  | 10 => ("WideStoreModel", "runOf", "[I", true)
  | 11 => ("WideStoreModel", "runs", "I", false)
  | 12 => ("WideStoreModel", "marks", "I", false)
  | 13 => ("WideStoreModel", "mark", "[I", true)
  | 14 => ("WideStoreModel", "tier", "[I", true)
  | _ => ("WideStoreModel", "cell", "[I", true)
def tyXM : Nat → FieldType := fun k => match k with
  | 0 => .int
  | 1 => .int
  | 2 => .int
  | 3 => .int
  | 4 => .array .int
  | 5 => .int
  | 6 => .int
  | 7 => .array .int
  | 8 => .int
  | 9 => .array .int
  | 10 => .array .int
  | 11 => .int
  | 12 => .int
  | 13 => .array .int
  | 14 => .array .int
  | _ => .array .int
theorem nmXM : ∀ a, a < 16 → ∀ b, b < 16 → a ≠ b → (TXM a).2.1 ≠ (TXM b).2.1 := by decide +kernel
theorem tyXM_ok : ∀ k, k < 16 → parseFieldDescriptor (TXM k).2.2.1 = some (tyXM k) := by decide +kernel
def TXA : u_T := fun k => match k with
  | 0 => ("java/util/AbstractList", "modCount", "I", false)
  | 1 => ("java/util/ArrayList", "elementData", "[Ljava/lang/Object;", false)
  | _ => ("java/util/ArrayList", "size", "I", false)
def tyXA : Nat → FieldType := fun k => match k with
  | 0 => .int
  | 1 => .array (.object "java/lang/Object")
  | _ => .int
theorem nmXA : ∀ a, a < 3 → ∀ b, b < 3 → a ≠ b → (TXA a).2.1 ≠ (TXA b).2.1 := by decide +kernel
theorem tyXA_ok : ∀ k, k < 3 → parseFieldDescriptor (TXA k).2.2.1 = some (tyXA k) := by decide +kernel
abbrev vwCl : List vw_C := [(RXE, TXE, 5), (RXT, TXT, 4), (RXS, TXS, 8), (RXM, TXM, 16), (RXA, TXA, 3)]
abbrev ci_E : Nat := 0
abbrev ci_T : Nat := 1
abbrev ci_S : Nat := 2
abbrev ci_M : Nat := 3
abbrev ci_A : Nat := 4
abbrev cXS_init : ByteArray := prog_1_method_1_code
def yXS_init : MethodName := ⟨RXS, "<init>", "(II)V"⟩
abbrev cXA_init : ByteArray := prog_13_method_2_code
def yXA_init : MethodName := ⟨RXA, "<init>", "()V"⟩
abbrev cXB_init : ByteArray := prog_12_method_1_code
def yXB_init : MethodName := ⟨RXB, "<init>", "()V"⟩
abbrev cXC_init : ByteArray := prog_11_method_1_code
def yXC_init : MethodName := ⟨RXC, "<init>", "()V"⟩
abbrev cXT_init : ByteArray := prog_3_method_1_code
def yXT_init : MethodName := ⟨RXT, "<init>", "(I)V"⟩
abbrev cXS_put : ByteArray := prog_1_method_2_code
def yXS_put : MethodName := ⟨RXS, "put", "(IIIII)Z"⟩
abbrev cXS_isPlace : ByteArray := prog_1_method_16_code
def yXS_isPlace : MethodName := ⟨RXS, "isPlace", "(II)Z"⟩
abbrev cXS_isStamp : ByteArray := prog_1_method_17_code
def yXS_isStamp : MethodName := ⟨RXS, "isStamp", "(I)Z"⟩
abbrev cXS_pointSlot : ByteArray := prog_1_method_18_code
def yXS_pointSlot : MethodName := ⟨RXS, "pointSlot", "(II)I"⟩
abbrev cXE_init : ByteArray := prog_2_method_1_code
def yXE_init : MethodName := ⟨RXE, "<init>", "(IIIII)V"⟩
abbrev cXS_addEntry : ByteArray := prog_1_method_20_code
def yXS_addEntry : MethodName := ⟨RXS, "addEntry", "(LWideStore$Entry;)Z"⟩
abbrev cXT_addWinner : ByteArray := prog_3_method_3_code
def yXT_addWinner : MethodName := ⟨RXT, "addWinner", "(LWideStore$Entry;)V"⟩
abbrev cXE_winsOver : ByteArray := prog_2_method_2_code
def yXE_winsOver : MethodName := ⟨RXE, "winsOver", "(LWideStore$Entry;)Z"⟩
abbrev cXS_flushMemory : ByteArray := prog_1_method_21_code
def yXS_flushMemory : MethodName := ⟨RXS, "flushMemory", "()V"⟩
abbrev cXA_add : ByteArray := prog_13_method_25_code
def yXA_add : MethodName := ⟨RXA, "add", "(Ljava/lang/Object;)Z"⟩
abbrev cXA_addp : ByteArray := prog_13_method_24_code
def yXA_addp : MethodName := ⟨RXA, "add", "(Ljava/lang/Object;[Ljava/lang/Object;I)V"⟩
abbrev cXA_grow0 : ByteArray := prog_13_method_7_code
def yXA_grow0 : MethodName := ⟨RXA, "grow", "()[Ljava/lang/Object;"⟩
abbrev cXA_grow1 : ByteArray := prog_13_method_6_code
def yXA_grow1 : MethodName := ⟨RXA, "grow", "(I)[Ljava/lang/Object;"⟩
abbrev cXU_newLength : ByteArray := prog_20_method_27_code
def yXU_newLength : MethodName := ⟨RXU, "newLength", "(III)I"⟩
abbrev cXU_hugeLength : ByteArray := prog_20_method_28_code
def yXU_hugeLength : MethodName := ⟨RXU, "hugeLength", "(II)I"⟩
abbrev cXY_copyOf2 : ByteArray := prog_14_method_119_code
def yXY_copyOf2 : MethodName := ⟨RXY, "copyOf", "([Ljava/lang/Object;I)[Ljava/lang/Object;"⟩
abbrev cXY_copyOf3 : ByteArray := prog_14_method_120_code
def yXY_copyOf3 : MethodName := ⟨RXY, "copyOf", "([Ljava/lang/Object;ILjava/lang/Class;)[Ljava/lang/Object;"⟩
abbrev cXA_size : ByteArray := prog_13_method_8_code
def yXA_size : MethodName := ⟨RXA, "size", "()I"⟩
abbrev cXS_newestAreOfOneTier : ByteArray := prog_1_method_22_code
def yXS_newestAreOfOneTier : MethodName := ⟨RXS, "newestAreOfOneTier", "()Z"⟩
abbrev cXA_get : ByteArray := prog_13_method_20_code
def yXA_get : MethodName := ⟨RXA, "get", "(I)Ljava/lang/Object;"⟩
abbrev cXO_checkIndex : ByteArray := prog_17_method_17_code
def yXO_checkIndex : MethodName := ⟨RXO, "checkIndex", "(II)I"⟩
abbrev cXP_checkIndex : ByteArray := prog_21_method_11_code
def yXP_checkIndex : MethodName := ⟨RXP, "checkIndex", "(IILjava/util/function/BiFunction;)I"⟩
abbrev cXA_elementData : ByteArray := prog_13_method_18_code
def yXA_elementData : MethodName := ⟨RXA, "elementData", "(I)Ljava/lang/Object;"⟩
abbrev cXS_mergeFrom : ByteArray := prog_1_method_24_code
def yXS_mergeFrom : MethodName := ⟨RXS, "mergeFrom", "(II)LWideStore$Table;"⟩
abbrev cXT_addWinners : ByteArray := prog_3_method_4_code
def yXT_addWinners : MethodName := ⟨RXT, "addWinners", "(LWideStore$Table;)V"⟩
abbrev cXT_dropCovered : ByteArray := prog_3_method_6_code
def yXT_dropCovered : MethodName := ⟨RXT, "dropCovered", "()V"⟩
abbrev cXT_pointAt : ByteArray := prog_3_method_2_code
def yXT_pointAt : MethodName := ⟨RXT, "pointAt", "(II)LWideStore$Entry;"⟩
abbrev cXT_covers : ByteArray := prog_3_method_5_code
def yXT_covers : MethodName := ⟨RXT, "covers", "(III)Z"⟩
abbrev cXS_wipeSlot : ByteArray := prog_1_method_19_code
def yXS_wipeSlot : MethodName := ⟨RXS, "wipeSlot", "(III)I"⟩
abbrev cXT_dropEntry : ByteArray := prog_3_method_9_code
def yXT_dropEntry : MethodName := ⟨RXT, "dropEntry", "(LWideStore$Entry;)V"⟩
abbrev cXT_dropOld : ByteArray := prog_3_method_7_code
def yXT_dropOld : MethodName := ⟨RXT, "dropOld", "(II)V"⟩
abbrev cXA_remove : ByteArray := prog_13_method_29_code
def yXA_remove : MethodName := ⟨RXA, "remove", "(I)Ljava/lang/Object;"⟩
abbrev cXA_fastRemove : ByteArray := prog_13_method_39_code
def yXA_fastRemove : MethodName := ⟨RXA, "fastRemove", "([Ljava/lang/Object;I)V"⟩
abbrev cXS_delete : ByteArray := prog_1_method_3_code
def yXS_delete : MethodName := ⟨RXS, "delete", "(III)Z"⟩
abbrev cXS_wipe : ByteArray := prog_1_method_4_code
def yXS_wipe : MethodName := ⟨RXS, "wipe", "(IIII)Z"⟩
abbrev cXS_get : ByteArray := prog_1_method_5_code
def yXS_get : MethodName := ⟨RXS, "get", "(II)I"⟩
abbrev cXS_seenCell : ByteArray := prog_1_method_25_code
def yXS_seenCell : MethodName := ⟨RXS, "seenCell", "(II)LWideStore$Entry;"⟩
abbrev cXS_winningPoint : ByteArray := prog_1_method_26_code
def yXS_winningPoint : MethodName := ⟨RXS, "winningPoint", "(II)LWideStore$Entry;"⟩
abbrev cXS_isCovered : ByteArray := prog_1_method_27_code
def yXS_isCovered : MethodName := ⟨RXS, "isCovered", "(III)Z"⟩
abbrev cXS_stamp : ByteArray := prog_1_method_6_code
def yXS_stamp : MethodName := ⟨RXS, "stamp", "(II)I"⟩
abbrev cXS_next : ByteArray := prog_1_method_7_code
def yXS_next : MethodName := ⟨RXS, "next", "(II)I"⟩
abbrev cXS_nextRow : ByteArray := prog_1_method_8_code
def yXS_nextRow : MethodName := ⟨RXS, "nextRow", "(I)I"⟩
abbrev cXS_flush : ByteArray := prog_1_method_9_code
def yXS_flush : MethodName := ⟨RXS, "flush", "()I"⟩
abbrev cXS_merge : ByteArray := prog_1_method_10_code
def yXS_merge : MethodName := ⟨RXS, "merge", "()I"⟩
abbrev cXA_isEmpty : ByteArray := prog_13_method_9_code
def yXA_isEmpty : MethodName := ⟨RXA, "isEmpty", "()Z"⟩
abbrev cXS_greatestTier : ByteArray := prog_1_method_23_code
def yXS_greatestTier : MethodName := ⟨RXS, "greatestTier", "()I"⟩
abbrev cXS_sync : ByteArray := prog_1_method_11_code
def yXS_sync : MethodName := ⟨RXS, "sync", "()I"⟩
abbrev cXS_crash : ByteArray := prog_1_method_12_code
def yXS_crash : MethodName := ⟨RXS, "crash", "()I"⟩
abbrev cXT_clearSlots : ByteArray := prog_3_method_8_code
def yXT_clearSlots : MethodName := ⟨RXT, "clearSlots", "()V"⟩
abbrev cXS_tick : ByteArray := prog_1_method_13_code
def yXS_tick : MethodName := ⟨RXS, "tick", "(I)I"⟩
abbrev cXS_count : ByteArray := prog_1_method_14_code
def yXS_count : MethodName := ⟨RXS, "count", "(I)I"⟩
abbrev cXS_run : ByteArray := prog_1_method_15_code
def yXS_run : MethodName := ⟨RXS, "run", "(II)I"⟩
abbrev cXL_cell : ByteArray := method_2_code
def yXL_cell : MethodName := ⟨RXL, "cell", "([II)I"⟩
abbrev cXM_init : ByteArray := prog_5_method_1_code
def yXM_init : MethodName := ⟨RXM, "<init>", "(II)V"⟩
abbrev cXM_put : ByteArray := prog_5_method_11_code
def yXM_put : MethodName := ⟨RXM, "put", "(IIIII)Z"⟩
abbrev cXM_isPlace : ByteArray := prog_5_method_9_code
def yXM_isPlace : MethodName := ⟨RXM, "isPlace", "(II)Z"⟩
abbrev cXM_isStamp : ByteArray := prog_5_method_10_code
def yXM_isStamp : MethodName := ⟨RXM, "isStamp", "(I)Z"⟩
abbrev cXM_add : ByteArray := prog_5_method_8_code
def yXM_add : MethodName := ⟨RXM, "add", "(IIIIIII)Z"⟩
abbrev cXM_remember : ByteArray := prog_5_method_7_code
def yXM_remember : MethodName := ⟨RXM, "remember", "(I)V"⟩
abbrev cXM_alike : ByteArray := prog_5_method_3_code
def yXM_alike : MethodName := ⟨RXM, "alike", "([II[II)Z"⟩
abbrev cXM_point : ByteArray := prog_5_method_2_code
def yXM_point : MethodName := ⟨RXM, "point", "([II)Z"⟩
abbrev cXM_wins : ByteArray := prog_5_method_4_code
def yXM_wins : MethodName := ⟨RXM, "wins", "([II[II)Z"⟩
abbrev cXM_copy : ByteArray := prog_5_method_6_code
def yXM_copy : MethodName := ⟨RXM, "copy", "([II[II)V"⟩
abbrev cXM_flushAll : ByteArray := prog_5_method_14_code
def yXM_flushAll : MethodName := ⟨RXM, "flushAll", "()I"⟩
abbrev cXM_join : ByteArray := prog_5_method_16_code
def yXM_join : MethodName := ⟨RXM, "join", "(II)V"⟩
abbrev cXM_covers : ByteArray := prog_5_method_5_code
def yXM_covers : MethodName := ⟨RXM, "covers", "([IIIII)Z"⟩
abbrev cXM_delete : ByteArray := prog_5_method_12_code
def yXM_delete : MethodName := ⟨RXM, "delete", "(III)Z"⟩
abbrev cXM_wipe : ByteArray := prog_5_method_13_code
def yXM_wipe : MethodName := ⟨RXM, "wipe", "(IIII)Z"⟩
abbrev cXM_flush : ByteArray := prog_5_method_15_code
def yXM_flush : MethodName := ⟨RXM, "flush", "()I"⟩
abbrev cXM_merge : ByteArray := prog_5_method_17_code
def yXM_merge : MethodName := ⟨RXM, "merge", "()I"⟩
abbrev cXM_run : ByteArray := prog_5_method_28_code
def yXM_run : MethodName := ⟨RXM, "run", "(II)I"⟩
abbrev cXM_get : ByteArray := prog_5_method_20_code
def yXM_get : MethodName := ⟨RXM, "get", "(II)I"⟩
abbrev cXM_seen : ByteArray := prog_5_method_19_code
def yXM_seen : MethodName := ⟨RXM, "seen", "(II)Z"⟩
abbrev cXM_winner : ByteArray := prog_5_method_18_code
def yXM_winner : MethodName := ⟨RXM, "winner", "(II)I"⟩
abbrev cXM_stamp : ByteArray := prog_5_method_21_code
def yXM_stamp : MethodName := ⟨RXM, "stamp", "(II)I"⟩
abbrev cXM_next : ByteArray := prog_5_method_22_code
def yXM_next : MethodName := ⟨RXM, "next", "(II)I"⟩
abbrev cXM_nextRow : ByteArray := prog_5_method_23_code
def yXM_nextRow : MethodName := ⟨RXM, "nextRow", "(I)I"⟩
abbrev cXM_sync : ByteArray := prog_5_method_24_code
def yXM_sync : MethodName := ⟨RXM, "sync", "()I"⟩
abbrev cXM_crash : ByteArray := prog_5_method_25_code
def yXM_crash : MethodName := ⟨RXM, "crash", "()I"⟩
abbrev cXM_tick : ByteArray := prog_5_method_26_code
def yXM_tick : MethodName := ⟨RXM, "tick", "(I)I"⟩
abbrev cXM_count : ByteArray := prog_5_method_27_code
def yXM_count : MethodName := ⟨RXM, "count", "(I)I"⟩
abbrev cXL_law : ByteArray := code
def yXL_law : MethodName := ⟨RXL, "law", "([I)Z"⟩
def AL_0 : List Cond := [.selects yXS_addEntry.cls yXS_addEntry yXS_addEntry, .selects yXS_flushMemory.cls yXS_flushMemory yXS_flushMemory, .selects yXA_addp.cls yXA_addp yXA_addp, .selects yXA_grow0.cls yXA_grow0 yXA_grow0, .selects yXA_grow1.cls yXA_grow1 yXA_grow1, .selects yXS_newestAreOfOneTier.cls yXS_newestAreOfOneTier yXS_newestAreOfOneTier, .selects yXS_mergeFrom.cls yXS_mergeFrom yXS_mergeFrom, .selects yXT_dropEntry.cls yXT_dropEntry yXT_dropEntry, .selects yXA_fastRemove.cls yXA_fastRemove yXA_fastRemove, .selects yXS_seenCell.cls yXS_seenCell yXS_seenCell, .selects yXS_winningPoint.cls yXS_winningPoint yXS_winningPoint, .selects yXS_isCovered.cls yXS_isCovered yXS_isCovered, .selects yXS_greatestTier.cls yXS_greatestTier yXS_greatestTier, .selects yXM_add.cls yXM_add yXM_add, .selects yXM_remember.cls yXM_remember yXM_remember, .selects yXM_flushAll.cls yXM_flushAll yXM_flushAll, .selects yXM_join.cls yXM_join yXM_join, .selects yXM_seen.cls yXM_seen yXM_seen, .selects yXM_winner.cls yXM_winner yXM_winner, .initialized "WideStoreLaw", .initialized "WideStore", .initialized "java/lang/Math", .initialized "java/util/AbstractCollection", .initialized "java/util/AbstractList", .initialized "java/util/ArrayList", .initialized "WideStore$Table", .initialized "WideStoreModel", .initialized "WideStore$Entry", .initialized "jdk/internal/util/ArraysSupport", .initialized "java/util/Arrays", .initialized "java/lang/System", .initialized "java/util/Objects", .initialized "jdk/internal/util/Preconditions", .classLink "WideStoreLaw" 7 "WideStore", .instantiable "WideStore" 8, .methodLink "WideStoreLaw" 15 yXS_init, .instanceMethod yXS_init, .code yXS_init cXS_init 3 none, .methodLink "WideStore" 3 objectInit, .instanceMethod objectInit]
def AL_1 : List Cond := [.code objectInit ⟨#[0xb1]⟩ 1 none, .methodLink "WideStore" 9 Lib.Math.min.name, .static Lib.Math.min.name, .code Lib.Math.min.name Lib.Math.min.code 2 (some .int), .methodLink "WideStore" 15 Lib.Math.max.name, .static Lib.Math.max.name, .code Lib.Math.max.name Lib.Math.max.code 2 (some .int), .classLink "WideStore" 25 "WideStore$Entry", .classLink "WideStore" 31 "java/util/ArrayList", .instantiable "java/util/ArrayList" 3, .methodLink "WideStore" 33 yXA_init, .instanceMethod yXA_init, .code yXA_init cXA_init 1 none, .methodLink "java/util/ArrayList" 1 yXB_init, .instanceMethod yXB_init, .code yXB_init cXB_init 1 none, .methodLink "java/util/AbstractList" 1 yXC_init, .instanceMethod yXC_init, .code yXC_init cXC_init 1 none, .methodLink "java/util/AbstractCollection" 1 objectInit, .fieldLink "java/util/ArrayList" 39 "java/util/ArrayList" "DEFAULTCAPACITY_EMPTY_ELEMENTDATA" "[Ljava/lang/Object;", .fieldLink "java/util/ArrayList" 9 "java/util/ArrayList" "elementData" "[Ljava/lang/Object;", .fieldLink "java/util/ArrayList" 48 "java/util/ArrayList" "size" "I", .fieldLink "java/util/AbstractList" 7 "java/util/AbstractList" "modCount" "I", .fieldLink "java/util/ArrayList" 63 "java/util/ArrayList" "modCount" "I", .sameField "java/util/ArrayList" "java/util/AbstractList" "modCount" "I", .lays "java/util/ArrayList" "java/util/ArrayList" "elementData" "[Ljava/lang/Object;", .lays "java/util/ArrayList" "java/util/ArrayList" "size" "I", .lays "java/util/ArrayList" "java/util/AbstractList" "modCount" "I", .classLink "WideStore" 38 "WideStore$Table", .instantiable "WideStore$Table" 4, .methodLink "WideStore" 40 yXT_init, .instanceMethod yXT_init, .code yXT_init cXT_init 2 none, .methodLink "WideStore$Table" 3 objectInit, .classLink "WideStore$Table" 15 "WideStore$Entry", .fieldLink "WideStore$Table" 9 "WideStore$Table" "tier" "I", .fieldLink "WideStore" 123 "WideStore$Table" "tier" "I", .fieldLink "WideStore$Table" 17 "WideStore$Table" "slots" "[LWideStore$Entry;", .fieldLink "WideStore$Table" 21 "WideStore$Table" "size" "I"]
def AL_2 : List Cond := [.fieldLink "WideStore" 92 "WideStore$Table" "size" "I", .fieldLink "WideStore$Table" 24 "WideStore$Table" "wipes" "I", .fieldLink "WideStore" 126 "WideStore$Table" "wipes" "I", .laysFinal "WideStore$Table" "WideStore$Table" "tier" "I", .laysFinal "WideStore$Table" "WideStore$Table" "slots" "[LWideStore$Entry;", .lays "WideStore$Table" "WideStore$Table" "size" "I", .lays "WideStore$Table" "WideStore$Table" "wipes" "I", .fieldLink "WideStore" 18 "WideStore" "cap" "I", .fieldLink "WideStore" 22 "WideStore" "grace" "I", .fieldLink "WideStore" 27 "WideStore" "log" "[LWideStore$Entry;", .fieldLink "WideStore" 34 "WideStore" "runs" "Ljava/util/ArrayList;", .fieldLink "WideStore" 43 "WideStore" "memory" "LWideStore$Table;", .fieldLink "WideStore" 47 "WideStore" "logSize" "I", .fieldLink "WideStore" 50 "WideStore" "safeSize" "I", .fieldLink "WideStore" 53 "WideStore" "now" "I", .laysFinal "WideStore" "WideStore" "cap" "I", .laysFinal "WideStore" "WideStore" "grace" "I", .laysFinal "WideStore" "WideStore" "log" "[LWideStore$Entry;", .laysFinal "WideStore" "WideStore" "runs" "Ljava/util/ArrayList;", .lays "WideStore" "WideStore" "memory" "LWideStore$Table;", .lays "WideStore" "WideStore" "logSize" "I", .lays "WideStore" "WideStore" "safeSize" "I", .lays "WideStore" "WideStore" "now" "I", .methodLink "WideStoreLaw" 21 yXS_put, .instanceMethod yXS_put, .selects "WideStore" yXS_put yXS_put, .code yXS_put cXS_put 7 (some .boolean), .methodLink "WideStore" 56 yXS_isPlace, .static yXS_isPlace, .code yXS_isPlace cXS_isPlace 2 (some .boolean), .methodLink "WideStore" 60 yXS_isStamp, .static yXS_isStamp, .code yXS_isStamp cXS_isStamp 1 (some .boolean), .constant "WideStore" 64 2147483647, .instantiable "WideStore$Entry" 5, .methodLink "WideStore" 65 yXS_pointSlot, .static yXS_pointSlot, .code yXS_pointSlot cXS_pointSlot 2 (some .int), .methodLink "WideStore" 68 yXE_init, .instanceMethod yXE_init]
def AL_3 : List Cond := [.code yXE_init cXE_init 6 none, .methodLink "WideStore$Entry" 1 objectInit, .fieldLink "WideStore$Entry" 7 "WideStore$Entry" "kind" "I", .fieldLink "WideStore$Table" 34 "WideStore$Entry" "kind" "I", .fieldLink "WideStore" 153 "WideStore$Entry" "kind" "I", .fieldLink "WideStore$Entry" 13 "WideStore$Entry" "slot" "I", .fieldLink "WideStore$Table" 31 "WideStore$Entry" "slot" "I", .fieldLink "WideStore$Entry" 16 "WideStore$Entry" "stamp" "I", .fieldLink "WideStore$Table" 49 "WideStore$Entry" "stamp" "I", .fieldLink "WideStore" 86 "WideStore$Entry" "stamp" "I", .fieldLink "WideStore$Entry" 19 "WideStore$Entry" "value" "I", .fieldLink "WideStore" 83 "WideStore$Entry" "value" "I", .fieldLink "WideStore$Entry" 22 "WideStore$Entry" "time" "I", .fieldLink "WideStore$Table" 63 "WideStore$Entry" "time" "I", .fieldLink "WideStore" 156 "WideStore$Entry" "time" "I", .laysFinal "WideStore$Entry" "WideStore$Entry" "kind" "I", .laysFinal "WideStore$Entry" "WideStore$Entry" "slot" "I", .laysFinal "WideStore$Entry" "WideStore$Entry" "stamp" "I", .laysFinal "WideStore$Entry" "WideStore$Entry" "value" "I", .laysFinal "WideStore$Entry" "WideStore$Entry" "time" "I", .methodLink "WideStore" 71 yXS_addEntry, .instanceMethod yXS_addEntry, .code yXS_addEntry cXS_addEntry 2 (some .boolean), .methodLink "WideStore" 113 yXT_addWinner, .instanceMethod yXT_addWinner, .selects "WideStore$Table" yXT_addWinner yXT_addWinner, .code yXT_addWinner cXT_addWinner 3 none, .methodLink "WideStore$Table" 37 yXE_winsOver, .instanceMethod yXE_winsOver, .selects "WideStore$Entry" yXE_winsOver yXE_winsOver, .code yXE_winsOver cXE_winsOver 2 (some .boolean), .methodLink "WideStore" 95 yXS_flushMemory, .instanceMethod yXS_flushMemory, .code yXS_flushMemory cXS_flushMemory 3 none, .methodLink "WideStore" 129 yXA_add, .instanceMethod yXA_add, .selects "java/util/ArrayList" yXA_add yXA_add, .code yXA_add cXA_add 2 (some .boolean), .methodLink "java/util/ArrayList" 131 yXA_addp, .instanceMethod yXA_addp]
def AL_4 : List Cond := [.code yXA_addp cXA_addp 4 none, .methodLink "java/util/ArrayList" 129 yXA_grow0, .instanceMethod yXA_grow0, .code yXA_grow0 cXA_grow0 1 (some (.array (.object "java/lang/Object"))), .methodLink "java/util/ArrayList" 69 yXA_grow1, .instanceMethod yXA_grow1, .code yXA_grow1 cXA_grow1 4 (some (.array (.object "java/lang/Object"))), .methodLink "java/util/ArrayList" 73 yXU_newLength, .static yXU_newLength, .code yXU_newLength cXU_newLength 4 (some .int), .methodLink "jdk/internal/util/ArraysSupport" 194 Lib.Math.max.name, .constant "jdk/internal/util/ArraysSupport" 200 2147483639, .methodLink "jdk/internal/util/ArraysSupport" 201 yXU_hugeLength, .static yXU_hugeLength, .code yXU_hugeLength cXU_hugeLength 3 (some .int), .methodLink "java/util/ArrayList" 66 yXY_copyOf2, .static yXY_copyOf2, .code yXY_copyOf2 cXY_copyOf2 2 (some (.array (.object "java/lang/Object"))), .methodLink "java/util/Arrays" 86 ⟨"java/lang/Object", "getClass", "()Ljava/lang/Class;"⟩, .instanceMethod ⟨"java/lang/Object", "getClass", "()Ljava/lang/Class;"⟩, .selects "WideStore" ⟨"java/lang/Object", "getClass", "()Ljava/lang/Class;"⟩ ⟨"java/lang/Object", "getClass", "()Ljava/lang/Class;"⟩, .selects "WideStore$Entry" ⟨"java/lang/Object", "getClass", "()Ljava/lang/Class;"⟩ ⟨"java/lang/Object", "getClass", "()Ljava/lang/Class;"⟩, .selects "WideStore$Table" ⟨"java/lang/Object", "getClass", "()Ljava/lang/Class;"⟩ ⟨"java/lang/Object", "getClass", "()Ljava/lang/Class;"⟩, .selects "WideStoreModel" ⟨"java/lang/Object", "getClass", "()Ljava/lang/Class;"⟩ ⟨"java/lang/Object", "getClass", "()Ljava/lang/Class;"⟩, .selects "java/util/ArrayList" ⟨"java/lang/Object", "getClass", "()Ljava/lang/Class;"⟩ ⟨"java/lang/Object", "getClass", "()Ljava/lang/Class;"⟩, .native ⟨"java/lang/Object", "getClass", "()Ljava/lang/Class;"⟩, .methodLink "java/util/Arrays" 300 yXY_copyOf3, .static yXY_copyOf3, .code yXY_copyOf3 cXY_copyOf3 4 (some (.array (.object "java/lang/Object"))), .classLink "java/util/Arrays" 110 "[Ljava/lang/Object;", .classLink "java/util/Arrays" 2 "java/lang/Object", .methodLink "java/util/Arrays" 304 Lib.Math.min.name, .methodLink "java/util/Arrays" 150 arraycopyName, .static arraycopyName, .native arraycopyName, .methodLink "java/util/ArrayList" 79 Lib.Math.max.name, .classLink "java/util/ArrayList" 7 "java/lang/Object", .methodLink "WideStore" 117 yXA_size, .instanceMethod yXA_size, .selects "java/util/ArrayList" yXA_size yXA_size]
def AL_5 : List Cond := [.code yXA_size cXA_size 1 (some .int), .methodLink "WideStore" 133 yXS_newestAreOfOneTier, .instanceMethod yXS_newestAreOfOneTier, .code yXS_newestAreOfOneTier cXS_newestAreOfOneTier 4 (some .boolean), .methodLink "WideStore" 119 yXA_get, .instanceMethod yXA_get, .selects "java/util/ArrayList" yXA_get yXA_get, .code yXA_get cXA_get 2 (some (.object "java/lang/Object")), .methodLink "java/util/ArrayList" 118 yXO_checkIndex, .static yXO_checkIndex, .code yXO_checkIndex cXO_checkIndex 2 (some .int), .methodLink "java/util/Objects" 105 yXP_checkIndex, .static yXP_checkIndex, .code yXP_checkIndex cXP_checkIndex 3 (some .int), .methodLink "java/util/ArrayList" 123 yXA_elementData, .instanceMethod yXA_elementData, .selects "java/util/ArrayList" yXA_elementData yXA_elementData, .code yXA_elementData cXA_elementData 2 (some (.object "java/lang/Object")), .methodLink "WideStore" 106 yXS_mergeFrom, .instanceMethod yXS_mergeFrom, .code yXS_mergeFrom cXS_mergeFrom 5 (some (.object "WideStore$Table")), .methodLink "WideStore" 136 yXT_addWinners, .instanceMethod yXT_addWinners, .selects "WideStore$Table" yXT_addWinners yXT_addWinners, .code yXT_addWinners cXT_addWinners 3 none, .methodLink "WideStore$Table" 41 yXT_addWinner, .methodLink "WideStore" 140 yXT_dropCovered, .instanceMethod yXT_dropCovered, .selects "WideStore$Table" yXT_dropCovered yXT_dropCovered, .code yXT_dropCovered cXT_dropCovered 4 none, .methodLink "WideStore$Table" 52 yXT_pointAt, .instanceMethod yXT_pointAt, .selects "WideStore$Table" yXT_pointAt yXT_pointAt, .code yXT_pointAt cXT_pointAt 3 (some (.object "WideStore$Entry")), .methodLink "WideStore$Table" 56 yXT_covers, .instanceMethod yXT_covers, .selects "WideStore$Table" yXT_covers yXT_covers, .code yXT_covers cXT_covers 7 (some .boolean), .static yXS_wipeSlot, .code yXS_wipeSlot cXS_wipeSlot 3 (some .int)]
def AL_6 : List Cond := [.methodLink "WideStore$Table" 60 yXT_dropEntry, .instanceMethod yXT_dropEntry, .code yXT_dropEntry cXT_dropEntry 2 none, .methodLink "WideStore" 143 yXT_dropOld, .instanceMethod yXT_dropOld, .selects "WideStore$Table" yXT_dropOld yXT_dropOld, .code yXT_dropOld cXT_dropOld 5 none, .methodLink "WideStore" 147 yXA_remove, .instanceMethod yXA_remove, .selects "java/util/ArrayList" yXA_remove yXA_remove, .code yXA_remove cXA_remove 4 (some (.object "java/lang/Object")), .methodLink "java/util/ArrayList" 144 yXA_fastRemove, .instanceMethod yXA_fastRemove, .code yXA_fastRemove cXA_fastRemove 4 none, .methodLink "java/util/ArrayList" 112 arraycopyName, .methodLink "WideStoreLaw" 26 yXS_delete, .instanceMethod yXS_delete, .selects "WideStore" yXS_delete yXS_delete, .code yXS_delete cXS_delete 4 (some .boolean), .methodLink "WideStoreLaw" 31 yXS_wipe, .instanceMethod yXS_wipe, .selects "WideStore" yXS_wipe yXS_wipe, .code yXS_wipe cXS_wipe 5 (some .boolean), .methodLink "WideStore" 75 yXS_wipeSlot, .methodLink "WideStoreLaw" 36 yXS_get, .instanceMethod yXS_get, .selects "WideStore" yXS_get yXS_get, .code yXS_get cXS_get 4 (some .int), .methodLink "WideStore" 79 yXS_seenCell, .instanceMethod yXS_seenCell, .code yXS_seenCell cXS_seenCell 4 (some (.object "WideStore$Entry")), .methodLink "WideStore" 150 yXS_winningPoint, .instanceMethod yXS_winningPoint, .code yXS_winningPoint cXS_winningPoint 6 (some (.object "WideStore$Entry")), .methodLink "WideStore" 163 yXT_pointAt, .methodLink "WideStore" 166 yXE_winsOver, .methodLink "WideStore" 159 yXS_isCovered, .instanceMethod yXS_isCovered, .code yXS_isCovered cXS_isCovered 5 (some .boolean), .methodLink "WideStore" 169 yXT_covers]
def AL_7 : List Cond := [.methodLink "WideStoreLaw" 41 yXS_stamp, .instanceMethod yXS_stamp, .selects "WideStore" yXS_stamp yXS_stamp, .code yXS_stamp cXS_stamp 4 (some .int), .methodLink "WideStoreLaw" 45 yXS_next, .instanceMethod yXS_next, .selects "WideStore" yXS_next yXS_next, .code yXS_next cXS_next 4 (some .int), .methodLink "WideStoreLaw" 49 yXS_nextRow, .instanceMethod yXS_nextRow, .selects "WideStore" yXS_nextRow yXS_nextRow, .code yXS_nextRow cXS_nextRow 3 (some .int), .methodLink "WideStore" 89 yXS_next, .methodLink "WideStoreLaw" 54 yXS_flush, .instanceMethod yXS_flush, .selects "WideStore" yXS_flush yXS_flush, .code yXS_flush cXS_flush 2 (some .int), .methodLink "WideStoreLaw" 59 yXS_merge, .instanceMethod yXS_merge, .selects "WideStore" yXS_merge yXS_merge, .code yXS_merge cXS_merge 1 (some .int), .methodLink "WideStore" 98 yXA_isEmpty, .instanceMethod yXA_isEmpty, .selects "java/util/ArrayList" yXA_isEmpty yXA_isEmpty, .code yXA_isEmpty cXA_isEmpty 1 (some .boolean), .methodLink "WideStore" 102 yXS_greatestTier, .instanceMethod yXS_greatestTier, .code yXS_greatestTier cXS_greatestTier 3 (some .int), .methodLink "WideStoreLaw" 63 yXS_sync, .instanceMethod yXS_sync, .selects "WideStore" yXS_sync yXS_sync, .code yXS_sync cXS_sync 1 (some .int), .methodLink "WideStoreLaw" 67 yXS_crash, .instanceMethod yXS_crash, .selects "WideStore" yXS_crash yXS_crash, .code yXS_crash cXS_crash 2 (some .int), .methodLink "WideStore" 110 yXT_clearSlots, .instanceMethod yXT_clearSlots, .selects "WideStore$Table" yXT_clearSlots yXT_clearSlots, .code yXT_clearSlots cXT_clearSlots 2 none]
def AL_8 : List Cond := [.methodLink "WideStoreLaw" 71 yXS_tick, .instanceMethod yXS_tick, .selects "WideStore" yXS_tick yXS_tick, .code yXS_tick cXS_tick 2 (some .int), .methodLink "WideStoreLaw" 75 yXS_count, .instanceMethod yXS_count, .selects "WideStore" yXS_count yXS_count, .code yXS_count cXS_count 2 (some .int), .methodLink "WideStoreLaw" 79 yXS_run, .instanceMethod yXS_run, .selects "WideStore" yXS_run yXS_run, .code yXS_run cXS_run 4 (some .int), .methodLink "WideStoreLaw" 9 yXL_cell, .static yXL_cell, .code yXL_cell cXL_cell 2 (some .int), .classLink "WideStoreLaw" 18 "WideStoreModel", .instantiable "WideStoreModel" 16, .methodLink "WideStoreLaw" 20 yXM_init, .instanceMethod yXM_init, .code yXM_init cXM_init 3 none, .methodLink "WideStoreModel" 1 objectInit, .fieldLink "WideStoreModel" 31 "WideStoreModel" "cap" "I", .fieldLink "WideStoreModel" 35 "WideStoreModel" "grace" "I", .fieldLink "WideStoreModel" 75 "WideStoreModel" "now" "I", .fieldLink "WideStoreModel" 42 "WideStoreModel" "memories" "I", .fieldLink "WideStoreModel" 7 "WideStoreModel" "memory" "[I", .fieldLink "WideStoreModel" 56 "WideStoreModel" "logs" "I", .fieldLink "WideStoreModel" 91 "WideStoreModel" "safe" "I", .fieldLink "WideStoreModel" 13 "WideStoreModel" "log" "[I", .fieldLink "WideStoreModel" 85 "WideStoreModel" "flushed" "I", .fieldLink "WideStoreModel" 16 "WideStoreModel" "entry" "[I", .fieldLink "WideStoreModel" 19 "WideStoreModel" "runOf" "[I", .fieldLink "WideStoreModel" 88 "WideStoreModel" "runs" "I", .fieldLink "WideStoreModel" 82 "WideStoreModel" "marks" "I", .fieldLink "WideStoreModel" 22 "WideStoreModel" "mark" "[I", .fieldLink "WideStoreModel" 25 "WideStoreModel" "tier" "[I", .fieldLink "WideStoreModel" 28 "WideStoreModel" "cell" "[I", .laysFinal "WideStoreModel" "WideStoreModel" "cap" "I", .laysFinal "WideStoreModel" "WideStoreModel" "grace" "I", .lays "WideStoreModel" "WideStoreModel" "now" "I"]
def AL_9 : List Cond := [.lays "WideStoreModel" "WideStoreModel" "memories" "I", .laysFinal "WideStoreModel" "WideStoreModel" "memory" "[I", .lays "WideStoreModel" "WideStoreModel" "logs" "I", .lays "WideStoreModel" "WideStoreModel" "safe" "I", .laysFinal "WideStoreModel" "WideStoreModel" "log" "[I", .lays "WideStoreModel" "WideStoreModel" "flushed" "I", .laysFinal "WideStoreModel" "WideStoreModel" "entry" "[I", .laysFinal "WideStoreModel" "WideStoreModel" "runOf" "[I", .lays "WideStoreModel" "WideStoreModel" "runs" "I", .lays "WideStoreModel" "WideStoreModel" "marks" "I", .laysFinal "WideStoreModel" "WideStoreModel" "mark" "[I", .laysFinal "WideStoreModel" "WideStoreModel" "tier" "[I", .laysFinal "WideStoreModel" "WideStoreModel" "cell" "[I", .arrayClass .int, .methodLink "WideStoreLaw" 25 yXM_put, .instanceMethod yXM_put, .selects "WideStoreModel" yXM_put yXM_put, .code yXM_put cXM_put 6 (some .boolean), .methodLink "WideStoreModel" 67 yXM_isPlace, .static yXM_isPlace, .code yXM_isPlace cXM_isPlace 2 (some .boolean), .methodLink "WideStoreModel" 71 yXM_isStamp, .static yXM_isStamp, .code yXM_isStamp cXM_isStamp 1 (some .boolean), .methodLink "WideStoreModel" 78 yXM_add, .instanceMethod yXM_add, .code yXM_add cXM_add 10 (some .boolean), .methodLink "WideStoreModel" 59 yXM_remember, .instanceMethod yXM_remember, .code yXM_remember cXM_remember 3 none, .methodLink "WideStoreModel" 45 yXM_alike, .static yXM_alike, .code yXM_alike cXM_alike 5 (some .boolean), .methodLink "WideStoreModel" 38 yXM_point, .static yXM_point, .code yXM_point cXM_point 2 (some .boolean), .methodLink "WideStoreModel" 49 yXM_wins, .static yXM_wins, .code yXM_wins cXM_wins 4 (some .boolean), .methodLink "WideStoreModel" 52 yXM_copy]
def AL_10 : List Cond := [.static yXM_copy, .code yXM_copy cXM_copy 5 none, .methodLink "WideStoreModel" 63 yXM_flushAll, .instanceMethod yXM_flushAll, .code yXM_flushAll cXM_flushAll 3 (some .int), .methodLink "WideStoreModel" 94 yXM_join, .instanceMethod yXM_join, .code yXM_join cXM_join 8 none, .methodLink "WideStoreModel" 98 yXM_covers, .static yXM_covers, .code yXM_covers cXM_covers 5 (some .boolean), .methodLink "WideStoreLaw" 30 yXM_delete, .instanceMethod yXM_delete, .selects "WideStoreModel" yXM_delete yXM_delete, .code yXM_delete cXM_delete 4 (some .boolean), .methodLink "WideStoreLaw" 35 yXM_wipe, .instanceMethod yXM_wipe, .selects "WideStoreModel" yXM_wipe yXM_wipe, .code yXM_wipe cXM_wipe 5 (some .boolean), .methodLink "WideStoreLaw" 58 yXM_flush, .instanceMethod yXM_flush, .selects "WideStoreModel" yXM_flush yXM_flush, .code yXM_flush cXM_flush 1 (some .int), .methodLink "WideStoreLaw" 62 yXM_merge, .instanceMethod yXM_merge, .selects "WideStoreModel" yXM_merge yXM_merge, .code yXM_merge cXM_merge 3 (some .int), .methodLink "WideStoreModel" 102 yXM_run, .instanceMethod yXM_run, .selects "WideStoreModel" yXM_run yXM_run, .code yXM_run cXM_run 5 (some .int), .methodLink "WideStoreLaw" 40 yXM_get, .instanceMethod yXM_get, .selects "WideStoreModel" yXM_get yXM_get, .code yXM_get cXM_get 3 (some .int), .methodLink "WideStoreModel" 110 yXM_seen, .instanceMethod yXM_seen, .code yXM_seen cXM_seen 5 (some .boolean), .methodLink "WideStoreModel" 107 yXM_winner, .instanceMethod yXM_winner]
def AL_11 : List Cond := [.code yXM_winner cXM_winner 6 (some .int), .constant "WideStoreModel" 106 (-1000000), .methodLink "WideStoreLaw" 44 yXM_stamp, .instanceMethod yXM_stamp, .selects "WideStoreModel" yXM_stamp yXM_stamp, .code yXM_stamp cXM_stamp 3 (some .int), .methodLink "WideStoreLaw" 48 yXM_next, .instanceMethod yXM_next, .selects "WideStoreModel" yXM_next yXM_next, .code yXM_next cXM_next 4 (some .int), .methodLink "WideStoreLaw" 53 yXM_nextRow, .instanceMethod yXM_nextRow, .selects "WideStoreModel" yXM_nextRow yXM_nextRow, .code yXM_nextRow cXM_nextRow 3 (some .int), .methodLink "WideStoreModel" 113 yXM_next, .methodLink "WideStoreLaw" 66 yXM_sync, .instanceMethod yXM_sync, .selects "WideStoreModel" yXM_sync yXM_sync, .code yXM_sync cXM_sync 1 (some .int), .methodLink "WideStoreLaw" 70 yXM_crash, .instanceMethod yXM_crash, .selects "WideStoreModel" yXM_crash yXM_crash, .code yXM_crash cXM_crash 2 (some .int), .methodLink "WideStoreLaw" 74 yXM_tick, .instanceMethod yXM_tick, .selects "WideStoreModel" yXM_tick yXM_tick, .code yXM_tick cXM_tick 2 (some .int), .methodLink "WideStoreLaw" 78 yXM_count, .instanceMethod yXM_count, .selects "WideStoreModel" yXM_count yXM_count, .code yXM_count cXM_count 2 (some .int), .methodLink "WideStoreLaw" 82 yXM_run, .selects "[Ljava/lang/Object;" ⟨"java/lang/Object", "getClass", "()Ljava/lang/Class;"⟩ ⟨"java/lang/Object", "getClass", "()Ljava/lang/Class;"⟩]
def AL : List Cond := AL_0 ++ (AL_1 ++ (AL_2 ++ (AL_3 ++ (AL_4 ++ (AL_5 ++ (AL_6 ++ (AL_7 ++ (AL_8 ++ (AL_9 ++ (AL_10 ++ (AL_11)))))))))))
theorem AL_0_good : AL_0.all goodWord = true := by decide +kernel
theorem AL_1_good : AL_1.all goodWord = true := by decide +kernel
theorem AL_2_good : AL_2.all goodWord = true := by decide +kernel
theorem AL_3_good : AL_3.all goodWord = true := by decide +kernel
theorem AL_4_good : AL_4.all goodWord = true := by decide +kernel
theorem AL_5_good : AL_5.all goodWord = true := by decide +kernel
theorem AL_6_good : AL_6.all goodWord = true := by decide +kernel
theorem AL_7_good : AL_7.all goodWord = true := by decide +kernel
theorem AL_8_good : AL_8.all goodWord = true := by decide +kernel
theorem AL_9_good : AL_9.all goodWord = true := by decide +kernel
theorem AL_10_good : AL_10.all goodWord = true := by decide +kernel
theorem AL_11_good : AL_11.all goodWord = true := by decide +kernel
theorem al_0 : (.selects yXS_addEntry.cls yXS_addEntry yXS_addEntry : Cond) ∈ AL := List.mem_append_left _ (show _ ∈ AL_0 from List.mem_of_getElem? (i := 0) rfl)
theorem al_1 : (.selects yXS_flushMemory.cls yXS_flushMemory yXS_flushMemory : Cond) ∈ AL := List.mem_append_left _ (show _ ∈ AL_0 from List.mem_of_getElem? (i := 1) rfl)
theorem al_2 : (.selects yXA_addp.cls yXA_addp yXA_addp : Cond) ∈ AL := List.mem_append_left _ (show _ ∈ AL_0 from List.mem_of_getElem? (i := 2) rfl)
theorem al_3 : (.selects yXA_grow0.cls yXA_grow0 yXA_grow0 : Cond) ∈ AL := List.mem_append_left _ (show _ ∈ AL_0 from List.mem_of_getElem? (i := 3) rfl)
theorem al_4 : (.selects yXA_grow1.cls yXA_grow1 yXA_grow1 : Cond) ∈ AL := List.mem_append_left _ (show _ ∈ AL_0 from List.mem_of_getElem? (i := 4) rfl)
theorem al_5 : (.selects yXS_newestAreOfOneTier.cls yXS_newestAreOfOneTier yXS_newestAreOfOneTier : Cond) ∈ AL := List.mem_append_left _ (show _ ∈ AL_0 from List.mem_of_getElem? (i := 5) rfl)
theorem al_6 : (.selects yXS_mergeFrom.cls yXS_mergeFrom yXS_mergeFrom : Cond) ∈ AL := List.mem_append_left _ (show _ ∈ AL_0 from List.mem_of_getElem? (i := 6) rfl)
theorem al_7 : (.selects yXT_dropEntry.cls yXT_dropEntry yXT_dropEntry : Cond) ∈ AL := List.mem_append_left _ (show _ ∈ AL_0 from List.mem_of_getElem? (i := 7) rfl)
theorem al_8 : (.selects yXA_fastRemove.cls yXA_fastRemove yXA_fastRemove : Cond) ∈ AL := List.mem_append_left _ (show _ ∈ AL_0 from List.mem_of_getElem? (i := 8) rfl)
theorem al_9 : (.selects yXS_seenCell.cls yXS_seenCell yXS_seenCell : Cond) ∈ AL := List.mem_append_left _ (show _ ∈ AL_0 from List.mem_of_getElem? (i := 9) rfl)
theorem al_10 : (.selects yXS_winningPoint.cls yXS_winningPoint yXS_winningPoint : Cond) ∈ AL := List.mem_append_left _ (show _ ∈ AL_0 from List.mem_of_getElem? (i := 10) rfl)
theorem al_11 : (.selects yXS_isCovered.cls yXS_isCovered yXS_isCovered : Cond) ∈ AL := List.mem_append_left _ (show _ ∈ AL_0 from List.mem_of_getElem? (i := 11) rfl)
theorem al_12 : (.selects yXS_greatestTier.cls yXS_greatestTier yXS_greatestTier : Cond) ∈ AL := List.mem_append_left _ (show _ ∈ AL_0 from List.mem_of_getElem? (i := 12) rfl)
theorem al_13 : (.selects yXM_add.cls yXM_add yXM_add : Cond) ∈ AL := List.mem_append_left _ (show _ ∈ AL_0 from List.mem_of_getElem? (i := 13) rfl)
theorem al_14 : (.selects yXM_remember.cls yXM_remember yXM_remember : Cond) ∈ AL := List.mem_append_left _ (show _ ∈ AL_0 from List.mem_of_getElem? (i := 14) rfl)
theorem al_15 : (.selects yXM_flushAll.cls yXM_flushAll yXM_flushAll : Cond) ∈ AL := List.mem_append_left _ (show _ ∈ AL_0 from List.mem_of_getElem? (i := 15) rfl)
theorem al_16 : (.selects yXM_join.cls yXM_join yXM_join : Cond) ∈ AL := List.mem_append_left _ (show _ ∈ AL_0 from List.mem_of_getElem? (i := 16) rfl)
theorem al_17 : (.selects yXM_seen.cls yXM_seen yXM_seen : Cond) ∈ AL := List.mem_append_left _ (show _ ∈ AL_0 from List.mem_of_getElem? (i := 17) rfl)
theorem al_18 : (.selects yXM_winner.cls yXM_winner yXM_winner : Cond) ∈ AL := List.mem_append_left _ (show _ ∈ AL_0 from List.mem_of_getElem? (i := 18) rfl)
theorem al_19 : (.initialized "WideStoreLaw" : Cond) ∈ AL := List.mem_append_left _ (show _ ∈ AL_0 from List.mem_of_getElem? (i := 19) rfl)
theorem al_20 : (.initialized "WideStore" : Cond) ∈ AL := List.mem_append_left _ (show _ ∈ AL_0 from List.mem_of_getElem? (i := 20) rfl)
theorem al_21 : (.initialized "java/lang/Math" : Cond) ∈ AL := List.mem_append_left _ (show _ ∈ AL_0 from List.mem_of_getElem? (i := 21) rfl)
theorem al_22 : (.initialized "java/util/AbstractCollection" : Cond) ∈ AL := List.mem_append_left _ (show _ ∈ AL_0 from List.mem_of_getElem? (i := 22) rfl)
theorem al_23 : (.initialized "java/util/AbstractList" : Cond) ∈ AL := List.mem_append_left _ (show _ ∈ AL_0 from List.mem_of_getElem? (i := 23) rfl)
theorem al_24 : (.initialized "java/util/ArrayList" : Cond) ∈ AL := List.mem_append_left _ (show _ ∈ AL_0 from List.mem_of_getElem? (i := 24) rfl)
theorem al_25 : (.initialized "WideStore$Table" : Cond) ∈ AL := List.mem_append_left _ (show _ ∈ AL_0 from List.mem_of_getElem? (i := 25) rfl)
theorem al_26 : (.initialized "WideStoreModel" : Cond) ∈ AL := List.mem_append_left _ (show _ ∈ AL_0 from List.mem_of_getElem? (i := 26) rfl)
theorem al_27 : (.initialized "WideStore$Entry" : Cond) ∈ AL := List.mem_append_left _ (show _ ∈ AL_0 from List.mem_of_getElem? (i := 27) rfl)
theorem al_28 : (.initialized "jdk/internal/util/ArraysSupport" : Cond) ∈ AL := List.mem_append_left _ (show _ ∈ AL_0 from List.mem_of_getElem? (i := 28) rfl)
theorem al_29 : (.initialized "java/util/Arrays" : Cond) ∈ AL := List.mem_append_left _ (show _ ∈ AL_0 from List.mem_of_getElem? (i := 29) rfl)
theorem al_30 : (.initialized "java/lang/System" : Cond) ∈ AL := List.mem_append_left _ (show _ ∈ AL_0 from List.mem_of_getElem? (i := 30) rfl)
theorem al_31 : (.initialized "java/util/Objects" : Cond) ∈ AL := List.mem_append_left _ (show _ ∈ AL_0 from List.mem_of_getElem? (i := 31) rfl)
theorem al_32 : (.initialized "jdk/internal/util/Preconditions" : Cond) ∈ AL := List.mem_append_left _ (show _ ∈ AL_0 from List.mem_of_getElem? (i := 32) rfl)
theorem al_33 : (.classLink "WideStoreLaw" 7 "WideStore" : Cond) ∈ AL := List.mem_append_left _ (show _ ∈ AL_0 from List.mem_of_getElem? (i := 33) rfl)
theorem al_34 : (.instantiable "WideStore" 8 : Cond) ∈ AL := List.mem_append_left _ (show _ ∈ AL_0 from List.mem_of_getElem? (i := 34) rfl)
theorem al_35 : (.methodLink "WideStoreLaw" 15 yXS_init : Cond) ∈ AL := List.mem_append_left _ (show _ ∈ AL_0 from List.mem_of_getElem? (i := 35) rfl)
theorem al_36 : (.instanceMethod yXS_init : Cond) ∈ AL := List.mem_append_left _ (show _ ∈ AL_0 from List.mem_of_getElem? (i := 36) rfl)
theorem al_37 : (.code yXS_init cXS_init 3 none : Cond) ∈ AL := List.mem_append_left _ (show _ ∈ AL_0 from List.mem_of_getElem? (i := 37) rfl)
theorem al_38 : (.methodLink "WideStore" 3 objectInit : Cond) ∈ AL := List.mem_append_left _ (show _ ∈ AL_0 from List.mem_of_getElem? (i := 38) rfl)
theorem al_39 : (.instanceMethod objectInit : Cond) ∈ AL := List.mem_append_left _ (show _ ∈ AL_0 from List.mem_of_getElem? (i := 39) rfl)
theorem al_40 : (.code objectInit ⟨#[0xb1]⟩ 1 none : Cond) ∈ AL := List.mem_append_right _ (List.mem_append_left _ (show _ ∈ AL_1 from List.mem_of_getElem? (i := 0) rfl))
theorem al_41 : (.methodLink "WideStore" 9 Lib.Math.min.name : Cond) ∈ AL := List.mem_append_right _ (List.mem_append_left _ (show _ ∈ AL_1 from List.mem_of_getElem? (i := 1) rfl))
theorem al_42 : (.static Lib.Math.min.name : Cond) ∈ AL := List.mem_append_right _ (List.mem_append_left _ (show _ ∈ AL_1 from List.mem_of_getElem? (i := 2) rfl))
theorem al_43 : (.code Lib.Math.min.name Lib.Math.min.code 2 (some .int) : Cond) ∈ AL := List.mem_append_right _ (List.mem_append_left _ (show _ ∈ AL_1 from List.mem_of_getElem? (i := 3) rfl))
theorem al_44 : (.methodLink "WideStore" 15 Lib.Math.max.name : Cond) ∈ AL := List.mem_append_right _ (List.mem_append_left _ (show _ ∈ AL_1 from List.mem_of_getElem? (i := 4) rfl))
theorem al_45 : (.static Lib.Math.max.name : Cond) ∈ AL := List.mem_append_right _ (List.mem_append_left _ (show _ ∈ AL_1 from List.mem_of_getElem? (i := 5) rfl))
theorem al_46 : (.code Lib.Math.max.name Lib.Math.max.code 2 (some .int) : Cond) ∈ AL := List.mem_append_right _ (List.mem_append_left _ (show _ ∈ AL_1 from List.mem_of_getElem? (i := 6) rfl))
theorem al_47 : (.classLink "WideStore" 25 "WideStore$Entry" : Cond) ∈ AL := List.mem_append_right _ (List.mem_append_left _ (show _ ∈ AL_1 from List.mem_of_getElem? (i := 7) rfl))
theorem al_48 : (.classLink "WideStore" 31 "java/util/ArrayList" : Cond) ∈ AL := List.mem_append_right _ (List.mem_append_left _ (show _ ∈ AL_1 from List.mem_of_getElem? (i := 8) rfl))
theorem al_49 : (.instantiable "java/util/ArrayList" 3 : Cond) ∈ AL := List.mem_append_right _ (List.mem_append_left _ (show _ ∈ AL_1 from List.mem_of_getElem? (i := 9) rfl))
theorem al_50 : (.methodLink "WideStore" 33 yXA_init : Cond) ∈ AL := List.mem_append_right _ (List.mem_append_left _ (show _ ∈ AL_1 from List.mem_of_getElem? (i := 10) rfl))
theorem al_51 : (.instanceMethod yXA_init : Cond) ∈ AL := List.mem_append_right _ (List.mem_append_left _ (show _ ∈ AL_1 from List.mem_of_getElem? (i := 11) rfl))
theorem al_52 : (.code yXA_init cXA_init 1 none : Cond) ∈ AL := List.mem_append_right _ (List.mem_append_left _ (show _ ∈ AL_1 from List.mem_of_getElem? (i := 12) rfl))
theorem al_53 : (.methodLink "java/util/ArrayList" 1 yXB_init : Cond) ∈ AL := List.mem_append_right _ (List.mem_append_left _ (show _ ∈ AL_1 from List.mem_of_getElem? (i := 13) rfl))
theorem al_54 : (.instanceMethod yXB_init : Cond) ∈ AL := List.mem_append_right _ (List.mem_append_left _ (show _ ∈ AL_1 from List.mem_of_getElem? (i := 14) rfl))
theorem al_55 : (.code yXB_init cXB_init 1 none : Cond) ∈ AL := List.mem_append_right _ (List.mem_append_left _ (show _ ∈ AL_1 from List.mem_of_getElem? (i := 15) rfl))
theorem al_56 : (.methodLink "java/util/AbstractList" 1 yXC_init : Cond) ∈ AL := List.mem_append_right _ (List.mem_append_left _ (show _ ∈ AL_1 from List.mem_of_getElem? (i := 16) rfl))
theorem al_57 : (.instanceMethod yXC_init : Cond) ∈ AL := List.mem_append_right _ (List.mem_append_left _ (show _ ∈ AL_1 from List.mem_of_getElem? (i := 17) rfl))
theorem al_58 : (.code yXC_init cXC_init 1 none : Cond) ∈ AL := List.mem_append_right _ (List.mem_append_left _ (show _ ∈ AL_1 from List.mem_of_getElem? (i := 18) rfl))
theorem al_59 : (.methodLink "java/util/AbstractCollection" 1 objectInit : Cond) ∈ AL := List.mem_append_right _ (List.mem_append_left _ (show _ ∈ AL_1 from List.mem_of_getElem? (i := 19) rfl))
theorem al_60 : (.fieldLink "java/util/ArrayList" 39 "java/util/ArrayList" "DEFAULTCAPACITY_EMPTY_ELEMENTDATA" "[Ljava/lang/Object;" : Cond) ∈ AL := List.mem_append_right _ (List.mem_append_left _ (show _ ∈ AL_1 from List.mem_of_getElem? (i := 20) rfl))
theorem al_61 : (.fieldLink "java/util/ArrayList" 9 "java/util/ArrayList" "elementData" "[Ljava/lang/Object;" : Cond) ∈ AL := List.mem_append_right _ (List.mem_append_left _ (show _ ∈ AL_1 from List.mem_of_getElem? (i := 21) rfl))
theorem al_62 : (.fieldLink "java/util/ArrayList" 48 "java/util/ArrayList" "size" "I" : Cond) ∈ AL := List.mem_append_right _ (List.mem_append_left _ (show _ ∈ AL_1 from List.mem_of_getElem? (i := 22) rfl))
theorem al_63 : (.fieldLink "java/util/AbstractList" 7 "java/util/AbstractList" "modCount" "I" : Cond) ∈ AL := List.mem_append_right _ (List.mem_append_left _ (show _ ∈ AL_1 from List.mem_of_getElem? (i := 23) rfl))
theorem al_64 : (.fieldLink "java/util/ArrayList" 63 "java/util/ArrayList" "modCount" "I" : Cond) ∈ AL := List.mem_append_right _ (List.mem_append_left _ (show _ ∈ AL_1 from List.mem_of_getElem? (i := 24) rfl))
theorem al_65 : (.sameField "java/util/ArrayList" "java/util/AbstractList" "modCount" "I" : Cond) ∈ AL := List.mem_append_right _ (List.mem_append_left _ (show _ ∈ AL_1 from List.mem_of_getElem? (i := 25) rfl))
theorem al_66 : (.lays "java/util/ArrayList" "java/util/ArrayList" "elementData" "[Ljava/lang/Object;" : Cond) ∈ AL := List.mem_append_right _ (List.mem_append_left _ (show _ ∈ AL_1 from List.mem_of_getElem? (i := 26) rfl))
theorem al_67 : (.lays "java/util/ArrayList" "java/util/ArrayList" "size" "I" : Cond) ∈ AL := List.mem_append_right _ (List.mem_append_left _ (show _ ∈ AL_1 from List.mem_of_getElem? (i := 27) rfl))
theorem al_68 : (.lays "java/util/ArrayList" "java/util/AbstractList" "modCount" "I" : Cond) ∈ AL := List.mem_append_right _ (List.mem_append_left _ (show _ ∈ AL_1 from List.mem_of_getElem? (i := 28) rfl))
theorem al_69 : (.classLink "WideStore" 38 "WideStore$Table" : Cond) ∈ AL := List.mem_append_right _ (List.mem_append_left _ (show _ ∈ AL_1 from List.mem_of_getElem? (i := 29) rfl))
theorem al_70 : (.instantiable "WideStore$Table" 4 : Cond) ∈ AL := List.mem_append_right _ (List.mem_append_left _ (show _ ∈ AL_1 from List.mem_of_getElem? (i := 30) rfl))
theorem al_71 : (.methodLink "WideStore" 40 yXT_init : Cond) ∈ AL := List.mem_append_right _ (List.mem_append_left _ (show _ ∈ AL_1 from List.mem_of_getElem? (i := 31) rfl))
theorem al_72 : (.instanceMethod yXT_init : Cond) ∈ AL := List.mem_append_right _ (List.mem_append_left _ (show _ ∈ AL_1 from List.mem_of_getElem? (i := 32) rfl))
theorem al_73 : (.code yXT_init cXT_init 2 none : Cond) ∈ AL := List.mem_append_right _ (List.mem_append_left _ (show _ ∈ AL_1 from List.mem_of_getElem? (i := 33) rfl))
theorem al_74 : (.methodLink "WideStore$Table" 3 objectInit : Cond) ∈ AL := List.mem_append_right _ (List.mem_append_left _ (show _ ∈ AL_1 from List.mem_of_getElem? (i := 34) rfl))
theorem al_75 : (.classLink "WideStore$Table" 15 "WideStore$Entry" : Cond) ∈ AL := List.mem_append_right _ (List.mem_append_left _ (show _ ∈ AL_1 from List.mem_of_getElem? (i := 35) rfl))
theorem al_76 : (.fieldLink "WideStore$Table" 9 "WideStore$Table" "tier" "I" : Cond) ∈ AL := List.mem_append_right _ (List.mem_append_left _ (show _ ∈ AL_1 from List.mem_of_getElem? (i := 36) rfl))
theorem al_77 : (.fieldLink "WideStore" 123 "WideStore$Table" "tier" "I" : Cond) ∈ AL := List.mem_append_right _ (List.mem_append_left _ (show _ ∈ AL_1 from List.mem_of_getElem? (i := 37) rfl))
theorem al_78 : (.fieldLink "WideStore$Table" 17 "WideStore$Table" "slots" "[LWideStore$Entry;" : Cond) ∈ AL := List.mem_append_right _ (List.mem_append_left _ (show _ ∈ AL_1 from List.mem_of_getElem? (i := 38) rfl))
theorem al_79 : (.fieldLink "WideStore$Table" 21 "WideStore$Table" "size" "I" : Cond) ∈ AL := List.mem_append_right _ (List.mem_append_left _ (show _ ∈ AL_1 from List.mem_of_getElem? (i := 39) rfl))
theorem al_80 : (.fieldLink "WideStore" 92 "WideStore$Table" "size" "I" : Cond) ∈ AL := List.mem_append_right _ (List.mem_append_right _ (List.mem_append_left _ (show _ ∈ AL_2 from List.mem_of_getElem? (i := 0) rfl)))
theorem al_81 : (.fieldLink "WideStore$Table" 24 "WideStore$Table" "wipes" "I" : Cond) ∈ AL := List.mem_append_right _ (List.mem_append_right _ (List.mem_append_left _ (show _ ∈ AL_2 from List.mem_of_getElem? (i := 1) rfl)))
theorem al_82 : (.fieldLink "WideStore" 126 "WideStore$Table" "wipes" "I" : Cond) ∈ AL := List.mem_append_right _ (List.mem_append_right _ (List.mem_append_left _ (show _ ∈ AL_2 from List.mem_of_getElem? (i := 2) rfl)))
theorem al_83 : (.laysFinal "WideStore$Table" "WideStore$Table" "tier" "I" : Cond) ∈ AL := List.mem_append_right _ (List.mem_append_right _ (List.mem_append_left _ (show _ ∈ AL_2 from List.mem_of_getElem? (i := 3) rfl)))
theorem al_84 : (.laysFinal "WideStore$Table" "WideStore$Table" "slots" "[LWideStore$Entry;" : Cond) ∈ AL := List.mem_append_right _ (List.mem_append_right _ (List.mem_append_left _ (show _ ∈ AL_2 from List.mem_of_getElem? (i := 4) rfl)))
theorem al_85 : (.lays "WideStore$Table" "WideStore$Table" "size" "I" : Cond) ∈ AL := List.mem_append_right _ (List.mem_append_right _ (List.mem_append_left _ (show _ ∈ AL_2 from List.mem_of_getElem? (i := 5) rfl)))
theorem al_86 : (.lays "WideStore$Table" "WideStore$Table" "wipes" "I" : Cond) ∈ AL := List.mem_append_right _ (List.mem_append_right _ (List.mem_append_left _ (show _ ∈ AL_2 from List.mem_of_getElem? (i := 6) rfl)))
theorem al_87 : (.fieldLink "WideStore" 18 "WideStore" "cap" "I" : Cond) ∈ AL := List.mem_append_right _ (List.mem_append_right _ (List.mem_append_left _ (show _ ∈ AL_2 from List.mem_of_getElem? (i := 7) rfl)))
theorem al_88 : (.fieldLink "WideStore" 22 "WideStore" "grace" "I" : Cond) ∈ AL := List.mem_append_right _ (List.mem_append_right _ (List.mem_append_left _ (show _ ∈ AL_2 from List.mem_of_getElem? (i := 8) rfl)))
theorem al_89 : (.fieldLink "WideStore" 27 "WideStore" "log" "[LWideStore$Entry;" : Cond) ∈ AL := List.mem_append_right _ (List.mem_append_right _ (List.mem_append_left _ (show _ ∈ AL_2 from List.mem_of_getElem? (i := 9) rfl)))
theorem al_90 : (.fieldLink "WideStore" 34 "WideStore" "runs" "Ljava/util/ArrayList;" : Cond) ∈ AL := List.mem_append_right _ (List.mem_append_right _ (List.mem_append_left _ (show _ ∈ AL_2 from List.mem_of_getElem? (i := 10) rfl)))
theorem al_91 : (.fieldLink "WideStore" 43 "WideStore" "memory" "LWideStore$Table;" : Cond) ∈ AL := List.mem_append_right _ (List.mem_append_right _ (List.mem_append_left _ (show _ ∈ AL_2 from List.mem_of_getElem? (i := 11) rfl)))
theorem al_92 : (.fieldLink "WideStore" 47 "WideStore" "logSize" "I" : Cond) ∈ AL := List.mem_append_right _ (List.mem_append_right _ (List.mem_append_left _ (show _ ∈ AL_2 from List.mem_of_getElem? (i := 12) rfl)))
theorem al_93 : (.fieldLink "WideStore" 50 "WideStore" "safeSize" "I" : Cond) ∈ AL := List.mem_append_right _ (List.mem_append_right _ (List.mem_append_left _ (show _ ∈ AL_2 from List.mem_of_getElem? (i := 13) rfl)))
theorem al_94 : (.fieldLink "WideStore" 53 "WideStore" "now" "I" : Cond) ∈ AL := List.mem_append_right _ (List.mem_append_right _ (List.mem_append_left _ (show _ ∈ AL_2 from List.mem_of_getElem? (i := 14) rfl)))
theorem al_95 : (.laysFinal "WideStore" "WideStore" "cap" "I" : Cond) ∈ AL := List.mem_append_right _ (List.mem_append_right _ (List.mem_append_left _ (show _ ∈ AL_2 from List.mem_of_getElem? (i := 15) rfl)))
theorem al_96 : (.laysFinal "WideStore" "WideStore" "grace" "I" : Cond) ∈ AL := List.mem_append_right _ (List.mem_append_right _ (List.mem_append_left _ (show _ ∈ AL_2 from List.mem_of_getElem? (i := 16) rfl)))
theorem al_97 : (.laysFinal "WideStore" "WideStore" "log" "[LWideStore$Entry;" : Cond) ∈ AL := List.mem_append_right _ (List.mem_append_right _ (List.mem_append_left _ (show _ ∈ AL_2 from List.mem_of_getElem? (i := 17) rfl)))
theorem al_98 : (.laysFinal "WideStore" "WideStore" "runs" "Ljava/util/ArrayList;" : Cond) ∈ AL := List.mem_append_right _ (List.mem_append_right _ (List.mem_append_left _ (show _ ∈ AL_2 from List.mem_of_getElem? (i := 18) rfl)))
theorem al_99 : (.lays "WideStore" "WideStore" "memory" "LWideStore$Table;" : Cond) ∈ AL := List.mem_append_right _ (List.mem_append_right _ (List.mem_append_left _ (show _ ∈ AL_2 from List.mem_of_getElem? (i := 19) rfl)))
theorem al_100 : (.lays "WideStore" "WideStore" "logSize" "I" : Cond) ∈ AL := List.mem_append_right _ (List.mem_append_right _ (List.mem_append_left _ (show _ ∈ AL_2 from List.mem_of_getElem? (i := 20) rfl)))
theorem al_101 : (.lays "WideStore" "WideStore" "safeSize" "I" : Cond) ∈ AL := List.mem_append_right _ (List.mem_append_right _ (List.mem_append_left _ (show _ ∈ AL_2 from List.mem_of_getElem? (i := 21) rfl)))
theorem al_102 : (.lays "WideStore" "WideStore" "now" "I" : Cond) ∈ AL := List.mem_append_right _ (List.mem_append_right _ (List.mem_append_left _ (show _ ∈ AL_2 from List.mem_of_getElem? (i := 22) rfl)))
theorem al_103 : (.methodLink "WideStoreLaw" 21 yXS_put : Cond) ∈ AL := List.mem_append_right _ (List.mem_append_right _ (List.mem_append_left _ (show _ ∈ AL_2 from List.mem_of_getElem? (i := 23) rfl)))
theorem al_104 : (.instanceMethod yXS_put : Cond) ∈ AL := List.mem_append_right _ (List.mem_append_right _ (List.mem_append_left _ (show _ ∈ AL_2 from List.mem_of_getElem? (i := 24) rfl)))
theorem al_105 : (.selects "WideStore" yXS_put yXS_put : Cond) ∈ AL := List.mem_append_right _ (List.mem_append_right _ (List.mem_append_left _ (show _ ∈ AL_2 from List.mem_of_getElem? (i := 25) rfl)))
theorem al_106 : (.code yXS_put cXS_put 7 (some .boolean) : Cond) ∈ AL := List.mem_append_right _ (List.mem_append_right _ (List.mem_append_left _ (show _ ∈ AL_2 from List.mem_of_getElem? (i := 26) rfl)))
theorem al_107 : (.methodLink "WideStore" 56 yXS_isPlace : Cond) ∈ AL := List.mem_append_right _ (List.mem_append_right _ (List.mem_append_left _ (show _ ∈ AL_2 from List.mem_of_getElem? (i := 27) rfl)))
theorem al_108 : (.static yXS_isPlace : Cond) ∈ AL := List.mem_append_right _ (List.mem_append_right _ (List.mem_append_left _ (show _ ∈ AL_2 from List.mem_of_getElem? (i := 28) rfl)))
theorem al_109 : (.code yXS_isPlace cXS_isPlace 2 (some .boolean) : Cond) ∈ AL := List.mem_append_right _ (List.mem_append_right _ (List.mem_append_left _ (show _ ∈ AL_2 from List.mem_of_getElem? (i := 29) rfl)))
theorem al_110 : (.methodLink "WideStore" 60 yXS_isStamp : Cond) ∈ AL := List.mem_append_right _ (List.mem_append_right _ (List.mem_append_left _ (show _ ∈ AL_2 from List.mem_of_getElem? (i := 30) rfl)))
theorem al_111 : (.static yXS_isStamp : Cond) ∈ AL := List.mem_append_right _ (List.mem_append_right _ (List.mem_append_left _ (show _ ∈ AL_2 from List.mem_of_getElem? (i := 31) rfl)))
theorem al_112 : (.code yXS_isStamp cXS_isStamp 1 (some .boolean) : Cond) ∈ AL := List.mem_append_right _ (List.mem_append_right _ (List.mem_append_left _ (show _ ∈ AL_2 from List.mem_of_getElem? (i := 32) rfl)))
theorem al_113 : (.constant "WideStore" 64 2147483647 : Cond) ∈ AL := List.mem_append_right _ (List.mem_append_right _ (List.mem_append_left _ (show _ ∈ AL_2 from List.mem_of_getElem? (i := 33) rfl)))
theorem al_114 : (.instantiable "WideStore$Entry" 5 : Cond) ∈ AL := List.mem_append_right _ (List.mem_append_right _ (List.mem_append_left _ (show _ ∈ AL_2 from List.mem_of_getElem? (i := 34) rfl)))
theorem al_115 : (.methodLink "WideStore" 65 yXS_pointSlot : Cond) ∈ AL := List.mem_append_right _ (List.mem_append_right _ (List.mem_append_left _ (show _ ∈ AL_2 from List.mem_of_getElem? (i := 35) rfl)))
theorem al_116 : (.static yXS_pointSlot : Cond) ∈ AL := List.mem_append_right _ (List.mem_append_right _ (List.mem_append_left _ (show _ ∈ AL_2 from List.mem_of_getElem? (i := 36) rfl)))
theorem al_117 : (.code yXS_pointSlot cXS_pointSlot 2 (some .int) : Cond) ∈ AL := List.mem_append_right _ (List.mem_append_right _ (List.mem_append_left _ (show _ ∈ AL_2 from List.mem_of_getElem? (i := 37) rfl)))
theorem al_118 : (.methodLink "WideStore" 68 yXE_init : Cond) ∈ AL := List.mem_append_right _ (List.mem_append_right _ (List.mem_append_left _ (show _ ∈ AL_2 from List.mem_of_getElem? (i := 38) rfl)))
theorem al_119 : (.instanceMethod yXE_init : Cond) ∈ AL := List.mem_append_right _ (List.mem_append_right _ (List.mem_append_left _ (show _ ∈ AL_2 from List.mem_of_getElem? (i := 39) rfl)))
theorem al_120 : (.code yXE_init cXE_init 6 none : Cond) ∈ AL := List.mem_append_right _ (List.mem_append_right _ (List.mem_append_right _ (List.mem_append_left _ (show _ ∈ AL_3 from List.mem_of_getElem? (i := 0) rfl))))
theorem al_121 : (.methodLink "WideStore$Entry" 1 objectInit : Cond) ∈ AL := List.mem_append_right _ (List.mem_append_right _ (List.mem_append_right _ (List.mem_append_left _ (show _ ∈ AL_3 from List.mem_of_getElem? (i := 1) rfl))))
theorem al_122 : (.fieldLink "WideStore$Entry" 7 "WideStore$Entry" "kind" "I" : Cond) ∈ AL := List.mem_append_right _ (List.mem_append_right _ (List.mem_append_right _ (List.mem_append_left _ (show _ ∈ AL_3 from List.mem_of_getElem? (i := 2) rfl))))
theorem al_123 : (.fieldLink "WideStore$Table" 34 "WideStore$Entry" "kind" "I" : Cond) ∈ AL := List.mem_append_right _ (List.mem_append_right _ (List.mem_append_right _ (List.mem_append_left _ (show _ ∈ AL_3 from List.mem_of_getElem? (i := 3) rfl))))
theorem al_124 : (.fieldLink "WideStore" 153 "WideStore$Entry" "kind" "I" : Cond) ∈ AL := List.mem_append_right _ (List.mem_append_right _ (List.mem_append_right _ (List.mem_append_left _ (show _ ∈ AL_3 from List.mem_of_getElem? (i := 4) rfl))))
theorem al_125 : (.fieldLink "WideStore$Entry" 13 "WideStore$Entry" "slot" "I" : Cond) ∈ AL := List.mem_append_right _ (List.mem_append_right _ (List.mem_append_right _ (List.mem_append_left _ (show _ ∈ AL_3 from List.mem_of_getElem? (i := 5) rfl))))
theorem al_126 : (.fieldLink "WideStore$Table" 31 "WideStore$Entry" "slot" "I" : Cond) ∈ AL := List.mem_append_right _ (List.mem_append_right _ (List.mem_append_right _ (List.mem_append_left _ (show _ ∈ AL_3 from List.mem_of_getElem? (i := 6) rfl))))
theorem al_127 : (.fieldLink "WideStore$Entry" 16 "WideStore$Entry" "stamp" "I" : Cond) ∈ AL := List.mem_append_right _ (List.mem_append_right _ (List.mem_append_right _ (List.mem_append_left _ (show _ ∈ AL_3 from List.mem_of_getElem? (i := 7) rfl))))
theorem al_128 : (.fieldLink "WideStore$Table" 49 "WideStore$Entry" "stamp" "I" : Cond) ∈ AL := List.mem_append_right _ (List.mem_append_right _ (List.mem_append_right _ (List.mem_append_left _ (show _ ∈ AL_3 from List.mem_of_getElem? (i := 8) rfl))))
theorem al_129 : (.fieldLink "WideStore" 86 "WideStore$Entry" "stamp" "I" : Cond) ∈ AL := List.mem_append_right _ (List.mem_append_right _ (List.mem_append_right _ (List.mem_append_left _ (show _ ∈ AL_3 from List.mem_of_getElem? (i := 9) rfl))))
theorem al_130 : (.fieldLink "WideStore$Entry" 19 "WideStore$Entry" "value" "I" : Cond) ∈ AL := List.mem_append_right _ (List.mem_append_right _ (List.mem_append_right _ (List.mem_append_left _ (show _ ∈ AL_3 from List.mem_of_getElem? (i := 10) rfl))))
theorem al_131 : (.fieldLink "WideStore" 83 "WideStore$Entry" "value" "I" : Cond) ∈ AL := List.mem_append_right _ (List.mem_append_right _ (List.mem_append_right _ (List.mem_append_left _ (show _ ∈ AL_3 from List.mem_of_getElem? (i := 11) rfl))))
theorem al_132 : (.fieldLink "WideStore$Entry" 22 "WideStore$Entry" "time" "I" : Cond) ∈ AL := List.mem_append_right _ (List.mem_append_right _ (List.mem_append_right _ (List.mem_append_left _ (show _ ∈ AL_3 from List.mem_of_getElem? (i := 12) rfl))))
theorem al_133 : (.fieldLink "WideStore$Table" 63 "WideStore$Entry" "time" "I" : Cond) ∈ AL := List.mem_append_right _ (List.mem_append_right _ (List.mem_append_right _ (List.mem_append_left _ (show _ ∈ AL_3 from List.mem_of_getElem? (i := 13) rfl))))
theorem al_134 : (.fieldLink "WideStore" 156 "WideStore$Entry" "time" "I" : Cond) ∈ AL := List.mem_append_right _ (List.mem_append_right _ (List.mem_append_right _ (List.mem_append_left _ (show _ ∈ AL_3 from List.mem_of_getElem? (i := 14) rfl))))
theorem al_135 : (.laysFinal "WideStore$Entry" "WideStore$Entry" "kind" "I" : Cond) ∈ AL := List.mem_append_right _ (List.mem_append_right _ (List.mem_append_right _ (List.mem_append_left _ (show _ ∈ AL_3 from List.mem_of_getElem? (i := 15) rfl))))
theorem al_136 : (.laysFinal "WideStore$Entry" "WideStore$Entry" "slot" "I" : Cond) ∈ AL := List.mem_append_right _ (List.mem_append_right _ (List.mem_append_right _ (List.mem_append_left _ (show _ ∈ AL_3 from List.mem_of_getElem? (i := 16) rfl))))
theorem al_137 : (.laysFinal "WideStore$Entry" "WideStore$Entry" "stamp" "I" : Cond) ∈ AL := List.mem_append_right _ (List.mem_append_right _ (List.mem_append_right _ (List.mem_append_left _ (show _ ∈ AL_3 from List.mem_of_getElem? (i := 17) rfl))))
theorem al_138 : (.laysFinal "WideStore$Entry" "WideStore$Entry" "value" "I" : Cond) ∈ AL := List.mem_append_right _ (List.mem_append_right _ (List.mem_append_right _ (List.mem_append_left _ (show _ ∈ AL_3 from List.mem_of_getElem? (i := 18) rfl))))
theorem al_139 : (.laysFinal "WideStore$Entry" "WideStore$Entry" "time" "I" : Cond) ∈ AL := List.mem_append_right _ (List.mem_append_right _ (List.mem_append_right _ (List.mem_append_left _ (show _ ∈ AL_3 from List.mem_of_getElem? (i := 19) rfl))))
theorem al_140 : (.methodLink "WideStore" 71 yXS_addEntry : Cond) ∈ AL := List.mem_append_right _ (List.mem_append_right _ (List.mem_append_right _ (List.mem_append_left _ (show _ ∈ AL_3 from List.mem_of_getElem? (i := 20) rfl))))
theorem al_141 : (.instanceMethod yXS_addEntry : Cond) ∈ AL := List.mem_append_right _ (List.mem_append_right _ (List.mem_append_right _ (List.mem_append_left _ (show _ ∈ AL_3 from List.mem_of_getElem? (i := 21) rfl))))
theorem al_142 : (.code yXS_addEntry cXS_addEntry 2 (some .boolean) : Cond) ∈ AL := List.mem_append_right _ (List.mem_append_right _ (List.mem_append_right _ (List.mem_append_left _ (show _ ∈ AL_3 from List.mem_of_getElem? (i := 22) rfl))))
theorem al_143 : (.methodLink "WideStore" 113 yXT_addWinner : Cond) ∈ AL := List.mem_append_right _ (List.mem_append_right _ (List.mem_append_right _ (List.mem_append_left _ (show _ ∈ AL_3 from List.mem_of_getElem? (i := 23) rfl))))
theorem al_144 : (.instanceMethod yXT_addWinner : Cond) ∈ AL := List.mem_append_right _ (List.mem_append_right _ (List.mem_append_right _ (List.mem_append_left _ (show _ ∈ AL_3 from List.mem_of_getElem? (i := 24) rfl))))
theorem al_145 : (.selects "WideStore$Table" yXT_addWinner yXT_addWinner : Cond) ∈ AL := List.mem_append_right _ (List.mem_append_right _ (List.mem_append_right _ (List.mem_append_left _ (show _ ∈ AL_3 from List.mem_of_getElem? (i := 25) rfl))))
theorem al_146 : (.code yXT_addWinner cXT_addWinner 3 none : Cond) ∈ AL := List.mem_append_right _ (List.mem_append_right _ (List.mem_append_right _ (List.mem_append_left _ (show _ ∈ AL_3 from List.mem_of_getElem? (i := 26) rfl))))
theorem al_147 : (.methodLink "WideStore$Table" 37 yXE_winsOver : Cond) ∈ AL := List.mem_append_right _ (List.mem_append_right _ (List.mem_append_right _ (List.mem_append_left _ (show _ ∈ AL_3 from List.mem_of_getElem? (i := 27) rfl))))
theorem al_148 : (.instanceMethod yXE_winsOver : Cond) ∈ AL := List.mem_append_right _ (List.mem_append_right _ (List.mem_append_right _ (List.mem_append_left _ (show _ ∈ AL_3 from List.mem_of_getElem? (i := 28) rfl))))
theorem al_149 : (.selects "WideStore$Entry" yXE_winsOver yXE_winsOver : Cond) ∈ AL := List.mem_append_right _ (List.mem_append_right _ (List.mem_append_right _ (List.mem_append_left _ (show _ ∈ AL_3 from List.mem_of_getElem? (i := 29) rfl))))
theorem al_150 : (.code yXE_winsOver cXE_winsOver 2 (some .boolean) : Cond) ∈ AL := List.mem_append_right _ (List.mem_append_right _ (List.mem_append_right _ (List.mem_append_left _ (show _ ∈ AL_3 from List.mem_of_getElem? (i := 30) rfl))))
theorem al_151 : (.methodLink "WideStore" 95 yXS_flushMemory : Cond) ∈ AL := List.mem_append_right _ (List.mem_append_right _ (List.mem_append_right _ (List.mem_append_left _ (show _ ∈ AL_3 from List.mem_of_getElem? (i := 31) rfl))))
theorem al_152 : (.instanceMethod yXS_flushMemory : Cond) ∈ AL := List.mem_append_right _ (List.mem_append_right _ (List.mem_append_right _ (List.mem_append_left _ (show _ ∈ AL_3 from List.mem_of_getElem? (i := 32) rfl))))
theorem al_153 : (.code yXS_flushMemory cXS_flushMemory 3 none : Cond) ∈ AL := List.mem_append_right _ (List.mem_append_right _ (List.mem_append_right _ (List.mem_append_left _ (show _ ∈ AL_3 from List.mem_of_getElem? (i := 33) rfl))))
theorem al_154 : (.methodLink "WideStore" 129 yXA_add : Cond) ∈ AL := List.mem_append_right _ (List.mem_append_right _ (List.mem_append_right _ (List.mem_append_left _ (show _ ∈ AL_3 from List.mem_of_getElem? (i := 34) rfl))))
theorem al_155 : (.instanceMethod yXA_add : Cond) ∈ AL := List.mem_append_right _ (List.mem_append_right _ (List.mem_append_right _ (List.mem_append_left _ (show _ ∈ AL_3 from List.mem_of_getElem? (i := 35) rfl))))
theorem al_156 : (.selects "java/util/ArrayList" yXA_add yXA_add : Cond) ∈ AL := List.mem_append_right _ (List.mem_append_right _ (List.mem_append_right _ (List.mem_append_left _ (show _ ∈ AL_3 from List.mem_of_getElem? (i := 36) rfl))))
theorem al_157 : (.code yXA_add cXA_add 2 (some .boolean) : Cond) ∈ AL := List.mem_append_right _ (List.mem_append_right _ (List.mem_append_right _ (List.mem_append_left _ (show _ ∈ AL_3 from List.mem_of_getElem? (i := 37) rfl))))
theorem al_158 : (.methodLink "java/util/ArrayList" 131 yXA_addp : Cond) ∈ AL := List.mem_append_right _ (List.mem_append_right _ (List.mem_append_right _ (List.mem_append_left _ (show _ ∈ AL_3 from List.mem_of_getElem? (i := 38) rfl))))
theorem al_159 : (.instanceMethod yXA_addp : Cond) ∈ AL := List.mem_append_right _ (List.mem_append_right _ (List.mem_append_right _ (List.mem_append_left _ (show _ ∈ AL_3 from List.mem_of_getElem? (i := 39) rfl))))
theorem al_160 : (.code yXA_addp cXA_addp 4 none : Cond) ∈ AL := List.mem_append_right _ (List.mem_append_right _ (List.mem_append_right _ (List.mem_append_right _ (List.mem_append_left _ (show _ ∈ AL_4 from List.mem_of_getElem? (i := 0) rfl)))))
theorem al_161 : (.methodLink "java/util/ArrayList" 129 yXA_grow0 : Cond) ∈ AL := List.mem_append_right _ (List.mem_append_right _ (List.mem_append_right _ (List.mem_append_right _ (List.mem_append_left _ (show _ ∈ AL_4 from List.mem_of_getElem? (i := 1) rfl)))))
theorem al_162 : (.instanceMethod yXA_grow0 : Cond) ∈ AL := List.mem_append_right _ (List.mem_append_right _ (List.mem_append_right _ (List.mem_append_right _ (List.mem_append_left _ (show _ ∈ AL_4 from List.mem_of_getElem? (i := 2) rfl)))))
theorem al_163 : (.code yXA_grow0 cXA_grow0 1 (some (.array (.object "java/lang/Object"))) : Cond) ∈ AL := List.mem_append_right _ (List.mem_append_right _ (List.mem_append_right _ (List.mem_append_right _ (List.mem_append_left _ (show _ ∈ AL_4 from List.mem_of_getElem? (i := 3) rfl)))))
theorem al_164 : (.methodLink "java/util/ArrayList" 69 yXA_grow1 : Cond) ∈ AL := List.mem_append_right _ (List.mem_append_right _ (List.mem_append_right _ (List.mem_append_right _ (List.mem_append_left _ (show _ ∈ AL_4 from List.mem_of_getElem? (i := 4) rfl)))))
theorem al_165 : (.instanceMethod yXA_grow1 : Cond) ∈ AL := List.mem_append_right _ (List.mem_append_right _ (List.mem_append_right _ (List.mem_append_right _ (List.mem_append_left _ (show _ ∈ AL_4 from List.mem_of_getElem? (i := 5) rfl)))))
theorem al_166 : (.code yXA_grow1 cXA_grow1 4 (some (.array (.object "java/lang/Object"))) : Cond) ∈ AL := List.mem_append_right _ (List.mem_append_right _ (List.mem_append_right _ (List.mem_append_right _ (List.mem_append_left _ (show _ ∈ AL_4 from List.mem_of_getElem? (i := 6) rfl)))))
theorem al_167 : (.methodLink "java/util/ArrayList" 73 yXU_newLength : Cond) ∈ AL := List.mem_append_right _ (List.mem_append_right _ (List.mem_append_right _ (List.mem_append_right _ (List.mem_append_left _ (show _ ∈ AL_4 from List.mem_of_getElem? (i := 7) rfl)))))
theorem al_168 : (.static yXU_newLength : Cond) ∈ AL := List.mem_append_right _ (List.mem_append_right _ (List.mem_append_right _ (List.mem_append_right _ (List.mem_append_left _ (show _ ∈ AL_4 from List.mem_of_getElem? (i := 8) rfl)))))
theorem al_169 : (.code yXU_newLength cXU_newLength 4 (some .int) : Cond) ∈ AL := List.mem_append_right _ (List.mem_append_right _ (List.mem_append_right _ (List.mem_append_right _ (List.mem_append_left _ (show _ ∈ AL_4 from List.mem_of_getElem? (i := 9) rfl)))))
theorem al_170 : (.methodLink "jdk/internal/util/ArraysSupport" 194 Lib.Math.max.name : Cond) ∈ AL := List.mem_append_right _ (List.mem_append_right _ (List.mem_append_right _ (List.mem_append_right _ (List.mem_append_left _ (show _ ∈ AL_4 from List.mem_of_getElem? (i := 10) rfl)))))
theorem al_171 : (.constant "jdk/internal/util/ArraysSupport" 200 2147483639 : Cond) ∈ AL := List.mem_append_right _ (List.mem_append_right _ (List.mem_append_right _ (List.mem_append_right _ (List.mem_append_left _ (show _ ∈ AL_4 from List.mem_of_getElem? (i := 11) rfl)))))
theorem al_172 : (.methodLink "jdk/internal/util/ArraysSupport" 201 yXU_hugeLength : Cond) ∈ AL := List.mem_append_right _ (List.mem_append_right _ (List.mem_append_right _ (List.mem_append_right _ (List.mem_append_left _ (show _ ∈ AL_4 from List.mem_of_getElem? (i := 12) rfl)))))
theorem al_173 : (.static yXU_hugeLength : Cond) ∈ AL := List.mem_append_right _ (List.mem_append_right _ (List.mem_append_right _ (List.mem_append_right _ (List.mem_append_left _ (show _ ∈ AL_4 from List.mem_of_getElem? (i := 13) rfl)))))
theorem al_174 : (.code yXU_hugeLength cXU_hugeLength 3 (some .int) : Cond) ∈ AL := List.mem_append_right _ (List.mem_append_right _ (List.mem_append_right _ (List.mem_append_right _ (List.mem_append_left _ (show _ ∈ AL_4 from List.mem_of_getElem? (i := 14) rfl)))))
theorem al_175 : (.methodLink "java/util/ArrayList" 66 yXY_copyOf2 : Cond) ∈ AL := List.mem_append_right _ (List.mem_append_right _ (List.mem_append_right _ (List.mem_append_right _ (List.mem_append_left _ (show _ ∈ AL_4 from List.mem_of_getElem? (i := 15) rfl)))))
theorem al_176 : (.static yXY_copyOf2 : Cond) ∈ AL := List.mem_append_right _ (List.mem_append_right _ (List.mem_append_right _ (List.mem_append_right _ (List.mem_append_left _ (show _ ∈ AL_4 from List.mem_of_getElem? (i := 16) rfl)))))
theorem al_177 : (.code yXY_copyOf2 cXY_copyOf2 2 (some (.array (.object "java/lang/Object"))) : Cond) ∈ AL := List.mem_append_right _ (List.mem_append_right _ (List.mem_append_right _ (List.mem_append_right _ (List.mem_append_left _ (show _ ∈ AL_4 from List.mem_of_getElem? (i := 17) rfl)))))
theorem al_178 : (.methodLink "java/util/Arrays" 86 ⟨"java/lang/Object", "getClass", "()Ljava/lang/Class;"⟩ : Cond) ∈ AL := List.mem_append_right _ (List.mem_append_right _ (List.mem_append_right _ (List.mem_append_right _ (List.mem_append_left _ (show _ ∈ AL_4 from List.mem_of_getElem? (i := 18) rfl)))))
theorem al_179 : (.instanceMethod ⟨"java/lang/Object", "getClass", "()Ljava/lang/Class;"⟩ : Cond) ∈ AL := List.mem_append_right _ (List.mem_append_right _ (List.mem_append_right _ (List.mem_append_right _ (List.mem_append_left _ (show _ ∈ AL_4 from List.mem_of_getElem? (i := 19) rfl)))))
theorem al_180 : (.selects "WideStore" ⟨"java/lang/Object", "getClass", "()Ljava/lang/Class;"⟩ ⟨"java/lang/Object", "getClass", "()Ljava/lang/Class;"⟩ : Cond) ∈ AL := List.mem_append_right _ (List.mem_append_right _ (List.mem_append_right _ (List.mem_append_right _ (List.mem_append_left _ (show _ ∈ AL_4 from List.mem_of_getElem? (i := 20) rfl)))))
theorem al_181 : (.selects "WideStore$Entry" ⟨"java/lang/Object", "getClass", "()Ljava/lang/Class;"⟩ ⟨"java/lang/Object", "getClass", "()Ljava/lang/Class;"⟩ : Cond) ∈ AL := List.mem_append_right _ (List.mem_append_right _ (List.mem_append_right _ (List.mem_append_right _ (List.mem_append_left _ (show _ ∈ AL_4 from List.mem_of_getElem? (i := 21) rfl)))))
theorem al_182 : (.selects "WideStore$Table" ⟨"java/lang/Object", "getClass", "()Ljava/lang/Class;"⟩ ⟨"java/lang/Object", "getClass", "()Ljava/lang/Class;"⟩ : Cond) ∈ AL := List.mem_append_right _ (List.mem_append_right _ (List.mem_append_right _ (List.mem_append_right _ (List.mem_append_left _ (show _ ∈ AL_4 from List.mem_of_getElem? (i := 22) rfl)))))
theorem al_183 : (.selects "WideStoreModel" ⟨"java/lang/Object", "getClass", "()Ljava/lang/Class;"⟩ ⟨"java/lang/Object", "getClass", "()Ljava/lang/Class;"⟩ : Cond) ∈ AL := List.mem_append_right _ (List.mem_append_right _ (List.mem_append_right _ (List.mem_append_right _ (List.mem_append_left _ (show _ ∈ AL_4 from List.mem_of_getElem? (i := 23) rfl)))))
theorem al_184 : (.selects "java/util/ArrayList" ⟨"java/lang/Object", "getClass", "()Ljava/lang/Class;"⟩ ⟨"java/lang/Object", "getClass", "()Ljava/lang/Class;"⟩ : Cond) ∈ AL := List.mem_append_right _ (List.mem_append_right _ (List.mem_append_right _ (List.mem_append_right _ (List.mem_append_left _ (show _ ∈ AL_4 from List.mem_of_getElem? (i := 24) rfl)))))
theorem al_185 : (.native ⟨"java/lang/Object", "getClass", "()Ljava/lang/Class;"⟩ : Cond) ∈ AL := List.mem_append_right _ (List.mem_append_right _ (List.mem_append_right _ (List.mem_append_right _ (List.mem_append_left _ (show _ ∈ AL_4 from List.mem_of_getElem? (i := 25) rfl)))))
theorem al_186 : (.methodLink "java/util/Arrays" 300 yXY_copyOf3 : Cond) ∈ AL := List.mem_append_right _ (List.mem_append_right _ (List.mem_append_right _ (List.mem_append_right _ (List.mem_append_left _ (show _ ∈ AL_4 from List.mem_of_getElem? (i := 26) rfl)))))
theorem al_187 : (.static yXY_copyOf3 : Cond) ∈ AL := List.mem_append_right _ (List.mem_append_right _ (List.mem_append_right _ (List.mem_append_right _ (List.mem_append_left _ (show _ ∈ AL_4 from List.mem_of_getElem? (i := 27) rfl)))))
theorem al_188 : (.code yXY_copyOf3 cXY_copyOf3 4 (some (.array (.object "java/lang/Object"))) : Cond) ∈ AL := List.mem_append_right _ (List.mem_append_right _ (List.mem_append_right _ (List.mem_append_right _ (List.mem_append_left _ (show _ ∈ AL_4 from List.mem_of_getElem? (i := 28) rfl)))))
theorem al_189 : (.classLink "java/util/Arrays" 110 "[Ljava/lang/Object;" : Cond) ∈ AL := List.mem_append_right _ (List.mem_append_right _ (List.mem_append_right _ (List.mem_append_right _ (List.mem_append_left _ (show _ ∈ AL_4 from List.mem_of_getElem? (i := 29) rfl)))))
theorem al_190 : (.classLink "java/util/Arrays" 2 "java/lang/Object" : Cond) ∈ AL := List.mem_append_right _ (List.mem_append_right _ (List.mem_append_right _ (List.mem_append_right _ (List.mem_append_left _ (show _ ∈ AL_4 from List.mem_of_getElem? (i := 30) rfl)))))
theorem al_191 : (.methodLink "java/util/Arrays" 304 Lib.Math.min.name : Cond) ∈ AL := List.mem_append_right _ (List.mem_append_right _ (List.mem_append_right _ (List.mem_append_right _ (List.mem_append_left _ (show _ ∈ AL_4 from List.mem_of_getElem? (i := 31) rfl)))))
theorem al_192 : (.methodLink "java/util/Arrays" 150 arraycopyName : Cond) ∈ AL := List.mem_append_right _ (List.mem_append_right _ (List.mem_append_right _ (List.mem_append_right _ (List.mem_append_left _ (show _ ∈ AL_4 from List.mem_of_getElem? (i := 32) rfl)))))
theorem al_193 : (.static arraycopyName : Cond) ∈ AL := List.mem_append_right _ (List.mem_append_right _ (List.mem_append_right _ (List.mem_append_right _ (List.mem_append_left _ (show _ ∈ AL_4 from List.mem_of_getElem? (i := 33) rfl)))))
theorem al_194 : (.native arraycopyName : Cond) ∈ AL := List.mem_append_right _ (List.mem_append_right _ (List.mem_append_right _ (List.mem_append_right _ (List.mem_append_left _ (show _ ∈ AL_4 from List.mem_of_getElem? (i := 34) rfl)))))
theorem al_195 : (.methodLink "java/util/ArrayList" 79 Lib.Math.max.name : Cond) ∈ AL := List.mem_append_right _ (List.mem_append_right _ (List.mem_append_right _ (List.mem_append_right _ (List.mem_append_left _ (show _ ∈ AL_4 from List.mem_of_getElem? (i := 35) rfl)))))
theorem al_196 : (.classLink "java/util/ArrayList" 7 "java/lang/Object" : Cond) ∈ AL := List.mem_append_right _ (List.mem_append_right _ (List.mem_append_right _ (List.mem_append_right _ (List.mem_append_left _ (show _ ∈ AL_4 from List.mem_of_getElem? (i := 36) rfl)))))
theorem al_197 : (.methodLink "WideStore" 117 yXA_size : Cond) ∈ AL := List.mem_append_right _ (List.mem_append_right _ (List.mem_append_right _ (List.mem_append_right _ (List.mem_append_left _ (show _ ∈ AL_4 from List.mem_of_getElem? (i := 37) rfl)))))
theorem al_198 : (.instanceMethod yXA_size : Cond) ∈ AL := List.mem_append_right _ (List.mem_append_right _ (List.mem_append_right _ (List.mem_append_right _ (List.mem_append_left _ (show _ ∈ AL_4 from List.mem_of_getElem? (i := 38) rfl)))))
theorem al_199 : (.selects "java/util/ArrayList" yXA_size yXA_size : Cond) ∈ AL := List.mem_append_right _ (List.mem_append_right _ (List.mem_append_right _ (List.mem_append_right _ (List.mem_append_left _ (show _ ∈ AL_4 from List.mem_of_getElem? (i := 39) rfl)))))
theorem al_200 : (.code yXA_size cXA_size 1 (some .int) : Cond) ∈ AL := List.mem_append_right _ (List.mem_append_right _ (List.mem_append_right _ (List.mem_append_right _ (List.mem_append_right _ (List.mem_append_left _ (show _ ∈ AL_5 from List.mem_of_getElem? (i := 0) rfl))))))
theorem al_201 : (.methodLink "WideStore" 133 yXS_newestAreOfOneTier : Cond) ∈ AL := List.mem_append_right _ (List.mem_append_right _ (List.mem_append_right _ (List.mem_append_right _ (List.mem_append_right _ (List.mem_append_left _ (show _ ∈ AL_5 from List.mem_of_getElem? (i := 1) rfl))))))
theorem al_202 : (.instanceMethod yXS_newestAreOfOneTier : Cond) ∈ AL := List.mem_append_right _ (List.mem_append_right _ (List.mem_append_right _ (List.mem_append_right _ (List.mem_append_right _ (List.mem_append_left _ (show _ ∈ AL_5 from List.mem_of_getElem? (i := 2) rfl))))))
theorem al_203 : (.code yXS_newestAreOfOneTier cXS_newestAreOfOneTier 4 (some .boolean) : Cond) ∈ AL := List.mem_append_right _ (List.mem_append_right _ (List.mem_append_right _ (List.mem_append_right _ (List.mem_append_right _ (List.mem_append_left _ (show _ ∈ AL_5 from List.mem_of_getElem? (i := 3) rfl))))))
theorem al_204 : (.methodLink "WideStore" 119 yXA_get : Cond) ∈ AL := List.mem_append_right _ (List.mem_append_right _ (List.mem_append_right _ (List.mem_append_right _ (List.mem_append_right _ (List.mem_append_left _ (show _ ∈ AL_5 from List.mem_of_getElem? (i := 4) rfl))))))
theorem al_205 : (.instanceMethod yXA_get : Cond) ∈ AL := List.mem_append_right _ (List.mem_append_right _ (List.mem_append_right _ (List.mem_append_right _ (List.mem_append_right _ (List.mem_append_left _ (show _ ∈ AL_5 from List.mem_of_getElem? (i := 5) rfl))))))
theorem al_206 : (.selects "java/util/ArrayList" yXA_get yXA_get : Cond) ∈ AL := List.mem_append_right _ (List.mem_append_right _ (List.mem_append_right _ (List.mem_append_right _ (List.mem_append_right _ (List.mem_append_left _ (show _ ∈ AL_5 from List.mem_of_getElem? (i := 6) rfl))))))
theorem al_207 : (.code yXA_get cXA_get 2 (some (.object "java/lang/Object")) : Cond) ∈ AL := List.mem_append_right _ (List.mem_append_right _ (List.mem_append_right _ (List.mem_append_right _ (List.mem_append_right _ (List.mem_append_left _ (show _ ∈ AL_5 from List.mem_of_getElem? (i := 7) rfl))))))
theorem al_208 : (.methodLink "java/util/ArrayList" 118 yXO_checkIndex : Cond) ∈ AL := List.mem_append_right _ (List.mem_append_right _ (List.mem_append_right _ (List.mem_append_right _ (List.mem_append_right _ (List.mem_append_left _ (show _ ∈ AL_5 from List.mem_of_getElem? (i := 8) rfl))))))
theorem al_209 : (.static yXO_checkIndex : Cond) ∈ AL := List.mem_append_right _ (List.mem_append_right _ (List.mem_append_right _ (List.mem_append_right _ (List.mem_append_right _ (List.mem_append_left _ (show _ ∈ AL_5 from List.mem_of_getElem? (i := 9) rfl))))))
theorem al_210 : (.code yXO_checkIndex cXO_checkIndex 2 (some .int) : Cond) ∈ AL := List.mem_append_right _ (List.mem_append_right _ (List.mem_append_right _ (List.mem_append_right _ (List.mem_append_right _ (List.mem_append_left _ (show _ ∈ AL_5 from List.mem_of_getElem? (i := 10) rfl))))))
theorem al_211 : (.methodLink "java/util/Objects" 105 yXP_checkIndex : Cond) ∈ AL := List.mem_append_right _ (List.mem_append_right _ (List.mem_append_right _ (List.mem_append_right _ (List.mem_append_right _ (List.mem_append_left _ (show _ ∈ AL_5 from List.mem_of_getElem? (i := 11) rfl))))))
theorem al_212 : (.static yXP_checkIndex : Cond) ∈ AL := List.mem_append_right _ (List.mem_append_right _ (List.mem_append_right _ (List.mem_append_right _ (List.mem_append_right _ (List.mem_append_left _ (show _ ∈ AL_5 from List.mem_of_getElem? (i := 12) rfl))))))
theorem al_213 : (.code yXP_checkIndex cXP_checkIndex 3 (some .int) : Cond) ∈ AL := List.mem_append_right _ (List.mem_append_right _ (List.mem_append_right _ (List.mem_append_right _ (List.mem_append_right _ (List.mem_append_left _ (show _ ∈ AL_5 from List.mem_of_getElem? (i := 13) rfl))))))
theorem al_214 : (.methodLink "java/util/ArrayList" 123 yXA_elementData : Cond) ∈ AL := List.mem_append_right _ (List.mem_append_right _ (List.mem_append_right _ (List.mem_append_right _ (List.mem_append_right _ (List.mem_append_left _ (show _ ∈ AL_5 from List.mem_of_getElem? (i := 14) rfl))))))
theorem al_215 : (.instanceMethod yXA_elementData : Cond) ∈ AL := List.mem_append_right _ (List.mem_append_right _ (List.mem_append_right _ (List.mem_append_right _ (List.mem_append_right _ (List.mem_append_left _ (show _ ∈ AL_5 from List.mem_of_getElem? (i := 15) rfl))))))
theorem al_216 : (.selects "java/util/ArrayList" yXA_elementData yXA_elementData : Cond) ∈ AL := List.mem_append_right _ (List.mem_append_right _ (List.mem_append_right _ (List.mem_append_right _ (List.mem_append_right _ (List.mem_append_left _ (show _ ∈ AL_5 from List.mem_of_getElem? (i := 16) rfl))))))
theorem al_217 : (.code yXA_elementData cXA_elementData 2 (some (.object "java/lang/Object")) : Cond) ∈ AL := List.mem_append_right _ (List.mem_append_right _ (List.mem_append_right _ (List.mem_append_right _ (List.mem_append_right _ (List.mem_append_left _ (show _ ∈ AL_5 from List.mem_of_getElem? (i := 17) rfl))))))
theorem al_218 : (.methodLink "WideStore" 106 yXS_mergeFrom : Cond) ∈ AL := List.mem_append_right _ (List.mem_append_right _ (List.mem_append_right _ (List.mem_append_right _ (List.mem_append_right _ (List.mem_append_left _ (show _ ∈ AL_5 from List.mem_of_getElem? (i := 18) rfl))))))
theorem al_219 : (.instanceMethod yXS_mergeFrom : Cond) ∈ AL := List.mem_append_right _ (List.mem_append_right _ (List.mem_append_right _ (List.mem_append_right _ (List.mem_append_right _ (List.mem_append_left _ (show _ ∈ AL_5 from List.mem_of_getElem? (i := 19) rfl))))))
theorem al_220 : (.code yXS_mergeFrom cXS_mergeFrom 5 (some (.object "WideStore$Table")) : Cond) ∈ AL := List.mem_append_right _ (List.mem_append_right _ (List.mem_append_right _ (List.mem_append_right _ (List.mem_append_right _ (List.mem_append_left _ (show _ ∈ AL_5 from List.mem_of_getElem? (i := 20) rfl))))))
theorem al_221 : (.methodLink "WideStore" 136 yXT_addWinners : Cond) ∈ AL := List.mem_append_right _ (List.mem_append_right _ (List.mem_append_right _ (List.mem_append_right _ (List.mem_append_right _ (List.mem_append_left _ (show _ ∈ AL_5 from List.mem_of_getElem? (i := 21) rfl))))))
theorem al_222 : (.instanceMethod yXT_addWinners : Cond) ∈ AL := List.mem_append_right _ (List.mem_append_right _ (List.mem_append_right _ (List.mem_append_right _ (List.mem_append_right _ (List.mem_append_left _ (show _ ∈ AL_5 from List.mem_of_getElem? (i := 22) rfl))))))
theorem al_223 : (.selects "WideStore$Table" yXT_addWinners yXT_addWinners : Cond) ∈ AL := List.mem_append_right _ (List.mem_append_right _ (List.mem_append_right _ (List.mem_append_right _ (List.mem_append_right _ (List.mem_append_left _ (show _ ∈ AL_5 from List.mem_of_getElem? (i := 23) rfl))))))
theorem al_224 : (.code yXT_addWinners cXT_addWinners 3 none : Cond) ∈ AL := List.mem_append_right _ (List.mem_append_right _ (List.mem_append_right _ (List.mem_append_right _ (List.mem_append_right _ (List.mem_append_left _ (show _ ∈ AL_5 from List.mem_of_getElem? (i := 24) rfl))))))
theorem al_225 : (.methodLink "WideStore$Table" 41 yXT_addWinner : Cond) ∈ AL := List.mem_append_right _ (List.mem_append_right _ (List.mem_append_right _ (List.mem_append_right _ (List.mem_append_right _ (List.mem_append_left _ (show _ ∈ AL_5 from List.mem_of_getElem? (i := 25) rfl))))))
theorem al_226 : (.methodLink "WideStore" 140 yXT_dropCovered : Cond) ∈ AL := List.mem_append_right _ (List.mem_append_right _ (List.mem_append_right _ (List.mem_append_right _ (List.mem_append_right _ (List.mem_append_left _ (show _ ∈ AL_5 from List.mem_of_getElem? (i := 26) rfl))))))
theorem al_227 : (.instanceMethod yXT_dropCovered : Cond) ∈ AL := List.mem_append_right _ (List.mem_append_right _ (List.mem_append_right _ (List.mem_append_right _ (List.mem_append_right _ (List.mem_append_left _ (show _ ∈ AL_5 from List.mem_of_getElem? (i := 27) rfl))))))
theorem al_228 : (.selects "WideStore$Table" yXT_dropCovered yXT_dropCovered : Cond) ∈ AL := List.mem_append_right _ (List.mem_append_right _ (List.mem_append_right _ (List.mem_append_right _ (List.mem_append_right _ (List.mem_append_left _ (show _ ∈ AL_5 from List.mem_of_getElem? (i := 28) rfl))))))
theorem al_229 : (.code yXT_dropCovered cXT_dropCovered 4 none : Cond) ∈ AL := List.mem_append_right _ (List.mem_append_right _ (List.mem_append_right _ (List.mem_append_right _ (List.mem_append_right _ (List.mem_append_left _ (show _ ∈ AL_5 from List.mem_of_getElem? (i := 29) rfl))))))
theorem al_230 : (.methodLink "WideStore$Table" 52 yXT_pointAt : Cond) ∈ AL := List.mem_append_right _ (List.mem_append_right _ (List.mem_append_right _ (List.mem_append_right _ (List.mem_append_right _ (List.mem_append_left _ (show _ ∈ AL_5 from List.mem_of_getElem? (i := 30) rfl))))))
theorem al_231 : (.instanceMethod yXT_pointAt : Cond) ∈ AL := List.mem_append_right _ (List.mem_append_right _ (List.mem_append_right _ (List.mem_append_right _ (List.mem_append_right _ (List.mem_append_left _ (show _ ∈ AL_5 from List.mem_of_getElem? (i := 31) rfl))))))
theorem al_232 : (.selects "WideStore$Table" yXT_pointAt yXT_pointAt : Cond) ∈ AL := List.mem_append_right _ (List.mem_append_right _ (List.mem_append_right _ (List.mem_append_right _ (List.mem_append_right _ (List.mem_append_left _ (show _ ∈ AL_5 from List.mem_of_getElem? (i := 32) rfl))))))
theorem al_233 : (.code yXT_pointAt cXT_pointAt 3 (some (.object "WideStore$Entry")) : Cond) ∈ AL := List.mem_append_right _ (List.mem_append_right _ (List.mem_append_right _ (List.mem_append_right _ (List.mem_append_right _ (List.mem_append_left _ (show _ ∈ AL_5 from List.mem_of_getElem? (i := 33) rfl))))))
theorem al_234 : (.methodLink "WideStore$Table" 56 yXT_covers : Cond) ∈ AL := List.mem_append_right _ (List.mem_append_right _ (List.mem_append_right _ (List.mem_append_right _ (List.mem_append_right _ (List.mem_append_left _ (show _ ∈ AL_5 from List.mem_of_getElem? (i := 34) rfl))))))
theorem al_235 : (.instanceMethod yXT_covers : Cond) ∈ AL := List.mem_append_right _ (List.mem_append_right _ (List.mem_append_right _ (List.mem_append_right _ (List.mem_append_right _ (List.mem_append_left _ (show _ ∈ AL_5 from List.mem_of_getElem? (i := 35) rfl))))))
theorem al_236 : (.selects "WideStore$Table" yXT_covers yXT_covers : Cond) ∈ AL := List.mem_append_right _ (List.mem_append_right _ (List.mem_append_right _ (List.mem_append_right _ (List.mem_append_right _ (List.mem_append_left _ (show _ ∈ AL_5 from List.mem_of_getElem? (i := 36) rfl))))))
theorem al_237 : (.code yXT_covers cXT_covers 7 (some .boolean) : Cond) ∈ AL := List.mem_append_right _ (List.mem_append_right _ (List.mem_append_right _ (List.mem_append_right _ (List.mem_append_right _ (List.mem_append_left _ (show _ ∈ AL_5 from List.mem_of_getElem? (i := 37) rfl))))))
theorem al_238 : (.static yXS_wipeSlot : Cond) ∈ AL := List.mem_append_right _ (List.mem_append_right _ (List.mem_append_right _ (List.mem_append_right _ (List.mem_append_right _ (List.mem_append_left _ (show _ ∈ AL_5 from List.mem_of_getElem? (i := 38) rfl))))))
theorem al_239 : (.code yXS_wipeSlot cXS_wipeSlot 3 (some .int) : Cond) ∈ AL := List.mem_append_right _ (List.mem_append_right _ (List.mem_append_right _ (List.mem_append_right _ (List.mem_append_right _ (List.mem_append_left _ (show _ ∈ AL_5 from List.mem_of_getElem? (i := 39) rfl))))))
theorem al_240 : (.methodLink "WideStore$Table" 60 yXT_dropEntry : Cond) ∈ AL := List.mem_append_right _ (List.mem_append_right _ (List.mem_append_right _ (List.mem_append_right _ (List.mem_append_right _ (List.mem_append_right _ (List.mem_append_left _ (show _ ∈ AL_6 from List.mem_of_getElem? (i := 0) rfl)))))))
theorem al_241 : (.instanceMethod yXT_dropEntry : Cond) ∈ AL := List.mem_append_right _ (List.mem_append_right _ (List.mem_append_right _ (List.mem_append_right _ (List.mem_append_right _ (List.mem_append_right _ (List.mem_append_left _ (show _ ∈ AL_6 from List.mem_of_getElem? (i := 1) rfl)))))))
theorem al_242 : (.code yXT_dropEntry cXT_dropEntry 2 none : Cond) ∈ AL := List.mem_append_right _ (List.mem_append_right _ (List.mem_append_right _ (List.mem_append_right _ (List.mem_append_right _ (List.mem_append_right _ (List.mem_append_left _ (show _ ∈ AL_6 from List.mem_of_getElem? (i := 2) rfl)))))))
theorem al_243 : (.methodLink "WideStore" 143 yXT_dropOld : Cond) ∈ AL := List.mem_append_right _ (List.mem_append_right _ (List.mem_append_right _ (List.mem_append_right _ (List.mem_append_right _ (List.mem_append_right _ (List.mem_append_left _ (show _ ∈ AL_6 from List.mem_of_getElem? (i := 3) rfl)))))))
theorem al_244 : (.instanceMethod yXT_dropOld : Cond) ∈ AL := List.mem_append_right _ (List.mem_append_right _ (List.mem_append_right _ (List.mem_append_right _ (List.mem_append_right _ (List.mem_append_right _ (List.mem_append_left _ (show _ ∈ AL_6 from List.mem_of_getElem? (i := 4) rfl)))))))
theorem al_245 : (.selects "WideStore$Table" yXT_dropOld yXT_dropOld : Cond) ∈ AL := List.mem_append_right _ (List.mem_append_right _ (List.mem_append_right _ (List.mem_append_right _ (List.mem_append_right _ (List.mem_append_right _ (List.mem_append_left _ (show _ ∈ AL_6 from List.mem_of_getElem? (i := 5) rfl)))))))
theorem al_246 : (.code yXT_dropOld cXT_dropOld 5 none : Cond) ∈ AL := List.mem_append_right _ (List.mem_append_right _ (List.mem_append_right _ (List.mem_append_right _ (List.mem_append_right _ (List.mem_append_right _ (List.mem_append_left _ (show _ ∈ AL_6 from List.mem_of_getElem? (i := 6) rfl)))))))
theorem al_247 : (.methodLink "WideStore" 147 yXA_remove : Cond) ∈ AL := List.mem_append_right _ (List.mem_append_right _ (List.mem_append_right _ (List.mem_append_right _ (List.mem_append_right _ (List.mem_append_right _ (List.mem_append_left _ (show _ ∈ AL_6 from List.mem_of_getElem? (i := 7) rfl)))))))
theorem al_248 : (.instanceMethod yXA_remove : Cond) ∈ AL := List.mem_append_right _ (List.mem_append_right _ (List.mem_append_right _ (List.mem_append_right _ (List.mem_append_right _ (List.mem_append_right _ (List.mem_append_left _ (show _ ∈ AL_6 from List.mem_of_getElem? (i := 8) rfl)))))))
theorem al_249 : (.selects "java/util/ArrayList" yXA_remove yXA_remove : Cond) ∈ AL := List.mem_append_right _ (List.mem_append_right _ (List.mem_append_right _ (List.mem_append_right _ (List.mem_append_right _ (List.mem_append_right _ (List.mem_append_left _ (show _ ∈ AL_6 from List.mem_of_getElem? (i := 9) rfl)))))))
theorem al_250 : (.code yXA_remove cXA_remove 4 (some (.object "java/lang/Object")) : Cond) ∈ AL := List.mem_append_right _ (List.mem_append_right _ (List.mem_append_right _ (List.mem_append_right _ (List.mem_append_right _ (List.mem_append_right _ (List.mem_append_left _ (show _ ∈ AL_6 from List.mem_of_getElem? (i := 10) rfl)))))))
theorem al_251 : (.methodLink "java/util/ArrayList" 144 yXA_fastRemove : Cond) ∈ AL := List.mem_append_right _ (List.mem_append_right _ (List.mem_append_right _ (List.mem_append_right _ (List.mem_append_right _ (List.mem_append_right _ (List.mem_append_left _ (show _ ∈ AL_6 from List.mem_of_getElem? (i := 11) rfl)))))))
theorem al_252 : (.instanceMethod yXA_fastRemove : Cond) ∈ AL := List.mem_append_right _ (List.mem_append_right _ (List.mem_append_right _ (List.mem_append_right _ (List.mem_append_right _ (List.mem_append_right _ (List.mem_append_left _ (show _ ∈ AL_6 from List.mem_of_getElem? (i := 12) rfl)))))))
theorem al_253 : (.code yXA_fastRemove cXA_fastRemove 4 none : Cond) ∈ AL := List.mem_append_right _ (List.mem_append_right _ (List.mem_append_right _ (List.mem_append_right _ (List.mem_append_right _ (List.mem_append_right _ (List.mem_append_left _ (show _ ∈ AL_6 from List.mem_of_getElem? (i := 13) rfl)))))))
theorem al_254 : (.methodLink "java/util/ArrayList" 112 arraycopyName : Cond) ∈ AL := List.mem_append_right _ (List.mem_append_right _ (List.mem_append_right _ (List.mem_append_right _ (List.mem_append_right _ (List.mem_append_right _ (List.mem_append_left _ (show _ ∈ AL_6 from List.mem_of_getElem? (i := 14) rfl)))))))
theorem al_255 : (.methodLink "WideStoreLaw" 26 yXS_delete : Cond) ∈ AL := List.mem_append_right _ (List.mem_append_right _ (List.mem_append_right _ (List.mem_append_right _ (List.mem_append_right _ (List.mem_append_right _ (List.mem_append_left _ (show _ ∈ AL_6 from List.mem_of_getElem? (i := 15) rfl)))))))
theorem al_256 : (.instanceMethod yXS_delete : Cond) ∈ AL := List.mem_append_right _ (List.mem_append_right _ (List.mem_append_right _ (List.mem_append_right _ (List.mem_append_right _ (List.mem_append_right _ (List.mem_append_left _ (show _ ∈ AL_6 from List.mem_of_getElem? (i := 16) rfl)))))))
theorem al_257 : (.selects "WideStore" yXS_delete yXS_delete : Cond) ∈ AL := List.mem_append_right _ (List.mem_append_right _ (List.mem_append_right _ (List.mem_append_right _ (List.mem_append_right _ (List.mem_append_right _ (List.mem_append_left _ (show _ ∈ AL_6 from List.mem_of_getElem? (i := 17) rfl)))))))
theorem al_258 : (.code yXS_delete cXS_delete 4 (some .boolean) : Cond) ∈ AL := List.mem_append_right _ (List.mem_append_right _ (List.mem_append_right _ (List.mem_append_right _ (List.mem_append_right _ (List.mem_append_right _ (List.mem_append_left _ (show _ ∈ AL_6 from List.mem_of_getElem? (i := 18) rfl)))))))
theorem al_259 : (.methodLink "WideStoreLaw" 31 yXS_wipe : Cond) ∈ AL := List.mem_append_right _ (List.mem_append_right _ (List.mem_append_right _ (List.mem_append_right _ (List.mem_append_right _ (List.mem_append_right _ (List.mem_append_left _ (show _ ∈ AL_6 from List.mem_of_getElem? (i := 19) rfl)))))))
theorem al_260 : (.instanceMethod yXS_wipe : Cond) ∈ AL := List.mem_append_right _ (List.mem_append_right _ (List.mem_append_right _ (List.mem_append_right _ (List.mem_append_right _ (List.mem_append_right _ (List.mem_append_left _ (show _ ∈ AL_6 from List.mem_of_getElem? (i := 20) rfl)))))))
theorem al_261 : (.selects "WideStore" yXS_wipe yXS_wipe : Cond) ∈ AL := List.mem_append_right _ (List.mem_append_right _ (List.mem_append_right _ (List.mem_append_right _ (List.mem_append_right _ (List.mem_append_right _ (List.mem_append_left _ (show _ ∈ AL_6 from List.mem_of_getElem? (i := 21) rfl)))))))
theorem al_262 : (.code yXS_wipe cXS_wipe 5 (some .boolean) : Cond) ∈ AL := List.mem_append_right _ (List.mem_append_right _ (List.mem_append_right _ (List.mem_append_right _ (List.mem_append_right _ (List.mem_append_right _ (List.mem_append_left _ (show _ ∈ AL_6 from List.mem_of_getElem? (i := 22) rfl)))))))
theorem al_263 : (.methodLink "WideStore" 75 yXS_wipeSlot : Cond) ∈ AL := List.mem_append_right _ (List.mem_append_right _ (List.mem_append_right _ (List.mem_append_right _ (List.mem_append_right _ (List.mem_append_right _ (List.mem_append_left _ (show _ ∈ AL_6 from List.mem_of_getElem? (i := 23) rfl)))))))
theorem al_264 : (.methodLink "WideStoreLaw" 36 yXS_get : Cond) ∈ AL := List.mem_append_right _ (List.mem_append_right _ (List.mem_append_right _ (List.mem_append_right _ (List.mem_append_right _ (List.mem_append_right _ (List.mem_append_left _ (show _ ∈ AL_6 from List.mem_of_getElem? (i := 24) rfl)))))))
theorem al_265 : (.instanceMethod yXS_get : Cond) ∈ AL := List.mem_append_right _ (List.mem_append_right _ (List.mem_append_right _ (List.mem_append_right _ (List.mem_append_right _ (List.mem_append_right _ (List.mem_append_left _ (show _ ∈ AL_6 from List.mem_of_getElem? (i := 25) rfl)))))))
theorem al_266 : (.selects "WideStore" yXS_get yXS_get : Cond) ∈ AL := List.mem_append_right _ (List.mem_append_right _ (List.mem_append_right _ (List.mem_append_right _ (List.mem_append_right _ (List.mem_append_right _ (List.mem_append_left _ (show _ ∈ AL_6 from List.mem_of_getElem? (i := 26) rfl)))))))
theorem al_267 : (.code yXS_get cXS_get 4 (some .int) : Cond) ∈ AL := List.mem_append_right _ (List.mem_append_right _ (List.mem_append_right _ (List.mem_append_right _ (List.mem_append_right _ (List.mem_append_right _ (List.mem_append_left _ (show _ ∈ AL_6 from List.mem_of_getElem? (i := 27) rfl)))))))
theorem al_268 : (.methodLink "WideStore" 79 yXS_seenCell : Cond) ∈ AL := List.mem_append_right _ (List.mem_append_right _ (List.mem_append_right _ (List.mem_append_right _ (List.mem_append_right _ (List.mem_append_right _ (List.mem_append_left _ (show _ ∈ AL_6 from List.mem_of_getElem? (i := 28) rfl)))))))
theorem al_269 : (.instanceMethod yXS_seenCell : Cond) ∈ AL := List.mem_append_right _ (List.mem_append_right _ (List.mem_append_right _ (List.mem_append_right _ (List.mem_append_right _ (List.mem_append_right _ (List.mem_append_left _ (show _ ∈ AL_6 from List.mem_of_getElem? (i := 29) rfl)))))))
theorem al_270 : (.code yXS_seenCell cXS_seenCell 4 (some (.object "WideStore$Entry")) : Cond) ∈ AL := List.mem_append_right _ (List.mem_append_right _ (List.mem_append_right _ (List.mem_append_right _ (List.mem_append_right _ (List.mem_append_right _ (List.mem_append_left _ (show _ ∈ AL_6 from List.mem_of_getElem? (i := 30) rfl)))))))
theorem al_271 : (.methodLink "WideStore" 150 yXS_winningPoint : Cond) ∈ AL := List.mem_append_right _ (List.mem_append_right _ (List.mem_append_right _ (List.mem_append_right _ (List.mem_append_right _ (List.mem_append_right _ (List.mem_append_left _ (show _ ∈ AL_6 from List.mem_of_getElem? (i := 31) rfl)))))))
theorem al_272 : (.instanceMethod yXS_winningPoint : Cond) ∈ AL := List.mem_append_right _ (List.mem_append_right _ (List.mem_append_right _ (List.mem_append_right _ (List.mem_append_right _ (List.mem_append_right _ (List.mem_append_left _ (show _ ∈ AL_6 from List.mem_of_getElem? (i := 32) rfl)))))))
theorem al_273 : (.code yXS_winningPoint cXS_winningPoint 6 (some (.object "WideStore$Entry")) : Cond) ∈ AL := List.mem_append_right _ (List.mem_append_right _ (List.mem_append_right _ (List.mem_append_right _ (List.mem_append_right _ (List.mem_append_right _ (List.mem_append_left _ (show _ ∈ AL_6 from List.mem_of_getElem? (i := 33) rfl)))))))
theorem al_274 : (.methodLink "WideStore" 163 yXT_pointAt : Cond) ∈ AL := List.mem_append_right _ (List.mem_append_right _ (List.mem_append_right _ (List.mem_append_right _ (List.mem_append_right _ (List.mem_append_right _ (List.mem_append_left _ (show _ ∈ AL_6 from List.mem_of_getElem? (i := 34) rfl)))))))
theorem al_275 : (.methodLink "WideStore" 166 yXE_winsOver : Cond) ∈ AL := List.mem_append_right _ (List.mem_append_right _ (List.mem_append_right _ (List.mem_append_right _ (List.mem_append_right _ (List.mem_append_right _ (List.mem_append_left _ (show _ ∈ AL_6 from List.mem_of_getElem? (i := 35) rfl)))))))
theorem al_276 : (.methodLink "WideStore" 159 yXS_isCovered : Cond) ∈ AL := List.mem_append_right _ (List.mem_append_right _ (List.mem_append_right _ (List.mem_append_right _ (List.mem_append_right _ (List.mem_append_right _ (List.mem_append_left _ (show _ ∈ AL_6 from List.mem_of_getElem? (i := 36) rfl)))))))
theorem al_277 : (.instanceMethod yXS_isCovered : Cond) ∈ AL := List.mem_append_right _ (List.mem_append_right _ (List.mem_append_right _ (List.mem_append_right _ (List.mem_append_right _ (List.mem_append_right _ (List.mem_append_left _ (show _ ∈ AL_6 from List.mem_of_getElem? (i := 37) rfl)))))))
theorem al_278 : (.code yXS_isCovered cXS_isCovered 5 (some .boolean) : Cond) ∈ AL := List.mem_append_right _ (List.mem_append_right _ (List.mem_append_right _ (List.mem_append_right _ (List.mem_append_right _ (List.mem_append_right _ (List.mem_append_left _ (show _ ∈ AL_6 from List.mem_of_getElem? (i := 38) rfl)))))))
theorem al_279 : (.methodLink "WideStore" 169 yXT_covers : Cond) ∈ AL := List.mem_append_right _ (List.mem_append_right _ (List.mem_append_right _ (List.mem_append_right _ (List.mem_append_right _ (List.mem_append_right _ (List.mem_append_left _ (show _ ∈ AL_6 from List.mem_of_getElem? (i := 39) rfl)))))))
theorem al_280 : (.methodLink "WideStoreLaw" 41 yXS_stamp : Cond) ∈ AL := List.mem_append_right _ (List.mem_append_right _ (List.mem_append_right _ (List.mem_append_right _ (List.mem_append_right _ (List.mem_append_right _ (List.mem_append_right _ (List.mem_append_left _ (show _ ∈ AL_7 from List.mem_of_getElem? (i := 0) rfl))))))))
theorem al_281 : (.instanceMethod yXS_stamp : Cond) ∈ AL := List.mem_append_right _ (List.mem_append_right _ (List.mem_append_right _ (List.mem_append_right _ (List.mem_append_right _ (List.mem_append_right _ (List.mem_append_right _ (List.mem_append_left _ (show _ ∈ AL_7 from List.mem_of_getElem? (i := 1) rfl))))))))
theorem al_282 : (.selects "WideStore" yXS_stamp yXS_stamp : Cond) ∈ AL := List.mem_append_right _ (List.mem_append_right _ (List.mem_append_right _ (List.mem_append_right _ (List.mem_append_right _ (List.mem_append_right _ (List.mem_append_right _ (List.mem_append_left _ (show _ ∈ AL_7 from List.mem_of_getElem? (i := 2) rfl))))))))
theorem al_283 : (.code yXS_stamp cXS_stamp 4 (some .int) : Cond) ∈ AL := List.mem_append_right _ (List.mem_append_right _ (List.mem_append_right _ (List.mem_append_right _ (List.mem_append_right _ (List.mem_append_right _ (List.mem_append_right _ (List.mem_append_left _ (show _ ∈ AL_7 from List.mem_of_getElem? (i := 3) rfl))))))))
theorem al_284 : (.methodLink "WideStoreLaw" 45 yXS_next : Cond) ∈ AL := List.mem_append_right _ (List.mem_append_right _ (List.mem_append_right _ (List.mem_append_right _ (List.mem_append_right _ (List.mem_append_right _ (List.mem_append_right _ (List.mem_append_left _ (show _ ∈ AL_7 from List.mem_of_getElem? (i := 4) rfl))))))))
theorem al_285 : (.instanceMethod yXS_next : Cond) ∈ AL := List.mem_append_right _ (List.mem_append_right _ (List.mem_append_right _ (List.mem_append_right _ (List.mem_append_right _ (List.mem_append_right _ (List.mem_append_right _ (List.mem_append_left _ (show _ ∈ AL_7 from List.mem_of_getElem? (i := 5) rfl))))))))
theorem al_286 : (.selects "WideStore" yXS_next yXS_next : Cond) ∈ AL := List.mem_append_right _ (List.mem_append_right _ (List.mem_append_right _ (List.mem_append_right _ (List.mem_append_right _ (List.mem_append_right _ (List.mem_append_right _ (List.mem_append_left _ (show _ ∈ AL_7 from List.mem_of_getElem? (i := 6) rfl))))))))
theorem al_287 : (.code yXS_next cXS_next 4 (some .int) : Cond) ∈ AL := List.mem_append_right _ (List.mem_append_right _ (List.mem_append_right _ (List.mem_append_right _ (List.mem_append_right _ (List.mem_append_right _ (List.mem_append_right _ (List.mem_append_left _ (show _ ∈ AL_7 from List.mem_of_getElem? (i := 7) rfl))))))))
theorem al_288 : (.methodLink "WideStoreLaw" 49 yXS_nextRow : Cond) ∈ AL := List.mem_append_right _ (List.mem_append_right _ (List.mem_append_right _ (List.mem_append_right _ (List.mem_append_right _ (List.mem_append_right _ (List.mem_append_right _ (List.mem_append_left _ (show _ ∈ AL_7 from List.mem_of_getElem? (i := 8) rfl))))))))
theorem al_289 : (.instanceMethod yXS_nextRow : Cond) ∈ AL := List.mem_append_right _ (List.mem_append_right _ (List.mem_append_right _ (List.mem_append_right _ (List.mem_append_right _ (List.mem_append_right _ (List.mem_append_right _ (List.mem_append_left _ (show _ ∈ AL_7 from List.mem_of_getElem? (i := 9) rfl))))))))
theorem al_290 : (.selects "WideStore" yXS_nextRow yXS_nextRow : Cond) ∈ AL := List.mem_append_right _ (List.mem_append_right _ (List.mem_append_right _ (List.mem_append_right _ (List.mem_append_right _ (List.mem_append_right _ (List.mem_append_right _ (List.mem_append_left _ (show _ ∈ AL_7 from List.mem_of_getElem? (i := 10) rfl))))))))
theorem al_291 : (.code yXS_nextRow cXS_nextRow 3 (some .int) : Cond) ∈ AL := List.mem_append_right _ (List.mem_append_right _ (List.mem_append_right _ (List.mem_append_right _ (List.mem_append_right _ (List.mem_append_right _ (List.mem_append_right _ (List.mem_append_left _ (show _ ∈ AL_7 from List.mem_of_getElem? (i := 11) rfl))))))))
theorem al_292 : (.methodLink "WideStore" 89 yXS_next : Cond) ∈ AL := List.mem_append_right _ (List.mem_append_right _ (List.mem_append_right _ (List.mem_append_right _ (List.mem_append_right _ (List.mem_append_right _ (List.mem_append_right _ (List.mem_append_left _ (show _ ∈ AL_7 from List.mem_of_getElem? (i := 12) rfl))))))))
theorem al_293 : (.methodLink "WideStoreLaw" 54 yXS_flush : Cond) ∈ AL := List.mem_append_right _ (List.mem_append_right _ (List.mem_append_right _ (List.mem_append_right _ (List.mem_append_right _ (List.mem_append_right _ (List.mem_append_right _ (List.mem_append_left _ (show _ ∈ AL_7 from List.mem_of_getElem? (i := 13) rfl))))))))
theorem al_294 : (.instanceMethod yXS_flush : Cond) ∈ AL := List.mem_append_right _ (List.mem_append_right _ (List.mem_append_right _ (List.mem_append_right _ (List.mem_append_right _ (List.mem_append_right _ (List.mem_append_right _ (List.mem_append_left _ (show _ ∈ AL_7 from List.mem_of_getElem? (i := 14) rfl))))))))
theorem al_295 : (.selects "WideStore" yXS_flush yXS_flush : Cond) ∈ AL := List.mem_append_right _ (List.mem_append_right _ (List.mem_append_right _ (List.mem_append_right _ (List.mem_append_right _ (List.mem_append_right _ (List.mem_append_right _ (List.mem_append_left _ (show _ ∈ AL_7 from List.mem_of_getElem? (i := 15) rfl))))))))
theorem al_296 : (.code yXS_flush cXS_flush 2 (some .int) : Cond) ∈ AL := List.mem_append_right _ (List.mem_append_right _ (List.mem_append_right _ (List.mem_append_right _ (List.mem_append_right _ (List.mem_append_right _ (List.mem_append_right _ (List.mem_append_left _ (show _ ∈ AL_7 from List.mem_of_getElem? (i := 16) rfl))))))))
theorem al_297 : (.methodLink "WideStoreLaw" 59 yXS_merge : Cond) ∈ AL := List.mem_append_right _ (List.mem_append_right _ (List.mem_append_right _ (List.mem_append_right _ (List.mem_append_right _ (List.mem_append_right _ (List.mem_append_right _ (List.mem_append_left _ (show _ ∈ AL_7 from List.mem_of_getElem? (i := 17) rfl))))))))
theorem al_298 : (.instanceMethod yXS_merge : Cond) ∈ AL := List.mem_append_right _ (List.mem_append_right _ (List.mem_append_right _ (List.mem_append_right _ (List.mem_append_right _ (List.mem_append_right _ (List.mem_append_right _ (List.mem_append_left _ (show _ ∈ AL_7 from List.mem_of_getElem? (i := 18) rfl))))))))
theorem al_299 : (.selects "WideStore" yXS_merge yXS_merge : Cond) ∈ AL := List.mem_append_right _ (List.mem_append_right _ (List.mem_append_right _ (List.mem_append_right _ (List.mem_append_right _ (List.mem_append_right _ (List.mem_append_right _ (List.mem_append_left _ (show _ ∈ AL_7 from List.mem_of_getElem? (i := 19) rfl))))))))
theorem al_300 : (.code yXS_merge cXS_merge 1 (some .int) : Cond) ∈ AL := List.mem_append_right _ (List.mem_append_right _ (List.mem_append_right _ (List.mem_append_right _ (List.mem_append_right _ (List.mem_append_right _ (List.mem_append_right _ (List.mem_append_left _ (show _ ∈ AL_7 from List.mem_of_getElem? (i := 20) rfl))))))))
theorem al_301 : (.methodLink "WideStore" 98 yXA_isEmpty : Cond) ∈ AL := List.mem_append_right _ (List.mem_append_right _ (List.mem_append_right _ (List.mem_append_right _ (List.mem_append_right _ (List.mem_append_right _ (List.mem_append_right _ (List.mem_append_left _ (show _ ∈ AL_7 from List.mem_of_getElem? (i := 21) rfl))))))))
theorem al_302 : (.instanceMethod yXA_isEmpty : Cond) ∈ AL := List.mem_append_right _ (List.mem_append_right _ (List.mem_append_right _ (List.mem_append_right _ (List.mem_append_right _ (List.mem_append_right _ (List.mem_append_right _ (List.mem_append_left _ (show _ ∈ AL_7 from List.mem_of_getElem? (i := 22) rfl))))))))
theorem al_303 : (.selects "java/util/ArrayList" yXA_isEmpty yXA_isEmpty : Cond) ∈ AL := List.mem_append_right _ (List.mem_append_right _ (List.mem_append_right _ (List.mem_append_right _ (List.mem_append_right _ (List.mem_append_right _ (List.mem_append_right _ (List.mem_append_left _ (show _ ∈ AL_7 from List.mem_of_getElem? (i := 23) rfl))))))))
theorem al_304 : (.code yXA_isEmpty cXA_isEmpty 1 (some .boolean) : Cond) ∈ AL := List.mem_append_right _ (List.mem_append_right _ (List.mem_append_right _ (List.mem_append_right _ (List.mem_append_right _ (List.mem_append_right _ (List.mem_append_right _ (List.mem_append_left _ (show _ ∈ AL_7 from List.mem_of_getElem? (i := 24) rfl))))))))
theorem al_305 : (.methodLink "WideStore" 102 yXS_greatestTier : Cond) ∈ AL := List.mem_append_right _ (List.mem_append_right _ (List.mem_append_right _ (List.mem_append_right _ (List.mem_append_right _ (List.mem_append_right _ (List.mem_append_right _ (List.mem_append_left _ (show _ ∈ AL_7 from List.mem_of_getElem? (i := 25) rfl))))))))
theorem al_306 : (.instanceMethod yXS_greatestTier : Cond) ∈ AL := List.mem_append_right _ (List.mem_append_right _ (List.mem_append_right _ (List.mem_append_right _ (List.mem_append_right _ (List.mem_append_right _ (List.mem_append_right _ (List.mem_append_left _ (show _ ∈ AL_7 from List.mem_of_getElem? (i := 26) rfl))))))))
theorem al_307 : (.code yXS_greatestTier cXS_greatestTier 3 (some .int) : Cond) ∈ AL := List.mem_append_right _ (List.mem_append_right _ (List.mem_append_right _ (List.mem_append_right _ (List.mem_append_right _ (List.mem_append_right _ (List.mem_append_right _ (List.mem_append_left _ (show _ ∈ AL_7 from List.mem_of_getElem? (i := 27) rfl))))))))
theorem al_308 : (.methodLink "WideStoreLaw" 63 yXS_sync : Cond) ∈ AL := List.mem_append_right _ (List.mem_append_right _ (List.mem_append_right _ (List.mem_append_right _ (List.mem_append_right _ (List.mem_append_right _ (List.mem_append_right _ (List.mem_append_left _ (show _ ∈ AL_7 from List.mem_of_getElem? (i := 28) rfl))))))))
theorem al_309 : (.instanceMethod yXS_sync : Cond) ∈ AL := List.mem_append_right _ (List.mem_append_right _ (List.mem_append_right _ (List.mem_append_right _ (List.mem_append_right _ (List.mem_append_right _ (List.mem_append_right _ (List.mem_append_left _ (show _ ∈ AL_7 from List.mem_of_getElem? (i := 29) rfl))))))))
theorem al_310 : (.selects "WideStore" yXS_sync yXS_sync : Cond) ∈ AL := List.mem_append_right _ (List.mem_append_right _ (List.mem_append_right _ (List.mem_append_right _ (List.mem_append_right _ (List.mem_append_right _ (List.mem_append_right _ (List.mem_append_left _ (show _ ∈ AL_7 from List.mem_of_getElem? (i := 30) rfl))))))))
theorem al_311 : (.code yXS_sync cXS_sync 1 (some .int) : Cond) ∈ AL := List.mem_append_right _ (List.mem_append_right _ (List.mem_append_right _ (List.mem_append_right _ (List.mem_append_right _ (List.mem_append_right _ (List.mem_append_right _ (List.mem_append_left _ (show _ ∈ AL_7 from List.mem_of_getElem? (i := 31) rfl))))))))
theorem al_312 : (.methodLink "WideStoreLaw" 67 yXS_crash : Cond) ∈ AL := List.mem_append_right _ (List.mem_append_right _ (List.mem_append_right _ (List.mem_append_right _ (List.mem_append_right _ (List.mem_append_right _ (List.mem_append_right _ (List.mem_append_left _ (show _ ∈ AL_7 from List.mem_of_getElem? (i := 32) rfl))))))))
theorem al_313 : (.instanceMethod yXS_crash : Cond) ∈ AL := List.mem_append_right _ (List.mem_append_right _ (List.mem_append_right _ (List.mem_append_right _ (List.mem_append_right _ (List.mem_append_right _ (List.mem_append_right _ (List.mem_append_left _ (show _ ∈ AL_7 from List.mem_of_getElem? (i := 33) rfl))))))))
theorem al_314 : (.selects "WideStore" yXS_crash yXS_crash : Cond) ∈ AL := List.mem_append_right _ (List.mem_append_right _ (List.mem_append_right _ (List.mem_append_right _ (List.mem_append_right _ (List.mem_append_right _ (List.mem_append_right _ (List.mem_append_left _ (show _ ∈ AL_7 from List.mem_of_getElem? (i := 34) rfl))))))))
theorem al_315 : (.code yXS_crash cXS_crash 2 (some .int) : Cond) ∈ AL := List.mem_append_right _ (List.mem_append_right _ (List.mem_append_right _ (List.mem_append_right _ (List.mem_append_right _ (List.mem_append_right _ (List.mem_append_right _ (List.mem_append_left _ (show _ ∈ AL_7 from List.mem_of_getElem? (i := 35) rfl))))))))
theorem al_316 : (.methodLink "WideStore" 110 yXT_clearSlots : Cond) ∈ AL := List.mem_append_right _ (List.mem_append_right _ (List.mem_append_right _ (List.mem_append_right _ (List.mem_append_right _ (List.mem_append_right _ (List.mem_append_right _ (List.mem_append_left _ (show _ ∈ AL_7 from List.mem_of_getElem? (i := 36) rfl))))))))
theorem al_317 : (.instanceMethod yXT_clearSlots : Cond) ∈ AL := List.mem_append_right _ (List.mem_append_right _ (List.mem_append_right _ (List.mem_append_right _ (List.mem_append_right _ (List.mem_append_right _ (List.mem_append_right _ (List.mem_append_left _ (show _ ∈ AL_7 from List.mem_of_getElem? (i := 37) rfl))))))))
theorem al_318 : (.selects "WideStore$Table" yXT_clearSlots yXT_clearSlots : Cond) ∈ AL := List.mem_append_right _ (List.mem_append_right _ (List.mem_append_right _ (List.mem_append_right _ (List.mem_append_right _ (List.mem_append_right _ (List.mem_append_right _ (List.mem_append_left _ (show _ ∈ AL_7 from List.mem_of_getElem? (i := 38) rfl))))))))
theorem al_319 : (.code yXT_clearSlots cXT_clearSlots 2 none : Cond) ∈ AL := List.mem_append_right _ (List.mem_append_right _ (List.mem_append_right _ (List.mem_append_right _ (List.mem_append_right _ (List.mem_append_right _ (List.mem_append_right _ (List.mem_append_left _ (show _ ∈ AL_7 from List.mem_of_getElem? (i := 39) rfl))))))))
theorem al_320 : (.methodLink "WideStoreLaw" 71 yXS_tick : Cond) ∈ AL := List.mem_append_right _ (List.mem_append_right _ (List.mem_append_right _ (List.mem_append_right _ (List.mem_append_right _ (List.mem_append_right _ (List.mem_append_right _ (List.mem_append_right _ (List.mem_append_left _ (show _ ∈ AL_8 from List.mem_of_getElem? (i := 0) rfl)))))))))
theorem al_321 : (.instanceMethod yXS_tick : Cond) ∈ AL := List.mem_append_right _ (List.mem_append_right _ (List.mem_append_right _ (List.mem_append_right _ (List.mem_append_right _ (List.mem_append_right _ (List.mem_append_right _ (List.mem_append_right _ (List.mem_append_left _ (show _ ∈ AL_8 from List.mem_of_getElem? (i := 1) rfl)))))))))
theorem al_322 : (.selects "WideStore" yXS_tick yXS_tick : Cond) ∈ AL := List.mem_append_right _ (List.mem_append_right _ (List.mem_append_right _ (List.mem_append_right _ (List.mem_append_right _ (List.mem_append_right _ (List.mem_append_right _ (List.mem_append_right _ (List.mem_append_left _ (show _ ∈ AL_8 from List.mem_of_getElem? (i := 2) rfl)))))))))
theorem al_323 : (.code yXS_tick cXS_tick 2 (some .int) : Cond) ∈ AL := List.mem_append_right _ (List.mem_append_right _ (List.mem_append_right _ (List.mem_append_right _ (List.mem_append_right _ (List.mem_append_right _ (List.mem_append_right _ (List.mem_append_right _ (List.mem_append_left _ (show _ ∈ AL_8 from List.mem_of_getElem? (i := 3) rfl)))))))))
theorem al_324 : (.methodLink "WideStoreLaw" 75 yXS_count : Cond) ∈ AL := List.mem_append_right _ (List.mem_append_right _ (List.mem_append_right _ (List.mem_append_right _ (List.mem_append_right _ (List.mem_append_right _ (List.mem_append_right _ (List.mem_append_right _ (List.mem_append_left _ (show _ ∈ AL_8 from List.mem_of_getElem? (i := 4) rfl)))))))))
theorem al_325 : (.instanceMethod yXS_count : Cond) ∈ AL := List.mem_append_right _ (List.mem_append_right _ (List.mem_append_right _ (List.mem_append_right _ (List.mem_append_right _ (List.mem_append_right _ (List.mem_append_right _ (List.mem_append_right _ (List.mem_append_left _ (show _ ∈ AL_8 from List.mem_of_getElem? (i := 5) rfl)))))))))
theorem al_326 : (.selects "WideStore" yXS_count yXS_count : Cond) ∈ AL := List.mem_append_right _ (List.mem_append_right _ (List.mem_append_right _ (List.mem_append_right _ (List.mem_append_right _ (List.mem_append_right _ (List.mem_append_right _ (List.mem_append_right _ (List.mem_append_left _ (show _ ∈ AL_8 from List.mem_of_getElem? (i := 6) rfl)))))))))
theorem al_327 : (.code yXS_count cXS_count 2 (some .int) : Cond) ∈ AL := List.mem_append_right _ (List.mem_append_right _ (List.mem_append_right _ (List.mem_append_right _ (List.mem_append_right _ (List.mem_append_right _ (List.mem_append_right _ (List.mem_append_right _ (List.mem_append_left _ (show _ ∈ AL_8 from List.mem_of_getElem? (i := 7) rfl)))))))))
theorem al_328 : (.methodLink "WideStoreLaw" 79 yXS_run : Cond) ∈ AL := List.mem_append_right _ (List.mem_append_right _ (List.mem_append_right _ (List.mem_append_right _ (List.mem_append_right _ (List.mem_append_right _ (List.mem_append_right _ (List.mem_append_right _ (List.mem_append_left _ (show _ ∈ AL_8 from List.mem_of_getElem? (i := 8) rfl)))))))))
theorem al_329 : (.instanceMethod yXS_run : Cond) ∈ AL := List.mem_append_right _ (List.mem_append_right _ (List.mem_append_right _ (List.mem_append_right _ (List.mem_append_right _ (List.mem_append_right _ (List.mem_append_right _ (List.mem_append_right _ (List.mem_append_left _ (show _ ∈ AL_8 from List.mem_of_getElem? (i := 9) rfl)))))))))
theorem al_330 : (.selects "WideStore" yXS_run yXS_run : Cond) ∈ AL := List.mem_append_right _ (List.mem_append_right _ (List.mem_append_right _ (List.mem_append_right _ (List.mem_append_right _ (List.mem_append_right _ (List.mem_append_right _ (List.mem_append_right _ (List.mem_append_left _ (show _ ∈ AL_8 from List.mem_of_getElem? (i := 10) rfl)))))))))
theorem al_331 : (.code yXS_run cXS_run 4 (some .int) : Cond) ∈ AL := List.mem_append_right _ (List.mem_append_right _ (List.mem_append_right _ (List.mem_append_right _ (List.mem_append_right _ (List.mem_append_right _ (List.mem_append_right _ (List.mem_append_right _ (List.mem_append_left _ (show _ ∈ AL_8 from List.mem_of_getElem? (i := 11) rfl)))))))))
theorem al_332 : (.methodLink "WideStoreLaw" 9 yXL_cell : Cond) ∈ AL := List.mem_append_right _ (List.mem_append_right _ (List.mem_append_right _ (List.mem_append_right _ (List.mem_append_right _ (List.mem_append_right _ (List.mem_append_right _ (List.mem_append_right _ (List.mem_append_left _ (show _ ∈ AL_8 from List.mem_of_getElem? (i := 12) rfl)))))))))
theorem al_333 : (.static yXL_cell : Cond) ∈ AL := List.mem_append_right _ (List.mem_append_right _ (List.mem_append_right _ (List.mem_append_right _ (List.mem_append_right _ (List.mem_append_right _ (List.mem_append_right _ (List.mem_append_right _ (List.mem_append_left _ (show _ ∈ AL_8 from List.mem_of_getElem? (i := 13) rfl)))))))))
theorem al_334 : (.code yXL_cell cXL_cell 2 (some .int) : Cond) ∈ AL := List.mem_append_right _ (List.mem_append_right _ (List.mem_append_right _ (List.mem_append_right _ (List.mem_append_right _ (List.mem_append_right _ (List.mem_append_right _ (List.mem_append_right _ (List.mem_append_left _ (show _ ∈ AL_8 from List.mem_of_getElem? (i := 14) rfl)))))))))
theorem al_335 : (.classLink "WideStoreLaw" 18 "WideStoreModel" : Cond) ∈ AL := List.mem_append_right _ (List.mem_append_right _ (List.mem_append_right _ (List.mem_append_right _ (List.mem_append_right _ (List.mem_append_right _ (List.mem_append_right _ (List.mem_append_right _ (List.mem_append_left _ (show _ ∈ AL_8 from List.mem_of_getElem? (i := 15) rfl)))))))))
theorem al_336 : (.instantiable "WideStoreModel" 16 : Cond) ∈ AL := List.mem_append_right _ (List.mem_append_right _ (List.mem_append_right _ (List.mem_append_right _ (List.mem_append_right _ (List.mem_append_right _ (List.mem_append_right _ (List.mem_append_right _ (List.mem_append_left _ (show _ ∈ AL_8 from List.mem_of_getElem? (i := 16) rfl)))))))))
theorem al_337 : (.methodLink "WideStoreLaw" 20 yXM_init : Cond) ∈ AL := List.mem_append_right _ (List.mem_append_right _ (List.mem_append_right _ (List.mem_append_right _ (List.mem_append_right _ (List.mem_append_right _ (List.mem_append_right _ (List.mem_append_right _ (List.mem_append_left _ (show _ ∈ AL_8 from List.mem_of_getElem? (i := 17) rfl)))))))))
theorem al_338 : (.instanceMethod yXM_init : Cond) ∈ AL := List.mem_append_right _ (List.mem_append_right _ (List.mem_append_right _ (List.mem_append_right _ (List.mem_append_right _ (List.mem_append_right _ (List.mem_append_right _ (List.mem_append_right _ (List.mem_append_left _ (show _ ∈ AL_8 from List.mem_of_getElem? (i := 18) rfl)))))))))
theorem al_339 : (.code yXM_init cXM_init 3 none : Cond) ∈ AL := List.mem_append_right _ (List.mem_append_right _ (List.mem_append_right _ (List.mem_append_right _ (List.mem_append_right _ (List.mem_append_right _ (List.mem_append_right _ (List.mem_append_right _ (List.mem_append_left _ (show _ ∈ AL_8 from List.mem_of_getElem? (i := 19) rfl)))))))))
theorem al_340 : (.methodLink "WideStoreModel" 1 objectInit : Cond) ∈ AL := List.mem_append_right _ (List.mem_append_right _ (List.mem_append_right _ (List.mem_append_right _ (List.mem_append_right _ (List.mem_append_right _ (List.mem_append_right _ (List.mem_append_right _ (List.mem_append_left _ (show _ ∈ AL_8 from List.mem_of_getElem? (i := 20) rfl)))))))))
theorem al_341 : (.fieldLink "WideStoreModel" 31 "WideStoreModel" "cap" "I" : Cond) ∈ AL := List.mem_append_right _ (List.mem_append_right _ (List.mem_append_right _ (List.mem_append_right _ (List.mem_append_right _ (List.mem_append_right _ (List.mem_append_right _ (List.mem_append_right _ (List.mem_append_left _ (show _ ∈ AL_8 from List.mem_of_getElem? (i := 21) rfl)))))))))
theorem al_342 : (.fieldLink "WideStoreModel" 35 "WideStoreModel" "grace" "I" : Cond) ∈ AL := List.mem_append_right _ (List.mem_append_right _ (List.mem_append_right _ (List.mem_append_right _ (List.mem_append_right _ (List.mem_append_right _ (List.mem_append_right _ (List.mem_append_right _ (List.mem_append_left _ (show _ ∈ AL_8 from List.mem_of_getElem? (i := 22) rfl)))))))))
theorem al_343 : (.fieldLink "WideStoreModel" 75 "WideStoreModel" "now" "I" : Cond) ∈ AL := List.mem_append_right _ (List.mem_append_right _ (List.mem_append_right _ (List.mem_append_right _ (List.mem_append_right _ (List.mem_append_right _ (List.mem_append_right _ (List.mem_append_right _ (List.mem_append_left _ (show _ ∈ AL_8 from List.mem_of_getElem? (i := 23) rfl)))))))))
theorem al_344 : (.fieldLink "WideStoreModel" 42 "WideStoreModel" "memories" "I" : Cond) ∈ AL := List.mem_append_right _ (List.mem_append_right _ (List.mem_append_right _ (List.mem_append_right _ (List.mem_append_right _ (List.mem_append_right _ (List.mem_append_right _ (List.mem_append_right _ (List.mem_append_left _ (show _ ∈ AL_8 from List.mem_of_getElem? (i := 24) rfl)))))))))
theorem al_345 : (.fieldLink "WideStoreModel" 7 "WideStoreModel" "memory" "[I" : Cond) ∈ AL := List.mem_append_right _ (List.mem_append_right _ (List.mem_append_right _ (List.mem_append_right _ (List.mem_append_right _ (List.mem_append_right _ (List.mem_append_right _ (List.mem_append_right _ (List.mem_append_left _ (show _ ∈ AL_8 from List.mem_of_getElem? (i := 25) rfl)))))))))
theorem al_346 : (.fieldLink "WideStoreModel" 56 "WideStoreModel" "logs" "I" : Cond) ∈ AL := List.mem_append_right _ (List.mem_append_right _ (List.mem_append_right _ (List.mem_append_right _ (List.mem_append_right _ (List.mem_append_right _ (List.mem_append_right _ (List.mem_append_right _ (List.mem_append_left _ (show _ ∈ AL_8 from List.mem_of_getElem? (i := 26) rfl)))))))))
theorem al_347 : (.fieldLink "WideStoreModel" 91 "WideStoreModel" "safe" "I" : Cond) ∈ AL := List.mem_append_right _ (List.mem_append_right _ (List.mem_append_right _ (List.mem_append_right _ (List.mem_append_right _ (List.mem_append_right _ (List.mem_append_right _ (List.mem_append_right _ (List.mem_append_left _ (show _ ∈ AL_8 from List.mem_of_getElem? (i := 27) rfl)))))))))
theorem al_348 : (.fieldLink "WideStoreModel" 13 "WideStoreModel" "log" "[I" : Cond) ∈ AL := List.mem_append_right _ (List.mem_append_right _ (List.mem_append_right _ (List.mem_append_right _ (List.mem_append_right _ (List.mem_append_right _ (List.mem_append_right _ (List.mem_append_right _ (List.mem_append_left _ (show _ ∈ AL_8 from List.mem_of_getElem? (i := 28) rfl)))))))))
theorem al_349 : (.fieldLink "WideStoreModel" 85 "WideStoreModel" "flushed" "I" : Cond) ∈ AL := List.mem_append_right _ (List.mem_append_right _ (List.mem_append_right _ (List.mem_append_right _ (List.mem_append_right _ (List.mem_append_right _ (List.mem_append_right _ (List.mem_append_right _ (List.mem_append_left _ (show _ ∈ AL_8 from List.mem_of_getElem? (i := 29) rfl)))))))))
theorem al_350 : (.fieldLink "WideStoreModel" 16 "WideStoreModel" "entry" "[I" : Cond) ∈ AL := List.mem_append_right _ (List.mem_append_right _ (List.mem_append_right _ (List.mem_append_right _ (List.mem_append_right _ (List.mem_append_right _ (List.mem_append_right _ (List.mem_append_right _ (List.mem_append_left _ (show _ ∈ AL_8 from List.mem_of_getElem? (i := 30) rfl)))))))))
theorem al_351 : (.fieldLink "WideStoreModel" 19 "WideStoreModel" "runOf" "[I" : Cond) ∈ AL := List.mem_append_right _ (List.mem_append_right _ (List.mem_append_right _ (List.mem_append_right _ (List.mem_append_right _ (List.mem_append_right _ (List.mem_append_right _ (List.mem_append_right _ (List.mem_append_left _ (show _ ∈ AL_8 from List.mem_of_getElem? (i := 31) rfl)))))))))
theorem al_352 : (.fieldLink "WideStoreModel" 88 "WideStoreModel" "runs" "I" : Cond) ∈ AL := List.mem_append_right _ (List.mem_append_right _ (List.mem_append_right _ (List.mem_append_right _ (List.mem_append_right _ (List.mem_append_right _ (List.mem_append_right _ (List.mem_append_right _ (List.mem_append_left _ (show _ ∈ AL_8 from List.mem_of_getElem? (i := 32) rfl)))))))))
theorem al_353 : (.fieldLink "WideStoreModel" 82 "WideStoreModel" "marks" "I" : Cond) ∈ AL := List.mem_append_right _ (List.mem_append_right _ (List.mem_append_right _ (List.mem_append_right _ (List.mem_append_right _ (List.mem_append_right _ (List.mem_append_right _ (List.mem_append_right _ (List.mem_append_left _ (show _ ∈ AL_8 from List.mem_of_getElem? (i := 33) rfl)))))))))
theorem al_354 : (.fieldLink "WideStoreModel" 22 "WideStoreModel" "mark" "[I" : Cond) ∈ AL := List.mem_append_right _ (List.mem_append_right _ (List.mem_append_right _ (List.mem_append_right _ (List.mem_append_right _ (List.mem_append_right _ (List.mem_append_right _ (List.mem_append_right _ (List.mem_append_left _ (show _ ∈ AL_8 from List.mem_of_getElem? (i := 34) rfl)))))))))
theorem al_355 : (.fieldLink "WideStoreModel" 25 "WideStoreModel" "tier" "[I" : Cond) ∈ AL := List.mem_append_right _ (List.mem_append_right _ (List.mem_append_right _ (List.mem_append_right _ (List.mem_append_right _ (List.mem_append_right _ (List.mem_append_right _ (List.mem_append_right _ (List.mem_append_left _ (show _ ∈ AL_8 from List.mem_of_getElem? (i := 35) rfl)))))))))
theorem al_356 : (.fieldLink "WideStoreModel" 28 "WideStoreModel" "cell" "[I" : Cond) ∈ AL := List.mem_append_right _ (List.mem_append_right _ (List.mem_append_right _ (List.mem_append_right _ (List.mem_append_right _ (List.mem_append_right _ (List.mem_append_right _ (List.mem_append_right _ (List.mem_append_left _ (show _ ∈ AL_8 from List.mem_of_getElem? (i := 36) rfl)))))))))
theorem al_357 : (.laysFinal "WideStoreModel" "WideStoreModel" "cap" "I" : Cond) ∈ AL := List.mem_append_right _ (List.mem_append_right _ (List.mem_append_right _ (List.mem_append_right _ (List.mem_append_right _ (List.mem_append_right _ (List.mem_append_right _ (List.mem_append_right _ (List.mem_append_left _ (show _ ∈ AL_8 from List.mem_of_getElem? (i := 37) rfl)))))))))
theorem al_358 : (.laysFinal "WideStoreModel" "WideStoreModel" "grace" "I" : Cond) ∈ AL := List.mem_append_right _ (List.mem_append_right _ (List.mem_append_right _ (List.mem_append_right _ (List.mem_append_right _ (List.mem_append_right _ (List.mem_append_right _ (List.mem_append_right _ (List.mem_append_left _ (show _ ∈ AL_8 from List.mem_of_getElem? (i := 38) rfl)))))))))
theorem al_359 : (.lays "WideStoreModel" "WideStoreModel" "now" "I" : Cond) ∈ AL := List.mem_append_right _ (List.mem_append_right _ (List.mem_append_right _ (List.mem_append_right _ (List.mem_append_right _ (List.mem_append_right _ (List.mem_append_right _ (List.mem_append_right _ (List.mem_append_left _ (show _ ∈ AL_8 from List.mem_of_getElem? (i := 39) rfl)))))))))
theorem al_360 : (.lays "WideStoreModel" "WideStoreModel" "memories" "I" : Cond) ∈ AL := List.mem_append_right _ (List.mem_append_right _ (List.mem_append_right _ (List.mem_append_right _ (List.mem_append_right _ (List.mem_append_right _ (List.mem_append_right _ (List.mem_append_right _ (List.mem_append_right _ (List.mem_append_left _ (show _ ∈ AL_9 from List.mem_of_getElem? (i := 0) rfl))))))))))
theorem al_361 : (.laysFinal "WideStoreModel" "WideStoreModel" "memory" "[I" : Cond) ∈ AL := List.mem_append_right _ (List.mem_append_right _ (List.mem_append_right _ (List.mem_append_right _ (List.mem_append_right _ (List.mem_append_right _ (List.mem_append_right _ (List.mem_append_right _ (List.mem_append_right _ (List.mem_append_left _ (show _ ∈ AL_9 from List.mem_of_getElem? (i := 1) rfl))))))))))
theorem al_362 : (.lays "WideStoreModel" "WideStoreModel" "logs" "I" : Cond) ∈ AL := List.mem_append_right _ (List.mem_append_right _ (List.mem_append_right _ (List.mem_append_right _ (List.mem_append_right _ (List.mem_append_right _ (List.mem_append_right _ (List.mem_append_right _ (List.mem_append_right _ (List.mem_append_left _ (show _ ∈ AL_9 from List.mem_of_getElem? (i := 2) rfl))))))))))
theorem al_363 : (.lays "WideStoreModel" "WideStoreModel" "safe" "I" : Cond) ∈ AL := List.mem_append_right _ (List.mem_append_right _ (List.mem_append_right _ (List.mem_append_right _ (List.mem_append_right _ (List.mem_append_right _ (List.mem_append_right _ (List.mem_append_right _ (List.mem_append_right _ (List.mem_append_left _ (show _ ∈ AL_9 from List.mem_of_getElem? (i := 3) rfl))))))))))
theorem al_364 : (.laysFinal "WideStoreModel" "WideStoreModel" "log" "[I" : Cond) ∈ AL := List.mem_append_right _ (List.mem_append_right _ (List.mem_append_right _ (List.mem_append_right _ (List.mem_append_right _ (List.mem_append_right _ (List.mem_append_right _ (List.mem_append_right _ (List.mem_append_right _ (List.mem_append_left _ (show _ ∈ AL_9 from List.mem_of_getElem? (i := 4) rfl))))))))))
theorem al_365 : (.lays "WideStoreModel" "WideStoreModel" "flushed" "I" : Cond) ∈ AL := List.mem_append_right _ (List.mem_append_right _ (List.mem_append_right _ (List.mem_append_right _ (List.mem_append_right _ (List.mem_append_right _ (List.mem_append_right _ (List.mem_append_right _ (List.mem_append_right _ (List.mem_append_left _ (show _ ∈ AL_9 from List.mem_of_getElem? (i := 5) rfl))))))))))
theorem al_366 : (.laysFinal "WideStoreModel" "WideStoreModel" "entry" "[I" : Cond) ∈ AL := List.mem_append_right _ (List.mem_append_right _ (List.mem_append_right _ (List.mem_append_right _ (List.mem_append_right _ (List.mem_append_right _ (List.mem_append_right _ (List.mem_append_right _ (List.mem_append_right _ (List.mem_append_left _ (show _ ∈ AL_9 from List.mem_of_getElem? (i := 6) rfl))))))))))
theorem al_367 : (.laysFinal "WideStoreModel" "WideStoreModel" "runOf" "[I" : Cond) ∈ AL := List.mem_append_right _ (List.mem_append_right _ (List.mem_append_right _ (List.mem_append_right _ (List.mem_append_right _ (List.mem_append_right _ (List.mem_append_right _ (List.mem_append_right _ (List.mem_append_right _ (List.mem_append_left _ (show _ ∈ AL_9 from List.mem_of_getElem? (i := 7) rfl))))))))))
theorem al_368 : (.lays "WideStoreModel" "WideStoreModel" "runs" "I" : Cond) ∈ AL := List.mem_append_right _ (List.mem_append_right _ (List.mem_append_right _ (List.mem_append_right _ (List.mem_append_right _ (List.mem_append_right _ (List.mem_append_right _ (List.mem_append_right _ (List.mem_append_right _ (List.mem_append_left _ (show _ ∈ AL_9 from List.mem_of_getElem? (i := 8) rfl))))))))))
theorem al_369 : (.lays "WideStoreModel" "WideStoreModel" "marks" "I" : Cond) ∈ AL := List.mem_append_right _ (List.mem_append_right _ (List.mem_append_right _ (List.mem_append_right _ (List.mem_append_right _ (List.mem_append_right _ (List.mem_append_right _ (List.mem_append_right _ (List.mem_append_right _ (List.mem_append_left _ (show _ ∈ AL_9 from List.mem_of_getElem? (i := 9) rfl))))))))))
theorem al_370 : (.laysFinal "WideStoreModel" "WideStoreModel" "mark" "[I" : Cond) ∈ AL := List.mem_append_right _ (List.mem_append_right _ (List.mem_append_right _ (List.mem_append_right _ (List.mem_append_right _ (List.mem_append_right _ (List.mem_append_right _ (List.mem_append_right _ (List.mem_append_right _ (List.mem_append_left _ (show _ ∈ AL_9 from List.mem_of_getElem? (i := 10) rfl))))))))))
theorem al_371 : (.laysFinal "WideStoreModel" "WideStoreModel" "tier" "[I" : Cond) ∈ AL := List.mem_append_right _ (List.mem_append_right _ (List.mem_append_right _ (List.mem_append_right _ (List.mem_append_right _ (List.mem_append_right _ (List.mem_append_right _ (List.mem_append_right _ (List.mem_append_right _ (List.mem_append_left _ (show _ ∈ AL_9 from List.mem_of_getElem? (i := 11) rfl))))))))))
theorem al_372 : (.laysFinal "WideStoreModel" "WideStoreModel" "cell" "[I" : Cond) ∈ AL := List.mem_append_right _ (List.mem_append_right _ (List.mem_append_right _ (List.mem_append_right _ (List.mem_append_right _ (List.mem_append_right _ (List.mem_append_right _ (List.mem_append_right _ (List.mem_append_right _ (List.mem_append_left _ (show _ ∈ AL_9 from List.mem_of_getElem? (i := 12) rfl))))))))))
theorem al_373 : (.arrayClass .int : Cond) ∈ AL := List.mem_append_right _ (List.mem_append_right _ (List.mem_append_right _ (List.mem_append_right _ (List.mem_append_right _ (List.mem_append_right _ (List.mem_append_right _ (List.mem_append_right _ (List.mem_append_right _ (List.mem_append_left _ (show _ ∈ AL_9 from List.mem_of_getElem? (i := 13) rfl))))))))))
theorem al_374 : (.methodLink "WideStoreLaw" 25 yXM_put : Cond) ∈ AL := List.mem_append_right _ (List.mem_append_right _ (List.mem_append_right _ (List.mem_append_right _ (List.mem_append_right _ (List.mem_append_right _ (List.mem_append_right _ (List.mem_append_right _ (List.mem_append_right _ (List.mem_append_left _ (show _ ∈ AL_9 from List.mem_of_getElem? (i := 14) rfl))))))))))
theorem al_375 : (.instanceMethod yXM_put : Cond) ∈ AL := List.mem_append_right _ (List.mem_append_right _ (List.mem_append_right _ (List.mem_append_right _ (List.mem_append_right _ (List.mem_append_right _ (List.mem_append_right _ (List.mem_append_right _ (List.mem_append_right _ (List.mem_append_left _ (show _ ∈ AL_9 from List.mem_of_getElem? (i := 15) rfl))))))))))
theorem al_376 : (.selects "WideStoreModel" yXM_put yXM_put : Cond) ∈ AL := List.mem_append_right _ (List.mem_append_right _ (List.mem_append_right _ (List.mem_append_right _ (List.mem_append_right _ (List.mem_append_right _ (List.mem_append_right _ (List.mem_append_right _ (List.mem_append_right _ (List.mem_append_left _ (show _ ∈ AL_9 from List.mem_of_getElem? (i := 16) rfl))))))))))
theorem al_377 : (.code yXM_put cXM_put 6 (some .boolean) : Cond) ∈ AL := List.mem_append_right _ (List.mem_append_right _ (List.mem_append_right _ (List.mem_append_right _ (List.mem_append_right _ (List.mem_append_right _ (List.mem_append_right _ (List.mem_append_right _ (List.mem_append_right _ (List.mem_append_left _ (show _ ∈ AL_9 from List.mem_of_getElem? (i := 17) rfl))))))))))
theorem al_378 : (.methodLink "WideStoreModel" 67 yXM_isPlace : Cond) ∈ AL := List.mem_append_right _ (List.mem_append_right _ (List.mem_append_right _ (List.mem_append_right _ (List.mem_append_right _ (List.mem_append_right _ (List.mem_append_right _ (List.mem_append_right _ (List.mem_append_right _ (List.mem_append_left _ (show _ ∈ AL_9 from List.mem_of_getElem? (i := 18) rfl))))))))))
theorem al_379 : (.static yXM_isPlace : Cond) ∈ AL := List.mem_append_right _ (List.mem_append_right _ (List.mem_append_right _ (List.mem_append_right _ (List.mem_append_right _ (List.mem_append_right _ (List.mem_append_right _ (List.mem_append_right _ (List.mem_append_right _ (List.mem_append_left _ (show _ ∈ AL_9 from List.mem_of_getElem? (i := 19) rfl))))))))))
theorem al_380 : (.code yXM_isPlace cXM_isPlace 2 (some .boolean) : Cond) ∈ AL := List.mem_append_right _ (List.mem_append_right _ (List.mem_append_right _ (List.mem_append_right _ (List.mem_append_right _ (List.mem_append_right _ (List.mem_append_right _ (List.mem_append_right _ (List.mem_append_right _ (List.mem_append_left _ (show _ ∈ AL_9 from List.mem_of_getElem? (i := 20) rfl))))))))))
theorem al_381 : (.methodLink "WideStoreModel" 71 yXM_isStamp : Cond) ∈ AL := List.mem_append_right _ (List.mem_append_right _ (List.mem_append_right _ (List.mem_append_right _ (List.mem_append_right _ (List.mem_append_right _ (List.mem_append_right _ (List.mem_append_right _ (List.mem_append_right _ (List.mem_append_left _ (show _ ∈ AL_9 from List.mem_of_getElem? (i := 21) rfl))))))))))
theorem al_382 : (.static yXM_isStamp : Cond) ∈ AL := List.mem_append_right _ (List.mem_append_right _ (List.mem_append_right _ (List.mem_append_right _ (List.mem_append_right _ (List.mem_append_right _ (List.mem_append_right _ (List.mem_append_right _ (List.mem_append_right _ (List.mem_append_left _ (show _ ∈ AL_9 from List.mem_of_getElem? (i := 22) rfl))))))))))
theorem al_383 : (.code yXM_isStamp cXM_isStamp 1 (some .boolean) : Cond) ∈ AL := List.mem_append_right _ (List.mem_append_right _ (List.mem_append_right _ (List.mem_append_right _ (List.mem_append_right _ (List.mem_append_right _ (List.mem_append_right _ (List.mem_append_right _ (List.mem_append_right _ (List.mem_append_left _ (show _ ∈ AL_9 from List.mem_of_getElem? (i := 23) rfl))))))))))
theorem al_384 : (.methodLink "WideStoreModel" 78 yXM_add : Cond) ∈ AL := List.mem_append_right _ (List.mem_append_right _ (List.mem_append_right _ (List.mem_append_right _ (List.mem_append_right _ (List.mem_append_right _ (List.mem_append_right _ (List.mem_append_right _ (List.mem_append_right _ (List.mem_append_left _ (show _ ∈ AL_9 from List.mem_of_getElem? (i := 24) rfl))))))))))
theorem al_385 : (.instanceMethod yXM_add : Cond) ∈ AL := List.mem_append_right _ (List.mem_append_right _ (List.mem_append_right _ (List.mem_append_right _ (List.mem_append_right _ (List.mem_append_right _ (List.mem_append_right _ (List.mem_append_right _ (List.mem_append_right _ (List.mem_append_left _ (show _ ∈ AL_9 from List.mem_of_getElem? (i := 25) rfl))))))))))
theorem al_386 : (.code yXM_add cXM_add 10 (some .boolean) : Cond) ∈ AL := List.mem_append_right _ (List.mem_append_right _ (List.mem_append_right _ (List.mem_append_right _ (List.mem_append_right _ (List.mem_append_right _ (List.mem_append_right _ (List.mem_append_right _ (List.mem_append_right _ (List.mem_append_left _ (show _ ∈ AL_9 from List.mem_of_getElem? (i := 26) rfl))))))))))
theorem al_387 : (.methodLink "WideStoreModel" 59 yXM_remember : Cond) ∈ AL := List.mem_append_right _ (List.mem_append_right _ (List.mem_append_right _ (List.mem_append_right _ (List.mem_append_right _ (List.mem_append_right _ (List.mem_append_right _ (List.mem_append_right _ (List.mem_append_right _ (List.mem_append_left _ (show _ ∈ AL_9 from List.mem_of_getElem? (i := 27) rfl))))))))))
theorem al_388 : (.instanceMethod yXM_remember : Cond) ∈ AL := List.mem_append_right _ (List.mem_append_right _ (List.mem_append_right _ (List.mem_append_right _ (List.mem_append_right _ (List.mem_append_right _ (List.mem_append_right _ (List.mem_append_right _ (List.mem_append_right _ (List.mem_append_left _ (show _ ∈ AL_9 from List.mem_of_getElem? (i := 28) rfl))))))))))
theorem al_389 : (.code yXM_remember cXM_remember 3 none : Cond) ∈ AL := List.mem_append_right _ (List.mem_append_right _ (List.mem_append_right _ (List.mem_append_right _ (List.mem_append_right _ (List.mem_append_right _ (List.mem_append_right _ (List.mem_append_right _ (List.mem_append_right _ (List.mem_append_left _ (show _ ∈ AL_9 from List.mem_of_getElem? (i := 29) rfl))))))))))
theorem al_390 : (.methodLink "WideStoreModel" 45 yXM_alike : Cond) ∈ AL := List.mem_append_right _ (List.mem_append_right _ (List.mem_append_right _ (List.mem_append_right _ (List.mem_append_right _ (List.mem_append_right _ (List.mem_append_right _ (List.mem_append_right _ (List.mem_append_right _ (List.mem_append_left _ (show _ ∈ AL_9 from List.mem_of_getElem? (i := 30) rfl))))))))))
theorem al_391 : (.static yXM_alike : Cond) ∈ AL := List.mem_append_right _ (List.mem_append_right _ (List.mem_append_right _ (List.mem_append_right _ (List.mem_append_right _ (List.mem_append_right _ (List.mem_append_right _ (List.mem_append_right _ (List.mem_append_right _ (List.mem_append_left _ (show _ ∈ AL_9 from List.mem_of_getElem? (i := 31) rfl))))))))))
theorem al_392 : (.code yXM_alike cXM_alike 5 (some .boolean) : Cond) ∈ AL := List.mem_append_right _ (List.mem_append_right _ (List.mem_append_right _ (List.mem_append_right _ (List.mem_append_right _ (List.mem_append_right _ (List.mem_append_right _ (List.mem_append_right _ (List.mem_append_right _ (List.mem_append_left _ (show _ ∈ AL_9 from List.mem_of_getElem? (i := 32) rfl))))))))))
theorem al_393 : (.methodLink "WideStoreModel" 38 yXM_point : Cond) ∈ AL := List.mem_append_right _ (List.mem_append_right _ (List.mem_append_right _ (List.mem_append_right _ (List.mem_append_right _ (List.mem_append_right _ (List.mem_append_right _ (List.mem_append_right _ (List.mem_append_right _ (List.mem_append_left _ (show _ ∈ AL_9 from List.mem_of_getElem? (i := 33) rfl))))))))))
theorem al_394 : (.static yXM_point : Cond) ∈ AL := List.mem_append_right _ (List.mem_append_right _ (List.mem_append_right _ (List.mem_append_right _ (List.mem_append_right _ (List.mem_append_right _ (List.mem_append_right _ (List.mem_append_right _ (List.mem_append_right _ (List.mem_append_left _ (show _ ∈ AL_9 from List.mem_of_getElem? (i := 34) rfl))))))))))
theorem al_395 : (.code yXM_point cXM_point 2 (some .boolean) : Cond) ∈ AL := List.mem_append_right _ (List.mem_append_right _ (List.mem_append_right _ (List.mem_append_right _ (List.mem_append_right _ (List.mem_append_right _ (List.mem_append_right _ (List.mem_append_right _ (List.mem_append_right _ (List.mem_append_left _ (show _ ∈ AL_9 from List.mem_of_getElem? (i := 35) rfl))))))))))
theorem al_396 : (.methodLink "WideStoreModel" 49 yXM_wins : Cond) ∈ AL := List.mem_append_right _ (List.mem_append_right _ (List.mem_append_right _ (List.mem_append_right _ (List.mem_append_right _ (List.mem_append_right _ (List.mem_append_right _ (List.mem_append_right _ (List.mem_append_right _ (List.mem_append_left _ (show _ ∈ AL_9 from List.mem_of_getElem? (i := 36) rfl))))))))))
theorem al_397 : (.static yXM_wins : Cond) ∈ AL := List.mem_append_right _ (List.mem_append_right _ (List.mem_append_right _ (List.mem_append_right _ (List.mem_append_right _ (List.mem_append_right _ (List.mem_append_right _ (List.mem_append_right _ (List.mem_append_right _ (List.mem_append_left _ (show _ ∈ AL_9 from List.mem_of_getElem? (i := 37) rfl))))))))))
theorem al_398 : (.code yXM_wins cXM_wins 4 (some .boolean) : Cond) ∈ AL := List.mem_append_right _ (List.mem_append_right _ (List.mem_append_right _ (List.mem_append_right _ (List.mem_append_right _ (List.mem_append_right _ (List.mem_append_right _ (List.mem_append_right _ (List.mem_append_right _ (List.mem_append_left _ (show _ ∈ AL_9 from List.mem_of_getElem? (i := 38) rfl))))))))))
theorem al_399 : (.methodLink "WideStoreModel" 52 yXM_copy : Cond) ∈ AL := List.mem_append_right _ (List.mem_append_right _ (List.mem_append_right _ (List.mem_append_right _ (List.mem_append_right _ (List.mem_append_right _ (List.mem_append_right _ (List.mem_append_right _ (List.mem_append_right _ (List.mem_append_left _ (show _ ∈ AL_9 from List.mem_of_getElem? (i := 39) rfl))))))))))
theorem al_400 : (.static yXM_copy : Cond) ∈ AL := List.mem_append_right _ (List.mem_append_right _ (List.mem_append_right _ (List.mem_append_right _ (List.mem_append_right _ (List.mem_append_right _ (List.mem_append_right _ (List.mem_append_right _ (List.mem_append_right _ (List.mem_append_right _ (List.mem_append_left _ (show _ ∈ AL_10 from List.mem_of_getElem? (i := 0) rfl)))))))))))
theorem al_401 : (.code yXM_copy cXM_copy 5 none : Cond) ∈ AL := List.mem_append_right _ (List.mem_append_right _ (List.mem_append_right _ (List.mem_append_right _ (List.mem_append_right _ (List.mem_append_right _ (List.mem_append_right _ (List.mem_append_right _ (List.mem_append_right _ (List.mem_append_right _ (List.mem_append_left _ (show _ ∈ AL_10 from List.mem_of_getElem? (i := 1) rfl)))))))))))
theorem al_402 : (.methodLink "WideStoreModel" 63 yXM_flushAll : Cond) ∈ AL := List.mem_append_right _ (List.mem_append_right _ (List.mem_append_right _ (List.mem_append_right _ (List.mem_append_right _ (List.mem_append_right _ (List.mem_append_right _ (List.mem_append_right _ (List.mem_append_right _ (List.mem_append_right _ (List.mem_append_left _ (show _ ∈ AL_10 from List.mem_of_getElem? (i := 2) rfl)))))))))))
theorem al_403 : (.instanceMethod yXM_flushAll : Cond) ∈ AL := List.mem_append_right _ (List.mem_append_right _ (List.mem_append_right _ (List.mem_append_right _ (List.mem_append_right _ (List.mem_append_right _ (List.mem_append_right _ (List.mem_append_right _ (List.mem_append_right _ (List.mem_append_right _ (List.mem_append_left _ (show _ ∈ AL_10 from List.mem_of_getElem? (i := 3) rfl)))))))))))
theorem al_404 : (.code yXM_flushAll cXM_flushAll 3 (some .int) : Cond) ∈ AL := List.mem_append_right _ (List.mem_append_right _ (List.mem_append_right _ (List.mem_append_right _ (List.mem_append_right _ (List.mem_append_right _ (List.mem_append_right _ (List.mem_append_right _ (List.mem_append_right _ (List.mem_append_right _ (List.mem_append_left _ (show _ ∈ AL_10 from List.mem_of_getElem? (i := 4) rfl)))))))))))
theorem al_405 : (.methodLink "WideStoreModel" 94 yXM_join : Cond) ∈ AL := List.mem_append_right _ (List.mem_append_right _ (List.mem_append_right _ (List.mem_append_right _ (List.mem_append_right _ (List.mem_append_right _ (List.mem_append_right _ (List.mem_append_right _ (List.mem_append_right _ (List.mem_append_right _ (List.mem_append_left _ (show _ ∈ AL_10 from List.mem_of_getElem? (i := 5) rfl)))))))))))
theorem al_406 : (.instanceMethod yXM_join : Cond) ∈ AL := List.mem_append_right _ (List.mem_append_right _ (List.mem_append_right _ (List.mem_append_right _ (List.mem_append_right _ (List.mem_append_right _ (List.mem_append_right _ (List.mem_append_right _ (List.mem_append_right _ (List.mem_append_right _ (List.mem_append_left _ (show _ ∈ AL_10 from List.mem_of_getElem? (i := 6) rfl)))))))))))
theorem al_407 : (.code yXM_join cXM_join 8 none : Cond) ∈ AL := List.mem_append_right _ (List.mem_append_right _ (List.mem_append_right _ (List.mem_append_right _ (List.mem_append_right _ (List.mem_append_right _ (List.mem_append_right _ (List.mem_append_right _ (List.mem_append_right _ (List.mem_append_right _ (List.mem_append_left _ (show _ ∈ AL_10 from List.mem_of_getElem? (i := 7) rfl)))))))))))
theorem al_408 : (.methodLink "WideStoreModel" 98 yXM_covers : Cond) ∈ AL := List.mem_append_right _ (List.mem_append_right _ (List.mem_append_right _ (List.mem_append_right _ (List.mem_append_right _ (List.mem_append_right _ (List.mem_append_right _ (List.mem_append_right _ (List.mem_append_right _ (List.mem_append_right _ (List.mem_append_left _ (show _ ∈ AL_10 from List.mem_of_getElem? (i := 8) rfl)))))))))))
theorem al_409 : (.static yXM_covers : Cond) ∈ AL := List.mem_append_right _ (List.mem_append_right _ (List.mem_append_right _ (List.mem_append_right _ (List.mem_append_right _ (List.mem_append_right _ (List.mem_append_right _ (List.mem_append_right _ (List.mem_append_right _ (List.mem_append_right _ (List.mem_append_left _ (show _ ∈ AL_10 from List.mem_of_getElem? (i := 9) rfl)))))))))))
theorem al_410 : (.code yXM_covers cXM_covers 5 (some .boolean) : Cond) ∈ AL := List.mem_append_right _ (List.mem_append_right _ (List.mem_append_right _ (List.mem_append_right _ (List.mem_append_right _ (List.mem_append_right _ (List.mem_append_right _ (List.mem_append_right _ (List.mem_append_right _ (List.mem_append_right _ (List.mem_append_left _ (show _ ∈ AL_10 from List.mem_of_getElem? (i := 10) rfl)))))))))))
theorem al_411 : (.methodLink "WideStoreLaw" 30 yXM_delete : Cond) ∈ AL := List.mem_append_right _ (List.mem_append_right _ (List.mem_append_right _ (List.mem_append_right _ (List.mem_append_right _ (List.mem_append_right _ (List.mem_append_right _ (List.mem_append_right _ (List.mem_append_right _ (List.mem_append_right _ (List.mem_append_left _ (show _ ∈ AL_10 from List.mem_of_getElem? (i := 11) rfl)))))))))))
theorem al_412 : (.instanceMethod yXM_delete : Cond) ∈ AL := List.mem_append_right _ (List.mem_append_right _ (List.mem_append_right _ (List.mem_append_right _ (List.mem_append_right _ (List.mem_append_right _ (List.mem_append_right _ (List.mem_append_right _ (List.mem_append_right _ (List.mem_append_right _ (List.mem_append_left _ (show _ ∈ AL_10 from List.mem_of_getElem? (i := 12) rfl)))))))))))
theorem al_413 : (.selects "WideStoreModel" yXM_delete yXM_delete : Cond) ∈ AL := List.mem_append_right _ (List.mem_append_right _ (List.mem_append_right _ (List.mem_append_right _ (List.mem_append_right _ (List.mem_append_right _ (List.mem_append_right _ (List.mem_append_right _ (List.mem_append_right _ (List.mem_append_right _ (List.mem_append_left _ (show _ ∈ AL_10 from List.mem_of_getElem? (i := 13) rfl)))))))))))
theorem al_414 : (.code yXM_delete cXM_delete 4 (some .boolean) : Cond) ∈ AL := List.mem_append_right _ (List.mem_append_right _ (List.mem_append_right _ (List.mem_append_right _ (List.mem_append_right _ (List.mem_append_right _ (List.mem_append_right _ (List.mem_append_right _ (List.mem_append_right _ (List.mem_append_right _ (List.mem_append_left _ (show _ ∈ AL_10 from List.mem_of_getElem? (i := 14) rfl)))))))))))
theorem al_415 : (.methodLink "WideStoreLaw" 35 yXM_wipe : Cond) ∈ AL := List.mem_append_right _ (List.mem_append_right _ (List.mem_append_right _ (List.mem_append_right _ (List.mem_append_right _ (List.mem_append_right _ (List.mem_append_right _ (List.mem_append_right _ (List.mem_append_right _ (List.mem_append_right _ (List.mem_append_left _ (show _ ∈ AL_10 from List.mem_of_getElem? (i := 15) rfl)))))))))))
theorem al_416 : (.instanceMethod yXM_wipe : Cond) ∈ AL := List.mem_append_right _ (List.mem_append_right _ (List.mem_append_right _ (List.mem_append_right _ (List.mem_append_right _ (List.mem_append_right _ (List.mem_append_right _ (List.mem_append_right _ (List.mem_append_right _ (List.mem_append_right _ (List.mem_append_left _ (show _ ∈ AL_10 from List.mem_of_getElem? (i := 16) rfl)))))))))))
theorem al_417 : (.selects "WideStoreModel" yXM_wipe yXM_wipe : Cond) ∈ AL := List.mem_append_right _ (List.mem_append_right _ (List.mem_append_right _ (List.mem_append_right _ (List.mem_append_right _ (List.mem_append_right _ (List.mem_append_right _ (List.mem_append_right _ (List.mem_append_right _ (List.mem_append_right _ (List.mem_append_left _ (show _ ∈ AL_10 from List.mem_of_getElem? (i := 17) rfl)))))))))))
theorem al_418 : (.code yXM_wipe cXM_wipe 5 (some .boolean) : Cond) ∈ AL := List.mem_append_right _ (List.mem_append_right _ (List.mem_append_right _ (List.mem_append_right _ (List.mem_append_right _ (List.mem_append_right _ (List.mem_append_right _ (List.mem_append_right _ (List.mem_append_right _ (List.mem_append_right _ (List.mem_append_left _ (show _ ∈ AL_10 from List.mem_of_getElem? (i := 18) rfl)))))))))))
theorem al_419 : (.methodLink "WideStoreLaw" 58 yXM_flush : Cond) ∈ AL := List.mem_append_right _ (List.mem_append_right _ (List.mem_append_right _ (List.mem_append_right _ (List.mem_append_right _ (List.mem_append_right _ (List.mem_append_right _ (List.mem_append_right _ (List.mem_append_right _ (List.mem_append_right _ (List.mem_append_left _ (show _ ∈ AL_10 from List.mem_of_getElem? (i := 19) rfl)))))))))))
theorem al_420 : (.instanceMethod yXM_flush : Cond) ∈ AL := List.mem_append_right _ (List.mem_append_right _ (List.mem_append_right _ (List.mem_append_right _ (List.mem_append_right _ (List.mem_append_right _ (List.mem_append_right _ (List.mem_append_right _ (List.mem_append_right _ (List.mem_append_right _ (List.mem_append_left _ (show _ ∈ AL_10 from List.mem_of_getElem? (i := 20) rfl)))))))))))
theorem al_421 : (.selects "WideStoreModel" yXM_flush yXM_flush : Cond) ∈ AL := List.mem_append_right _ (List.mem_append_right _ (List.mem_append_right _ (List.mem_append_right _ (List.mem_append_right _ (List.mem_append_right _ (List.mem_append_right _ (List.mem_append_right _ (List.mem_append_right _ (List.mem_append_right _ (List.mem_append_left _ (show _ ∈ AL_10 from List.mem_of_getElem? (i := 21) rfl)))))))))))
theorem al_422 : (.code yXM_flush cXM_flush 1 (some .int) : Cond) ∈ AL := List.mem_append_right _ (List.mem_append_right _ (List.mem_append_right _ (List.mem_append_right _ (List.mem_append_right _ (List.mem_append_right _ (List.mem_append_right _ (List.mem_append_right _ (List.mem_append_right _ (List.mem_append_right _ (List.mem_append_left _ (show _ ∈ AL_10 from List.mem_of_getElem? (i := 22) rfl)))))))))))
theorem al_423 : (.methodLink "WideStoreLaw" 62 yXM_merge : Cond) ∈ AL := List.mem_append_right _ (List.mem_append_right _ (List.mem_append_right _ (List.mem_append_right _ (List.mem_append_right _ (List.mem_append_right _ (List.mem_append_right _ (List.mem_append_right _ (List.mem_append_right _ (List.mem_append_right _ (List.mem_append_left _ (show _ ∈ AL_10 from List.mem_of_getElem? (i := 23) rfl)))))))))))
theorem al_424 : (.instanceMethod yXM_merge : Cond) ∈ AL := List.mem_append_right _ (List.mem_append_right _ (List.mem_append_right _ (List.mem_append_right _ (List.mem_append_right _ (List.mem_append_right _ (List.mem_append_right _ (List.mem_append_right _ (List.mem_append_right _ (List.mem_append_right _ (List.mem_append_left _ (show _ ∈ AL_10 from List.mem_of_getElem? (i := 24) rfl)))))))))))
theorem al_425 : (.selects "WideStoreModel" yXM_merge yXM_merge : Cond) ∈ AL := List.mem_append_right _ (List.mem_append_right _ (List.mem_append_right _ (List.mem_append_right _ (List.mem_append_right _ (List.mem_append_right _ (List.mem_append_right _ (List.mem_append_right _ (List.mem_append_right _ (List.mem_append_right _ (List.mem_append_left _ (show _ ∈ AL_10 from List.mem_of_getElem? (i := 25) rfl)))))))))))
theorem al_426 : (.code yXM_merge cXM_merge 3 (some .int) : Cond) ∈ AL := List.mem_append_right _ (List.mem_append_right _ (List.mem_append_right _ (List.mem_append_right _ (List.mem_append_right _ (List.mem_append_right _ (List.mem_append_right _ (List.mem_append_right _ (List.mem_append_right _ (List.mem_append_right _ (List.mem_append_left _ (show _ ∈ AL_10 from List.mem_of_getElem? (i := 26) rfl)))))))))))
theorem al_427 : (.methodLink "WideStoreModel" 102 yXM_run : Cond) ∈ AL := List.mem_append_right _ (List.mem_append_right _ (List.mem_append_right _ (List.mem_append_right _ (List.mem_append_right _ (List.mem_append_right _ (List.mem_append_right _ (List.mem_append_right _ (List.mem_append_right _ (List.mem_append_right _ (List.mem_append_left _ (show _ ∈ AL_10 from List.mem_of_getElem? (i := 27) rfl)))))))))))
theorem al_428 : (.instanceMethod yXM_run : Cond) ∈ AL := List.mem_append_right _ (List.mem_append_right _ (List.mem_append_right _ (List.mem_append_right _ (List.mem_append_right _ (List.mem_append_right _ (List.mem_append_right _ (List.mem_append_right _ (List.mem_append_right _ (List.mem_append_right _ (List.mem_append_left _ (show _ ∈ AL_10 from List.mem_of_getElem? (i := 28) rfl)))))))))))
theorem al_429 : (.selects "WideStoreModel" yXM_run yXM_run : Cond) ∈ AL := List.mem_append_right _ (List.mem_append_right _ (List.mem_append_right _ (List.mem_append_right _ (List.mem_append_right _ (List.mem_append_right _ (List.mem_append_right _ (List.mem_append_right _ (List.mem_append_right _ (List.mem_append_right _ (List.mem_append_left _ (show _ ∈ AL_10 from List.mem_of_getElem? (i := 29) rfl)))))))))))
theorem al_430 : (.code yXM_run cXM_run 5 (some .int) : Cond) ∈ AL := List.mem_append_right _ (List.mem_append_right _ (List.mem_append_right _ (List.mem_append_right _ (List.mem_append_right _ (List.mem_append_right _ (List.mem_append_right _ (List.mem_append_right _ (List.mem_append_right _ (List.mem_append_right _ (List.mem_append_left _ (show _ ∈ AL_10 from List.mem_of_getElem? (i := 30) rfl)))))))))))
theorem al_431 : (.methodLink "WideStoreLaw" 40 yXM_get : Cond) ∈ AL := List.mem_append_right _ (List.mem_append_right _ (List.mem_append_right _ (List.mem_append_right _ (List.mem_append_right _ (List.mem_append_right _ (List.mem_append_right _ (List.mem_append_right _ (List.mem_append_right _ (List.mem_append_right _ (List.mem_append_left _ (show _ ∈ AL_10 from List.mem_of_getElem? (i := 31) rfl)))))))))))
theorem al_432 : (.instanceMethod yXM_get : Cond) ∈ AL := List.mem_append_right _ (List.mem_append_right _ (List.mem_append_right _ (List.mem_append_right _ (List.mem_append_right _ (List.mem_append_right _ (List.mem_append_right _ (List.mem_append_right _ (List.mem_append_right _ (List.mem_append_right _ (List.mem_append_left _ (show _ ∈ AL_10 from List.mem_of_getElem? (i := 32) rfl)))))))))))
theorem al_433 : (.selects "WideStoreModel" yXM_get yXM_get : Cond) ∈ AL := List.mem_append_right _ (List.mem_append_right _ (List.mem_append_right _ (List.mem_append_right _ (List.mem_append_right _ (List.mem_append_right _ (List.mem_append_right _ (List.mem_append_right _ (List.mem_append_right _ (List.mem_append_right _ (List.mem_append_left _ (show _ ∈ AL_10 from List.mem_of_getElem? (i := 33) rfl)))))))))))
theorem al_434 : (.code yXM_get cXM_get 3 (some .int) : Cond) ∈ AL := List.mem_append_right _ (List.mem_append_right _ (List.mem_append_right _ (List.mem_append_right _ (List.mem_append_right _ (List.mem_append_right _ (List.mem_append_right _ (List.mem_append_right _ (List.mem_append_right _ (List.mem_append_right _ (List.mem_append_left _ (show _ ∈ AL_10 from List.mem_of_getElem? (i := 34) rfl)))))))))))
theorem al_435 : (.methodLink "WideStoreModel" 110 yXM_seen : Cond) ∈ AL := List.mem_append_right _ (List.mem_append_right _ (List.mem_append_right _ (List.mem_append_right _ (List.mem_append_right _ (List.mem_append_right _ (List.mem_append_right _ (List.mem_append_right _ (List.mem_append_right _ (List.mem_append_right _ (List.mem_append_left _ (show _ ∈ AL_10 from List.mem_of_getElem? (i := 35) rfl)))))))))))
theorem al_436 : (.instanceMethod yXM_seen : Cond) ∈ AL := List.mem_append_right _ (List.mem_append_right _ (List.mem_append_right _ (List.mem_append_right _ (List.mem_append_right _ (List.mem_append_right _ (List.mem_append_right _ (List.mem_append_right _ (List.mem_append_right _ (List.mem_append_right _ (List.mem_append_left _ (show _ ∈ AL_10 from List.mem_of_getElem? (i := 36) rfl)))))))))))
theorem al_437 : (.code yXM_seen cXM_seen 5 (some .boolean) : Cond) ∈ AL := List.mem_append_right _ (List.mem_append_right _ (List.mem_append_right _ (List.mem_append_right _ (List.mem_append_right _ (List.mem_append_right _ (List.mem_append_right _ (List.mem_append_right _ (List.mem_append_right _ (List.mem_append_right _ (List.mem_append_left _ (show _ ∈ AL_10 from List.mem_of_getElem? (i := 37) rfl)))))))))))
theorem al_438 : (.methodLink "WideStoreModel" 107 yXM_winner : Cond) ∈ AL := List.mem_append_right _ (List.mem_append_right _ (List.mem_append_right _ (List.mem_append_right _ (List.mem_append_right _ (List.mem_append_right _ (List.mem_append_right _ (List.mem_append_right _ (List.mem_append_right _ (List.mem_append_right _ (List.mem_append_left _ (show _ ∈ AL_10 from List.mem_of_getElem? (i := 38) rfl)))))))))))
theorem al_439 : (.instanceMethod yXM_winner : Cond) ∈ AL := List.mem_append_right _ (List.mem_append_right _ (List.mem_append_right _ (List.mem_append_right _ (List.mem_append_right _ (List.mem_append_right _ (List.mem_append_right _ (List.mem_append_right _ (List.mem_append_right _ (List.mem_append_right _ (List.mem_append_left _ (show _ ∈ AL_10 from List.mem_of_getElem? (i := 39) rfl)))))))))))
theorem al_440 : (.code yXM_winner cXM_winner 6 (some .int) : Cond) ∈ AL := List.mem_append_right _ (List.mem_append_right _ (List.mem_append_right _ (List.mem_append_right _ (List.mem_append_right _ (List.mem_append_right _ (List.mem_append_right _ (List.mem_append_right _ (List.mem_append_right _ (List.mem_append_right _ (List.mem_append_right _ ((show _ ∈ AL_11 from List.mem_of_getElem? (i := 0) rfl))))))))))))
theorem al_441 : (.constant "WideStoreModel" 106 (-1000000) : Cond) ∈ AL := List.mem_append_right _ (List.mem_append_right _ (List.mem_append_right _ (List.mem_append_right _ (List.mem_append_right _ (List.mem_append_right _ (List.mem_append_right _ (List.mem_append_right _ (List.mem_append_right _ (List.mem_append_right _ (List.mem_append_right _ ((show _ ∈ AL_11 from List.mem_of_getElem? (i := 1) rfl))))))))))))
theorem al_442 : (.methodLink "WideStoreLaw" 44 yXM_stamp : Cond) ∈ AL := List.mem_append_right _ (List.mem_append_right _ (List.mem_append_right _ (List.mem_append_right _ (List.mem_append_right _ (List.mem_append_right _ (List.mem_append_right _ (List.mem_append_right _ (List.mem_append_right _ (List.mem_append_right _ (List.mem_append_right _ ((show _ ∈ AL_11 from List.mem_of_getElem? (i := 2) rfl))))))))))))
theorem al_443 : (.instanceMethod yXM_stamp : Cond) ∈ AL := List.mem_append_right _ (List.mem_append_right _ (List.mem_append_right _ (List.mem_append_right _ (List.mem_append_right _ (List.mem_append_right _ (List.mem_append_right _ (List.mem_append_right _ (List.mem_append_right _ (List.mem_append_right _ (List.mem_append_right _ ((show _ ∈ AL_11 from List.mem_of_getElem? (i := 3) rfl))))))))))))
theorem al_444 : (.selects "WideStoreModel" yXM_stamp yXM_stamp : Cond) ∈ AL := List.mem_append_right _ (List.mem_append_right _ (List.mem_append_right _ (List.mem_append_right _ (List.mem_append_right _ (List.mem_append_right _ (List.mem_append_right _ (List.mem_append_right _ (List.mem_append_right _ (List.mem_append_right _ (List.mem_append_right _ ((show _ ∈ AL_11 from List.mem_of_getElem? (i := 4) rfl))))))))))))
theorem al_445 : (.code yXM_stamp cXM_stamp 3 (some .int) : Cond) ∈ AL := List.mem_append_right _ (List.mem_append_right _ (List.mem_append_right _ (List.mem_append_right _ (List.mem_append_right _ (List.mem_append_right _ (List.mem_append_right _ (List.mem_append_right _ (List.mem_append_right _ (List.mem_append_right _ (List.mem_append_right _ ((show _ ∈ AL_11 from List.mem_of_getElem? (i := 5) rfl))))))))))))
theorem al_446 : (.methodLink "WideStoreLaw" 48 yXM_next : Cond) ∈ AL := List.mem_append_right _ (List.mem_append_right _ (List.mem_append_right _ (List.mem_append_right _ (List.mem_append_right _ (List.mem_append_right _ (List.mem_append_right _ (List.mem_append_right _ (List.mem_append_right _ (List.mem_append_right _ (List.mem_append_right _ ((show _ ∈ AL_11 from List.mem_of_getElem? (i := 6) rfl))))))))))))
theorem al_447 : (.instanceMethod yXM_next : Cond) ∈ AL := List.mem_append_right _ (List.mem_append_right _ (List.mem_append_right _ (List.mem_append_right _ (List.mem_append_right _ (List.mem_append_right _ (List.mem_append_right _ (List.mem_append_right _ (List.mem_append_right _ (List.mem_append_right _ (List.mem_append_right _ ((show _ ∈ AL_11 from List.mem_of_getElem? (i := 7) rfl))))))))))))
theorem al_448 : (.selects "WideStoreModel" yXM_next yXM_next : Cond) ∈ AL := List.mem_append_right _ (List.mem_append_right _ (List.mem_append_right _ (List.mem_append_right _ (List.mem_append_right _ (List.mem_append_right _ (List.mem_append_right _ (List.mem_append_right _ (List.mem_append_right _ (List.mem_append_right _ (List.mem_append_right _ ((show _ ∈ AL_11 from List.mem_of_getElem? (i := 8) rfl))))))))))))
theorem al_449 : (.code yXM_next cXM_next 4 (some .int) : Cond) ∈ AL := List.mem_append_right _ (List.mem_append_right _ (List.mem_append_right _ (List.mem_append_right _ (List.mem_append_right _ (List.mem_append_right _ (List.mem_append_right _ (List.mem_append_right _ (List.mem_append_right _ (List.mem_append_right _ (List.mem_append_right _ ((show _ ∈ AL_11 from List.mem_of_getElem? (i := 9) rfl))))))))))))
theorem al_450 : (.methodLink "WideStoreLaw" 53 yXM_nextRow : Cond) ∈ AL := List.mem_append_right _ (List.mem_append_right _ (List.mem_append_right _ (List.mem_append_right _ (List.mem_append_right _ (List.mem_append_right _ (List.mem_append_right _ (List.mem_append_right _ (List.mem_append_right _ (List.mem_append_right _ (List.mem_append_right _ ((show _ ∈ AL_11 from List.mem_of_getElem? (i := 10) rfl))))))))))))
theorem al_451 : (.instanceMethod yXM_nextRow : Cond) ∈ AL := List.mem_append_right _ (List.mem_append_right _ (List.mem_append_right _ (List.mem_append_right _ (List.mem_append_right _ (List.mem_append_right _ (List.mem_append_right _ (List.mem_append_right _ (List.mem_append_right _ (List.mem_append_right _ (List.mem_append_right _ ((show _ ∈ AL_11 from List.mem_of_getElem? (i := 11) rfl))))))))))))
theorem al_452 : (.selects "WideStoreModel" yXM_nextRow yXM_nextRow : Cond) ∈ AL := List.mem_append_right _ (List.mem_append_right _ (List.mem_append_right _ (List.mem_append_right _ (List.mem_append_right _ (List.mem_append_right _ (List.mem_append_right _ (List.mem_append_right _ (List.mem_append_right _ (List.mem_append_right _ (List.mem_append_right _ ((show _ ∈ AL_11 from List.mem_of_getElem? (i := 12) rfl))))))))))))
theorem al_453 : (.code yXM_nextRow cXM_nextRow 3 (some .int) : Cond) ∈ AL := List.mem_append_right _ (List.mem_append_right _ (List.mem_append_right _ (List.mem_append_right _ (List.mem_append_right _ (List.mem_append_right _ (List.mem_append_right _ (List.mem_append_right _ (List.mem_append_right _ (List.mem_append_right _ (List.mem_append_right _ ((show _ ∈ AL_11 from List.mem_of_getElem? (i := 13) rfl))))))))))))
theorem al_454 : (.methodLink "WideStoreModel" 113 yXM_next : Cond) ∈ AL := List.mem_append_right _ (List.mem_append_right _ (List.mem_append_right _ (List.mem_append_right _ (List.mem_append_right _ (List.mem_append_right _ (List.mem_append_right _ (List.mem_append_right _ (List.mem_append_right _ (List.mem_append_right _ (List.mem_append_right _ ((show _ ∈ AL_11 from List.mem_of_getElem? (i := 14) rfl))))))))))))
theorem al_455 : (.methodLink "WideStoreLaw" 66 yXM_sync : Cond) ∈ AL := List.mem_append_right _ (List.mem_append_right _ (List.mem_append_right _ (List.mem_append_right _ (List.mem_append_right _ (List.mem_append_right _ (List.mem_append_right _ (List.mem_append_right _ (List.mem_append_right _ (List.mem_append_right _ (List.mem_append_right _ ((show _ ∈ AL_11 from List.mem_of_getElem? (i := 15) rfl))))))))))))
theorem al_456 : (.instanceMethod yXM_sync : Cond) ∈ AL := List.mem_append_right _ (List.mem_append_right _ (List.mem_append_right _ (List.mem_append_right _ (List.mem_append_right _ (List.mem_append_right _ (List.mem_append_right _ (List.mem_append_right _ (List.mem_append_right _ (List.mem_append_right _ (List.mem_append_right _ ((show _ ∈ AL_11 from List.mem_of_getElem? (i := 16) rfl))))))))))))
theorem al_457 : (.selects "WideStoreModel" yXM_sync yXM_sync : Cond) ∈ AL := List.mem_append_right _ (List.mem_append_right _ (List.mem_append_right _ (List.mem_append_right _ (List.mem_append_right _ (List.mem_append_right _ (List.mem_append_right _ (List.mem_append_right _ (List.mem_append_right _ (List.mem_append_right _ (List.mem_append_right _ ((show _ ∈ AL_11 from List.mem_of_getElem? (i := 17) rfl))))))))))))
theorem al_458 : (.code yXM_sync cXM_sync 1 (some .int) : Cond) ∈ AL := List.mem_append_right _ (List.mem_append_right _ (List.mem_append_right _ (List.mem_append_right _ (List.mem_append_right _ (List.mem_append_right _ (List.mem_append_right _ (List.mem_append_right _ (List.mem_append_right _ (List.mem_append_right _ (List.mem_append_right _ ((show _ ∈ AL_11 from List.mem_of_getElem? (i := 18) rfl))))))))))))
theorem al_459 : (.methodLink "WideStoreLaw" 70 yXM_crash : Cond) ∈ AL := List.mem_append_right _ (List.mem_append_right _ (List.mem_append_right _ (List.mem_append_right _ (List.mem_append_right _ (List.mem_append_right _ (List.mem_append_right _ (List.mem_append_right _ (List.mem_append_right _ (List.mem_append_right _ (List.mem_append_right _ ((show _ ∈ AL_11 from List.mem_of_getElem? (i := 19) rfl))))))))))))
theorem al_460 : (.instanceMethod yXM_crash : Cond) ∈ AL := List.mem_append_right _ (List.mem_append_right _ (List.mem_append_right _ (List.mem_append_right _ (List.mem_append_right _ (List.mem_append_right _ (List.mem_append_right _ (List.mem_append_right _ (List.mem_append_right _ (List.mem_append_right _ (List.mem_append_right _ ((show _ ∈ AL_11 from List.mem_of_getElem? (i := 20) rfl))))))))))))
theorem al_461 : (.selects "WideStoreModel" yXM_crash yXM_crash : Cond) ∈ AL := List.mem_append_right _ (List.mem_append_right _ (List.mem_append_right _ (List.mem_append_right _ (List.mem_append_right _ (List.mem_append_right _ (List.mem_append_right _ (List.mem_append_right _ (List.mem_append_right _ (List.mem_append_right _ (List.mem_append_right _ ((show _ ∈ AL_11 from List.mem_of_getElem? (i := 21) rfl))))))))))))
theorem al_462 : (.code yXM_crash cXM_crash 2 (some .int) : Cond) ∈ AL := List.mem_append_right _ (List.mem_append_right _ (List.mem_append_right _ (List.mem_append_right _ (List.mem_append_right _ (List.mem_append_right _ (List.mem_append_right _ (List.mem_append_right _ (List.mem_append_right _ (List.mem_append_right _ (List.mem_append_right _ ((show _ ∈ AL_11 from List.mem_of_getElem? (i := 22) rfl))))))))))))
theorem al_463 : (.methodLink "WideStoreLaw" 74 yXM_tick : Cond) ∈ AL := List.mem_append_right _ (List.mem_append_right _ (List.mem_append_right _ (List.mem_append_right _ (List.mem_append_right _ (List.mem_append_right _ (List.mem_append_right _ (List.mem_append_right _ (List.mem_append_right _ (List.mem_append_right _ (List.mem_append_right _ ((show _ ∈ AL_11 from List.mem_of_getElem? (i := 23) rfl))))))))))))
theorem al_464 : (.instanceMethod yXM_tick : Cond) ∈ AL := List.mem_append_right _ (List.mem_append_right _ (List.mem_append_right _ (List.mem_append_right _ (List.mem_append_right _ (List.mem_append_right _ (List.mem_append_right _ (List.mem_append_right _ (List.mem_append_right _ (List.mem_append_right _ (List.mem_append_right _ ((show _ ∈ AL_11 from List.mem_of_getElem? (i := 24) rfl))))))))))))
theorem al_465 : (.selects "WideStoreModel" yXM_tick yXM_tick : Cond) ∈ AL := List.mem_append_right _ (List.mem_append_right _ (List.mem_append_right _ (List.mem_append_right _ (List.mem_append_right _ (List.mem_append_right _ (List.mem_append_right _ (List.mem_append_right _ (List.mem_append_right _ (List.mem_append_right _ (List.mem_append_right _ ((show _ ∈ AL_11 from List.mem_of_getElem? (i := 25) rfl))))))))))))
theorem al_466 : (.code yXM_tick cXM_tick 2 (some .int) : Cond) ∈ AL := List.mem_append_right _ (List.mem_append_right _ (List.mem_append_right _ (List.mem_append_right _ (List.mem_append_right _ (List.mem_append_right _ (List.mem_append_right _ (List.mem_append_right _ (List.mem_append_right _ (List.mem_append_right _ (List.mem_append_right _ ((show _ ∈ AL_11 from List.mem_of_getElem? (i := 26) rfl))))))))))))
theorem al_467 : (.methodLink "WideStoreLaw" 78 yXM_count : Cond) ∈ AL := List.mem_append_right _ (List.mem_append_right _ (List.mem_append_right _ (List.mem_append_right _ (List.mem_append_right _ (List.mem_append_right _ (List.mem_append_right _ (List.mem_append_right _ (List.mem_append_right _ (List.mem_append_right _ (List.mem_append_right _ ((show _ ∈ AL_11 from List.mem_of_getElem? (i := 27) rfl))))))))))))
theorem al_468 : (.instanceMethod yXM_count : Cond) ∈ AL := List.mem_append_right _ (List.mem_append_right _ (List.mem_append_right _ (List.mem_append_right _ (List.mem_append_right _ (List.mem_append_right _ (List.mem_append_right _ (List.mem_append_right _ (List.mem_append_right _ (List.mem_append_right _ (List.mem_append_right _ ((show _ ∈ AL_11 from List.mem_of_getElem? (i := 28) rfl))))))))))))
theorem al_469 : (.selects "WideStoreModel" yXM_count yXM_count : Cond) ∈ AL := List.mem_append_right _ (List.mem_append_right _ (List.mem_append_right _ (List.mem_append_right _ (List.mem_append_right _ (List.mem_append_right _ (List.mem_append_right _ (List.mem_append_right _ (List.mem_append_right _ (List.mem_append_right _ (List.mem_append_right _ ((show _ ∈ AL_11 from List.mem_of_getElem? (i := 29) rfl))))))))))))
theorem al_470 : (.code yXM_count cXM_count 2 (some .int) : Cond) ∈ AL := List.mem_append_right _ (List.mem_append_right _ (List.mem_append_right _ (List.mem_append_right _ (List.mem_append_right _ (List.mem_append_right _ (List.mem_append_right _ (List.mem_append_right _ (List.mem_append_right _ (List.mem_append_right _ (List.mem_append_right _ ((show _ ∈ AL_11 from List.mem_of_getElem? (i := 30) rfl))))))))))))
theorem al_471 : (.methodLink "WideStoreLaw" 82 yXM_run : Cond) ∈ AL := List.mem_append_right _ (List.mem_append_right _ (List.mem_append_right _ (List.mem_append_right _ (List.mem_append_right _ (List.mem_append_right _ (List.mem_append_right _ (List.mem_append_right _ (List.mem_append_right _ (List.mem_append_right _ (List.mem_append_right _ ((show _ ∈ AL_11 from List.mem_of_getElem? (i := 31) rfl))))))))))))
theorem al_472 : (.selects "[Ljava/lang/Object;" ⟨"java/lang/Object", "getClass", "()Ljava/lang/Class;"⟩ ⟨"java/lang/Object", "getClass", "()Ljava/lang/Class;"⟩ : Cond) ∈ AL := List.mem_append_right _ (List.mem_append_right _ (List.mem_append_right _ (List.mem_append_right _ (List.mem_append_right _ (List.mem_append_right _ (List.mem_append_right _ (List.mem_append_right _ (List.mem_append_right _ (List.mem_append_right _ (List.mem_append_right _ ((show _ ∈ AL_11 from List.mem_of_getElem? (i := 32) rfl))))))))))))
theorem AL_good0 : ∀ w ∈ AL, ((w.onTables && w.keeps) = true ∨ ∃ ty, w = .arrayClass ty) := by
  intro w hw
  apply good_of_word
  rcases List.mem_append.mp hw with hw | hw
  · exact List.all_eq_true.mp AL_0_good w hw
  rcases List.mem_append.mp hw with hw | hw
  · exact List.all_eq_true.mp AL_1_good w hw
  rcases List.mem_append.mp hw with hw | hw
  · exact List.all_eq_true.mp AL_2_good w hw
  rcases List.mem_append.mp hw with hw | hw
  · exact List.all_eq_true.mp AL_3_good w hw
  rcases List.mem_append.mp hw with hw | hw
  · exact List.all_eq_true.mp AL_4_good w hw
  rcases List.mem_append.mp hw with hw | hw
  · exact List.all_eq_true.mp AL_5_good w hw
  rcases List.mem_append.mp hw with hw | hw
  · exact List.all_eq_true.mp AL_6_good w hw
  rcases List.mem_append.mp hw with hw | hw
  · exact List.all_eq_true.mp AL_7_good w hw
  rcases List.mem_append.mp hw with hw | hw
  · exact List.all_eq_true.mp AL_8_good w hw
  rcases List.mem_append.mp hw with hw | hw
  · exact List.all_eq_true.mp AL_9_good w hw
  rcases List.mem_append.mp hw with hw | hw
  · exact List.all_eq_true.mp AL_10_good w hw
  exact List.all_eq_true.mp AL_11_good w hw
end
section
theorem dXS_init_0 : decode cXS_init 0 = .ok (.aload_n 0, 1) := by decide +kernel
theorem dXS_init_1 : decode cXS_init 1 = .ok (.invokespecial 3, 3) := by decide +kernel
theorem dXS_init_4 : decode cXS_init 4 = .ok (.aload_n 0, 1) := by decide +kernel
theorem dXS_init_5 : decode cXS_init 5 = .ok (.iconst 2, 1) := by decide +kernel
theorem dXS_init_6 : decode cXS_init 6 = .ok (.bipush 20, 2) := by decide +kernel
theorem dXS_init_8 : decode cXS_init 8 = .ok (.iload_n 1, 1) := by decide +kernel
theorem dXS_init_9 : decode cXS_init 9 = .ok (.invokestatic 9, 3) := by decide +kernel
theorem dXS_init_12 : decode cXS_init 12 = .ok (.invokestatic 15, 3) := by decide +kernel
theorem dXS_init_15 : decode cXS_init 15 = .ok (.putfield 18, 3) := by decide +kernel
theorem dXS_init_18 : decode cXS_init 18 = .ok (.aload_n 0, 1) := by decide +kernel
theorem dXS_init_19 : decode cXS_init 19 = .ok (.iconst 0, 1) := by decide +kernel
theorem dXS_init_20 : decode cXS_init 20 = .ok (.bipush 50, 2) := by decide +kernel
theorem dXS_init_22 : decode cXS_init 22 = .ok (.iload_n 2, 1) := by decide +kernel
theorem dXS_init_23 : decode cXS_init 23 = .ok (.invokestatic 9, 3) := by decide +kernel
theorem dXS_init_26 : decode cXS_init 26 = .ok (.invokestatic 15, 3) := by decide +kernel
theorem dXS_init_29 : decode cXS_init 29 = .ok (.putfield 22, 3) := by decide +kernel
theorem dXS_init_32 : decode cXS_init 32 = .ok (.aload_n 0, 1) := by decide +kernel
theorem dXS_init_33 : decode cXS_init 33 = .ok (.sipush 512, 3) := by decide +kernel
theorem dXS_init_36 : decode cXS_init 36 = .ok (.anewarray 25, 3) := by decide +kernel
theorem dXS_init_39 : decode cXS_init 39 = .ok (.putfield 27, 3) := by decide +kernel
theorem dXS_init_42 : decode cXS_init 42 = .ok (.aload_n 0, 1) := by decide +kernel
theorem dXS_init_43 : decode cXS_init 43 = .ok (.new 31, 3) := by decide +kernel
theorem dXS_init_46 : decode cXS_init 46 = .ok (.dup, 1) := by decide +kernel
theorem dXS_init_47 : decode cXS_init 47 = .ok (.invokespecial 33, 3) := by decide +kernel
theorem dXS_init_50 : decode cXS_init 50 = .ok (.putfield 34, 3) := by decide +kernel
theorem dXS_init_53 : decode cXS_init 53 = .ok (.aload_n 0, 1) := by decide +kernel
theorem dXS_init_54 : decode cXS_init 54 = .ok (.new 38, 3) := by decide +kernel
theorem dXS_init_57 : decode cXS_init 57 = .ok (.dup, 1) := by decide +kernel
theorem dXS_init_58 : decode cXS_init 58 = .ok (.iconst 0, 1) := by decide +kernel
theorem dXS_init_59 : decode cXS_init 59 = .ok (.invokespecial 40, 3) := by decide +kernel
theorem dXS_init_62 : decode cXS_init 62 = .ok (.putfield 43, 3) := by decide +kernel
theorem dXS_init_65 : decode cXS_init 65 = .ok (.aload_n 0, 1) := by decide +kernel
theorem dXS_init_66 : decode cXS_init 66 = .ok (.iconst 0, 1) := by decide +kernel
theorem dXS_init_67 : decode cXS_init 67 = .ok (.putfield 47, 3) := by decide +kernel
theorem dXS_init_70 : decode cXS_init 70 = .ok (.aload_n 0, 1) := by decide +kernel
theorem dXS_init_71 : decode cXS_init 71 = .ok (.iconst 0, 1) := by decide +kernel
theorem dXS_init_72 : decode cXS_init 72 = .ok (.putfield 50, 3) := by decide +kernel
theorem dXS_init_75 : decode cXS_init 75 = .ok (.aload_n 0, 1) := by decide +kernel
theorem dXS_init_76 : decode cXS_init 76 = .ok (.iconst 0, 1) := by decide +kernel
theorem dXS_init_77 : decode cXS_init 77 = .ok (.putfield 53, 3) := by decide +kernel
theorem dXS_init_80 : decode cXS_init 80 = .ok (.return_, 1) := by decide +kernel
theorem dXA_init_0 : decode cXA_init 0 = .ok (.aload_n 0, 1) := by decide +kernel
theorem dXA_init_1 : decode cXA_init 1 = .ok (.invokespecial 1, 3) := by decide +kernel
theorem dXA_init_4 : decode cXA_init 4 = .ok (.aload_n 0, 1) := by decide +kernel
theorem dXA_init_5 : decode cXA_init 5 = .ok (.getstatic 39, 3) := by decide +kernel
theorem dXA_init_8 : decode cXA_init 8 = .ok (.putfield 9, 3) := by decide +kernel
theorem dXA_init_11 : decode cXA_init 11 = .ok (.return_, 1) := by decide +kernel
theorem dXB_init_0 : decode cXB_init 0 = .ok (.aload_n 0, 1) := by decide +kernel
theorem dXB_init_1 : decode cXB_init 1 = .ok (.invokespecial 1, 3) := by decide +kernel
theorem dXB_init_4 : decode cXB_init 4 = .ok (.aload_n 0, 1) := by decide +kernel
theorem dXB_init_5 : decode cXB_init 5 = .ok (.iconst 0, 1) := by decide +kernel
theorem dXB_init_6 : decode cXB_init 6 = .ok (.putfield 7, 3) := by decide +kernel
theorem dXB_init_9 : decode cXB_init 9 = .ok (.return_, 1) := by decide +kernel
theorem dXC_init_0 : decode cXC_init 0 = .ok (.aload_n 0, 1) := by decide +kernel
theorem dXC_init_1 : decode cXC_init 1 = .ok (.invokespecial 1, 3) := by decide +kernel
theorem dXC_init_4 : decode cXC_init 4 = .ok (.return_, 1) := by decide +kernel
theorem dXT_init_0 : decode cXT_init 0 = .ok (.aload_n 0, 1) := by decide +kernel
theorem dXT_init_1 : decode cXT_init 1 = .ok (.invokespecial 3, 3) := by decide +kernel
theorem dXT_init_4 : decode cXT_init 4 = .ok (.aload_n 0, 1) := by decide +kernel
theorem dXT_init_5 : decode cXT_init 5 = .ok (.iload_n 1, 1) := by decide +kernel
theorem dXT_init_6 : decode cXT_init 6 = .ok (.putfield 9, 3) := by decide +kernel
theorem dXT_init_9 : decode cXT_init 9 = .ok (.aload_n 0, 1) := by decide +kernel
theorem dXT_init_10 : decode cXT_init 10 = .ok (.sipush 704, 3) := by decide +kernel
theorem dXT_init_13 : decode cXT_init 13 = .ok (.anewarray 15, 3) := by decide +kernel
theorem dXT_init_16 : decode cXT_init 16 = .ok (.putfield 17, 3) := by decide +kernel
theorem dXT_init_19 : decode cXT_init 19 = .ok (.aload_n 0, 1) := by decide +kernel
theorem dXT_init_20 : decode cXT_init 20 = .ok (.iconst 0, 1) := by decide +kernel
theorem dXT_init_21 : decode cXT_init 21 = .ok (.putfield 21, 3) := by decide +kernel
theorem dXT_init_24 : decode cXT_init 24 = .ok (.aload_n 0, 1) := by decide +kernel
theorem dXT_init_25 : decode cXT_init 25 = .ok (.iconst 0, 1) := by decide +kernel
theorem dXT_init_26 : decode cXT_init 26 = .ok (.putfield 24, 3) := by decide +kernel
theorem dXT_init_29 : decode cXT_init 29 = .ok (.return_, 1) := by decide +kernel
theorem dXS_put_0 : decode cXS_put 0 = .ok (.iload_n 1, 1) := by decide +kernel
theorem dXS_put_1 : decode cXS_put 1 = .ok (.iload_n 2, 1) := by decide +kernel
theorem dXS_put_2 : decode cXS_put 2 = .ok (.invokestatic 56, 3) := by decide +kernel
theorem dXS_put_5 : decode cXS_put 5 = .ok (.ifCond .eq 22, 3) := by decide +kernel
theorem dXS_put_8 : decode cXS_put 8 = .ok (.iload_n 3, 1) := by decide +kernel
theorem dXS_put_9 : decode cXS_put 9 = .ok (.invokestatic 60, 3) := by decide +kernel
theorem dXS_put_12 : decode cXS_put 12 = .ok (.ifCond .eq 15, 3) := by decide +kernel
theorem dXS_put_15 : decode cXS_put 15 = .ok (.iload 5, 2) := by decide +kernel
theorem dXS_put_17 : decode cXS_put 17 = .ok (.ifCond .lt 10, 3) := by decide +kernel
theorem dXS_put_20 : decode cXS_put 20 = .ok (.iload 5, 2) := by decide +kernel
theorem dXS_put_22 : decode cXS_put 22 = .ok (.bipush 100, 2) := by decide +kernel
theorem dXS_put_24 : decode cXS_put 24 = .ok (.if_icmp .le 5, 3) := by decide +kernel
theorem dXS_put_27 : decode cXS_put 27 = .ok (.iconst 0, 1) := by decide +kernel
theorem dXS_put_28 : decode cXS_put 28 = .ok (.ireturn, 1) := by decide +kernel
theorem dXS_put_29 : decode cXS_put 29 = .ok (.iload 5, 2) := by decide +kernel
theorem dXS_put_31 : decode cXS_put 31 = .ok (.ifCond .ne 8, 3) := by decide +kernel
theorem dXS_put_34 : decode cXS_put 34 = .ok (.ldc 64, 2) := by decide +kernel
theorem dXS_put_36 : decode cXS_put 36 = .ok (.goto 10, 3) := by decide +kernel
theorem dXS_put_39 : decode cXS_put 39 = .ok (.aload_n 0, 1) := by decide +kernel
theorem dXS_put_40 : decode cXS_put 40 = .ok (.getfield 53, 3) := by decide +kernel
theorem dXS_put_43 : decode cXS_put 43 = .ok (.iload 5, 2) := by decide +kernel
theorem dXS_put_45 : decode cXS_put 45 = .ok (.iadd, 1) := by decide +kernel
theorem dXS_put_46 : decode cXS_put 46 = .ok (.istore 6, 2) := by decide +kernel
theorem dXS_put_48 : decode cXS_put 48 = .ok (.aload_n 0, 1) := by decide +kernel
theorem dXS_put_49 : decode cXS_put 49 = .ok (.new 25, 3) := by decide +kernel
theorem dXS_put_52 : decode cXS_put 52 = .ok (.dup, 1) := by decide +kernel
theorem dXS_put_53 : decode cXS_put 53 = .ok (.iconst 0, 1) := by decide +kernel
theorem dXS_put_54 : decode cXS_put 54 = .ok (.iload_n 1, 1) := by decide +kernel
theorem dXS_put_55 : decode cXS_put 55 = .ok (.iload_n 2, 1) := by decide +kernel
theorem dXS_put_56 : decode cXS_put 56 = .ok (.invokestatic 65, 3) := by decide +kernel
theorem dXS_put_59 : decode cXS_put 59 = .ok (.iload_n 3, 1) := by decide +kernel
theorem dXS_put_60 : decode cXS_put 60 = .ok (.iload 4, 2) := by decide +kernel
theorem dXS_put_62 : decode cXS_put 62 = .ok (.iload 6, 2) := by decide +kernel
theorem dXS_put_64 : decode cXS_put 64 = .ok (.invokespecial 68, 3) := by decide +kernel
theorem dXS_put_67 : decode cXS_put 67 = .ok (.invokevirtual 71, 3) := by decide +kernel
theorem dXS_put_70 : decode cXS_put 70 = .ok (.ireturn, 1) := by decide +kernel
theorem dXS_isPlace_0 : decode cXS_isPlace 0 = .ok (.iload_n 0, 1) := by decide +kernel
theorem dXS_isPlace_1 : decode cXS_isPlace 1 = .ok (.ifCond .lt 23, 3) := by decide +kernel
theorem dXS_isPlace_4 : decode cXS_isPlace 4 = .ok (.iload_n 0, 1) := by decide +kernel
theorem dXS_isPlace_5 : decode cXS_isPlace 5 = .ok (.bipush 16, 2) := by decide +kernel
theorem dXS_isPlace_7 : decode cXS_isPlace 7 = .ok (.if_icmp .ge 17, 3) := by decide +kernel
theorem dXS_isPlace_10 : decode cXS_isPlace 10 = .ok (.iload_n 1, 1) := by decide +kernel
theorem dXS_isPlace_11 : decode cXS_isPlace 11 = .ok (.ifCond .lt 13, 3) := by decide +kernel
theorem dXS_isPlace_14 : decode cXS_isPlace 14 = .ok (.iload_n 1, 1) := by decide +kernel
theorem dXS_isPlace_15 : decode cXS_isPlace 15 = .ok (.bipush 8, 2) := by decide +kernel
theorem dXS_isPlace_17 : decode cXS_isPlace 17 = .ok (.if_icmp .ge 7, 3) := by decide +kernel
theorem dXS_isPlace_20 : decode cXS_isPlace 20 = .ok (.iconst 1, 1) := by decide +kernel
theorem dXS_isPlace_21 : decode cXS_isPlace 21 = .ok (.goto 4, 3) := by decide +kernel
theorem dXS_isPlace_24 : decode cXS_isPlace 24 = .ok (.iconst 0, 1) := by decide +kernel
theorem dXS_isPlace_25 : decode cXS_isPlace 25 = .ok (.ireturn, 1) := by decide +kernel
theorem dXS_isStamp_0 : decode cXS_isStamp 0 = .ok (.iload_n 0, 1) := by decide +kernel
theorem dXS_isStamp_1 : decode cXS_isStamp 1 = .ok (.ifCond .lt 14, 3) := by decide +kernel
theorem dXS_isStamp_4 : decode cXS_isStamp 4 = .ok (.iload_n 0, 1) := by decide +kernel
theorem dXS_isStamp_5 : decode cXS_isStamp 5 = .ok (.sipush 9999, 3) := by decide +kernel
theorem dXS_isStamp_8 : decode cXS_isStamp 8 = .ok (.if_icmp .gt 7, 3) := by decide +kernel
theorem dXS_isStamp_11 : decode cXS_isStamp 11 = .ok (.iconst 1, 1) := by decide +kernel
theorem dXS_isStamp_12 : decode cXS_isStamp 12 = .ok (.goto 4, 3) := by decide +kernel
theorem dXS_isStamp_15 : decode cXS_isStamp 15 = .ok (.iconst 0, 1) := by decide +kernel
theorem dXS_isStamp_16 : decode cXS_isStamp 16 = .ok (.ireturn, 1) := by decide +kernel
theorem dXS_pointSlot_0 : decode cXS_pointSlot 0 = .ok (.iload_n 0, 1) := by decide +kernel
theorem dXS_pointSlot_1 : decode cXS_pointSlot 1 = .ok (.bipush 8, 2) := by decide +kernel
theorem dXS_pointSlot_3 : decode cXS_pointSlot 3 = .ok (.imul, 1) := by decide +kernel
theorem dXS_pointSlot_4 : decode cXS_pointSlot 4 = .ok (.iload_n 1, 1) := by decide +kernel
theorem dXS_pointSlot_5 : decode cXS_pointSlot 5 = .ok (.iadd, 1) := by decide +kernel
theorem dXS_pointSlot_6 : decode cXS_pointSlot 6 = .ok (.ireturn, 1) := by decide +kernel
theorem dXE_init_0 : decode cXE_init 0 = .ok (.aload_n 0, 1) := by decide +kernel
theorem dXE_init_1 : decode cXE_init 1 = .ok (.invokespecial 1, 3) := by decide +kernel
theorem dXE_init_4 : decode cXE_init 4 = .ok (.aload_n 0, 1) := by decide +kernel
theorem dXE_init_5 : decode cXE_init 5 = .ok (.iload_n 1, 1) := by decide +kernel
theorem dXE_init_6 : decode cXE_init 6 = .ok (.putfield 7, 3) := by decide +kernel
theorem dXE_init_9 : decode cXE_init 9 = .ok (.aload_n 0, 1) := by decide +kernel
theorem dXE_init_10 : decode cXE_init 10 = .ok (.iload_n 2, 1) := by decide +kernel
theorem dXE_init_11 : decode cXE_init 11 = .ok (.putfield 13, 3) := by decide +kernel
theorem dXE_init_14 : decode cXE_init 14 = .ok (.aload_n 0, 1) := by decide +kernel
theorem dXE_init_15 : decode cXE_init 15 = .ok (.iload_n 3, 1) := by decide +kernel
theorem dXE_init_16 : decode cXE_init 16 = .ok (.putfield 16, 3) := by decide +kernel
theorem dXE_init_19 : decode cXE_init 19 = .ok (.aload_n 0, 1) := by decide +kernel
theorem dXE_init_20 : decode cXE_init 20 = .ok (.iload 4, 2) := by decide +kernel
theorem dXE_init_22 : decode cXE_init 22 = .ok (.putfield 19, 3) := by decide +kernel
theorem dXE_init_25 : decode cXE_init 25 = .ok (.aload_n 0, 1) := by decide +kernel
theorem dXE_init_26 : decode cXE_init 26 = .ok (.iload 5, 2) := by decide +kernel
theorem dXE_init_28 : decode cXE_init 28 = .ok (.putfield 22, 3) := by decide +kernel
theorem dXE_init_31 : decode cXE_init 31 = .ok (.return_, 1) := by decide +kernel
theorem dXS_addEntry_0 : decode cXS_addEntry 0 = .ok (.aload_n 0, 1) := by decide +kernel
theorem dXS_addEntry_1 : decode cXS_addEntry 1 = .ok (.getfield 47, 3) := by decide +kernel
theorem dXS_addEntry_4 : decode cXS_addEntry 4 = .ok (.sipush 512, 3) := by decide +kernel
theorem dXS_addEntry_7 : decode cXS_addEntry 7 = .ok (.if_icmp .lt 5, 3) := by decide +kernel
theorem dXS_addEntry_10 : decode cXS_addEntry 10 = .ok (.iconst 0, 1) := by decide +kernel
theorem dXS_addEntry_11 : decode cXS_addEntry 11 = .ok (.ireturn, 1) := by decide +kernel
theorem dXS_addEntry_12 : decode cXS_addEntry 12 = .ok (.aload_n 0, 1) := by decide +kernel
theorem dXS_addEntry_13 : decode cXS_addEntry 13 = .ok (.getfield 27, 3) := by decide +kernel
theorem dXS_addEntry_16 : decode cXS_addEntry 16 = .ok (.aload_n 0, 1) := by decide +kernel
theorem dXS_addEntry_17 : decode cXS_addEntry 17 = .ok (.getfield 47, 3) := by decide +kernel
theorem dXS_addEntry_20 : decode cXS_addEntry 20 = .ok (.aload_n 1, 1) := by decide +kernel
theorem dXS_addEntry_21 : decode cXS_addEntry 21 = .ok (.aastore, 1) := by decide +kernel
theorem dXS_addEntry_22 : decode cXS_addEntry 22 = .ok (.aload_n 0, 1) := by decide +kernel
theorem dXS_addEntry_23 : decode cXS_addEntry 23 = .ok (.dup, 1) := by decide +kernel
theorem dXS_addEntry_24 : decode cXS_addEntry 24 = .ok (.getfield 47, 3) := by decide +kernel
theorem dXS_addEntry_27 : decode cXS_addEntry 27 = .ok (.iconst 1, 1) := by decide +kernel
theorem dXS_addEntry_28 : decode cXS_addEntry 28 = .ok (.iadd, 1) := by decide +kernel
theorem dXS_addEntry_29 : decode cXS_addEntry 29 = .ok (.putfield 47, 3) := by decide +kernel
theorem dXS_addEntry_32 : decode cXS_addEntry 32 = .ok (.aload_n 0, 1) := by decide +kernel
theorem dXS_addEntry_33 : decode cXS_addEntry 33 = .ok (.getfield 43, 3) := by decide +kernel
theorem dXS_addEntry_36 : decode cXS_addEntry 36 = .ok (.aload_n 1, 1) := by decide +kernel
theorem dXS_addEntry_37 : decode cXS_addEntry 37 = .ok (.invokevirtual 113, 3) := by decide +kernel
theorem dXS_addEntry_40 : decode cXS_addEntry 40 = .ok (.aload_n 0, 1) := by decide +kernel
theorem dXS_addEntry_41 : decode cXS_addEntry 41 = .ok (.getfield 43, 3) := by decide +kernel
theorem dXS_addEntry_44 : decode cXS_addEntry 44 = .ok (.getfield 92, 3) := by decide +kernel
theorem dXS_addEntry_47 : decode cXS_addEntry 47 = .ok (.aload_n 0, 1) := by decide +kernel
theorem dXS_addEntry_48 : decode cXS_addEntry 48 = .ok (.getfield 18, 3) := by decide +kernel
theorem dXS_addEntry_51 : decode cXS_addEntry 51 = .ok (.if_icmp .le 7, 3) := by decide +kernel
theorem dXS_addEntry_54 : decode cXS_addEntry 54 = .ok (.aload_n 0, 1) := by decide +kernel
theorem dXS_addEntry_55 : decode cXS_addEntry 55 = .ok (.invokevirtual 95, 3) := by decide +kernel
theorem dXS_addEntry_58 : decode cXS_addEntry 58 = .ok (.iconst 1, 1) := by decide +kernel
theorem dXS_addEntry_59 : decode cXS_addEntry 59 = .ok (.ireturn, 1) := by decide +kernel
theorem dXT_addWinner_0 : decode cXT_addWinner 0 = .ok (.aload_n 0, 1) := by decide +kernel
theorem dXT_addWinner_1 : decode cXT_addWinner 1 = .ok (.getfield 17, 3) := by decide +kernel
theorem dXT_addWinner_4 : decode cXT_addWinner 4 = .ok (.aload_n 1, 1) := by decide +kernel
theorem dXT_addWinner_5 : decode cXT_addWinner 5 = .ok (.getfield 31, 3) := by decide +kernel
theorem dXT_addWinner_8 : decode cXT_addWinner 8 = .ok (.aaload, 1) := by decide +kernel
theorem dXT_addWinner_9 : decode cXT_addWinner 9 = .ok (.astore_n 2, 1) := by decide +kernel
theorem dXT_addWinner_10 : decode cXT_addWinner 10 = .ok (.aload_n 2, 1) := by decide +kernel
theorem dXT_addWinner_11 : decode cXT_addWinner 11 = .ok (.ifnonnull 48, 3) := by decide +kernel
theorem dXT_addWinner_14 : decode cXT_addWinner 14 = .ok (.aload_n 0, 1) := by decide +kernel
theorem dXT_addWinner_15 : decode cXT_addWinner 15 = .ok (.getfield 17, 3) := by decide +kernel
theorem dXT_addWinner_18 : decode cXT_addWinner 18 = .ok (.aload_n 1, 1) := by decide +kernel
theorem dXT_addWinner_19 : decode cXT_addWinner 19 = .ok (.getfield 31, 3) := by decide +kernel
theorem dXT_addWinner_22 : decode cXT_addWinner 22 = .ok (.aload_n 1, 1) := by decide +kernel
theorem dXT_addWinner_23 : decode cXT_addWinner 23 = .ok (.aastore, 1) := by decide +kernel
theorem dXT_addWinner_24 : decode cXT_addWinner 24 = .ok (.aload_n 0, 1) := by decide +kernel
theorem dXT_addWinner_25 : decode cXT_addWinner 25 = .ok (.dup, 1) := by decide +kernel
theorem dXT_addWinner_26 : decode cXT_addWinner 26 = .ok (.getfield 21, 3) := by decide +kernel
theorem dXT_addWinner_29 : decode cXT_addWinner 29 = .ok (.iconst 1, 1) := by decide +kernel
theorem dXT_addWinner_30 : decode cXT_addWinner 30 = .ok (.iadd, 1) := by decide +kernel
theorem dXT_addWinner_31 : decode cXT_addWinner 31 = .ok (.putfield 21, 3) := by decide +kernel
theorem dXT_addWinner_34 : decode cXT_addWinner 34 = .ok (.aload_n 0, 1) := by decide +kernel
theorem dXT_addWinner_35 : decode cXT_addWinner 35 = .ok (.dup, 1) := by decide +kernel
theorem dXT_addWinner_36 : decode cXT_addWinner 36 = .ok (.getfield 24, 3) := by decide +kernel
theorem dXT_addWinner_39 : decode cXT_addWinner 39 = .ok (.aload_n 1, 1) := by decide +kernel
theorem dXT_addWinner_40 : decode cXT_addWinner 40 = .ok (.getfield 34, 3) := by decide +kernel
theorem dXT_addWinner_43 : decode cXT_addWinner 43 = .ok (.iconst 2, 1) := by decide +kernel
theorem dXT_addWinner_44 : decode cXT_addWinner 44 = .ok (.if_icmp .ne 7, 3) := by decide +kernel
theorem dXT_addWinner_47 : decode cXT_addWinner 47 = .ok (.iconst 1, 1) := by decide +kernel
theorem dXT_addWinner_48 : decode cXT_addWinner 48 = .ok (.goto 4, 3) := by decide +kernel
theorem dXT_addWinner_51 : decode cXT_addWinner 51 = .ok (.iconst 0, 1) := by decide +kernel
theorem dXT_addWinner_52 : decode cXT_addWinner 52 = .ok (.iadd, 1) := by decide +kernel
theorem dXT_addWinner_53 : decode cXT_addWinner 53 = .ok (.putfield 24, 3) := by decide +kernel
theorem dXT_addWinner_56 : decode cXT_addWinner 56 = .ok (.goto 21, 3) := by decide +kernel
theorem dXT_addWinner_59 : decode cXT_addWinner 59 = .ok (.aload_n 1, 1) := by decide +kernel
theorem dXT_addWinner_60 : decode cXT_addWinner 60 = .ok (.aload_n 2, 1) := by decide +kernel
theorem dXT_addWinner_61 : decode cXT_addWinner 61 = .ok (.invokevirtual 37, 3) := by decide +kernel
theorem dXT_addWinner_64 : decode cXT_addWinner 64 = .ok (.ifCond .eq 13, 3) := by decide +kernel
theorem dXT_addWinner_67 : decode cXT_addWinner 67 = .ok (.aload_n 0, 1) := by decide +kernel
theorem dXT_addWinner_68 : decode cXT_addWinner 68 = .ok (.getfield 17, 3) := by decide +kernel
theorem dXT_addWinner_71 : decode cXT_addWinner 71 = .ok (.aload_n 1, 1) := by decide +kernel
theorem dXT_addWinner_72 : decode cXT_addWinner 72 = .ok (.getfield 31, 3) := by decide +kernel
theorem dXT_addWinner_75 : decode cXT_addWinner 75 = .ok (.aload_n 1, 1) := by decide +kernel
theorem dXT_addWinner_76 : decode cXT_addWinner 76 = .ok (.aastore, 1) := by decide +kernel
theorem dXT_addWinner_77 : decode cXT_addWinner 77 = .ok (.return_, 1) := by decide +kernel
theorem dXE_winsOver_0 : decode cXE_winsOver 0 = .ok (.aload_n 0, 1) := by decide +kernel
theorem dXE_winsOver_1 : decode cXE_winsOver 1 = .ok (.getfield 16, 3) := by decide +kernel
theorem dXE_winsOver_4 : decode cXE_winsOver 4 = .ok (.aload_n 1, 1) := by decide +kernel
theorem dXE_winsOver_5 : decode cXE_winsOver 5 = .ok (.getfield 16, 3) := by decide +kernel
theorem dXE_winsOver_8 : decode cXE_winsOver 8 = .ok (.if_icmp .eq 20, 3) := by decide +kernel
theorem dXE_winsOver_11 : decode cXE_winsOver 11 = .ok (.aload_n 0, 1) := by decide +kernel
theorem dXE_winsOver_12 : decode cXE_winsOver 12 = .ok (.getfield 16, 3) := by decide +kernel
theorem dXE_winsOver_15 : decode cXE_winsOver 15 = .ok (.aload_n 1, 1) := by decide +kernel
theorem dXE_winsOver_16 : decode cXE_winsOver 16 = .ok (.getfield 16, 3) := by decide +kernel
theorem dXE_winsOver_19 : decode cXE_winsOver 19 = .ok (.if_icmp .le 7, 3) := by decide +kernel
theorem dXE_winsOver_22 : decode cXE_winsOver 22 = .ok (.iconst 1, 1) := by decide +kernel
theorem dXE_winsOver_23 : decode cXE_winsOver 23 = .ok (.goto 4, 3) := by decide +kernel
theorem dXE_winsOver_26 : decode cXE_winsOver 26 = .ok (.iconst 0, 1) := by decide +kernel
theorem dXE_winsOver_27 : decode cXE_winsOver 27 = .ok (.ireturn, 1) := by decide +kernel
theorem dXE_winsOver_28 : decode cXE_winsOver 28 = .ok (.aload_n 0, 1) := by decide +kernel
theorem dXE_winsOver_29 : decode cXE_winsOver 29 = .ok (.getfield 7, 3) := by decide +kernel
theorem dXE_winsOver_32 : decode cXE_winsOver 32 = .ok (.aload_n 1, 1) := by decide +kernel
theorem dXE_winsOver_33 : decode cXE_winsOver 33 = .ok (.getfield 7, 3) := by decide +kernel
theorem dXE_winsOver_36 : decode cXE_winsOver 36 = .ok (.if_icmp .eq 20, 3) := by decide +kernel
theorem dXE_winsOver_39 : decode cXE_winsOver 39 = .ok (.aload_n 0, 1) := by decide +kernel
theorem dXE_winsOver_40 : decode cXE_winsOver 40 = .ok (.getfield 7, 3) := by decide +kernel
theorem dXE_winsOver_43 : decode cXE_winsOver 43 = .ok (.aload_n 1, 1) := by decide +kernel
theorem dXE_winsOver_44 : decode cXE_winsOver 44 = .ok (.getfield 7, 3) := by decide +kernel
theorem dXE_winsOver_47 : decode cXE_winsOver 47 = .ok (.if_icmp .le 7, 3) := by decide +kernel
theorem dXE_winsOver_50 : decode cXE_winsOver 50 = .ok (.iconst 1, 1) := by decide +kernel
theorem dXE_winsOver_51 : decode cXE_winsOver 51 = .ok (.goto 4, 3) := by decide +kernel
theorem dXE_winsOver_54 : decode cXE_winsOver 54 = .ok (.iconst 0, 1) := by decide +kernel
theorem dXE_winsOver_55 : decode cXE_winsOver 55 = .ok (.ireturn, 1) := by decide +kernel
theorem dXE_winsOver_56 : decode cXE_winsOver 56 = .ok (.aload_n 0, 1) := by decide +kernel
theorem dXE_winsOver_57 : decode cXE_winsOver 57 = .ok (.getfield 19, 3) := by decide +kernel
theorem dXE_winsOver_60 : decode cXE_winsOver 60 = .ok (.aload_n 1, 1) := by decide +kernel
theorem dXE_winsOver_61 : decode cXE_winsOver 61 = .ok (.getfield 19, 3) := by decide +kernel
theorem dXE_winsOver_64 : decode cXE_winsOver 64 = .ok (.if_icmp .eq 20, 3) := by decide +kernel
theorem dXE_winsOver_67 : decode cXE_winsOver 67 = .ok (.aload_n 0, 1) := by decide +kernel
theorem dXE_winsOver_68 : decode cXE_winsOver 68 = .ok (.getfield 19, 3) := by decide +kernel
theorem dXE_winsOver_71 : decode cXE_winsOver 71 = .ok (.aload_n 1, 1) := by decide +kernel
theorem dXE_winsOver_72 : decode cXE_winsOver 72 = .ok (.getfield 19, 3) := by decide +kernel
theorem dXE_winsOver_75 : decode cXE_winsOver 75 = .ok (.if_icmp .le 7, 3) := by decide +kernel
theorem dXE_winsOver_78 : decode cXE_winsOver 78 = .ok (.iconst 1, 1) := by decide +kernel
theorem dXE_winsOver_79 : decode cXE_winsOver 79 = .ok (.goto 4, 3) := by decide +kernel
theorem dXE_winsOver_82 : decode cXE_winsOver 82 = .ok (.iconst 0, 1) := by decide +kernel
theorem dXE_winsOver_83 : decode cXE_winsOver 83 = .ok (.ireturn, 1) := by decide +kernel
theorem dXE_winsOver_84 : decode cXE_winsOver 84 = .ok (.aload_n 0, 1) := by decide +kernel
theorem dXE_winsOver_85 : decode cXE_winsOver 85 = .ok (.getfield 22, 3) := by decide +kernel
theorem dXE_winsOver_88 : decode cXE_winsOver 88 = .ok (.aload_n 1, 1) := by decide +kernel
theorem dXE_winsOver_89 : decode cXE_winsOver 89 = .ok (.getfield 22, 3) := by decide +kernel
theorem dXE_winsOver_92 : decode cXE_winsOver 92 = .ok (.if_icmp .le 7, 3) := by decide +kernel
theorem dXE_winsOver_95 : decode cXE_winsOver 95 = .ok (.iconst 1, 1) := by decide +kernel
theorem dXE_winsOver_96 : decode cXE_winsOver 96 = .ok (.goto 4, 3) := by decide +kernel
theorem dXE_winsOver_99 : decode cXE_winsOver 99 = .ok (.iconst 0, 1) := by decide +kernel
theorem dXE_winsOver_100 : decode cXE_winsOver 100 = .ok (.ireturn, 1) := by decide +kernel
theorem dXS_flushMemory_0 : decode cXS_flushMemory 0 = .ok (.aload_n 0, 1) := by decide +kernel
theorem dXS_flushMemory_1 : decode cXS_flushMemory 1 = .ok (.getfield 43, 3) := by decide +kernel
theorem dXS_flushMemory_4 : decode cXS_flushMemory 4 = .ok (.getfield 92, 3) := by decide +kernel
theorem dXS_flushMemory_7 : decode cXS_flushMemory 7 = .ok (.ifCond .ne 4, 3) := by decide +kernel
theorem dXS_flushMemory_10 : decode cXS_flushMemory 10 = .ok (.return_, 1) := by decide +kernel
theorem dXS_flushMemory_11 : decode cXS_flushMemory 11 = .ok (.aload_n 0, 1) := by decide +kernel
theorem dXS_flushMemory_12 : decode cXS_flushMemory 12 = .ok (.getfield 34, 3) := by decide +kernel
theorem dXS_flushMemory_15 : decode cXS_flushMemory 15 = .ok (.aload_n 0, 1) := by decide +kernel
theorem dXS_flushMemory_16 : decode cXS_flushMemory 16 = .ok (.getfield 43, 3) := by decide +kernel
theorem dXS_flushMemory_19 : decode cXS_flushMemory 19 = .ok (.invokevirtual 129, 3) := by decide +kernel
theorem dXS_flushMemory_22 : decode cXS_flushMemory 22 = .ok (.pop, 1) := by decide +kernel
theorem dXS_flushMemory_23 : decode cXS_flushMemory 23 = .ok (.aload_n 0, 1) := by decide +kernel
theorem dXS_flushMemory_24 : decode cXS_flushMemory 24 = .ok (.new 38, 3) := by decide +kernel
theorem dXS_flushMemory_27 : decode cXS_flushMemory 27 = .ok (.dup, 1) := by decide +kernel
theorem dXS_flushMemory_28 : decode cXS_flushMemory 28 = .ok (.iconst 0, 1) := by decide +kernel
theorem dXS_flushMemory_29 : decode cXS_flushMemory 29 = .ok (.invokespecial 40, 3) := by decide +kernel
theorem dXS_flushMemory_32 : decode cXS_flushMemory 32 = .ok (.putfield 43, 3) := by decide +kernel
theorem dXS_flushMemory_35 : decode cXS_flushMemory 35 = .ok (.aload_n 0, 1) := by decide +kernel
theorem dXS_flushMemory_36 : decode cXS_flushMemory 36 = .ok (.iconst 0, 1) := by decide +kernel
theorem dXS_flushMemory_37 : decode cXS_flushMemory 37 = .ok (.putfield 47, 3) := by decide +kernel
theorem dXS_flushMemory_40 : decode cXS_flushMemory 40 = .ok (.aload_n 0, 1) := by decide +kernel
theorem dXS_flushMemory_41 : decode cXS_flushMemory 41 = .ok (.iconst 0, 1) := by decide +kernel
theorem dXS_flushMemory_42 : decode cXS_flushMemory 42 = .ok (.putfield 50, 3) := by decide +kernel
theorem dXS_flushMemory_45 : decode cXS_flushMemory 45 = .ok (.aload_n 0, 1) := by decide +kernel
theorem dXS_flushMemory_46 : decode cXS_flushMemory 46 = .ok (.getfield 34, 3) := by decide +kernel
theorem dXS_flushMemory_49 : decode cXS_flushMemory 49 = .ok (.invokevirtual 117, 3) := by decide +kernel
theorem dXS_flushMemory_52 : decode cXS_flushMemory 52 = .ok (.istore_n 1, 1) := by decide +kernel
theorem dXS_flushMemory_53 : decode cXS_flushMemory 53 = .ok (.iload_n 1, 1) := by decide +kernel
theorem dXS_flushMemory_54 : decode cXS_flushMemory 54 = .ok (.ifCond .le 48, 3) := by decide +kernel
theorem dXS_flushMemory_57 : decode cXS_flushMemory 57 = .ok (.aload_n 0, 1) := by decide +kernel
theorem dXS_flushMemory_58 : decode cXS_flushMemory 58 = .ok (.invokevirtual 133, 3) := by decide +kernel
theorem dXS_flushMemory_61 : decode cXS_flushMemory 61 = .ok (.ifCond .eq 41, 3) := by decide +kernel
theorem dXS_flushMemory_64 : decode cXS_flushMemory 64 = .ok (.aload_n 0, 1) := by decide +kernel
theorem dXS_flushMemory_65 : decode cXS_flushMemory 65 = .ok (.getfield 34, 3) := by decide +kernel
theorem dXS_flushMemory_68 : decode cXS_flushMemory 68 = .ok (.invokevirtual 117, 3) := by decide +kernel
theorem dXS_flushMemory_71 : decode cXS_flushMemory 71 = .ok (.iconst 3, 1) := by decide +kernel
theorem dXS_flushMemory_72 : decode cXS_flushMemory 72 = .ok (.isub, 1) := by decide +kernel
theorem dXS_flushMemory_73 : decode cXS_flushMemory 73 = .ok (.istore_n 2, 1) := by decide +kernel
theorem dXS_flushMemory_74 : decode cXS_flushMemory 74 = .ok (.aload_n 0, 1) := by decide +kernel
theorem dXS_flushMemory_75 : decode cXS_flushMemory 75 = .ok (.iload_n 2, 1) := by decide +kernel
theorem dXS_flushMemory_76 : decode cXS_flushMemory 76 = .ok (.aload_n 0, 1) := by decide +kernel
theorem dXS_flushMemory_77 : decode cXS_flushMemory 77 = .ok (.getfield 34, 3) := by decide +kernel
theorem dXS_flushMemory_80 : decode cXS_flushMemory 80 = .ok (.iload_n 2, 1) := by decide +kernel
theorem dXS_flushMemory_81 : decode cXS_flushMemory 81 = .ok (.invokevirtual 119, 3) := by decide +kernel
theorem dXS_flushMemory_84 : decode cXS_flushMemory 84 = .ok (.checkcast 38, 3) := by decide +kernel
theorem dXS_flushMemory_87 : decode cXS_flushMemory 87 = .ok (.getfield 123, 3) := by decide +kernel
theorem dXS_flushMemory_90 : decode cXS_flushMemory 90 = .ok (.iconst 1, 1) := by decide +kernel
theorem dXS_flushMemory_91 : decode cXS_flushMemory 91 = .ok (.iadd, 1) := by decide +kernel
theorem dXS_flushMemory_92 : decode cXS_flushMemory 92 = .ok (.invokevirtual 106, 3) := by decide +kernel
theorem dXS_flushMemory_95 : decode cXS_flushMemory 95 = .ok (.pop, 1) := by decide +kernel
theorem dXS_flushMemory_96 : decode cXS_flushMemory 96 = .ok (.iinc 1 (-1), 3) := by decide +kernel
theorem dXS_flushMemory_99 : decode cXS_flushMemory 99 = .ok (.goto (-46), 3) := by decide +kernel
theorem dXS_flushMemory_102 : decode cXS_flushMemory 102 = .ok (.return_, 1) := by decide +kernel
theorem dXA_add_0 : decode cXA_add 0 = .ok (.aload_n 0, 1) := by decide +kernel
theorem dXA_add_1 : decode cXA_add 1 = .ok (.dup, 1) := by decide +kernel
theorem dXA_add_2 : decode cXA_add 2 = .ok (.getfield 63, 3) := by decide +kernel
theorem dXA_add_5 : decode cXA_add 5 = .ok (.iconst 1, 1) := by decide +kernel
theorem dXA_add_6 : decode cXA_add 6 = .ok (.iadd, 1) := by decide +kernel
theorem dXA_add_7 : decode cXA_add 7 = .ok (.putfield 63, 3) := by decide +kernel
theorem dXA_add_10 : decode cXA_add 10 = .ok (.aload_n 0, 1) := by decide +kernel
theorem dXA_add_11 : decode cXA_add 11 = .ok (.aload_n 1, 1) := by decide +kernel
theorem dXA_add_12 : decode cXA_add 12 = .ok (.aload_n 0, 1) := by decide +kernel
theorem dXA_add_13 : decode cXA_add 13 = .ok (.getfield 9, 3) := by decide +kernel
theorem dXA_add_16 : decode cXA_add 16 = .ok (.aload_n 0, 1) := by decide +kernel
theorem dXA_add_17 : decode cXA_add 17 = .ok (.getfield 48, 3) := by decide +kernel
theorem dXA_add_20 : decode cXA_add 20 = .ok (.invokevirtual 131, 3) := by decide +kernel
theorem dXA_add_23 : decode cXA_add 23 = .ok (.iconst 1, 1) := by decide +kernel
theorem dXA_add_24 : decode cXA_add 24 = .ok (.ireturn, 1) := by decide +kernel
theorem dXA_addp_0 : decode cXA_addp 0 = .ok (.iload_n 3, 1) := by decide +kernel
theorem dXA_addp_1 : decode cXA_addp 1 = .ok (.aload_n 2, 1) := by decide +kernel
theorem dXA_addp_2 : decode cXA_addp 2 = .ok (.arraylength, 1) := by decide +kernel
theorem dXA_addp_3 : decode cXA_addp 3 = .ok (.if_icmp .ne 8, 3) := by decide +kernel
theorem dXA_addp_6 : decode cXA_addp 6 = .ok (.aload_n 0, 1) := by decide +kernel
theorem dXA_addp_7 : decode cXA_addp 7 = .ok (.invokevirtual 129, 3) := by decide +kernel
theorem dXA_addp_10 : decode cXA_addp 10 = .ok (.astore_n 2, 1) := by decide +kernel
theorem dXA_addp_11 : decode cXA_addp 11 = .ok (.aload_n 2, 1) := by decide +kernel
theorem dXA_addp_12 : decode cXA_addp 12 = .ok (.iload_n 3, 1) := by decide +kernel
theorem dXA_addp_13 : decode cXA_addp 13 = .ok (.aload_n 1, 1) := by decide +kernel
theorem dXA_addp_14 : decode cXA_addp 14 = .ok (.aastore, 1) := by decide +kernel
theorem dXA_addp_15 : decode cXA_addp 15 = .ok (.aload_n 0, 1) := by decide +kernel
theorem dXA_addp_16 : decode cXA_addp 16 = .ok (.iload_n 3, 1) := by decide +kernel
theorem dXA_addp_17 : decode cXA_addp 17 = .ok (.iconst 1, 1) := by decide +kernel
theorem dXA_addp_18 : decode cXA_addp 18 = .ok (.iadd, 1) := by decide +kernel
theorem dXA_addp_19 : decode cXA_addp 19 = .ok (.putfield 48, 3) := by decide +kernel
theorem dXA_addp_22 : decode cXA_addp 22 = .ok (.return_, 1) := by decide +kernel
theorem dXA_grow0_0 : decode cXA_grow0 0 = .ok (.aload_n 0, 1) := by decide +kernel
theorem dXA_grow0_1 : decode cXA_grow0 1 = .ok (.aload_n 0, 1) := by decide +kernel
theorem dXA_grow0_2 : decode cXA_grow0 2 = .ok (.getfield 48, 3) := by decide +kernel
theorem dXA_grow0_5 : decode cXA_grow0 5 = .ok (.iconst 1, 1) := by decide +kernel
theorem dXA_grow0_6 : decode cXA_grow0 6 = .ok (.iadd, 1) := by decide +kernel
theorem dXA_grow0_7 : decode cXA_grow0 7 = .ok (.invokevirtual 69, 3) := by decide +kernel
theorem dXA_grow0_10 : decode cXA_grow0 10 = .ok (.areturn, 1) := by decide +kernel
theorem dXA_grow1_0 : decode cXA_grow1 0 = .ok (.aload_n 0, 1) := by decide +kernel
theorem dXA_grow1_1 : decode cXA_grow1 1 = .ok (.getfield 9, 3) := by decide +kernel
theorem dXA_grow1_4 : decode cXA_grow1 4 = .ok (.arraylength, 1) := by decide +kernel
theorem dXA_grow1_5 : decode cXA_grow1 5 = .ok (.istore_n 2, 1) := by decide +kernel
theorem dXA_grow1_6 : decode cXA_grow1 6 = .ok (.iload_n 2, 1) := by decide +kernel
theorem dXA_grow1_7 : decode cXA_grow1 7 = .ok (.ifCond .gt 13, 3) := by decide +kernel
theorem dXA_grow1_10 : decode cXA_grow1 10 = .ok (.aload_n 0, 1) := by decide +kernel
theorem dXA_grow1_11 : decode cXA_grow1 11 = .ok (.getfield 9, 3) := by decide +kernel
theorem dXA_grow1_14 : decode cXA_grow1 14 = .ok (.getstatic 39, 3) := by decide +kernel
theorem dXA_grow1_17 : decode cXA_grow1 17 = .ok (.if_acmp .eq 28, 3) := by decide +kernel
theorem dXA_grow1_20 : decode cXA_grow1 20 = .ok (.iload_n 2, 1) := by decide +kernel
theorem dXA_grow1_21 : decode cXA_grow1 21 = .ok (.iload_n 1, 1) := by decide +kernel
theorem dXA_grow1_22 : decode cXA_grow1 22 = .ok (.iload_n 2, 1) := by decide +kernel
theorem dXA_grow1_23 : decode cXA_grow1 23 = .ok (.isub, 1) := by decide +kernel
theorem dXA_grow1_24 : decode cXA_grow1 24 = .ok (.iload_n 2, 1) := by decide +kernel
theorem dXA_grow1_25 : decode cXA_grow1 25 = .ok (.iconst 1, 1) := by decide +kernel
theorem dXA_grow1_26 : decode cXA_grow1 26 = .ok (.ishr, 1) := by decide +kernel
theorem dXA_grow1_27 : decode cXA_grow1 27 = .ok (.invokestatic 73, 3) := by decide +kernel
theorem dXA_grow1_30 : decode cXA_grow1 30 = .ok (.istore_n 3, 1) := by decide +kernel
theorem dXA_grow1_31 : decode cXA_grow1 31 = .ok (.aload_n 0, 1) := by decide +kernel
theorem dXA_grow1_32 : decode cXA_grow1 32 = .ok (.aload_n 0, 1) := by decide +kernel
theorem dXA_grow1_33 : decode cXA_grow1 33 = .ok (.getfield 9, 3) := by decide +kernel
theorem dXA_grow1_36 : decode cXA_grow1 36 = .ok (.iload_n 3, 1) := by decide +kernel
theorem dXA_grow1_37 : decode cXA_grow1 37 = .ok (.invokestatic 66, 3) := by decide +kernel
theorem dXA_grow1_40 : decode cXA_grow1 40 = .ok (.dup_x1, 1) := by decide +kernel
theorem dXA_grow1_41 : decode cXA_grow1 41 = .ok (.putfield 9, 3) := by decide +kernel
theorem dXA_grow1_44 : decode cXA_grow1 44 = .ok (.areturn, 1) := by decide +kernel
theorem dXA_grow1_45 : decode cXA_grow1 45 = .ok (.aload_n 0, 1) := by decide +kernel
theorem dXA_grow1_46 : decode cXA_grow1 46 = .ok (.bipush 10, 2) := by decide +kernel
theorem dXA_grow1_48 : decode cXA_grow1 48 = .ok (.iload_n 1, 1) := by decide +kernel
theorem dXA_grow1_49 : decode cXA_grow1 49 = .ok (.invokestatic 79, 3) := by decide +kernel
theorem dXA_grow1_52 : decode cXA_grow1 52 = .ok (.anewarray 7, 3) := by decide +kernel
theorem dXA_grow1_55 : decode cXA_grow1 55 = .ok (.dup_x1, 1) := by decide +kernel
theorem dXA_grow1_56 : decode cXA_grow1 56 = .ok (.putfield 9, 3) := by decide +kernel
theorem dXA_grow1_59 : decode cXA_grow1 59 = .ok (.areturn, 1) := by decide +kernel
theorem dXU_newLength_0 : decode cXU_newLength 0 = .ok (.iload_n 0, 1) := by decide +kernel
theorem dXU_newLength_1 : decode cXU_newLength 1 = .ok (.iload_n 1, 1) := by decide +kernel
theorem dXU_newLength_2 : decode cXU_newLength 2 = .ok (.iload_n 2, 1) := by decide +kernel
theorem dXU_newLength_3 : decode cXU_newLength 3 = .ok (.invokestatic 194, 3) := by decide +kernel
theorem dXU_newLength_6 : decode cXU_newLength 6 = .ok (.iadd, 1) := by decide +kernel
theorem dXU_newLength_7 : decode cXU_newLength 7 = .ok (.istore_n 3, 1) := by decide +kernel
theorem dXU_newLength_8 : decode cXU_newLength 8 = .ok (.iconst 0, 1) := by decide +kernel
theorem dXU_newLength_9 : decode cXU_newLength 9 = .ok (.iload_n 3, 1) := by decide +kernel
theorem dXU_newLength_10 : decode cXU_newLength 10 = .ok (.if_icmp .ge 11, 3) := by decide +kernel
theorem dXU_newLength_13 : decode cXU_newLength 13 = .ok (.iload_n 3, 1) := by decide +kernel
theorem dXU_newLength_14 : decode cXU_newLength 14 = .ok (.ldc 200, 2) := by decide +kernel
theorem dXU_newLength_16 : decode cXU_newLength 16 = .ok (.if_icmp .gt 5, 3) := by decide +kernel
theorem dXU_newLength_19 : decode cXU_newLength 19 = .ok (.iload_n 3, 1) := by decide +kernel
theorem dXU_newLength_20 : decode cXU_newLength 20 = .ok (.ireturn, 1) := by decide +kernel
theorem dXU_newLength_21 : decode cXU_newLength 21 = .ok (.iload_n 0, 1) := by decide +kernel
theorem dXU_newLength_22 : decode cXU_newLength 22 = .ok (.iload_n 1, 1) := by decide +kernel
theorem dXU_newLength_23 : decode cXU_newLength 23 = .ok (.invokestatic 201, 3) := by decide +kernel
theorem dXU_newLength_26 : decode cXU_newLength 26 = .ok (.ireturn, 1) := by decide +kernel
theorem dXY_copyOf2_0 : decode cXY_copyOf2 0 = .ok (.aload_n 0, 1) := by decide +kernel
theorem dXY_copyOf2_1 : decode cXY_copyOf2 1 = .ok (.iload_n 1, 1) := by decide +kernel
theorem dXY_copyOf2_2 : decode cXY_copyOf2 2 = .ok (.aload_n 0, 1) := by decide +kernel
theorem dXY_copyOf2_3 : decode cXY_copyOf2 3 = .ok (.invokevirtual 86, 3) := by decide +kernel
theorem dXY_copyOf2_6 : decode cXY_copyOf2 6 = .ok (.invokestatic 300, 3) := by decide +kernel
theorem dXY_copyOf2_9 : decode cXY_copyOf2 9 = .ok (.areturn, 1) := by decide +kernel
theorem dXY_copyOf3_0 : decode cXY_copyOf3 0 = .ok (.aload_n 2, 1) := by decide +kernel
theorem dXY_copyOf3_1 : decode cXY_copyOf3 1 = .ok (.ldc 110, 2) := by decide +kernel
theorem dXY_copyOf3_3 : decode cXY_copyOf3 3 = .ok (.if_acmp .ne 10, 3) := by decide +kernel
theorem dXY_copyOf3_6 : decode cXY_copyOf3 6 = .ok (.iload_n 1, 1) := by decide +kernel
theorem dXY_copyOf3_7 : decode cXY_copyOf3 7 = .ok (.anewarray 2, 3) := by decide +kernel
theorem dXY_copyOf3_10 : decode cXY_copyOf3 10 = .ok (.goto 14, 3) := by decide +kernel
theorem dXY_copyOf3_13 : decode cXY_copyOf3 13 = .ok (.aload_n 2, 1) := by decide +kernel
theorem dXY_copyOf3_14 : decode cXY_copyOf3 14 = .ok (.invokevirtual 90, 3) := by decide +kernel
theorem dXY_copyOf3_17 : decode cXY_copyOf3 17 = .ok (.iload_n 1, 1) := by decide +kernel
theorem dXY_copyOf3_18 : decode cXY_copyOf3 18 = .ok (.invokestatic 95, 3) := by decide +kernel
theorem dXY_copyOf3_21 : decode cXY_copyOf3 21 = .ok (.checkcast 110, 3) := by decide +kernel
theorem dXY_copyOf3_24 : decode cXY_copyOf3 24 = .ok (.astore_n 3, 1) := by decide +kernel
theorem dXY_copyOf3_25 : decode cXY_copyOf3 25 = .ok (.aload_n 0, 1) := by decide +kernel
theorem dXY_copyOf3_26 : decode cXY_copyOf3 26 = .ok (.iconst 0, 1) := by decide +kernel
theorem dXY_copyOf3_27 : decode cXY_copyOf3 27 = .ok (.aload_n 3, 1) := by decide +kernel
theorem dXY_copyOf3_28 : decode cXY_copyOf3 28 = .ok (.iconst 0, 1) := by decide +kernel
theorem dXY_copyOf3_29 : decode cXY_copyOf3 29 = .ok (.aload_n 0, 1) := by decide +kernel
theorem dXY_copyOf3_30 : decode cXY_copyOf3 30 = .ok (.arraylength, 1) := by decide +kernel
theorem dXY_copyOf3_31 : decode cXY_copyOf3 31 = .ok (.iload_n 1, 1) := by decide +kernel
theorem dXY_copyOf3_32 : decode cXY_copyOf3 32 = .ok (.invokestatic 304, 3) := by decide +kernel
theorem dXY_copyOf3_35 : decode cXY_copyOf3 35 = .ok (.invokestatic 150, 3) := by decide +kernel
theorem dXY_copyOf3_38 : decode cXY_copyOf3 38 = .ok (.aload_n 3, 1) := by decide +kernel
theorem dXY_copyOf3_39 : decode cXY_copyOf3 39 = .ok (.areturn, 1) := by decide +kernel
theorem dXA_size_0 : decode cXA_size 0 = .ok (.aload_n 0, 1) := by decide +kernel
theorem dXA_size_1 : decode cXA_size 1 = .ok (.getfield 48, 3) := by decide +kernel
theorem dXA_size_4 : decode cXA_size 4 = .ok (.ireturn, 1) := by decide +kernel
theorem dXS_newestAreOfOneTier_0 : decode cXS_newestAreOfOneTier 0 = .ok (.aload_n 0, 1) := by decide +kernel
theorem dXS_newestAreOfOneTier_1 : decode cXS_newestAreOfOneTier 1 = .ok (.getfield 34, 3) := by decide +kernel
theorem dXS_newestAreOfOneTier_4 : decode cXS_newestAreOfOneTier 4 = .ok (.invokevirtual 117, 3) := by decide +kernel
theorem dXS_newestAreOfOneTier_7 : decode cXS_newestAreOfOneTier 7 = .ok (.iconst 3, 1) := by decide +kernel
theorem dXS_newestAreOfOneTier_8 : decode cXS_newestAreOfOneTier 8 = .ok (.isub, 1) := by decide +kernel
theorem dXS_newestAreOfOneTier_9 : decode cXS_newestAreOfOneTier 9 = .ok (.istore_n 1, 1) := by decide +kernel
theorem dXS_newestAreOfOneTier_10 : decode cXS_newestAreOfOneTier 10 = .ok (.iload_n 1, 1) := by decide +kernel
theorem dXS_newestAreOfOneTier_11 : decode cXS_newestAreOfOneTier 11 = .ok (.ifCond .ge 5, 3) := by decide +kernel
theorem dXS_newestAreOfOneTier_14 : decode cXS_newestAreOfOneTier 14 = .ok (.iconst 0, 1) := by decide +kernel
theorem dXS_newestAreOfOneTier_15 : decode cXS_newestAreOfOneTier 15 = .ok (.ireturn, 1) := by decide +kernel
theorem dXS_newestAreOfOneTier_16 : decode cXS_newestAreOfOneTier 16 = .ok (.aload_n 0, 1) := by decide +kernel
theorem dXS_newestAreOfOneTier_17 : decode cXS_newestAreOfOneTier 17 = .ok (.getfield 34, 3) := by decide +kernel
theorem dXS_newestAreOfOneTier_20 : decode cXS_newestAreOfOneTier 20 = .ok (.iload_n 1, 1) := by decide +kernel
theorem dXS_newestAreOfOneTier_21 : decode cXS_newestAreOfOneTier 21 = .ok (.invokevirtual 119, 3) := by decide +kernel
theorem dXS_newestAreOfOneTier_24 : decode cXS_newestAreOfOneTier 24 = .ok (.checkcast 38, 3) := by decide +kernel
theorem dXS_newestAreOfOneTier_27 : decode cXS_newestAreOfOneTier 27 = .ok (.getfield 123, 3) := by decide +kernel
theorem dXS_newestAreOfOneTier_30 : decode cXS_newestAreOfOneTier 30 = .ok (.istore_n 2, 1) := by decide +kernel
theorem dXS_newestAreOfOneTier_31 : decode cXS_newestAreOfOneTier 31 = .ok (.iload_n 1, 1) := by decide +kernel
theorem dXS_newestAreOfOneTier_32 : decode cXS_newestAreOfOneTier 32 = .ok (.iconst 1, 1) := by decide +kernel
theorem dXS_newestAreOfOneTier_33 : decode cXS_newestAreOfOneTier 33 = .ok (.iadd, 1) := by decide +kernel
theorem dXS_newestAreOfOneTier_34 : decode cXS_newestAreOfOneTier 34 = .ok (.istore_n 3, 1) := by decide +kernel
theorem dXS_newestAreOfOneTier_35 : decode cXS_newestAreOfOneTier 35 = .ok (.iload_n 3, 1) := by decide +kernel
theorem dXS_newestAreOfOneTier_36 : decode cXS_newestAreOfOneTier 36 = .ok (.aload_n 0, 1) := by decide +kernel
theorem dXS_newestAreOfOneTier_37 : decode cXS_newestAreOfOneTier 37 = .ok (.getfield 34, 3) := by decide +kernel
theorem dXS_newestAreOfOneTier_40 : decode cXS_newestAreOfOneTier 40 = .ok (.invokevirtual 117, 3) := by decide +kernel
theorem dXS_newestAreOfOneTier_43 : decode cXS_newestAreOfOneTier 43 = .ok (.if_icmp .ge 29, 3) := by decide +kernel
theorem dXS_newestAreOfOneTier_46 : decode cXS_newestAreOfOneTier 46 = .ok (.aload_n 0, 1) := by decide +kernel
theorem dXS_newestAreOfOneTier_47 : decode cXS_newestAreOfOneTier 47 = .ok (.getfield 34, 3) := by decide +kernel
theorem dXS_newestAreOfOneTier_50 : decode cXS_newestAreOfOneTier 50 = .ok (.iload_n 3, 1) := by decide +kernel
theorem dXS_newestAreOfOneTier_51 : decode cXS_newestAreOfOneTier 51 = .ok (.invokevirtual 119, 3) := by decide +kernel
theorem dXS_newestAreOfOneTier_54 : decode cXS_newestAreOfOneTier 54 = .ok (.checkcast 38, 3) := by decide +kernel
theorem dXS_newestAreOfOneTier_57 : decode cXS_newestAreOfOneTier 57 = .ok (.getfield 123, 3) := by decide +kernel
theorem dXS_newestAreOfOneTier_60 : decode cXS_newestAreOfOneTier 60 = .ok (.iload_n 2, 1) := by decide +kernel
theorem dXS_newestAreOfOneTier_61 : decode cXS_newestAreOfOneTier 61 = .ok (.if_icmp .eq 5, 3) := by decide +kernel
theorem dXS_newestAreOfOneTier_64 : decode cXS_newestAreOfOneTier 64 = .ok (.iconst 0, 1) := by decide +kernel
theorem dXS_newestAreOfOneTier_65 : decode cXS_newestAreOfOneTier 65 = .ok (.ireturn, 1) := by decide +kernel
theorem dXS_newestAreOfOneTier_66 : decode cXS_newestAreOfOneTier 66 = .ok (.iinc 3 1, 3) := by decide +kernel
theorem dXS_newestAreOfOneTier_69 : decode cXS_newestAreOfOneTier 69 = .ok (.goto (-34), 3) := by decide +kernel
theorem dXS_newestAreOfOneTier_72 : decode cXS_newestAreOfOneTier 72 = .ok (.iconst 1, 1) := by decide +kernel
theorem dXS_newestAreOfOneTier_73 : decode cXS_newestAreOfOneTier 73 = .ok (.ireturn, 1) := by decide +kernel
theorem dXA_get_0 : decode cXA_get 0 = .ok (.iload_n 1, 1) := by decide +kernel
theorem dXA_get_1 : decode cXA_get 1 = .ok (.aload_n 0, 1) := by decide +kernel
theorem dXA_get_2 : decode cXA_get 2 = .ok (.getfield 48, 3) := by decide +kernel
theorem dXA_get_5 : decode cXA_get 5 = .ok (.invokestatic 118, 3) := by decide +kernel
theorem dXA_get_8 : decode cXA_get 8 = .ok (.pop, 1) := by decide +kernel
theorem dXA_get_9 : decode cXA_get 9 = .ok (.aload_n 0, 1) := by decide +kernel
theorem dXA_get_10 : decode cXA_get 10 = .ok (.iload_n 1, 1) := by decide +kernel
theorem dXA_get_11 : decode cXA_get 11 = .ok (.invokevirtual 123, 3) := by decide +kernel
theorem dXA_get_14 : decode cXA_get 14 = .ok (.areturn, 1) := by decide +kernel
theorem dXO_checkIndex_0 : decode cXO_checkIndex 0 = .ok (.iload_n 0, 1) := by decide +kernel
theorem dXO_checkIndex_1 : decode cXO_checkIndex 1 = .ok (.iload_n 1, 1) := by decide +kernel
theorem dXO_checkIndex_2 : decode cXO_checkIndex 2 = .ok (.aconst_null, 1) := by decide +kernel
theorem dXO_checkIndex_3 : decode cXO_checkIndex 3 = .ok (.invokestatic 105, 3) := by decide +kernel
theorem dXO_checkIndex_6 : decode cXO_checkIndex 6 = .ok (.ireturn, 1) := by decide +kernel
theorem dXP_checkIndex_0 : decode cXP_checkIndex 0 = .ok (.iload_n 0, 1) := by decide +kernel
theorem dXP_checkIndex_1 : decode cXP_checkIndex 1 = .ok (.ifCond .lt 8, 3) := by decide +kernel
theorem dXP_checkIndex_4 : decode cXP_checkIndex 4 = .ok (.iload_n 0, 1) := by decide +kernel
theorem dXP_checkIndex_5 : decode cXP_checkIndex 5 = .ok (.iload_n 1, 1) := by decide +kernel
theorem dXP_checkIndex_6 : decode cXP_checkIndex 6 = .ok (.if_icmp .lt 10, 3) := by decide +kernel
theorem dXP_checkIndex_9 : decode cXP_checkIndex 9 = .ok (.aload_n 2, 1) := by decide +kernel
theorem dXP_checkIndex_10 : decode cXP_checkIndex 10 = .ok (.iload_n 0, 1) := by decide +kernel
theorem dXP_checkIndex_11 : decode cXP_checkIndex 11 = .ok (.iload_n 1, 1) := by decide +kernel
theorem dXP_checkIndex_12 : decode cXP_checkIndex 12 = .ok (.invokestatic 95, 3) := by decide +kernel
theorem dXP_checkIndex_16 : decode cXP_checkIndex 16 = .ok (.iload_n 0, 1) := by decide +kernel
theorem dXP_checkIndex_17 : decode cXP_checkIndex 17 = .ok (.ireturn, 1) := by decide +kernel
theorem dXA_elementData_0 : decode cXA_elementData 0 = .ok (.aload_n 0, 1) := by decide +kernel
theorem dXA_elementData_1 : decode cXA_elementData 1 = .ok (.getfield 9, 3) := by decide +kernel
theorem dXA_elementData_4 : decode cXA_elementData 4 = .ok (.iload_n 1, 1) := by decide +kernel
theorem dXA_elementData_5 : decode cXA_elementData 5 = .ok (.aaload, 1) := by decide +kernel
theorem dXA_elementData_6 : decode cXA_elementData 6 = .ok (.areturn, 1) := by decide +kernel
theorem dXS_mergeFrom_0 : decode cXS_mergeFrom 0 = .ok (.new 38, 3) := by decide +kernel
theorem dXS_mergeFrom_3 : decode cXS_mergeFrom 3 = .ok (.dup, 1) := by decide +kernel
theorem dXS_mergeFrom_4 : decode cXS_mergeFrom 4 = .ok (.iload_n 2, 1) := by decide +kernel
theorem dXS_mergeFrom_5 : decode cXS_mergeFrom 5 = .ok (.invokespecial 40, 3) := by decide +kernel
theorem dXS_mergeFrom_8 : decode cXS_mergeFrom 8 = .ok (.astore_n 3, 1) := by decide +kernel
theorem dXS_mergeFrom_9 : decode cXS_mergeFrom 9 = .ok (.iload_n 1, 1) := by decide +kernel
theorem dXS_mergeFrom_10 : decode cXS_mergeFrom 10 = .ok (.istore 4, 2) := by decide +kernel
theorem dXS_mergeFrom_12 : decode cXS_mergeFrom 12 = .ok (.iload 4, 2) := by decide +kernel
theorem dXS_mergeFrom_14 : decode cXS_mergeFrom 14 = .ok (.aload_n 0, 1) := by decide +kernel
theorem dXS_mergeFrom_15 : decode cXS_mergeFrom 15 = .ok (.getfield 34, 3) := by decide +kernel
theorem dXS_mergeFrom_18 : decode cXS_mergeFrom 18 = .ok (.invokevirtual 117, 3) := by decide +kernel
theorem dXS_mergeFrom_21 : decode cXS_mergeFrom 21 = .ok (.if_icmp .ge 25, 3) := by decide +kernel
theorem dXS_mergeFrom_24 : decode cXS_mergeFrom 24 = .ok (.aload_n 3, 1) := by decide +kernel
theorem dXS_mergeFrom_25 : decode cXS_mergeFrom 25 = .ok (.aload_n 0, 1) := by decide +kernel
theorem dXS_mergeFrom_26 : decode cXS_mergeFrom 26 = .ok (.getfield 34, 3) := by decide +kernel
theorem dXS_mergeFrom_29 : decode cXS_mergeFrom 29 = .ok (.iload 4, 2) := by decide +kernel
theorem dXS_mergeFrom_31 : decode cXS_mergeFrom 31 = .ok (.invokevirtual 119, 3) := by decide +kernel
theorem dXS_mergeFrom_34 : decode cXS_mergeFrom 34 = .ok (.checkcast 38, 3) := by decide +kernel
theorem dXS_mergeFrom_37 : decode cXS_mergeFrom 37 = .ok (.invokevirtual 136, 3) := by decide +kernel
theorem dXS_mergeFrom_40 : decode cXS_mergeFrom 40 = .ok (.iinc 4 1, 3) := by decide +kernel
theorem dXS_mergeFrom_43 : decode cXS_mergeFrom 43 = .ok (.goto (-31), 3) := by decide +kernel
theorem dXS_mergeFrom_46 : decode cXS_mergeFrom 46 = .ok (.aload_n 3, 1) := by decide +kernel
theorem dXS_mergeFrom_47 : decode cXS_mergeFrom 47 = .ok (.invokevirtual 140, 3) := by decide +kernel
theorem dXS_mergeFrom_50 : decode cXS_mergeFrom 50 = .ok (.iload_n 1, 1) := by decide +kernel
theorem dXS_mergeFrom_51 : decode cXS_mergeFrom 51 = .ok (.ifCond .ne 15, 3) := by decide +kernel
theorem dXS_mergeFrom_54 : decode cXS_mergeFrom 54 = .ok (.aload_n 3, 1) := by decide +kernel
theorem dXS_mergeFrom_55 : decode cXS_mergeFrom 55 = .ok (.aload_n 0, 1) := by decide +kernel
theorem dXS_mergeFrom_56 : decode cXS_mergeFrom 56 = .ok (.getfield 53, 3) := by decide +kernel
theorem dXS_mergeFrom_59 : decode cXS_mergeFrom 59 = .ok (.aload_n 0, 1) := by decide +kernel
theorem dXS_mergeFrom_60 : decode cXS_mergeFrom 60 = .ok (.getfield 22, 3) := by decide +kernel
theorem dXS_mergeFrom_63 : decode cXS_mergeFrom 63 = .ok (.invokevirtual 143, 3) := by decide +kernel
theorem dXS_mergeFrom_66 : decode cXS_mergeFrom 66 = .ok (.aload_n 0, 1) := by decide +kernel
theorem dXS_mergeFrom_67 : decode cXS_mergeFrom 67 = .ok (.getfield 34, 3) := by decide +kernel
theorem dXS_mergeFrom_70 : decode cXS_mergeFrom 70 = .ok (.invokevirtual 117, 3) := by decide +kernel
theorem dXS_mergeFrom_73 : decode cXS_mergeFrom 73 = .ok (.iconst 1, 1) := by decide +kernel
theorem dXS_mergeFrom_74 : decode cXS_mergeFrom 74 = .ok (.isub, 1) := by decide +kernel
theorem dXS_mergeFrom_75 : decode cXS_mergeFrom 75 = .ok (.istore 4, 2) := by decide +kernel
theorem dXS_mergeFrom_77 : decode cXS_mergeFrom 77 = .ok (.iload 4, 2) := by decide +kernel
theorem dXS_mergeFrom_79 : decode cXS_mergeFrom 79 = .ok (.iload_n 1, 1) := by decide +kernel
theorem dXS_mergeFrom_80 : decode cXS_mergeFrom 80 = .ok (.if_icmp .lt 19, 3) := by decide +kernel
theorem dXS_mergeFrom_83 : decode cXS_mergeFrom 83 = .ok (.aload_n 0, 1) := by decide +kernel
theorem dXS_mergeFrom_84 : decode cXS_mergeFrom 84 = .ok (.getfield 34, 3) := by decide +kernel
theorem dXS_mergeFrom_87 : decode cXS_mergeFrom 87 = .ok (.iload 4, 2) := by decide +kernel
theorem dXS_mergeFrom_89 : decode cXS_mergeFrom 89 = .ok (.invokevirtual 147, 3) := by decide +kernel
theorem dXS_mergeFrom_92 : decode cXS_mergeFrom 92 = .ok (.pop, 1) := by decide +kernel
theorem dXS_mergeFrom_93 : decode cXS_mergeFrom 93 = .ok (.iinc 4 (-1), 3) := by decide +kernel
theorem dXS_mergeFrom_96 : decode cXS_mergeFrom 96 = .ok (.goto (-19), 3) := by decide +kernel
theorem dXS_mergeFrom_99 : decode cXS_mergeFrom 99 = .ok (.aload_n 0, 1) := by decide +kernel
theorem dXS_mergeFrom_100 : decode cXS_mergeFrom 100 = .ok (.getfield 34, 3) := by decide +kernel
theorem dXS_mergeFrom_103 : decode cXS_mergeFrom 103 = .ok (.aload_n 3, 1) := by decide +kernel
theorem dXS_mergeFrom_104 : decode cXS_mergeFrom 104 = .ok (.invokevirtual 129, 3) := by decide +kernel
theorem dXS_mergeFrom_107 : decode cXS_mergeFrom 107 = .ok (.pop, 1) := by decide +kernel
theorem dXS_mergeFrom_108 : decode cXS_mergeFrom 108 = .ok (.aload_n 3, 1) := by decide +kernel
theorem dXS_mergeFrom_109 : decode cXS_mergeFrom 109 = .ok (.areturn, 1) := by decide +kernel
theorem dXT_addWinners_0 : decode cXT_addWinners 0 = .ok (.iconst 0, 1) := by decide +kernel
theorem dXT_addWinners_1 : decode cXT_addWinners 1 = .ok (.istore_n 2, 1) := by decide +kernel
theorem dXT_addWinners_2 : decode cXT_addWinners 2 = .ok (.iload_n 2, 1) := by decide +kernel
theorem dXT_addWinners_3 : decode cXT_addWinners 3 = .ok (.sipush 704, 3) := by decide +kernel
theorem dXT_addWinners_6 : decode cXT_addWinners 6 = .ok (.if_icmp .ge 28, 3) := by decide +kernel
theorem dXT_addWinners_9 : decode cXT_addWinners 9 = .ok (.aload_n 1, 1) := by decide +kernel
theorem dXT_addWinners_10 : decode cXT_addWinners 10 = .ok (.getfield 17, 3) := by decide +kernel
theorem dXT_addWinners_13 : decode cXT_addWinners 13 = .ok (.iload_n 2, 1) := by decide +kernel
theorem dXT_addWinners_14 : decode cXT_addWinners 14 = .ok (.aaload, 1) := by decide +kernel
theorem dXT_addWinners_15 : decode cXT_addWinners 15 = .ok (.ifnull 13, 3) := by decide +kernel
theorem dXT_addWinners_18 : decode cXT_addWinners 18 = .ok (.aload_n 0, 1) := by decide +kernel
theorem dXT_addWinners_19 : decode cXT_addWinners 19 = .ok (.aload_n 1, 1) := by decide +kernel
theorem dXT_addWinners_20 : decode cXT_addWinners 20 = .ok (.getfield 17, 3) := by decide +kernel
theorem dXT_addWinners_23 : decode cXT_addWinners 23 = .ok (.iload_n 2, 1) := by decide +kernel
theorem dXT_addWinners_24 : decode cXT_addWinners 24 = .ok (.aaload, 1) := by decide +kernel
theorem dXT_addWinners_25 : decode cXT_addWinners 25 = .ok (.invokevirtual 41, 3) := by decide +kernel
theorem dXT_addWinners_28 : decode cXT_addWinners 28 = .ok (.iinc 2 1, 3) := by decide +kernel
theorem dXT_addWinners_31 : decode cXT_addWinners 31 = .ok (.goto (-29), 3) := by decide +kernel
theorem dXT_addWinners_34 : decode cXT_addWinners 34 = .ok (.return_, 1) := by decide +kernel
theorem dXT_dropCovered_0 : decode cXT_dropCovered 0 = .ok (.iconst 0, 1) := by decide +kernel
theorem dXT_dropCovered_1 : decode cXT_dropCovered 1 = .ok (.istore_n 1, 1) := by decide +kernel
theorem dXT_dropCovered_2 : decode cXT_dropCovered 2 = .ok (.iload_n 1, 1) := by decide +kernel
theorem dXT_dropCovered_3 : decode cXT_dropCovered 3 = .ok (.bipush 16, 2) := by decide +kernel
theorem dXT_dropCovered_5 : decode cXT_dropCovered 5 = .ok (.if_icmp .ge 52, 3) := by decide +kernel
theorem dXT_dropCovered_8 : decode cXT_dropCovered 8 = .ok (.iconst 0, 1) := by decide +kernel
theorem dXT_dropCovered_9 : decode cXT_dropCovered 9 = .ok (.istore_n 2, 1) := by decide +kernel
theorem dXT_dropCovered_10 : decode cXT_dropCovered 10 = .ok (.iload_n 2, 1) := by decide +kernel
theorem dXT_dropCovered_11 : decode cXT_dropCovered 11 = .ok (.bipush 8, 2) := by decide +kernel
theorem dXT_dropCovered_13 : decode cXT_dropCovered 13 = .ok (.if_icmp .ge 38, 3) := by decide +kernel
theorem dXT_dropCovered_16 : decode cXT_dropCovered 16 = .ok (.aload_n 0, 1) := by decide +kernel
theorem dXT_dropCovered_17 : decode cXT_dropCovered 17 = .ok (.iload_n 1, 1) := by decide +kernel
theorem dXT_dropCovered_18 : decode cXT_dropCovered 18 = .ok (.iload_n 2, 1) := by decide +kernel
theorem dXT_dropCovered_19 : decode cXT_dropCovered 19 = .ok (.invokevirtual 52, 3) := by decide +kernel
theorem dXT_dropCovered_22 : decode cXT_dropCovered 22 = .ok (.astore_n 3, 1) := by decide +kernel
theorem dXT_dropCovered_23 : decode cXT_dropCovered 23 = .ok (.aload_n 3, 1) := by decide +kernel
theorem dXT_dropCovered_24 : decode cXT_dropCovered 24 = .ok (.ifnull 21, 3) := by decide +kernel
theorem dXT_dropCovered_27 : decode cXT_dropCovered 27 = .ok (.aload_n 0, 1) := by decide +kernel
theorem dXT_dropCovered_28 : decode cXT_dropCovered 28 = .ok (.iload_n 1, 1) := by decide +kernel
theorem dXT_dropCovered_29 : decode cXT_dropCovered 29 = .ok (.iload_n 2, 1) := by decide +kernel
theorem dXT_dropCovered_30 : decode cXT_dropCovered 30 = .ok (.aload_n 3, 1) := by decide +kernel
theorem dXT_dropCovered_31 : decode cXT_dropCovered 31 = .ok (.getfield 49, 3) := by decide +kernel
theorem dXT_dropCovered_34 : decode cXT_dropCovered 34 = .ok (.invokevirtual 56, 3) := by decide +kernel
theorem dXT_dropCovered_37 : decode cXT_dropCovered 37 = .ok (.ifCond .eq 8, 3) := by decide +kernel
theorem dXT_dropCovered_40 : decode cXT_dropCovered 40 = .ok (.aload_n 0, 1) := by decide +kernel
theorem dXT_dropCovered_41 : decode cXT_dropCovered 41 = .ok (.aload_n 3, 1) := by decide +kernel
theorem dXT_dropCovered_42 : decode cXT_dropCovered 42 = .ok (.invokevirtual 60, 3) := by decide +kernel
theorem dXT_dropCovered_45 : decode cXT_dropCovered 45 = .ok (.iinc 2 1, 3) := by decide +kernel
theorem dXT_dropCovered_48 : decode cXT_dropCovered 48 = .ok (.goto (-38), 3) := by decide +kernel
theorem dXT_dropCovered_51 : decode cXT_dropCovered 51 = .ok (.iinc 1 1, 3) := by decide +kernel
theorem dXT_dropCovered_54 : decode cXT_dropCovered 54 = .ok (.goto (-52), 3) := by decide +kernel
theorem dXT_dropCovered_57 : decode cXT_dropCovered 57 = .ok (.return_, 1) := by decide +kernel
theorem dXT_pointAt_0 : decode cXT_pointAt 0 = .ok (.aload_n 0, 1) := by decide +kernel
theorem dXT_pointAt_1 : decode cXT_pointAt 1 = .ok (.getfield 17, 3) := by decide +kernel
theorem dXT_pointAt_4 : decode cXT_pointAt 4 = .ok (.iload_n 1, 1) := by decide +kernel
theorem dXT_pointAt_5 : decode cXT_pointAt 5 = .ok (.iload_n 2, 1) := by decide +kernel
theorem dXT_pointAt_6 : decode cXT_pointAt 6 = .ok (.invokestatic 27, 3) := by decide +kernel
theorem dXT_pointAt_9 : decode cXT_pointAt 9 = .ok (.aaload, 1) := by decide +kernel
theorem dXT_pointAt_10 : decode cXT_pointAt 10 = .ok (.areturn, 1) := by decide +kernel
theorem dXT_covers_0 : decode cXT_covers 0 = .ok (.aload_n 0, 1) := by decide +kernel
theorem dXT_covers_1 : decode cXT_covers 1 = .ok (.getfield 24, 3) := by decide +kernel
theorem dXT_covers_4 : decode cXT_covers 4 = .ok (.ifCond .ne 5, 3) := by decide +kernel
theorem dXT_covers_7 : decode cXT_covers 7 = .ok (.iconst 0, 1) := by decide +kernel
theorem dXT_covers_8 : decode cXT_covers 8 = .ok (.ireturn, 1) := by decide +kernel
theorem dXT_covers_9 : decode cXT_covers 9 = .ok (.iconst 0, 1) := by decide +kernel
theorem dXT_covers_10 : decode cXT_covers 10 = .ok (.istore 4, 2) := by decide +kernel
theorem dXT_covers_12 : decode cXT_covers 12 = .ok (.iload 4, 2) := by decide +kernel
theorem dXT_covers_14 : decode cXT_covers 14 = .ok (.iload_n 2, 1) := by decide +kernel
theorem dXT_covers_15 : decode cXT_covers 15 = .ok (.if_icmp .gt 56, 3) := by decide +kernel
theorem dXT_covers_18 : decode cXT_covers 18 = .ok (.iload_n 2, 1) := by decide +kernel
theorem dXT_covers_19 : decode cXT_covers 19 = .ok (.istore 5, 2) := by decide +kernel
theorem dXT_covers_21 : decode cXT_covers 21 = .ok (.iload 5, 2) := by decide +kernel
theorem dXT_covers_23 : decode cXT_covers 23 = .ok (.bipush 8, 2) := by decide +kernel
theorem dXT_covers_25 : decode cXT_covers 25 = .ok (.if_icmp .ge 40, 3) := by decide +kernel
theorem dXT_covers_28 : decode cXT_covers 28 = .ok (.aload_n 0, 1) := by decide +kernel
theorem dXT_covers_29 : decode cXT_covers 29 = .ok (.getfield 17, 3) := by decide +kernel
theorem dXT_covers_32 : decode cXT_covers 32 = .ok (.iload_n 1, 1) := by decide +kernel
theorem dXT_covers_33 : decode cXT_covers 33 = .ok (.iload 4, 2) := by decide +kernel
theorem dXT_covers_35 : decode cXT_covers 35 = .ok (.iload 5, 2) := by decide +kernel
theorem dXT_covers_37 : decode cXT_covers 37 = .ok (.invokestatic 45, 3) := by decide +kernel
theorem dXT_covers_40 : decode cXT_covers 40 = .ok (.aaload, 1) := by decide +kernel
theorem dXT_covers_41 : decode cXT_covers 41 = .ok (.astore 6, 2) := by decide +kernel
theorem dXT_covers_43 : decode cXT_covers 43 = .ok (.aload 6, 2) := by decide +kernel
theorem dXT_covers_45 : decode cXT_covers 45 = .ok (.ifnull 14, 3) := by decide +kernel
theorem dXT_covers_48 : decode cXT_covers 48 = .ok (.aload 6, 2) := by decide +kernel
theorem dXT_covers_50 : decode cXT_covers 50 = .ok (.getfield 49, 3) := by decide +kernel
theorem dXT_covers_53 : decode cXT_covers 53 = .ok (.iload_n 3, 1) := by decide +kernel
theorem dXT_covers_54 : decode cXT_covers 54 = .ok (.if_icmp .lt 5, 3) := by decide +kernel
theorem dXT_covers_57 : decode cXT_covers 57 = .ok (.iconst 1, 1) := by decide +kernel
theorem dXT_covers_58 : decode cXT_covers 58 = .ok (.ireturn, 1) := by decide +kernel
theorem dXT_covers_59 : decode cXT_covers 59 = .ok (.iinc 5 1, 3) := by decide +kernel
theorem dXT_covers_62 : decode cXT_covers 62 = .ok (.goto (-41), 3) := by decide +kernel
theorem dXT_covers_65 : decode cXT_covers 65 = .ok (.iinc 4 1, 3) := by decide +kernel
theorem dXT_covers_68 : decode cXT_covers 68 = .ok (.goto (-56), 3) := by decide +kernel
theorem dXT_covers_71 : decode cXT_covers 71 = .ok (.iconst 0, 1) := by decide +kernel
theorem dXT_covers_72 : decode cXT_covers 72 = .ok (.ireturn, 1) := by decide +kernel
theorem dXS_wipeSlot_0 : decode cXS_wipeSlot 0 = .ok (.sipush 128, 3) := by decide +kernel
theorem dXS_wipeSlot_3 : decode cXS_wipeSlot 3 = .ok (.iload_n 0, 1) := by decide +kernel
theorem dXS_wipeSlot_4 : decode cXS_wipeSlot 4 = .ok (.bipush 36, 2) := by decide +kernel
theorem dXS_wipeSlot_6 : decode cXS_wipeSlot 6 = .ok (.imul, 1) := by decide +kernel
theorem dXS_wipeSlot_7 : decode cXS_wipeSlot 7 = .ok (.iadd, 1) := by decide +kernel
theorem dXS_wipeSlot_8 : decode cXS_wipeSlot 8 = .ok (.iload_n 2, 1) := by decide +kernel
theorem dXS_wipeSlot_9 : decode cXS_wipeSlot 9 = .ok (.iload_n 2, 1) := by decide +kernel
theorem dXS_wipeSlot_10 : decode cXS_wipeSlot 10 = .ok (.iconst 1, 1) := by decide +kernel
theorem dXS_wipeSlot_11 : decode cXS_wipeSlot 11 = .ok (.iadd, 1) := by decide +kernel
theorem dXS_wipeSlot_12 : decode cXS_wipeSlot 12 = .ok (.imul, 1) := by decide +kernel
theorem dXS_wipeSlot_13 : decode cXS_wipeSlot 13 = .ok (.iconst 2, 1) := by decide +kernel
theorem dXS_wipeSlot_14 : decode cXS_wipeSlot 14 = .ok (.idiv, 1) := by decide +kernel
theorem dXS_wipeSlot_15 : decode cXS_wipeSlot 15 = .ok (.iadd, 1) := by decide +kernel
theorem dXS_wipeSlot_16 : decode cXS_wipeSlot 16 = .ok (.iload_n 1, 1) := by decide +kernel
theorem dXS_wipeSlot_17 : decode cXS_wipeSlot 17 = .ok (.iadd, 1) := by decide +kernel
theorem dXS_wipeSlot_18 : decode cXS_wipeSlot 18 = .ok (.ireturn, 1) := by decide +kernel
theorem dXT_dropEntry_0 : decode cXT_dropEntry 0 = .ok (.aload_n 0, 1) := by decide +kernel
theorem dXT_dropEntry_1 : decode cXT_dropEntry 1 = .ok (.getfield 17, 3) := by decide +kernel
theorem dXT_dropEntry_4 : decode cXT_dropEntry 4 = .ok (.aload_n 1, 1) := by decide +kernel
theorem dXT_dropEntry_5 : decode cXT_dropEntry 5 = .ok (.getfield 31, 3) := by decide +kernel
theorem dXT_dropEntry_8 : decode cXT_dropEntry 8 = .ok (.aconst_null, 1) := by decide +kernel
theorem dXT_dropEntry_9 : decode cXT_dropEntry 9 = .ok (.aastore, 1) := by decide +kernel
theorem dXT_dropEntry_10 : decode cXT_dropEntry 10 = .ok (.aload_n 0, 1) := by decide +kernel
theorem dXT_dropEntry_11 : decode cXT_dropEntry 11 = .ok (.dup, 1) := by decide +kernel
theorem dXT_dropEntry_12 : decode cXT_dropEntry 12 = .ok (.getfield 21, 3) := by decide +kernel
theorem dXT_dropEntry_15 : decode cXT_dropEntry 15 = .ok (.iconst 1, 1) := by decide +kernel
theorem dXT_dropEntry_16 : decode cXT_dropEntry 16 = .ok (.isub, 1) := by decide +kernel
theorem dXT_dropEntry_17 : decode cXT_dropEntry 17 = .ok (.putfield 21, 3) := by decide +kernel
theorem dXT_dropEntry_20 : decode cXT_dropEntry 20 = .ok (.aload_n 0, 1) := by decide +kernel
theorem dXT_dropEntry_21 : decode cXT_dropEntry 21 = .ok (.dup, 1) := by decide +kernel
theorem dXT_dropEntry_22 : decode cXT_dropEntry 22 = .ok (.getfield 24, 3) := by decide +kernel
theorem dXT_dropEntry_25 : decode cXT_dropEntry 25 = .ok (.aload_n 1, 1) := by decide +kernel
theorem dXT_dropEntry_26 : decode cXT_dropEntry 26 = .ok (.getfield 34, 3) := by decide +kernel
theorem dXT_dropEntry_29 : decode cXT_dropEntry 29 = .ok (.iconst 2, 1) := by decide +kernel
theorem dXT_dropEntry_30 : decode cXT_dropEntry 30 = .ok (.if_icmp .ne 7, 3) := by decide +kernel
theorem dXT_dropEntry_33 : decode cXT_dropEntry 33 = .ok (.iconst 1, 1) := by decide +kernel
theorem dXT_dropEntry_34 : decode cXT_dropEntry 34 = .ok (.goto 4, 3) := by decide +kernel
theorem dXT_dropEntry_37 : decode cXT_dropEntry 37 = .ok (.iconst 0, 1) := by decide +kernel
theorem dXT_dropEntry_38 : decode cXT_dropEntry 38 = .ok (.isub, 1) := by decide +kernel
theorem dXT_dropEntry_39 : decode cXT_dropEntry 39 = .ok (.putfield 24, 3) := by decide +kernel
theorem dXT_dropEntry_42 : decode cXT_dropEntry 42 = .ok (.return_, 1) := by decide +kernel
theorem dXT_dropOld_0 : decode cXT_dropOld 0 = .ok (.iconst 0, 1) := by decide +kernel
theorem dXT_dropOld_1 : decode cXT_dropOld 1 = .ok (.istore_n 3, 1) := by decide +kernel
theorem dXT_dropOld_2 : decode cXT_dropOld 2 = .ok (.iload_n 3, 1) := by decide +kernel
theorem dXT_dropOld_3 : decode cXT_dropOld 3 = .ok (.sipush 704, 3) := by decide +kernel
theorem dXT_dropOld_6 : decode cXT_dropOld 6 = .ok (.if_icmp .ge 39, 3) := by decide +kernel
theorem dXT_dropOld_9 : decode cXT_dropOld 9 = .ok (.aload_n 0, 1) := by decide +kernel
theorem dXT_dropOld_10 : decode cXT_dropOld 10 = .ok (.getfield 17, 3) := by decide +kernel
theorem dXT_dropOld_13 : decode cXT_dropOld 13 = .ok (.iload_n 3, 1) := by decide +kernel
theorem dXT_dropOld_14 : decode cXT_dropOld 14 = .ok (.aaload, 1) := by decide +kernel
theorem dXT_dropOld_15 : decode cXT_dropOld 15 = .ok (.astore 4, 2) := by decide +kernel
theorem dXT_dropOld_17 : decode cXT_dropOld 17 = .ok (.aload 4, 2) := by decide +kernel
theorem dXT_dropOld_19 : decode cXT_dropOld 19 = .ok (.ifnull 20, 3) := by decide +kernel
theorem dXT_dropOld_22 : decode cXT_dropOld 22 = .ok (.iload_n 1, 1) := by decide +kernel
theorem dXT_dropOld_23 : decode cXT_dropOld 23 = .ok (.aload 4, 2) := by decide +kernel
theorem dXT_dropOld_25 : decode cXT_dropOld 25 = .ok (.getfield 63, 3) := by decide +kernel
theorem dXT_dropOld_28 : decode cXT_dropOld 28 = .ok (.isub, 1) := by decide +kernel
theorem dXT_dropOld_29 : decode cXT_dropOld 29 = .ok (.iload_n 2, 1) := by decide +kernel
theorem dXT_dropOld_30 : decode cXT_dropOld 30 = .ok (.if_icmp .lt 9, 3) := by decide +kernel
theorem dXT_dropOld_33 : decode cXT_dropOld 33 = .ok (.aload_n 0, 1) := by decide +kernel
theorem dXT_dropOld_34 : decode cXT_dropOld 34 = .ok (.aload 4, 2) := by decide +kernel
theorem dXT_dropOld_36 : decode cXT_dropOld 36 = .ok (.invokevirtual 60, 3) := by decide +kernel
theorem dXT_dropOld_39 : decode cXT_dropOld 39 = .ok (.iinc 3 1, 3) := by decide +kernel
theorem dXT_dropOld_42 : decode cXT_dropOld 42 = .ok (.goto (-40), 3) := by decide +kernel
theorem dXT_dropOld_45 : decode cXT_dropOld 45 = .ok (.return_, 1) := by decide +kernel
theorem dXA_remove_0 : decode cXA_remove 0 = .ok (.iload_n 1, 1) := by decide +kernel
theorem dXA_remove_1 : decode cXA_remove 1 = .ok (.aload_n 0, 1) := by decide +kernel
theorem dXA_remove_2 : decode cXA_remove 2 = .ok (.getfield 48, 3) := by decide +kernel
theorem dXA_remove_5 : decode cXA_remove 5 = .ok (.invokestatic 118, 3) := by decide +kernel
theorem dXA_remove_8 : decode cXA_remove 8 = .ok (.pop, 1) := by decide +kernel
theorem dXA_remove_9 : decode cXA_remove 9 = .ok (.aload_n 0, 1) := by decide +kernel
theorem dXA_remove_10 : decode cXA_remove 10 = .ok (.getfield 9, 3) := by decide +kernel
theorem dXA_remove_13 : decode cXA_remove 13 = .ok (.astore_n 2, 1) := by decide +kernel
theorem dXA_remove_14 : decode cXA_remove 14 = .ok (.aload_n 2, 1) := by decide +kernel
theorem dXA_remove_15 : decode cXA_remove 15 = .ok (.iload_n 1, 1) := by decide +kernel
theorem dXA_remove_16 : decode cXA_remove 16 = .ok (.aaload, 1) := by decide +kernel
theorem dXA_remove_17 : decode cXA_remove 17 = .ok (.astore_n 3, 1) := by decide +kernel
theorem dXA_remove_18 : decode cXA_remove 18 = .ok (.aload_n 0, 1) := by decide +kernel
theorem dXA_remove_19 : decode cXA_remove 19 = .ok (.aload_n 2, 1) := by decide +kernel
theorem dXA_remove_20 : decode cXA_remove 20 = .ok (.iload_n 1, 1) := by decide +kernel
theorem dXA_remove_21 : decode cXA_remove 21 = .ok (.invokevirtual 144, 3) := by decide +kernel
theorem dXA_remove_24 : decode cXA_remove 24 = .ok (.aload_n 3, 1) := by decide +kernel
theorem dXA_remove_25 : decode cXA_remove 25 = .ok (.areturn, 1) := by decide +kernel
theorem dXA_fastRemove_0 : decode cXA_fastRemove 0 = .ok (.aload_n 0, 1) := by decide +kernel
theorem dXA_fastRemove_1 : decode cXA_fastRemove 1 = .ok (.dup, 1) := by decide +kernel
theorem dXA_fastRemove_2 : decode cXA_fastRemove 2 = .ok (.getfield 63, 3) := by decide +kernel
theorem dXA_fastRemove_5 : decode cXA_fastRemove 5 = .ok (.iconst 1, 1) := by decide +kernel
theorem dXA_fastRemove_6 : decode cXA_fastRemove 6 = .ok (.iadd, 1) := by decide +kernel
theorem dXA_fastRemove_7 : decode cXA_fastRemove 7 = .ok (.putfield 63, 3) := by decide +kernel
theorem dXA_fastRemove_10 : decode cXA_fastRemove 10 = .ok (.aload_n 0, 1) := by decide +kernel
theorem dXA_fastRemove_11 : decode cXA_fastRemove 11 = .ok (.getfield 48, 3) := by decide +kernel
theorem dXA_fastRemove_14 : decode cXA_fastRemove 14 = .ok (.iconst 1, 1) := by decide +kernel
theorem dXA_fastRemove_15 : decode cXA_fastRemove 15 = .ok (.isub, 1) := by decide +kernel
theorem dXA_fastRemove_16 : decode cXA_fastRemove 16 = .ok (.dup, 1) := by decide +kernel
theorem dXA_fastRemove_17 : decode cXA_fastRemove 17 = .ok (.istore_n 3, 1) := by decide +kernel
theorem dXA_fastRemove_18 : decode cXA_fastRemove 18 = .ok (.iload_n 2, 1) := by decide +kernel
theorem dXA_fastRemove_19 : decode cXA_fastRemove 19 = .ok (.if_icmp .le 15, 3) := by decide +kernel
theorem dXA_fastRemove_22 : decode cXA_fastRemove 22 = .ok (.aload_n 1, 1) := by decide +kernel
theorem dXA_fastRemove_23 : decode cXA_fastRemove 23 = .ok (.iload_n 2, 1) := by decide +kernel
theorem dXA_fastRemove_24 : decode cXA_fastRemove 24 = .ok (.iconst 1, 1) := by decide +kernel
theorem dXA_fastRemove_25 : decode cXA_fastRemove 25 = .ok (.iadd, 1) := by decide +kernel
theorem dXA_fastRemove_26 : decode cXA_fastRemove 26 = .ok (.aload_n 1, 1) := by decide +kernel
theorem dXA_fastRemove_27 : decode cXA_fastRemove 27 = .ok (.iload_n 2, 1) := by decide +kernel
theorem dXA_fastRemove_28 : decode cXA_fastRemove 28 = .ok (.iload_n 3, 1) := by decide +kernel
theorem dXA_fastRemove_29 : decode cXA_fastRemove 29 = .ok (.iload_n 2, 1) := by decide +kernel
theorem dXA_fastRemove_30 : decode cXA_fastRemove 30 = .ok (.isub, 1) := by decide +kernel
theorem dXA_fastRemove_31 : decode cXA_fastRemove 31 = .ok (.invokestatic 112, 3) := by decide +kernel
theorem dXA_fastRemove_34 : decode cXA_fastRemove 34 = .ok (.aload_n 1, 1) := by decide +kernel
theorem dXA_fastRemove_35 : decode cXA_fastRemove 35 = .ok (.aload_n 0, 1) := by decide +kernel
theorem dXA_fastRemove_36 : decode cXA_fastRemove 36 = .ok (.iload_n 3, 1) := by decide +kernel
theorem dXA_fastRemove_37 : decode cXA_fastRemove 37 = .ok (.dup_x1, 1) := by decide +kernel
theorem dXA_fastRemove_38 : decode cXA_fastRemove 38 = .ok (.putfield 48, 3) := by decide +kernel
theorem dXA_fastRemove_41 : decode cXA_fastRemove 41 = .ok (.aconst_null, 1) := by decide +kernel
theorem dXA_fastRemove_42 : decode cXA_fastRemove 42 = .ok (.aastore, 1) := by decide +kernel
theorem dXA_fastRemove_43 : decode cXA_fastRemove 43 = .ok (.return_, 1) := by decide +kernel
theorem dXS_delete_0 : decode cXS_delete 0 = .ok (.iload_n 1, 1) := by decide +kernel
theorem dXS_delete_1 : decode cXS_delete 1 = .ok (.iload_n 2, 1) := by decide +kernel
theorem dXS_delete_2 : decode cXS_delete 2 = .ok (.invokestatic 56, 3) := by decide +kernel
theorem dXS_delete_5 : decode cXS_delete 5 = .ok (.ifCond .eq 10, 3) := by decide +kernel
theorem dXS_delete_8 : decode cXS_delete 8 = .ok (.iload_n 3, 1) := by decide +kernel
theorem dXS_delete_9 : decode cXS_delete 9 = .ok (.invokestatic 60, 3) := by decide +kernel
theorem dXS_delete_12 : decode cXS_delete 12 = .ok (.ifCond .ne 5, 3) := by decide +kernel
theorem dXS_delete_15 : decode cXS_delete 15 = .ok (.iconst 0, 1) := by decide +kernel
theorem dXS_delete_16 : decode cXS_delete 16 = .ok (.ireturn, 1) := by decide +kernel
theorem dXS_delete_17 : decode cXS_delete 17 = .ok (.aload_n 0, 1) := by decide +kernel
theorem dXS_delete_18 : decode cXS_delete 18 = .ok (.new 25, 3) := by decide +kernel
theorem dXS_delete_21 : decode cXS_delete 21 = .ok (.dup, 1) := by decide +kernel
theorem dXS_delete_22 : decode cXS_delete 22 = .ok (.iconst 1, 1) := by decide +kernel
theorem dXS_delete_23 : decode cXS_delete 23 = .ok (.iload_n 1, 1) := by decide +kernel
theorem dXS_delete_24 : decode cXS_delete 24 = .ok (.iload_n 2, 1) := by decide +kernel
theorem dXS_delete_25 : decode cXS_delete 25 = .ok (.invokestatic 65, 3) := by decide +kernel
theorem dXS_delete_28 : decode cXS_delete 28 = .ok (.iload_n 3, 1) := by decide +kernel
theorem dXS_delete_29 : decode cXS_delete 29 = .ok (.iconst 0, 1) := by decide +kernel
theorem dXS_delete_30 : decode cXS_delete 30 = .ok (.aload_n 0, 1) := by decide +kernel
theorem dXS_delete_31 : decode cXS_delete 31 = .ok (.getfield 53, 3) := by decide +kernel
theorem dXS_delete_34 : decode cXS_delete 34 = .ok (.invokespecial 68, 3) := by decide +kernel
theorem dXS_delete_37 : decode cXS_delete 37 = .ok (.invokevirtual 71, 3) := by decide +kernel
theorem dXS_delete_40 : decode cXS_delete 40 = .ok (.ireturn, 1) := by decide +kernel
theorem dXS_wipe_0 : decode cXS_wipe 0 = .ok (.iload_n 1, 1) := by decide +kernel
theorem dXS_wipe_1 : decode cXS_wipe 1 = .ok (.iload_n 2, 1) := by decide +kernel
theorem dXS_wipe_2 : decode cXS_wipe 2 = .ok (.invokestatic 56, 3) := by decide +kernel
theorem dXS_wipe_5 : decode cXS_wipe 5 = .ok (.ifCond .eq 24, 3) := by decide +kernel
theorem dXS_wipe_8 : decode cXS_wipe 8 = .ok (.iload_n 1, 1) := by decide +kernel
theorem dXS_wipe_9 : decode cXS_wipe 9 = .ok (.iload_n 3, 1) := by decide +kernel
theorem dXS_wipe_10 : decode cXS_wipe 10 = .ok (.invokestatic 56, 3) := by decide +kernel
theorem dXS_wipe_13 : decode cXS_wipe 13 = .ok (.ifCond .eq 16, 3) := by decide +kernel
theorem dXS_wipe_16 : decode cXS_wipe 16 = .ok (.iload_n 2, 1) := by decide +kernel
theorem dXS_wipe_17 : decode cXS_wipe 17 = .ok (.iload_n 3, 1) := by decide +kernel
theorem dXS_wipe_18 : decode cXS_wipe 18 = .ok (.if_icmp .gt 11, 3) := by decide +kernel
theorem dXS_wipe_21 : decode cXS_wipe 21 = .ok (.iload 4, 2) := by decide +kernel
theorem dXS_wipe_23 : decode cXS_wipe 23 = .ok (.invokestatic 60, 3) := by decide +kernel
theorem dXS_wipe_26 : decode cXS_wipe 26 = .ok (.ifCond .ne 5, 3) := by decide +kernel
theorem dXS_wipe_29 : decode cXS_wipe 29 = .ok (.iconst 0, 1) := by decide +kernel
theorem dXS_wipe_30 : decode cXS_wipe 30 = .ok (.ireturn, 1) := by decide +kernel
theorem dXS_wipe_31 : decode cXS_wipe 31 = .ok (.aload_n 0, 1) := by decide +kernel
theorem dXS_wipe_32 : decode cXS_wipe 32 = .ok (.new 25, 3) := by decide +kernel
theorem dXS_wipe_35 : decode cXS_wipe 35 = .ok (.dup, 1) := by decide +kernel
theorem dXS_wipe_36 : decode cXS_wipe 36 = .ok (.iconst 2, 1) := by decide +kernel
theorem dXS_wipe_37 : decode cXS_wipe 37 = .ok (.iload_n 1, 1) := by decide +kernel
theorem dXS_wipe_38 : decode cXS_wipe 38 = .ok (.iload_n 2, 1) := by decide +kernel
theorem dXS_wipe_39 : decode cXS_wipe 39 = .ok (.iload_n 3, 1) := by decide +kernel
theorem dXS_wipe_40 : decode cXS_wipe 40 = .ok (.invokestatic 75, 3) := by decide +kernel
theorem dXS_wipe_43 : decode cXS_wipe 43 = .ok (.iload 4, 2) := by decide +kernel
theorem dXS_wipe_45 : decode cXS_wipe 45 = .ok (.iconst 0, 1) := by decide +kernel
theorem dXS_wipe_46 : decode cXS_wipe 46 = .ok (.aload_n 0, 1) := by decide +kernel
theorem dXS_wipe_47 : decode cXS_wipe 47 = .ok (.getfield 53, 3) := by decide +kernel
theorem dXS_wipe_50 : decode cXS_wipe 50 = .ok (.invokespecial 68, 3) := by decide +kernel
theorem dXS_wipe_53 : decode cXS_wipe 53 = .ok (.invokevirtual 71, 3) := by decide +kernel
theorem dXS_wipe_56 : decode cXS_wipe 56 = .ok (.ireturn, 1) := by decide +kernel
theorem dXS_get_0 : decode cXS_get 0 = .ok (.aload_n 0, 1) := by decide +kernel
theorem dXS_get_1 : decode cXS_get 1 = .ok (.iload_n 1, 1) := by decide +kernel
theorem dXS_get_2 : decode cXS_get 2 = .ok (.iload_n 2, 1) := by decide +kernel
theorem dXS_get_3 : decode cXS_get 3 = .ok (.invokevirtual 79, 3) := by decide +kernel
theorem dXS_get_6 : decode cXS_get 6 = .ok (.astore_n 3, 1) := by decide +kernel
theorem dXS_get_7 : decode cXS_get 7 = .ok (.aload_n 3, 1) := by decide +kernel
theorem dXS_get_8 : decode cXS_get 8 = .ok (.ifnonnull 7, 3) := by decide +kernel
theorem dXS_get_11 : decode cXS_get 11 = .ok (.iconst 0, 1) := by decide +kernel
theorem dXS_get_12 : decode cXS_get 12 = .ok (.goto 7, 3) := by decide +kernel
theorem dXS_get_15 : decode cXS_get 15 = .ok (.aload_n 3, 1) := by decide +kernel
theorem dXS_get_16 : decode cXS_get 16 = .ok (.getfield 83, 3) := by decide +kernel
theorem dXS_get_19 : decode cXS_get 19 = .ok (.ireturn, 1) := by decide +kernel
theorem dXS_seenCell_0 : decode cXS_seenCell 0 = .ok (.iload_n 1, 1) := by decide +kernel
theorem dXS_seenCell_1 : decode cXS_seenCell 1 = .ok (.iload_n 2, 1) := by decide +kernel
theorem dXS_seenCell_2 : decode cXS_seenCell 2 = .ok (.invokestatic 56, 3) := by decide +kernel
theorem dXS_seenCell_5 : decode cXS_seenCell 5 = .ok (.ifCond .ne 5, 3) := by decide +kernel
theorem dXS_seenCell_8 : decode cXS_seenCell 8 = .ok (.aconst_null, 1) := by decide +kernel
theorem dXS_seenCell_9 : decode cXS_seenCell 9 = .ok (.areturn, 1) := by decide +kernel
theorem dXS_seenCell_10 : decode cXS_seenCell 10 = .ok (.aload_n 0, 1) := by decide +kernel
theorem dXS_seenCell_11 : decode cXS_seenCell 11 = .ok (.iload_n 1, 1) := by decide +kernel
theorem dXS_seenCell_12 : decode cXS_seenCell 12 = .ok (.iload_n 2, 1) := by decide +kernel
theorem dXS_seenCell_13 : decode cXS_seenCell 13 = .ok (.invokevirtual 150, 3) := by decide +kernel
theorem dXS_seenCell_16 : decode cXS_seenCell 16 = .ok (.astore_n 3, 1) := by decide +kernel
theorem dXS_seenCell_17 : decode cXS_seenCell 17 = .ok (.aload_n 3, 1) := by decide +kernel
theorem dXS_seenCell_18 : decode cXS_seenCell 18 = .ok (.ifnull 21, 3) := by decide +kernel
theorem dXS_seenCell_21 : decode cXS_seenCell 21 = .ok (.aload_n 3, 1) := by decide +kernel
theorem dXS_seenCell_22 : decode cXS_seenCell 22 = .ok (.getfield 153, 3) := by decide +kernel
theorem dXS_seenCell_25 : decode cXS_seenCell 25 = .ok (.ifCond .ne 14, 3) := by decide +kernel
theorem dXS_seenCell_28 : decode cXS_seenCell 28 = .ok (.aload_n 3, 1) := by decide +kernel
theorem dXS_seenCell_29 : decode cXS_seenCell 29 = .ok (.getfield 156, 3) := by decide +kernel
theorem dXS_seenCell_32 : decode cXS_seenCell 32 = .ok (.aload_n 0, 1) := by decide +kernel
theorem dXS_seenCell_33 : decode cXS_seenCell 33 = .ok (.getfield 53, 3) := by decide +kernel
theorem dXS_seenCell_36 : decode cXS_seenCell 36 = .ok (.if_icmp .gt 5, 3) := by decide +kernel
theorem dXS_seenCell_39 : decode cXS_seenCell 39 = .ok (.aconst_null, 1) := by decide +kernel
theorem dXS_seenCell_40 : decode cXS_seenCell 40 = .ok (.areturn, 1) := by decide +kernel
theorem dXS_seenCell_41 : decode cXS_seenCell 41 = .ok (.aload_n 0, 1) := by decide +kernel
theorem dXS_seenCell_42 : decode cXS_seenCell 42 = .ok (.iload_n 1, 1) := by decide +kernel
theorem dXS_seenCell_43 : decode cXS_seenCell 43 = .ok (.iload_n 2, 1) := by decide +kernel
theorem dXS_seenCell_44 : decode cXS_seenCell 44 = .ok (.aload_n 3, 1) := by decide +kernel
theorem dXS_seenCell_45 : decode cXS_seenCell 45 = .ok (.getfield 86, 3) := by decide +kernel
theorem dXS_seenCell_48 : decode cXS_seenCell 48 = .ok (.invokevirtual 159, 3) := by decide +kernel
theorem dXS_seenCell_51 : decode cXS_seenCell 51 = .ok (.ifCond .eq 7, 3) := by decide +kernel
theorem dXS_seenCell_54 : decode cXS_seenCell 54 = .ok (.aconst_null, 1) := by decide +kernel
theorem dXS_seenCell_55 : decode cXS_seenCell 55 = .ok (.goto 4, 3) := by decide +kernel
theorem dXS_seenCell_58 : decode cXS_seenCell 58 = .ok (.aload_n 3, 1) := by decide +kernel
theorem dXS_seenCell_59 : decode cXS_seenCell 59 = .ok (.areturn, 1) := by decide +kernel
theorem dXS_winningPoint_0 : decode cXS_winningPoint 0 = .ok (.aload_n 0, 1) := by decide +kernel
theorem dXS_winningPoint_1 : decode cXS_winningPoint 1 = .ok (.getfield 43, 3) := by decide +kernel
theorem dXS_winningPoint_4 : decode cXS_winningPoint 4 = .ok (.iload_n 1, 1) := by decide +kernel
theorem dXS_winningPoint_5 : decode cXS_winningPoint 5 = .ok (.iload_n 2, 1) := by decide +kernel
theorem dXS_winningPoint_6 : decode cXS_winningPoint 6 = .ok (.invokevirtual 163, 3) := by decide +kernel
theorem dXS_winningPoint_9 : decode cXS_winningPoint 9 = .ok (.astore_n 3, 1) := by decide +kernel
theorem dXS_winningPoint_10 : decode cXS_winningPoint 10 = .ok (.iconst 0, 1) := by decide +kernel
theorem dXS_winningPoint_11 : decode cXS_winningPoint 11 = .ok (.istore 4, 2) := by decide +kernel
theorem dXS_winningPoint_13 : decode cXS_winningPoint 13 = .ok (.iload 4, 2) := by decide +kernel
theorem dXS_winningPoint_15 : decode cXS_winningPoint 15 = .ok (.aload_n 0, 1) := by decide +kernel
theorem dXS_winningPoint_16 : decode cXS_winningPoint 16 = .ok (.getfield 34, 3) := by decide +kernel
theorem dXS_winningPoint_19 : decode cXS_winningPoint 19 = .ok (.invokevirtual 117, 3) := by decide +kernel
theorem dXS_winningPoint_22 : decode cXS_winningPoint 22 = .ok (.if_icmp .ge 49, 3) := by decide +kernel
theorem dXS_winningPoint_25 : decode cXS_winningPoint 25 = .ok (.aload_n 0, 1) := by decide +kernel
theorem dXS_winningPoint_26 : decode cXS_winningPoint 26 = .ok (.getfield 34, 3) := by decide +kernel
theorem dXS_winningPoint_29 : decode cXS_winningPoint 29 = .ok (.iload 4, 2) := by decide +kernel
theorem dXS_winningPoint_31 : decode cXS_winningPoint 31 = .ok (.invokevirtual 119, 3) := by decide +kernel
theorem dXS_winningPoint_34 : decode cXS_winningPoint 34 = .ok (.checkcast 38, 3) := by decide +kernel
theorem dXS_winningPoint_37 : decode cXS_winningPoint 37 = .ok (.iload_n 1, 1) := by decide +kernel
theorem dXS_winningPoint_38 : decode cXS_winningPoint 38 = .ok (.iload_n 2, 1) := by decide +kernel
theorem dXS_winningPoint_39 : decode cXS_winningPoint 39 = .ok (.invokevirtual 163, 3) := by decide +kernel
theorem dXS_winningPoint_42 : decode cXS_winningPoint 42 = .ok (.astore 5, 2) := by decide +kernel
theorem dXS_winningPoint_44 : decode cXS_winningPoint 44 = .ok (.aload 5, 2) := by decide +kernel
theorem dXS_winningPoint_46 : decode cXS_winningPoint 46 = .ok (.ifnull 19, 3) := by decide +kernel
theorem dXS_winningPoint_49 : decode cXS_winningPoint 49 = .ok (.aload_n 3, 1) := by decide +kernel
theorem dXS_winningPoint_50 : decode cXS_winningPoint 50 = .ok (.ifnull 12, 3) := by decide +kernel
theorem dXS_winningPoint_53 : decode cXS_winningPoint 53 = .ok (.aload 5, 2) := by decide +kernel
theorem dXS_winningPoint_55 : decode cXS_winningPoint 55 = .ok (.aload_n 3, 1) := by decide +kernel
theorem dXS_winningPoint_56 : decode cXS_winningPoint 56 = .ok (.invokevirtual 166, 3) := by decide +kernel
theorem dXS_winningPoint_59 : decode cXS_winningPoint 59 = .ok (.ifCond .eq 6, 3) := by decide +kernel
theorem dXS_winningPoint_62 : decode cXS_winningPoint 62 = .ok (.aload 5, 2) := by decide +kernel
theorem dXS_winningPoint_64 : decode cXS_winningPoint 64 = .ok (.astore_n 3, 1) := by decide +kernel
theorem dXS_winningPoint_65 : decode cXS_winningPoint 65 = .ok (.iinc 4 1, 3) := by decide +kernel
theorem dXS_winningPoint_68 : decode cXS_winningPoint 68 = .ok (.goto (-55), 3) := by decide +kernel
theorem dXS_winningPoint_71 : decode cXS_winningPoint 71 = .ok (.aload_n 3, 1) := by decide +kernel
theorem dXS_winningPoint_72 : decode cXS_winningPoint 72 = .ok (.areturn, 1) := by decide +kernel
theorem dXS_isCovered_0 : decode cXS_isCovered 0 = .ok (.aload_n 0, 1) := by decide +kernel
theorem dXS_isCovered_1 : decode cXS_isCovered 1 = .ok (.getfield 43, 3) := by decide +kernel
theorem dXS_isCovered_4 : decode cXS_isCovered 4 = .ok (.iload_n 1, 1) := by decide +kernel
theorem dXS_isCovered_5 : decode cXS_isCovered 5 = .ok (.iload_n 2, 1) := by decide +kernel
theorem dXS_isCovered_6 : decode cXS_isCovered 6 = .ok (.iload_n 3, 1) := by decide +kernel
theorem dXS_isCovered_7 : decode cXS_isCovered 7 = .ok (.invokevirtual 169, 3) := by decide +kernel
theorem dXS_isCovered_10 : decode cXS_isCovered 10 = .ok (.ifCond .eq 5, 3) := by decide +kernel
theorem dXS_isCovered_13 : decode cXS_isCovered 13 = .ok (.iconst 1, 1) := by decide +kernel
theorem dXS_isCovered_14 : decode cXS_isCovered 14 = .ok (.ireturn, 1) := by decide +kernel
theorem dXS_isCovered_15 : decode cXS_isCovered 15 = .ok (.iconst 0, 1) := by decide +kernel
theorem dXS_isCovered_16 : decode cXS_isCovered 16 = .ok (.istore 4, 2) := by decide +kernel
theorem dXS_isCovered_18 : decode cXS_isCovered 18 = .ok (.iload 4, 2) := by decide +kernel
theorem dXS_isCovered_20 : decode cXS_isCovered 20 = .ok (.aload_n 0, 1) := by decide +kernel
theorem dXS_isCovered_21 : decode cXS_isCovered 21 = .ok (.getfield 34, 3) := by decide +kernel
theorem dXS_isCovered_24 : decode cXS_isCovered 24 = .ok (.invokevirtual 117, 3) := by decide +kernel
theorem dXS_isCovered_27 : decode cXS_isCovered 27 = .ok (.if_icmp .ge 32, 3) := by decide +kernel
theorem dXS_isCovered_30 : decode cXS_isCovered 30 = .ok (.aload_n 0, 1) := by decide +kernel
theorem dXS_isCovered_31 : decode cXS_isCovered 31 = .ok (.getfield 34, 3) := by decide +kernel
theorem dXS_isCovered_34 : decode cXS_isCovered 34 = .ok (.iload 4, 2) := by decide +kernel
theorem dXS_isCovered_36 : decode cXS_isCovered 36 = .ok (.invokevirtual 119, 3) := by decide +kernel
theorem dXS_isCovered_39 : decode cXS_isCovered 39 = .ok (.checkcast 38, 3) := by decide +kernel
theorem dXS_isCovered_42 : decode cXS_isCovered 42 = .ok (.iload_n 1, 1) := by decide +kernel
theorem dXS_isCovered_43 : decode cXS_isCovered 43 = .ok (.iload_n 2, 1) := by decide +kernel
theorem dXS_isCovered_44 : decode cXS_isCovered 44 = .ok (.iload_n 3, 1) := by decide +kernel
theorem dXS_isCovered_45 : decode cXS_isCovered 45 = .ok (.invokevirtual 169, 3) := by decide +kernel
theorem dXS_isCovered_48 : decode cXS_isCovered 48 = .ok (.ifCond .eq 5, 3) := by decide +kernel
theorem dXS_isCovered_51 : decode cXS_isCovered 51 = .ok (.iconst 1, 1) := by decide +kernel
theorem dXS_isCovered_52 : decode cXS_isCovered 52 = .ok (.ireturn, 1) := by decide +kernel
theorem dXS_isCovered_53 : decode cXS_isCovered 53 = .ok (.iinc 4 1, 3) := by decide +kernel
theorem dXS_isCovered_56 : decode cXS_isCovered 56 = .ok (.goto (-38), 3) := by decide +kernel
theorem dXS_isCovered_59 : decode cXS_isCovered 59 = .ok (.iconst 0, 1) := by decide +kernel
theorem dXS_isCovered_60 : decode cXS_isCovered 60 = .ok (.ireturn, 1) := by decide +kernel
theorem dXS_stamp_0 : decode cXS_stamp 0 = .ok (.aload_n 0, 1) := by decide +kernel
theorem dXS_stamp_1 : decode cXS_stamp 1 = .ok (.iload_n 1, 1) := by decide +kernel
theorem dXS_stamp_2 : decode cXS_stamp 2 = .ok (.iload_n 2, 1) := by decide +kernel
theorem dXS_stamp_3 : decode cXS_stamp 3 = .ok (.invokevirtual 79, 3) := by decide +kernel
theorem dXS_stamp_6 : decode cXS_stamp 6 = .ok (.astore_n 3, 1) := by decide +kernel
theorem dXS_stamp_7 : decode cXS_stamp 7 = .ok (.aload_n 3, 1) := by decide +kernel
theorem dXS_stamp_8 : decode cXS_stamp 8 = .ok (.ifnonnull 7, 3) := by decide +kernel
theorem dXS_stamp_11 : decode cXS_stamp 11 = .ok (.iconst (-1), 1) := by decide +kernel
theorem dXS_stamp_12 : decode cXS_stamp 12 = .ok (.goto 7, 3) := by decide +kernel
theorem dXS_stamp_15 : decode cXS_stamp 15 = .ok (.aload_n 3, 1) := by decide +kernel
theorem dXS_stamp_16 : decode cXS_stamp 16 = .ok (.getfield 86, 3) := by decide +kernel
theorem dXS_stamp_19 : decode cXS_stamp 19 = .ok (.ireturn, 1) := by decide +kernel
theorem dXS_next_0 : decode cXS_next 0 = .ok (.iconst 0, 1) := by decide +kernel
theorem dXS_next_1 : decode cXS_next 1 = .ok (.iload_n 2, 1) := by decide +kernel
theorem dXS_next_2 : decode cXS_next 2 = .ok (.invokestatic 15, 3) := by decide +kernel
theorem dXS_next_5 : decode cXS_next 5 = .ok (.istore_n 3, 1) := by decide +kernel
theorem dXS_next_6 : decode cXS_next 6 = .ok (.iload_n 3, 1) := by decide +kernel
theorem dXS_next_7 : decode cXS_next 7 = .ok (.bipush 8, 2) := by decide +kernel
theorem dXS_next_9 : decode cXS_next 9 = .ok (.if_icmp .ge 20, 3) := by decide +kernel
theorem dXS_next_12 : decode cXS_next 12 = .ok (.aload_n 0, 1) := by decide +kernel
theorem dXS_next_13 : decode cXS_next 13 = .ok (.iload_n 1, 1) := by decide +kernel
theorem dXS_next_14 : decode cXS_next 14 = .ok (.iload_n 3, 1) := by decide +kernel
theorem dXS_next_15 : decode cXS_next 15 = .ok (.invokevirtual 79, 3) := by decide +kernel
theorem dXS_next_18 : decode cXS_next 18 = .ok (.ifnull 5, 3) := by decide +kernel
theorem dXS_next_21 : decode cXS_next 21 = .ok (.iload_n 3, 1) := by decide +kernel
theorem dXS_next_22 : decode cXS_next 22 = .ok (.ireturn, 1) := by decide +kernel
theorem dXS_next_23 : decode cXS_next 23 = .ok (.iinc 3 1, 3) := by decide +kernel
theorem dXS_next_26 : decode cXS_next 26 = .ok (.goto (-20), 3) := by decide +kernel
theorem dXS_next_29 : decode cXS_next 29 = .ok (.iconst (-1), 1) := by decide +kernel
theorem dXS_next_30 : decode cXS_next 30 = .ok (.ireturn, 1) := by decide +kernel
theorem dXS_nextRow_0 : decode cXS_nextRow 0 = .ok (.iconst 0, 1) := by decide +kernel
theorem dXS_nextRow_1 : decode cXS_nextRow 1 = .ok (.iload_n 1, 1) := by decide +kernel
theorem dXS_nextRow_2 : decode cXS_nextRow 2 = .ok (.invokestatic 15, 3) := by decide +kernel
theorem dXS_nextRow_5 : decode cXS_nextRow 5 = .ok (.istore_n 2, 1) := by decide +kernel
theorem dXS_nextRow_6 : decode cXS_nextRow 6 = .ok (.iload_n 2, 1) := by decide +kernel
theorem dXS_nextRow_7 : decode cXS_nextRow 7 = .ok (.bipush 16, 2) := by decide +kernel
theorem dXS_nextRow_9 : decode cXS_nextRow 9 = .ok (.if_icmp .ge 21, 3) := by decide +kernel
theorem dXS_nextRow_12 : decode cXS_nextRow 12 = .ok (.aload_n 0, 1) := by decide +kernel
theorem dXS_nextRow_13 : decode cXS_nextRow 13 = .ok (.iload_n 2, 1) := by decide +kernel
theorem dXS_nextRow_14 : decode cXS_nextRow 14 = .ok (.iconst 0, 1) := by decide +kernel
theorem dXS_nextRow_15 : decode cXS_nextRow 15 = .ok (.invokevirtual 89, 3) := by decide +kernel
theorem dXS_nextRow_18 : decode cXS_nextRow 18 = .ok (.iconst (-1), 1) := by decide +kernel
theorem dXS_nextRow_19 : decode cXS_nextRow 19 = .ok (.if_icmp .eq 5, 3) := by decide +kernel
theorem dXS_nextRow_22 : decode cXS_nextRow 22 = .ok (.iload_n 2, 1) := by decide +kernel
theorem dXS_nextRow_23 : decode cXS_nextRow 23 = .ok (.ireturn, 1) := by decide +kernel
theorem dXS_nextRow_24 : decode cXS_nextRow 24 = .ok (.iinc 2 1, 3) := by decide +kernel
theorem dXS_nextRow_27 : decode cXS_nextRow 27 = .ok (.goto (-21), 3) := by decide +kernel
theorem dXS_nextRow_30 : decode cXS_nextRow 30 = .ok (.iconst (-1), 1) := by decide +kernel
theorem dXS_nextRow_31 : decode cXS_nextRow 31 = .ok (.ireturn, 1) := by decide +kernel
theorem dXS_flush_0 : decode cXS_flush 0 = .ok (.aload_n 0, 1) := by decide +kernel
theorem dXS_flush_1 : decode cXS_flush 1 = .ok (.getfield 43, 3) := by decide +kernel
theorem dXS_flush_4 : decode cXS_flush 4 = .ok (.getfield 92, 3) := by decide +kernel
theorem dXS_flush_7 : decode cXS_flush 7 = .ok (.istore_n 1, 1) := by decide +kernel
theorem dXS_flush_8 : decode cXS_flush 8 = .ok (.aload_n 0, 1) := by decide +kernel
theorem dXS_flush_9 : decode cXS_flush 9 = .ok (.invokevirtual 95, 3) := by decide +kernel
theorem dXS_flush_12 : decode cXS_flush 12 = .ok (.iload_n 1, 1) := by decide +kernel
theorem dXS_flush_13 : decode cXS_flush 13 = .ok (.ireturn, 1) := by decide +kernel
theorem dXS_merge_0 : decode cXS_merge 0 = .ok (.aload_n 0, 1) := by decide +kernel
theorem dXS_merge_1 : decode cXS_merge 1 = .ok (.getfield 34, 3) := by decide +kernel
theorem dXS_merge_4 : decode cXS_merge 4 = .ok (.invokevirtual 98, 3) := by decide +kernel
theorem dXS_merge_7 : decode cXS_merge 7 = .ok (.ifCond .eq 5, 3) := by decide +kernel
theorem dXS_merge_10 : decode cXS_merge 10 = .ok (.iconst 0, 1) := by decide +kernel
theorem dXS_merge_11 : decode cXS_merge 11 = .ok (.ireturn, 1) := by decide +kernel
theorem dXS_merge_12 : decode cXS_merge 12 = .ok (.aload_n 0, 1) := by decide +kernel
theorem dXS_merge_13 : decode cXS_merge 13 = .ok (.iconst 0, 1) := by decide +kernel
theorem dXS_merge_14 : decode cXS_merge 14 = .ok (.aload_n 0, 1) := by decide +kernel
theorem dXS_merge_15 : decode cXS_merge 15 = .ok (.invokevirtual 102, 3) := by decide +kernel
theorem dXS_merge_18 : decode cXS_merge 18 = .ok (.invokevirtual 106, 3) := by decide +kernel
theorem dXS_merge_21 : decode cXS_merge 21 = .ok (.getfield 92, 3) := by decide +kernel
theorem dXS_merge_24 : decode cXS_merge 24 = .ok (.ireturn, 1) := by decide +kernel
theorem dXA_isEmpty_0 : decode cXA_isEmpty 0 = .ok (.aload_n 0, 1) := by decide +kernel
theorem dXA_isEmpty_1 : decode cXA_isEmpty 1 = .ok (.getfield 48, 3) := by decide +kernel
theorem dXA_isEmpty_4 : decode cXA_isEmpty 4 = .ok (.ifCond .ne 7, 3) := by decide +kernel
theorem dXA_isEmpty_7 : decode cXA_isEmpty 7 = .ok (.iconst 1, 1) := by decide +kernel
theorem dXA_isEmpty_8 : decode cXA_isEmpty 8 = .ok (.goto 4, 3) := by decide +kernel
theorem dXA_isEmpty_11 : decode cXA_isEmpty 11 = .ok (.iconst 0, 1) := by decide +kernel
theorem dXA_isEmpty_12 : decode cXA_isEmpty 12 = .ok (.ireturn, 1) := by decide +kernel
theorem dXS_greatestTier_0 : decode cXS_greatestTier 0 = .ok (.iconst 0, 1) := by decide +kernel
theorem dXS_greatestTier_1 : decode cXS_greatestTier 1 = .ok (.istore_n 1, 1) := by decide +kernel
theorem dXS_greatestTier_2 : decode cXS_greatestTier 2 = .ok (.iconst 0, 1) := by decide +kernel
theorem dXS_greatestTier_3 : decode cXS_greatestTier 3 = .ok (.istore_n 2, 1) := by decide +kernel
theorem dXS_greatestTier_4 : decode cXS_greatestTier 4 = .ok (.iload_n 2, 1) := by decide +kernel
theorem dXS_greatestTier_5 : decode cXS_greatestTier 5 = .ok (.aload_n 0, 1) := by decide +kernel
theorem dXS_greatestTier_6 : decode cXS_greatestTier 6 = .ok (.getfield 34, 3) := by decide +kernel
theorem dXS_greatestTier_9 : decode cXS_greatestTier 9 = .ok (.invokevirtual 117, 3) := by decide +kernel
theorem dXS_greatestTier_12 : decode cXS_greatestTier 12 = .ok (.if_icmp .ge 28, 3) := by decide +kernel
theorem dXS_greatestTier_15 : decode cXS_greatestTier 15 = .ok (.iload_n 1, 1) := by decide +kernel
theorem dXS_greatestTier_16 : decode cXS_greatestTier 16 = .ok (.aload_n 0, 1) := by decide +kernel
theorem dXS_greatestTier_17 : decode cXS_greatestTier 17 = .ok (.getfield 34, 3) := by decide +kernel
theorem dXS_greatestTier_20 : decode cXS_greatestTier 20 = .ok (.iload_n 2, 1) := by decide +kernel
theorem dXS_greatestTier_21 : decode cXS_greatestTier 21 = .ok (.invokevirtual 119, 3) := by decide +kernel
theorem dXS_greatestTier_24 : decode cXS_greatestTier 24 = .ok (.checkcast 38, 3) := by decide +kernel
theorem dXS_greatestTier_27 : decode cXS_greatestTier 27 = .ok (.getfield 123, 3) := by decide +kernel
theorem dXS_greatestTier_30 : decode cXS_greatestTier 30 = .ok (.invokestatic 15, 3) := by decide +kernel
theorem dXS_greatestTier_33 : decode cXS_greatestTier 33 = .ok (.istore_n 1, 1) := by decide +kernel
theorem dXS_greatestTier_34 : decode cXS_greatestTier 34 = .ok (.iinc 2 1, 3) := by decide +kernel
theorem dXS_greatestTier_37 : decode cXS_greatestTier 37 = .ok (.goto (-33), 3) := by decide +kernel
theorem dXS_greatestTier_40 : decode cXS_greatestTier 40 = .ok (.iload_n 1, 1) := by decide +kernel
theorem dXS_greatestTier_41 : decode cXS_greatestTier 41 = .ok (.ireturn, 1) := by decide +kernel
theorem dXS_sync_0 : decode cXS_sync 0 = .ok (.aload_n 0, 1) := by decide +kernel
theorem dXS_sync_1 : decode cXS_sync 1 = .ok (.aload_n 0, 1) := by decide +kernel
theorem dXS_sync_2 : decode cXS_sync 2 = .ok (.getfield 47, 3) := by decide +kernel
theorem dXS_sync_5 : decode cXS_sync 5 = .ok (.putfield 50, 3) := by decide +kernel
theorem dXS_sync_8 : decode cXS_sync 8 = .ok (.aload_n 0, 1) := by decide +kernel
theorem dXS_sync_9 : decode cXS_sync 9 = .ok (.getfield 50, 3) := by decide +kernel
theorem dXS_sync_12 : decode cXS_sync 12 = .ok (.ireturn, 1) := by decide +kernel
theorem dXS_crash_0 : decode cXS_crash 0 = .ok (.aload_n 0, 1) := by decide +kernel
theorem dXS_crash_1 : decode cXS_crash 1 = .ok (.getfield 43, 3) := by decide +kernel
theorem dXS_crash_4 : decode cXS_crash 4 = .ok (.invokevirtual 110, 3) := by decide +kernel
theorem dXS_crash_7 : decode cXS_crash 7 = .ok (.iconst 0, 1) := by decide +kernel
theorem dXS_crash_8 : decode cXS_crash 8 = .ok (.istore_n 1, 1) := by decide +kernel
theorem dXS_crash_9 : decode cXS_crash 9 = .ok (.iload_n 1, 1) := by decide +kernel
theorem dXS_crash_10 : decode cXS_crash 10 = .ok (.aload_n 0, 1) := by decide +kernel
theorem dXS_crash_11 : decode cXS_crash 11 = .ok (.getfield 50, 3) := by decide +kernel
theorem dXS_crash_14 : decode cXS_crash 14 = .ok (.if_icmp .ge 22, 3) := by decide +kernel
theorem dXS_crash_17 : decode cXS_crash 17 = .ok (.aload_n 0, 1) := by decide +kernel
theorem dXS_crash_18 : decode cXS_crash 18 = .ok (.getfield 43, 3) := by decide +kernel
theorem dXS_crash_21 : decode cXS_crash 21 = .ok (.aload_n 0, 1) := by decide +kernel
theorem dXS_crash_22 : decode cXS_crash 22 = .ok (.getfield 27, 3) := by decide +kernel
theorem dXS_crash_25 : decode cXS_crash 25 = .ok (.iload_n 1, 1) := by decide +kernel
theorem dXS_crash_26 : decode cXS_crash 26 = .ok (.aaload, 1) := by decide +kernel
theorem dXS_crash_27 : decode cXS_crash 27 = .ok (.invokevirtual 113, 3) := by decide +kernel
theorem dXS_crash_30 : decode cXS_crash 30 = .ok (.iinc 1 1, 3) := by decide +kernel
theorem dXS_crash_33 : decode cXS_crash 33 = .ok (.goto (-24), 3) := by decide +kernel
theorem dXS_crash_36 : decode cXS_crash 36 = .ok (.aload_n 0, 1) := by decide +kernel
theorem dXS_crash_37 : decode cXS_crash 37 = .ok (.aload_n 0, 1) := by decide +kernel
theorem dXS_crash_38 : decode cXS_crash 38 = .ok (.getfield 50, 3) := by decide +kernel
theorem dXS_crash_41 : decode cXS_crash 41 = .ok (.putfield 47, 3) := by decide +kernel
theorem dXS_crash_44 : decode cXS_crash 44 = .ok (.aload_n 0, 1) := by decide +kernel
theorem dXS_crash_45 : decode cXS_crash 45 = .ok (.getfield 50, 3) := by decide +kernel
theorem dXS_crash_48 : decode cXS_crash 48 = .ok (.ireturn, 1) := by decide +kernel
theorem dXT_clearSlots_0 : decode cXT_clearSlots 0 = .ok (.iconst 0, 1) := by decide +kernel
theorem dXT_clearSlots_1 : decode cXT_clearSlots 1 = .ok (.istore_n 1, 1) := by decide +kernel
theorem dXT_clearSlots_2 : decode cXT_clearSlots 2 = .ok (.iload_n 1, 1) := by decide +kernel
theorem dXT_clearSlots_3 : decode cXT_clearSlots 3 = .ok (.sipush 704, 3) := by decide +kernel
theorem dXT_clearSlots_6 : decode cXT_clearSlots 6 = .ok (.if_icmp .ge 16, 3) := by decide +kernel
theorem dXT_clearSlots_9 : decode cXT_clearSlots 9 = .ok (.aload_n 0, 1) := by decide +kernel
theorem dXT_clearSlots_10 : decode cXT_clearSlots 10 = .ok (.getfield 17, 3) := by decide +kernel
theorem dXT_clearSlots_13 : decode cXT_clearSlots 13 = .ok (.iload_n 1, 1) := by decide +kernel
theorem dXT_clearSlots_14 : decode cXT_clearSlots 14 = .ok (.aconst_null, 1) := by decide +kernel
theorem dXT_clearSlots_15 : decode cXT_clearSlots 15 = .ok (.aastore, 1) := by decide +kernel
theorem dXT_clearSlots_16 : decode cXT_clearSlots 16 = .ok (.iinc 1 1, 3) := by decide +kernel
theorem dXT_clearSlots_19 : decode cXT_clearSlots 19 = .ok (.goto (-17), 3) := by decide +kernel
theorem dXT_clearSlots_22 : decode cXT_clearSlots 22 = .ok (.aload_n 0, 1) := by decide +kernel
theorem dXT_clearSlots_23 : decode cXT_clearSlots 23 = .ok (.iconst 0, 1) := by decide +kernel
theorem dXT_clearSlots_24 : decode cXT_clearSlots 24 = .ok (.putfield 21, 3) := by decide +kernel
theorem dXT_clearSlots_27 : decode cXT_clearSlots 27 = .ok (.aload_n 0, 1) := by decide +kernel
theorem dXT_clearSlots_28 : decode cXT_clearSlots 28 = .ok (.iconst 0, 1) := by decide +kernel
theorem dXT_clearSlots_29 : decode cXT_clearSlots 29 = .ok (.putfield 24, 3) := by decide +kernel
theorem dXT_clearSlots_32 : decode cXT_clearSlots 32 = .ok (.return_, 1) := by decide +kernel
theorem dXS_tick_0 : decode cXS_tick 0 = .ok (.iload_n 1, 1) := by decide +kernel
theorem dXS_tick_1 : decode cXS_tick 1 = .ok (.ifCond .lt 19, 3) := by decide +kernel
theorem dXS_tick_4 : decode cXS_tick 4 = .ok (.iload_n 1, 1) := by decide +kernel
theorem dXS_tick_5 : decode cXS_tick 5 = .ok (.bipush 100, 2) := by decide +kernel
theorem dXS_tick_7 : decode cXS_tick 7 = .ok (.if_icmp .gt 13, 3) := by decide +kernel
theorem dXS_tick_10 : decode cXS_tick 10 = .ok (.aload_n 0, 1) := by decide +kernel
theorem dXS_tick_11 : decode cXS_tick 11 = .ok (.dup, 1) := by decide +kernel
theorem dXS_tick_12 : decode cXS_tick 12 = .ok (.getfield 53, 3) := by decide +kernel
theorem dXS_tick_15 : decode cXS_tick 15 = .ok (.iload_n 1, 1) := by decide +kernel
theorem dXS_tick_16 : decode cXS_tick 16 = .ok (.iadd, 1) := by decide +kernel
theorem dXS_tick_17 : decode cXS_tick 17 = .ok (.putfield 53, 3) := by decide +kernel
theorem dXS_tick_20 : decode cXS_tick 20 = .ok (.aload_n 0, 1) := by decide +kernel
theorem dXS_tick_21 : decode cXS_tick 21 = .ok (.getfield 53, 3) := by decide +kernel
theorem dXS_tick_24 : decode cXS_tick 24 = .ok (.ireturn, 1) := by decide +kernel
theorem dXS_count_0 : decode cXS_count 0 = .ok (.iload_n 1, 1) := by decide +kernel
theorem dXS_count_1 : decode cXS_count 1 = .ok (.tableswitch 57 0 3 #[31, 39, 47, 52], 31) := by decide +kernel
theorem dXS_count_32 : decode cXS_count 32 = .ok (.aload_n 0, 1) := by decide +kernel
theorem dXS_count_33 : decode cXS_count 33 = .ok (.getfield 43, 3) := by decide +kernel
theorem dXS_count_36 : decode cXS_count 36 = .ok (.getfield 92, 3) := by decide +kernel
theorem dXS_count_39 : decode cXS_count 39 = .ok (.ireturn, 1) := by decide +kernel
theorem dXS_count_40 : decode cXS_count 40 = .ok (.aload_n 0, 1) := by decide +kernel
theorem dXS_count_41 : decode cXS_count 41 = .ok (.getfield 34, 3) := by decide +kernel
theorem dXS_count_44 : decode cXS_count 44 = .ok (.invokevirtual 117, 3) := by decide +kernel
theorem dXS_count_47 : decode cXS_count 47 = .ok (.ireturn, 1) := by decide +kernel
theorem dXS_count_48 : decode cXS_count 48 = .ok (.aload_n 0, 1) := by decide +kernel
theorem dXS_count_49 : decode cXS_count 49 = .ok (.getfield 47, 3) := by decide +kernel
theorem dXS_count_52 : decode cXS_count 52 = .ok (.ireturn, 1) := by decide +kernel
theorem dXS_count_53 : decode cXS_count 53 = .ok (.aload_n 0, 1) := by decide +kernel
theorem dXS_count_54 : decode cXS_count 54 = .ok (.getfield 50, 3) := by decide +kernel
theorem dXS_count_57 : decode cXS_count 57 = .ok (.ireturn, 1) := by decide +kernel
theorem dXS_count_58 : decode cXS_count 58 = .ok (.iconst (-1), 1) := by decide +kernel
theorem dXS_count_59 : decode cXS_count 59 = .ok (.ireturn, 1) := by decide +kernel
theorem dXS_run_0 : decode cXS_run 0 = .ok (.iload_n 1, 1) := by decide +kernel
theorem dXS_run_1 : decode cXS_run 1 = .ok (.ifCond .lt 14, 3) := by decide +kernel
theorem dXS_run_4 : decode cXS_run 4 = .ok (.iload_n 1, 1) := by decide +kernel
theorem dXS_run_5 : decode cXS_run 5 = .ok (.aload_n 0, 1) := by decide +kernel
theorem dXS_run_6 : decode cXS_run 6 = .ok (.getfield 34, 3) := by decide +kernel
theorem dXS_run_9 : decode cXS_run 9 = .ok (.invokevirtual 117, 3) := by decide +kernel
theorem dXS_run_12 : decode cXS_run 12 = .ok (.if_icmp .lt 5, 3) := by decide +kernel
theorem dXS_run_15 : decode cXS_run 15 = .ok (.iconst (-1), 1) := by decide +kernel
theorem dXS_run_16 : decode cXS_run 16 = .ok (.ireturn, 1) := by decide +kernel
theorem dXS_run_17 : decode cXS_run 17 = .ok (.aload_n 0, 1) := by decide +kernel
theorem dXS_run_18 : decode cXS_run 18 = .ok (.getfield 34, 3) := by decide +kernel
theorem dXS_run_21 : decode cXS_run 21 = .ok (.iload_n 1, 1) := by decide +kernel
theorem dXS_run_22 : decode cXS_run 22 = .ok (.invokevirtual 119, 3) := by decide +kernel
theorem dXS_run_25 : decode cXS_run 25 = .ok (.checkcast 38, 3) := by decide +kernel
theorem dXS_run_28 : decode cXS_run 28 = .ok (.astore_n 3, 1) := by decide +kernel
theorem dXS_run_29 : decode cXS_run 29 = .ok (.iload_n 2, 1) := by decide +kernel
theorem dXS_run_30 : decode cXS_run 30 = .ok (.tableswitch 41 0 2 #[26, 31, 36], 26) := by decide +kernel
theorem dXS_run_56 : decode cXS_run 56 = .ok (.aload_n 3, 1) := by decide +kernel
theorem dXS_run_57 : decode cXS_run 57 = .ok (.getfield 92, 3) := by decide +kernel
theorem dXS_run_60 : decode cXS_run 60 = .ok (.ireturn, 1) := by decide +kernel
theorem dXS_run_61 : decode cXS_run 61 = .ok (.aload_n 3, 1) := by decide +kernel
theorem dXS_run_62 : decode cXS_run 62 = .ok (.getfield 123, 3) := by decide +kernel
theorem dXS_run_65 : decode cXS_run 65 = .ok (.ireturn, 1) := by decide +kernel
theorem dXS_run_66 : decode cXS_run 66 = .ok (.aload_n 3, 1) := by decide +kernel
theorem dXS_run_67 : decode cXS_run 67 = .ok (.getfield 126, 3) := by decide +kernel
theorem dXS_run_70 : decode cXS_run 70 = .ok (.ireturn, 1) := by decide +kernel
theorem dXS_run_71 : decode cXS_run 71 = .ok (.iconst (-1), 1) := by decide +kernel
theorem dXS_run_72 : decode cXS_run 72 = .ok (.ireturn, 1) := by decide +kernel
end
section
theorem dXM_init_0 : decode cXM_init 0 = .ok (.aload_n 0, 1) := by decide +kernel
theorem dXM_init_1 : decode cXM_init 1 = .ok (.invokespecial 1, 3) := by decide +kernel
theorem dXM_init_4 : decode cXM_init 4 = .ok (.aload_n 0, 1) := by decide +kernel
theorem dXM_init_5 : decode cXM_init 5 = .ok (.sipush 168, 3) := by decide +kernel
theorem dXM_init_8 : decode cXM_init 8 = .ok (.newarray .int, 2) := by decide +kernel
theorem dXM_init_10 : decode cXM_init 10 = .ok (.putfield 7, 3) := by decide +kernel
theorem dXM_init_13 : decode cXM_init 13 = .ok (.aload_n 0, 1) := by decide +kernel
theorem dXM_init_14 : decode cXM_init 14 = .ok (.sipush 3640, 3) := by decide +kernel
theorem dXM_init_17 : decode cXM_init 17 = .ok (.newarray .int, 2) := by decide +kernel
theorem dXM_init_19 : decode cXM_init 19 = .ok (.putfield 13, 3) := by decide +kernel
theorem dXM_init_22 : decode cXM_init 22 = .ok (.aload_n 0, 1) := by decide +kernel
theorem dXM_init_23 : decode cXM_init 23 = .ok (.sipush 3640, 3) := by decide +kernel
theorem dXM_init_26 : decode cXM_init 26 = .ok (.newarray .int, 2) := by decide +kernel
theorem dXM_init_28 : decode cXM_init 28 = .ok (.putfield 16, 3) := by decide +kernel
theorem dXM_init_31 : decode cXM_init 31 = .ok (.aload_n 0, 1) := by decide +kernel
theorem dXM_init_32 : decode cXM_init 32 = .ok (.sipush 520, 3) := by decide +kernel
theorem dXM_init_35 : decode cXM_init 35 = .ok (.newarray .int, 2) := by decide +kernel
theorem dXM_init_37 : decode cXM_init 37 = .ok (.putfield 19, 3) := by decide +kernel
theorem dXM_init_40 : decode cXM_init 40 = .ok (.aload_n 0, 1) := by decide +kernel
theorem dXM_init_41 : decode cXM_init 41 = .ok (.sipush 520, 3) := by decide +kernel
theorem dXM_init_44 : decode cXM_init 44 = .ok (.newarray .int, 2) := by decide +kernel
theorem dXM_init_46 : decode cXM_init 46 = .ok (.putfield 22, 3) := by decide +kernel
theorem dXM_init_49 : decode cXM_init 49 = .ok (.aload_n 0, 1) := by decide +kernel
theorem dXM_init_50 : decode cXM_init 50 = .ok (.sipush 520, 3) := by decide +kernel
theorem dXM_init_53 : decode cXM_init 53 = .ok (.newarray .int, 2) := by decide +kernel
theorem dXM_init_55 : decode cXM_init 55 = .ok (.putfield 25, 3) := by decide +kernel
theorem dXM_init_58 : decode cXM_init 58 = .ok (.aload_n 0, 1) := by decide +kernel
theorem dXM_init_59 : decode cXM_init 59 = .ok (.bipush 7, 2) := by decide +kernel
theorem dXM_init_61 : decode cXM_init 61 = .ok (.newarray .int, 2) := by decide +kernel
theorem dXM_init_63 : decode cXM_init 63 = .ok (.putfield 28, 3) := by decide +kernel
theorem dXM_init_66 : decode cXM_init 66 = .ok (.aload_n 0, 1) := by decide +kernel
theorem dXM_init_67 : decode cXM_init 67 = .ok (.iload_n 1, 1) := by decide +kernel
theorem dXM_init_68 : decode cXM_init 68 = .ok (.iconst 2, 1) := by decide +kernel
theorem dXM_init_69 : decode cXM_init 69 = .ok (.if_icmp .ge 7, 3) := by decide +kernel
theorem dXM_init_72 : decode cXM_init 72 = .ok (.iconst 2, 1) := by decide +kernel
theorem dXM_init_73 : decode cXM_init 73 = .ok (.goto 15, 3) := by decide +kernel
theorem dXM_init_76 : decode cXM_init 76 = .ok (.iload_n 1, 1) := by decide +kernel
theorem dXM_init_77 : decode cXM_init 77 = .ok (.bipush 20, 2) := by decide +kernel
theorem dXM_init_79 : decode cXM_init 79 = .ok (.if_icmp .le 8, 3) := by decide +kernel
theorem dXM_init_82 : decode cXM_init 82 = .ok (.bipush 20, 2) := by decide +kernel
theorem dXM_init_84 : decode cXM_init 84 = .ok (.goto 4, 3) := by decide +kernel
theorem dXM_init_87 : decode cXM_init 87 = .ok (.iload_n 1, 1) := by decide +kernel
theorem dXM_init_88 : decode cXM_init 88 = .ok (.putfield 31, 3) := by decide +kernel
theorem dXM_init_91 : decode cXM_init 91 = .ok (.aload_n 0, 1) := by decide +kernel
theorem dXM_init_92 : decode cXM_init 92 = .ok (.iload_n 2, 1) := by decide +kernel
theorem dXM_init_93 : decode cXM_init 93 = .ok (.ifCond .ge 7, 3) := by decide +kernel
theorem dXM_init_96 : decode cXM_init 96 = .ok (.iconst 0, 1) := by decide +kernel
theorem dXM_init_97 : decode cXM_init 97 = .ok (.goto 15, 3) := by decide +kernel
theorem dXM_init_100 : decode cXM_init 100 = .ok (.iload_n 2, 1) := by decide +kernel
theorem dXM_init_101 : decode cXM_init 101 = .ok (.bipush 50, 2) := by decide +kernel
theorem dXM_init_103 : decode cXM_init 103 = .ok (.if_icmp .le 8, 3) := by decide +kernel
theorem dXM_init_106 : decode cXM_init 106 = .ok (.bipush 50, 2) := by decide +kernel
theorem dXM_init_108 : decode cXM_init 108 = .ok (.goto 4, 3) := by decide +kernel
theorem dXM_init_111 : decode cXM_init 111 = .ok (.iload_n 2, 1) := by decide +kernel
theorem dXM_init_112 : decode cXM_init 112 = .ok (.putfield 35, 3) := by decide +kernel
theorem dXM_init_115 : decode cXM_init 115 = .ok (.return_, 1) := by decide +kernel
theorem dXM_put_0 : decode cXM_put 0 = .ok (.iload_n 1, 1) := by decide +kernel
theorem dXM_put_1 : decode cXM_put 1 = .ok (.iload_n 2, 1) := by decide +kernel
theorem dXM_put_2 : decode cXM_put 2 = .ok (.invokestatic 67, 3) := by decide +kernel
theorem dXM_put_5 : decode cXM_put 5 = .ok (.ifCond .eq 22, 3) := by decide +kernel
theorem dXM_put_8 : decode cXM_put 8 = .ok (.iload_n 3, 1) := by decide +kernel
theorem dXM_put_9 : decode cXM_put 9 = .ok (.invokestatic 71, 3) := by decide +kernel
theorem dXM_put_12 : decode cXM_put 12 = .ok (.ifCond .eq 15, 3) := by decide +kernel
theorem dXM_put_15 : decode cXM_put 15 = .ok (.iload 5, 2) := by decide +kernel
theorem dXM_put_17 : decode cXM_put 17 = .ok (.ifCond .lt 10, 3) := by decide +kernel
theorem dXM_put_20 : decode cXM_put 20 = .ok (.iload 5, 2) := by decide +kernel
theorem dXM_put_22 : decode cXM_put 22 = .ok (.bipush 100, 2) := by decide +kernel
theorem dXM_put_24 : decode cXM_put 24 = .ok (.if_icmp .le 5, 3) := by decide +kernel
theorem dXM_put_27 : decode cXM_put 27 = .ok (.iconst 0, 1) := by decide +kernel
theorem dXM_put_28 : decode cXM_put 28 = .ok (.ireturn, 1) := by decide +kernel
theorem dXM_put_29 : decode cXM_put 29 = .ok (.aload_n 0, 1) := by decide +kernel
theorem dXM_put_30 : decode cXM_put 30 = .ok (.iconst 0, 1) := by decide +kernel
theorem dXM_put_31 : decode cXM_put 31 = .ok (.iload_n 1, 1) := by decide +kernel
theorem dXM_put_32 : decode cXM_put 32 = .ok (.iload_n 2, 1) := by decide +kernel
theorem dXM_put_33 : decode cXM_put 33 = .ok (.iload_n 2, 1) := by decide +kernel
theorem dXM_put_34 : decode cXM_put 34 = .ok (.iload_n 3, 1) := by decide +kernel
theorem dXM_put_35 : decode cXM_put 35 = .ok (.iload 4, 2) := by decide +kernel
theorem dXM_put_37 : decode cXM_put 37 = .ok (.iload 5, 2) := by decide +kernel
theorem dXM_put_39 : decode cXM_put 39 = .ok (.ifCond .ne 7, 3) := by decide +kernel
theorem dXM_put_42 : decode cXM_put 42 = .ok (.iconst (-1), 1) := by decide +kernel
theorem dXM_put_43 : decode cXM_put 43 = .ok (.goto 10, 3) := by decide +kernel
theorem dXM_put_46 : decode cXM_put 46 = .ok (.aload_n 0, 1) := by decide +kernel
theorem dXM_put_47 : decode cXM_put 47 = .ok (.getfield 75, 3) := by decide +kernel
theorem dXM_put_50 : decode cXM_put 50 = .ok (.iload 5, 2) := by decide +kernel
theorem dXM_put_52 : decode cXM_put 52 = .ok (.iadd, 1) := by decide +kernel
theorem dXM_put_53 : decode cXM_put 53 = .ok (.invokevirtual 78, 3) := by decide +kernel
theorem dXM_put_56 : decode cXM_put 56 = .ok (.ireturn, 1) := by decide +kernel
theorem dXM_isPlace_0 : decode cXM_isPlace 0 = .ok (.iload_n 0, 1) := by decide +kernel
theorem dXM_isPlace_1 : decode cXM_isPlace 1 = .ok (.ifCond .lt 23, 3) := by decide +kernel
theorem dXM_isPlace_4 : decode cXM_isPlace 4 = .ok (.iload_n 0, 1) := by decide +kernel
theorem dXM_isPlace_5 : decode cXM_isPlace 5 = .ok (.bipush 15, 2) := by decide +kernel
theorem dXM_isPlace_7 : decode cXM_isPlace 7 = .ok (.if_icmp .gt 17, 3) := by decide +kernel
theorem dXM_isPlace_10 : decode cXM_isPlace 10 = .ok (.iload_n 1, 1) := by decide +kernel
theorem dXM_isPlace_11 : decode cXM_isPlace 11 = .ok (.ifCond .lt 13, 3) := by decide +kernel
theorem dXM_isPlace_14 : decode cXM_isPlace 14 = .ok (.iload_n 1, 1) := by decide +kernel
theorem dXM_isPlace_15 : decode cXM_isPlace 15 = .ok (.bipush 7, 2) := by decide +kernel
theorem dXM_isPlace_17 : decode cXM_isPlace 17 = .ok (.if_icmp .gt 7, 3) := by decide +kernel
theorem dXM_isPlace_20 : decode cXM_isPlace 20 = .ok (.iconst 1, 1) := by decide +kernel
theorem dXM_isPlace_21 : decode cXM_isPlace 21 = .ok (.goto 4, 3) := by decide +kernel
theorem dXM_isPlace_24 : decode cXM_isPlace 24 = .ok (.iconst 0, 1) := by decide +kernel
theorem dXM_isPlace_25 : decode cXM_isPlace 25 = .ok (.ireturn, 1) := by decide +kernel
theorem dXM_isStamp_0 : decode cXM_isStamp 0 = .ok (.iload_n 0, 1) := by decide +kernel
theorem dXM_isStamp_1 : decode cXM_isStamp 1 = .ok (.ifCond .lt 14, 3) := by decide +kernel
theorem dXM_isStamp_4 : decode cXM_isStamp 4 = .ok (.iload_n 0, 1) := by decide +kernel
theorem dXM_isStamp_5 : decode cXM_isStamp 5 = .ok (.sipush 9999, 3) := by decide +kernel
theorem dXM_isStamp_8 : decode cXM_isStamp 8 = .ok (.if_icmp .gt 7, 3) := by decide +kernel
theorem dXM_isStamp_11 : decode cXM_isStamp 11 = .ok (.iconst 1, 1) := by decide +kernel
theorem dXM_isStamp_12 : decode cXM_isStamp 12 = .ok (.goto 4, 3) := by decide +kernel
theorem dXM_isStamp_15 : decode cXM_isStamp 15 = .ok (.iconst 0, 1) := by decide +kernel
theorem dXM_isStamp_16 : decode cXM_isStamp 16 = .ok (.ireturn, 1) := by decide +kernel
theorem dXM_add_0 : decode cXM_add 0 = .ok (.bipush 7, 2) := by decide +kernel
theorem dXM_add_2 : decode cXM_add 2 = .ok (.aload_n 0, 1) := by decide +kernel
theorem dXM_add_3 : decode cXM_add 3 = .ok (.getfield 56, 3) := by decide +kernel
theorem dXM_add_6 : decode cXM_add 6 = .ok (.imul, 1) := by decide +kernel
theorem dXM_add_7 : decode cXM_add 7 = .ok (.istore 8, 2) := by decide +kernel
theorem dXM_add_9 : decode cXM_add 9 = .ok (.aload_n 0, 1) := by decide +kernel
theorem dXM_add_10 : decode cXM_add 10 = .ok (.getfield 13, 3) := by decide +kernel
theorem dXM_add_13 : decode cXM_add 13 = .ok (.iload 8, 2) := by decide +kernel
theorem dXM_add_15 : decode cXM_add 15 = .ok (.iload_n 1, 1) := by decide +kernel
theorem dXM_add_16 : decode cXM_add 16 = .ok (.iastore, 1) := by decide +kernel
theorem dXM_add_17 : decode cXM_add 17 = .ok (.aload_n 0, 1) := by decide +kernel
theorem dXM_add_18 : decode cXM_add 18 = .ok (.getfield 13, 3) := by decide +kernel
theorem dXM_add_21 : decode cXM_add 21 = .ok (.iload 8, 2) := by decide +kernel
theorem dXM_add_23 : decode cXM_add 23 = .ok (.iconst 1, 1) := by decide +kernel
theorem dXM_add_24 : decode cXM_add 24 = .ok (.iadd, 1) := by decide +kernel
theorem dXM_add_25 : decode cXM_add 25 = .ok (.iload_n 2, 1) := by decide +kernel
theorem dXM_add_26 : decode cXM_add 26 = .ok (.iastore, 1) := by decide +kernel
theorem dXM_add_27 : decode cXM_add 27 = .ok (.aload_n 0, 1) := by decide +kernel
theorem dXM_add_28 : decode cXM_add 28 = .ok (.getfield 13, 3) := by decide +kernel
theorem dXM_add_31 : decode cXM_add 31 = .ok (.iload 8, 2) := by decide +kernel
theorem dXM_add_33 : decode cXM_add 33 = .ok (.iconst 2, 1) := by decide +kernel
theorem dXM_add_34 : decode cXM_add 34 = .ok (.iadd, 1) := by decide +kernel
theorem dXM_add_35 : decode cXM_add 35 = .ok (.iload_n 3, 1) := by decide +kernel
theorem dXM_add_36 : decode cXM_add 36 = .ok (.iastore, 1) := by decide +kernel
theorem dXM_add_37 : decode cXM_add 37 = .ok (.aload_n 0, 1) := by decide +kernel
theorem dXM_add_38 : decode cXM_add 38 = .ok (.getfield 13, 3) := by decide +kernel
theorem dXM_add_41 : decode cXM_add 41 = .ok (.iload 8, 2) := by decide +kernel
theorem dXM_add_43 : decode cXM_add 43 = .ok (.iconst 3, 1) := by decide +kernel
theorem dXM_add_44 : decode cXM_add 44 = .ok (.iadd, 1) := by decide +kernel
theorem dXM_add_45 : decode cXM_add 45 = .ok (.iload 4, 2) := by decide +kernel
theorem dXM_add_47 : decode cXM_add 47 = .ok (.iastore, 1) := by decide +kernel
theorem dXM_add_48 : decode cXM_add 48 = .ok (.aload_n 0, 1) := by decide +kernel
theorem dXM_add_49 : decode cXM_add 49 = .ok (.getfield 13, 3) := by decide +kernel
theorem dXM_add_52 : decode cXM_add 52 = .ok (.iload 8, 2) := by decide +kernel
theorem dXM_add_54 : decode cXM_add 54 = .ok (.iconst 4, 1) := by decide +kernel
theorem dXM_add_55 : decode cXM_add 55 = .ok (.iadd, 1) := by decide +kernel
theorem dXM_add_56 : decode cXM_add 56 = .ok (.iload 5, 2) := by decide +kernel
theorem dXM_add_58 : decode cXM_add 58 = .ok (.iastore, 1) := by decide +kernel
theorem dXM_add_59 : decode cXM_add 59 = .ok (.aload_n 0, 1) := by decide +kernel
theorem dXM_add_60 : decode cXM_add 60 = .ok (.getfield 13, 3) := by decide +kernel
theorem dXM_add_63 : decode cXM_add 63 = .ok (.iload 8, 2) := by decide +kernel
theorem dXM_add_65 : decode cXM_add 65 = .ok (.iconst 5, 1) := by decide +kernel
theorem dXM_add_66 : decode cXM_add 66 = .ok (.iadd, 1) := by decide +kernel
theorem dXM_add_67 : decode cXM_add 67 = .ok (.iload 6, 2) := by decide +kernel
theorem dXM_add_69 : decode cXM_add 69 = .ok (.iastore, 1) := by decide +kernel
theorem dXM_add_70 : decode cXM_add 70 = .ok (.aload_n 0, 1) := by decide +kernel
theorem dXM_add_71 : decode cXM_add 71 = .ok (.getfield 13, 3) := by decide +kernel
theorem dXM_add_74 : decode cXM_add 74 = .ok (.iload 8, 2) := by decide +kernel
theorem dXM_add_76 : decode cXM_add 76 = .ok (.bipush 6, 2) := by decide +kernel
theorem dXM_add_78 : decode cXM_add 78 = .ok (.iadd, 1) := by decide +kernel
theorem dXM_add_79 : decode cXM_add 79 = .ok (.iload 7, 2) := by decide +kernel
theorem dXM_add_81 : decode cXM_add 81 = .ok (.iastore, 1) := by decide +kernel
theorem dXM_add_82 : decode cXM_add 82 = .ok (.aload_n 0, 1) := by decide +kernel
theorem dXM_add_83 : decode cXM_add 83 = .ok (.dup, 1) := by decide +kernel
theorem dXM_add_84 : decode cXM_add 84 = .ok (.getfield 56, 3) := by decide +kernel
theorem dXM_add_87 : decode cXM_add 87 = .ok (.iconst 1, 1) := by decide +kernel
theorem dXM_add_88 : decode cXM_add 88 = .ok (.iadd, 1) := by decide +kernel
theorem dXM_add_89 : decode cXM_add 89 = .ok (.putfield 56, 3) := by decide +kernel
theorem dXM_add_92 : decode cXM_add 92 = .ok (.aload_n 0, 1) := by decide +kernel
theorem dXM_add_93 : decode cXM_add 93 = .ok (.iload 8, 2) := by decide +kernel
theorem dXM_add_95 : decode cXM_add 95 = .ok (.invokevirtual 59, 3) := by decide +kernel
theorem dXM_add_98 : decode cXM_add 98 = .ok (.aload_n 0, 1) := by decide +kernel
theorem dXM_add_99 : decode cXM_add 99 = .ok (.getfield 42, 3) := by decide +kernel
theorem dXM_add_102 : decode cXM_add 102 = .ok (.aload_n 0, 1) := by decide +kernel
theorem dXM_add_103 : decode cXM_add 103 = .ok (.getfield 31, 3) := by decide +kernel
theorem dXM_add_106 : decode cXM_add 106 = .ok (.if_icmp .le 9, 3) := by decide +kernel
theorem dXM_add_109 : decode cXM_add 109 = .ok (.aload_n 0, 1) := by decide +kernel
theorem dXM_add_110 : decode cXM_add 110 = .ok (.invokevirtual 63, 3) := by decide +kernel
theorem dXM_add_113 : decode cXM_add 113 = .ok (.istore 9, 2) := by decide +kernel
theorem dXM_add_115 : decode cXM_add 115 = .ok (.iconst 1, 1) := by decide +kernel
theorem dXM_add_116 : decode cXM_add 116 = .ok (.ireturn, 1) := by decide +kernel
theorem dXM_remember_0 : decode cXM_remember 0 = .ok (.iconst 0, 1) := by decide +kernel
theorem dXM_remember_1 : decode cXM_remember 1 = .ok (.istore_n 2, 1) := by decide +kernel
theorem dXM_remember_2 : decode cXM_remember 2 = .ok (.iload_n 2, 1) := by decide +kernel
theorem dXM_remember_3 : decode cXM_remember 3 = .ok (.aload_n 0, 1) := by decide +kernel
theorem dXM_remember_4 : decode cXM_remember 4 = .ok (.getfield 42, 3) := by decide +kernel
theorem dXM_remember_7 : decode cXM_remember 7 = .ok (.if_icmp .ge 64, 3) := by decide +kernel
theorem dXM_remember_10 : decode cXM_remember 10 = .ok (.aload_n 0, 1) := by decide +kernel
theorem dXM_remember_11 : decode cXM_remember 11 = .ok (.getfield 7, 3) := by decide +kernel
theorem dXM_remember_14 : decode cXM_remember 14 = .ok (.bipush 7, 2) := by decide +kernel
theorem dXM_remember_16 : decode cXM_remember 16 = .ok (.iload_n 2, 1) := by decide +kernel
theorem dXM_remember_17 : decode cXM_remember 17 = .ok (.imul, 1) := by decide +kernel
theorem dXM_remember_18 : decode cXM_remember 18 = .ok (.aload_n 0, 1) := by decide +kernel
theorem dXM_remember_19 : decode cXM_remember 19 = .ok (.getfield 13, 3) := by decide +kernel
theorem dXM_remember_22 : decode cXM_remember 22 = .ok (.iload_n 1, 1) := by decide +kernel
theorem dXM_remember_23 : decode cXM_remember 23 = .ok (.invokestatic 45, 3) := by decide +kernel
theorem dXM_remember_26 : decode cXM_remember 26 = .ok (.ifCond .eq 39, 3) := by decide +kernel
theorem dXM_remember_29 : decode cXM_remember 29 = .ok (.aload_n 0, 1) := by decide +kernel
theorem dXM_remember_30 : decode cXM_remember 30 = .ok (.getfield 13, 3) := by decide +kernel
theorem dXM_remember_33 : decode cXM_remember 33 = .ok (.iload_n 1, 1) := by decide +kernel
theorem dXM_remember_34 : decode cXM_remember 34 = .ok (.aload_n 0, 1) := by decide +kernel
theorem dXM_remember_35 : decode cXM_remember 35 = .ok (.getfield 7, 3) := by decide +kernel
theorem dXM_remember_38 : decode cXM_remember 38 = .ok (.bipush 7, 2) := by decide +kernel
theorem dXM_remember_40 : decode cXM_remember 40 = .ok (.iload_n 2, 1) := by decide +kernel
theorem dXM_remember_41 : decode cXM_remember 41 = .ok (.imul, 1) := by decide +kernel
theorem dXM_remember_42 : decode cXM_remember 42 = .ok (.invokestatic 49, 3) := by decide +kernel
theorem dXM_remember_45 : decode cXM_remember 45 = .ok (.ifCond .eq 19, 3) := by decide +kernel
theorem dXM_remember_48 : decode cXM_remember 48 = .ok (.aload_n 0, 1) := by decide +kernel
theorem dXM_remember_49 : decode cXM_remember 49 = .ok (.getfield 13, 3) := by decide +kernel
theorem dXM_remember_52 : decode cXM_remember 52 = .ok (.iload_n 1, 1) := by decide +kernel
theorem dXM_remember_53 : decode cXM_remember 53 = .ok (.aload_n 0, 1) := by decide +kernel
theorem dXM_remember_54 : decode cXM_remember 54 = .ok (.getfield 7, 3) := by decide +kernel
theorem dXM_remember_57 : decode cXM_remember 57 = .ok (.bipush 7, 2) := by decide +kernel
theorem dXM_remember_59 : decode cXM_remember 59 = .ok (.iload_n 2, 1) := by decide +kernel
theorem dXM_remember_60 : decode cXM_remember 60 = .ok (.imul, 1) := by decide +kernel
theorem dXM_remember_61 : decode cXM_remember 61 = .ok (.invokestatic 52, 3) := by decide +kernel
theorem dXM_remember_64 : decode cXM_remember 64 = .ok (.return_, 1) := by decide +kernel
theorem dXM_remember_65 : decode cXM_remember 65 = .ok (.iinc 2 1, 3) := by decide +kernel
theorem dXM_remember_68 : decode cXM_remember 68 = .ok (.goto (-66), 3) := by decide +kernel
theorem dXM_remember_71 : decode cXM_remember 71 = .ok (.aload_n 0, 1) := by decide +kernel
theorem dXM_remember_72 : decode cXM_remember 72 = .ok (.getfield 13, 3) := by decide +kernel
theorem dXM_remember_75 : decode cXM_remember 75 = .ok (.iload_n 1, 1) := by decide +kernel
theorem dXM_remember_76 : decode cXM_remember 76 = .ok (.aload_n 0, 1) := by decide +kernel
theorem dXM_remember_77 : decode cXM_remember 77 = .ok (.getfield 7, 3) := by decide +kernel
theorem dXM_remember_80 : decode cXM_remember 80 = .ok (.bipush 7, 2) := by decide +kernel
theorem dXM_remember_82 : decode cXM_remember 82 = .ok (.aload_n 0, 1) := by decide +kernel
theorem dXM_remember_83 : decode cXM_remember 83 = .ok (.getfield 42, 3) := by decide +kernel
theorem dXM_remember_86 : decode cXM_remember 86 = .ok (.imul, 1) := by decide +kernel
theorem dXM_remember_87 : decode cXM_remember 87 = .ok (.invokestatic 52, 3) := by decide +kernel
theorem dXM_remember_90 : decode cXM_remember 90 = .ok (.aload_n 0, 1) := by decide +kernel
theorem dXM_remember_91 : decode cXM_remember 91 = .ok (.dup, 1) := by decide +kernel
theorem dXM_remember_92 : decode cXM_remember 92 = .ok (.getfield 42, 3) := by decide +kernel
theorem dXM_remember_95 : decode cXM_remember 95 = .ok (.iconst 1, 1) := by decide +kernel
theorem dXM_remember_96 : decode cXM_remember 96 = .ok (.iadd, 1) := by decide +kernel
theorem dXM_remember_97 : decode cXM_remember 97 = .ok (.putfield 42, 3) := by decide +kernel
theorem dXM_remember_100 : decode cXM_remember 100 = .ok (.return_, 1) := by decide +kernel
theorem dXM_alike_0 : decode cXM_alike 0 = .ok (.aload_n 0, 1) := by decide +kernel
theorem dXM_alike_1 : decode cXM_alike 1 = .ok (.iload_n 1, 1) := by decide +kernel
theorem dXM_alike_2 : decode cXM_alike 2 = .ok (.iconst 1, 1) := by decide +kernel
theorem dXM_alike_3 : decode cXM_alike 3 = .ok (.iadd, 1) := by decide +kernel
theorem dXM_alike_4 : decode cXM_alike 4 = .ok (.iaload, 1) := by decide +kernel
theorem dXM_alike_5 : decode cXM_alike 5 = .ok (.aload_n 2, 1) := by decide +kernel
theorem dXM_alike_6 : decode cXM_alike 6 = .ok (.iload_n 3, 1) := by decide +kernel
theorem dXM_alike_7 : decode cXM_alike 7 = .ok (.iconst 1, 1) := by decide +kernel
theorem dXM_alike_8 : decode cXM_alike 8 = .ok (.iadd, 1) := by decide +kernel
theorem dXM_alike_9 : decode cXM_alike 9 = .ok (.iaload, 1) := by decide +kernel
theorem dXM_alike_10 : decode cXM_alike 10 = .ok (.if_icmp .ne 20, 3) := by decide +kernel
theorem dXM_alike_13 : decode cXM_alike 13 = .ok (.aload_n 0, 1) := by decide +kernel
theorem dXM_alike_14 : decode cXM_alike 14 = .ok (.iload_n 1, 1) := by decide +kernel
theorem dXM_alike_15 : decode cXM_alike 15 = .ok (.iconst 2, 1) := by decide +kernel
theorem dXM_alike_16 : decode cXM_alike 16 = .ok (.iadd, 1) := by decide +kernel
theorem dXM_alike_17 : decode cXM_alike 17 = .ok (.iaload, 1) := by decide +kernel
theorem dXM_alike_18 : decode cXM_alike 18 = .ok (.aload_n 2, 1) := by decide +kernel
theorem dXM_alike_19 : decode cXM_alike 19 = .ok (.iload_n 3, 1) := by decide +kernel
theorem dXM_alike_20 : decode cXM_alike 20 = .ok (.iconst 2, 1) := by decide +kernel
theorem dXM_alike_21 : decode cXM_alike 21 = .ok (.iadd, 1) := by decide +kernel
theorem dXM_alike_22 : decode cXM_alike 22 = .ok (.iaload, 1) := by decide +kernel
theorem dXM_alike_23 : decode cXM_alike 23 = .ok (.if_icmp .ne 7, 3) := by decide +kernel
theorem dXM_alike_26 : decode cXM_alike 26 = .ok (.iconst 1, 1) := by decide +kernel
theorem dXM_alike_27 : decode cXM_alike 27 = .ok (.goto 4, 3) := by decide +kernel
theorem dXM_alike_30 : decode cXM_alike 30 = .ok (.iconst 0, 1) := by decide +kernel
theorem dXM_alike_31 : decode cXM_alike 31 = .ok (.istore 4, 2) := by decide +kernel
theorem dXM_alike_33 : decode cXM_alike 33 = .ok (.iload 4, 2) := by decide +kernel
theorem dXM_alike_35 : decode cXM_alike 35 = .ok (.ifCond .eq 41, 3) := by decide +kernel
theorem dXM_alike_38 : decode cXM_alike 38 = .ok (.aload_n 0, 1) := by decide +kernel
theorem dXM_alike_39 : decode cXM_alike 39 = .ok (.iload_n 1, 1) := by decide +kernel
theorem dXM_alike_40 : decode cXM_alike 40 = .ok (.invokestatic 38, 3) := by decide +kernel
theorem dXM_alike_43 : decode cXM_alike 43 = .ok (.aload_n 2, 1) := by decide +kernel
theorem dXM_alike_44 : decode cXM_alike 44 = .ok (.iload_n 3, 1) := by decide +kernel
theorem dXM_alike_45 : decode cXM_alike 45 = .ok (.invokestatic 38, 3) := by decide +kernel
theorem dXM_alike_48 : decode cXM_alike 48 = .ok (.if_icmp .ne 28, 3) := by decide +kernel
theorem dXM_alike_51 : decode cXM_alike 51 = .ok (.aload_n 0, 1) := by decide +kernel
theorem dXM_alike_52 : decode cXM_alike 52 = .ok (.iload_n 1, 1) := by decide +kernel
theorem dXM_alike_53 : decode cXM_alike 53 = .ok (.invokestatic 38, 3) := by decide +kernel
theorem dXM_alike_56 : decode cXM_alike 56 = .ok (.ifCond .ne 16, 3) := by decide +kernel
theorem dXM_alike_59 : decode cXM_alike 59 = .ok (.aload_n 0, 1) := by decide +kernel
theorem dXM_alike_60 : decode cXM_alike 60 = .ok (.iload_n 1, 1) := by decide +kernel
theorem dXM_alike_61 : decode cXM_alike 61 = .ok (.iconst 3, 1) := by decide +kernel
theorem dXM_alike_62 : decode cXM_alike 62 = .ok (.iadd, 1) := by decide +kernel
theorem dXM_alike_63 : decode cXM_alike 63 = .ok (.iaload, 1) := by decide +kernel
theorem dXM_alike_64 : decode cXM_alike 64 = .ok (.aload_n 2, 1) := by decide +kernel
theorem dXM_alike_65 : decode cXM_alike 65 = .ok (.iload_n 3, 1) := by decide +kernel
theorem dXM_alike_66 : decode cXM_alike 66 = .ok (.iconst 3, 1) := by decide +kernel
theorem dXM_alike_67 : decode cXM_alike 67 = .ok (.iadd, 1) := by decide +kernel
theorem dXM_alike_68 : decode cXM_alike 68 = .ok (.iaload, 1) := by decide +kernel
theorem dXM_alike_69 : decode cXM_alike 69 = .ok (.if_icmp .ne 7, 3) := by decide +kernel
theorem dXM_alike_72 : decode cXM_alike 72 = .ok (.iconst 1, 1) := by decide +kernel
theorem dXM_alike_73 : decode cXM_alike 73 = .ok (.goto 4, 3) := by decide +kernel
theorem dXM_alike_76 : decode cXM_alike 76 = .ok (.iconst 0, 1) := by decide +kernel
theorem dXM_alike_77 : decode cXM_alike 77 = .ok (.ireturn, 1) := by decide +kernel
theorem dXM_point_0 : decode cXM_point 0 = .ok (.aload_n 0, 1) := by decide +kernel
theorem dXM_point_1 : decode cXM_point 1 = .ok (.iload_n 1, 1) := by decide +kernel
theorem dXM_point_2 : decode cXM_point 2 = .ok (.iaload, 1) := by decide +kernel
theorem dXM_point_3 : decode cXM_point 3 = .ok (.iconst 2, 1) := by decide +kernel
theorem dXM_point_4 : decode cXM_point 4 = .ok (.if_icmp .eq 7, 3) := by decide +kernel
theorem dXM_point_7 : decode cXM_point 7 = .ok (.iconst 1, 1) := by decide +kernel
theorem dXM_point_8 : decode cXM_point 8 = .ok (.goto 4, 3) := by decide +kernel
theorem dXM_point_11 : decode cXM_point 11 = .ok (.iconst 0, 1) := by decide +kernel
theorem dXM_point_12 : decode cXM_point 12 = .ok (.ireturn, 1) := by decide +kernel
theorem dXM_wins_0 : decode cXM_wins 0 = .ok (.aload_n 0, 1) := by decide +kernel
theorem dXM_wins_1 : decode cXM_wins 1 = .ok (.iload_n 1, 1) := by decide +kernel
theorem dXM_wins_2 : decode cXM_wins 2 = .ok (.iconst 4, 1) := by decide +kernel
theorem dXM_wins_3 : decode cXM_wins 3 = .ok (.iadd, 1) := by decide +kernel
theorem dXM_wins_4 : decode cXM_wins 4 = .ok (.iaload, 1) := by decide +kernel
theorem dXM_wins_5 : decode cXM_wins 5 = .ok (.aload_n 2, 1) := by decide +kernel
theorem dXM_wins_6 : decode cXM_wins 6 = .ok (.iload_n 3, 1) := by decide +kernel
theorem dXM_wins_7 : decode cXM_wins 7 = .ok (.iconst 4, 1) := by decide +kernel
theorem dXM_wins_8 : decode cXM_wins 8 = .ok (.iadd, 1) := by decide +kernel
theorem dXM_wins_9 : decode cXM_wins 9 = .ok (.iaload, 1) := by decide +kernel
theorem dXM_wins_10 : decode cXM_wins 10 = .ok (.if_icmp .eq 22, 3) := by decide +kernel
theorem dXM_wins_13 : decode cXM_wins 13 = .ok (.aload_n 0, 1) := by decide +kernel
theorem dXM_wins_14 : decode cXM_wins 14 = .ok (.iload_n 1, 1) := by decide +kernel
theorem dXM_wins_15 : decode cXM_wins 15 = .ok (.iconst 4, 1) := by decide +kernel
theorem dXM_wins_16 : decode cXM_wins 16 = .ok (.iadd, 1) := by decide +kernel
theorem dXM_wins_17 : decode cXM_wins 17 = .ok (.iaload, 1) := by decide +kernel
theorem dXM_wins_18 : decode cXM_wins 18 = .ok (.aload_n 2, 1) := by decide +kernel
theorem dXM_wins_19 : decode cXM_wins 19 = .ok (.iload_n 3, 1) := by decide +kernel
theorem dXM_wins_20 : decode cXM_wins 20 = .ok (.iconst 4, 1) := by decide +kernel
theorem dXM_wins_21 : decode cXM_wins 21 = .ok (.iadd, 1) := by decide +kernel
theorem dXM_wins_22 : decode cXM_wins 22 = .ok (.iaload, 1) := by decide +kernel
theorem dXM_wins_23 : decode cXM_wins 23 = .ok (.if_icmp .le 7, 3) := by decide +kernel
theorem dXM_wins_26 : decode cXM_wins 26 = .ok (.iconst 1, 1) := by decide +kernel
theorem dXM_wins_27 : decode cXM_wins 27 = .ok (.goto 4, 3) := by decide +kernel
theorem dXM_wins_30 : decode cXM_wins 30 = .ok (.iconst 0, 1) := by decide +kernel
theorem dXM_wins_31 : decode cXM_wins 31 = .ok (.ireturn, 1) := by decide +kernel
theorem dXM_wins_32 : decode cXM_wins 32 = .ok (.aload_n 0, 1) := by decide +kernel
theorem dXM_wins_33 : decode cXM_wins 33 = .ok (.iload_n 1, 1) := by decide +kernel
theorem dXM_wins_34 : decode cXM_wins 34 = .ok (.iaload, 1) := by decide +kernel
theorem dXM_wins_35 : decode cXM_wins 35 = .ok (.aload_n 2, 1) := by decide +kernel
theorem dXM_wins_36 : decode cXM_wins 36 = .ok (.iload_n 3, 1) := by decide +kernel
theorem dXM_wins_37 : decode cXM_wins 37 = .ok (.iaload, 1) := by decide +kernel
theorem dXM_wins_38 : decode cXM_wins 38 = .ok (.if_icmp .eq 16, 3) := by decide +kernel
theorem dXM_wins_41 : decode cXM_wins 41 = .ok (.aload_n 0, 1) := by decide +kernel
theorem dXM_wins_42 : decode cXM_wins 42 = .ok (.iload_n 1, 1) := by decide +kernel
theorem dXM_wins_43 : decode cXM_wins 43 = .ok (.iaload, 1) := by decide +kernel
theorem dXM_wins_44 : decode cXM_wins 44 = .ok (.iconst 1, 1) := by decide +kernel
theorem dXM_wins_45 : decode cXM_wins 45 = .ok (.if_icmp .ne 7, 3) := by decide +kernel
theorem dXM_wins_48 : decode cXM_wins 48 = .ok (.iconst 1, 1) := by decide +kernel
theorem dXM_wins_49 : decode cXM_wins 49 = .ok (.goto 4, 3) := by decide +kernel
theorem dXM_wins_52 : decode cXM_wins 52 = .ok (.iconst 0, 1) := by decide +kernel
theorem dXM_wins_53 : decode cXM_wins 53 = .ok (.ireturn, 1) := by decide +kernel
theorem dXM_wins_54 : decode cXM_wins 54 = .ok (.aload_n 0, 1) := by decide +kernel
theorem dXM_wins_55 : decode cXM_wins 55 = .ok (.iload_n 1, 1) := by decide +kernel
theorem dXM_wins_56 : decode cXM_wins 56 = .ok (.iaload, 1) := by decide +kernel
theorem dXM_wins_57 : decode cXM_wins 57 = .ok (.ifCond .ne 35, 3) := by decide +kernel
theorem dXM_wins_60 : decode cXM_wins 60 = .ok (.aload_n 0, 1) := by decide +kernel
theorem dXM_wins_61 : decode cXM_wins 61 = .ok (.iload_n 1, 1) := by decide +kernel
theorem dXM_wins_62 : decode cXM_wins 62 = .ok (.iconst 5, 1) := by decide +kernel
theorem dXM_wins_63 : decode cXM_wins 63 = .ok (.iadd, 1) := by decide +kernel
theorem dXM_wins_64 : decode cXM_wins 64 = .ok (.iaload, 1) := by decide +kernel
theorem dXM_wins_65 : decode cXM_wins 65 = .ok (.aload_n 2, 1) := by decide +kernel
theorem dXM_wins_66 : decode cXM_wins 66 = .ok (.iload_n 3, 1) := by decide +kernel
theorem dXM_wins_67 : decode cXM_wins 67 = .ok (.iconst 5, 1) := by decide +kernel
theorem dXM_wins_68 : decode cXM_wins 68 = .ok (.iadd, 1) := by decide +kernel
theorem dXM_wins_69 : decode cXM_wins 69 = .ok (.iaload, 1) := by decide +kernel
theorem dXM_wins_70 : decode cXM_wins 70 = .ok (.if_icmp .eq 22, 3) := by decide +kernel
theorem dXM_wins_73 : decode cXM_wins 73 = .ok (.aload_n 0, 1) := by decide +kernel
theorem dXM_wins_74 : decode cXM_wins 74 = .ok (.iload_n 1, 1) := by decide +kernel
theorem dXM_wins_75 : decode cXM_wins 75 = .ok (.iconst 5, 1) := by decide +kernel
theorem dXM_wins_76 : decode cXM_wins 76 = .ok (.iadd, 1) := by decide +kernel
theorem dXM_wins_77 : decode cXM_wins 77 = .ok (.iaload, 1) := by decide +kernel
theorem dXM_wins_78 : decode cXM_wins 78 = .ok (.aload_n 2, 1) := by decide +kernel
theorem dXM_wins_79 : decode cXM_wins 79 = .ok (.iload_n 3, 1) := by decide +kernel
theorem dXM_wins_80 : decode cXM_wins 80 = .ok (.iconst 5, 1) := by decide +kernel
theorem dXM_wins_81 : decode cXM_wins 81 = .ok (.iadd, 1) := by decide +kernel
theorem dXM_wins_82 : decode cXM_wins 82 = .ok (.iaload, 1) := by decide +kernel
theorem dXM_wins_83 : decode cXM_wins 83 = .ok (.if_icmp .le 7, 3) := by decide +kernel
theorem dXM_wins_86 : decode cXM_wins 86 = .ok (.iconst 1, 1) := by decide +kernel
theorem dXM_wins_87 : decode cXM_wins 87 = .ok (.goto 4, 3) := by decide +kernel
theorem dXM_wins_90 : decode cXM_wins 90 = .ok (.iconst 0, 1) := by decide +kernel
theorem dXM_wins_91 : decode cXM_wins 91 = .ok (.ireturn, 1) := by decide +kernel
theorem dXM_wins_92 : decode cXM_wins 92 = .ok (.aload_n 0, 1) := by decide +kernel
theorem dXM_wins_93 : decode cXM_wins 93 = .ok (.iload_n 1, 1) := by decide +kernel
theorem dXM_wins_94 : decode cXM_wins 94 = .ok (.iaload, 1) := by decide +kernel
theorem dXM_wins_95 : decode cXM_wins 95 = .ok (.ifCond .ne 45, 3) := by decide +kernel
theorem dXM_wins_98 : decode cXM_wins 98 = .ok (.aload_n 0, 1) := by decide +kernel
theorem dXM_wins_99 : decode cXM_wins 99 = .ok (.iload_n 1, 1) := by decide +kernel
theorem dXM_wins_100 : decode cXM_wins 100 = .ok (.bipush 6, 2) := by decide +kernel
theorem dXM_wins_102 : decode cXM_wins 102 = .ok (.iadd, 1) := by decide +kernel
theorem dXM_wins_103 : decode cXM_wins 103 = .ok (.iaload, 1) := by decide +kernel
theorem dXM_wins_104 : decode cXM_wins 104 = .ok (.ifCond .lt 12, 3) := by decide +kernel
theorem dXM_wins_107 : decode cXM_wins 107 = .ok (.aload_n 2, 1) := by decide +kernel
theorem dXM_wins_108 : decode cXM_wins 108 = .ok (.iload_n 3, 1) := by decide +kernel
theorem dXM_wins_109 : decode cXM_wins 109 = .ok (.bipush 6, 2) := by decide +kernel
theorem dXM_wins_111 : decode cXM_wins 111 = .ok (.iadd, 1) := by decide +kernel
theorem dXM_wins_112 : decode cXM_wins 112 = .ok (.iaload, 1) := by decide +kernel
theorem dXM_wins_113 : decode cXM_wins 113 = .ok (.ifCond .ge 27, 3) := by decide +kernel
theorem dXM_wins_116 : decode cXM_wins 116 = .ok (.aload_n 0, 1) := by decide +kernel
theorem dXM_wins_117 : decode cXM_wins 117 = .ok (.iload_n 1, 1) := by decide +kernel
theorem dXM_wins_118 : decode cXM_wins 118 = .ok (.bipush 6, 2) := by decide +kernel
theorem dXM_wins_120 : decode cXM_wins 120 = .ok (.iadd, 1) := by decide +kernel
theorem dXM_wins_121 : decode cXM_wins 121 = .ok (.iaload, 1) := by decide +kernel
theorem dXM_wins_122 : decode cXM_wins 122 = .ok (.ifCond .ge 16, 3) := by decide +kernel
theorem dXM_wins_125 : decode cXM_wins 125 = .ok (.aload_n 2, 1) := by decide +kernel
theorem dXM_wins_126 : decode cXM_wins 126 = .ok (.iload_n 3, 1) := by decide +kernel
theorem dXM_wins_127 : decode cXM_wins 127 = .ok (.bipush 6, 2) := by decide +kernel
theorem dXM_wins_129 : decode cXM_wins 129 = .ok (.iadd, 1) := by decide +kernel
theorem dXM_wins_130 : decode cXM_wins 130 = .ok (.iaload, 1) := by decide +kernel
theorem dXM_wins_131 : decode cXM_wins 131 = .ok (.ifCond .lt 7, 3) := by decide +kernel
theorem dXM_wins_134 : decode cXM_wins 134 = .ok (.iconst 1, 1) := by decide +kernel
theorem dXM_wins_135 : decode cXM_wins 135 = .ok (.goto 4, 3) := by decide +kernel
theorem dXM_wins_138 : decode cXM_wins 138 = .ok (.iconst 0, 1) := by decide +kernel
theorem dXM_wins_139 : decode cXM_wins 139 = .ok (.ireturn, 1) := by decide +kernel
theorem dXM_wins_140 : decode cXM_wins 140 = .ok (.aload_n 0, 1) := by decide +kernel
theorem dXM_wins_141 : decode cXM_wins 141 = .ok (.iload_n 1, 1) := by decide +kernel
theorem dXM_wins_142 : decode cXM_wins 142 = .ok (.bipush 6, 2) := by decide +kernel
theorem dXM_wins_144 : decode cXM_wins 144 = .ok (.iadd, 1) := by decide +kernel
theorem dXM_wins_145 : decode cXM_wins 145 = .ok (.iaload, 1) := by decide +kernel
theorem dXM_wins_146 : decode cXM_wins 146 = .ok (.aload_n 2, 1) := by decide +kernel
theorem dXM_wins_147 : decode cXM_wins 147 = .ok (.iload_n 3, 1) := by decide +kernel
theorem dXM_wins_148 : decode cXM_wins 148 = .ok (.bipush 6, 2) := by decide +kernel
theorem dXM_wins_150 : decode cXM_wins 150 = .ok (.iadd, 1) := by decide +kernel
theorem dXM_wins_151 : decode cXM_wins 151 = .ok (.iaload, 1) := by decide +kernel
theorem dXM_wins_152 : decode cXM_wins 152 = .ok (.if_icmp .le 7, 3) := by decide +kernel
theorem dXM_wins_155 : decode cXM_wins 155 = .ok (.iconst 1, 1) := by decide +kernel
theorem dXM_wins_156 : decode cXM_wins 156 = .ok (.goto 4, 3) := by decide +kernel
theorem dXM_wins_159 : decode cXM_wins 159 = .ok (.iconst 0, 1) := by decide +kernel
theorem dXM_wins_160 : decode cXM_wins 160 = .ok (.ireturn, 1) := by decide +kernel
theorem dXM_copy_0 : decode cXM_copy 0 = .ok (.iconst 0, 1) := by decide +kernel
theorem dXM_copy_1 : decode cXM_copy 1 = .ok (.istore 4, 2) := by decide +kernel
theorem dXM_copy_3 : decode cXM_copy 3 = .ok (.iload 4, 2) := by decide +kernel
theorem dXM_copy_5 : decode cXM_copy 5 = .ok (.bipush 7, 2) := by decide +kernel
theorem dXM_copy_7 : decode cXM_copy 7 = .ok (.if_icmp .ge 21, 3) := by decide +kernel
theorem dXM_copy_10 : decode cXM_copy 10 = .ok (.aload_n 2, 1) := by decide +kernel
theorem dXM_copy_11 : decode cXM_copy 11 = .ok (.iload_n 3, 1) := by decide +kernel
theorem dXM_copy_12 : decode cXM_copy 12 = .ok (.iload 4, 2) := by decide +kernel
theorem dXM_copy_14 : decode cXM_copy 14 = .ok (.iadd, 1) := by decide +kernel
theorem dXM_copy_15 : decode cXM_copy 15 = .ok (.aload_n 0, 1) := by decide +kernel
theorem dXM_copy_16 : decode cXM_copy 16 = .ok (.iload_n 1, 1) := by decide +kernel
theorem dXM_copy_17 : decode cXM_copy 17 = .ok (.iload 4, 2) := by decide +kernel
theorem dXM_copy_19 : decode cXM_copy 19 = .ok (.iadd, 1) := by decide +kernel
theorem dXM_copy_20 : decode cXM_copy 20 = .ok (.iaload, 1) := by decide +kernel
theorem dXM_copy_21 : decode cXM_copy 21 = .ok (.iastore, 1) := by decide +kernel
theorem dXM_copy_22 : decode cXM_copy 22 = .ok (.iinc 4 1, 3) := by decide +kernel
theorem dXM_copy_25 : decode cXM_copy 25 = .ok (.goto (-22), 3) := by decide +kernel
theorem dXM_copy_28 : decode cXM_copy 28 = .ok (.return_, 1) := by decide +kernel
theorem dXM_flushAll_0 : decode cXM_flushAll 0 = .ok (.aload_n 0, 1) := by decide +kernel
theorem dXM_flushAll_1 : decode cXM_flushAll 1 = .ok (.getfield 42, 3) := by decide +kernel
theorem dXM_flushAll_4 : decode cXM_flushAll 4 = .ok (.istore_n 1, 1) := by decide +kernel
theorem dXM_flushAll_5 : decode cXM_flushAll 5 = .ok (.iload_n 1, 1) := by decide +kernel
theorem dXM_flushAll_6 : decode cXM_flushAll 6 = .ok (.ifCond .le 119, 3) := by decide +kernel
theorem dXM_flushAll_9 : decode cXM_flushAll 9 = .ok (.aload_n 0, 1) := by decide +kernel
theorem dXM_flushAll_10 : decode cXM_flushAll 10 = .ok (.dup, 1) := by decide +kernel
theorem dXM_flushAll_11 : decode cXM_flushAll 11 = .ok (.getfield 82, 3) := by decide +kernel
theorem dXM_flushAll_14 : decode cXM_flushAll 14 = .ok (.iconst 1, 1) := by decide +kernel
theorem dXM_flushAll_15 : decode cXM_flushAll 15 = .ok (.iadd, 1) := by decide +kernel
theorem dXM_flushAll_16 : decode cXM_flushAll 16 = .ok (.putfield 82, 3) := by decide +kernel
theorem dXM_flushAll_19 : decode cXM_flushAll 19 = .ok (.iconst 0, 1) := by decide +kernel
theorem dXM_flushAll_20 : decode cXM_flushAll 20 = .ok (.istore_n 2, 1) := by decide +kernel
theorem dXM_flushAll_21 : decode cXM_flushAll 21 = .ok (.iload_n 2, 1) := by decide +kernel
theorem dXM_flushAll_22 : decode cXM_flushAll 22 = .ok (.iload_n 1, 1) := by decide +kernel
theorem dXM_flushAll_23 : decode cXM_flushAll 23 = .ok (.if_icmp .ge 54, 3) := by decide +kernel
theorem dXM_flushAll_26 : decode cXM_flushAll 26 = .ok (.aload_n 0, 1) := by decide +kernel
theorem dXM_flushAll_27 : decode cXM_flushAll 27 = .ok (.getfield 7, 3) := by decide +kernel
theorem dXM_flushAll_30 : decode cXM_flushAll 30 = .ok (.bipush 7, 2) := by decide +kernel
theorem dXM_flushAll_32 : decode cXM_flushAll 32 = .ok (.iload_n 2, 1) := by decide +kernel
theorem dXM_flushAll_33 : decode cXM_flushAll 33 = .ok (.imul, 1) := by decide +kernel
theorem dXM_flushAll_34 : decode cXM_flushAll 34 = .ok (.aload_n 0, 1) := by decide +kernel
theorem dXM_flushAll_35 : decode cXM_flushAll 35 = .ok (.getfield 16, 3) := by decide +kernel
theorem dXM_flushAll_38 : decode cXM_flushAll 38 = .ok (.bipush 7, 2) := by decide +kernel
theorem dXM_flushAll_40 : decode cXM_flushAll 40 = .ok (.aload_n 0, 1) := by decide +kernel
theorem dXM_flushAll_41 : decode cXM_flushAll 41 = .ok (.getfield 85, 3) := by decide +kernel
theorem dXM_flushAll_44 : decode cXM_flushAll 44 = .ok (.imul, 1) := by decide +kernel
theorem dXM_flushAll_45 : decode cXM_flushAll 45 = .ok (.invokestatic 52, 3) := by decide +kernel
theorem dXM_flushAll_48 : decode cXM_flushAll 48 = .ok (.aload_n 0, 1) := by decide +kernel
theorem dXM_flushAll_49 : decode cXM_flushAll 49 = .ok (.getfield 19, 3) := by decide +kernel
theorem dXM_flushAll_52 : decode cXM_flushAll 52 = .ok (.aload_n 0, 1) := by decide +kernel
theorem dXM_flushAll_53 : decode cXM_flushAll 53 = .ok (.getfield 85, 3) := by decide +kernel
theorem dXM_flushAll_56 : decode cXM_flushAll 56 = .ok (.aload_n 0, 1) := by decide +kernel
theorem dXM_flushAll_57 : decode cXM_flushAll 57 = .ok (.getfield 82, 3) := by decide +kernel
theorem dXM_flushAll_60 : decode cXM_flushAll 60 = .ok (.iastore, 1) := by decide +kernel
theorem dXM_flushAll_61 : decode cXM_flushAll 61 = .ok (.aload_n 0, 1) := by decide +kernel
theorem dXM_flushAll_62 : decode cXM_flushAll 62 = .ok (.dup, 1) := by decide +kernel
theorem dXM_flushAll_63 : decode cXM_flushAll 63 = .ok (.getfield 85, 3) := by decide +kernel
theorem dXM_flushAll_66 : decode cXM_flushAll 66 = .ok (.iconst 1, 1) := by decide +kernel
theorem dXM_flushAll_67 : decode cXM_flushAll 67 = .ok (.iadd, 1) := by decide +kernel
theorem dXM_flushAll_68 : decode cXM_flushAll 68 = .ok (.putfield 85, 3) := by decide +kernel
theorem dXM_flushAll_71 : decode cXM_flushAll 71 = .ok (.iinc 2 1, 3) := by decide +kernel
theorem dXM_flushAll_74 : decode cXM_flushAll 74 = .ok (.goto (-53), 3) := by decide +kernel
theorem dXM_flushAll_77 : decode cXM_flushAll 77 = .ok (.aload_n 0, 1) := by decide +kernel
theorem dXM_flushAll_78 : decode cXM_flushAll 78 = .ok (.getfield 22, 3) := by decide +kernel
theorem dXM_flushAll_81 : decode cXM_flushAll 81 = .ok (.aload_n 0, 1) := by decide +kernel
theorem dXM_flushAll_82 : decode cXM_flushAll 82 = .ok (.getfield 88, 3) := by decide +kernel
theorem dXM_flushAll_85 : decode cXM_flushAll 85 = .ok (.aload_n 0, 1) := by decide +kernel
theorem dXM_flushAll_86 : decode cXM_flushAll 86 = .ok (.getfield 82, 3) := by decide +kernel
theorem dXM_flushAll_89 : decode cXM_flushAll 89 = .ok (.iastore, 1) := by decide +kernel
theorem dXM_flushAll_90 : decode cXM_flushAll 90 = .ok (.aload_n 0, 1) := by decide +kernel
theorem dXM_flushAll_91 : decode cXM_flushAll 91 = .ok (.getfield 25, 3) := by decide +kernel
theorem dXM_flushAll_94 : decode cXM_flushAll 94 = .ok (.aload_n 0, 1) := by decide +kernel
theorem dXM_flushAll_95 : decode cXM_flushAll 95 = .ok (.getfield 88, 3) := by decide +kernel
theorem dXM_flushAll_98 : decode cXM_flushAll 98 = .ok (.iconst 0, 1) := by decide +kernel
theorem dXM_flushAll_99 : decode cXM_flushAll 99 = .ok (.iastore, 1) := by decide +kernel
theorem dXM_flushAll_100 : decode cXM_flushAll 100 = .ok (.aload_n 0, 1) := by decide +kernel
theorem dXM_flushAll_101 : decode cXM_flushAll 101 = .ok (.dup, 1) := by decide +kernel
theorem dXM_flushAll_102 : decode cXM_flushAll 102 = .ok (.getfield 88, 3) := by decide +kernel
theorem dXM_flushAll_105 : decode cXM_flushAll 105 = .ok (.iconst 1, 1) := by decide +kernel
theorem dXM_flushAll_106 : decode cXM_flushAll 106 = .ok (.iadd, 1) := by decide +kernel
theorem dXM_flushAll_107 : decode cXM_flushAll 107 = .ok (.putfield 88, 3) := by decide +kernel
theorem dXM_flushAll_110 : decode cXM_flushAll 110 = .ok (.aload_n 0, 1) := by decide +kernel
theorem dXM_flushAll_111 : decode cXM_flushAll 111 = .ok (.iconst 0, 1) := by decide +kernel
theorem dXM_flushAll_112 : decode cXM_flushAll 112 = .ok (.putfield 42, 3) := by decide +kernel
theorem dXM_flushAll_115 : decode cXM_flushAll 115 = .ok (.aload_n 0, 1) := by decide +kernel
theorem dXM_flushAll_116 : decode cXM_flushAll 116 = .ok (.iconst 0, 1) := by decide +kernel
theorem dXM_flushAll_117 : decode cXM_flushAll 117 = .ok (.putfield 56, 3) := by decide +kernel
theorem dXM_flushAll_120 : decode cXM_flushAll 120 = .ok (.aload_n 0, 1) := by decide +kernel
theorem dXM_flushAll_121 : decode cXM_flushAll 121 = .ok (.iconst 0, 1) := by decide +kernel
theorem dXM_flushAll_122 : decode cXM_flushAll 122 = .ok (.putfield 91, 3) := by decide +kernel
theorem dXM_flushAll_125 : decode cXM_flushAll 125 = .ok (.aload_n 0, 1) := by decide +kernel
theorem dXM_flushAll_126 : decode cXM_flushAll 126 = .ok (.getfield 88, 3) := by decide +kernel
theorem dXM_flushAll_129 : decode cXM_flushAll 129 = .ok (.iconst 3, 1) := by decide +kernel
theorem dXM_flushAll_130 : decode cXM_flushAll 130 = .ok (.if_icmp .lt 74, 3) := by decide +kernel
theorem dXM_flushAll_133 : decode cXM_flushAll 133 = .ok (.aload_n 0, 1) := by decide +kernel
theorem dXM_flushAll_134 : decode cXM_flushAll 134 = .ok (.getfield 25, 3) := by decide +kernel
theorem dXM_flushAll_137 : decode cXM_flushAll 137 = .ok (.aload_n 0, 1) := by decide +kernel
theorem dXM_flushAll_138 : decode cXM_flushAll 138 = .ok (.getfield 88, 3) := by decide +kernel
theorem dXM_flushAll_141 : decode cXM_flushAll 141 = .ok (.iconst 1, 1) := by decide +kernel
theorem dXM_flushAll_142 : decode cXM_flushAll 142 = .ok (.isub, 1) := by decide +kernel
theorem dXM_flushAll_143 : decode cXM_flushAll 143 = .ok (.iaload, 1) := by decide +kernel
theorem dXM_flushAll_144 : decode cXM_flushAll 144 = .ok (.aload_n 0, 1) := by decide +kernel
theorem dXM_flushAll_145 : decode cXM_flushAll 145 = .ok (.getfield 25, 3) := by decide +kernel
theorem dXM_flushAll_148 : decode cXM_flushAll 148 = .ok (.aload_n 0, 1) := by decide +kernel
theorem dXM_flushAll_149 : decode cXM_flushAll 149 = .ok (.getfield 88, 3) := by decide +kernel
theorem dXM_flushAll_152 : decode cXM_flushAll 152 = .ok (.iconst 2, 1) := by decide +kernel
theorem dXM_flushAll_153 : decode cXM_flushAll 153 = .ok (.isub, 1) := by decide +kernel
theorem dXM_flushAll_154 : decode cXM_flushAll 154 = .ok (.iaload, 1) := by decide +kernel
theorem dXM_flushAll_155 : decode cXM_flushAll 155 = .ok (.if_icmp .ne 49, 3) := by decide +kernel
theorem dXM_flushAll_158 : decode cXM_flushAll 158 = .ok (.aload_n 0, 1) := by decide +kernel
theorem dXM_flushAll_159 : decode cXM_flushAll 159 = .ok (.getfield 25, 3) := by decide +kernel
theorem dXM_flushAll_162 : decode cXM_flushAll 162 = .ok (.aload_n 0, 1) := by decide +kernel
theorem dXM_flushAll_163 : decode cXM_flushAll 163 = .ok (.getfield 88, 3) := by decide +kernel
theorem dXM_flushAll_166 : decode cXM_flushAll 166 = .ok (.iconst 2, 1) := by decide +kernel
theorem dXM_flushAll_167 : decode cXM_flushAll 167 = .ok (.isub, 1) := by decide +kernel
theorem dXM_flushAll_168 : decode cXM_flushAll 168 = .ok (.iaload, 1) := by decide +kernel
theorem dXM_flushAll_169 : decode cXM_flushAll 169 = .ok (.aload_n 0, 1) := by decide +kernel
theorem dXM_flushAll_170 : decode cXM_flushAll 170 = .ok (.getfield 25, 3) := by decide +kernel
theorem dXM_flushAll_173 : decode cXM_flushAll 173 = .ok (.aload_n 0, 1) := by decide +kernel
theorem dXM_flushAll_174 : decode cXM_flushAll 174 = .ok (.getfield 88, 3) := by decide +kernel
theorem dXM_flushAll_177 : decode cXM_flushAll 177 = .ok (.iconst 3, 1) := by decide +kernel
theorem dXM_flushAll_178 : decode cXM_flushAll 178 = .ok (.isub, 1) := by decide +kernel
theorem dXM_flushAll_179 : decode cXM_flushAll 179 = .ok (.iaload, 1) := by decide +kernel
theorem dXM_flushAll_180 : decode cXM_flushAll 180 = .ok (.if_icmp .ne 24, 3) := by decide +kernel
theorem dXM_flushAll_183 : decode cXM_flushAll 183 = .ok (.aload_n 0, 1) := by decide +kernel
theorem dXM_flushAll_184 : decode cXM_flushAll 184 = .ok (.iconst 3, 1) := by decide +kernel
theorem dXM_flushAll_185 : decode cXM_flushAll 185 = .ok (.aload_n 0, 1) := by decide +kernel
theorem dXM_flushAll_186 : decode cXM_flushAll 186 = .ok (.getfield 25, 3) := by decide +kernel
theorem dXM_flushAll_189 : decode cXM_flushAll 189 = .ok (.aload_n 0, 1) := by decide +kernel
theorem dXM_flushAll_190 : decode cXM_flushAll 190 = .ok (.getfield 88, 3) := by decide +kernel
theorem dXM_flushAll_193 : decode cXM_flushAll 193 = .ok (.iconst 1, 1) := by decide +kernel
theorem dXM_flushAll_194 : decode cXM_flushAll 194 = .ok (.isub, 1) := by decide +kernel
theorem dXM_flushAll_195 : decode cXM_flushAll 195 = .ok (.iaload, 1) := by decide +kernel
theorem dXM_flushAll_196 : decode cXM_flushAll 196 = .ok (.iconst 1, 1) := by decide +kernel
theorem dXM_flushAll_197 : decode cXM_flushAll 197 = .ok (.iadd, 1) := by decide +kernel
theorem dXM_flushAll_198 : decode cXM_flushAll 198 = .ok (.invokevirtual 94, 3) := by decide +kernel
theorem dXM_flushAll_201 : decode cXM_flushAll 201 = .ok (.goto (-76), 3) := by decide +kernel
theorem dXM_flushAll_204 : decode cXM_flushAll 204 = .ok (.iload_n 1, 1) := by decide +kernel
theorem dXM_flushAll_205 : decode cXM_flushAll 205 = .ok (.ireturn, 1) := by decide +kernel
theorem dXM_join_0 : decode cXM_join 0 = .ok (.iload_n 1, 1) := by decide +kernel
theorem dXM_join_1 : decode cXM_join 1 = .ok (.aload_n 0, 1) := by decide +kernel
theorem dXM_join_2 : decode cXM_join 2 = .ok (.getfield 88, 3) := by decide +kernel
theorem dXM_join_5 : decode cXM_join 5 = .ok (.if_icmp .ne 7, 3) := by decide +kernel
theorem dXM_join_8 : decode cXM_join 8 = .ok (.iconst 1, 1) := by decide +kernel
theorem dXM_join_9 : decode cXM_join 9 = .ok (.goto 4, 3) := by decide +kernel
theorem dXM_join_12 : decode cXM_join 12 = .ok (.iconst 0, 1) := by decide +kernel
theorem dXM_join_13 : decode cXM_join 13 = .ok (.istore_n 3, 1) := by decide +kernel
theorem dXM_join_14 : decode cXM_join 14 = .ok (.aload_n 0, 1) := by decide +kernel
theorem dXM_join_15 : decode cXM_join 15 = .ok (.dup, 1) := by decide +kernel
theorem dXM_join_16 : decode cXM_join 16 = .ok (.getfield 82, 3) := by decide +kernel
theorem dXM_join_19 : decode cXM_join 19 = .ok (.iconst 1, 1) := by decide +kernel
theorem dXM_join_20 : decode cXM_join 20 = .ok (.iadd, 1) := by decide +kernel
theorem dXM_join_21 : decode cXM_join 21 = .ok (.putfield 82, 3) := by decide +kernel
theorem dXM_join_24 : decode cXM_join 24 = .ok (.aload_n 0, 1) := by decide +kernel
theorem dXM_join_25 : decode cXM_join 25 = .ok (.getfield 88, 3) := by decide +kernel
theorem dXM_join_28 : decode cXM_join 28 = .ok (.iload_n 1, 1) := by decide +kernel
theorem dXM_join_29 : decode cXM_join 29 = .ok (.isub, 1) := by decide +kernel
theorem dXM_join_30 : decode cXM_join 30 = .ok (.istore 4, 2) := by decide +kernel
theorem dXM_join_32 : decode cXM_join 32 = .ok (.iload 4, 2) := by decide +kernel
theorem dXM_join_34 : decode cXM_join 34 = .ok (.aload_n 0, 1) := by decide +kernel
theorem dXM_join_35 : decode cXM_join 35 = .ok (.getfield 88, 3) := by decide +kernel
theorem dXM_join_38 : decode cXM_join 38 = .ok (.if_icmp .ge 65, 3) := by decide +kernel
theorem dXM_join_41 : decode cXM_join 41 = .ok (.iconst 0, 1) := by decide +kernel
theorem dXM_join_42 : decode cXM_join 42 = .ok (.istore 5, 2) := by decide +kernel
theorem dXM_join_44 : decode cXM_join 44 = .ok (.iload 5, 2) := by decide +kernel
theorem dXM_join_46 : decode cXM_join 46 = .ok (.aload_n 0, 1) := by decide +kernel
theorem dXM_join_47 : decode cXM_join 47 = .ok (.getfield 85, 3) := by decide +kernel
theorem dXM_join_50 : decode cXM_join 50 = .ok (.if_icmp .ge 47, 3) := by decide +kernel
theorem dXM_join_53 : decode cXM_join 53 = .ok (.aload_n 0, 1) := by decide +kernel
theorem dXM_join_54 : decode cXM_join 54 = .ok (.getfield 19, 3) := by decide +kernel
theorem dXM_join_57 : decode cXM_join 57 = .ok (.iload 5, 2) := by decide +kernel
theorem dXM_join_59 : decode cXM_join 59 = .ok (.aload_n 0, 1) := by decide +kernel
theorem dXM_join_60 : decode cXM_join 60 = .ok (.getfield 19, 3) := by decide +kernel
theorem dXM_join_63 : decode cXM_join 63 = .ok (.iload 5, 2) := by decide +kernel
theorem dXM_join_65 : decode cXM_join 65 = .ok (.iaload, 1) := by decide +kernel
theorem dXM_join_66 : decode cXM_join 66 = .ok (.aload_n 0, 1) := by decide +kernel
theorem dXM_join_67 : decode cXM_join 67 = .ok (.getfield 22, 3) := by decide +kernel
theorem dXM_join_70 : decode cXM_join 70 = .ok (.iload 4, 2) := by decide +kernel
theorem dXM_join_72 : decode cXM_join 72 = .ok (.iaload, 1) := by decide +kernel
theorem dXM_join_73 : decode cXM_join 73 = .ok (.if_icmp .ne 10, 3) := by decide +kernel
theorem dXM_join_76 : decode cXM_join 76 = .ok (.aload_n 0, 1) := by decide +kernel
theorem dXM_join_77 : decode cXM_join 77 = .ok (.getfield 82, 3) := by decide +kernel
theorem dXM_join_80 : decode cXM_join 80 = .ok (.goto 10, 3) := by decide +kernel
theorem dXM_join_83 : decode cXM_join 83 = .ok (.aload_n 0, 1) := by decide +kernel
theorem dXM_join_84 : decode cXM_join 84 = .ok (.getfield 19, 3) := by decide +kernel
theorem dXM_join_87 : decode cXM_join 87 = .ok (.iload 5, 2) := by decide +kernel
theorem dXM_join_89 : decode cXM_join 89 = .ok (.iaload, 1) := by decide +kernel
theorem dXM_join_90 : decode cXM_join 90 = .ok (.iastore, 1) := by decide +kernel
theorem dXM_join_91 : decode cXM_join 91 = .ok (.iinc 5 1, 3) := by decide +kernel
theorem dXM_join_94 : decode cXM_join 94 = .ok (.goto (-50), 3) := by decide +kernel
theorem dXM_join_97 : decode cXM_join 97 = .ok (.iinc 4 1, 3) := by decide +kernel
theorem dXM_join_100 : decode cXM_join 100 = .ok (.goto (-68), 3) := by decide +kernel
theorem dXM_join_103 : decode cXM_join 103 = .ok (.aload_n 0, 1) := by decide +kernel
theorem dXM_join_104 : decode cXM_join 104 = .ok (.aload_n 0, 1) := by decide +kernel
theorem dXM_join_105 : decode cXM_join 105 = .ok (.getfield 88, 3) := by decide +kernel
theorem dXM_join_108 : decode cXM_join 108 = .ok (.iload_n 1, 1) := by decide +kernel
theorem dXM_join_109 : decode cXM_join 109 = .ok (.isub, 1) := by decide +kernel
theorem dXM_join_110 : decode cXM_join 110 = .ok (.iconst 1, 1) := by decide +kernel
theorem dXM_join_111 : decode cXM_join 111 = .ok (.iadd, 1) := by decide +kernel
theorem dXM_join_112 : decode cXM_join 112 = .ok (.putfield 88, 3) := by decide +kernel
theorem dXM_join_115 : decode cXM_join 115 = .ok (.aload_n 0, 1) := by decide +kernel
theorem dXM_join_116 : decode cXM_join 116 = .ok (.getfield 22, 3) := by decide +kernel
theorem dXM_join_119 : decode cXM_join 119 = .ok (.aload_n 0, 1) := by decide +kernel
theorem dXM_join_120 : decode cXM_join 120 = .ok (.getfield 88, 3) := by decide +kernel
theorem dXM_join_123 : decode cXM_join 123 = .ok (.iconst 1, 1) := by decide +kernel
theorem dXM_join_124 : decode cXM_join 124 = .ok (.isub, 1) := by decide +kernel
theorem dXM_join_125 : decode cXM_join 125 = .ok (.aload_n 0, 1) := by decide +kernel
theorem dXM_join_126 : decode cXM_join 126 = .ok (.getfield 82, 3) := by decide +kernel
theorem dXM_join_129 : decode cXM_join 129 = .ok (.iastore, 1) := by decide +kernel
theorem dXM_join_130 : decode cXM_join 130 = .ok (.aload_n 0, 1) := by decide +kernel
theorem dXM_join_131 : decode cXM_join 131 = .ok (.getfield 25, 3) := by decide +kernel
theorem dXM_join_134 : decode cXM_join 134 = .ok (.aload_n 0, 1) := by decide +kernel
theorem dXM_join_135 : decode cXM_join 135 = .ok (.getfield 88, 3) := by decide +kernel
theorem dXM_join_138 : decode cXM_join 138 = .ok (.iconst 1, 1) := by decide +kernel
theorem dXM_join_139 : decode cXM_join 139 = .ok (.isub, 1) := by decide +kernel
theorem dXM_join_140 : decode cXM_join 140 = .ok (.iload_n 2, 1) := by decide +kernel
theorem dXM_join_141 : decode cXM_join 141 = .ok (.iastore, 1) := by decide +kernel
theorem dXM_join_142 : decode cXM_join 142 = .ok (.iconst 0, 1) := by decide +kernel
theorem dXM_join_143 : decode cXM_join 143 = .ok (.istore 4, 2) := by decide +kernel
theorem dXM_join_145 : decode cXM_join 145 = .ok (.iload 4, 2) := by decide +kernel
theorem dXM_join_147 : decode cXM_join 147 = .ok (.aload_n 0, 1) := by decide +kernel
theorem dXM_join_148 : decode cXM_join 148 = .ok (.getfield 85, 3) := by decide +kernel
theorem dXM_join_151 : decode cXM_join 151 = .ok (.if_icmp .ge 180, 3) := by decide +kernel
theorem dXM_join_154 : decode cXM_join 154 = .ok (.iconst 0, 1) := by decide +kernel
theorem dXM_join_155 : decode cXM_join 155 = .ok (.istore 5, 2) := by decide +kernel
theorem dXM_join_157 : decode cXM_join 157 = .ok (.iload 5, 2) := by decide +kernel
theorem dXM_join_159 : decode cXM_join 159 = .ok (.aload_n 0, 1) := by decide +kernel
theorem dXM_join_160 : decode cXM_join 160 = .ok (.getfield 85, 3) := by decide +kernel
theorem dXM_join_163 : decode cXM_join 163 = .ok (.if_icmp .ge 162, 3) := by decide +kernel
theorem dXM_join_166 : decode cXM_join 166 = .ok (.aload_n 0, 1) := by decide +kernel
theorem dXM_join_167 : decode cXM_join 167 = .ok (.getfield 19, 3) := by decide +kernel
theorem dXM_join_170 : decode cXM_join 170 = .ok (.iload 4, 2) := by decide +kernel
theorem dXM_join_172 : decode cXM_join 172 = .ok (.iaload, 1) := by decide +kernel
theorem dXM_join_173 : decode cXM_join 173 = .ok (.aload_n 0, 1) := by decide +kernel
theorem dXM_join_174 : decode cXM_join 174 = .ok (.getfield 82, 3) := by decide +kernel
theorem dXM_join_177 : decode cXM_join 177 = .ok (.if_icmp .ne 148, 3) := by decide +kernel
theorem dXM_join_180 : decode cXM_join 180 = .ok (.iload 5, 2) := by decide +kernel
theorem dXM_join_182 : decode cXM_join 182 = .ok (.iload 4, 2) := by decide +kernel
theorem dXM_join_184 : decode cXM_join 184 = .ok (.if_icmp .eq 45, 3) := by decide +kernel
theorem dXM_join_187 : decode cXM_join 187 = .ok (.aload_n 0, 1) := by decide +kernel
theorem dXM_join_188 : decode cXM_join 188 = .ok (.getfield 19, 3) := by decide +kernel
theorem dXM_join_191 : decode cXM_join 191 = .ok (.iload 5, 2) := by decide +kernel
theorem dXM_join_193 : decode cXM_join 193 = .ok (.iaload, 1) := by decide +kernel
theorem dXM_join_194 : decode cXM_join 194 = .ok (.aload_n 0, 1) := by decide +kernel
theorem dXM_join_195 : decode cXM_join 195 = .ok (.getfield 82, 3) := by decide +kernel
theorem dXM_join_198 : decode cXM_join 198 = .ok (.if_icmp .ne 31, 3) := by decide +kernel
theorem dXM_join_201 : decode cXM_join 201 = .ok (.aload_n 0, 1) := by decide +kernel
theorem dXM_join_202 : decode cXM_join 202 = .ok (.getfield 16, 3) := by decide +kernel
theorem dXM_join_205 : decode cXM_join 205 = .ok (.bipush 7, 2) := by decide +kernel
theorem dXM_join_207 : decode cXM_join 207 = .ok (.iload 4, 2) := by decide +kernel
theorem dXM_join_209 : decode cXM_join 209 = .ok (.imul, 1) := by decide +kernel
theorem dXM_join_210 : decode cXM_join 210 = .ok (.aload_n 0, 1) := by decide +kernel
theorem dXM_join_211 : decode cXM_join 211 = .ok (.getfield 16, 3) := by decide +kernel
theorem dXM_join_214 : decode cXM_join 214 = .ok (.bipush 7, 2) := by decide +kernel
theorem dXM_join_216 : decode cXM_join 216 = .ok (.iload 5, 2) := by decide +kernel
theorem dXM_join_218 : decode cXM_join 218 = .ok (.imul, 1) := by decide +kernel
theorem dXM_join_219 : decode cXM_join 219 = .ok (.invokestatic 45, 3) := by decide +kernel
theorem dXM_join_222 : decode cXM_join 222 = .ok (.ifCond .eq 7, 3) := by decide +kernel
theorem dXM_join_225 : decode cXM_join 225 = .ok (.iconst 1, 1) := by decide +kernel
theorem dXM_join_226 : decode cXM_join 226 = .ok (.goto 4, 3) := by decide +kernel
theorem dXM_join_229 : decode cXM_join 229 = .ok (.iconst 0, 1) := by decide +kernel
theorem dXM_join_230 : decode cXM_join 230 = .ok (.istore 6, 2) := by decide +kernel
theorem dXM_join_232 : decode cXM_join 232 = .ok (.iload 6, 2) := by decide +kernel
theorem dXM_join_234 : decode cXM_join 234 = .ok (.ifCond .eq 62, 3) := by decide +kernel
theorem dXM_join_237 : decode cXM_join 237 = .ok (.aload_n 0, 1) := by decide +kernel
theorem dXM_join_238 : decode cXM_join 238 = .ok (.getfield 16, 3) := by decide +kernel
theorem dXM_join_241 : decode cXM_join 241 = .ok (.bipush 7, 2) := by decide +kernel
theorem dXM_join_243 : decode cXM_join 243 = .ok (.iload 5, 2) := by decide +kernel
theorem dXM_join_245 : decode cXM_join 245 = .ok (.imul, 1) := by decide +kernel
theorem dXM_join_246 : decode cXM_join 246 = .ok (.aload_n 0, 1) := by decide +kernel
theorem dXM_join_247 : decode cXM_join 247 = .ok (.getfield 16, 3) := by decide +kernel
theorem dXM_join_250 : decode cXM_join 250 = .ok (.bipush 7, 2) := by decide +kernel
theorem dXM_join_252 : decode cXM_join 252 = .ok (.iload 4, 2) := by decide +kernel
theorem dXM_join_254 : decode cXM_join 254 = .ok (.imul, 1) := by decide +kernel
theorem dXM_join_255 : decode cXM_join 255 = .ok (.invokestatic 49, 3) := by decide +kernel
theorem dXM_join_258 : decode cXM_join 258 = .ok (.ifCond .ne 34, 3) := by decide +kernel
theorem dXM_join_261 : decode cXM_join 261 = .ok (.iload 5, 2) := by decide +kernel
theorem dXM_join_263 : decode cXM_join 263 = .ok (.iload 4, 2) := by decide +kernel
theorem dXM_join_265 : decode cXM_join 265 = .ok (.if_icmp .le 31, 3) := by decide +kernel
theorem dXM_join_268 : decode cXM_join 268 = .ok (.aload_n 0, 1) := by decide +kernel
theorem dXM_join_269 : decode cXM_join 269 = .ok (.getfield 16, 3) := by decide +kernel
theorem dXM_join_272 : decode cXM_join 272 = .ok (.bipush 7, 2) := by decide +kernel
theorem dXM_join_274 : decode cXM_join 274 = .ok (.iload 4, 2) := by decide +kernel
theorem dXM_join_276 : decode cXM_join 276 = .ok (.imul, 1) := by decide +kernel
theorem dXM_join_277 : decode cXM_join 277 = .ok (.aload_n 0, 1) := by decide +kernel
theorem dXM_join_278 : decode cXM_join 278 = .ok (.getfield 16, 3) := by decide +kernel
theorem dXM_join_281 : decode cXM_join 281 = .ok (.bipush 7, 2) := by decide +kernel
theorem dXM_join_283 : decode cXM_join 283 = .ok (.iload 5, 2) := by decide +kernel
theorem dXM_join_285 : decode cXM_join 285 = .ok (.imul, 1) := by decide +kernel
theorem dXM_join_286 : decode cXM_join 286 = .ok (.invokestatic 49, 3) := by decide +kernel
theorem dXM_join_289 : decode cXM_join 289 = .ok (.ifCond .ne 7, 3) := by decide +kernel
theorem dXM_join_292 : decode cXM_join 292 = .ok (.iconst 1, 1) := by decide +kernel
theorem dXM_join_293 : decode cXM_join 293 = .ok (.goto 4, 3) := by decide +kernel
theorem dXM_join_296 : decode cXM_join 296 = .ok (.iconst 0, 1) := by decide +kernel
theorem dXM_join_297 : decode cXM_join 297 = .ok (.istore 7, 2) := by decide +kernel
theorem dXM_join_299 : decode cXM_join 299 = .ok (.aload_n 0, 1) := by decide +kernel
theorem dXM_join_300 : decode cXM_join 300 = .ok (.getfield 19, 3) := by decide +kernel
theorem dXM_join_303 : decode cXM_join 303 = .ok (.iload 4, 2) := by decide +kernel
theorem dXM_join_305 : decode cXM_join 305 = .ok (.iload 7, 2) := by decide +kernel
theorem dXM_join_307 : decode cXM_join 307 = .ok (.ifCond .eq 7, 3) := by decide +kernel
theorem dXM_join_310 : decode cXM_join 310 = .ok (.iconst 0, 1) := by decide +kernel
theorem dXM_join_311 : decode cXM_join 311 = .ok (.goto 7, 3) := by decide +kernel
theorem dXM_join_314 : decode cXM_join 314 = .ok (.aload_n 0, 1) := by decide +kernel
theorem dXM_join_315 : decode cXM_join 315 = .ok (.getfield 82, 3) := by decide +kernel
theorem dXM_join_318 : decode cXM_join 318 = .ok (.iastore, 1) := by decide +kernel
theorem dXM_join_319 : decode cXM_join 319 = .ok (.iinc 5 1, 3) := by decide +kernel
theorem dXM_join_322 : decode cXM_join 322 = .ok (.goto (-165), 3) := by decide +kernel
theorem dXM_join_325 : decode cXM_join 325 = .ok (.iinc 4 1, 3) := by decide +kernel
theorem dXM_join_328 : decode cXM_join 328 = .ok (.goto (-183), 3) := by decide +kernel
theorem dXM_join_331 : decode cXM_join 331 = .ok (.iconst 0, 1) := by decide +kernel
theorem dXM_join_332 : decode cXM_join 332 = .ok (.istore 4, 2) := by decide +kernel
theorem dXM_join_334 : decode cXM_join 334 = .ok (.iload 4, 2) := by decide +kernel
theorem dXM_join_336 : decode cXM_join 336 = .ok (.aload_n 0, 1) := by decide +kernel
theorem dXM_join_337 : decode cXM_join 337 = .ok (.getfield 85, 3) := by decide +kernel
theorem dXM_join_340 : decode cXM_join 340 = .ok (.if_icmp .ge 146, 3) := by decide +kernel
theorem dXM_join_343 : decode cXM_join 343 = .ok (.iconst 0, 1) := by decide +kernel
theorem dXM_join_344 : decode cXM_join 344 = .ok (.istore 5, 2) := by decide +kernel
theorem dXM_join_346 : decode cXM_join 346 = .ok (.iload 5, 2) := by decide +kernel
theorem dXM_join_348 : decode cXM_join 348 = .ok (.aload_n 0, 1) := by decide +kernel
theorem dXM_join_349 : decode cXM_join 349 = .ok (.getfield 85, 3) := by decide +kernel
theorem dXM_join_352 : decode cXM_join 352 = .ok (.if_icmp .ge 128, 3) := by decide +kernel
theorem dXM_join_355 : decode cXM_join 355 = .ok (.aload_n 0, 1) := by decide +kernel
theorem dXM_join_356 : decode cXM_join 356 = .ok (.getfield 19, 3) := by decide +kernel
theorem dXM_join_359 : decode cXM_join 359 = .ok (.iload 4, 2) := by decide +kernel
theorem dXM_join_361 : decode cXM_join 361 = .ok (.iaload, 1) := by decide +kernel
theorem dXM_join_362 : decode cXM_join 362 = .ok (.aload_n 0, 1) := by decide +kernel
theorem dXM_join_363 : decode cXM_join 363 = .ok (.getfield 82, 3) := by decide +kernel
theorem dXM_join_366 : decode cXM_join 366 = .ok (.if_icmp .ne 114, 3) := by decide +kernel
theorem dXM_join_369 : decode cXM_join 369 = .ok (.aload_n 0, 1) := by decide +kernel
theorem dXM_join_370 : decode cXM_join 370 = .ok (.getfield 16, 3) := by decide +kernel
theorem dXM_join_373 : decode cXM_join 373 = .ok (.bipush 7, 2) := by decide +kernel
theorem dXM_join_375 : decode cXM_join 375 = .ok (.iload 4, 2) := by decide +kernel
theorem dXM_join_377 : decode cXM_join 377 = .ok (.imul, 1) := by decide +kernel
theorem dXM_join_378 : decode cXM_join 378 = .ok (.invokestatic 38, 3) := by decide +kernel
theorem dXM_join_381 : decode cXM_join 381 = .ok (.ifCond .eq 99, 3) := by decide +kernel
theorem dXM_join_384 : decode cXM_join 384 = .ok (.bipush 7, 2) := by decide +kernel
theorem dXM_join_386 : decode cXM_join 386 = .ok (.iload 4, 2) := by decide +kernel
theorem dXM_join_388 : decode cXM_join 388 = .ok (.imul, 1) := by decide +kernel
theorem dXM_join_389 : decode cXM_join 389 = .ok (.istore 6, 2) := by decide +kernel
theorem dXM_join_391 : decode cXM_join 391 = .ok (.aload_n 0, 1) := by decide +kernel
theorem dXM_join_392 : decode cXM_join 392 = .ok (.getfield 19, 3) := by decide +kernel
theorem dXM_join_395 : decode cXM_join 395 = .ok (.iload 5, 2) := by decide +kernel
theorem dXM_join_397 : decode cXM_join 397 = .ok (.iaload, 1) := by decide +kernel
theorem dXM_join_398 : decode cXM_join 398 = .ok (.aload_n 0, 1) := by decide +kernel
theorem dXM_join_399 : decode cXM_join 399 = .ok (.getfield 82, 3) := by decide +kernel
theorem dXM_join_402 : decode cXM_join 402 = .ok (.if_icmp .ne 49, 3) := by decide +kernel
theorem dXM_join_405 : decode cXM_join 405 = .ok (.aload_n 0, 1) := by decide +kernel
theorem dXM_join_406 : decode cXM_join 406 = .ok (.getfield 16, 3) := by decide +kernel
theorem dXM_join_409 : decode cXM_join 409 = .ok (.bipush 7, 2) := by decide +kernel
theorem dXM_join_411 : decode cXM_join 411 = .ok (.iload 5, 2) := by decide +kernel
theorem dXM_join_413 : decode cXM_join 413 = .ok (.imul, 1) := by decide +kernel
theorem dXM_join_414 : decode cXM_join 414 = .ok (.aload_n 0, 1) := by decide +kernel
theorem dXM_join_415 : decode cXM_join 415 = .ok (.getfield 16, 3) := by decide +kernel
theorem dXM_join_418 : decode cXM_join 418 = .ok (.iload 6, 2) := by decide +kernel
theorem dXM_join_420 : decode cXM_join 420 = .ok (.iconst 1, 1) := by decide +kernel
theorem dXM_join_421 : decode cXM_join 421 = .ok (.iadd, 1) := by decide +kernel
theorem dXM_join_422 : decode cXM_join 422 = .ok (.iaload, 1) := by decide +kernel
theorem dXM_join_423 : decode cXM_join 423 = .ok (.aload_n 0, 1) := by decide +kernel
theorem dXM_join_424 : decode cXM_join 424 = .ok (.getfield 16, 3) := by decide +kernel
theorem dXM_join_427 : decode cXM_join 427 = .ok (.iload 6, 2) := by decide +kernel
theorem dXM_join_429 : decode cXM_join 429 = .ok (.iconst 2, 1) := by decide +kernel
theorem dXM_join_430 : decode cXM_join 430 = .ok (.iadd, 1) := by decide +kernel
theorem dXM_join_431 : decode cXM_join 431 = .ok (.iaload, 1) := by decide +kernel
theorem dXM_join_432 : decode cXM_join 432 = .ok (.aload_n 0, 1) := by decide +kernel
theorem dXM_join_433 : decode cXM_join 433 = .ok (.getfield 16, 3) := by decide +kernel
theorem dXM_join_436 : decode cXM_join 436 = .ok (.iload 6, 2) := by decide +kernel
theorem dXM_join_438 : decode cXM_join 438 = .ok (.iconst 4, 1) := by decide +kernel
theorem dXM_join_439 : decode cXM_join 439 = .ok (.iadd, 1) := by decide +kernel
theorem dXM_join_440 : decode cXM_join 440 = .ok (.iaload, 1) := by decide +kernel
theorem dXM_join_441 : decode cXM_join 441 = .ok (.invokestatic 98, 3) := by decide +kernel
theorem dXM_join_444 : decode cXM_join 444 = .ok (.ifCond .eq 7, 3) := by decide +kernel
theorem dXM_join_447 : decode cXM_join 447 = .ok (.iconst 1, 1) := by decide +kernel
theorem dXM_join_448 : decode cXM_join 448 = .ok (.goto 4, 3) := by decide +kernel
theorem dXM_join_451 : decode cXM_join 451 = .ok (.iconst 0, 1) := by decide +kernel
theorem dXM_join_452 : decode cXM_join 452 = .ok (.istore 7, 2) := by decide +kernel
theorem dXM_join_454 : decode cXM_join 454 = .ok (.aload_n 0, 1) := by decide +kernel
theorem dXM_join_455 : decode cXM_join 455 = .ok (.getfield 19, 3) := by decide +kernel
theorem dXM_join_458 : decode cXM_join 458 = .ok (.iload 4, 2) := by decide +kernel
theorem dXM_join_460 : decode cXM_join 460 = .ok (.iload 7, 2) := by decide +kernel
theorem dXM_join_462 : decode cXM_join 462 = .ok (.ifCond .eq 7, 3) := by decide +kernel
theorem dXM_join_465 : decode cXM_join 465 = .ok (.iconst 0, 1) := by decide +kernel
theorem dXM_join_466 : decode cXM_join 466 = .ok (.goto 7, 3) := by decide +kernel
theorem dXM_join_469 : decode cXM_join 469 = .ok (.aload_n 0, 1) := by decide +kernel
theorem dXM_join_470 : decode cXM_join 470 = .ok (.getfield 82, 3) := by decide +kernel
theorem dXM_join_473 : decode cXM_join 473 = .ok (.iastore, 1) := by decide +kernel
theorem dXM_join_474 : decode cXM_join 474 = .ok (.iinc 5 1, 3) := by decide +kernel
theorem dXM_join_477 : decode cXM_join 477 = .ok (.goto (-131), 3) := by decide +kernel
theorem dXM_join_480 : decode cXM_join 480 = .ok (.iinc 4 1, 3) := by decide +kernel
theorem dXM_join_483 : decode cXM_join 483 = .ok (.goto (-149), 3) := by decide +kernel
theorem dXM_join_486 : decode cXM_join 486 = .ok (.iconst 0, 1) := by decide +kernel
theorem dXM_join_487 : decode cXM_join 487 = .ok (.istore 4, 2) := by decide +kernel
theorem dXM_join_489 : decode cXM_join 489 = .ok (.iload 4, 2) := by decide +kernel
theorem dXM_join_491 : decode cXM_join 491 = .ok (.aload_n 0, 1) := by decide +kernel
theorem dXM_join_492 : decode cXM_join 492 = .ok (.getfield 85, 3) := by decide +kernel
theorem dXM_join_495 : decode cXM_join 495 = .ok (.if_icmp .ge 91, 3) := by decide +kernel
theorem dXM_join_498 : decode cXM_join 498 = .ok (.iload_n 3, 1) := by decide +kernel
theorem dXM_join_499 : decode cXM_join 499 = .ok (.ifCond .eq 87, 3) := by decide +kernel
theorem dXM_join_502 : decode cXM_join 502 = .ok (.aload_n 0, 1) := by decide +kernel
theorem dXM_join_503 : decode cXM_join 503 = .ok (.getfield 16, 3) := by decide +kernel
theorem dXM_join_506 : decode cXM_join 506 = .ok (.bipush 7, 2) := by decide +kernel
theorem dXM_join_508 : decode cXM_join 508 = .ok (.iload 4, 2) := by decide +kernel
theorem dXM_join_510 : decode cXM_join 510 = .ok (.imul, 1) := by decide +kernel
theorem dXM_join_511 : decode cXM_join 511 = .ok (.bipush 6, 2) := by decide +kernel
theorem dXM_join_513 : decode cXM_join 513 = .ok (.iadd, 1) := by decide +kernel
theorem dXM_join_514 : decode cXM_join 514 = .ok (.iaload, 1) := by decide +kernel
theorem dXM_join_515 : decode cXM_join 515 = .ok (.istore 5, 2) := by decide +kernel
theorem dXM_join_517 : decode cXM_join 517 = .ok (.iload 5, 2) := by decide +kernel
theorem dXM_join_519 : decode cXM_join 519 = .ok (.ifCond .lt 21, 3) := by decide +kernel
theorem dXM_join_522 : decode cXM_join 522 = .ok (.iload 5, 2) := by decide +kernel
theorem dXM_join_524 : decode cXM_join 524 = .ok (.aload_n 0, 1) := by decide +kernel
theorem dXM_join_525 : decode cXM_join 525 = .ok (.getfield 35, 3) := by decide +kernel
theorem dXM_join_528 : decode cXM_join 528 = .ok (.iadd, 1) := by decide +kernel
theorem dXM_join_529 : decode cXM_join 529 = .ok (.aload_n 0, 1) := by decide +kernel
theorem dXM_join_530 : decode cXM_join 530 = .ok (.getfield 75, 3) := by decide +kernel
theorem dXM_join_533 : decode cXM_join 533 = .ok (.if_icmp .gt 7, 3) := by decide +kernel
theorem dXM_join_536 : decode cXM_join 536 = .ok (.iconst 1, 1) := by decide +kernel
theorem dXM_join_537 : decode cXM_join 537 = .ok (.goto 4, 3) := by decide +kernel
theorem dXM_join_540 : decode cXM_join 540 = .ok (.iconst 0, 1) := by decide +kernel
theorem dXM_join_541 : decode cXM_join 541 = .ok (.istore 6, 2) := by decide +kernel
theorem dXM_join_543 : decode cXM_join 543 = .ok (.aload_n 0, 1) := by decide +kernel
theorem dXM_join_544 : decode cXM_join 544 = .ok (.getfield 19, 3) := by decide +kernel
theorem dXM_join_547 : decode cXM_join 547 = .ok (.iload 4, 2) := by decide +kernel
theorem dXM_join_549 : decode cXM_join 549 = .ok (.aload_n 0, 1) := by decide +kernel
theorem dXM_join_550 : decode cXM_join 550 = .ok (.getfield 19, 3) := by decide +kernel
theorem dXM_join_553 : decode cXM_join 553 = .ok (.iload 4, 2) := by decide +kernel
theorem dXM_join_555 : decode cXM_join 555 = .ok (.iaload, 1) := by decide +kernel
theorem dXM_join_556 : decode cXM_join 556 = .ok (.aload_n 0, 1) := by decide +kernel
theorem dXM_join_557 : decode cXM_join 557 = .ok (.getfield 82, 3) := by decide +kernel
theorem dXM_join_560 : decode cXM_join 560 = .ok (.if_icmp .ne 12, 3) := by decide +kernel
theorem dXM_join_563 : decode cXM_join 563 = .ok (.iload 6, 2) := by decide +kernel
theorem dXM_join_565 : decode cXM_join 565 = .ok (.ifCond .eq 7, 3) := by decide +kernel
theorem dXM_join_568 : decode cXM_join 568 = .ok (.iconst 0, 1) := by decide +kernel
theorem dXM_join_569 : decode cXM_join 569 = .ok (.goto 10, 3) := by decide +kernel
theorem dXM_join_572 : decode cXM_join 572 = .ok (.aload_n 0, 1) := by decide +kernel
theorem dXM_join_573 : decode cXM_join 573 = .ok (.getfield 19, 3) := by decide +kernel
theorem dXM_join_576 : decode cXM_join 576 = .ok (.iload 4, 2) := by decide +kernel
theorem dXM_join_578 : decode cXM_join 578 = .ok (.iaload, 1) := by decide +kernel
theorem dXM_join_579 : decode cXM_join 579 = .ok (.iastore, 1) := by decide +kernel
theorem dXM_join_580 : decode cXM_join 580 = .ok (.iinc 4 1, 3) := by decide +kernel
theorem dXM_join_583 : decode cXM_join 583 = .ok (.goto (-94), 3) := by decide +kernel
theorem dXM_join_586 : decode cXM_join 586 = .ok (.return_, 1) := by decide +kernel
theorem dXM_covers_0 : decode cXM_covers 0 = .ok (.aload_n 0, 1) := by decide +kernel
theorem dXM_covers_1 : decode cXM_covers 1 = .ok (.iload_n 1, 1) := by decide +kernel
theorem dXM_covers_2 : decode cXM_covers 2 = .ok (.iaload, 1) := by decide +kernel
theorem dXM_covers_3 : decode cXM_covers 3 = .ok (.iconst 2, 1) := by decide +kernel
theorem dXM_covers_4 : decode cXM_covers 4 = .ok (.if_icmp .ne 44, 3) := by decide +kernel
theorem dXM_covers_7 : decode cXM_covers 7 = .ok (.aload_n 0, 1) := by decide +kernel
theorem dXM_covers_8 : decode cXM_covers 8 = .ok (.iload_n 1, 1) := by decide +kernel
theorem dXM_covers_9 : decode cXM_covers 9 = .ok (.iconst 1, 1) := by decide +kernel
theorem dXM_covers_10 : decode cXM_covers 10 = .ok (.iadd, 1) := by decide +kernel
theorem dXM_covers_11 : decode cXM_covers 11 = .ok (.iaload, 1) := by decide +kernel
theorem dXM_covers_12 : decode cXM_covers 12 = .ok (.iload_n 2, 1) := by decide +kernel
theorem dXM_covers_13 : decode cXM_covers 13 = .ok (.if_icmp .ne 35, 3) := by decide +kernel
theorem dXM_covers_16 : decode cXM_covers 16 = .ok (.aload_n 0, 1) := by decide +kernel
theorem dXM_covers_17 : decode cXM_covers 17 = .ok (.iload_n 1, 1) := by decide +kernel
theorem dXM_covers_18 : decode cXM_covers 18 = .ok (.iconst 2, 1) := by decide +kernel
theorem dXM_covers_19 : decode cXM_covers 19 = .ok (.iadd, 1) := by decide +kernel
theorem dXM_covers_20 : decode cXM_covers 20 = .ok (.iaload, 1) := by decide +kernel
theorem dXM_covers_21 : decode cXM_covers 21 = .ok (.iload_n 3, 1) := by decide +kernel
theorem dXM_covers_22 : decode cXM_covers 22 = .ok (.if_icmp .gt 26, 3) := by decide +kernel
theorem dXM_covers_25 : decode cXM_covers 25 = .ok (.iload_n 3, 1) := by decide +kernel
theorem dXM_covers_26 : decode cXM_covers 26 = .ok (.aload_n 0, 1) := by decide +kernel
theorem dXM_covers_27 : decode cXM_covers 27 = .ok (.iload_n 1, 1) := by decide +kernel
theorem dXM_covers_28 : decode cXM_covers 28 = .ok (.iconst 3, 1) := by decide +kernel
theorem dXM_covers_29 : decode cXM_covers 29 = .ok (.iadd, 1) := by decide +kernel
theorem dXM_covers_30 : decode cXM_covers 30 = .ok (.iaload, 1) := by decide +kernel
theorem dXM_covers_31 : decode cXM_covers 31 = .ok (.if_icmp .gt 17, 3) := by decide +kernel
theorem dXM_covers_34 : decode cXM_covers 34 = .ok (.iload 4, 2) := by decide +kernel
theorem dXM_covers_36 : decode cXM_covers 36 = .ok (.aload_n 0, 1) := by decide +kernel
theorem dXM_covers_37 : decode cXM_covers 37 = .ok (.iload_n 1, 1) := by decide +kernel
theorem dXM_covers_38 : decode cXM_covers 38 = .ok (.iconst 4, 1) := by decide +kernel
theorem dXM_covers_39 : decode cXM_covers 39 = .ok (.iadd, 1) := by decide +kernel
theorem dXM_covers_40 : decode cXM_covers 40 = .ok (.iaload, 1) := by decide +kernel
theorem dXM_covers_41 : decode cXM_covers 41 = .ok (.if_icmp .gt 7, 3) := by decide +kernel
theorem dXM_covers_44 : decode cXM_covers 44 = .ok (.iconst 1, 1) := by decide +kernel
theorem dXM_covers_45 : decode cXM_covers 45 = .ok (.goto 4, 3) := by decide +kernel
theorem dXM_covers_48 : decode cXM_covers 48 = .ok (.iconst 0, 1) := by decide +kernel
theorem dXM_covers_49 : decode cXM_covers 49 = .ok (.ireturn, 1) := by decide +kernel
theorem dXM_delete_0 : decode cXM_delete 0 = .ok (.iload_n 1, 1) := by decide +kernel
theorem dXM_delete_1 : decode cXM_delete 1 = .ok (.iload_n 2, 1) := by decide +kernel
theorem dXM_delete_2 : decode cXM_delete 2 = .ok (.invokestatic 67, 3) := by decide +kernel
theorem dXM_delete_5 : decode cXM_delete 5 = .ok (.ifCond .eq 31, 3) := by decide +kernel
theorem dXM_delete_8 : decode cXM_delete 8 = .ok (.iload_n 3, 1) := by decide +kernel
theorem dXM_delete_9 : decode cXM_delete 9 = .ok (.invokestatic 71, 3) := by decide +kernel
theorem dXM_delete_12 : decode cXM_delete 12 = .ok (.ifCond .eq 24, 3) := by decide +kernel
theorem dXM_delete_15 : decode cXM_delete 15 = .ok (.aload_n 0, 1) := by decide +kernel
theorem dXM_delete_16 : decode cXM_delete 16 = .ok (.iconst 1, 1) := by decide +kernel
theorem dXM_delete_17 : decode cXM_delete 17 = .ok (.iload_n 1, 1) := by decide +kernel
theorem dXM_delete_18 : decode cXM_delete 18 = .ok (.iload_n 2, 1) := by decide +kernel
theorem dXM_delete_19 : decode cXM_delete 19 = .ok (.iload_n 2, 1) := by decide +kernel
theorem dXM_delete_20 : decode cXM_delete 20 = .ok (.iload_n 3, 1) := by decide +kernel
theorem dXM_delete_21 : decode cXM_delete 21 = .ok (.iconst 0, 1) := by decide +kernel
theorem dXM_delete_22 : decode cXM_delete 22 = .ok (.aload_n 0, 1) := by decide +kernel
theorem dXM_delete_23 : decode cXM_delete 23 = .ok (.getfield 75, 3) := by decide +kernel
theorem dXM_delete_26 : decode cXM_delete 26 = .ok (.invokevirtual 78, 3) := by decide +kernel
theorem dXM_delete_29 : decode cXM_delete 29 = .ok (.ifCond .eq 7, 3) := by decide +kernel
theorem dXM_delete_32 : decode cXM_delete 32 = .ok (.iconst 1, 1) := by decide +kernel
theorem dXM_delete_33 : decode cXM_delete 33 = .ok (.goto 4, 3) := by decide +kernel
theorem dXM_delete_36 : decode cXM_delete 36 = .ok (.iconst 0, 1) := by decide +kernel
theorem dXM_delete_37 : decode cXM_delete 37 = .ok (.ireturn, 1) := by decide +kernel
theorem dXM_wipe_0 : decode cXM_wipe 0 = .ok (.iload_n 1, 1) := by decide +kernel
theorem dXM_wipe_1 : decode cXM_wipe 1 = .ok (.iload_n 2, 1) := by decide +kernel
theorem dXM_wipe_2 : decode cXM_wipe 2 = .ok (.invokestatic 67, 3) := by decide +kernel
theorem dXM_wipe_5 : decode cXM_wipe 5 = .ok (.ifCond .eq 46, 3) := by decide +kernel
theorem dXM_wipe_8 : decode cXM_wipe 8 = .ok (.iload_n 1, 1) := by decide +kernel
theorem dXM_wipe_9 : decode cXM_wipe 9 = .ok (.iload_n 3, 1) := by decide +kernel
theorem dXM_wipe_10 : decode cXM_wipe 10 = .ok (.invokestatic 67, 3) := by decide +kernel
theorem dXM_wipe_13 : decode cXM_wipe 13 = .ok (.ifCond .eq 38, 3) := by decide +kernel
theorem dXM_wipe_16 : decode cXM_wipe 16 = .ok (.iload_n 2, 1) := by decide +kernel
theorem dXM_wipe_17 : decode cXM_wipe 17 = .ok (.iload_n 3, 1) := by decide +kernel
theorem dXM_wipe_18 : decode cXM_wipe 18 = .ok (.if_icmp .gt 33, 3) := by decide +kernel
theorem dXM_wipe_21 : decode cXM_wipe 21 = .ok (.iload 4, 2) := by decide +kernel
theorem dXM_wipe_23 : decode cXM_wipe 23 = .ok (.invokestatic 71, 3) := by decide +kernel
theorem dXM_wipe_26 : decode cXM_wipe 26 = .ok (.ifCond .eq 25, 3) := by decide +kernel
theorem dXM_wipe_29 : decode cXM_wipe 29 = .ok (.aload_n 0, 1) := by decide +kernel
theorem dXM_wipe_30 : decode cXM_wipe 30 = .ok (.iconst 2, 1) := by decide +kernel
theorem dXM_wipe_31 : decode cXM_wipe 31 = .ok (.iload_n 1, 1) := by decide +kernel
theorem dXM_wipe_32 : decode cXM_wipe 32 = .ok (.iload_n 2, 1) := by decide +kernel
theorem dXM_wipe_33 : decode cXM_wipe 33 = .ok (.iload_n 3, 1) := by decide +kernel
theorem dXM_wipe_34 : decode cXM_wipe 34 = .ok (.iload 4, 2) := by decide +kernel
theorem dXM_wipe_36 : decode cXM_wipe 36 = .ok (.iconst 0, 1) := by decide +kernel
theorem dXM_wipe_37 : decode cXM_wipe 37 = .ok (.aload_n 0, 1) := by decide +kernel
theorem dXM_wipe_38 : decode cXM_wipe 38 = .ok (.getfield 75, 3) := by decide +kernel
theorem dXM_wipe_41 : decode cXM_wipe 41 = .ok (.invokevirtual 78, 3) := by decide +kernel
theorem dXM_wipe_44 : decode cXM_wipe 44 = .ok (.ifCond .eq 7, 3) := by decide +kernel
theorem dXM_wipe_47 : decode cXM_wipe 47 = .ok (.iconst 1, 1) := by decide +kernel
theorem dXM_wipe_48 : decode cXM_wipe 48 = .ok (.goto 4, 3) := by decide +kernel
theorem dXM_wipe_51 : decode cXM_wipe 51 = .ok (.iconst 0, 1) := by decide +kernel
theorem dXM_wipe_52 : decode cXM_wipe 52 = .ok (.ireturn, 1) := by decide +kernel
theorem dXM_flush_0 : decode cXM_flush 0 = .ok (.aload_n 0, 1) := by decide +kernel
theorem dXM_flush_1 : decode cXM_flush 1 = .ok (.invokevirtual 63, 3) := by decide +kernel
theorem dXM_flush_4 : decode cXM_flush 4 = .ok (.ireturn, 1) := by decide +kernel
theorem dXM_merge_0 : decode cXM_merge 0 = .ok (.aload_n 0, 1) := by decide +kernel
theorem dXM_merge_1 : decode cXM_merge 1 = .ok (.getfield 88, 3) := by decide +kernel
theorem dXM_merge_4 : decode cXM_merge 4 = .ok (.ifCond .ne 5, 3) := by decide +kernel
theorem dXM_merge_7 : decode cXM_merge 7 = .ok (.iconst 0, 1) := by decide +kernel
theorem dXM_merge_8 : decode cXM_merge 8 = .ok (.ireturn, 1) := by decide +kernel
theorem dXM_merge_9 : decode cXM_merge 9 = .ok (.iconst 0, 1) := by decide +kernel
theorem dXM_merge_10 : decode cXM_merge 10 = .ok (.istore_n 1, 1) := by decide +kernel
theorem dXM_merge_11 : decode cXM_merge 11 = .ok (.iconst 0, 1) := by decide +kernel
theorem dXM_merge_12 : decode cXM_merge 12 = .ok (.istore_n 2, 1) := by decide +kernel
theorem dXM_merge_13 : decode cXM_merge 13 = .ok (.iload_n 2, 1) := by decide +kernel
theorem dXM_merge_14 : decode cXM_merge 14 = .ok (.aload_n 0, 1) := by decide +kernel
theorem dXM_merge_15 : decode cXM_merge 15 = .ok (.getfield 88, 3) := by decide +kernel
theorem dXM_merge_18 : decode cXM_merge 18 = .ok (.if_icmp .ge 30, 3) := by decide +kernel
theorem dXM_merge_21 : decode cXM_merge 21 = .ok (.aload_n 0, 1) := by decide +kernel
theorem dXM_merge_22 : decode cXM_merge 22 = .ok (.getfield 25, 3) := by decide +kernel
theorem dXM_merge_25 : decode cXM_merge 25 = .ok (.iload_n 2, 1) := by decide +kernel
theorem dXM_merge_26 : decode cXM_merge 26 = .ok (.iaload, 1) := by decide +kernel
theorem dXM_merge_27 : decode cXM_merge 27 = .ok (.iload_n 1, 1) := by decide +kernel
theorem dXM_merge_28 : decode cXM_merge 28 = .ok (.if_icmp .le 12, 3) := by decide +kernel
theorem dXM_merge_31 : decode cXM_merge 31 = .ok (.aload_n 0, 1) := by decide +kernel
theorem dXM_merge_32 : decode cXM_merge 32 = .ok (.getfield 25, 3) := by decide +kernel
theorem dXM_merge_35 : decode cXM_merge 35 = .ok (.iload_n 2, 1) := by decide +kernel
theorem dXM_merge_36 : decode cXM_merge 36 = .ok (.iaload, 1) := by decide +kernel
theorem dXM_merge_37 : decode cXM_merge 37 = .ok (.goto 4, 3) := by decide +kernel
theorem dXM_merge_40 : decode cXM_merge 40 = .ok (.iload_n 1, 1) := by decide +kernel
theorem dXM_merge_41 : decode cXM_merge 41 = .ok (.istore_n 1, 1) := by decide +kernel
theorem dXM_merge_42 : decode cXM_merge 42 = .ok (.iinc 2 1, 3) := by decide +kernel
theorem dXM_merge_45 : decode cXM_merge 45 = .ok (.goto (-32), 3) := by decide +kernel
theorem dXM_merge_48 : decode cXM_merge 48 = .ok (.aload_n 0, 1) := by decide +kernel
theorem dXM_merge_49 : decode cXM_merge 49 = .ok (.aload_n 0, 1) := by decide +kernel
theorem dXM_merge_50 : decode cXM_merge 50 = .ok (.getfield 88, 3) := by decide +kernel
theorem dXM_merge_53 : decode cXM_merge 53 = .ok (.iload_n 1, 1) := by decide +kernel
theorem dXM_merge_54 : decode cXM_merge 54 = .ok (.invokevirtual 94, 3) := by decide +kernel
theorem dXM_merge_57 : decode cXM_merge 57 = .ok (.aload_n 0, 1) := by decide +kernel
theorem dXM_merge_58 : decode cXM_merge 58 = .ok (.iconst 0, 1) := by decide +kernel
theorem dXM_merge_59 : decode cXM_merge 59 = .ok (.iconst 0, 1) := by decide +kernel
theorem dXM_merge_60 : decode cXM_merge 60 = .ok (.invokevirtual 102, 3) := by decide +kernel
theorem dXM_merge_63 : decode cXM_merge 63 = .ok (.ireturn, 1) := by decide +kernel
theorem dXM_run_0 : decode cXM_run 0 = .ok (.iload_n 1, 1) := by decide +kernel
theorem dXM_run_1 : decode cXM_run 1 = .ok (.ifCond .lt 20, 3) := by decide +kernel
theorem dXM_run_4 : decode cXM_run 4 = .ok (.iload_n 1, 1) := by decide +kernel
theorem dXM_run_5 : decode cXM_run 5 = .ok (.aload_n 0, 1) := by decide +kernel
theorem dXM_run_6 : decode cXM_run 6 = .ok (.getfield 88, 3) := by decide +kernel
theorem dXM_run_9 : decode cXM_run 9 = .ok (.if_icmp .ge 12, 3) := by decide +kernel
theorem dXM_run_12 : decode cXM_run 12 = .ok (.iload_n 2, 1) := by decide +kernel
theorem dXM_run_13 : decode cXM_run 13 = .ok (.ifCond .lt 8, 3) := by decide +kernel
theorem dXM_run_16 : decode cXM_run 16 = .ok (.iload_n 2, 1) := by decide +kernel
theorem dXM_run_17 : decode cXM_run 17 = .ok (.iconst 2, 1) := by decide +kernel
theorem dXM_run_18 : decode cXM_run 18 = .ok (.if_icmp .le 5, 3) := by decide +kernel
theorem dXM_run_21 : decode cXM_run 21 = .ok (.iconst (-1), 1) := by decide +kernel
theorem dXM_run_22 : decode cXM_run 22 = .ok (.ireturn, 1) := by decide +kernel
theorem dXM_run_23 : decode cXM_run 23 = .ok (.iconst 0, 1) := by decide +kernel
theorem dXM_run_24 : decode cXM_run 24 = .ok (.istore_n 3, 1) := by decide +kernel
theorem dXM_run_25 : decode cXM_run 25 = .ok (.iconst 0, 1) := by decide +kernel
theorem dXM_run_26 : decode cXM_run 26 = .ok (.istore 4, 2) := by decide +kernel
theorem dXM_run_28 : decode cXM_run 28 = .ok (.iload 4, 2) := by decide +kernel
theorem dXM_run_30 : decode cXM_run 30 = .ok (.aload_n 0, 1) := by decide +kernel
theorem dXM_run_31 : decode cXM_run 31 = .ok (.getfield 85, 3) := by decide +kernel
theorem dXM_run_34 : decode cXM_run 34 = .ok (.if_icmp .ge 52, 3) := by decide +kernel
theorem dXM_run_37 : decode cXM_run 37 = .ok (.aload_n 0, 1) := by decide +kernel
theorem dXM_run_38 : decode cXM_run 38 = .ok (.getfield 19, 3) := by decide +kernel
theorem dXM_run_41 : decode cXM_run 41 = .ok (.iload 4, 2) := by decide +kernel
theorem dXM_run_43 : decode cXM_run 43 = .ok (.iaload, 1) := by decide +kernel
theorem dXM_run_44 : decode cXM_run 44 = .ok (.aload_n 0, 1) := by decide +kernel
theorem dXM_run_45 : decode cXM_run 45 = .ok (.getfield 22, 3) := by decide +kernel
theorem dXM_run_48 : decode cXM_run 48 = .ok (.iload_n 1, 1) := by decide +kernel
theorem dXM_run_49 : decode cXM_run 49 = .ok (.iaload, 1) := by decide +kernel
theorem dXM_run_50 : decode cXM_run 50 = .ok (.if_icmp .ne 28, 3) := by decide +kernel
theorem dXM_run_53 : decode cXM_run 53 = .ok (.iload_n 2, 1) := by decide +kernel
theorem dXM_run_54 : decode cXM_run 54 = .ok (.ifCond .eq 18, 3) := by decide +kernel
theorem dXM_run_57 : decode cXM_run 57 = .ok (.aload_n 0, 1) := by decide +kernel
theorem dXM_run_58 : decode cXM_run 58 = .ok (.getfield 16, 3) := by decide +kernel
theorem dXM_run_61 : decode cXM_run 61 = .ok (.bipush 7, 2) := by decide +kernel
theorem dXM_run_63 : decode cXM_run 63 = .ok (.iload 4, 2) := by decide +kernel
theorem dXM_run_65 : decode cXM_run 65 = .ok (.imul, 1) := by decide +kernel
theorem dXM_run_66 : decode cXM_run 66 = .ok (.invokestatic 38, 3) := by decide +kernel
theorem dXM_run_69 : decode cXM_run 69 = .ok (.ifCond .ne 9, 3) := by decide +kernel
theorem dXM_run_72 : decode cXM_run 72 = .ok (.iload_n 3, 1) := by decide +kernel
theorem dXM_run_73 : decode cXM_run 73 = .ok (.iconst 1, 1) := by decide +kernel
theorem dXM_run_74 : decode cXM_run 74 = .ok (.iadd, 1) := by decide +kernel
theorem dXM_run_75 : decode cXM_run 75 = .ok (.goto 4, 3) := by decide +kernel
theorem dXM_run_78 : decode cXM_run 78 = .ok (.iload_n 3, 1) := by decide +kernel
theorem dXM_run_79 : decode cXM_run 79 = .ok (.istore_n 3, 1) := by decide +kernel
theorem dXM_run_80 : decode cXM_run 80 = .ok (.iinc 4 1, 3) := by decide +kernel
theorem dXM_run_83 : decode cXM_run 83 = .ok (.goto (-55), 3) := by decide +kernel
theorem dXM_run_86 : decode cXM_run 86 = .ok (.iload_n 2, 1) := by decide +kernel
theorem dXM_run_87 : decode cXM_run 87 = .ok (.iconst 1, 1) := by decide +kernel
theorem dXM_run_88 : decode cXM_run 88 = .ok (.if_icmp .ne 12, 3) := by decide +kernel
theorem dXM_run_91 : decode cXM_run 91 = .ok (.aload_n 0, 1) := by decide +kernel
theorem dXM_run_92 : decode cXM_run 92 = .ok (.getfield 25, 3) := by decide +kernel
theorem dXM_run_95 : decode cXM_run 95 = .ok (.iload_n 1, 1) := by decide +kernel
theorem dXM_run_96 : decode cXM_run 96 = .ok (.iaload, 1) := by decide +kernel
theorem dXM_run_97 : decode cXM_run 97 = .ok (.goto 4, 3) := by decide +kernel
theorem dXM_run_100 : decode cXM_run 100 = .ok (.iload_n 3, 1) := by decide +kernel
theorem dXM_run_101 : decode cXM_run 101 = .ok (.ireturn, 1) := by decide +kernel
theorem dXM_get_0 : decode cXM_get 0 = .ok (.aload_n 0, 1) := by decide +kernel
theorem dXM_get_1 : decode cXM_get 1 = .ok (.iload_n 1, 1) := by decide +kernel
theorem dXM_get_2 : decode cXM_get 2 = .ok (.iload_n 2, 1) := by decide +kernel
theorem dXM_get_3 : decode cXM_get 3 = .ok (.invokevirtual 110, 3) := by decide +kernel
theorem dXM_get_6 : decode cXM_get 6 = .ok (.ifCond .eq 12, 3) := by decide +kernel
theorem dXM_get_9 : decode cXM_get 9 = .ok (.aload_n 0, 1) := by decide +kernel
theorem dXM_get_10 : decode cXM_get 10 = .ok (.getfield 28, 3) := by decide +kernel
theorem dXM_get_13 : decode cXM_get 13 = .ok (.iconst 5, 1) := by decide +kernel
theorem dXM_get_14 : decode cXM_get 14 = .ok (.iaload, 1) := by decide +kernel
theorem dXM_get_15 : decode cXM_get 15 = .ok (.goto 4, 3) := by decide +kernel
theorem dXM_get_18 : decode cXM_get 18 = .ok (.iconst 0, 1) := by decide +kernel
theorem dXM_get_19 : decode cXM_get 19 = .ok (.ireturn, 1) := by decide +kernel
theorem dXM_seen_0 : decode cXM_seen 0 = .ok (.iload_n 1, 1) := by decide +kernel
theorem dXM_seen_1 : decode cXM_seen 1 = .ok (.iload_n 2, 1) := by decide +kernel
theorem dXM_seen_2 : decode cXM_seen 2 = .ok (.invokestatic 67, 3) := by decide +kernel
theorem dXM_seen_5 : decode cXM_seen 5 = .ok (.ifCond .eq 12, 3) := by decide +kernel
theorem dXM_seen_8 : decode cXM_seen 8 = .ok (.aload_n 0, 1) := by decide +kernel
theorem dXM_seen_9 : decode cXM_seen 9 = .ok (.iload_n 1, 1) := by decide +kernel
theorem dXM_seen_10 : decode cXM_seen 10 = .ok (.iload_n 2, 1) := by decide +kernel
theorem dXM_seen_11 : decode cXM_seen 11 = .ok (.invokevirtual 107, 3) := by decide +kernel
theorem dXM_seen_14 : decode cXM_seen 14 = .ok (.goto 5, 3) := by decide +kernel
theorem dXM_seen_17 : decode cXM_seen 17 = .ok (.ldc 106, 2) := by decide +kernel
theorem dXM_seen_19 : decode cXM_seen 19 = .ok (.istore_n 3, 1) := by decide +kernel
theorem dXM_seen_20 : decode cXM_seen 20 = .ok (.iload_n 3, 1) := by decide +kernel
theorem dXM_seen_21 : decode cXM_seen 21 = .ok (.ldc 106, 2) := by decide +kernel
theorem dXM_seen_23 : decode cXM_seen 23 = .ok (.if_icmp .ne 5, 3) := by decide +kernel
theorem dXM_seen_26 : decode cXM_seen 26 = .ok (.iconst 0, 1) := by decide +kernel
theorem dXM_seen_27 : decode cXM_seen 27 = .ok (.ireturn, 1) := by decide +kernel
theorem dXM_seen_28 : decode cXM_seen 28 = .ok (.iload_n 3, 1) := by decide +kernel
theorem dXM_seen_29 : decode cXM_seen 29 = .ok (.ifCond .ge 10, 3) := by decide +kernel
theorem dXM_seen_32 : decode cXM_seen 32 = .ok (.aload_n 0, 1) := by decide +kernel
theorem dXM_seen_33 : decode cXM_seen 33 = .ok (.getfield 7, 3) := by decide +kernel
theorem dXM_seen_36 : decode cXM_seen 36 = .ok (.goto 7, 3) := by decide +kernel
theorem dXM_seen_39 : decode cXM_seen 39 = .ok (.aload_n 0, 1) := by decide +kernel
theorem dXM_seen_40 : decode cXM_seen 40 = .ok (.getfield 16, 3) := by decide +kernel
theorem dXM_seen_43 : decode cXM_seen 43 = .ok (.iload_n 3, 1) := by decide +kernel
theorem dXM_seen_44 : decode cXM_seen 44 = .ok (.ifCond .ge 9, 3) := by decide +kernel
theorem dXM_seen_47 : decode cXM_seen 47 = .ok (.iconst (-1), 1) := by decide +kernel
theorem dXM_seen_48 : decode cXM_seen 48 = .ok (.iload_n 3, 1) := by decide +kernel
theorem dXM_seen_49 : decode cXM_seen 49 = .ok (.isub, 1) := by decide +kernel
theorem dXM_seen_50 : decode cXM_seen 50 = .ok (.goto 4, 3) := by decide +kernel
theorem dXM_seen_53 : decode cXM_seen 53 = .ok (.iload_n 3, 1) := by decide +kernel
theorem dXM_seen_54 : decode cXM_seen 54 = .ok (.aload_n 0, 1) := by decide +kernel
theorem dXM_seen_55 : decode cXM_seen 55 = .ok (.getfield 28, 3) := by decide +kernel
theorem dXM_seen_58 : decode cXM_seen 58 = .ok (.iconst 0, 1) := by decide +kernel
theorem dXM_seen_59 : decode cXM_seen 59 = .ok (.invokestatic 52, 3) := by decide +kernel
theorem dXM_seen_62 : decode cXM_seen 62 = .ok (.aload_n 0, 1) := by decide +kernel
theorem dXM_seen_63 : decode cXM_seen 63 = .ok (.getfield 28, 3) := by decide +kernel
theorem dXM_seen_66 : decode cXM_seen 66 = .ok (.iconst 0, 1) := by decide +kernel
theorem dXM_seen_67 : decode cXM_seen 67 = .ok (.iaload, 1) := by decide +kernel
theorem dXM_seen_68 : decode cXM_seen 68 = .ok (.ifCond .ne 27, 3) := by decide +kernel
theorem dXM_seen_71 : decode cXM_seen 71 = .ok (.aload_n 0, 1) := by decide +kernel
theorem dXM_seen_72 : decode cXM_seen 72 = .ok (.getfield 28, 3) := by decide +kernel
theorem dXM_seen_75 : decode cXM_seen 75 = .ok (.bipush 6, 2) := by decide +kernel
theorem dXM_seen_77 : decode cXM_seen 77 = .ok (.iaload, 1) := by decide +kernel
theorem dXM_seen_78 : decode cXM_seen 78 = .ok (.ifCond .lt 19, 3) := by decide +kernel
theorem dXM_seen_81 : decode cXM_seen 81 = .ok (.aload_n 0, 1) := by decide +kernel
theorem dXM_seen_82 : decode cXM_seen 82 = .ok (.getfield 28, 3) := by decide +kernel
theorem dXM_seen_85 : decode cXM_seen 85 = .ok (.bipush 6, 2) := by decide +kernel
theorem dXM_seen_87 : decode cXM_seen 87 = .ok (.iaload, 1) := by decide +kernel
theorem dXM_seen_88 : decode cXM_seen 88 = .ok (.aload_n 0, 1) := by decide +kernel
theorem dXM_seen_89 : decode cXM_seen 89 = .ok (.getfield 75, 3) := by decide +kernel
theorem dXM_seen_92 : decode cXM_seen 92 = .ok (.if_icmp .gt 5, 3) := by decide +kernel
theorem dXM_seen_95 : decode cXM_seen 95 = .ok (.iconst 0, 1) := by decide +kernel
theorem dXM_seen_96 : decode cXM_seen 96 = .ok (.ireturn, 1) := by decide +kernel
theorem dXM_seen_97 : decode cXM_seen 97 = .ok (.iconst 0, 1) := by decide +kernel
theorem dXM_seen_98 : decode cXM_seen 98 = .ok (.istore 4, 2) := by decide +kernel
theorem dXM_seen_100 : decode cXM_seen 100 = .ok (.iload 4, 2) := by decide +kernel
theorem dXM_seen_102 : decode cXM_seen 102 = .ok (.aload_n 0, 1) := by decide +kernel
theorem dXM_seen_103 : decode cXM_seen 103 = .ok (.getfield 85, 3) := by decide +kernel
theorem dXM_seen_106 : decode cXM_seen 106 = .ok (.if_icmp .ge 44, 3) := by decide +kernel
theorem dXM_seen_109 : decode cXM_seen 109 = .ok (.aload_n 0, 1) := by decide +kernel
theorem dXM_seen_110 : decode cXM_seen 110 = .ok (.getfield 19, 3) := by decide +kernel
theorem dXM_seen_113 : decode cXM_seen 113 = .ok (.iload 4, 2) := by decide +kernel
theorem dXM_seen_115 : decode cXM_seen 115 = .ok (.iaload, 1) := by decide +kernel
theorem dXM_seen_116 : decode cXM_seen 116 = .ok (.ifCond .le 28, 3) := by decide +kernel
theorem dXM_seen_119 : decode cXM_seen 119 = .ok (.aload_n 0, 1) := by decide +kernel
theorem dXM_seen_120 : decode cXM_seen 120 = .ok (.getfield 16, 3) := by decide +kernel
theorem dXM_seen_123 : decode cXM_seen 123 = .ok (.bipush 7, 2) := by decide +kernel
theorem dXM_seen_125 : decode cXM_seen 125 = .ok (.iload 4, 2) := by decide +kernel
theorem dXM_seen_127 : decode cXM_seen 127 = .ok (.imul, 1) := by decide +kernel
theorem dXM_seen_128 : decode cXM_seen 128 = .ok (.iload_n 1, 1) := by decide +kernel
theorem dXM_seen_129 : decode cXM_seen 129 = .ok (.iload_n 2, 1) := by decide +kernel
theorem dXM_seen_130 : decode cXM_seen 130 = .ok (.aload_n 0, 1) := by decide +kernel
theorem dXM_seen_131 : decode cXM_seen 131 = .ok (.getfield 28, 3) := by decide +kernel
theorem dXM_seen_134 : decode cXM_seen 134 = .ok (.iconst 4, 1) := by decide +kernel
theorem dXM_seen_135 : decode cXM_seen 135 = .ok (.iaload, 1) := by decide +kernel
theorem dXM_seen_136 : decode cXM_seen 136 = .ok (.invokestatic 98, 3) := by decide +kernel
theorem dXM_seen_139 : decode cXM_seen 139 = .ok (.ifCond .eq 5, 3) := by decide +kernel
theorem dXM_seen_142 : decode cXM_seen 142 = .ok (.iconst 0, 1) := by decide +kernel
theorem dXM_seen_143 : decode cXM_seen 143 = .ok (.ireturn, 1) := by decide +kernel
theorem dXM_seen_144 : decode cXM_seen 144 = .ok (.iinc 4 1, 3) := by decide +kernel
theorem dXM_seen_147 : decode cXM_seen 147 = .ok (.goto (-47), 3) := by decide +kernel
theorem dXM_seen_150 : decode cXM_seen 150 = .ok (.iconst 0, 1) := by decide +kernel
theorem dXM_seen_151 : decode cXM_seen 151 = .ok (.istore 4, 2) := by decide +kernel
theorem dXM_seen_153 : decode cXM_seen 153 = .ok (.iload 4, 2) := by decide +kernel
theorem dXM_seen_155 : decode cXM_seen 155 = .ok (.aload_n 0, 1) := by decide +kernel
theorem dXM_seen_156 : decode cXM_seen 156 = .ok (.getfield 42, 3) := by decide +kernel
theorem dXM_seen_159 : decode cXM_seen 159 = .ok (.if_icmp .ge 34, 3) := by decide +kernel
theorem dXM_seen_162 : decode cXM_seen 162 = .ok (.aload_n 0, 1) := by decide +kernel
theorem dXM_seen_163 : decode cXM_seen 163 = .ok (.getfield 7, 3) := by decide +kernel
theorem dXM_seen_166 : decode cXM_seen 166 = .ok (.bipush 7, 2) := by decide +kernel
theorem dXM_seen_168 : decode cXM_seen 168 = .ok (.iload 4, 2) := by decide +kernel
theorem dXM_seen_170 : decode cXM_seen 170 = .ok (.imul, 1) := by decide +kernel
theorem dXM_seen_171 : decode cXM_seen 171 = .ok (.iload_n 1, 1) := by decide +kernel
theorem dXM_seen_172 : decode cXM_seen 172 = .ok (.iload_n 2, 1) := by decide +kernel
theorem dXM_seen_173 : decode cXM_seen 173 = .ok (.aload_n 0, 1) := by decide +kernel
theorem dXM_seen_174 : decode cXM_seen 174 = .ok (.getfield 28, 3) := by decide +kernel
theorem dXM_seen_177 : decode cXM_seen 177 = .ok (.iconst 4, 1) := by decide +kernel
theorem dXM_seen_178 : decode cXM_seen 178 = .ok (.iaload, 1) := by decide +kernel
theorem dXM_seen_179 : decode cXM_seen 179 = .ok (.invokestatic 98, 3) := by decide +kernel
theorem dXM_seen_182 : decode cXM_seen 182 = .ok (.ifCond .eq 5, 3) := by decide +kernel
theorem dXM_seen_185 : decode cXM_seen 185 = .ok (.iconst 0, 1) := by decide +kernel
theorem dXM_seen_186 : decode cXM_seen 186 = .ok (.ireturn, 1) := by decide +kernel
theorem dXM_seen_187 : decode cXM_seen 187 = .ok (.iinc 4 1, 3) := by decide +kernel
theorem dXM_seen_190 : decode cXM_seen 190 = .ok (.goto (-37), 3) := by decide +kernel
theorem dXM_seen_193 : decode cXM_seen 193 = .ok (.iconst 1, 1) := by decide +kernel
theorem dXM_seen_194 : decode cXM_seen 194 = .ok (.ireturn, 1) := by decide +kernel
theorem dXM_winner_0 : decode cXM_winner 0 = .ok (.ldc 106, 2) := by decide +kernel
theorem dXM_winner_2 : decode cXM_winner 2 = .ok (.istore_n 3, 1) := by decide +kernel
theorem dXM_winner_3 : decode cXM_winner 3 = .ok (.iconst 0, 1) := by decide +kernel
theorem dXM_winner_4 : decode cXM_winner 4 = .ok (.istore 4, 2) := by decide +kernel
theorem dXM_winner_6 : decode cXM_winner 6 = .ok (.iload 4, 2) := by decide +kernel
theorem dXM_winner_8 : decode cXM_winner 8 = .ok (.aload_n 0, 1) := by decide +kernel
theorem dXM_winner_9 : decode cXM_winner 9 = .ok (.getfield 85, 3) := by decide +kernel
theorem dXM_winner_12 : decode cXM_winner 12 = .ok (.if_icmp .ge 88, 3) := by decide +kernel
theorem dXM_winner_15 : decode cXM_winner 15 = .ok (.bipush 7, 2) := by decide +kernel
theorem dXM_winner_17 : decode cXM_winner 17 = .ok (.iload 4, 2) := by decide +kernel
theorem dXM_winner_19 : decode cXM_winner 19 = .ok (.imul, 1) := by decide +kernel
theorem dXM_winner_20 : decode cXM_winner 20 = .ok (.istore 5, 2) := by decide +kernel
theorem dXM_winner_22 : decode cXM_winner 22 = .ok (.aload_n 0, 1) := by decide +kernel
theorem dXM_winner_23 : decode cXM_winner 23 = .ok (.getfield 19, 3) := by decide +kernel
theorem dXM_winner_26 : decode cXM_winner 26 = .ok (.iload 4, 2) := by decide +kernel
theorem dXM_winner_28 : decode cXM_winner 28 = .ok (.iaload, 1) := by decide +kernel
theorem dXM_winner_29 : decode cXM_winner 29 = .ok (.ifCond .le 65, 3) := by decide +kernel
theorem dXM_winner_32 : decode cXM_winner 32 = .ok (.aload_n 0, 1) := by decide +kernel
theorem dXM_winner_33 : decode cXM_winner 33 = .ok (.getfield 16, 3) := by decide +kernel
theorem dXM_winner_36 : decode cXM_winner 36 = .ok (.iload 5, 2) := by decide +kernel
theorem dXM_winner_38 : decode cXM_winner 38 = .ok (.invokestatic 38, 3) := by decide +kernel
theorem dXM_winner_41 : decode cXM_winner 41 = .ok (.ifCond .eq 53, 3) := by decide +kernel
theorem dXM_winner_44 : decode cXM_winner 44 = .ok (.aload_n 0, 1) := by decide +kernel
theorem dXM_winner_45 : decode cXM_winner 45 = .ok (.getfield 16, 3) := by decide +kernel
theorem dXM_winner_48 : decode cXM_winner 48 = .ok (.iload 5, 2) := by decide +kernel
theorem dXM_winner_50 : decode cXM_winner 50 = .ok (.iconst 1, 1) := by decide +kernel
theorem dXM_winner_51 : decode cXM_winner 51 = .ok (.iadd, 1) := by decide +kernel
theorem dXM_winner_52 : decode cXM_winner 52 = .ok (.iaload, 1) := by decide +kernel
theorem dXM_winner_53 : decode cXM_winner 53 = .ok (.iload_n 1, 1) := by decide +kernel
theorem dXM_winner_54 : decode cXM_winner 54 = .ok (.if_icmp .ne 40, 3) := by decide +kernel
theorem dXM_winner_57 : decode cXM_winner 57 = .ok (.aload_n 0, 1) := by decide +kernel
theorem dXM_winner_58 : decode cXM_winner 58 = .ok (.getfield 16, 3) := by decide +kernel
theorem dXM_winner_61 : decode cXM_winner 61 = .ok (.iload 5, 2) := by decide +kernel
theorem dXM_winner_63 : decode cXM_winner 63 = .ok (.iconst 2, 1) := by decide +kernel
theorem dXM_winner_64 : decode cXM_winner 64 = .ok (.iadd, 1) := by decide +kernel
theorem dXM_winner_65 : decode cXM_winner 65 = .ok (.iaload, 1) := by decide +kernel
theorem dXM_winner_66 : decode cXM_winner 66 = .ok (.iload_n 2, 1) := by decide +kernel
theorem dXM_winner_67 : decode cXM_winner 67 = .ok (.if_icmp .ne 27, 3) := by decide +kernel
theorem dXM_winner_70 : decode cXM_winner 70 = .ok (.iload_n 3, 1) := by decide +kernel
theorem dXM_winner_71 : decode cXM_winner 71 = .ok (.ifCond .lt 20, 3) := by decide +kernel
theorem dXM_winner_74 : decode cXM_winner 74 = .ok (.aload_n 0, 1) := by decide +kernel
theorem dXM_winner_75 : decode cXM_winner 75 = .ok (.getfield 16, 3) := by decide +kernel
theorem dXM_winner_78 : decode cXM_winner 78 = .ok (.iload 5, 2) := by decide +kernel
theorem dXM_winner_80 : decode cXM_winner 80 = .ok (.aload_n 0, 1) := by decide +kernel
theorem dXM_winner_81 : decode cXM_winner 81 = .ok (.getfield 16, 3) := by decide +kernel
theorem dXM_winner_84 : decode cXM_winner 84 = .ok (.iload_n 3, 1) := by decide +kernel
theorem dXM_winner_85 : decode cXM_winner 85 = .ok (.invokestatic 49, 3) := by decide +kernel
theorem dXM_winner_88 : decode cXM_winner 88 = .ok (.ifCond .eq 6, 3) := by decide +kernel
theorem dXM_winner_91 : decode cXM_winner 91 = .ok (.iload 5, 2) := by decide +kernel
theorem dXM_winner_93 : decode cXM_winner 93 = .ok (.istore_n 3, 1) := by decide +kernel
theorem dXM_winner_94 : decode cXM_winner 94 = .ok (.iinc 4 1, 3) := by decide +kernel
theorem dXM_winner_97 : decode cXM_winner 97 = .ok (.goto (-91), 3) := by decide +kernel
theorem dXM_winner_100 : decode cXM_winner 100 = .ok (.iconst 0, 1) := by decide +kernel
theorem dXM_winner_101 : decode cXM_winner 101 = .ok (.istore 4, 2) := by decide +kernel
theorem dXM_winner_103 : decode cXM_winner 103 = .ok (.iload 4, 2) := by decide +kernel
theorem dXM_winner_105 : decode cXM_winner 105 = .ok (.aload_n 0, 1) := by decide +kernel
theorem dXM_winner_106 : decode cXM_winner 106 = .ok (.getfield 42, 3) := by decide +kernel
theorem dXM_winner_109 : decode cXM_winner 109 = .ok (.if_icmp .ge 80, 3) := by decide +kernel
theorem dXM_winner_112 : decode cXM_winner 112 = .ok (.bipush 7, 2) := by decide +kernel
theorem dXM_winner_114 : decode cXM_winner 114 = .ok (.iload 4, 2) := by decide +kernel
theorem dXM_winner_116 : decode cXM_winner 116 = .ok (.imul, 1) := by decide +kernel
theorem dXM_winner_117 : decode cXM_winner 117 = .ok (.istore 5, 2) := by decide +kernel
theorem dXM_winner_119 : decode cXM_winner 119 = .ok (.aload_n 0, 1) := by decide +kernel
theorem dXM_winner_120 : decode cXM_winner 120 = .ok (.getfield 7, 3) := by decide +kernel
theorem dXM_winner_123 : decode cXM_winner 123 = .ok (.iload 5, 2) := by decide +kernel
theorem dXM_winner_125 : decode cXM_winner 125 = .ok (.invokestatic 38, 3) := by decide +kernel
theorem dXM_winner_128 : decode cXM_winner 128 = .ok (.ifCond .eq 55, 3) := by decide +kernel
theorem dXM_winner_131 : decode cXM_winner 131 = .ok (.aload_n 0, 1) := by decide +kernel
theorem dXM_winner_132 : decode cXM_winner 132 = .ok (.getfield 7, 3) := by decide +kernel
theorem dXM_winner_135 : decode cXM_winner 135 = .ok (.iload 5, 2) := by decide +kernel
theorem dXM_winner_137 : decode cXM_winner 137 = .ok (.iconst 1, 1) := by decide +kernel
theorem dXM_winner_138 : decode cXM_winner 138 = .ok (.iadd, 1) := by decide +kernel
theorem dXM_winner_139 : decode cXM_winner 139 = .ok (.iaload, 1) := by decide +kernel
theorem dXM_winner_140 : decode cXM_winner 140 = .ok (.iload_n 1, 1) := by decide +kernel
theorem dXM_winner_141 : decode cXM_winner 141 = .ok (.if_icmp .ne 42, 3) := by decide +kernel
theorem dXM_winner_144 : decode cXM_winner 144 = .ok (.aload_n 0, 1) := by decide +kernel
theorem dXM_winner_145 : decode cXM_winner 145 = .ok (.getfield 7, 3) := by decide +kernel
theorem dXM_winner_148 : decode cXM_winner 148 = .ok (.iload 5, 2) := by decide +kernel
theorem dXM_winner_150 : decode cXM_winner 150 = .ok (.iconst 2, 1) := by decide +kernel
theorem dXM_winner_151 : decode cXM_winner 151 = .ok (.iadd, 1) := by decide +kernel
theorem dXM_winner_152 : decode cXM_winner 152 = .ok (.iaload, 1) := by decide +kernel
theorem dXM_winner_153 : decode cXM_winner 153 = .ok (.iload_n 2, 1) := by decide +kernel
theorem dXM_winner_154 : decode cXM_winner 154 = .ok (.if_icmp .ne 29, 3) := by decide +kernel
theorem dXM_winner_157 : decode cXM_winner 157 = .ok (.iload_n 3, 1) := by decide +kernel
theorem dXM_winner_158 : decode cXM_winner 158 = .ok (.ifCond .lt 20, 3) := by decide +kernel
theorem dXM_winner_161 : decode cXM_winner 161 = .ok (.aload_n 0, 1) := by decide +kernel
theorem dXM_winner_162 : decode cXM_winner 162 = .ok (.getfield 7, 3) := by decide +kernel
theorem dXM_winner_165 : decode cXM_winner 165 = .ok (.iload 5, 2) := by decide +kernel
theorem dXM_winner_167 : decode cXM_winner 167 = .ok (.aload_n 0, 1) := by decide +kernel
theorem dXM_winner_168 : decode cXM_winner 168 = .ok (.getfield 16, 3) := by decide +kernel
theorem dXM_winner_171 : decode cXM_winner 171 = .ok (.iload_n 3, 1) := by decide +kernel
theorem dXM_winner_172 : decode cXM_winner 172 = .ok (.invokestatic 49, 3) := by decide +kernel
theorem dXM_winner_175 : decode cXM_winner 175 = .ok (.ifCond .eq 8, 3) := by decide +kernel
theorem dXM_winner_178 : decode cXM_winner 178 = .ok (.iconst (-1), 1) := by decide +kernel
theorem dXM_winner_179 : decode cXM_winner 179 = .ok (.iload 5, 2) := by decide +kernel
theorem dXM_winner_181 : decode cXM_winner 181 = .ok (.isub, 1) := by decide +kernel
theorem dXM_winner_182 : decode cXM_winner 182 = .ok (.ireturn, 1) := by decide +kernel
theorem dXM_winner_183 : decode cXM_winner 183 = .ok (.iinc 4 1, 3) := by decide +kernel
theorem dXM_winner_186 : decode cXM_winner 186 = .ok (.goto (-83), 3) := by decide +kernel
theorem dXM_winner_189 : decode cXM_winner 189 = .ok (.iload_n 3, 1) := by decide +kernel
theorem dXM_winner_190 : decode cXM_winner 190 = .ok (.ireturn, 1) := by decide +kernel
theorem dXM_stamp_0 : decode cXM_stamp 0 = .ok (.aload_n 0, 1) := by decide +kernel
theorem dXM_stamp_1 : decode cXM_stamp 1 = .ok (.iload_n 1, 1) := by decide +kernel
theorem dXM_stamp_2 : decode cXM_stamp 2 = .ok (.iload_n 2, 1) := by decide +kernel
theorem dXM_stamp_3 : decode cXM_stamp 3 = .ok (.invokevirtual 110, 3) := by decide +kernel
theorem dXM_stamp_6 : decode cXM_stamp 6 = .ok (.ifCond .eq 12, 3) := by decide +kernel
theorem dXM_stamp_9 : decode cXM_stamp 9 = .ok (.aload_n 0, 1) := by decide +kernel
theorem dXM_stamp_10 : decode cXM_stamp 10 = .ok (.getfield 28, 3) := by decide +kernel
theorem dXM_stamp_13 : decode cXM_stamp 13 = .ok (.iconst 4, 1) := by decide +kernel
theorem dXM_stamp_14 : decode cXM_stamp 14 = .ok (.iaload, 1) := by decide +kernel
theorem dXM_stamp_15 : decode cXM_stamp 15 = .ok (.goto 4, 3) := by decide +kernel
theorem dXM_stamp_18 : decode cXM_stamp 18 = .ok (.iconst (-1), 1) := by decide +kernel
theorem dXM_stamp_19 : decode cXM_stamp 19 = .ok (.ireturn, 1) := by decide +kernel
theorem dXM_next_0 : decode cXM_next 0 = .ok (.iload_n 2, 1) := by decide +kernel
theorem dXM_next_1 : decode cXM_next 1 = .ok (.ifCond .ge 7, 3) := by decide +kernel
theorem dXM_next_4 : decode cXM_next 4 = .ok (.iconst 0, 1) := by decide +kernel
theorem dXM_next_5 : decode cXM_next 5 = .ok (.goto 4, 3) := by decide +kernel
theorem dXM_next_8 : decode cXM_next 8 = .ok (.iload_n 2, 1) := by decide +kernel
theorem dXM_next_9 : decode cXM_next 9 = .ok (.istore_n 3, 1) := by decide +kernel
theorem dXM_next_10 : decode cXM_next 10 = .ok (.iload_n 3, 1) := by decide +kernel
theorem dXM_next_11 : decode cXM_next 11 = .ok (.bipush 7, 2) := by decide +kernel
theorem dXM_next_13 : decode cXM_next 13 = .ok (.if_icmp .gt 20, 3) := by decide +kernel
theorem dXM_next_16 : decode cXM_next 16 = .ok (.aload_n 0, 1) := by decide +kernel
theorem dXM_next_17 : decode cXM_next 17 = .ok (.iload_n 1, 1) := by decide +kernel
theorem dXM_next_18 : decode cXM_next 18 = .ok (.iload_n 3, 1) := by decide +kernel
theorem dXM_next_19 : decode cXM_next 19 = .ok (.invokevirtual 110, 3) := by decide +kernel
theorem dXM_next_22 : decode cXM_next 22 = .ok (.ifCond .eq 5, 3) := by decide +kernel
theorem dXM_next_25 : decode cXM_next 25 = .ok (.iload_n 3, 1) := by decide +kernel
theorem dXM_next_26 : decode cXM_next 26 = .ok (.ireturn, 1) := by decide +kernel
theorem dXM_next_27 : decode cXM_next 27 = .ok (.iinc 3 1, 3) := by decide +kernel
theorem dXM_next_30 : decode cXM_next 30 = .ok (.goto (-20), 3) := by decide +kernel
theorem dXM_next_33 : decode cXM_next 33 = .ok (.iconst (-1), 1) := by decide +kernel
theorem dXM_next_34 : decode cXM_next 34 = .ok (.ireturn, 1) := by decide +kernel
theorem dXM_nextRow_0 : decode cXM_nextRow 0 = .ok (.iload_n 1, 1) := by decide +kernel
theorem dXM_nextRow_1 : decode cXM_nextRow 1 = .ok (.ifCond .ge 7, 3) := by decide +kernel
theorem dXM_nextRow_4 : decode cXM_nextRow 4 = .ok (.iconst 0, 1) := by decide +kernel
theorem dXM_nextRow_5 : decode cXM_nextRow 5 = .ok (.goto 4, 3) := by decide +kernel
theorem dXM_nextRow_8 : decode cXM_nextRow 8 = .ok (.iload_n 1, 1) := by decide +kernel
theorem dXM_nextRow_9 : decode cXM_nextRow 9 = .ok (.istore_n 2, 1) := by decide +kernel
theorem dXM_nextRow_10 : decode cXM_nextRow 10 = .ok (.iload_n 2, 1) := by decide +kernel
theorem dXM_nextRow_11 : decode cXM_nextRow 11 = .ok (.bipush 15, 2) := by decide +kernel
theorem dXM_nextRow_13 : decode cXM_nextRow 13 = .ok (.if_icmp .gt 20, 3) := by decide +kernel
theorem dXM_nextRow_16 : decode cXM_nextRow 16 = .ok (.aload_n 0, 1) := by decide +kernel
theorem dXM_nextRow_17 : decode cXM_nextRow 17 = .ok (.iload_n 2, 1) := by decide +kernel
theorem dXM_nextRow_18 : decode cXM_nextRow 18 = .ok (.iconst 0, 1) := by decide +kernel
theorem dXM_nextRow_19 : decode cXM_nextRow 19 = .ok (.invokevirtual 113, 3) := by decide +kernel
theorem dXM_nextRow_22 : decode cXM_nextRow 22 = .ok (.ifCond .lt 5, 3) := by decide +kernel
theorem dXM_nextRow_25 : decode cXM_nextRow 25 = .ok (.iload_n 2, 1) := by decide +kernel
theorem dXM_nextRow_26 : decode cXM_nextRow 26 = .ok (.ireturn, 1) := by decide +kernel
theorem dXM_nextRow_27 : decode cXM_nextRow 27 = .ok (.iinc 2 1, 3) := by decide +kernel
theorem dXM_nextRow_30 : decode cXM_nextRow 30 = .ok (.goto (-20), 3) := by decide +kernel
theorem dXM_nextRow_33 : decode cXM_nextRow 33 = .ok (.iconst (-1), 1) := by decide +kernel
theorem dXM_nextRow_34 : decode cXM_nextRow 34 = .ok (.ireturn, 1) := by decide +kernel
theorem dXM_sync_0 : decode cXM_sync 0 = .ok (.aload_n 0, 1) := by decide +kernel
theorem dXM_sync_1 : decode cXM_sync 1 = .ok (.aload_n 0, 1) := by decide +kernel
theorem dXM_sync_2 : decode cXM_sync 2 = .ok (.getfield 56, 3) := by decide +kernel
theorem dXM_sync_5 : decode cXM_sync 5 = .ok (.putfield 91, 3) := by decide +kernel
theorem dXM_sync_8 : decode cXM_sync 8 = .ok (.aload_n 0, 1) := by decide +kernel
theorem dXM_sync_9 : decode cXM_sync 9 = .ok (.getfield 56, 3) := by decide +kernel
theorem dXM_sync_12 : decode cXM_sync 12 = .ok (.ireturn, 1) := by decide +kernel
theorem dXM_crash_0 : decode cXM_crash 0 = .ok (.aload_n 0, 1) := by decide +kernel
theorem dXM_crash_1 : decode cXM_crash 1 = .ok (.iconst 0, 1) := by decide +kernel
theorem dXM_crash_2 : decode cXM_crash 2 = .ok (.putfield 42, 3) := by decide +kernel
theorem dXM_crash_5 : decode cXM_crash 5 = .ok (.aload_n 0, 1) := by decide +kernel
theorem dXM_crash_6 : decode cXM_crash 6 = .ok (.aload_n 0, 1) := by decide +kernel
theorem dXM_crash_7 : decode cXM_crash 7 = .ok (.getfield 91, 3) := by decide +kernel
theorem dXM_crash_10 : decode cXM_crash 10 = .ok (.putfield 56, 3) := by decide +kernel
theorem dXM_crash_13 : decode cXM_crash 13 = .ok (.iconst 0, 1) := by decide +kernel
theorem dXM_crash_14 : decode cXM_crash 14 = .ok (.istore_n 1, 1) := by decide +kernel
theorem dXM_crash_15 : decode cXM_crash 15 = .ok (.iload_n 1, 1) := by decide +kernel
theorem dXM_crash_16 : decode cXM_crash 16 = .ok (.aload_n 0, 1) := by decide +kernel
theorem dXM_crash_17 : decode cXM_crash 17 = .ok (.getfield 56, 3) := by decide +kernel
theorem dXM_crash_20 : decode cXM_crash 20 = .ok (.if_icmp .ge 17, 3) := by decide +kernel
theorem dXM_crash_23 : decode cXM_crash 23 = .ok (.aload_n 0, 1) := by decide +kernel
theorem dXM_crash_24 : decode cXM_crash 24 = .ok (.bipush 7, 2) := by decide +kernel
theorem dXM_crash_26 : decode cXM_crash 26 = .ok (.iload_n 1, 1) := by decide +kernel
theorem dXM_crash_27 : decode cXM_crash 27 = .ok (.imul, 1) := by decide +kernel
theorem dXM_crash_28 : decode cXM_crash 28 = .ok (.invokevirtual 59, 3) := by decide +kernel
theorem dXM_crash_31 : decode cXM_crash 31 = .ok (.iinc 1 1, 3) := by decide +kernel
theorem dXM_crash_34 : decode cXM_crash 34 = .ok (.goto (-19), 3) := by decide +kernel
theorem dXM_crash_37 : decode cXM_crash 37 = .ok (.aload_n 0, 1) := by decide +kernel
theorem dXM_crash_38 : decode cXM_crash 38 = .ok (.getfield 56, 3) := by decide +kernel
theorem dXM_crash_41 : decode cXM_crash 41 = .ok (.ireturn, 1) := by decide +kernel
theorem dXM_tick_0 : decode cXM_tick 0 = .ok (.aload_n 0, 1) := by decide +kernel
theorem dXM_tick_1 : decode cXM_tick 1 = .ok (.iload_n 1, 1) := by decide +kernel
theorem dXM_tick_2 : decode cXM_tick 2 = .ok (.ifCond .lt 18, 3) := by decide +kernel
theorem dXM_tick_5 : decode cXM_tick 5 = .ok (.iload_n 1, 1) := by decide +kernel
theorem dXM_tick_6 : decode cXM_tick 6 = .ok (.bipush 100, 2) := by decide +kernel
theorem dXM_tick_8 : decode cXM_tick 8 = .ok (.if_icmp .gt 12, 3) := by decide +kernel
theorem dXM_tick_11 : decode cXM_tick 11 = .ok (.aload_n 0, 1) := by decide +kernel
theorem dXM_tick_12 : decode cXM_tick 12 = .ok (.getfield 75, 3) := by decide +kernel
theorem dXM_tick_15 : decode cXM_tick 15 = .ok (.iload_n 1, 1) := by decide +kernel
theorem dXM_tick_16 : decode cXM_tick 16 = .ok (.iadd, 1) := by decide +kernel
theorem dXM_tick_17 : decode cXM_tick 17 = .ok (.goto 7, 3) := by decide +kernel
theorem dXM_tick_20 : decode cXM_tick 20 = .ok (.aload_n 0, 1) := by decide +kernel
theorem dXM_tick_21 : decode cXM_tick 21 = .ok (.getfield 75, 3) := by decide +kernel
theorem dXM_tick_24 : decode cXM_tick 24 = .ok (.putfield 75, 3) := by decide +kernel
theorem dXM_tick_27 : decode cXM_tick 27 = .ok (.aload_n 0, 1) := by decide +kernel
theorem dXM_tick_28 : decode cXM_tick 28 = .ok (.getfield 75, 3) := by decide +kernel
theorem dXM_tick_31 : decode cXM_tick 31 = .ok (.ireturn, 1) := by decide +kernel
theorem dXM_count_0 : decode cXM_count 0 = .ok (.iload_n 1, 1) := by decide +kernel
theorem dXM_count_1 : decode cXM_count 1 = .ok (.ifCond .ne 10, 3) := by decide +kernel
theorem dXM_count_4 : decode cXM_count 4 = .ok (.aload_n 0, 1) := by decide +kernel
theorem dXM_count_5 : decode cXM_count 5 = .ok (.getfield 42, 3) := by decide +kernel
theorem dXM_count_8 : decode cXM_count 8 = .ok (.goto 40, 3) := by decide +kernel
theorem dXM_count_11 : decode cXM_count 11 = .ok (.iload_n 1, 1) := by decide +kernel
theorem dXM_count_12 : decode cXM_count 12 = .ok (.iconst 1, 1) := by decide +kernel
theorem dXM_count_13 : decode cXM_count 13 = .ok (.if_icmp .ne 10, 3) := by decide +kernel
theorem dXM_count_16 : decode cXM_count 16 = .ok (.aload_n 0, 1) := by decide +kernel
theorem dXM_count_17 : decode cXM_count 17 = .ok (.getfield 88, 3) := by decide +kernel
theorem dXM_count_20 : decode cXM_count 20 = .ok (.goto 28, 3) := by decide +kernel
theorem dXM_count_23 : decode cXM_count 23 = .ok (.iload_n 1, 1) := by decide +kernel
theorem dXM_count_24 : decode cXM_count 24 = .ok (.iconst 2, 1) := by decide +kernel
theorem dXM_count_25 : decode cXM_count 25 = .ok (.if_icmp .ne 10, 3) := by decide +kernel
theorem dXM_count_28 : decode cXM_count 28 = .ok (.aload_n 0, 1) := by decide +kernel
theorem dXM_count_29 : decode cXM_count 29 = .ok (.getfield 56, 3) := by decide +kernel
theorem dXM_count_32 : decode cXM_count 32 = .ok (.goto 16, 3) := by decide +kernel
theorem dXM_count_35 : decode cXM_count 35 = .ok (.iload_n 1, 1) := by decide +kernel
theorem dXM_count_36 : decode cXM_count 36 = .ok (.iconst 3, 1) := by decide +kernel
theorem dXM_count_37 : decode cXM_count 37 = .ok (.if_icmp .ne 10, 3) := by decide +kernel
theorem dXM_count_40 : decode cXM_count 40 = .ok (.aload_n 0, 1) := by decide +kernel
theorem dXM_count_41 : decode cXM_count 41 = .ok (.getfield 91, 3) := by decide +kernel
theorem dXM_count_44 : decode cXM_count 44 = .ok (.goto 4, 3) := by decide +kernel
theorem dXM_count_47 : decode cXM_count 47 = .ok (.iconst (-1), 1) := by decide +kernel
theorem dXM_count_48 : decode cXM_count 48 = .ok (.ireturn, 1) := by decide +kernel
end
section

abbrev mp_M : Type := Nat → Option va_E

abbrev gx_T : Type := Launch × va_G × (ClassId × ClassId × ClassId) × Nat × (Nat × Nat) × Nat × Nat × (Nat → Int32)
def gx_l (g : gx_T) : Launch := g.1
def gx_D (g : gx_T) : va_G := g.2.1
def gx_E (g : gx_T) : ClassId := g.2.2.1.1
def gx_O (g : gx_T) : ClassId := g.2.2.1.2.1
def gx_I (g : gx_T) : ClassId := g.2.2.1.2.2
def gx_z (g : gx_T) : Nat := g.2.2.2.1
def gx_e (g : gx_T) : Nat := g.2.2.2.2.1.1
def gx_m (g : gx_T) : Nat := g.2.2.2.2.1.2
def gx_b (g : gx_T) : Nat := g.2.2.2.2.2.1
def gx_L (g : gx_T) : Nat := g.2.2.2.2.2.2.1
def gx_x (g : gx_T) : Nat → Int32 := g.2.2.2.2.2.2.2
def gx_t (g : gx_T) : List (ClassId × FieldType) := [(gx_E g, .object "WideStore$Entry"), (gx_O g, .object "java/lang/Object"), (gx_I g, .int)]
def mp_K (g : gx_T) (U : State) : Prop := va_K (gx_D g) vwCl (gx_t g) U ∧ va_AO "WideStore$Entry" U ∧ va_AO "java/lang/Object" U ∧ va_Nw (.methodLinkNest RXT 27 yXS_pointSlot RXS) U ∧ va_Nw (.methodLinkNest RXT 45 yXS_wipeSlot RXS) U ∧ va_Nw (.castable RXT RXT) U ∧ va_Nw (.castable RXT "java/lang/Object") U ∧ va_Z "java/util/ArrayList" "DEFAULTCAPACITY_EMPTY_ELEMENTDATA" "[Ljava/lang/Object;" (.ref (gx_e g)) (fun q => gx_z g ≤ q) U U.heap ∧ va_T (.object "java/lang/Object") (gx_e g) 0 (fun _ => .null) (fun q => gx_z g ≤ q) U U.heap ∧ va_Mi "[Ljava/lang/Object;" (gx_m g) U ∧ va_Dc U ∧ va_X (gx_b g) (gx_L g) (gx_x g) U U.heap ∧ gx_b g < gx_z g
theorem mp_K.to {g : gx_T} {s U : State} {H : Heap} {locs : List Loc} (h : mp_K g s) (hz : gx_z g ≤ s.heap.size) (hW : s.WarmedH U.vm) (hU : U.heap = H) (hS : va_S (fun q => gx_z g ≤ q) s.heap H locs) : mp_K g U := by
  obtain ⟨h1, h2, h3, h4, h5, h6, h7, h8, h9, h10, h11, h12, h13⟩ := h
  subst hU
  exact ⟨h1.moved hW.alike, h2.moved hW.alike, h3.moved hW.alike, h4.warmM hW, h5.warmM hW, h6.warmC hW, h7.warmC hW, (h8.moved hW.alike).kept hS.2.1, (h9.moved hW.alike).kept hS.2.1, h10.moved hW.alike, h11.moved hW.alike, (h12.moved hW.alike).kept (hS.2.1 _ (Nat.lt_of_lt_of_le h13 hz) (Nat.not_le.mpr h13)), h13⟩
theorem mp_K.calling {g : gx_T} {U : State} {f : JFrame} {mk : MethodId} {a : Array Value} (h : mp_K g U) : mp_K g (U.calling f mk a) := by
  obtain ⟨h1, h2, h3, h4, h5, h6, h7, h8, h9, h10, h11, h12, h13⟩ := h
  exact ⟨va_K.moved (u := U) (U := U.calling f mk a) (Vm.Alike.refl U.vm) h1, va_AO.moved (u := U) (U := U.calling f mk a) (Vm.Alike.refl U.vm) h2, va_AO.moved (u := U) (U := U.calling f mk a) (Vm.Alike.refl U.vm) h3, va_Nw.same rfl (u := U) (U := U.calling f mk a) rfl h4, va_Nw.same rfl (u := U) (U := U.calling f mk a) rfl h5, va_Nw.same rfl (u := U) (U := U.calling f mk a) rfl h6, va_Nw.same rfl (u := U) (U := U.calling f mk a) rfl h7, va_Z.moved (u := U) (U := U.calling f mk a) (Vm.Alike.refl U.vm) h8, va_T.moved (u := U) (U := U.calling f mk a) (Vm.Alike.refl U.vm) h9, va_Mi.moved (u := U) (U := U.calling f mk a) (Vm.Alike.refl U.vm) h10, va_Dc.moved (u := U) (U := U.calling f mk a) (Vm.Alike.refl U.vm) h11, va_X.moved (u := U) (U := U.calling f mk a) (Vm.Alike.refl U.vm) h12, h13⟩
def mp_H (g : gx_T) (M : mp_M) (H : Heap) : Prop := gx_z g ≤ H.size ∧ ∃ ws : va_W, va_P (gx_D g) vwCl ws H ∧ va_D (fun q => gx_z g ≤ q) ws ∧ ∀ (q : Nat) (e : va_E), M q = some e → ∃ k : Nat, ws[k]? = some (q, e)
def mp_u (M : mp_M) (a : Nat) (e : va_E) : mp_M := fun q => if q = a then some e else M q
theorem mp_us {M : mp_M} {a : Nat} {e : va_E} : mp_u M a e a = some e := if_pos rfl
theorem mp_un {M : mp_M} {a q : Nat} {e : va_E} (h : q ≠ a) : mp_u M a e q = M q := if_neg h
theorem mp_uu {M : mp_M} {a : Nat} {e1 e2 : va_E} : mp_u (mp_u M a e1) a e2 = mp_u M a e2 := by
  funext q
  unfold mp_u
  by_cases h : q = a
  · rw [if_pos h, if_pos h]
  · rw [if_neg h, if_neg h, if_neg h]
theorem mp_same {M : mp_M} {a : Nat} {e : va_E} (h : M a = some e) : mp_u M a e = M := by
  funext q
  unfold mp_u
  by_cases hq : q = a
  · rw [if_pos hq, hq, h]
  · rw [if_neg hq]

def mp_k (P : Nat → Prop) (M M' : mp_M) : Prop := ∀ (q : Nat) (e : va_E), ¬ P q → M q = some e → M' q = some e
theorem mp_k.rf {P : Nat → Prop} {M : mp_M} : mp_k P M M := fun _ _ _ h => h
theorem mp_k.tr {P : Nat → Prop} {M M' M2 : mp_M} (h : mp_k P M M') (h2 : mp_k P M' M2) : mp_k P M M2 := fun q e hq hm => h2 q e hq (h q e hq hm)
theorem mp_k.mono {P P' : Nat → Prop} {M M' : mp_M} (h : mp_k P M M') (hp : ∀ q, P q → P' q) : mp_k P' M M' := fun q e hq hm => h q e (fun z => hq (hp q z)) hm
theorem mp_k.up {P : Nat → Prop} {M : mp_M} {a : Nat} {e : va_E} (h : P a) : mp_k P M (mp_u M a e) := fun q e' hq hm => by rw [mp_un (fun z => hq (by rw [z]; exact h))]; exact hm
theorem mp_k.new {P : Nat → Prop} {M : mp_M} {a : Nat} {e : va_E} (h : M a = none) : mp_k P M (mp_u M a e) := fun q e' hq hm => by rw [mp_un (fun z => by rw [z, h] at hm; cases hm)]; exact hm
theorem mp_set {M : mp_M} {ws : va_W} {A : Nat → Prop} {a k : Nat} {e0 e : va_E} (hD : va_D A ws) (hM : ∀ (q : Nat) (e : va_E), M q = some e → ∃ k : Nat, ws[k]? = some (q, e)) (hk : ws[k]? = some (a, e0)) : ∀ (q : Nat) (e' : va_E), mp_u M a e q = some e' → ∃ j : Nat, (ws.set k (a, e))[j]? = some (q, e') := by
  intro q e' h
  have hl := (List.getElem?_eq_some_iff.mp hk).1
  by_cases hq : q = a
  · subst hq
    rw [mp_us] at h
    cases h
    exact ⟨k, List.getElem?_set_self hl⟩
  · rw [mp_un hq] at h
    obtain ⟨j, hj⟩ := hM q e' h
    refine ⟨j, ?_⟩
    rw [List.getElem?_set_ne (fun z => ?_)]
    · exact hj
    · subst z
      rw [hk] at hj
      cases hj
      exact hq rfl
theorem mp_push {M : mp_M} {ws : va_W} {A : Nat → Prop} {a : Nat} {e : va_E} (hD : va_D A (ws ++ [(a, e)])) (hM : ∀ (q : Nat) (e : va_E), M q = some e → ∃ k : Nat, ws[k]? = some (q, e)) : M a = none ∧ ∀ (q : Nat) (e' : va_E), mp_u M a e q = some e' → ∃ j : Nat, (ws ++ [(a, e)])[j]? = some (q, e') := by
  have hlast : (ws ++ [(a, e)])[ws.length]? = some (a, e) := by
    rw [List.getElem?_append_right (Nat.le_refl _), Nat.sub_self]; rfl
  have hold : ∀ {j : Nat} {x : Nat × va_E}, ws[j]? = some x → (ws ++ [(a, e)])[j]? = some x := by
    intro j x hj
    rw [List.getElem?_append_left (List.getElem?_eq_some_iff.mp hj).1]
    exact hj
  refine ⟨?_, fun q e' h => ?_⟩
  · cases hMa : M a with
    | none => rfl
    | some e1 =>
      obtain ⟨j, hj⟩ := hM a e1 hMa
      have := hD.1 j ws.length _ _ (hold hj) hlast rfl
      have hl := (List.getElem?_eq_some_iff.mp hj).1
      omega
  · by_cases hq : q = a
    · subst hq
      rw [mp_us] at h
      cases h
      exact ⟨_, hlast⟩
    · rw [mp_un hq] at h
      obtain ⟨j, hj⟩ := hM q e' h
      exact ⟨j, hold hj⟩

def lx_q : Nat → List (Option Value) → List (Nat × Value)
  | _, [] => []
  | i, none :: r => lx_q (i + 1) r
  | i, some v :: r => (i, v) :: lx_q (i + 1) r
theorem lx_mem : ∀ (L : List (Option Value)) (i : Nat) (q : Nat × Value), q ∈ lx_q i L ↔ ∃ j : Nat, q.1 = i + j ∧ L[j]? = some (some q.2)
  | [], i, q => by simp [lx_q]
  | none :: r, i, q => by
    rw [lx_q, lx_mem r (i + 1) q]
    constructor
    · rintro ⟨j, h1, h2⟩
      exact ⟨j + 1, by omega, by simpa using h2⟩
    · rintro ⟨j, h1, h2⟩
      cases j with
      | zero => simp at h2
      | succ j => exact ⟨j, by omega, by simpa using h2⟩
  | some v :: r, i, q => by
    rw [lx_q, List.mem_cons, lx_mem r (i + 1) q]
    constructor
    · rintro (h | ⟨j, h1, h2⟩)
      · subst h
        exact ⟨0, rfl, rfl⟩
      · exact ⟨j + 1, by omega, by simpa using h2⟩
    · rintro ⟨j, h1, h2⟩
      cases j with
      | zero =>
        left
        simp at h2
        obtain ⟨a, b⟩ := q
        simp at h1 h2
        rw [h1, h2]
      | succ j => exact Or.inr ⟨j, by omega, by simpa using h2⟩
def lx (ls : Array Slot) (nL : Nat) (L : List (Option Value)) : Prop := lv_has ls nL (lx_q 0 L) ∧ L.length = nL ∧ ∀ v, some v ∈ L → v.category = 1
theorem lx.at {ls : Array Slot} {nL : Nat} {L : List (Option Value)} (h : lx ls nL L) {i : Nat} {v : Value} (hi : L[i]? = some (some v)) : ls[i]? = some (.val v) := h.1.2.2 (i, v) ((lx_mem L 0 (i, v)).mpr ⟨i, (Nat.zero_add i).symm, hi⟩)
theorem lx.put {ls' : Array Slot} {nL : Nat} {L : List (Option Value)} {i : Nat} {v : Value} {l2 : List (Nat × Value)} {P : Nat × Value → Bool} (h2 : L.length = nL) (h3 : ∀ v, some v ∈ L → v.category = 1) (hv : v.category = 1) (hP : ∀ q, P q = (!(q.1 == i) && !(q.1 + 1 == i && q.2.category == 2))) (hl : (i, v) :: (lx_q 0 L).filter P = l2) (h : lv_has ls' nL l2) : lx ls' nL (L.set i (some v)) := by
  subst hl
  refine ⟨⟨h.1, h.2.1, fun q hq => ?_⟩, by rw [List.length_set]; exact h2, fun w hw => ?_⟩
  · obtain ⟨j, e1, e2⟩ := (lx_mem _ 0 q).mp hq
    rw [Nat.zero_add] at e1
    by_cases hj : j = i
    · subst hj
      have hlt : j < L.length := by
        have := (List.getElem?_eq_some_iff.mp e2).1
        rw [List.length_set] at this
        exact this
      rw [List.getElem?_set_self hlt] at e2
      have e3 : v = q.2 := Option.some.inj (Option.some.inj e2)
      refine h.2.2 q (List.mem_cons.mpr (Or.inl ?_))
      exact Prod.ext e1 e3.symm
    · rw [List.getElem?_set_ne (fun z => hj z.symm)] at e2
      refine h.2.2 q (List.mem_cons_of_mem _ (List.mem_filter.mpr ⟨(lx_mem L 0 q).mpr ⟨j, by omega, e2⟩, ?_⟩))
      rw [hP]
      have hc := h3 q.2 (List.mem_of_getElem? e2)
      have hne : (q.1 == i) = false := by
        rw [e1]
        exact beq_false_of_ne hj
      rw [hne, hc]
      simp
  · rcases List.mem_or_eq_of_mem_set hw with g | g
    · exact h3 w g
    · rw [Option.some.inj g]
      exact hv
theorem lx_entry_l : ∀ (vs : List Value) (i : Nat), (∀ v, v ∈ vs → v.category = 1) → ∀ (n : Nat), lx_q i (vs.map some ++ List.replicate n none) = lv_args i vs
  | [], i, _, n => by
    have : ∀ (n i : Nat), lx_q i (List.replicate n none) = [] := by
      intro n
      induction n with
      | zero => intro i; rfl
      | succ n ih => intro i; rw [List.replicate_succ, lx_q]; exact ih _
    simpa [lv_args] using this n i
  | v :: vs, i, h, n => by
    have hc := h v (List.mem_cons_self)
    have ih := lx_entry_l vs (i + 1) (fun w hw => h w (List.mem_cons_of_mem _ hw)) n
    simp only [List.map_cons, List.cons_append, lx_q, lv_args, hc]
    rw [ih]
    simp
theorem lx_len : ∀ (vs : List Value), (∀ v, v ∈ vs → v.category = 1) → (lg_sl vs).length = vs.length
  | [], _ => rfl
  | v :: vs, h => by
    have hc := h v (List.mem_cons_self)
    have ih := lx_len vs (fun w hw => h w (List.mem_cons_of_mem _ hw))
    simp only [lg_sl, List.flatMap_cons, hc, List.length_append] at ih ⊢
    simp only [List.length_cons]
    have e1 : ((if (1 : Nat) = 2 then [Slot.val v, Slot.second] else [Slot.val v]) : List Slot).length = 1 := rfl
    rw [e1, ih]
    omega
theorem lx_entry (vs : List Value) {n : Nat} (h : vs.length ≤ n) (hc : ∀ v, v ∈ vs → v.category = 1) : lx ((lg_sl vs ++ List.replicate (n - (lg_sl vs).length) Slot.unset).toArray) n (vs.map some ++ List.replicate (n - vs.length) none) := by
  refine ⟨?_, ?_, ?_⟩
  · rw [lx_entry_l vs 0 hc]
    exact lv_entry vs (by rw [lx_len vs hc]; exact h)
  · simp
    omega
  · intro v hv
    rcases List.mem_append.mp hv with g | g
    · obtain ⟨w, h1, h2⟩ := List.mem_map.mp g
      rw [← Option.some.inj h2]
      exact hc w h1
    · have := List.eq_of_mem_replicate g
      cases this

abbrev cx_T : Type := Program × Env × Room × State × MethodId × Array Value × List Frame × Method × Code × Nat × (State → Prop)
def VV (g : gx_T) (x : cx_T) (M : mp_M) (k n pc : Nat) (L : List (Option Value)) (st : List Value) : Prop := match x with
  | (p, e, R, s, m, args, below, meth, c, nL, Q) => ∀ (H : Heap) (locs : List Loc) (ls : Array Slot), mp_H g M H → va_S (fun q => gx_z g ≤ q) s.heap H locs → lx ls nL L → W p (gx_l g) e R s m args below meth c H locs k n Q (F0 m pc ls st)
def CX (g : gx_T) (x : cx_T) (cc : ByteArray) (own : String) (fr ce sl lc : Nat) : Prop := match x with
  | (p, _, R, s, m, args, _, _, c, nL, _) => CallFix p m c cc nL s args AL own ∧ mp_K g s ∧ R = { frames := fr, cells := ce, slots := sl, locals := lc } ∧ gx_z g ≤ s.heap.size

def mp_Q (g : gx_T) (Po : Option Value → mp_M → Prop) : Array Value → State → Outcome → State → Prop := fun _ st oc t => (∃ (v : Option Value) (M' : mp_M), oc = .returned v ∧ Po v M' ∧ mp_H g M' t.heap) ∧ va_F (fun q => gx_z g ≤ q) st t
def RX (g : gx_T) (x : cx_T) (ret : Option FieldType) (Po : Option Value → mp_M → Prop) (mc ms : Nat) : Prop := match x with
  | (_, _, _, s, _, args, below, meth, _, _, Q) => meth.sig.returnType = ret ∧ meth.locks = false ∧ Q = MQ below (mp_Q g Po) args s mc ms (fun q => gx_z g ≤ q)
def IX (x : cx_T) : Prop := match x with
  | (_, _, _, _, _, _, _, meth, _, _, _) => meth.name = "<init>"
section VROWS
variable {g : gx_T} {x : cx_T} {cc : ByteArray} {own : String} {fr ce sl lc : Nat} {M : mp_M} {k n pc : Nat} {L : List (Option Value)} {rest : List Value}

theorem v_iconst (C : CX g x cc own fr ce sl lc) (q : Nat) {i : Int} (hd : decode cc pc = .ok (.iconst i, 1)) (hq : pc + 1 = q) (v : Int32) (hv : Int32.ofInt i = v) (kk : VV g x M k n q L (.int v :: rest)) : VV g x M k n pc L (rest) := by
  obtain ⟨p, e, R, s, m, args, below, meth, c, nL, Q⟩ := x
  subst hq
  exact fun H locs ls hw hS hl => lv_iconst C.1.1 C.1.2.1 hd hv (kk H locs ls hw hS hl)
theorem v_bipush (C : CX g x cc own fr ce sl lc) (q : Nat) {i : Int} (hd : decode cc pc = .ok (.bipush i, 2)) (hq : pc + 2 = q) (v : Int32) (hv : (Int8.ofInt i).toInt32 = v) (kk : VV g x M k n q L (.int v :: rest)) : VV g x M k n pc L (rest) := by
  obtain ⟨p, e, R, s, m, args, below, meth, c, nL, Q⟩ := x
  subst hq
  exact fun H locs ls hw hS hl => lv_bipush C.1.1 C.1.2.1 hd hv (kk H locs ls hw hS hl)
theorem v_sipush (C : CX g x cc own fr ce sl lc) (q : Nat) {i : Int} (hd : decode cc pc = .ok (.sipush i, 3)) (hq : pc + 3 = q) (v : Int32) (hv : (Int16.ofInt i).toInt32 = v) (kk : VV g x M k n q L (.int v :: rest)) : VV g x M k n pc L (rest) := by
  obtain ⟨p, e, R, s, m, args, below, meth, c, nL, Q⟩ := x
  subst hq
  exact fun H locs ls hw hS hl => lv_sipush C.1.1 C.1.2.1 hd hv (kk H locs ls hw hS hl)
theorem v_iload_n (C : CX g x cc own fr ce sl lc) (q : Nat) {i : Fin 4} {v : Int32} (hd : decode cc pc = .ok (.iload_n i, 1)) (hq : pc + 1 = q) (hv : L[(i : Nat)]? = some (some (.int v))) (kk : VV g x M k n q L (.int v :: rest)) : VV g x M k n pc L rest := by
  obtain ⟨p, e, R, s, m, args, below, meth, c, nL, Q⟩ := x
  subst hq
  exact fun H locs ls hw hS hl => lv_iload_n C.1.1 C.1.2.1 hd rfl (hl.at hv) (kk H locs ls hw hS hl)
theorem v_iload (C : CX g x cc own fr ce sl lc) (q : Nat) {i : Nat} {v : Int32} (hd : decode cc pc = .ok (.iload i, 2)) (hq : pc + 2 = q) (hv : L[i]? = some (some (.int v))) (kk : VV g x M k n q L (.int v :: rest)) : VV g x M k n pc L rest := by
  obtain ⟨p, e, R, s, m, args, below, meth, c, nL, Q⟩ := x
  subst hq
  exact fun H locs ls hw hS hl => lv_iload C.1.1 C.1.2.1 hd (hl.at hv) (kk H locs ls hw hS hl)
theorem v_aload_n (C : CX g x cc own fr ce sl lc) (q : Nat) {i : Fin 4} {v : Nat} (hd : decode cc pc = .ok (.aload_n i, 1)) (hq : pc + 1 = q) (hv : L[(i : Nat)]? = some (some (.ref v))) (kk : VV g x M k n q L (.ref v :: rest)) : VV g x M k n pc L rest := by
  obtain ⟨p, e, R, s, m, args, below, meth, c, nL, Q⟩ := x
  subst hq
  exact fun H locs ls hw hS hl => lv_aload_n C.1.1 C.1.2.1 hd rfl (hl.at hv) (kk H locs ls hw hS hl)
theorem v_aload (C : CX g x cc own fr ce sl lc) (q : Nat) {i : Nat} {v : Nat} (hd : decode cc pc = .ok (.aload i, 2)) (hq : pc + 2 = q) (hv : L[i]? = some (some (.ref v))) (kk : VV g x M k n q L (.ref v :: rest)) : VV g x M k n pc L rest := by
  obtain ⟨p, e, R, s, m, args, below, meth, c, nL, Q⟩ := x
  subst hq
  exact fun H locs ls hw hS hl => lv_aload C.1.1 C.1.2.1 hd (hl.at hv) (kk H locs ls hw hS hl)
theorem v_aload_nN (C : CX g x cc own fr ce sl lc) (q : Nat) {i : Fin 4} (hd : decode cc pc = .ok (.aload_n i, 1)) (hq : pc + 1 = q) (hv : L[(i : Nat)]? = some (some .null)) (kk : VV g x M k n q L (.null :: rest)) : VV g x M k n pc L rest := by
  obtain ⟨p, e, R, s, m, args, below, meth, c, nL, Q⟩ := x
  subst hq
  exact fun H locs ls hw hS hl => lv_aload_nN C.1.1 C.1.2.1 hd rfl (hl.at hv) (kk H locs ls hw hS hl)
theorem v_aloadN (C : CX g x cc own fr ce sl lc) (q : Nat) {i : Nat} (hd : decode cc pc = .ok (.aload i, 2)) (hq : pc + 2 = q) (hv : L[i]? = some (some .null)) (kk : VV g x M k n q L (.null :: rest)) : VV g x M k n pc L rest := by
  obtain ⟨p, e, R, s, m, args, below, meth, c, nL, Q⟩ := x
  subst hq
  exact fun H locs ls hw hS hl => lv_aloadN C.1.1 C.1.2.1 hd (hl.at hv) (kk H locs ls hw hS hl)
theorem v_istore_n (C : CX g x cc own fr ce sl lc) (q : Nat) (L2 : List (Option Value)) {i : Fin 4} {v : Int32} (hd : decode cc pc = .ok (.istore_n i, 1)) (hq : pc + 1 = q) (hi : (i : Nat) < L.length) (hL : L.set (i : Nat) (some (.int v)) = L2) (kk : VV g x M k n q L2 rest) : VV g x M k n pc L (.int v :: rest) := by
  obtain ⟨p, e, R, s, m, args, below, meth, c, nL, Q⟩ := x
  subst hq
  subst hL
  exact fun H locs ls hw hS hl => lv_istore_n C.1.1 C.1.2.1 hd rfl hl.1 (hl.2.1 ▸ hi) rfl (fun ls2 h2 => kk H locs ls2 hw hS (lx.put hl.2.1 hl.2.2 rfl (fun _ => rfl) rfl h2))
theorem v_istore (C : CX g x cc own fr ce sl lc) (q : Nat) (L2 : List (Option Value)) {i : Nat} {v : Int32} (hd : decode cc pc = .ok (.istore i, 2)) (hq : pc + 2 = q) (hi : i < L.length) (hL : L.set i (some (.int v)) = L2) (kk : VV g x M k n q L2 rest) : VV g x M k n pc L (.int v :: rest) := by
  obtain ⟨p, e, R, s, m, args, below, meth, c, nL, Q⟩ := x
  subst hq
  subst hL
  exact fun H locs ls hw hS hl => lv_istore C.1.1 C.1.2.1 hd hl.1 (hl.2.1 ▸ hi) rfl (fun ls2 h2 => kk H locs ls2 hw hS (lx.put hl.2.1 hl.2.2 rfl (fun _ => rfl) rfl h2))
theorem v_astore_n (C : CX g x cc own fr ce sl lc) (q : Nat) (L2 : List (Option Value)) {i : Fin 4} {v : Nat} (hd : decode cc pc = .ok (.astore_n i, 1)) (hq : pc + 1 = q) (hi : (i : Nat) < L.length) (hL : L.set (i : Nat) (some (.ref v)) = L2) (kk : VV g x M k n q L2 rest) : VV g x M k n pc L (.ref v :: rest) := by
  obtain ⟨p, e, R, s, m, args, below, meth, c, nL, Q⟩ := x
  subst hq
  subst hL
  exact fun H locs ls hw hS hl => lv_astore_n C.1.1 C.1.2.1 hd rfl hl.1 (hl.2.1 ▸ hi) rfl (fun ls2 h2 => kk H locs ls2 hw hS (lx.put hl.2.1 hl.2.2 rfl (fun _ => rfl) rfl h2))
theorem v_astore (C : CX g x cc own fr ce sl lc) (q : Nat) (L2 : List (Option Value)) {i : Nat} {v : Nat} (hd : decode cc pc = .ok (.astore i, 2)) (hq : pc + 2 = q) (hi : i < L.length) (hL : L.set i (some (.ref v)) = L2) (kk : VV g x M k n q L2 rest) : VV g x M k n pc L (.ref v :: rest) := by
  obtain ⟨p, e, R, s, m, args, below, meth, c, nL, Q⟩ := x
  subst hq
  subst hL
  exact fun H locs ls hw hS hl => lv_astore C.1.1 C.1.2.1 hd hl.1 (hl.2.1 ▸ hi) rfl (fun ls2 h2 => kk H locs ls2 hw hS (lx.put hl.2.1 hl.2.2 rfl (fun _ => rfl) rfl h2))
theorem v_astore_nN (C : CX g x cc own fr ce sl lc) (q : Nat) (L2 : List (Option Value)) {i : Fin 4} (hd : decode cc pc = .ok (.astore_n i, 1)) (hq : pc + 1 = q) (hi : (i : Nat) < L.length) (hL : L.set (i : Nat) (some .null) = L2) (kk : VV g x M k n q L2 rest) : VV g x M k n pc L (.null :: rest) := by
  obtain ⟨p, e, R, s, m, args, below, meth, c, nL, Q⟩ := x
  subst hq
  subst hL
  exact fun H locs ls hw hS hl => lv_astore_nN C.1.1 C.1.2.1 hd rfl hl.1 (hl.2.1 ▸ hi) rfl (fun ls2 h2 => kk H locs ls2 hw hS (lx.put hl.2.1 hl.2.2 rfl (fun _ => rfl) rfl h2))
theorem v_astoreN (C : CX g x cc own fr ce sl lc) (q : Nat) (L2 : List (Option Value)) {i : Nat} (hd : decode cc pc = .ok (.astore i, 2)) (hq : pc + 2 = q) (hi : i < L.length) (hL : L.set i (some .null) = L2) (kk : VV g x M k n q L2 rest) : VV g x M k n pc L (.null :: rest) := by
  obtain ⟨p, e, R, s, m, args, below, meth, c, nL, Q⟩ := x
  subst hq
  subst hL
  exact fun H locs ls hw hS hl => lv_astoreN C.1.1 C.1.2.1 hd hl.1 (hl.2.1 ▸ hi) rfl (fun ls2 h2 => kk H locs ls2 hw hS (lx.put hl.2.1 hl.2.2 rfl (fun _ => rfl) rfl h2))
theorem v_astore_nQ (C : CX g x cc own fr ce sl lc) (q : Nat) (L2 : List (Option Value)) {i : Fin 4} {r : Option Nat} (hd : decode cc pc = .ok (.astore_n i, 1)) (hq : pc + 1 = q) (hi : (i : Nat) < L.length) (hL : L.set (i : Nat) (some (va_rf r)) = L2) (kk : VV g x M k n q L2 rest) : VV g x M k n pc L (va_rf r :: rest) := by
  cases r with
  | none => exact v_astore_nN C q L2 hd hq hi hL kk
  | some a => exact v_astore_n C q L2 hd hq hi hL kk
theorem v_aload_nQ (C : CX g x cc own fr ce sl lc) (q : Nat) {i : Fin 4} {r : Option Nat} (hd : decode cc pc = .ok (.aload_n i, 1)) (hq : pc + 1 = q) (hv : L[(i : Nat)]? = some (some (va_rf r))) (kk : VV g x M k n q L (va_rf r :: rest)) : VV g x M k n pc L rest := by
  cases r with
  | none => exact v_aload_nN C q hd hq hv kk
  | some a => exact v_aload_n C q hd hq hv kk
theorem v_astoreQ (C : CX g x cc own fr ce sl lc) (q : Nat) (L2 : List (Option Value)) {i : Nat} {r : Option Nat} (hd : decode cc pc = .ok (.astore i, 2)) (hq : pc + 2 = q) (hi : i < L.length) (hL : L.set i (some (va_rf r)) = L2) (kk : VV g x M k n q L2 rest) : VV g x M k n pc L (va_rf r :: rest) := by
  cases r with
  | none => exact v_astoreN C q L2 hd hq hi hL kk
  | some a => exact v_astore C q L2 hd hq hi hL kk
theorem v_aloadQ (C : CX g x cc own fr ce sl lc) (q : Nat) {i : Nat} {r : Option Nat} (hd : decode cc pc = .ok (.aload i, 2)) (hq : pc + 2 = q) (hv : L[i]? = some (some (va_rf r))) (kk : VV g x M k n q L (va_rf r :: rest)) : VV g x M k n pc L rest := by
  cases r with
  | none => exact v_aloadN C q hd hq hv kk
  | some a => exact v_aload C q hd hq hv kk
theorem v_iinc (C : CX g x cc own fr ce sl lc) (q : Nat) (L2 : List (Option Value)) {i : Nat} {j : Int} {u : Int32} (v : Int32) (hd : decode cc pc = .ok (.iinc i j, 3)) (hq : pc + 3 = q) (hu : L[i]? = some (some (.int u))) (hv : u + Int32.ofInt j = v) (hL : L.set i (some (.int v)) = L2) (kk : VV g x M k n q L2 rest) : VV g x M k n pc L rest := by
  obtain ⟨p, e, R, s, m, args, below, meth, c, nL, Q⟩ := x
  subst hq
  subst hL
  intro H locs ls hw hS hl
  obtain ⟨w, hw2⟩ := List.getElem?_of_mem ((lx_mem L 0 (i, .int u)).mpr ⟨i, (Nat.zero_add i).symm, hu⟩)
  exact lv_iinc C.1.1 C.1.2.1 hd hl.1 hw2 hv (hl.2.1 ▸ (List.getElem?_eq_some_iff.mp hu).1) rfl (fun ls2 h2 => kk H locs ls2 hw hS (lx.put hl.2.1 hl.2.2 rfl (fun _ => rfl) rfl h2))
theorem v_iadd (C : CX g x cc own fr ce sl lc) (q : Nat) {a b : Int32} (hd : decode cc pc = .ok (.iadd, 1)) (hq : pc + 1 = q) (kk : VV g x M k n q L (.int (a + b) :: rest)) : VV g x M k n pc L (.int b :: .int a :: rest) := by
  obtain ⟨p, e, R, s, m, args, below, meth, c, nL, Q⟩ := x
  subst hq
  exact fun H locs ls hw hS hl => lv_iadd C.1.1 C.1.2.1 hd (kk H locs ls hw hS hl)
theorem v_isub (C : CX g x cc own fr ce sl lc) (q : Nat) {a b : Int32} (hd : decode cc pc = .ok (.isub, 1)) (hq : pc + 1 = q) (kk : VV g x M k n q L (.int (a - b) :: rest)) : VV g x M k n pc L (.int b :: .int a :: rest) := by
  obtain ⟨p, e, R, s, m, args, below, meth, c, nL, Q⟩ := x
  subst hq
  exact fun H locs ls hw hS hl => lv_isub C.1.1 C.1.2.1 hd (kk H locs ls hw hS hl)
theorem v_imul (C : CX g x cc own fr ce sl lc) (q : Nat) {a b : Int32} (hd : decode cc pc = .ok (.imul, 1)) (hq : pc + 1 = q) (kk : VV g x M k n q L (.int (a * b) :: rest)) : VV g x M k n pc L (.int b :: .int a :: rest) := by
  obtain ⟨p, e, R, s, m, args, below, meth, c, nL, Q⟩ := x
  subst hq
  exact fun H locs ls hw hS hl => lv_imul C.1.1 C.1.2.1 hd (kk H locs ls hw hS hl)
theorem v_iand (C : CX g x cc own fr ce sl lc) (q : Nat) {a b : Int32} (hd : decode cc pc = .ok (.iand, 1)) (hq : pc + 1 = q) (kk : VV g x M k n q L (.int (a &&& b) :: rest)) : VV g x M k n pc L (.int b :: .int a :: rest) := by
  obtain ⟨p, e, R, s, m, args, below, meth, c, nL, Q⟩ := x
  subst hq
  exact fun H locs ls hw hS hl => lv_iand C.1.1 C.1.2.1 hd (kk H locs ls hw hS hl)
theorem v_ior (C : CX g x cc own fr ce sl lc) (q : Nat) {a b : Int32} (hd : decode cc pc = .ok (.ior, 1)) (hq : pc + 1 = q) (kk : VV g x M k n q L (.int (a ||| b) :: rest)) : VV g x M k n pc L (.int b :: .int a :: rest) := by
  obtain ⟨p, e, R, s, m, args, below, meth, c, nL, Q⟩ := x
  subst hq
  exact fun H locs ls hw hS hl => lv_ior C.1.1 C.1.2.1 hd (kk H locs ls hw hS hl)
theorem v_ixor (C : CX g x cc own fr ce sl lc) (q : Nat) {a b : Int32} (hd : decode cc pc = .ok (.ixor, 1)) (hq : pc + 1 = q) (kk : VV g x M k n q L (.int (a ^^^ b) :: rest)) : VV g x M k n pc L (.int b :: .int a :: rest) := by
  obtain ⟨p, e, R, s, m, args, below, meth, c, nL, Q⟩ := x
  subst hq
  exact fun H locs ls hw hS hl => lv_ixor C.1.1 C.1.2.1 hd (kk H locs ls hw hS hl)
theorem v_idiv (C : CX g x cc own fr ce sl lc) (q : Nat) {a b : Int32} (hd : decode cc pc = .ok (.idiv, 1)) (hq : pc + 1 = q) (hne : ¬ b = 0) (kk : VV g x M k n q L (.int (a / b) :: rest)) : VV g x M k n pc L (.int b :: .int a :: rest) := by
  obtain ⟨p, e, R, s, m, args, below, meth, c, nL, Q⟩ := x
  subst hq
  exact fun H locs ls hw hS hl => lv_idiv C.1.1 C.1.2.1 hd hne (kk H locs ls hw hS hl)
theorem v_ishr (C : CX g x cc own fr ce sl lc) (q : Nat) {a b : Int32} (hd : decode cc pc = .ok (.ishr, 1)) (hq : pc + 1 = q) (kk : VV g x M k n q L (.int (a >>> (b &&& 31)) :: rest)) : VV g x M k n pc L (.int b :: .int a :: rest) := by
  obtain ⟨p, e, R, s, m, args, below, meth, c, nL, Q⟩ := x
  subst hq
  exact fun H locs ls hw hS hl => lv_ishr C.1.1 C.1.2.1 hd (kk H locs ls hw hS hl)
theorem v_ineg (C : CX g x cc own fr ce sl lc) (q : Nat) {a : Int32} (hd : decode cc pc = .ok (.ineg, 1)) (hq : pc + 1 = q) (kk : VV g x M k n q L (.int (-a) :: rest)) : VV g x M k n pc L (.int a :: rest) := by
  obtain ⟨p, e, R, s, m, args, below, meth, c, nL, Q⟩ := x
  subst hq
  exact fun H locs ls hw hS hl => lv_ineg C.1.1 C.1.2.1 hd (kk H locs ls hw hS hl)
theorem v_dup (C : CX g x cc own fr ce sl lc) (q : Nat) {v : Value} (hd : decode cc pc = .ok (.dup, 1)) (hq : pc + 1 = q) (hv : v.category = 1) (kk : VV g x M k n q L (v :: v :: rest)) : VV g x M k n pc L (v :: rest) := by
  obtain ⟨p, e, R, s, m, args, below, meth, c, nL, Q⟩ := x
  subst hq
  exact fun H locs ls hw hS hl => lv_dup C.1.1 C.1.2.1 hd hv (kk H locs ls hw hS hl)
theorem v_pop (C : CX g x cc own fr ce sl lc) (q : Nat) {v : Value} (hd : decode cc pc = .ok (.pop, 1)) (hq : pc + 1 = q) (hv : v.category = 1) (kk : VV g x M k n q L (rest)) : VV g x M k n pc L (v :: rest) := by
  obtain ⟨p, e, R, s, m, args, below, meth, c, nL, Q⟩ := x
  subst hq
  exact fun H locs ls hw hS hl => lv_pop C.1.1 C.1.2.1 hd hv (kk H locs ls hw hS hl)
theorem v_dup_x1 (C : CX g x cc own fr ce sl lc) (q : Nat) {v w : Value} (hd : decode cc pc = .ok (.dup_x1, 1)) (hq : pc + 1 = q) (hv : v.category = 1) (hv2 : w.category = 1) (kk : VV g x M k n q L (v :: w :: v :: rest)) : VV g x M k n pc L (v :: w :: rest) := by
  obtain ⟨p, e, R, s, m, args, below, meth, c, nL, Q⟩ := x
  subst hq
  exact fun H locs ls hw hS hl => lv_dup_x1 C.1.1 C.1.2.1 hd hv hv2 (kk H locs ls hw hS hl)
theorem v_null (C : CX g x cc own fr ce sl lc) (q : Nat) (hd : decode cc pc = .ok (.aconst_null, 1)) (hq : pc + 1 = q) (kk : VV g x M k n q L (.null :: rest)) : VV g x M k n pc L (rest) := by
  obtain ⟨p, e, R, s, m, args, below, meth, c, nL, Q⟩ := x
  subst hq
  exact fun H locs ls hw hS hl => lv_null C.1.1 C.1.2.1 hd (kk H locs ls hw hS hl)
theorem v_if_eq (C : CX g x cc own fr ce sl lc) (q t : Nat) {a : Int32} {off : Int} (hd : decode cc pc = .ok (.ifCond .eq off, 3)) (hq : pc + 3 = q) (ht : (pc : Int) + off = (t : Int)) (kt : a = 0 → VV g x M k n t L rest) (kf : ¬ a = 0 → VV g x M k n q L rest) : VV g x M k n pc L (.int a :: rest) := by
  obtain ⟨p, e, R, s, m, args, below, meth, c, nL, Q⟩ := x
  subst hq
  exact fun H locs ls hw hS hl => lv_if_eq C.1.1 C.1.2.1 hd ht (fun h => kt h H locs ls hw hS hl) (fun h => kf h H locs ls hw hS hl)
theorem v_icmp_eq (C : CX g x cc own fr ce sl lc) (q t : Nat) {a b : Int32} {off : Int} (hd : decode cc pc = .ok (.if_icmp .eq off, 3)) (hq : pc + 3 = q) (ht : (pc : Int) + off = (t : Int)) (kt : a = b → VV g x M k n t L rest) (kf : ¬ a = b → VV g x M k n q L rest) : VV g x M k n pc L (.int b :: .int a :: rest) := by
  obtain ⟨p, e, R, s, m, args, below, meth, c, nL, Q⟩ := x
  subst hq
  exact fun H locs ls hw hS hl => lv_icmp_eq C.1.1 C.1.2.1 hd ht (fun h => kt h H locs ls hw hS hl) (fun h => kf h H locs ls hw hS hl)
theorem v_if_ne (C : CX g x cc own fr ce sl lc) (q t : Nat) {a : Int32} {off : Int} (hd : decode cc pc = .ok (.ifCond .ne off, 3)) (hq : pc + 3 = q) (ht : (pc : Int) + off = (t : Int)) (kt : ¬ a = 0 → VV g x M k n t L rest) (kf : a = 0 → VV g x M k n q L rest) : VV g x M k n pc L (.int a :: rest) := by
  obtain ⟨p, e, R, s, m, args, below, meth, c, nL, Q⟩ := x
  subst hq
  exact fun H locs ls hw hS hl => lv_if_ne C.1.1 C.1.2.1 hd ht (fun h => kt h H locs ls hw hS hl) (fun h => kf h H locs ls hw hS hl)
theorem v_icmp_ne (C : CX g x cc own fr ce sl lc) (q t : Nat) {a b : Int32} {off : Int} (hd : decode cc pc = .ok (.if_icmp .ne off, 3)) (hq : pc + 3 = q) (ht : (pc : Int) + off = (t : Int)) (kt : ¬ a = b → VV g x M k n t L rest) (kf : a = b → VV g x M k n q L rest) : VV g x M k n pc L (.int b :: .int a :: rest) := by
  obtain ⟨p, e, R, s, m, args, below, meth, c, nL, Q⟩ := x
  subst hq
  exact fun H locs ls hw hS hl => lv_icmp_ne C.1.1 C.1.2.1 hd ht (fun h => kt h H locs ls hw hS hl) (fun h => kf h H locs ls hw hS hl)
theorem v_if_lt (C : CX g x cc own fr ce sl lc) (q t : Nat) {a : Int32} {off : Int} (hd : decode cc pc = .ok (.ifCond .lt off, 3)) (hq : pc + 3 = q) (ht : (pc : Int) + off = (t : Int)) (kt : a < 0 → VV g x M k n t L rest) (kf : ¬ a < 0 → VV g x M k n q L rest) : VV g x M k n pc L (.int a :: rest) := by
  obtain ⟨p, e, R, s, m, args, below, meth, c, nL, Q⟩ := x
  subst hq
  exact fun H locs ls hw hS hl => lv_if_lt C.1.1 C.1.2.1 hd ht (fun h => kt h H locs ls hw hS hl) (fun h => kf h H locs ls hw hS hl)
theorem v_icmp_lt (C : CX g x cc own fr ce sl lc) (q t : Nat) {a b : Int32} {off : Int} (hd : decode cc pc = .ok (.if_icmp .lt off, 3)) (hq : pc + 3 = q) (ht : (pc : Int) + off = (t : Int)) (kt : a < b → VV g x M k n t L rest) (kf : ¬ a < b → VV g x M k n q L rest) : VV g x M k n pc L (.int b :: .int a :: rest) := by
  obtain ⟨p, e, R, s, m, args, below, meth, c, nL, Q⟩ := x
  subst hq
  exact fun H locs ls hw hS hl => lv_icmp_lt C.1.1 C.1.2.1 hd ht (fun h => kt h H locs ls hw hS hl) (fun h => kf h H locs ls hw hS hl)
theorem v_if_ge (C : CX g x cc own fr ce sl lc) (q t : Nat) {a : Int32} {off : Int} (hd : decode cc pc = .ok (.ifCond .ge off, 3)) (hq : pc + 3 = q) (ht : (pc : Int) + off = (t : Int)) (kt : 0 ≤ a → VV g x M k n t L rest) (kf : ¬ 0 ≤ a → VV g x M k n q L rest) : VV g x M k n pc L (.int a :: rest) := by
  obtain ⟨p, e, R, s, m, args, below, meth, c, nL, Q⟩ := x
  subst hq
  exact fun H locs ls hw hS hl => lv_if_ge C.1.1 C.1.2.1 hd ht (fun h => kt h H locs ls hw hS hl) (fun h => kf h H locs ls hw hS hl)
theorem v_icmp_ge (C : CX g x cc own fr ce sl lc) (q t : Nat) {a b : Int32} {off : Int} (hd : decode cc pc = .ok (.if_icmp .ge off, 3)) (hq : pc + 3 = q) (ht : (pc : Int) + off = (t : Int)) (kt : b ≤ a → VV g x M k n t L rest) (kf : ¬ b ≤ a → VV g x M k n q L rest) : VV g x M k n pc L (.int b :: .int a :: rest) := by
  obtain ⟨p, e, R, s, m, args, below, meth, c, nL, Q⟩ := x
  subst hq
  exact fun H locs ls hw hS hl => lv_icmp_ge C.1.1 C.1.2.1 hd ht (fun h => kt h H locs ls hw hS hl) (fun h => kf h H locs ls hw hS hl)
theorem v_if_gt (C : CX g x cc own fr ce sl lc) (q t : Nat) {a : Int32} {off : Int} (hd : decode cc pc = .ok (.ifCond .gt off, 3)) (hq : pc + 3 = q) (ht : (pc : Int) + off = (t : Int)) (kt : 0 < a → VV g x M k n t L rest) (kf : ¬ 0 < a → VV g x M k n q L rest) : VV g x M k n pc L (.int a :: rest) := by
  obtain ⟨p, e, R, s, m, args, below, meth, c, nL, Q⟩ := x
  subst hq
  exact fun H locs ls hw hS hl => lv_if_gt C.1.1 C.1.2.1 hd ht (fun h => kt h H locs ls hw hS hl) (fun h => kf h H locs ls hw hS hl)
theorem v_icmp_gt (C : CX g x cc own fr ce sl lc) (q t : Nat) {a b : Int32} {off : Int} (hd : decode cc pc = .ok (.if_icmp .gt off, 3)) (hq : pc + 3 = q) (ht : (pc : Int) + off = (t : Int)) (kt : b < a → VV g x M k n t L rest) (kf : ¬ b < a → VV g x M k n q L rest) : VV g x M k n pc L (.int b :: .int a :: rest) := by
  obtain ⟨p, e, R, s, m, args, below, meth, c, nL, Q⟩ := x
  subst hq
  exact fun H locs ls hw hS hl => lv_icmp_gt C.1.1 C.1.2.1 hd ht (fun h => kt h H locs ls hw hS hl) (fun h => kf h H locs ls hw hS hl)
theorem v_if_le (C : CX g x cc own fr ce sl lc) (q t : Nat) {a : Int32} {off : Int} (hd : decode cc pc = .ok (.ifCond .le off, 3)) (hq : pc + 3 = q) (ht : (pc : Int) + off = (t : Int)) (kt : a ≤ 0 → VV g x M k n t L rest) (kf : ¬ a ≤ 0 → VV g x M k n q L rest) : VV g x M k n pc L (.int a :: rest) := by
  obtain ⟨p, e, R, s, m, args, below, meth, c, nL, Q⟩ := x
  subst hq
  exact fun H locs ls hw hS hl => lv_if_le C.1.1 C.1.2.1 hd ht (fun h => kt h H locs ls hw hS hl) (fun h => kf h H locs ls hw hS hl)
theorem v_icmp_le (C : CX g x cc own fr ce sl lc) (q t : Nat) {a b : Int32} {off : Int} (hd : decode cc pc = .ok (.if_icmp .le off, 3)) (hq : pc + 3 = q) (ht : (pc : Int) + off = (t : Int)) (kt : a ≤ b → VV g x M k n t L rest) (kf : ¬ a ≤ b → VV g x M k n q L rest) : VV g x M k n pc L (.int b :: .int a :: rest) := by
  obtain ⟨p, e, R, s, m, args, below, meth, c, nL, Q⟩ := x
  subst hq
  exact fun H locs ls hw hS hl => lv_icmp_le C.1.1 C.1.2.1 hd ht (fun h => kt h H locs ls hw hS hl) (fun h => kf h H locs ls hw hS hl)
theorem v_goto (C : CX g x cc own fr ce sl lc) (q : Nat) {off : Int} (hd : decode cc pc = .ok (.goto off, 3)) (hq : (pc : Int) + off = (q : Int)) (kk : VV g x M k n q L rest) : VV g x M k n pc L rest := by
  obtain ⟨p, e, R, s, m, args, below, meth, c, nL, Q⟩ := x
  exact fun H locs ls hw hS hl => lv_goto C.1.1 C.1.2.1 hd hq (kk H locs ls hw hS hl)
theorem v_ifnull (C : CX g x cc own fr ce sl lc) (q t : Nat) {off : Int} {r : Option Nat} (hd : decode cc pc = .ok (.ifnull off, 3)) (hq : pc + 3 = q) (ht : (pc : Int) + off = (t : Int)) (kt : r = none → VV g x M k n t L rest) (kf : ∀ a : Nat, r = some a → VV g x M k n q L rest) : VV g x M k n pc L (va_rf r :: rest) := by
  obtain ⟨p, e, R, s, m, args, below, meth, c, nL, Q⟩ := x
  subst hq
  cases r with
  | none => exact fun H locs ls hw hS hl => lv_ifnullN C.1.1 C.1.2.1 hd ht (kt rfl H locs ls hw hS hl)
  | some a => exact fun H locs ls hw hS hl => lv_ifnull C.1.1 C.1.2.1 hd (kf a rfl H locs ls hw hS hl)
theorem v_ifnonnull (C : CX g x cc own fr ce sl lc) (q t : Nat) {off : Int} {r : Option Nat} (hd : decode cc pc = .ok (.ifnonnull off, 3)) (hq : pc + 3 = q) (ht : (pc : Int) + off = (t : Int)) (kt : ∀ a : Nat, r = some a → VV g x M k n t L rest) (kf : r = none → VV g x M k n q L rest) : VV g x M k n pc L (va_rf r :: rest) := by
  obtain ⟨p, e, R, s, m, args, below, meth, c, nL, Q⟩ := x
  subst hq
  cases r with
  | none => exact fun H locs ls hw hS hl => lv_ifnonnullN C.1.1 C.1.2.1 hd (kf rfl H locs ls hw hS hl)
  | some a => exact fun H locs ls hw hS hl => lv_ifnonnull C.1.1 C.1.2.1 hd ht (kt a rfl H locs ls hw hS hl)
theorem v_top (v w : Value) (h : v = w) (kk : VV g x M k n pc L (w :: rest)) : VV g x M k n pc L (v :: rest) := h ▸ kk
theorem v_eqL (L2 : List (Option Value)) (h : L = L2) (kk : VV g x M k n pc L2 rest) : VV g x M k n pc L rest := h ▸ kk
theorem v_eqM (M2 : mp_M) (h : M = M2) (kk : VV g x M2 k n pc L rest) : VV g x M k n pc L rest := h ▸ kk
theorem v_widen {k2 n2 : Nat} (h1 : k ≤ k2) (h2 : n ≤ n2) (kk : VV g x M k2 n2 pc L rest) : VV g x M k n pc L rest := by
  obtain ⟨p, e, R, s, m, args, below, meth, c, nL, Q⟩ := x
  exact fun H locs ls hw hS hl => W.widen h1 h2 (kk H locs ls hw hS hl)
theorem v_sub (M2 : mp_M) (h : ∀ (q : Nat) (e : va_E), M2 q = some e → M q = some e) (kk : VV g x M2 k n pc L rest) : VV g x M k n pc L rest := by
  obtain ⟨p, e, R, s, m, args, below, meth, c, nL, Q⟩ := x
  exact fun H locs ls hw hS hl => kk H locs ls ⟨hw.1, hw.2.choose, hw.2.choose_spec.1, hw.2.choose_spec.2.1, fun q e hq => hw.2.choose_spec.2.2 q e (h q e hq)⟩ hS hl
end VROWS
section VHEAP
variable {g : gx_T} {x : cx_T} {cc : ByteArray} {own : String} {fr ce sl lc : Nat} {M : mp_M} {k n pc : Nat} {L : List (Option Value)} {rest : List Value}
def fl_ok (ref : String) (t : String × String × String × Bool) : Prop := ref = t.1 ∨ Cond.sameField ref t.1 t.2.1 t.2.2.1 ∈ AL
theorem fl_use {ref : String} {t : String × String × String × Bool} {args : Array Value} {s : State} (h : fl_ok ref t) (hts : ∀ w ∈ AL, w.before args s = true) : ∀ y, s.fieldFound? t.1 t.2.1 t.2.2.1 = some y → s.fieldFound? ref t.2.1 t.2.2.1 = some y := by
  rcases h with h | h
  · subst h
    exact fun _ h9 => h9
  · exact fun y h9 => u_same (hts _ h) y h9
theorem v_get (C : CX g x cc own fr ce sl lc) (q : Nat) {ref Cn : String} {T : u_T} {N ci idx a : Nat} {fs : List Value} {v : Value} (hin : ∀ w ∈ u_ws Cn T N, w ∈ AL) (hc : vwCl[ci]? = some (Cn, T, N)) (j : Nat) (hj : j < N) (hlk : Cond.fieldLink own idx ref (T j).2.1 (T j).2.2.1 ∈ AL) (hs : fl_ok ref (T j)) (hd : decode cc pc = .ok (.getfield idx, 3)) (hq : pc + 3 = q) (hM : M a = some (.inr (ci, fs))) (hv : fs[j]? = some v) (kk : VV g x M k n q L (v :: rest)) : VV g x M k n pc L (.ref a :: rest) := by
  obtain ⟨p, e, R, s, m, args, below, meth, c, nL, Q⟩ := x
  subst hq
  obtain ⟨⟨hx, hb, hml, hown, hts⟩, hK, -, -⟩ := C
  intro H locs ls hw hS hl
  obtain ⟨-, ws, hP, hD, hm⟩ := id hw
  obtain ⟨q0, hq0⟩ := hm _ _ hM
  exact va_get hx hb hts hin hown hK.1 hP q0 hq0 hc j hj (hts _ hlk) (fl_use hs hts) hv hd (kk H locs ls hw hS hl)
theorem v_put (C : CX g x cc own fr ce sl lc) (q : Nat) {ref Cn : String} {T : u_T} {N ci idx a : Nat} {fs : List Value} {v : Value} (hin : ∀ w ∈ u_ws Cn T N, w ∈ AL) (ty0 : Nat → FieldType) (hty : ∀ k, k < N → parseFieldDescriptor (T k).2.2.1 = some (ty0 k)) (hnm : ∀ a, a < N → ∀ b, b < N → a ≠ b → (T a).2.1 ≠ (T b).2.1) (hc : vwCl[ci]? = some (Cn, T, N)) (j : Nat) (hj : j < N) (hlk : Cond.fieldLink own idx ref (T j).2.1 (T j).2.2.1 ∈ AL) (hs : fl_ok ref (T j)) (hfin : (T j).2.2.2 = false) {ty : FieldType} (hdz : parseFieldDescriptor (T j).2.2.1 = some ty) (hd : decode cc pc = .ok (.putfield idx, 3)) (hq : pc + 3 = q) (hn : narrow ty v = v) (hfit : fits ty v = true) (hM : M a = some (.inr (ci, fs))) (hl2 : j < fs.length) (fs2 : List Value) (hfs : fs.set j v = fs2) (kk : VV g x (mp_u M a (.inr (ci, fs2))) k n q L rest) : VV g x M k n pc L (v :: .ref a :: rest) := by
  obtain ⟨p, e, R, s, m, args, below, meth, c, nL, Q⟩ := x
  subst hq
  subst hfs
  obtain ⟨⟨hx, hb, hml, hown, hts⟩, hK, -, hz⟩ := C
  intro H locs ls hw hS hl
  obtain ⟨-, ws, hP, hD, hm⟩ := id hw
  obtain ⟨q0, hq0⟩ := hm _ _ hM
  exact va_put hx hb hts hin ty0 hty hnm hown hK.1 hP hD hS q0 hq0 hc j hj (hts _ hlk) (fl_use hs hts) hfin hdz hn hfit hl2 hd (fun H1 locs1 hP1 hD1 hS1 => kk H1 locs1 ls ⟨Nat.le_trans hz hS1.1, _, hP1, hD1, mp_set hD hm hq0⟩ hS1 hl)
theorem v_putF (C : CX g x cc own fr ce sl lc) (I : IX x) (q : Nat) {ref Cn : String} {T : u_T} {N ci idx a : Nat} {fs : List Value} {v : Value} (hin : ∀ w ∈ u_ws Cn T N, w ∈ AL) (ty0 : Nat → FieldType) (hty : ∀ k, k < N → parseFieldDescriptor (T k).2.2.1 = some (ty0 k)) (hnm : ∀ a, a < N → ∀ b, b < N → a ≠ b → (T a).2.1 ≠ (T b).2.1) (hc : vwCl[ci]? = some (Cn, T, N)) (j : Nat) (hj : j < N) (hlk : Cond.fieldLink own idx ref (T j).2.1 (T j).2.2.1 ∈ AL) (hs : fl_ok ref (T j)) (hfin : (T j).2.2.2 = true) (hdecl : (T j).1 = own) {ty : FieldType} (hdz : parseFieldDescriptor (T j).2.2.1 = some ty) (hd : decode cc pc = .ok (.putfield idx, 3)) (hq : pc + 3 = q) (hn : narrow ty v = v) (hfit : fits ty v = true) (hM : M a = some (.inr (ci, fs))) (hl2 : j < fs.length) (fs2 : List Value) (hfs : fs.set j v = fs2) (kk : VV g x (mp_u M a (.inr (ci, fs2))) k n q L rest) : VV g x M k n pc L (v :: .ref a :: rest) := by
  obtain ⟨p, e, R, s, m, args, below, meth, c, nL, Q⟩ := x
  subst hq
  subst hfs
  obtain ⟨⟨hx, hb, hml, hown, hts⟩, hK, -, hz⟩ := C
  intro H locs ls hw hS hl
  obtain ⟨-, ws, hP, hD, hm⟩ := id hw
  obtain ⟨q0, hq0⟩ := hm _ _ hM
  exact va_putF hx hb hts hin ty0 hty hnm hown hK.1 hP hD hS q0 hq0 hc j hj (hts _ hlk) (fl_use hs hts) hfin I hdecl hdz hn hfit hl2 hd (fun H1 locs1 hP1 hD1 hS1 => kk H1 locs1 ls ⟨Nat.le_trans hz hS1.1, _, hP1, hD1, mp_set hD hm hq0⟩ hS1 hl)
theorem v_new (C : CX g x cc own fr ce sl lc) (q : Nat) {Cn : String} {T : u_T} {N ci idx : Nat} (hin : ∀ w ∈ u_ws Cn T N, w ∈ AL) (ty0 : Nat → FieldType) (hty : ∀ k, k < N → parseFieldDescriptor (T k).2.2.1 = some (ty0 k)) (hc : vwCl[ci]? = some (Cn, T, N)) (hlk : Cond.classLink own idx Cn ∈ AL) (hin2 : Cond.instantiable Cn N ∈ AL) (hini : Cond.initialized Cn ∈ AL) {fs : List Value} (hfs : ∀ j, j < N → defaultValue (ty0 j) = vp_V fs j) (hd : decode cc pc = .ok (.new idx, 3)) (hq : pc + 3 = q) (hcells : k + 1 ≤ ce) (hslots : n + N ≤ sl) (kk : ∀ a : Nat, M a = none → VV g x (mp_u M a (.inr (ci, fs))) (k + 1) (n + N) q L (.ref a :: rest)) : VV g x M k n pc L rest := by
  obtain ⟨p, e, R, s, m, args, below, meth, c, nL, Q⟩ := x
  subst hq
  obtain ⟨⟨hx, hb, hml, hown, hts⟩, hK, hR, hz⟩ := C
  subst hR
  intro H locs ls hw hS hl
  obtain ⟨-, ws, hP, hD, hm⟩ := id hw
  refine va_new hx hb hts hin ty0 hty hown (hts _ hlk) (hts _ hin2) (hts _ hini) hK.1 hP hD hS (fun q h => Nat.le_trans hz h) hc hfs hcells hslots hd (fun a H1 hP1 hD1 hS1 => ?_)
  obtain ⟨h1, h2⟩ := mp_push hD1 hm
  exact kk a h1 H1 locs ls ⟨Nat.le_trans hz hS1.1, _, hP1, hD1, h2⟩ hS1 hl
theorem v_alen (C : CX g x cc own fr ce sl lc) (q : Nat) (t0 : Nat) {a N : Nat} {cA : ClassId} {y : (Nat → Int32) ⊕ (Nat → Int64) ⊕ (Nat → UInt32) ⊕ (Nat → UInt64) ⊕ (Nat → Option Nat)} {ty : FieldType} (ht : (gx_t g)[t0]? = some (cA, ty)) (hd : decode cc pc = .ok (.arraylength, 1)) (hq : pc + 1 = q) (hM : M a = some (.inl (cA, N, y))) (kk : VV g x M k n q L (.int (nI N) :: rest)) : VV g x M k n pc L (.ref a :: rest) := by
  obtain ⟨p, e, R, s, m, args, below, meth, c, nL, Q⟩ := x
  subst hq
  obtain ⟨⟨hx, hb, hml, hown, hts⟩, hK, -, hz⟩ := C
  intro H locs ls hw hS hl
  obtain ⟨-, ws, hP, hD, hm⟩ := id hw
  obtain ⟨q0, hq0⟩ := hm _ _ hM
  exact va_alen hx hb hK.1 hP q0 t0 hq0 ht rfl hd (kk H locs ls hw hS hl)
theorem v_aald (C : CX g x cc own fr ce sl lc) (q : Nat) (t0 : Nat) {a N : Nat} {cA : ClassId} {Cn : String} {f : Nat → Option Nat} {i : Int32} (ht : (gx_t g)[t0]? = some (cA, .object Cn)) (hd : decode cc pc = .ok (.aaload, 1)) (hq : pc + 1 = q) (hM : M a = some (.inl (cA, N, .inr (.inr (.inr (.inr f)))))) (j : Nat) (hi : i = nI j) (hj : j < N) (hN : N < 2 ^ 31) (kk : VV g x M k n q L (va_rf (f j) :: rest)) : VV g x M k n pc L (.int i :: .ref a :: rest) := by
  obtain ⟨p, e, R, s, m, args, below, meth, c, nL, Q⟩ := x
  subst hq
  subst hi
  obtain ⟨⟨hx, hb, hml, hown, hts⟩, hK, -, hz⟩ := C
  intro H locs ls hw hS hl
  obtain ⟨-, ws, hP, hD, hm⟩ := id hw
  obtain ⟨q0, hq0⟩ := hm _ _ hM
  refine va_aldq hx hb hK.1 hP q0 t0 hq0 ht (vp_in_nI hj hN) hd ?_
  rw [nI_clamp (Nat.lt_trans hj hN)]
  exact kk H locs ls hw hS hl
theorem v_iald (C : CX g x cc own fr ce sl lc) (q : Nat) {a N : Nat} {f : Nat → Int32} {i : Int32} (hd : decode cc pc = .ok (.iaload, 1)) (hq : pc + 1 = q) (hM : M a = some (.inl (gx_I g, N, .inl f))) (j : Nat) (hi : i = nI j) (hj : j < N) (hN : N < 2 ^ 31) (kk : VV g x M k n q L (.int (f j) :: rest)) : VV g x M k n pc L (.int i :: .ref a :: rest) := by
  obtain ⟨p, e, R, s, m, args, below, meth, c, nL, Q⟩ := x
  subst hq
  subst hi
  obtain ⟨⟨hx, hb, hml, hown, hts⟩, hK, -, hz⟩ := C
  intro H locs ls hw hS hl
  obtain ⟨-, ws, hP, hD, hm⟩ := id hw
  obtain ⟨q0, hq0⟩ := hm _ _ hM
  refine va_iald hx hb hK.1 hP q0 2 hq0 rfl (vp_in_nI hj hN) hd ?_
  rw [nI_clamp (Nat.lt_trans hj hN)]
  exact kk H locs ls hw hS hl
theorem v_iast (C : CX g x cc own fr ce sl lc) (q : Nat) {a N : Nat} {f : Nat → Int32} {i v : Int32} (hd : decode cc pc = .ok (.iastore, 1)) (hq : pc + 1 = q) (hM : M a = some (.inl (gx_I g, N, .inl f))) (j : Nat) (hi : i = nI j) (hj : j < N) (hN : N < 2 ^ 31) (kk : VV g x (mp_u M a (.inl (gx_I g, N, .inl (upd f j v)))) k n q L rest) : VV g x M k n pc L (.int v :: .int i :: .ref a :: rest) := by
  obtain ⟨p, e, R, s, m, args, below, meth, c, nL, Q⟩ := x
  subst hq
  subst hi
  obtain ⟨⟨hx, hb, hml, hown, hts⟩, hK, -, hz⟩ := C
  intro H locs ls hw hS hl
  obtain ⟨-, ws, hP, hD, hm⟩ := id hw
  obtain ⟨q0, hq0⟩ := hm _ _ hM
  refine va_iast hx hb hK.1 hP hD hS q0 2 hq0 rfl (vp_in_nI hj hN) hd (fun H1 locs1 hP1 hD1 hS1 => ?_)
  rw [nI_clamp (Nat.lt_trans hj hN)] at hP1 hD1
  exact kk H1 locs1 ls ⟨Nat.le_trans hz hS1.1, _, hP1, hD1, mp_set hD hm hq0⟩ hS1 hl
theorem v_aastN (C : CX g x cc own fr ce sl lc) (q : Nat) (t0 : Nat) {a N : Nat} {cA : ClassId} {Cn : String} {f : Nat → Option Nat} {i : Int32} (ht : (gx_t g)[t0]? = some (cA, .object Cn)) (hd : decode cc pc = .ok (.aastore, 1)) (hq : pc + 1 = q) (hM : M a = some (.inl (cA, N, .inr (.inr (.inr (.inr f)))))) (j : Nat) (hi : i = nI j) (hj : j < N) (hN : N < 2 ^ 31) (kk : VV g x (mp_u M a (.inl (cA, N, .inr (.inr (.inr (.inr (va_up f j none))))))) k n q L rest) : VV g x M k n pc L (.null :: .int i :: .ref a :: rest) := by
  obtain ⟨p, e, R, s, m, args, below, meth, c, nL, Q⟩ := x
  subst hq
  subst hi
  obtain ⟨⟨hx, hb, hml, hown, hts⟩, hK, -, hz⟩ := C
  intro H locs ls hw hS hl
  obtain ⟨-, ws, hP, hD, hm⟩ := id hw
  obtain ⟨q0, hq0⟩ := hm _ _ hM
  refine va_astqN hx hb hK.1 hP hD hS q0 t0 hq0 ht (vp_in_nI hj hN) hd (fun H1 locs1 hP1 hD1 hS1 => ?_)
  rw [nI_clamp (Nat.lt_trans hj hN)] at hP1 hD1
  exact kk H1 locs1 ls ⟨Nat.le_trans hz hS1.1, _, hP1, hD1, mp_set hD hm hq0⟩ hS1 hl
theorem v_aast (C : CX g x cc own fr ce sl lc) (q : Nat) (t0 ci : Nat) {a b N : Nat} {cA : ClassId} {r : vw_C} {vs : List Value} {f : Nat → Option Nat} {i : Int32} (ht : (gx_t g)[t0]? = some (cA, .object r.1)) (hc : vwCl[ci]? = some r) (hd : decode cc pc = .ok (.aastore, 1)) (hq : pc + 1 = q) (hM : M a = some (.inl (cA, N, .inr (.inr (.inr (.inr f)))))) (hb2 : M b = some (.inr (ci, vs))) (j : Nat) (hi : i = nI j) (hj : j < N) (hN : N < 2 ^ 31) (kk : VV g x (mp_u M a (.inl (cA, N, .inr (.inr (.inr (.inr (va_up f j (some b)))))))) k n q L rest) : VV g x M k n pc L (.ref b :: .int i :: .ref a :: rest) := by
  obtain ⟨p, e, R, s, m, args, below, meth, c, nL, Q⟩ := x
  subst hq
  subst hi
  obtain ⟨⟨hx, hb, hml, hown, hts⟩, hK, -, hz⟩ := C
  intro H locs ls hw hS hl
  obtain ⟨-, ws, hP, hD, hm⟩ := id hw
  obtain ⟨q0, hq0⟩ := hm _ _ hM
  obtain ⟨q1, hq1⟩ := hm _ _ hb2
  refine va_astq hx hb hK.1 hP hD hS q0 t0 q1 ci hq0 ht hq1 hc (vp_in_nI hj hN) hd (fun H1 locs1 hP1 hD1 hS1 => ?_)
  rw [nI_clamp (Nat.lt_trans hj hN)] at hP1 hD1
  exact kk H1 locs1 ls ⟨Nat.le_trans hz hS1.1, _, hP1, hD1, mp_set hD hm hq0⟩ hS1 hl
theorem v_newi (C : CX g x cc own fr ce sl lc) (q : Nat) {i : Int32} (harr : Cond.arrayClass .int ∈ AL) (hd : decode cc pc = .ok (.newarray .int, 2)) (hq : pc + 2 = q) (N : Nat) (hi : i = nI N) (hN : N < 100000) (hcells : k + 1 ≤ ce) (hslots : n + N ≤ sl) (kk : ∀ a : Nat, M a = none → VV g x (mp_u M a (.inl (gx_I g, N, .inl (fun _ => 0)))) (k + 1) (n + N) q L (.ref a :: rest)) : VV g x M k n pc L (.int i :: rest) := by
  obtain ⟨p, e, R, s, m, args, below, meth, c, nL, Q⟩ := x
  subst hq
  subst hi
  obtain ⟨⟨hx, hb, hml, hown, hts⟩, hK, hR, hz⟩ := C
  subst hR
  intro H locs ls hw hS hl
  obtain ⟨-, ws, hP, hD, hm⟩ := id hw
  refine va_newa (atype := .int) (a0 := (N, .inl (fun _ => 0))) hx hb (hts _ harr) (ty := .int) rfl hK.1 hP hD hS (fun q h => Nat.le_trans hz h) (fun cA => rfl) (nI_pos (by omega)) (nI_clamp (by omega)) (by show N * 4 ≤ _; omega) hcells hslots hd (fun a cB H1 hK1 hP1 hD1 hS1 => ?_)
  have hcA : cB = gx_I g := by
    have g1 := (hK1.2 (gx_t g).length (cB, .int) (by rw [List.getElem?_append_right (Nat.le_refl _), Nat.sub_self]; rfl)).2
    have g2 := (hK.1.2 2 _ rfl).2
    exact Option.some.inj (g1.symm.trans g2)
  subst hcA
  obtain ⟨h1, h2⟩ := mp_push hD1 hm
  exact kk a h1 H1 locs ls ⟨Nat.le_trans hz hS1.1, _, hP1, hD1, h2⟩ hS1 hl
theorem v_newq (C : CX g x cc own fr ce sl lc) (q : Nat) (t0 : Nat) {i : Int32} {cA : ClassId} {Cn : String} {idx : Nat} (ht : (gx_t g)[t0]? = some (cA, .object Cn)) (hao : ∀ s, mp_K g s → va_AO Cn s) (hlk : Cond.classLink own idx Cn ∈ AL) (hd : decode cc pc = .ok (.anewarray idx, 3)) (hq : pc + 3 = q) (N : Nat) (hi : i = nI N) (hN : N < 100000) (hcells : k + 1 ≤ ce) (hslots : n + N ≤ sl) (kk : ∀ a : Nat, M a = none → VV g x (mp_u M a (.inl (cA, N, .inr (.inr (.inr (.inr (fun _ => none))))))) (k + 1) (n + N) q L (.ref a :: rest)) : VV g x M k n pc L (.int i :: rest) := by
  obtain ⟨p, e, R, s, m, args, below, meth, c, nL, Q⟩ := x
  subst hq
  subst hi
  obtain ⟨⟨hx, hb, hml, hown, hts⟩, hK, hR, hz⟩ := C
  subst hR
  intro H locs ls hw hS hl
  obtain ⟨-, ws, hP, hD, hm⟩ := id hw
  refine va_newq hx hb hown (hts _ hlk) (hao s hK) hK.1 hP hD hS (fun q h => Nat.le_trans hz h) (nI_pos (by omega)) (nI_clamp (by omega)) (by omega) hcells hslots hd (fun a cB H1 hK1 hP1 hD1 hS1 => ?_)
  have hcA : cB = cA := by
    have g1 := (hK1.2 (gx_t g).length (cB, .object Cn) (by rw [List.getElem?_append_right (Nat.le_refl _), Nat.sub_self]; rfl)).2
    have g2 := (hK.1.2 t0 _ ht).2
    obtain ⟨_, _, _, _, _, e1⟩ := g1
    obtain ⟨_, _, _, _, _, e2⟩ := g2
    exact Option.some.inj (e1.symm.trans e2)
  subst hcA
  obtain ⟨h1, h2⟩ := mp_push hD1 hm
  exact kk a h1 H1 locs ls ⟨Nat.le_trans hz hS1.1, _, hP1, hD1, h2⟩ hS1 hl
theorem v_tableOut (C : CX g x cc own fr ce sl lc) (t : Nat) {dflt lo hi : Int} {offs : Array Int} {len : Nat} {v : Int32} (hd : decode cc pc = .ok (.tableswitch dflt lo hi offs, len)) (h : v.toInt < lo ∨ hi < v.toInt) (ht : (pc : Int) + dflt = (t : Int)) (kk : VV g x M k n t L rest) : VV g x M k n pc L (.int v :: rest) := by
  obtain ⟨p, e, R, s, m, args, below, meth, c, nL, Q⟩ := x
  exact fun H locs ls hw hS hl => lv_tableOut C.1.1 C.1.2.1 hd h ht (kk H locs ls hw hS hl)
theorem v_tableIn (C : CX g x cc own fr ce sl lc) (t : Nat) {dflt lo hi : Int} {offs : Array Int} {len : Nat} {v : Int32} {off : Int} (hd : decode cc pc = .ok (.tableswitch dflt lo hi offs, len)) (h1 : ¬ v.toInt < lo) (h2 : ¬ hi < v.toInt) (ho : offs[(v.toInt - lo).toNat]? = some off) (ht : (pc : Int) + off = (t : Int)) (kk : VV g x M k n t L rest) : VV g x M k n pc L (.int v :: rest) := by
  obtain ⟨p, e, R, s, m, args, below, meth, c, nL, Q⟩ := x
  exact fun H locs ls hw hS hl => lv_tableIn C.1.1 C.1.2.1 hd h1 h2 ho ht (kk H locs ls hw hS hl)
theorem v_ldc (C : CX g x cc own fr ce sl lc) (q : Nat) {idx : Nat} {v : Int32} (hc : Cond.constant own idx v ∈ AL) (hd : decode cc pc = .ok (.ldc idx, 2)) (hq : pc + 2 = q) (kk : VV g x M k n q L (.int v :: rest)) : VV g x M k n pc L rest := by
  obtain ⟨p, e, R, s, m, args, below, meth, c, nL, Q⟩ := x
  subst hq
  exact fun H locs ls hw hS hl => lv_ldc C.1.1 C.1.2.1 C.1.2.2.2.1 (C.1.2.2.2.2 _ hc) hd (kk H locs ls hw hS hl)
theorem v_objInit (C : CX g x cc own fr ce sl lc) (q : Nat) {idx a : Nat} (hlk : Cond.methodLink own idx Lib.objectInit ∈ AL) (hin : Cond.instanceMethod Lib.objectInit ∈ AL) (hco : Cond.code Lib.objectInit ⟨#[0xb1]⟩ 1 none ∈ AL) (hd : decode cc pc = .ok (.invokespecial idx, 3)) (hq : pc + 3 = q) (hfr : 1 ≤ fr) (hlo : (rest.map fun v => v.category).sum + 12 ≤ lc) (kk : VV g x M k n q L rest) : VV g x M k n pc L (.ref a :: rest) := by
  obtain ⟨p, e, R, s, m, args, below, meth, c, nL, Q⟩ := x
  subst hq
  obtain ⟨⟨hx, hb, hml, hown, hts⟩, hK, hR, hz⟩ := C
  subst hR
  intro H locs ls hw hS hl
  refine W.objInit hx hb hown (hts _ hlk) (hts _ hin) (hts _ hco) rfl (by rw [hml]; exact hl.1.1) rfl hd hfr (by show 2 * 0 + _ + 12 ≤ lc; omega) ?_
  exact kk H locs ls hw hS hl
theorem v_max (C : CX g x cc own fr ce sl lc) (q : Nat) {idx : Nat} {a b : Int32} (hlk : Cond.methodLink own idx Lib.Math.max.name ∈ AL) (hst : Cond.static Lib.Math.max.name ∈ AL) (hini : Cond.initialized "java/lang/Math" ∈ AL) (hco : Cond.code Lib.Math.max.name Lib.Math.max.code 2 (some .int) ∈ AL) (hd : decode cc pc = .ok (.invokestatic idx, 3)) (hq : pc + 3 = q) (hfr : 1 ≤ fr) (hlo : (rest.map fun v => v.category).sum + 13 ≤ lc) (hk : k ≤ ce) (hn : n ≤ sl) (kk : VV g x M k n q L (.int (if a < b then b else a) :: rest)) : VV g x M k n pc L (.int b :: .int a :: rest) := by
  obtain ⟨p, e, R, s, m, args, below, meth, c, nL, Q⟩ := x
  subst hq
  obtain ⟨⟨hx, hb, hml, hown, hts⟩, hK, hR, hz⟩ := C
  subst hR
  intro H locs ls hw hS hl
  exact va_mmax hx hb (by rw [hml]; exact hl.1.1.symm) hown (hts _ hlk) (hts _ hst) (hts _ hini) (hts _ hco) hfr hlo hk hn hd (kk H locs ls hw hS hl)
theorem v_min (C : CX g x cc own fr ce sl lc) (q : Nat) {idx : Nat} {a b : Int32} (hlk : Cond.methodLink own idx Lib.Math.min.name ∈ AL) (hst : Cond.static Lib.Math.min.name ∈ AL) (hini : Cond.initialized "java/lang/Math" ∈ AL) (hco : Cond.code Lib.Math.min.name Lib.Math.min.code 2 (some .int) ∈ AL) (hd : decode cc pc = .ok (.invokestatic idx, 3)) (hq : pc + 3 = q) (hfr : 1 ≤ fr) (hlo : (rest.map fun v => v.category).sum + 13 ≤ lc) (hk : k ≤ ce) (hn : n ≤ sl) (kk : VV g x M k n q L (.int (if b < a then b else a) :: rest)) : VV g x M k n pc L (.int b :: .int a :: rest) := by
  obtain ⟨p, e, R, s, m, args, below, meth, c, nL, Q⟩ := x
  subst hq
  obtain ⟨⟨hx, hb, hml, hown, hts⟩, hK, hR, hz⟩ := C
  subst hR
  intro H locs ls hw hS hl
  exact va_mmin hx hb (by rw [hml]; exact hl.1.1.symm) hown (hts _ hlk) (hts _ hst) (hts _ hini) (hts _ hco) hfr hlo hk hn hd (kk H locs ls hw hS hl)
theorem v_cast (C : CX g x cc own fr ce sl lc) (q : Nat) {Cn nm : String} {T : u_T} {N ci idx a : Nat} {fs : List Value} (hcl : vwCl[ci]? = some (Cn, T, N)) (hlk : Cond.classLink own idx nm ∈ AL) (hca : ∀ s, mp_K g s → va_Nw (.castable Cn nm) s) (hd : decode cc pc = .ok (.checkcast idx, 3)) (hq : pc + 3 = q) (hM : M a = some (.inr (ci, fs))) (kk : VV g x M k n q L (.ref a :: rest)) : VV g x M k n pc L (.ref a :: rest) := by
  obtain ⟨p, e, R, s, m, args, below, meth, c, nL, Q⟩ := x
  subst hq
  obtain ⟨⟨hx, hb, hml, hown, hts⟩, hK, -, -⟩ := C
  intro H locs ls hw hS hl
  obtain ⟨-, ws, hP, hD, hm⟩ := id hw
  obtain ⟨q0, hq0⟩ := hm _ _ hM
  exact va_castY hx hb hown (hts _ hlk) (hca s hK) (va_recv hK.1 hP hcl hq0) hd (kk H locs ls hw hS hl)
end VHEAP
def pv (F : mp_M → Prop) : Option Value → mp_M → Prop := fun v M' => v = none ∧ F M'
def pi_ (F : Int32 → mp_M → Prop) : Option Value → mp_M → Prop := fun v M' => ∃ r : Int32, v = some (.int r) ∧ F r M'
def pq (F : Option Nat → mp_M → Prop) : Option Value → mp_M → Prop := fun v M' => ∃ r : Option Nat, v = some (va_rf r) ∧ F r M'
abbrev rm_ (lv mc ms : Nat) : Room := { frames := lv, cells := mc, slots := ms, locals := 40 * lv }
def Ct (g : gx_T) (y : MethodName) (cc : ByteArray) (nL : Nat) (ret : Option FieldType) (lv : Nat) (As : List Value) (M : mp_M) (Po : Option Value → mp_M → Prop) (mc ms : Nat) : Prop :=
  Met (gx_l g) y (.code y cc nL ret :: AL) (rm_ lv mc ms) (va_Pc As (fun U => mp_H g M U.heap ∧ mp_K g U)) (mp_Q g Po) mc ms (fun q => gx_z g ≤ q)
theorem ct_intro {g : gx_T} {y : MethodName} {cc : ByteArray} {nL : Nat} {ret : Option FieldType} {lv : Nat} {As : List Value} {M : mp_M} {Po : Option Value → mp_M → Prop} {mc ms : Nat} {L0 : List (Option Value)} (hy : plainName y.cls = true) (hn : As.length ≤ nL) (hA : (As.all fun v => v.category == 1) = true) (hL : As.map some ++ List.replicate (nL - As.length) none = L0)
    (body : ∀ x : cx_T, CX g x cc y.cls lv mc ms (40 * lv) → RX g x ret Po mc ms → (y.name = "<init>" → IX x) → VV g x M 0 0 0 L0 []) : Ct g y cc nL ret lv As M Po mc ms := by
  subst hL
  refine Met.ofW (cc := cc) (maxL := nL) (ret := ret) hy rfl ?_
  intro p e s m args below meth c s₁ B hml hv
  obtain ⟨rfl, hH, hK⟩ := hv
  have hts := atoms_spec (ws := .code y cc nL ret :: AL) B.pre
  have hown : s.vm.findClass y.cls = some m.cls := findClass_of_methodNamed B.named
  have hA2 : ∀ v, v ∈ As → v.category = 1 := fun v hv => by simpa using List.all_eq_true.mp hA v hv
  rw [lg_entry_eq]
  exact body (p, e, rm_ lv mc ms, s, m, As.toArray, below, meth, c, nL, MQ below (mp_Q g Po) As.toArray s mc ms (fun q => gx_z g ≤ q)) ⟨⟨B.exec, B.bytes, hml, hown, fun w hw => hts w (List.mem_cons_of_mem _ hw)⟩, hK, rfl, hH.1⟩ ⟨B.returns, B.notSynchronized, rfl⟩ (fun hi => (name_of_methodNamed B.named B.method).1.trans hi) s.heap [] _ hH va_S.rf (lx_entry As hn hA2)
section VRET
variable {g : gx_T} {x : cx_T} {cc : ByteArray} {own : String} {fr ce sl lc : Nat} {M : mp_M} {k n pc : Nat} {L : List (Option Value)} {Po : Option Value → mp_M → Prop} {mc ms : Nat}
theorem v_iret (C : CX g x cc own fr ce sl lc) (E : RX g x (some .int) Po mc ms) {v : Int32} (hd : decode cc pc = .ok (.ireturn, 1)) (hk : k ≤ mc) (hn : n ≤ ms) (hp : Po (some (.int v)) M) : VV g x M k n pc L [.int v] := by
  obtain ⟨p, e, R, s, m, args, below, meth, c, nL, Q⟩ := x
  obtain ⟨hr, hlk, hQ⟩ := E
  subst hQ
  exact fun H locs ls hw hS hl => W.widen hk hn (W.iret C.1.1 C.1.2.1 hr (fun t ht hW => ⟨⟨_, M, rfl, hp, by rw [ht]; exact hw⟩, hS.F ht⟩) hS.2.2 hd hlk)
theorem v_zret (C : CX g x cc own fr ce sl lc) (E : RX g x (some .boolean) Po mc ms) {v : Int32} (hd : decode cc pc = .ok (.ireturn, 1)) (hk : k ≤ mc) (hn : n ≤ ms) (hz : v = 0 ∨ v = 1) (hp : Po (some (.int v)) M) : VV g x M k n pc L [.int v] := by
  obtain ⟨p, e, R, s, m, args, below, meth, c, nL, Q⟩ := x
  obtain ⟨hr, hlk, hQ⟩ := E
  subst hQ
  exact fun H locs ls hw hS hl => W.widen hk hn (W.zret C.1.1 C.1.2.1 hr (by rcases hz with rfl | rfl <;> decide) (fun t ht hW => ⟨⟨_, M, rfl, hp, by rw [ht]; exact hw⟩, hS.F ht⟩) hS.2.2 hd hlk)
theorem v_vret (C : CX g x cc own fr ce sl lc) (E : RX g x none Po mc ms) (hd : decode cc pc = .ok (.return_, 1)) (hk : k ≤ mc) (hn : n ≤ ms) (hp : Po none M) : VV g x M k n pc L [] := by
  obtain ⟨p, e, R, s, m, args, below, meth, c, nL, Q⟩ := x
  obtain ⟨hr, hlk, hQ⟩ := E
  subst hQ
  exact fun H locs ls hw hS hl => W.widen hk hn (W.vret C.1.1 C.1.2.1 hr (fun t ht hW => ⟨⟨_, M, rfl, hp, by rw [ht]; exact hw⟩, hS.F ht⟩) hS.2.2 hd hlk)
theorem v_aret {rt : FieldType} (C : CX g x cc own fr ce sl lc) (E : RX g x (some rt) Po mc ms) {r : Option Nat} (hrt : (∃ n, rt = .object n) ∨ ∃ t, rt = .array t) (hd : decode cc pc = .ok (.areturn, 1)) (hk : k ≤ mc) (hn : n ≤ ms) (hp : Po (some (va_rf r)) M) : VV g x M k n pc L [va_rf r] := by
  obtain ⟨p, e, R, s, m, args, below, meth, c, nL, Q⟩ := x
  obtain ⟨hr, hlk, hQ⟩ := E
  subst hQ
  exact fun H locs ls hw hS hl => W.widen hk hn (W.aret C.1.1 C.1.2.1 hr hrt (va_rf_or r) (fun t ht hW => ⟨⟨_, M, rfl, hp, by rw [ht]; exact hw⟩, hS.F ht⟩) hS.2.2 hd hlk)
end VRET
def RN (g : gx_T) (x : cx_T) (M : mp_M) (k n pc : Nat) (L : List (Option Value)) (st0 rest : List Value) (Po : Option Value → mp_M → Prop) (mc ms : Nat) : Prop := match x with
  | (p, e, R, s, m, args, below, meth, c, nL, Q) => ∀ (H : Heap) (locs : List Loc) (ls : Array Slot), mp_H g M H → va_S (fun q => gx_z g ≤ q) s.heap H locs → lx ls nL L → ∃ a : Array Value, va_Run p (gx_l g) e R s m args below meth c H locs k n mc ms (F0 m pc ls st0) rest (mp_Q g Po a) (fun q => gx_z g ≤ q)
section VCALL
variable {g : gx_T} {x : cx_T} {cc : ByteArray} {own : String} {fr ce sl lc : Nat} {M : mp_M} {k n pc : Nat} {L : List (Option Value)} {st0 rest : List Value} {mc ms : Nat}
theorem v_run {Po : Option Value → mp_M → Prop} (q : Nat) (hr : RN g x M k n pc L st0 rest Po mc ms) (hq : pc + 3 = q) (kk : ∀ (v : Option Value) (M' : mp_M), Po v M' → VV g x M' (k + mc) (n + ms) q L (v.toList ++ rest)) : VV g x M k n pc L st0 := by
  obtain ⟨p, e, R, s, m, args, below, meth, c, nL, Q⟩ := x
  subst hq
  intro H locs ls hw hS hl T hT X
  obtain ⟨a, hra⟩ := hr H locs ls hw hS hl
  obtain ⟨v, st₀, t, T', L9, h0, X', hL, e1, e2, ⟨⟨v', M', hv, hp, hm⟩, hz, hk⟩, st⟩ := hra T hT X
  cases hv
  rw [h0] at hz hk
  obtain ⟨t2, a1, b1⟩ := kk v M' hp T'.heap (locs ++ L9) ls (by rw [e1]; exact hm)
    ⟨Nat.le_trans hS.1 (by rw [e1]; exact hz), fun q h1 h2 => by rw [e1, hk q (Nat.lt_of_lt_of_le h1 hS.1) h2]; exact hS.2.1 q h1 h2, fun q hq => by
      rcases List.mem_append.mp hq with h | h
      · exact hS.2.2 q h
      · exact hL q h⟩ hl T' rfl X'
  exact ⟨t2, st t2 a1, b1⟩
theorem v_rv {F : mp_M → Prop} (q : Nat) (hr : RN g x M k n pc L st0 rest (pv F) mc ms) (hq : pc + 3 = q) (kk : ∀ M' : mp_M, F M' → VV g x M' (k + mc) (n + ms) q L rest) : VV g x M k n pc L st0 :=
  v_run q hr hq (fun v M' h => by obtain ⟨rfl, h2⟩ := h; exact kk M' h2)
theorem v_ri {F : Int32 → mp_M → Prop} (q : Nat) (hr : RN g x M k n pc L st0 rest (pi_ F) mc ms) (hq : pc + 3 = q) (kk : ∀ (r : Int32) (M' : mp_M), F r M' → VV g x M' (k + mc) (n + ms) q L (.int r :: rest)) : VV g x M k n pc L st0 :=
  v_run q hr hq (fun v M' h => by obtain ⟨r, rfl, h2⟩ := h; exact kk r M' h2)
theorem v_rq {F : Option Nat → mp_M → Prop} (q : Nat) (hr : RN g x M k n pc L st0 rest (pq F) mc ms) (hq : pc + 3 = q) (kk : ∀ (r : Option Nat) (M' : mp_M), F r M' → VV g x M' (k + mc) (n + ms) q L (va_rf r :: rest)) : VV g x M k n pc L st0 :=
  v_run q hr hq (fun v M' h => by obtain ⟨r, rfl, h2⟩ := h; exact kk r M' h2)
variable {y : MethodName} {bytes : ByteArray} {maxL : Nat} {ret : Option FieldType} {lv idx : Nat} {As : List Value} {Po : Option Value → mp_M → Prop}
theorem AL_good : ∀ w ∈ AL, ((w.onTables && w.keeps) = true ∨ ∃ ty, w = .arrayClass ty) := AL_good0
theorem ct_GoodIn (hc : Cond.code y bytes maxL ret ∈ AL) : GoodIn AL (.code y bytes maxL ret :: AL) := by
  intro w hw
  rcases List.mem_cons.mp hw with h | h
  · subst h
    exact ⟨hc, AL_good _ hc⟩
  · exact ⟨h, AL_good _ h⟩
theorem ct_blind : FrameBlind (va_Pc As (fun U => mp_H g M U.heap ∧ mp_K g U)) := fun a U f mk h => ⟨h.1, h.2.1, h.2.2.calling⟩
theorem rn_V (C : CX g x cc own fr ce sl lc) {b ci : Nat} (hM : Ct g y bytes maxL ret lv (.ref b :: As) M Po mc ms) {T : u_T} {N nA : Nat} {fs : List Value} (hb : M b = some (.inr (ci, fs))) (hcl : vwCl[ci]? = some (y.cls, T, N)) (hlk : Cond.methodLink own idx y ∈ AL) (hin : Cond.instanceMethod y ∈ AL) (hse : Cond.selects y.cls y y ∈ AL) (hini : Cond.initialized y.cls ∈ AL) (hco : Cond.code y bytes maxL ret ∈ AL)
    (hd : y.cls ≠ "java/lang/invoke/MethodHandle" ∧ y.cls ≠ "java/lang/invoke/VarHandle" ∧ (parseMethodDescriptor y.desc).map (fun d => d.parameters.length) = some nA) (hnA : As.length = nA) (hst : st0 = As.reverse ++ .ref b :: rest) (hdg : decode cc pc = .ok (.invokevirtual idx, 3)) (hfr : lv + 1 ≤ fr) (hlc : 8 + (maxL + 11) + 40 * lv ≤ lc) (hW : (rest.map fun v => v.category).sum ≤ 8) (hk : k + mc ≤ ce) (hn : n + ms ≤ sl) : RN g x M k n pc L st0 rest Po mc ms := by
  obtain ⟨p, e, R, s, m, args, below, meth, c, nL, Q⟩ := x
  obtain ⟨⟨hx, hbc, hml, hown, hts⟩, hK, hR, hz⟩ := C
  subst hR
  subst hst
  intro H locs ls hw hS hl
  obtain ⟨-, ws, hP, hD, hm⟩ := id hw
  obtain ⟨q0, hq0⟩ := hm _ _ hb
  refine ⟨_, va_runV (nL := nL) (n := nA) (C := y.cls) (As := As) ⟨hx, hbc, hml, hown, hts⟩ hM ⟨callB_of nA hts (ct_GoodIn hco) rfl rfl rfl (hts _ hini) (hts _ hlk) hd ⟨hfr, hlc⟩, hts _ hin, hts _ hse⟩ ⟨ct_blind, va_recv hK.1 hP hcl hq0, fun U hU hWm => ⟨rfl, by rw [hU]; exact hw, hK.to hz hWm hU hS⟩⟩ rfl hnA hl.1.1 rfl (lv_room hW) hdg ⟨hk, hn⟩⟩
theorem rn_I (C : CX g x cc own fr ce sl lc) {b nA : Nat} (hM : Ct g y bytes maxL none lv (.ref b :: As) M Po mc ms) (hy1 : y.name = "<init>") (hlk : Cond.methodLink own idx y ∈ AL) (hin : Cond.instanceMethod y ∈ AL) (hini : Cond.initialized y.cls ∈ AL) (hco : Cond.code y bytes maxL none ∈ AL)
    (hd : y.cls ≠ "java/lang/invoke/MethodHandle" ∧ y.cls ≠ "java/lang/invoke/VarHandle" ∧ (parseMethodDescriptor y.desc).map (fun d => d.parameters.length) = some nA) (hnA : As.length = nA) (hst : st0 = As.reverse ++ .ref b :: rest) (hdg : decode cc pc = .ok (.invokespecial idx, 3)) (hfr : lv + 1 ≤ fr) (hlc : 8 + (maxL + 11) + 40 * lv ≤ lc) (hW : (rest.map fun v => v.category).sum ≤ 8) (hk : k + mc ≤ ce) (hn : n + ms ≤ sl) : RN g x M k n pc L st0 rest Po mc ms := by
  obtain ⟨p, e, R, s, m, args, below, meth, c, nL, Q⟩ := x
  obtain ⟨⟨hx, hbc, hml, hown, hts⟩, hK, hR, hz⟩ := C
  subst hR
  subst hst
  intro H locs ls hw hS hl
  refine ⟨_, va_runI (nL := nL) (n := nA) (b := b) (As := As) ⟨hx, hbc, hml, hown, hts⟩ hM (cwI nA hts (ct_GoodIn hco) rfl rfl rfl (hts _ hini) (hts _ hlk) (hts _ hin) hy1 hd ⟨hfr, hlc⟩) ⟨ct_blind, fun U hU hWm => ⟨rfl, by rw [hU]; exact hw, hK.to hz hWm hU hS⟩⟩ rfl hnA hl.1.1 rfl (lv_room hW) hdg ⟨hk, hn⟩⟩
theorem rn_S (C : CX g x cc own fr ce sl lc) {nA : Nat} (hM : Ct g y bytes maxL ret lv As M Po mc ms) (hlk : Cond.methodLink own idx y ∈ AL) (hst2 : Cond.static y ∈ AL) (hini : Cond.initialized y.cls ∈ AL) (hco : Cond.code y bytes maxL ret ∈ AL)
    (hd : y.cls ≠ "java/lang/invoke/MethodHandle" ∧ y.cls ≠ "java/lang/invoke/VarHandle" ∧ (parseMethodDescriptor y.desc).map (fun d => d.parameters.length) = some nA) (hnA : As.length = nA) (hst : st0 = As.reverse ++ rest) (hdg : decode cc pc = .ok (.invokestatic idx, 3)) (hfr : lv + 1 ≤ fr) (hlc : 8 + (maxL + 11) + 40 * lv ≤ lc) (hW : (rest.map fun v => v.category).sum ≤ 8) (hk : k + mc ≤ ce) (hn : n + ms ≤ sl) : RN g x M k n pc L st0 rest Po mc ms := by
  obtain ⟨p, e, R, s, m, args, below, meth, c, nL, Q⟩ := x
  obtain ⟨⟨hx, hbc, hml, hown, hts⟩, hK, hR, hz⟩ := C
  subst hR
  subst hst
  intro H locs ls hw hS hl
  refine ⟨_, va_runS (nL := nL) (n := nA) (As := As) ⟨hx, hbc, hml, hown, hts⟩ hM ⟨callB_of nA hts (ct_GoodIn hco) rfl rfl rfl (hts _ hini) (hts _ hlk) hd ⟨hfr, hlc⟩, hts _ hst2⟩ ⟨ct_blind, fun U hU hWm => ⟨rfl, by rw [hU]; exact hw, hK.to hz hWm hU hS⟩⟩ rfl hnA hl.1.1 rfl (lv_room hW) hdg ⟨hk, hn⟩⟩
theorem rn_SN (C : CX g x cc own fr ce sl lc) {nA : Nat} {host : String} (hM : Ct g y bytes maxL ret lv As M Po mc ms) (hlk : ∀ s, mp_K g s → va_Nw (.methodLinkNest own idx y host) s) (hst2 : Cond.static y ∈ AL) (hini : Cond.initialized y.cls ∈ AL) (hco : Cond.code y bytes maxL ret ∈ AL)
    (hd : y.cls ≠ "java/lang/invoke/MethodHandle" ∧ y.cls ≠ "java/lang/invoke/VarHandle" ∧ (parseMethodDescriptor y.desc).map (fun d => d.parameters.length) = some nA) (hnA : As.length = nA) (hst : st0 = As.reverse ++ rest) (hdg : decode cc pc = .ok (.invokestatic idx, 3)) (hfr : lv + 1 ≤ fr) (hlc : 8 + (maxL + 11) + 40 * lv ≤ lc) (hW : (rest.map fun v => v.category).sum ≤ 8) (hk : k + mc ≤ ce) (hn : n + ms ≤ sl) : RN g x M k n pc L st0 rest Po mc ms := by
  obtain ⟨p, e, R, s, m, args, below, meth, c, nL, Q⟩ := x
  obtain ⟨⟨hx, hbc, hml, hown, hts⟩, hK, hR, hz⟩ := C
  subst hR
  subst hst
  intro H locs ls hw hS hl
  refine ⟨_, va_runSN (nL := nL) (n := nA) (As := As) ⟨hx, hbc, hml, hown, hts⟩ hM ⟨va_cnB nA hts (ct_GoodIn hco) rfl rfl rfl (hlk s hK) (hts _ hini) hd ⟨hfr, hlc⟩, hts _ hst2, trivial⟩ ⟨ct_blind, fun U hU hWm => ⟨rfl, by rw [hU]; exact hw, hK.to hz hWm hU hS⟩⟩ rfl hnA hl.1.1 rfl (lv_room hW) hdg ⟨hk, hn⟩⟩
end VCALL
end
section
set_option maxRecDepth 20000 in
theorem hinE : ∀ w ∈ u_ws RXE TXE 5, w ∈ AL := by decide +kernel
set_option maxRecDepth 20000 in
theorem hinT : ∀ w ∈ u_ws RXT TXT 4, w ∈ AL := by decide +kernel
set_option maxRecDepth 20000 in
theorem hinS : ∀ w ∈ u_ws RXS TXS 8, w ∈ AL := by decide +kernel
set_option maxRecDepth 20000 in
theorem hinM : ∀ w ∈ u_ws RXM TXM 16, w ∈ AL := by decide +kernel
set_option maxRecDepth 20000 in
theorem hinA : ∀ w ∈ u_ws RXA TXA 3, w ∈ AL := by decide +kernel
section POOL
variable {g : gx_T} {x : cx_T} {cc : ByteArray} {fr ce sl lc : Nat} {M : mp_M} {k n pc : Nat} {L : List (Option Value)} {rest : List Value}
theorem nw_XL_7 (C : CX g x cc RXL fr ce sl lc) (q : Nat) (hd : decode cc pc = .ok (.new 7, 3)) (hq : pc + 3 = q) (hcells : k + 1 ≤ ce) (hslots : n + 8 ≤ sl) (kk : ∀ a : Nat, M a = none → VV g x (mp_u M a (.inr (ci_S, [.int 0, .int 0, .null, .null, .null, .int 0, .int 0, .int 0]))) (k + 1) (n + 8) q L (.ref a :: rest)) : VV g x M k n pc L rest := v_new C q hinS tyXS tyXS_ok rfl al_33 al_34 al_20 (by intro j hj; rcases (show j = 0 ∨ j = 1 ∨ j = 2 ∨ j = 3 ∨ j = 4 ∨ j = 5 ∨ j = 6 ∨ j = 7 by omega) with rfl | rfl | rfl | rfl | rfl | rfl | rfl | rfl <;> rfl) hd hq hcells hslots kk
theorem cl_XL_15 {st0 As : List Value} {Po : Option Value → mp_M → Prop} {lv mc ms : Nat} (C : CX g x cc RXL fr ce sl lc) {b : Nat} (hM : Ct g yXS_init cXS_init 3 none lv (.ref b :: As) M Po mc ms) (hdg : decode cc pc = .ok (.invokespecial 15, 3)) (hst : st0 = As.reverse ++ .ref b :: rest) (hnA : As.length = 2) (hfr : lv + 1 ≤ fr) (hlc : 8 + (3 + 11) + 40 * lv ≤ lc) (hW : (rest.map fun v => v.category).sum ≤ 8) (hk : k + mc ≤ ce) (hn : n + ms ≤ sl) : RN g x M k n pc L st0 rest Po mc ms := rn_I C hM rfl al_35 al_36 al_20 al_37 ⟨by decide, by decide, by decide +kernel⟩ hnA hst hdg hfr hlc hW hk hn
theorem oi_XS_3 (C : CX g x cc RXS fr ce sl lc) (q : Nat) {a : Nat} (hd : decode cc pc = .ok (.invokespecial 3, 3)) (hq : pc + 3 = q) (hfr : 1 ≤ fr) (hlo : (rest.map fun v => v.category).sum + 12 ≤ lc) (kk : VV g x M k n q L rest) : VV g x M k n pc L (.ref a :: rest) := v_objInit C q al_38 al_39 al_40 hd hq hfr hlo kk
theorem min_XS_9 (C : CX g x cc RXS fr ce sl lc) (q : Nat) {a b : Int32} (hd : decode cc pc = .ok (.invokestatic 9, 3)) (hq : pc + 3 = q) (hfr : 1 ≤ fr) (hlo : (rest.map fun v => v.category).sum + 13 ≤ lc) (hk : k ≤ ce) (hn : n ≤ sl) (kk : VV g x M k n q L (.int (if b < a then b else a) :: rest)) : VV g x M k n pc L (.int b :: .int a :: rest) := v_min C q al_41 al_42 al_21 al_43 hd hq hfr hlo hk hn kk
theorem max_XS_15 (C : CX g x cc RXS fr ce sl lc) (q : Nat) {a b : Int32} (hd : decode cc pc = .ok (.invokestatic 15, 3)) (hq : pc + 3 = q) (hfr : 1 ≤ fr) (hlo : (rest.map fun v => v.category).sum + 13 ≤ lc) (hk : k ≤ ce) (hn : n ≤ sl) (kk : VV g x M k n q L (.int (if a < b then b else a) :: rest)) : VV g x M k n pc L (.int b :: .int a :: rest) := v_max C q al_44 al_45 al_21 al_46 hd hq hfr hlo hk hn kk
theorem nw_XS_25 (C : CX g x cc RXS fr ce sl lc) (q : Nat) (hd : decode cc pc = .ok (.new 25, 3)) (hq : pc + 3 = q) (hcells : k + 1 ≤ ce) (hslots : n + 5 ≤ sl) (kk : ∀ a : Nat, M a = none → VV g x (mp_u M a (.inr (ci_E, [.int 0, .int 0, .int 0, .int 0, .int 0]))) (k + 1) (n + 5) q L (.ref a :: rest)) : VV g x M k n pc L rest := v_new C q hinE tyXE tyXE_ok rfl al_47 al_114 al_27 (by intro j hj; rcases (show j = 0 ∨ j = 1 ∨ j = 2 ∨ j = 3 ∨ j = 4 by omega) with rfl | rfl | rfl | rfl | rfl <;> rfl) hd hq hcells hslots kk
theorem na_XS_25 (C : CX g x cc RXS fr ce sl lc) (q : Nat) {i : Int32} (hd : decode cc pc = .ok (.anewarray 25, 3)) (hq : pc + 3 = q) (N : Nat) (hi : i = nI N) (hN : N < 100000) (hcells : k + 1 ≤ ce) (hslots : n + N ≤ sl) (kk : ∀ a : Nat, M a = none → VV g x (mp_u M a (.inl (gx_E g, N, .inr (.inr (.inr (.inr (fun _ => none))))))) (k + 1) (n + N) q L (.ref a :: rest)) : VV g x M k n pc L (.int i :: rest) := v_newq C q 0 rfl (fun s h => h.2.1) al_47 hd hq N hi hN hcells hslots kk
theorem nw_XS_31 (C : CX g x cc RXS fr ce sl lc) (q : Nat) (hd : decode cc pc = .ok (.new 31, 3)) (hq : pc + 3 = q) (hcells : k + 1 ≤ ce) (hslots : n + 3 ≤ sl) (kk : ∀ a : Nat, M a = none → VV g x (mp_u M a (.inr (ci_A, [.int 0, .null, .int 0]))) (k + 1) (n + 3) q L (.ref a :: rest)) : VV g x M k n pc L rest := v_new C q hinA tyXA tyXA_ok rfl al_48 al_49 al_24 (by intro j hj; rcases (show j = 0 ∨ j = 1 ∨ j = 2 by omega) with rfl | rfl | rfl <;> rfl) hd hq hcells hslots kk
theorem cl_XS_33 {st0 As : List Value} {Po : Option Value → mp_M → Prop} {lv mc ms : Nat} (C : CX g x cc RXS fr ce sl lc) {b : Nat} (hM : Ct g yXA_init cXA_init 1 none lv (.ref b :: As) M Po mc ms) (hdg : decode cc pc = .ok (.invokespecial 33, 3)) (hst : st0 = As.reverse ++ .ref b :: rest) (hnA : As.length = 0) (hfr : lv + 1 ≤ fr) (hlc : 8 + (1 + 11) + 40 * lv ≤ lc) (hW : (rest.map fun v => v.category).sum ≤ 8) (hk : k + mc ≤ ce) (hn : n + ms ≤ sl) : RN g x M k n pc L st0 rest Po mc ms := rn_I C hM rfl al_50 al_51 al_24 al_52 ⟨by decide, by decide, by decide +kernel⟩ hnA hst hdg hfr hlc hW hk hn
theorem cl_XA_1 {st0 As : List Value} {Po : Option Value → mp_M → Prop} {lv mc ms : Nat} (C : CX g x cc RXA fr ce sl lc) {b : Nat} (hM : Ct g yXB_init cXB_init 1 none lv (.ref b :: As) M Po mc ms) (hdg : decode cc pc = .ok (.invokespecial 1, 3)) (hst : st0 = As.reverse ++ .ref b :: rest) (hnA : As.length = 0) (hfr : lv + 1 ≤ fr) (hlc : 8 + (1 + 11) + 40 * lv ≤ lc) (hW : (rest.map fun v => v.category).sum ≤ 8) (hk : k + mc ≤ ce) (hn : n + ms ≤ sl) : RN g x M k n pc L st0 rest Po mc ms := rn_I C hM rfl al_53 al_54 al_23 al_55 ⟨by decide, by decide, by decide +kernel⟩ hnA hst hdg hfr hlc hW hk hn
theorem cl_XB_1 {st0 As : List Value} {Po : Option Value → mp_M → Prop} {lv mc ms : Nat} (C : CX g x cc RXB fr ce sl lc) {b : Nat} (hM : Ct g yXC_init cXC_init 1 none lv (.ref b :: As) M Po mc ms) (hdg : decode cc pc = .ok (.invokespecial 1, 3)) (hst : st0 = As.reverse ++ .ref b :: rest) (hnA : As.length = 0) (hfr : lv + 1 ≤ fr) (hlc : 8 + (1 + 11) + 40 * lv ≤ lc) (hW : (rest.map fun v => v.category).sum ≤ 8) (hk : k + mc ≤ ce) (hn : n + ms ≤ sl) : RN g x M k n pc L st0 rest Po mc ms := rn_I C hM rfl al_56 al_57 al_22 al_58 ⟨by decide, by decide, by decide +kernel⟩ hnA hst hdg hfr hlc hW hk hn
theorem oi_XC_1 (C : CX g x cc RXC fr ce sl lc) (q : Nat) {a : Nat} (hd : decode cc pc = .ok (.invokespecial 1, 3)) (hq : pc + 3 = q) (hfr : 1 ≤ fr) (hlo : (rest.map fun v => v.category).sum + 12 ≤ lc) (kk : VV g x M k n q L rest) : VV g x M k n pc L (.ref a :: rest) := v_objInit C q al_59 al_39 al_40 hd hq hfr hlo kk
theorem gt_XA_9 (C : CX g x cc RXA fr ce sl lc) (q : Nat) {a : Nat} {fs : List Value} {v : Value} (hd : decode cc pc = .ok (.getfield 9, 3)) (hq : pc + 3 = q) (hM : M a = some (.inr (ci_A, fs))) (hv : fs[1]? = some v) (kk : VV g x M k n q L (v :: rest)) : VV g x M k n pc L (.ref a :: rest) := v_get C q hinA rfl 1 (by decide) al_61 (Or.inl rfl) hd hq hM hv kk
theorem pt_XA_9 (C : CX g x cc RXA fr ce sl lc) (q : Nat) {a : Nat} {fs : List Value} {v : Value} (hd : decode cc pc = .ok (.putfield 9, 3)) (hq : pc + 3 = q) (hn : narrow (.array (.object "java/lang/Object")) v = v) (hfit : fits (.array (.object "java/lang/Object")) v = true) (hM : M a = some (.inr (ci_A, fs))) (hl2 : 1 < fs.length) (fs2 : List Value) (hfs : fs.set 1 v = fs2) (kk : VV g x (mp_u M a (.inr (ci_A, fs2))) k n q L rest) : VV g x M k n pc L (v :: .ref a :: rest) := v_put C q hinA tyXA tyXA_ok nmXA rfl 1 (by decide) al_61 (Or.inl rfl) rfl (by decide +kernel) hd hq hn hfit hM hl2 fs2 hfs kk
theorem gt_XA_48 (C : CX g x cc RXA fr ce sl lc) (q : Nat) {a : Nat} {fs : List Value} {v : Value} (hd : decode cc pc = .ok (.getfield 48, 3)) (hq : pc + 3 = q) (hM : M a = some (.inr (ci_A, fs))) (hv : fs[2]? = some v) (kk : VV g x M k n q L (v :: rest)) : VV g x M k n pc L (.ref a :: rest) := v_get C q hinA rfl 2 (by decide) al_62 (Or.inl rfl) hd hq hM hv kk
theorem pt_XA_48 (C : CX g x cc RXA fr ce sl lc) (q : Nat) {a : Nat} {fs : List Value} {v : Value} (hd : decode cc pc = .ok (.putfield 48, 3)) (hq : pc + 3 = q) (hn : narrow .int v = v) (hfit : fits .int v = true) (hM : M a = some (.inr (ci_A, fs))) (hl2 : 2 < fs.length) (fs2 : List Value) (hfs : fs.set 2 v = fs2) (kk : VV g x (mp_u M a (.inr (ci_A, fs2))) k n q L rest) : VV g x M k n pc L (v :: .ref a :: rest) := v_put C q hinA tyXA tyXA_ok nmXA rfl 2 (by decide) al_62 (Or.inl rfl) rfl (by decide +kernel) hd hq hn hfit hM hl2 fs2 hfs kk
theorem gt_XB_7 (C : CX g x cc RXB fr ce sl lc) (q : Nat) {a : Nat} {fs : List Value} {v : Value} (hd : decode cc pc = .ok (.getfield 7, 3)) (hq : pc + 3 = q) (hM : M a = some (.inr (ci_A, fs))) (hv : fs[0]? = some v) (kk : VV g x M k n q L (v :: rest)) : VV g x M k n pc L (.ref a :: rest) := v_get C q hinA rfl 0 (by decide) al_63 (Or.inl rfl) hd hq hM hv kk
theorem pt_XB_7 (C : CX g x cc RXB fr ce sl lc) (q : Nat) {a : Nat} {fs : List Value} {v : Value} (hd : decode cc pc = .ok (.putfield 7, 3)) (hq : pc + 3 = q) (hn : narrow .int v = v) (hfit : fits .int v = true) (hM : M a = some (.inr (ci_A, fs))) (hl2 : 0 < fs.length) (fs2 : List Value) (hfs : fs.set 0 v = fs2) (kk : VV g x (mp_u M a (.inr (ci_A, fs2))) k n q L rest) : VV g x M k n pc L (v :: .ref a :: rest) := v_put C q hinA tyXA tyXA_ok nmXA rfl 0 (by decide) al_63 (Or.inl rfl) rfl (by decide +kernel) hd hq hn hfit hM hl2 fs2 hfs kk
theorem gt_XA_63 (C : CX g x cc RXA fr ce sl lc) (q : Nat) {a : Nat} {fs : List Value} {v : Value} (hd : decode cc pc = .ok (.getfield 63, 3)) (hq : pc + 3 = q) (hM : M a = some (.inr (ci_A, fs))) (hv : fs[0]? = some v) (kk : VV g x M k n q L (v :: rest)) : VV g x M k n pc L (.ref a :: rest) := v_get C q hinA rfl 0 (by decide) al_64 (Or.inr al_65) hd hq hM hv kk
theorem pt_XA_63 (C : CX g x cc RXA fr ce sl lc) (q : Nat) {a : Nat} {fs : List Value} {v : Value} (hd : decode cc pc = .ok (.putfield 63, 3)) (hq : pc + 3 = q) (hn : narrow .int v = v) (hfit : fits .int v = true) (hM : M a = some (.inr (ci_A, fs))) (hl2 : 0 < fs.length) (fs2 : List Value) (hfs : fs.set 0 v = fs2) (kk : VV g x (mp_u M a (.inr (ci_A, fs2))) k n q L rest) : VV g x M k n pc L (v :: .ref a :: rest) := v_put C q hinA tyXA tyXA_ok nmXA rfl 0 (by decide) al_64 (Or.inr al_65) rfl (by decide +kernel) hd hq hn hfit hM hl2 fs2 hfs kk
theorem nw_XS_38 (C : CX g x cc RXS fr ce sl lc) (q : Nat) (hd : decode cc pc = .ok (.new 38, 3)) (hq : pc + 3 = q) (hcells : k + 1 ≤ ce) (hslots : n + 4 ≤ sl) (kk : ∀ a : Nat, M a = none → VV g x (mp_u M a (.inr (ci_T, [.int 0, .null, .int 0, .int 0]))) (k + 1) (n + 4) q L (.ref a :: rest)) : VV g x M k n pc L rest := v_new C q hinT tyXT tyXT_ok rfl al_69 al_70 al_25 (by intro j hj; rcases (show j = 0 ∨ j = 1 ∨ j = 2 ∨ j = 3 by omega) with rfl | rfl | rfl | rfl <;> rfl) hd hq hcells hslots kk
theorem ca_XS_38 (C : CX g x cc RXS fr ce sl lc) (q : Nat) {a : Nat} {fs : List Value} (hd : decode cc pc = .ok (.checkcast 38, 3)) (hq : pc + 3 = q) (hM : M a = some (.inr (ci_T, fs))) (kk : VV g x M k n q L (.ref a :: rest)) : VV g x M k n pc L (.ref a :: rest) := v_cast C q (ci := ci_T) rfl al_69 (fun s h => h.2.2.2.2.2.1) hd hq hM kk
theorem cl_XS_40 {st0 As : List Value} {Po : Option Value → mp_M → Prop} {lv mc ms : Nat} (C : CX g x cc RXS fr ce sl lc) {b : Nat} (hM : Ct g yXT_init cXT_init 2 none lv (.ref b :: As) M Po mc ms) (hdg : decode cc pc = .ok (.invokespecial 40, 3)) (hst : st0 = As.reverse ++ .ref b :: rest) (hnA : As.length = 1) (hfr : lv + 1 ≤ fr) (hlc : 8 + (2 + 11) + 40 * lv ≤ lc) (hW : (rest.map fun v => v.category).sum ≤ 8) (hk : k + mc ≤ ce) (hn : n + ms ≤ sl) : RN g x M k n pc L st0 rest Po mc ms := rn_I C hM rfl al_71 al_72 al_25 al_73 ⟨by decide, by decide, by decide +kernel⟩ hnA hst hdg hfr hlc hW hk hn
theorem oi_XT_3 (C : CX g x cc RXT fr ce sl lc) (q : Nat) {a : Nat} (hd : decode cc pc = .ok (.invokespecial 3, 3)) (hq : pc + 3 = q) (hfr : 1 ≤ fr) (hlo : (rest.map fun v => v.category).sum + 12 ≤ lc) (kk : VV g x M k n q L rest) : VV g x M k n pc L (.ref a :: rest) := v_objInit C q al_74 al_39 al_40 hd hq hfr hlo kk
theorem nw_XT_15 (C : CX g x cc RXT fr ce sl lc) (q : Nat) (hd : decode cc pc = .ok (.new 15, 3)) (hq : pc + 3 = q) (hcells : k + 1 ≤ ce) (hslots : n + 5 ≤ sl) (kk : ∀ a : Nat, M a = none → VV g x (mp_u M a (.inr (ci_E, [.int 0, .int 0, .int 0, .int 0, .int 0]))) (k + 1) (n + 5) q L (.ref a :: rest)) : VV g x M k n pc L rest := v_new C q hinE tyXE tyXE_ok rfl al_75 al_114 al_27 (by intro j hj; rcases (show j = 0 ∨ j = 1 ∨ j = 2 ∨ j = 3 ∨ j = 4 by omega) with rfl | rfl | rfl | rfl | rfl <;> rfl) hd hq hcells hslots kk
theorem na_XT_15 (C : CX g x cc RXT fr ce sl lc) (q : Nat) {i : Int32} (hd : decode cc pc = .ok (.anewarray 15, 3)) (hq : pc + 3 = q) (N : Nat) (hi : i = nI N) (hN : N < 100000) (hcells : k + 1 ≤ ce) (hslots : n + N ≤ sl) (kk : ∀ a : Nat, M a = none → VV g x (mp_u M a (.inl (gx_E g, N, .inr (.inr (.inr (.inr (fun _ => none))))))) (k + 1) (n + N) q L (.ref a :: rest)) : VV g x M k n pc L (.int i :: rest) := v_newq C q 0 rfl (fun s h => h.2.1) al_75 hd hq N hi hN hcells hslots kk
theorem gt_XT_9 (C : CX g x cc RXT fr ce sl lc) (q : Nat) {a : Nat} {fs : List Value} {v : Value} (hd : decode cc pc = .ok (.getfield 9, 3)) (hq : pc + 3 = q) (hM : M a = some (.inr (ci_T, fs))) (hv : fs[0]? = some v) (kk : VV g x M k n q L (v :: rest)) : VV g x M k n pc L (.ref a :: rest) := v_get C q hinT rfl 0 (by decide) al_76 (Or.inl rfl) hd hq hM hv kk
theorem pt_XT_9 (C : CX g x cc RXT fr ce sl lc) (I : IX x) (q : Nat) {a : Nat} {fs : List Value} {v : Value} (hd : decode cc pc = .ok (.putfield 9, 3)) (hq : pc + 3 = q) (hn : narrow .int v = v) (hfit : fits .int v = true) (hM : M a = some (.inr (ci_T, fs))) (hl2 : 0 < fs.length) (fs2 : List Value) (hfs : fs.set 0 v = fs2) (kk : VV g x (mp_u M a (.inr (ci_T, fs2))) k n q L rest) : VV g x M k n pc L (v :: .ref a :: rest) := v_putF C I q hinT tyXT tyXT_ok nmXT rfl 0 (by decide) al_76 (Or.inl rfl) rfl rfl (by decide +kernel) hd hq hn hfit hM hl2 fs2 hfs kk
theorem gt_XS_123 (C : CX g x cc RXS fr ce sl lc) (q : Nat) {a : Nat} {fs : List Value} {v : Value} (hd : decode cc pc = .ok (.getfield 123, 3)) (hq : pc + 3 = q) (hM : M a = some (.inr (ci_T, fs))) (hv : fs[0]? = some v) (kk : VV g x M k n q L (v :: rest)) : VV g x M k n pc L (.ref a :: rest) := v_get C q hinT rfl 0 (by decide) al_77 (Or.inl rfl) hd hq hM hv kk
theorem gt_XT_17 (C : CX g x cc RXT fr ce sl lc) (q : Nat) {a : Nat} {fs : List Value} {v : Value} (hd : decode cc pc = .ok (.getfield 17, 3)) (hq : pc + 3 = q) (hM : M a = some (.inr (ci_T, fs))) (hv : fs[1]? = some v) (kk : VV g x M k n q L (v :: rest)) : VV g x M k n pc L (.ref a :: rest) := v_get C q hinT rfl 1 (by decide) al_78 (Or.inl rfl) hd hq hM hv kk
theorem pt_XT_17 (C : CX g x cc RXT fr ce sl lc) (I : IX x) (q : Nat) {a : Nat} {fs : List Value} {v : Value} (hd : decode cc pc = .ok (.putfield 17, 3)) (hq : pc + 3 = q) (hn : narrow (.array (.object "WideStore$Entry")) v = v) (hfit : fits (.array (.object "WideStore$Entry")) v = true) (hM : M a = some (.inr (ci_T, fs))) (hl2 : 1 < fs.length) (fs2 : List Value) (hfs : fs.set 1 v = fs2) (kk : VV g x (mp_u M a (.inr (ci_T, fs2))) k n q L rest) : VV g x M k n pc L (v :: .ref a :: rest) := v_putF C I q hinT tyXT tyXT_ok nmXT rfl 1 (by decide) al_78 (Or.inl rfl) rfl rfl (by decide +kernel) hd hq hn hfit hM hl2 fs2 hfs kk
theorem gt_XT_21 (C : CX g x cc RXT fr ce sl lc) (q : Nat) {a : Nat} {fs : List Value} {v : Value} (hd : decode cc pc = .ok (.getfield 21, 3)) (hq : pc + 3 = q) (hM : M a = some (.inr (ci_T, fs))) (hv : fs[2]? = some v) (kk : VV g x M k n q L (v :: rest)) : VV g x M k n pc L (.ref a :: rest) := v_get C q hinT rfl 2 (by decide) al_79 (Or.inl rfl) hd hq hM hv kk
theorem pt_XT_21 (C : CX g x cc RXT fr ce sl lc) (q : Nat) {a : Nat} {fs : List Value} {v : Value} (hd : decode cc pc = .ok (.putfield 21, 3)) (hq : pc + 3 = q) (hn : narrow .int v = v) (hfit : fits .int v = true) (hM : M a = some (.inr (ci_T, fs))) (hl2 : 2 < fs.length) (fs2 : List Value) (hfs : fs.set 2 v = fs2) (kk : VV g x (mp_u M a (.inr (ci_T, fs2))) k n q L rest) : VV g x M k n pc L (v :: .ref a :: rest) := v_put C q hinT tyXT tyXT_ok nmXT rfl 2 (by decide) al_79 (Or.inl rfl) rfl (by decide +kernel) hd hq hn hfit hM hl2 fs2 hfs kk
theorem gt_XS_92 (C : CX g x cc RXS fr ce sl lc) (q : Nat) {a : Nat} {fs : List Value} {v : Value} (hd : decode cc pc = .ok (.getfield 92, 3)) (hq : pc + 3 = q) (hM : M a = some (.inr (ci_T, fs))) (hv : fs[2]? = some v) (kk : VV g x M k n q L (v :: rest)) : VV g x M k n pc L (.ref a :: rest) := v_get C q hinT rfl 2 (by decide) al_80 (Or.inl rfl) hd hq hM hv kk
theorem pt_XS_92 (C : CX g x cc RXS fr ce sl lc) (q : Nat) {a : Nat} {fs : List Value} {v : Value} (hd : decode cc pc = .ok (.putfield 92, 3)) (hq : pc + 3 = q) (hn : narrow .int v = v) (hfit : fits .int v = true) (hM : M a = some (.inr (ci_T, fs))) (hl2 : 2 < fs.length) (fs2 : List Value) (hfs : fs.set 2 v = fs2) (kk : VV g x (mp_u M a (.inr (ci_T, fs2))) k n q L rest) : VV g x M k n pc L (v :: .ref a :: rest) := v_put C q hinT tyXT tyXT_ok nmXT rfl 2 (by decide) al_80 (Or.inl rfl) rfl (by decide +kernel) hd hq hn hfit hM hl2 fs2 hfs kk
theorem gt_XT_24 (C : CX g x cc RXT fr ce sl lc) (q : Nat) {a : Nat} {fs : List Value} {v : Value} (hd : decode cc pc = .ok (.getfield 24, 3)) (hq : pc + 3 = q) (hM : M a = some (.inr (ci_T, fs))) (hv : fs[3]? = some v) (kk : VV g x M k n q L (v :: rest)) : VV g x M k n pc L (.ref a :: rest) := v_get C q hinT rfl 3 (by decide) al_81 (Or.inl rfl) hd hq hM hv kk
theorem pt_XT_24 (C : CX g x cc RXT fr ce sl lc) (q : Nat) {a : Nat} {fs : List Value} {v : Value} (hd : decode cc pc = .ok (.putfield 24, 3)) (hq : pc + 3 = q) (hn : narrow .int v = v) (hfit : fits .int v = true) (hM : M a = some (.inr (ci_T, fs))) (hl2 : 3 < fs.length) (fs2 : List Value) (hfs : fs.set 3 v = fs2) (kk : VV g x (mp_u M a (.inr (ci_T, fs2))) k n q L rest) : VV g x M k n pc L (v :: .ref a :: rest) := v_put C q hinT tyXT tyXT_ok nmXT rfl 3 (by decide) al_81 (Or.inl rfl) rfl (by decide +kernel) hd hq hn hfit hM hl2 fs2 hfs kk
theorem gt_XS_126 (C : CX g x cc RXS fr ce sl lc) (q : Nat) {a : Nat} {fs : List Value} {v : Value} (hd : decode cc pc = .ok (.getfield 126, 3)) (hq : pc + 3 = q) (hM : M a = some (.inr (ci_T, fs))) (hv : fs[3]? = some v) (kk : VV g x M k n q L (v :: rest)) : VV g x M k n pc L (.ref a :: rest) := v_get C q hinT rfl 3 (by decide) al_82 (Or.inl rfl) hd hq hM hv kk
theorem pt_XS_126 (C : CX g x cc RXS fr ce sl lc) (q : Nat) {a : Nat} {fs : List Value} {v : Value} (hd : decode cc pc = .ok (.putfield 126, 3)) (hq : pc + 3 = q) (hn : narrow .int v = v) (hfit : fits .int v = true) (hM : M a = some (.inr (ci_T, fs))) (hl2 : 3 < fs.length) (fs2 : List Value) (hfs : fs.set 3 v = fs2) (kk : VV g x (mp_u M a (.inr (ci_T, fs2))) k n q L rest) : VV g x M k n pc L (v :: .ref a :: rest) := v_put C q hinT tyXT tyXT_ok nmXT rfl 3 (by decide) al_82 (Or.inl rfl) rfl (by decide +kernel) hd hq hn hfit hM hl2 fs2 hfs kk
theorem gt_XS_18 (C : CX g x cc RXS fr ce sl lc) (q : Nat) {a : Nat} {fs : List Value} {v : Value} (hd : decode cc pc = .ok (.getfield 18, 3)) (hq : pc + 3 = q) (hM : M a = some (.inr (ci_S, fs))) (hv : fs[0]? = some v) (kk : VV g x M k n q L (v :: rest)) : VV g x M k n pc L (.ref a :: rest) := v_get C q hinS rfl 0 (by decide) al_87 (Or.inl rfl) hd hq hM hv kk
theorem pt_XS_18 (C : CX g x cc RXS fr ce sl lc) (I : IX x) (q : Nat) {a : Nat} {fs : List Value} {v : Value} (hd : decode cc pc = .ok (.putfield 18, 3)) (hq : pc + 3 = q) (hn : narrow .int v = v) (hfit : fits .int v = true) (hM : M a = some (.inr (ci_S, fs))) (hl2 : 0 < fs.length) (fs2 : List Value) (hfs : fs.set 0 v = fs2) (kk : VV g x (mp_u M a (.inr (ci_S, fs2))) k n q L rest) : VV g x M k n pc L (v :: .ref a :: rest) := v_putF C I q hinS tyXS tyXS_ok nmXS rfl 0 (by decide) al_87 (Or.inl rfl) rfl rfl (by decide +kernel) hd hq hn hfit hM hl2 fs2 hfs kk
theorem gt_XS_22 (C : CX g x cc RXS fr ce sl lc) (q : Nat) {a : Nat} {fs : List Value} {v : Value} (hd : decode cc pc = .ok (.getfield 22, 3)) (hq : pc + 3 = q) (hM : M a = some (.inr (ci_S, fs))) (hv : fs[1]? = some v) (kk : VV g x M k n q L (v :: rest)) : VV g x M k n pc L (.ref a :: rest) := v_get C q hinS rfl 1 (by decide) al_88 (Or.inl rfl) hd hq hM hv kk
theorem pt_XS_22 (C : CX g x cc RXS fr ce sl lc) (I : IX x) (q : Nat) {a : Nat} {fs : List Value} {v : Value} (hd : decode cc pc = .ok (.putfield 22, 3)) (hq : pc + 3 = q) (hn : narrow .int v = v) (hfit : fits .int v = true) (hM : M a = some (.inr (ci_S, fs))) (hl2 : 1 < fs.length) (fs2 : List Value) (hfs : fs.set 1 v = fs2) (kk : VV g x (mp_u M a (.inr (ci_S, fs2))) k n q L rest) : VV g x M k n pc L (v :: .ref a :: rest) := v_putF C I q hinS tyXS tyXS_ok nmXS rfl 1 (by decide) al_88 (Or.inl rfl) rfl rfl (by decide +kernel) hd hq hn hfit hM hl2 fs2 hfs kk
theorem gt_XS_27 (C : CX g x cc RXS fr ce sl lc) (q : Nat) {a : Nat} {fs : List Value} {v : Value} (hd : decode cc pc = .ok (.getfield 27, 3)) (hq : pc + 3 = q) (hM : M a = some (.inr (ci_S, fs))) (hv : fs[2]? = some v) (kk : VV g x M k n q L (v :: rest)) : VV g x M k n pc L (.ref a :: rest) := v_get C q hinS rfl 2 (by decide) al_89 (Or.inl rfl) hd hq hM hv kk
theorem pt_XS_27 (C : CX g x cc RXS fr ce sl lc) (I : IX x) (q : Nat) {a : Nat} {fs : List Value} {v : Value} (hd : decode cc pc = .ok (.putfield 27, 3)) (hq : pc + 3 = q) (hn : narrow (.array (.object "WideStore$Entry")) v = v) (hfit : fits (.array (.object "WideStore$Entry")) v = true) (hM : M a = some (.inr (ci_S, fs))) (hl2 : 2 < fs.length) (fs2 : List Value) (hfs : fs.set 2 v = fs2) (kk : VV g x (mp_u M a (.inr (ci_S, fs2))) k n q L rest) : VV g x M k n pc L (v :: .ref a :: rest) := v_putF C I q hinS tyXS tyXS_ok nmXS rfl 2 (by decide) al_89 (Or.inl rfl) rfl rfl (by decide +kernel) hd hq hn hfit hM hl2 fs2 hfs kk
theorem gt_XS_34 (C : CX g x cc RXS fr ce sl lc) (q : Nat) {a : Nat} {fs : List Value} {v : Value} (hd : decode cc pc = .ok (.getfield 34, 3)) (hq : pc + 3 = q) (hM : M a = some (.inr (ci_S, fs))) (hv : fs[3]? = some v) (kk : VV g x M k n q L (v :: rest)) : VV g x M k n pc L (.ref a :: rest) := v_get C q hinS rfl 3 (by decide) al_90 (Or.inl rfl) hd hq hM hv kk
theorem pt_XS_34 (C : CX g x cc RXS fr ce sl lc) (I : IX x) (q : Nat) {a : Nat} {fs : List Value} {v : Value} (hd : decode cc pc = .ok (.putfield 34, 3)) (hq : pc + 3 = q) (hn : narrow (.object "java/util/ArrayList") v = v) (hfit : fits (.object "java/util/ArrayList") v = true) (hM : M a = some (.inr (ci_S, fs))) (hl2 : 3 < fs.length) (fs2 : List Value) (hfs : fs.set 3 v = fs2) (kk : VV g x (mp_u M a (.inr (ci_S, fs2))) k n q L rest) : VV g x M k n pc L (v :: .ref a :: rest) := v_putF C I q hinS tyXS tyXS_ok nmXS rfl 3 (by decide) al_90 (Or.inl rfl) rfl rfl (by decide +kernel) hd hq hn hfit hM hl2 fs2 hfs kk
theorem gt_XS_43 (C : CX g x cc RXS fr ce sl lc) (q : Nat) {a : Nat} {fs : List Value} {v : Value} (hd : decode cc pc = .ok (.getfield 43, 3)) (hq : pc + 3 = q) (hM : M a = some (.inr (ci_S, fs))) (hv : fs[4]? = some v) (kk : VV g x M k n q L (v :: rest)) : VV g x M k n pc L (.ref a :: rest) := v_get C q hinS rfl 4 (by decide) al_91 (Or.inl rfl) hd hq hM hv kk
theorem pt_XS_43 (C : CX g x cc RXS fr ce sl lc) (q : Nat) {a : Nat} {fs : List Value} {v : Value} (hd : decode cc pc = .ok (.putfield 43, 3)) (hq : pc + 3 = q) (hn : narrow (.object "WideStore$Table") v = v) (hfit : fits (.object "WideStore$Table") v = true) (hM : M a = some (.inr (ci_S, fs))) (hl2 : 4 < fs.length) (fs2 : List Value) (hfs : fs.set 4 v = fs2) (kk : VV g x (mp_u M a (.inr (ci_S, fs2))) k n q L rest) : VV g x M k n pc L (v :: .ref a :: rest) := v_put C q hinS tyXS tyXS_ok nmXS rfl 4 (by decide) al_91 (Or.inl rfl) rfl (by decide +kernel) hd hq hn hfit hM hl2 fs2 hfs kk
theorem gt_XS_47 (C : CX g x cc RXS fr ce sl lc) (q : Nat) {a : Nat} {fs : List Value} {v : Value} (hd : decode cc pc = .ok (.getfield 47, 3)) (hq : pc + 3 = q) (hM : M a = some (.inr (ci_S, fs))) (hv : fs[5]? = some v) (kk : VV g x M k n q L (v :: rest)) : VV g x M k n pc L (.ref a :: rest) := v_get C q hinS rfl 5 (by decide) al_92 (Or.inl rfl) hd hq hM hv kk
theorem pt_XS_47 (C : CX g x cc RXS fr ce sl lc) (q : Nat) {a : Nat} {fs : List Value} {v : Value} (hd : decode cc pc = .ok (.putfield 47, 3)) (hq : pc + 3 = q) (hn : narrow .int v = v) (hfit : fits .int v = true) (hM : M a = some (.inr (ci_S, fs))) (hl2 : 5 < fs.length) (fs2 : List Value) (hfs : fs.set 5 v = fs2) (kk : VV g x (mp_u M a (.inr (ci_S, fs2))) k n q L rest) : VV g x M k n pc L (v :: .ref a :: rest) := v_put C q hinS tyXS tyXS_ok nmXS rfl 5 (by decide) al_92 (Or.inl rfl) rfl (by decide +kernel) hd hq hn hfit hM hl2 fs2 hfs kk
theorem gt_XS_50 (C : CX g x cc RXS fr ce sl lc) (q : Nat) {a : Nat} {fs : List Value} {v : Value} (hd : decode cc pc = .ok (.getfield 50, 3)) (hq : pc + 3 = q) (hM : M a = some (.inr (ci_S, fs))) (hv : fs[6]? = some v) (kk : VV g x M k n q L (v :: rest)) : VV g x M k n pc L (.ref a :: rest) := v_get C q hinS rfl 6 (by decide) al_93 (Or.inl rfl) hd hq hM hv kk
theorem pt_XS_50 (C : CX g x cc RXS fr ce sl lc) (q : Nat) {a : Nat} {fs : List Value} {v : Value} (hd : decode cc pc = .ok (.putfield 50, 3)) (hq : pc + 3 = q) (hn : narrow .int v = v) (hfit : fits .int v = true) (hM : M a = some (.inr (ci_S, fs))) (hl2 : 6 < fs.length) (fs2 : List Value) (hfs : fs.set 6 v = fs2) (kk : VV g x (mp_u M a (.inr (ci_S, fs2))) k n q L rest) : VV g x M k n pc L (v :: .ref a :: rest) := v_put C q hinS tyXS tyXS_ok nmXS rfl 6 (by decide) al_93 (Or.inl rfl) rfl (by decide +kernel) hd hq hn hfit hM hl2 fs2 hfs kk
theorem gt_XS_53 (C : CX g x cc RXS fr ce sl lc) (q : Nat) {a : Nat} {fs : List Value} {v : Value} (hd : decode cc pc = .ok (.getfield 53, 3)) (hq : pc + 3 = q) (hM : M a = some (.inr (ci_S, fs))) (hv : fs[7]? = some v) (kk : VV g x M k n q L (v :: rest)) : VV g x M k n pc L (.ref a :: rest) := v_get C q hinS rfl 7 (by decide) al_94 (Or.inl rfl) hd hq hM hv kk
theorem pt_XS_53 (C : CX g x cc RXS fr ce sl lc) (q : Nat) {a : Nat} {fs : List Value} {v : Value} (hd : decode cc pc = .ok (.putfield 53, 3)) (hq : pc + 3 = q) (hn : narrow .int v = v) (hfit : fits .int v = true) (hM : M a = some (.inr (ci_S, fs))) (hl2 : 7 < fs.length) (fs2 : List Value) (hfs : fs.set 7 v = fs2) (kk : VV g x (mp_u M a (.inr (ci_S, fs2))) k n q L rest) : VV g x M k n pc L (v :: .ref a :: rest) := v_put C q hinS tyXS tyXS_ok nmXS rfl 7 (by decide) al_94 (Or.inl rfl) rfl (by decide +kernel) hd hq hn hfit hM hl2 fs2 hfs kk
theorem cl_XL_21 {st0 As : List Value} {Po : Option Value → mp_M → Prop} {lv mc ms : Nat} (C : CX g x cc RXL fr ce sl lc) {b : Nat} {fs : List Value} (hM : Ct g yXS_put cXS_put 7 (some .boolean) lv (.ref b :: As) M Po mc ms) (hb : M b = some (.inr (ci_S, fs))) (hdg : decode cc pc = .ok (.invokevirtual 21, 3)) (hst : st0 = As.reverse ++ .ref b :: rest) (hnA : As.length = 5) (hfr : lv + 1 ≤ fr) (hlc : 8 + (7 + 11) + 40 * lv ≤ lc) (hW : (rest.map fun v => v.category).sum ≤ 8) (hk : k + mc ≤ ce) (hn : n + ms ≤ sl) : RN g x M k n pc L st0 rest Po mc ms := rn_V C hM hb rfl al_103 al_104 al_105 al_20 al_106 ⟨by decide, by decide, by decide +kernel⟩ hnA hst hdg hfr hlc hW hk hn
theorem cl_XS_56 {st0 As : List Value} {Po : Option Value → mp_M → Prop} {lv mc ms : Nat} (C : CX g x cc RXS fr ce sl lc) (hM : Ct g yXS_isPlace cXS_isPlace 2 (some .boolean) lv As M Po mc ms) (hdg : decode cc pc = .ok (.invokestatic 56, 3)) (hst : st0 = As.reverse ++ rest) (hnA : As.length = 2) (hfr : lv + 1 ≤ fr) (hlc : 8 + (2 + 11) + 40 * lv ≤ lc) (hW : (rest.map fun v => v.category).sum ≤ 8) (hk : k + mc ≤ ce) (hn : n + ms ≤ sl) : RN g x M k n pc L st0 rest Po mc ms := rn_S C hM al_107 al_108 al_20 al_109 ⟨by decide, by decide, by decide +kernel⟩ hnA hst hdg hfr hlc hW hk hn
theorem cl_XS_60 {st0 As : List Value} {Po : Option Value → mp_M → Prop} {lv mc ms : Nat} (C : CX g x cc RXS fr ce sl lc) (hM : Ct g yXS_isStamp cXS_isStamp 1 (some .boolean) lv As M Po mc ms) (hdg : decode cc pc = .ok (.invokestatic 60, 3)) (hst : st0 = As.reverse ++ rest) (hnA : As.length = 1) (hfr : lv + 1 ≤ fr) (hlc : 8 + (1 + 11) + 40 * lv ≤ lc) (hW : (rest.map fun v => v.category).sum ≤ 8) (hk : k + mc ≤ ce) (hn : n + ms ≤ sl) : RN g x M k n pc L st0 rest Po mc ms := rn_S C hM al_110 al_111 al_20 al_112 ⟨by decide, by decide, by decide +kernel⟩ hnA hst hdg hfr hlc hW hk hn
theorem ld_XS_64 (C : CX g x cc RXS fr ce sl lc) (q : Nat) (hd : decode cc pc = .ok (.ldc 64, 2)) (hq : pc + 2 = q) (kk : VV g x M k n q L (.int 2147483647 :: rest)) : VV g x M k n pc L rest := v_ldc C q al_113 hd hq kk
theorem cl_XS_65 {st0 As : List Value} {Po : Option Value → mp_M → Prop} {lv mc ms : Nat} (C : CX g x cc RXS fr ce sl lc) (hM : Ct g yXS_pointSlot cXS_pointSlot 2 (some .int) lv As M Po mc ms) (hdg : decode cc pc = .ok (.invokestatic 65, 3)) (hst : st0 = As.reverse ++ rest) (hnA : As.length = 2) (hfr : lv + 1 ≤ fr) (hlc : 8 + (2 + 11) + 40 * lv ≤ lc) (hW : (rest.map fun v => v.category).sum ≤ 8) (hk : k + mc ≤ ce) (hn : n + ms ≤ sl) : RN g x M k n pc L st0 rest Po mc ms := rn_S C hM al_115 al_116 al_20 al_117 ⟨by decide, by decide, by decide +kernel⟩ hnA hst hdg hfr hlc hW hk hn
theorem cl_XS_68 {st0 As : List Value} {Po : Option Value → mp_M → Prop} {lv mc ms : Nat} (C : CX g x cc RXS fr ce sl lc) {b : Nat} (hM : Ct g yXE_init cXE_init 6 none lv (.ref b :: As) M Po mc ms) (hdg : decode cc pc = .ok (.invokespecial 68, 3)) (hst : st0 = As.reverse ++ .ref b :: rest) (hnA : As.length = 5) (hfr : lv + 1 ≤ fr) (hlc : 8 + (6 + 11) + 40 * lv ≤ lc) (hW : (rest.map fun v => v.category).sum ≤ 8) (hk : k + mc ≤ ce) (hn : n + ms ≤ sl) : RN g x M k n pc L st0 rest Po mc ms := rn_I C hM rfl al_118 al_119 al_27 al_120 ⟨by decide, by decide, by decide +kernel⟩ hnA hst hdg hfr hlc hW hk hn
theorem oi_XE_1 (C : CX g x cc RXE fr ce sl lc) (q : Nat) {a : Nat} (hd : decode cc pc = .ok (.invokespecial 1, 3)) (hq : pc + 3 = q) (hfr : 1 ≤ fr) (hlo : (rest.map fun v => v.category).sum + 12 ≤ lc) (kk : VV g x M k n q L rest) : VV g x M k n pc L (.ref a :: rest) := v_objInit C q al_121 al_39 al_40 hd hq hfr hlo kk
theorem gt_XE_7 (C : CX g x cc RXE fr ce sl lc) (q : Nat) {a : Nat} {fs : List Value} {v : Value} (hd : decode cc pc = .ok (.getfield 7, 3)) (hq : pc + 3 = q) (hM : M a = some (.inr (ci_E, fs))) (hv : fs[0]? = some v) (kk : VV g x M k n q L (v :: rest)) : VV g x M k n pc L (.ref a :: rest) := v_get C q hinE rfl 0 (by decide) al_122 (Or.inl rfl) hd hq hM hv kk
theorem pt_XE_7 (C : CX g x cc RXE fr ce sl lc) (I : IX x) (q : Nat) {a : Nat} {fs : List Value} {v : Value} (hd : decode cc pc = .ok (.putfield 7, 3)) (hq : pc + 3 = q) (hn : narrow .int v = v) (hfit : fits .int v = true) (hM : M a = some (.inr (ci_E, fs))) (hl2 : 0 < fs.length) (fs2 : List Value) (hfs : fs.set 0 v = fs2) (kk : VV g x (mp_u M a (.inr (ci_E, fs2))) k n q L rest) : VV g x M k n pc L (v :: .ref a :: rest) := v_putF C I q hinE tyXE tyXE_ok nmXE rfl 0 (by decide) al_122 (Or.inl rfl) rfl rfl (by decide +kernel) hd hq hn hfit hM hl2 fs2 hfs kk
theorem gt_XT_34 (C : CX g x cc RXT fr ce sl lc) (q : Nat) {a : Nat} {fs : List Value} {v : Value} (hd : decode cc pc = .ok (.getfield 34, 3)) (hq : pc + 3 = q) (hM : M a = some (.inr (ci_E, fs))) (hv : fs[0]? = some v) (kk : VV g x M k n q L (v :: rest)) : VV g x M k n pc L (.ref a :: rest) := v_get C q hinE rfl 0 (by decide) al_123 (Or.inl rfl) hd hq hM hv kk
theorem gt_XS_153 (C : CX g x cc RXS fr ce sl lc) (q : Nat) {a : Nat} {fs : List Value} {v : Value} (hd : decode cc pc = .ok (.getfield 153, 3)) (hq : pc + 3 = q) (hM : M a = some (.inr (ci_E, fs))) (hv : fs[0]? = some v) (kk : VV g x M k n q L (v :: rest)) : VV g x M k n pc L (.ref a :: rest) := v_get C q hinE rfl 0 (by decide) al_124 (Or.inl rfl) hd hq hM hv kk
theorem gt_XE_13 (C : CX g x cc RXE fr ce sl lc) (q : Nat) {a : Nat} {fs : List Value} {v : Value} (hd : decode cc pc = .ok (.getfield 13, 3)) (hq : pc + 3 = q) (hM : M a = some (.inr (ci_E, fs))) (hv : fs[1]? = some v) (kk : VV g x M k n q L (v :: rest)) : VV g x M k n pc L (.ref a :: rest) := v_get C q hinE rfl 1 (by decide) al_125 (Or.inl rfl) hd hq hM hv kk
theorem pt_XE_13 (C : CX g x cc RXE fr ce sl lc) (I : IX x) (q : Nat) {a : Nat} {fs : List Value} {v : Value} (hd : decode cc pc = .ok (.putfield 13, 3)) (hq : pc + 3 = q) (hn : narrow .int v = v) (hfit : fits .int v = true) (hM : M a = some (.inr (ci_E, fs))) (hl2 : 1 < fs.length) (fs2 : List Value) (hfs : fs.set 1 v = fs2) (kk : VV g x (mp_u M a (.inr (ci_E, fs2))) k n q L rest) : VV g x M k n pc L (v :: .ref a :: rest) := v_putF C I q hinE tyXE tyXE_ok nmXE rfl 1 (by decide) al_125 (Or.inl rfl) rfl rfl (by decide +kernel) hd hq hn hfit hM hl2 fs2 hfs kk
theorem gt_XT_31 (C : CX g x cc RXT fr ce sl lc) (q : Nat) {a : Nat} {fs : List Value} {v : Value} (hd : decode cc pc = .ok (.getfield 31, 3)) (hq : pc + 3 = q) (hM : M a = some (.inr (ci_E, fs))) (hv : fs[1]? = some v) (kk : VV g x M k n q L (v :: rest)) : VV g x M k n pc L (.ref a :: rest) := v_get C q hinE rfl 1 (by decide) al_126 (Or.inl rfl) hd hq hM hv kk
theorem gt_XE_16 (C : CX g x cc RXE fr ce sl lc) (q : Nat) {a : Nat} {fs : List Value} {v : Value} (hd : decode cc pc = .ok (.getfield 16, 3)) (hq : pc + 3 = q) (hM : M a = some (.inr (ci_E, fs))) (hv : fs[2]? = some v) (kk : VV g x M k n q L (v :: rest)) : VV g x M k n pc L (.ref a :: rest) := v_get C q hinE rfl 2 (by decide) al_127 (Or.inl rfl) hd hq hM hv kk
theorem pt_XE_16 (C : CX g x cc RXE fr ce sl lc) (I : IX x) (q : Nat) {a : Nat} {fs : List Value} {v : Value} (hd : decode cc pc = .ok (.putfield 16, 3)) (hq : pc + 3 = q) (hn : narrow .int v = v) (hfit : fits .int v = true) (hM : M a = some (.inr (ci_E, fs))) (hl2 : 2 < fs.length) (fs2 : List Value) (hfs : fs.set 2 v = fs2) (kk : VV g x (mp_u M a (.inr (ci_E, fs2))) k n q L rest) : VV g x M k n pc L (v :: .ref a :: rest) := v_putF C I q hinE tyXE tyXE_ok nmXE rfl 2 (by decide) al_127 (Or.inl rfl) rfl rfl (by decide +kernel) hd hq hn hfit hM hl2 fs2 hfs kk
theorem gt_XT_49 (C : CX g x cc RXT fr ce sl lc) (q : Nat) {a : Nat} {fs : List Value} {v : Value} (hd : decode cc pc = .ok (.getfield 49, 3)) (hq : pc + 3 = q) (hM : M a = some (.inr (ci_E, fs))) (hv : fs[2]? = some v) (kk : VV g x M k n q L (v :: rest)) : VV g x M k n pc L (.ref a :: rest) := v_get C q hinE rfl 2 (by decide) al_128 (Or.inl rfl) hd hq hM hv kk
theorem gt_XS_86 (C : CX g x cc RXS fr ce sl lc) (q : Nat) {a : Nat} {fs : List Value} {v : Value} (hd : decode cc pc = .ok (.getfield 86, 3)) (hq : pc + 3 = q) (hM : M a = some (.inr (ci_E, fs))) (hv : fs[2]? = some v) (kk : VV g x M k n q L (v :: rest)) : VV g x M k n pc L (.ref a :: rest) := v_get C q hinE rfl 2 (by decide) al_129 (Or.inl rfl) hd hq hM hv kk
theorem gt_XE_19 (C : CX g x cc RXE fr ce sl lc) (q : Nat) {a : Nat} {fs : List Value} {v : Value} (hd : decode cc pc = .ok (.getfield 19, 3)) (hq : pc + 3 = q) (hM : M a = some (.inr (ci_E, fs))) (hv : fs[3]? = some v) (kk : VV g x M k n q L (v :: rest)) : VV g x M k n pc L (.ref a :: rest) := v_get C q hinE rfl 3 (by decide) al_130 (Or.inl rfl) hd hq hM hv kk
theorem pt_XE_19 (C : CX g x cc RXE fr ce sl lc) (I : IX x) (q : Nat) {a : Nat} {fs : List Value} {v : Value} (hd : decode cc pc = .ok (.putfield 19, 3)) (hq : pc + 3 = q) (hn : narrow .int v = v) (hfit : fits .int v = true) (hM : M a = some (.inr (ci_E, fs))) (hl2 : 3 < fs.length) (fs2 : List Value) (hfs : fs.set 3 v = fs2) (kk : VV g x (mp_u M a (.inr (ci_E, fs2))) k n q L rest) : VV g x M k n pc L (v :: .ref a :: rest) := v_putF C I q hinE tyXE tyXE_ok nmXE rfl 3 (by decide) al_130 (Or.inl rfl) rfl rfl (by decide +kernel) hd hq hn hfit hM hl2 fs2 hfs kk
theorem gt_XS_83 (C : CX g x cc RXS fr ce sl lc) (q : Nat) {a : Nat} {fs : List Value} {v : Value} (hd : decode cc pc = .ok (.getfield 83, 3)) (hq : pc + 3 = q) (hM : M a = some (.inr (ci_E, fs))) (hv : fs[3]? = some v) (kk : VV g x M k n q L (v :: rest)) : VV g x M k n pc L (.ref a :: rest) := v_get C q hinE rfl 3 (by decide) al_131 (Or.inl rfl) hd hq hM hv kk
theorem gt_XE_22 (C : CX g x cc RXE fr ce sl lc) (q : Nat) {a : Nat} {fs : List Value} {v : Value} (hd : decode cc pc = .ok (.getfield 22, 3)) (hq : pc + 3 = q) (hM : M a = some (.inr (ci_E, fs))) (hv : fs[4]? = some v) (kk : VV g x M k n q L (v :: rest)) : VV g x M k n pc L (.ref a :: rest) := v_get C q hinE rfl 4 (by decide) al_132 (Or.inl rfl) hd hq hM hv kk
theorem pt_XE_22 (C : CX g x cc RXE fr ce sl lc) (I : IX x) (q : Nat) {a : Nat} {fs : List Value} {v : Value} (hd : decode cc pc = .ok (.putfield 22, 3)) (hq : pc + 3 = q) (hn : narrow .int v = v) (hfit : fits .int v = true) (hM : M a = some (.inr (ci_E, fs))) (hl2 : 4 < fs.length) (fs2 : List Value) (hfs : fs.set 4 v = fs2) (kk : VV g x (mp_u M a (.inr (ci_E, fs2))) k n q L rest) : VV g x M k n pc L (v :: .ref a :: rest) := v_putF C I q hinE tyXE tyXE_ok nmXE rfl 4 (by decide) al_132 (Or.inl rfl) rfl rfl (by decide +kernel) hd hq hn hfit hM hl2 fs2 hfs kk
theorem gt_XT_63 (C : CX g x cc RXT fr ce sl lc) (q : Nat) {a : Nat} {fs : List Value} {v : Value} (hd : decode cc pc = .ok (.getfield 63, 3)) (hq : pc + 3 = q) (hM : M a = some (.inr (ci_E, fs))) (hv : fs[4]? = some v) (kk : VV g x M k n q L (v :: rest)) : VV g x M k n pc L (.ref a :: rest) := v_get C q hinE rfl 4 (by decide) al_133 (Or.inl rfl) hd hq hM hv kk
theorem gt_XS_156 (C : CX g x cc RXS fr ce sl lc) (q : Nat) {a : Nat} {fs : List Value} {v : Value} (hd : decode cc pc = .ok (.getfield 156, 3)) (hq : pc + 3 = q) (hM : M a = some (.inr (ci_E, fs))) (hv : fs[4]? = some v) (kk : VV g x M k n q L (v :: rest)) : VV g x M k n pc L (.ref a :: rest) := v_get C q hinE rfl 4 (by decide) al_134 (Or.inl rfl) hd hq hM hv kk
theorem cl_XS_71 {st0 As : List Value} {Po : Option Value → mp_M → Prop} {lv mc ms : Nat} (C : CX g x cc RXS fr ce sl lc) {b : Nat} {fs : List Value} (hM : Ct g yXS_addEntry cXS_addEntry 2 (some .boolean) lv (.ref b :: As) M Po mc ms) (hb : M b = some (.inr (ci_S, fs))) (hdg : decode cc pc = .ok (.invokevirtual 71, 3)) (hst : st0 = As.reverse ++ .ref b :: rest) (hnA : As.length = 1) (hfr : lv + 1 ≤ fr) (hlc : 8 + (2 + 11) + 40 * lv ≤ lc) (hW : (rest.map fun v => v.category).sum ≤ 8) (hk : k + mc ≤ ce) (hn : n + ms ≤ sl) : RN g x M k n pc L st0 rest Po mc ms := rn_V C hM hb rfl al_140 al_141 al_0 al_20 al_142 ⟨by decide, by decide, by decide +kernel⟩ hnA hst hdg hfr hlc hW hk hn
theorem cl_XS_113 {st0 As : List Value} {Po : Option Value → mp_M → Prop} {lv mc ms : Nat} (C : CX g x cc RXS fr ce sl lc) {b : Nat} {fs : List Value} (hM : Ct g yXT_addWinner cXT_addWinner 3 none lv (.ref b :: As) M Po mc ms) (hb : M b = some (.inr (ci_T, fs))) (hdg : decode cc pc = .ok (.invokevirtual 113, 3)) (hst : st0 = As.reverse ++ .ref b :: rest) (hnA : As.length = 1) (hfr : lv + 1 ≤ fr) (hlc : 8 + (3 + 11) + 40 * lv ≤ lc) (hW : (rest.map fun v => v.category).sum ≤ 8) (hk : k + mc ≤ ce) (hn : n + ms ≤ sl) : RN g x M k n pc L st0 rest Po mc ms := rn_V C hM hb rfl al_143 al_144 al_145 al_25 al_146 ⟨by decide, by decide, by decide +kernel⟩ hnA hst hdg hfr hlc hW hk hn
theorem cl_XT_37 {st0 As : List Value} {Po : Option Value → mp_M → Prop} {lv mc ms : Nat} (C : CX g x cc RXT fr ce sl lc) {b : Nat} {fs : List Value} (hM : Ct g yXE_winsOver cXE_winsOver 2 (some .boolean) lv (.ref b :: As) M Po mc ms) (hb : M b = some (.inr (ci_E, fs))) (hdg : decode cc pc = .ok (.invokevirtual 37, 3)) (hst : st0 = As.reverse ++ .ref b :: rest) (hnA : As.length = 1) (hfr : lv + 1 ≤ fr) (hlc : 8 + (2 + 11) + 40 * lv ≤ lc) (hW : (rest.map fun v => v.category).sum ≤ 8) (hk : k + mc ≤ ce) (hn : n + ms ≤ sl) : RN g x M k n pc L st0 rest Po mc ms := rn_V C hM hb rfl al_147 al_148 al_149 al_27 al_150 ⟨by decide, by decide, by decide +kernel⟩ hnA hst hdg hfr hlc hW hk hn
theorem cl_XS_95 {st0 As : List Value} {Po : Option Value → mp_M → Prop} {lv mc ms : Nat} (C : CX g x cc RXS fr ce sl lc) {b : Nat} {fs : List Value} (hM : Ct g yXS_flushMemory cXS_flushMemory 3 none lv (.ref b :: As) M Po mc ms) (hb : M b = some (.inr (ci_S, fs))) (hdg : decode cc pc = .ok (.invokevirtual 95, 3)) (hst : st0 = As.reverse ++ .ref b :: rest) (hnA : As.length = 0) (hfr : lv + 1 ≤ fr) (hlc : 8 + (3 + 11) + 40 * lv ≤ lc) (hW : (rest.map fun v => v.category).sum ≤ 8) (hk : k + mc ≤ ce) (hn : n + ms ≤ sl) : RN g x M k n pc L st0 rest Po mc ms := rn_V C hM hb rfl al_151 al_152 al_1 al_20 al_153 ⟨by decide, by decide, by decide +kernel⟩ hnA hst hdg hfr hlc hW hk hn
theorem cl_XS_129 {st0 As : List Value} {Po : Option Value → mp_M → Prop} {lv mc ms : Nat} (C : CX g x cc RXS fr ce sl lc) {b : Nat} {fs : List Value} (hM : Ct g yXA_add cXA_add 2 (some .boolean) lv (.ref b :: As) M Po mc ms) (hb : M b = some (.inr (ci_A, fs))) (hdg : decode cc pc = .ok (.invokevirtual 129, 3)) (hst : st0 = As.reverse ++ .ref b :: rest) (hnA : As.length = 1) (hfr : lv + 1 ≤ fr) (hlc : 8 + (2 + 11) + 40 * lv ≤ lc) (hW : (rest.map fun v => v.category).sum ≤ 8) (hk : k + mc ≤ ce) (hn : n + ms ≤ sl) : RN g x M k n pc L st0 rest Po mc ms := rn_V C hM hb rfl al_154 al_155 al_156 al_24 al_157 ⟨by decide, by decide, by decide +kernel⟩ hnA hst hdg hfr hlc hW hk hn
theorem cl_XA_131 {st0 As : List Value} {Po : Option Value → mp_M → Prop} {lv mc ms : Nat} (C : CX g x cc RXA fr ce sl lc) {b : Nat} {fs : List Value} (hM : Ct g yXA_addp cXA_addp 4 none lv (.ref b :: As) M Po mc ms) (hb : M b = some (.inr (ci_A, fs))) (hdg : decode cc pc = .ok (.invokevirtual 131, 3)) (hst : st0 = As.reverse ++ .ref b :: rest) (hnA : As.length = 3) (hfr : lv + 1 ≤ fr) (hlc : 8 + (4 + 11) + 40 * lv ≤ lc) (hW : (rest.map fun v => v.category).sum ≤ 8) (hk : k + mc ≤ ce) (hn : n + ms ≤ sl) : RN g x M k n pc L st0 rest Po mc ms := rn_V C hM hb rfl al_158 al_159 al_2 al_24 al_160 ⟨by decide, by decide, by decide +kernel⟩ hnA hst hdg hfr hlc hW hk hn
theorem cl_XA_129 {st0 As : List Value} {Po : Option Value → mp_M → Prop} {lv mc ms : Nat} (C : CX g x cc RXA fr ce sl lc) {b : Nat} {fs : List Value} (hM : Ct g yXA_grow0 cXA_grow0 1 (some (.array (.object "java/lang/Object"))) lv (.ref b :: As) M Po mc ms) (hb : M b = some (.inr (ci_A, fs))) (hdg : decode cc pc = .ok (.invokevirtual 129, 3)) (hst : st0 = As.reverse ++ .ref b :: rest) (hnA : As.length = 0) (hfr : lv + 1 ≤ fr) (hlc : 8 + (1 + 11) + 40 * lv ≤ lc) (hW : (rest.map fun v => v.category).sum ≤ 8) (hk : k + mc ≤ ce) (hn : n + ms ≤ sl) : RN g x M k n pc L st0 rest Po mc ms := rn_V C hM hb rfl al_161 al_162 al_3 al_24 al_163 ⟨by decide, by decide, by decide +kernel⟩ hnA hst hdg hfr hlc hW hk hn
theorem cl_XA_69 {st0 As : List Value} {Po : Option Value → mp_M → Prop} {lv mc ms : Nat} (C : CX g x cc RXA fr ce sl lc) {b : Nat} {fs : List Value} (hM : Ct g yXA_grow1 cXA_grow1 4 (some (.array (.object "java/lang/Object"))) lv (.ref b :: As) M Po mc ms) (hb : M b = some (.inr (ci_A, fs))) (hdg : decode cc pc = .ok (.invokevirtual 69, 3)) (hst : st0 = As.reverse ++ .ref b :: rest) (hnA : As.length = 1) (hfr : lv + 1 ≤ fr) (hlc : 8 + (4 + 11) + 40 * lv ≤ lc) (hW : (rest.map fun v => v.category).sum ≤ 8) (hk : k + mc ≤ ce) (hn : n + ms ≤ sl) : RN g x M k n pc L st0 rest Po mc ms := rn_V C hM hb rfl al_164 al_165 al_4 al_24 al_166 ⟨by decide, by decide, by decide +kernel⟩ hnA hst hdg hfr hlc hW hk hn
theorem cl_XA_73 {st0 As : List Value} {Po : Option Value → mp_M → Prop} {lv mc ms : Nat} (C : CX g x cc RXA fr ce sl lc) (hM : Ct g yXU_newLength cXU_newLength 4 (some .int) lv As M Po mc ms) (hdg : decode cc pc = .ok (.invokestatic 73, 3)) (hst : st0 = As.reverse ++ rest) (hnA : As.length = 3) (hfr : lv + 1 ≤ fr) (hlc : 8 + (4 + 11) + 40 * lv ≤ lc) (hW : (rest.map fun v => v.category).sum ≤ 8) (hk : k + mc ≤ ce) (hn : n + ms ≤ sl) : RN g x M k n pc L st0 rest Po mc ms := rn_S C hM al_167 al_168 al_28 al_169 ⟨by decide, by decide, by decide +kernel⟩ hnA hst hdg hfr hlc hW hk hn
theorem max_XU_194 (C : CX g x cc RXU fr ce sl lc) (q : Nat) {a b : Int32} (hd : decode cc pc = .ok (.invokestatic 194, 3)) (hq : pc + 3 = q) (hfr : 1 ≤ fr) (hlo : (rest.map fun v => v.category).sum + 13 ≤ lc) (hk : k ≤ ce) (hn : n ≤ sl) (kk : VV g x M k n q L (.int (if a < b then b else a) :: rest)) : VV g x M k n pc L (.int b :: .int a :: rest) := v_max C q al_170 al_45 al_21 al_46 hd hq hfr hlo hk hn kk
theorem ld_XU_200 (C : CX g x cc RXU fr ce sl lc) (q : Nat) (hd : decode cc pc = .ok (.ldc 200, 2)) (hq : pc + 2 = q) (kk : VV g x M k n q L (.int 2147483639 :: rest)) : VV g x M k n pc L rest := v_ldc C q al_171 hd hq kk
theorem cl_XU_201 {st0 As : List Value} {Po : Option Value → mp_M → Prop} {lv mc ms : Nat} (C : CX g x cc RXU fr ce sl lc) (hM : Ct g yXU_hugeLength cXU_hugeLength 3 (some .int) lv As M Po mc ms) (hdg : decode cc pc = .ok (.invokestatic 201, 3)) (hst : st0 = As.reverse ++ rest) (hnA : As.length = 2) (hfr : lv + 1 ≤ fr) (hlc : 8 + (3 + 11) + 40 * lv ≤ lc) (hW : (rest.map fun v => v.category).sum ≤ 8) (hk : k + mc ≤ ce) (hn : n + ms ≤ sl) : RN g x M k n pc L st0 rest Po mc ms := rn_S C hM al_172 al_173 al_28 al_174 ⟨by decide, by decide, by decide +kernel⟩ hnA hst hdg hfr hlc hW hk hn
theorem cl_XA_66 {st0 As : List Value} {Po : Option Value → mp_M → Prop} {lv mc ms : Nat} (C : CX g x cc RXA fr ce sl lc) (hM : Ct g yXY_copyOf2 cXY_copyOf2 2 (some (.array (.object "java/lang/Object"))) lv As M Po mc ms) (hdg : decode cc pc = .ok (.invokestatic 66, 3)) (hst : st0 = As.reverse ++ rest) (hnA : As.length = 2) (hfr : lv + 1 ≤ fr) (hlc : 8 + (2 + 11) + 40 * lv ≤ lc) (hW : (rest.map fun v => v.category).sum ≤ 8) (hk : k + mc ≤ ce) (hn : n + ms ≤ sl) : RN g x M k n pc L st0 rest Po mc ms := rn_S C hM al_175 al_176 al_29 al_177 ⟨by decide, by decide, by decide +kernel⟩ hnA hst hdg hfr hlc hW hk hn
theorem cl_XY_300 {st0 As : List Value} {Po : Option Value → mp_M → Prop} {lv mc ms : Nat} (C : CX g x cc RXY fr ce sl lc) (hM : Ct g yXY_copyOf3 cXY_copyOf3 4 (some (.array (.object "java/lang/Object"))) lv As M Po mc ms) (hdg : decode cc pc = .ok (.invokestatic 300, 3)) (hst : st0 = As.reverse ++ rest) (hnA : As.length = 3) (hfr : lv + 1 ≤ fr) (hlc : 8 + (4 + 11) + 40 * lv ≤ lc) (hW : (rest.map fun v => v.category).sum ≤ 8) (hk : k + mc ≤ ce) (hn : n + ms ≤ sl) : RN g x M k n pc L st0 rest Po mc ms := rn_S C hM al_186 al_187 al_29 al_188 ⟨by decide, by decide, by decide +kernel⟩ hnA hst hdg hfr hlc hW hk hn
theorem na_XY_2 (C : CX g x cc RXY fr ce sl lc) (q : Nat) {i : Int32} (hd : decode cc pc = .ok (.anewarray 2, 3)) (hq : pc + 3 = q) (N : Nat) (hi : i = nI N) (hN : N < 100000) (hcells : k + 1 ≤ ce) (hslots : n + N ≤ sl) (kk : ∀ a : Nat, M a = none → VV g x (mp_u M a (.inl (gx_O g, N, .inr (.inr (.inr (.inr (fun _ => none))))))) (k + 1) (n + N) q L (.ref a :: rest)) : VV g x M k n pc L (.int i :: rest) := v_newq C q 1 rfl (fun s h => h.2.2.1) al_190 hd hq N hi hN hcells hslots kk
theorem min_XY_304 (C : CX g x cc RXY fr ce sl lc) (q : Nat) {a b : Int32} (hd : decode cc pc = .ok (.invokestatic 304, 3)) (hq : pc + 3 = q) (hfr : 1 ≤ fr) (hlo : (rest.map fun v => v.category).sum + 13 ≤ lc) (hk : k ≤ ce) (hn : n ≤ sl) (kk : VV g x M k n q L (.int (if b < a then b else a) :: rest)) : VV g x M k n pc L (.int b :: .int a :: rest) := v_min C q al_191 al_42 al_21 al_43 hd hq hfr hlo hk hn kk
theorem max_XA_79 (C : CX g x cc RXA fr ce sl lc) (q : Nat) {a b : Int32} (hd : decode cc pc = .ok (.invokestatic 79, 3)) (hq : pc + 3 = q) (hfr : 1 ≤ fr) (hlo : (rest.map fun v => v.category).sum + 13 ≤ lc) (hk : k ≤ ce) (hn : n ≤ sl) (kk : VV g x M k n q L (.int (if a < b then b else a) :: rest)) : VV g x M k n pc L (.int b :: .int a :: rest) := v_max C q al_195 al_45 al_21 al_46 hd hq hfr hlo hk hn kk
theorem na_XA_7 (C : CX g x cc RXA fr ce sl lc) (q : Nat) {i : Int32} (hd : decode cc pc = .ok (.anewarray 7, 3)) (hq : pc + 3 = q) (N : Nat) (hi : i = nI N) (hN : N < 100000) (hcells : k + 1 ≤ ce) (hslots : n + N ≤ sl) (kk : ∀ a : Nat, M a = none → VV g x (mp_u M a (.inl (gx_O g, N, .inr (.inr (.inr (.inr (fun _ => none))))))) (k + 1) (n + N) q L (.ref a :: rest)) : VV g x M k n pc L (.int i :: rest) := v_newq C q 1 rfl (fun s h => h.2.2.1) al_196 hd hq N hi hN hcells hslots kk
theorem cl_XS_117 {st0 As : List Value} {Po : Option Value → mp_M → Prop} {lv mc ms : Nat} (C : CX g x cc RXS fr ce sl lc) {b : Nat} {fs : List Value} (hM : Ct g yXA_size cXA_size 1 (some .int) lv (.ref b :: As) M Po mc ms) (hb : M b = some (.inr (ci_A, fs))) (hdg : decode cc pc = .ok (.invokevirtual 117, 3)) (hst : st0 = As.reverse ++ .ref b :: rest) (hnA : As.length = 0) (hfr : lv + 1 ≤ fr) (hlc : 8 + (1 + 11) + 40 * lv ≤ lc) (hW : (rest.map fun v => v.category).sum ≤ 8) (hk : k + mc ≤ ce) (hn : n + ms ≤ sl) : RN g x M k n pc L st0 rest Po mc ms := rn_V C hM hb rfl al_197 al_198 al_199 al_24 al_200 ⟨by decide, by decide, by decide +kernel⟩ hnA hst hdg hfr hlc hW hk hn
theorem cl_XS_133 {st0 As : List Value} {Po : Option Value → mp_M → Prop} {lv mc ms : Nat} (C : CX g x cc RXS fr ce sl lc) {b : Nat} {fs : List Value} (hM : Ct g yXS_newestAreOfOneTier cXS_newestAreOfOneTier 4 (some .boolean) lv (.ref b :: As) M Po mc ms) (hb : M b = some (.inr (ci_S, fs))) (hdg : decode cc pc = .ok (.invokevirtual 133, 3)) (hst : st0 = As.reverse ++ .ref b :: rest) (hnA : As.length = 0) (hfr : lv + 1 ≤ fr) (hlc : 8 + (4 + 11) + 40 * lv ≤ lc) (hW : (rest.map fun v => v.category).sum ≤ 8) (hk : k + mc ≤ ce) (hn : n + ms ≤ sl) : RN g x M k n pc L st0 rest Po mc ms := rn_V C hM hb rfl al_201 al_202 al_5 al_20 al_203 ⟨by decide, by decide, by decide +kernel⟩ hnA hst hdg hfr hlc hW hk hn
theorem cl_XS_119 {st0 As : List Value} {Po : Option Value → mp_M → Prop} {lv mc ms : Nat} (C : CX g x cc RXS fr ce sl lc) {b : Nat} {fs : List Value} (hM : Ct g yXA_get cXA_get 2 (some (.object "java/lang/Object")) lv (.ref b :: As) M Po mc ms) (hb : M b = some (.inr (ci_A, fs))) (hdg : decode cc pc = .ok (.invokevirtual 119, 3)) (hst : st0 = As.reverse ++ .ref b :: rest) (hnA : As.length = 1) (hfr : lv + 1 ≤ fr) (hlc : 8 + (2 + 11) + 40 * lv ≤ lc) (hW : (rest.map fun v => v.category).sum ≤ 8) (hk : k + mc ≤ ce) (hn : n + ms ≤ sl) : RN g x M k n pc L st0 rest Po mc ms := rn_V C hM hb rfl al_204 al_205 al_206 al_24 al_207 ⟨by decide, by decide, by decide +kernel⟩ hnA hst hdg hfr hlc hW hk hn
theorem cl_XA_118 {st0 As : List Value} {Po : Option Value → mp_M → Prop} {lv mc ms : Nat} (C : CX g x cc RXA fr ce sl lc) (hM : Ct g yXO_checkIndex cXO_checkIndex 2 (some .int) lv As M Po mc ms) (hdg : decode cc pc = .ok (.invokestatic 118, 3)) (hst : st0 = As.reverse ++ rest) (hnA : As.length = 2) (hfr : lv + 1 ≤ fr) (hlc : 8 + (2 + 11) + 40 * lv ≤ lc) (hW : (rest.map fun v => v.category).sum ≤ 8) (hk : k + mc ≤ ce) (hn : n + ms ≤ sl) : RN g x M k n pc L st0 rest Po mc ms := rn_S C hM al_208 al_209 al_31 al_210 ⟨by decide, by decide, by decide +kernel⟩ hnA hst hdg hfr hlc hW hk hn
theorem cl_XO_105 {st0 As : List Value} {Po : Option Value → mp_M → Prop} {lv mc ms : Nat} (C : CX g x cc RXO fr ce sl lc) (hM : Ct g yXP_checkIndex cXP_checkIndex 3 (some .int) lv As M Po mc ms) (hdg : decode cc pc = .ok (.invokestatic 105, 3)) (hst : st0 = As.reverse ++ rest) (hnA : As.length = 3) (hfr : lv + 1 ≤ fr) (hlc : 8 + (3 + 11) + 40 * lv ≤ lc) (hW : (rest.map fun v => v.category).sum ≤ 8) (hk : k + mc ≤ ce) (hn : n + ms ≤ sl) : RN g x M k n pc L st0 rest Po mc ms := rn_S C hM al_211 al_212 al_32 al_213 ⟨by decide, by decide, by decide +kernel⟩ hnA hst hdg hfr hlc hW hk hn
theorem cl_XA_123 {st0 As : List Value} {Po : Option Value → mp_M → Prop} {lv mc ms : Nat} (C : CX g x cc RXA fr ce sl lc) {b : Nat} {fs : List Value} (hM : Ct g yXA_elementData cXA_elementData 2 (some (.object "java/lang/Object")) lv (.ref b :: As) M Po mc ms) (hb : M b = some (.inr (ci_A, fs))) (hdg : decode cc pc = .ok (.invokevirtual 123, 3)) (hst : st0 = As.reverse ++ .ref b :: rest) (hnA : As.length = 1) (hfr : lv + 1 ≤ fr) (hlc : 8 + (2 + 11) + 40 * lv ≤ lc) (hW : (rest.map fun v => v.category).sum ≤ 8) (hk : k + mc ≤ ce) (hn : n + ms ≤ sl) : RN g x M k n pc L st0 rest Po mc ms := rn_V C hM hb rfl al_214 al_215 al_216 al_24 al_217 ⟨by decide, by decide, by decide +kernel⟩ hnA hst hdg hfr hlc hW hk hn
theorem cl_XS_106 {st0 As : List Value} {Po : Option Value → mp_M → Prop} {lv mc ms : Nat} (C : CX g x cc RXS fr ce sl lc) {b : Nat} {fs : List Value} (hM : Ct g yXS_mergeFrom cXS_mergeFrom 5 (some (.object "WideStore$Table")) lv (.ref b :: As) M Po mc ms) (hb : M b = some (.inr (ci_S, fs))) (hdg : decode cc pc = .ok (.invokevirtual 106, 3)) (hst : st0 = As.reverse ++ .ref b :: rest) (hnA : As.length = 2) (hfr : lv + 1 ≤ fr) (hlc : 8 + (5 + 11) + 40 * lv ≤ lc) (hW : (rest.map fun v => v.category).sum ≤ 8) (hk : k + mc ≤ ce) (hn : n + ms ≤ sl) : RN g x M k n pc L st0 rest Po mc ms := rn_V C hM hb rfl al_218 al_219 al_6 al_20 al_220 ⟨by decide, by decide, by decide +kernel⟩ hnA hst hdg hfr hlc hW hk hn
theorem cl_XS_136 {st0 As : List Value} {Po : Option Value → mp_M → Prop} {lv mc ms : Nat} (C : CX g x cc RXS fr ce sl lc) {b : Nat} {fs : List Value} (hM : Ct g yXT_addWinners cXT_addWinners 3 none lv (.ref b :: As) M Po mc ms) (hb : M b = some (.inr (ci_T, fs))) (hdg : decode cc pc = .ok (.invokevirtual 136, 3)) (hst : st0 = As.reverse ++ .ref b :: rest) (hnA : As.length = 1) (hfr : lv + 1 ≤ fr) (hlc : 8 + (3 + 11) + 40 * lv ≤ lc) (hW : (rest.map fun v => v.category).sum ≤ 8) (hk : k + mc ≤ ce) (hn : n + ms ≤ sl) : RN g x M k n pc L st0 rest Po mc ms := rn_V C hM hb rfl al_221 al_222 al_223 al_25 al_224 ⟨by decide, by decide, by decide +kernel⟩ hnA hst hdg hfr hlc hW hk hn
theorem cl_XT_41 {st0 As : List Value} {Po : Option Value → mp_M → Prop} {lv mc ms : Nat} (C : CX g x cc RXT fr ce sl lc) {b : Nat} {fs : List Value} (hM : Ct g yXT_addWinner cXT_addWinner 3 none lv (.ref b :: As) M Po mc ms) (hb : M b = some (.inr (ci_T, fs))) (hdg : decode cc pc = .ok (.invokevirtual 41, 3)) (hst : st0 = As.reverse ++ .ref b :: rest) (hnA : As.length = 1) (hfr : lv + 1 ≤ fr) (hlc : 8 + (3 + 11) + 40 * lv ≤ lc) (hW : (rest.map fun v => v.category).sum ≤ 8) (hk : k + mc ≤ ce) (hn : n + ms ≤ sl) : RN g x M k n pc L st0 rest Po mc ms := rn_V C hM hb rfl al_225 al_144 al_145 al_25 al_146 ⟨by decide, by decide, by decide +kernel⟩ hnA hst hdg hfr hlc hW hk hn
theorem cl_XS_140 {st0 As : List Value} {Po : Option Value → mp_M → Prop} {lv mc ms : Nat} (C : CX g x cc RXS fr ce sl lc) {b : Nat} {fs : List Value} (hM : Ct g yXT_dropCovered cXT_dropCovered 4 none lv (.ref b :: As) M Po mc ms) (hb : M b = some (.inr (ci_T, fs))) (hdg : decode cc pc = .ok (.invokevirtual 140, 3)) (hst : st0 = As.reverse ++ .ref b :: rest) (hnA : As.length = 0) (hfr : lv + 1 ≤ fr) (hlc : 8 + (4 + 11) + 40 * lv ≤ lc) (hW : (rest.map fun v => v.category).sum ≤ 8) (hk : k + mc ≤ ce) (hn : n + ms ≤ sl) : RN g x M k n pc L st0 rest Po mc ms := rn_V C hM hb rfl al_226 al_227 al_228 al_25 al_229 ⟨by decide, by decide, by decide +kernel⟩ hnA hst hdg hfr hlc hW hk hn
theorem cl_XT_52 {st0 As : List Value} {Po : Option Value → mp_M → Prop} {lv mc ms : Nat} (C : CX g x cc RXT fr ce sl lc) {b : Nat} {fs : List Value} (hM : Ct g yXT_pointAt cXT_pointAt 3 (some (.object "WideStore$Entry")) lv (.ref b :: As) M Po mc ms) (hb : M b = some (.inr (ci_T, fs))) (hdg : decode cc pc = .ok (.invokevirtual 52, 3)) (hst : st0 = As.reverse ++ .ref b :: rest) (hnA : As.length = 2) (hfr : lv + 1 ≤ fr) (hlc : 8 + (3 + 11) + 40 * lv ≤ lc) (hW : (rest.map fun v => v.category).sum ≤ 8) (hk : k + mc ≤ ce) (hn : n + ms ≤ sl) : RN g x M k n pc L st0 rest Po mc ms := rn_V C hM hb rfl al_230 al_231 al_232 al_25 al_233 ⟨by decide, by decide, by decide +kernel⟩ hnA hst hdg hfr hlc hW hk hn
theorem cl_XT_56 {st0 As : List Value} {Po : Option Value → mp_M → Prop} {lv mc ms : Nat} (C : CX g x cc RXT fr ce sl lc) {b : Nat} {fs : List Value} (hM : Ct g yXT_covers cXT_covers 7 (some .boolean) lv (.ref b :: As) M Po mc ms) (hb : M b = some (.inr (ci_T, fs))) (hdg : decode cc pc = .ok (.invokevirtual 56, 3)) (hst : st0 = As.reverse ++ .ref b :: rest) (hnA : As.length = 3) (hfr : lv + 1 ≤ fr) (hlc : 8 + (7 + 11) + 40 * lv ≤ lc) (hW : (rest.map fun v => v.category).sum ≤ 8) (hk : k + mc ≤ ce) (hn : n + ms ≤ sl) : RN g x M k n pc L st0 rest Po mc ms := rn_V C hM hb rfl al_234 al_235 al_236 al_25 al_237 ⟨by decide, by decide, by decide +kernel⟩ hnA hst hdg hfr hlc hW hk hn
theorem cl_XT_60 {st0 As : List Value} {Po : Option Value → mp_M → Prop} {lv mc ms : Nat} (C : CX g x cc RXT fr ce sl lc) {b : Nat} {fs : List Value} (hM : Ct g yXT_dropEntry cXT_dropEntry 2 none lv (.ref b :: As) M Po mc ms) (hb : M b = some (.inr (ci_T, fs))) (hdg : decode cc pc = .ok (.invokevirtual 60, 3)) (hst : st0 = As.reverse ++ .ref b :: rest) (hnA : As.length = 1) (hfr : lv + 1 ≤ fr) (hlc : 8 + (2 + 11) + 40 * lv ≤ lc) (hW : (rest.map fun v => v.category).sum ≤ 8) (hk : k + mc ≤ ce) (hn : n + ms ≤ sl) : RN g x M k n pc L st0 rest Po mc ms := rn_V C hM hb rfl al_240 al_241 al_7 al_25 al_242 ⟨by decide, by decide, by decide +kernel⟩ hnA hst hdg hfr hlc hW hk hn
theorem cl_XS_143 {st0 As : List Value} {Po : Option Value → mp_M → Prop} {lv mc ms : Nat} (C : CX g x cc RXS fr ce sl lc) {b : Nat} {fs : List Value} (hM : Ct g yXT_dropOld cXT_dropOld 5 none lv (.ref b :: As) M Po mc ms) (hb : M b = some (.inr (ci_T, fs))) (hdg : decode cc pc = .ok (.invokevirtual 143, 3)) (hst : st0 = As.reverse ++ .ref b :: rest) (hnA : As.length = 2) (hfr : lv + 1 ≤ fr) (hlc : 8 + (5 + 11) + 40 * lv ≤ lc) (hW : (rest.map fun v => v.category).sum ≤ 8) (hk : k + mc ≤ ce) (hn : n + ms ≤ sl) : RN g x M k n pc L st0 rest Po mc ms := rn_V C hM hb rfl al_243 al_244 al_245 al_25 al_246 ⟨by decide, by decide, by decide +kernel⟩ hnA hst hdg hfr hlc hW hk hn
theorem cl_XS_147 {st0 As : List Value} {Po : Option Value → mp_M → Prop} {lv mc ms : Nat} (C : CX g x cc RXS fr ce sl lc) {b : Nat} {fs : List Value} (hM : Ct g yXA_remove cXA_remove 4 (some (.object "java/lang/Object")) lv (.ref b :: As) M Po mc ms) (hb : M b = some (.inr (ci_A, fs))) (hdg : decode cc pc = .ok (.invokevirtual 147, 3)) (hst : st0 = As.reverse ++ .ref b :: rest) (hnA : As.length = 1) (hfr : lv + 1 ≤ fr) (hlc : 8 + (4 + 11) + 40 * lv ≤ lc) (hW : (rest.map fun v => v.category).sum ≤ 8) (hk : k + mc ≤ ce) (hn : n + ms ≤ sl) : RN g x M k n pc L st0 rest Po mc ms := rn_V C hM hb rfl al_247 al_248 al_249 al_24 al_250 ⟨by decide, by decide, by decide +kernel⟩ hnA hst hdg hfr hlc hW hk hn
theorem cl_XA_144 {st0 As : List Value} {Po : Option Value → mp_M → Prop} {lv mc ms : Nat} (C : CX g x cc RXA fr ce sl lc) {b : Nat} {fs : List Value} (hM : Ct g yXA_fastRemove cXA_fastRemove 4 none lv (.ref b :: As) M Po mc ms) (hb : M b = some (.inr (ci_A, fs))) (hdg : decode cc pc = .ok (.invokevirtual 144, 3)) (hst : st0 = As.reverse ++ .ref b :: rest) (hnA : As.length = 2) (hfr : lv + 1 ≤ fr) (hlc : 8 + (4 + 11) + 40 * lv ≤ lc) (hW : (rest.map fun v => v.category).sum ≤ 8) (hk : k + mc ≤ ce) (hn : n + ms ≤ sl) : RN g x M k n pc L st0 rest Po mc ms := rn_V C hM hb rfl al_251 al_252 al_8 al_24 al_253 ⟨by decide, by decide, by decide +kernel⟩ hnA hst hdg hfr hlc hW hk hn
theorem cl_XL_26 {st0 As : List Value} {Po : Option Value → mp_M → Prop} {lv mc ms : Nat} (C : CX g x cc RXL fr ce sl lc) {b : Nat} {fs : List Value} (hM : Ct g yXS_delete cXS_delete 4 (some .boolean) lv (.ref b :: As) M Po mc ms) (hb : M b = some (.inr (ci_S, fs))) (hdg : decode cc pc = .ok (.invokevirtual 26, 3)) (hst : st0 = As.reverse ++ .ref b :: rest) (hnA : As.length = 3) (hfr : lv + 1 ≤ fr) (hlc : 8 + (4 + 11) + 40 * lv ≤ lc) (hW : (rest.map fun v => v.category).sum ≤ 8) (hk : k + mc ≤ ce) (hn : n + ms ≤ sl) : RN g x M k n pc L st0 rest Po mc ms := rn_V C hM hb rfl al_255 al_256 al_257 al_20 al_258 ⟨by decide, by decide, by decide +kernel⟩ hnA hst hdg hfr hlc hW hk hn
theorem cl_XL_31 {st0 As : List Value} {Po : Option Value → mp_M → Prop} {lv mc ms : Nat} (C : CX g x cc RXL fr ce sl lc) {b : Nat} {fs : List Value} (hM : Ct g yXS_wipe cXS_wipe 5 (some .boolean) lv (.ref b :: As) M Po mc ms) (hb : M b = some (.inr (ci_S, fs))) (hdg : decode cc pc = .ok (.invokevirtual 31, 3)) (hst : st0 = As.reverse ++ .ref b :: rest) (hnA : As.length = 4) (hfr : lv + 1 ≤ fr) (hlc : 8 + (5 + 11) + 40 * lv ≤ lc) (hW : (rest.map fun v => v.category).sum ≤ 8) (hk : k + mc ≤ ce) (hn : n + ms ≤ sl) : RN g x M k n pc L st0 rest Po mc ms := rn_V C hM hb rfl al_259 al_260 al_261 al_20 al_262 ⟨by decide, by decide, by decide +kernel⟩ hnA hst hdg hfr hlc hW hk hn
theorem cl_XS_75 {st0 As : List Value} {Po : Option Value → mp_M → Prop} {lv mc ms : Nat} (C : CX g x cc RXS fr ce sl lc) (hM : Ct g yXS_wipeSlot cXS_wipeSlot 3 (some .int) lv As M Po mc ms) (hdg : decode cc pc = .ok (.invokestatic 75, 3)) (hst : st0 = As.reverse ++ rest) (hnA : As.length = 3) (hfr : lv + 1 ≤ fr) (hlc : 8 + (3 + 11) + 40 * lv ≤ lc) (hW : (rest.map fun v => v.category).sum ≤ 8) (hk : k + mc ≤ ce) (hn : n + ms ≤ sl) : RN g x M k n pc L st0 rest Po mc ms := rn_S C hM al_263 al_238 al_20 al_239 ⟨by decide, by decide, by decide +kernel⟩ hnA hst hdg hfr hlc hW hk hn
theorem cl_XL_36 {st0 As : List Value} {Po : Option Value → mp_M → Prop} {lv mc ms : Nat} (C : CX g x cc RXL fr ce sl lc) {b : Nat} {fs : List Value} (hM : Ct g yXS_get cXS_get 4 (some .int) lv (.ref b :: As) M Po mc ms) (hb : M b = some (.inr (ci_S, fs))) (hdg : decode cc pc = .ok (.invokevirtual 36, 3)) (hst : st0 = As.reverse ++ .ref b :: rest) (hnA : As.length = 2) (hfr : lv + 1 ≤ fr) (hlc : 8 + (4 + 11) + 40 * lv ≤ lc) (hW : (rest.map fun v => v.category).sum ≤ 8) (hk : k + mc ≤ ce) (hn : n + ms ≤ sl) : RN g x M k n pc L st0 rest Po mc ms := rn_V C hM hb rfl al_264 al_265 al_266 al_20 al_267 ⟨by decide, by decide, by decide +kernel⟩ hnA hst hdg hfr hlc hW hk hn
theorem cl_XS_79 {st0 As : List Value} {Po : Option Value → mp_M → Prop} {lv mc ms : Nat} (C : CX g x cc RXS fr ce sl lc) {b : Nat} {fs : List Value} (hM : Ct g yXS_seenCell cXS_seenCell 4 (some (.object "WideStore$Entry")) lv (.ref b :: As) M Po mc ms) (hb : M b = some (.inr (ci_S, fs))) (hdg : decode cc pc = .ok (.invokevirtual 79, 3)) (hst : st0 = As.reverse ++ .ref b :: rest) (hnA : As.length = 2) (hfr : lv + 1 ≤ fr) (hlc : 8 + (4 + 11) + 40 * lv ≤ lc) (hW : (rest.map fun v => v.category).sum ≤ 8) (hk : k + mc ≤ ce) (hn : n + ms ≤ sl) : RN g x M k n pc L st0 rest Po mc ms := rn_V C hM hb rfl al_268 al_269 al_9 al_20 al_270 ⟨by decide, by decide, by decide +kernel⟩ hnA hst hdg hfr hlc hW hk hn
theorem cl_XS_150 {st0 As : List Value} {Po : Option Value → mp_M → Prop} {lv mc ms : Nat} (C : CX g x cc RXS fr ce sl lc) {b : Nat} {fs : List Value} (hM : Ct g yXS_winningPoint cXS_winningPoint 6 (some (.object "WideStore$Entry")) lv (.ref b :: As) M Po mc ms) (hb : M b = some (.inr (ci_S, fs))) (hdg : decode cc pc = .ok (.invokevirtual 150, 3)) (hst : st0 = As.reverse ++ .ref b :: rest) (hnA : As.length = 2) (hfr : lv + 1 ≤ fr) (hlc : 8 + (6 + 11) + 40 * lv ≤ lc) (hW : (rest.map fun v => v.category).sum ≤ 8) (hk : k + mc ≤ ce) (hn : n + ms ≤ sl) : RN g x M k n pc L st0 rest Po mc ms := rn_V C hM hb rfl al_271 al_272 al_10 al_20 al_273 ⟨by decide, by decide, by decide +kernel⟩ hnA hst hdg hfr hlc hW hk hn
theorem cl_XS_163 {st0 As : List Value} {Po : Option Value → mp_M → Prop} {lv mc ms : Nat} (C : CX g x cc RXS fr ce sl lc) {b : Nat} {fs : List Value} (hM : Ct g yXT_pointAt cXT_pointAt 3 (some (.object "WideStore$Entry")) lv (.ref b :: As) M Po mc ms) (hb : M b = some (.inr (ci_T, fs))) (hdg : decode cc pc = .ok (.invokevirtual 163, 3)) (hst : st0 = As.reverse ++ .ref b :: rest) (hnA : As.length = 2) (hfr : lv + 1 ≤ fr) (hlc : 8 + (3 + 11) + 40 * lv ≤ lc) (hW : (rest.map fun v => v.category).sum ≤ 8) (hk : k + mc ≤ ce) (hn : n + ms ≤ sl) : RN g x M k n pc L st0 rest Po mc ms := rn_V C hM hb rfl al_274 al_231 al_232 al_25 al_233 ⟨by decide, by decide, by decide +kernel⟩ hnA hst hdg hfr hlc hW hk hn
theorem cl_XS_166 {st0 As : List Value} {Po : Option Value → mp_M → Prop} {lv mc ms : Nat} (C : CX g x cc RXS fr ce sl lc) {b : Nat} {fs : List Value} (hM : Ct g yXE_winsOver cXE_winsOver 2 (some .boolean) lv (.ref b :: As) M Po mc ms) (hb : M b = some (.inr (ci_E, fs))) (hdg : decode cc pc = .ok (.invokevirtual 166, 3)) (hst : st0 = As.reverse ++ .ref b :: rest) (hnA : As.length = 1) (hfr : lv + 1 ≤ fr) (hlc : 8 + (2 + 11) + 40 * lv ≤ lc) (hW : (rest.map fun v => v.category).sum ≤ 8) (hk : k + mc ≤ ce) (hn : n + ms ≤ sl) : RN g x M k n pc L st0 rest Po mc ms := rn_V C hM hb rfl al_275 al_148 al_149 al_27 al_150 ⟨by decide, by decide, by decide +kernel⟩ hnA hst hdg hfr hlc hW hk hn
theorem cl_XS_159 {st0 As : List Value} {Po : Option Value → mp_M → Prop} {lv mc ms : Nat} (C : CX g x cc RXS fr ce sl lc) {b : Nat} {fs : List Value} (hM : Ct g yXS_isCovered cXS_isCovered 5 (some .boolean) lv (.ref b :: As) M Po mc ms) (hb : M b = some (.inr (ci_S, fs))) (hdg : decode cc pc = .ok (.invokevirtual 159, 3)) (hst : st0 = As.reverse ++ .ref b :: rest) (hnA : As.length = 3) (hfr : lv + 1 ≤ fr) (hlc : 8 + (5 + 11) + 40 * lv ≤ lc) (hW : (rest.map fun v => v.category).sum ≤ 8) (hk : k + mc ≤ ce) (hn : n + ms ≤ sl) : RN g x M k n pc L st0 rest Po mc ms := rn_V C hM hb rfl al_276 al_277 al_11 al_20 al_278 ⟨by decide, by decide, by decide +kernel⟩ hnA hst hdg hfr hlc hW hk hn
theorem cl_XS_169 {st0 As : List Value} {Po : Option Value → mp_M → Prop} {lv mc ms : Nat} (C : CX g x cc RXS fr ce sl lc) {b : Nat} {fs : List Value} (hM : Ct g yXT_covers cXT_covers 7 (some .boolean) lv (.ref b :: As) M Po mc ms) (hb : M b = some (.inr (ci_T, fs))) (hdg : decode cc pc = .ok (.invokevirtual 169, 3)) (hst : st0 = As.reverse ++ .ref b :: rest) (hnA : As.length = 3) (hfr : lv + 1 ≤ fr) (hlc : 8 + (7 + 11) + 40 * lv ≤ lc) (hW : (rest.map fun v => v.category).sum ≤ 8) (hk : k + mc ≤ ce) (hn : n + ms ≤ sl) : RN g x M k n pc L st0 rest Po mc ms := rn_V C hM hb rfl al_279 al_235 al_236 al_25 al_237 ⟨by decide, by decide, by decide +kernel⟩ hnA hst hdg hfr hlc hW hk hn
theorem cl_XL_41 {st0 As : List Value} {Po : Option Value → mp_M → Prop} {lv mc ms : Nat} (C : CX g x cc RXL fr ce sl lc) {b : Nat} {fs : List Value} (hM : Ct g yXS_stamp cXS_stamp 4 (some .int) lv (.ref b :: As) M Po mc ms) (hb : M b = some (.inr (ci_S, fs))) (hdg : decode cc pc = .ok (.invokevirtual 41, 3)) (hst : st0 = As.reverse ++ .ref b :: rest) (hnA : As.length = 2) (hfr : lv + 1 ≤ fr) (hlc : 8 + (4 + 11) + 40 * lv ≤ lc) (hW : (rest.map fun v => v.category).sum ≤ 8) (hk : k + mc ≤ ce) (hn : n + ms ≤ sl) : RN g x M k n pc L st0 rest Po mc ms := rn_V C hM hb rfl al_280 al_281 al_282 al_20 al_283 ⟨by decide, by decide, by decide +kernel⟩ hnA hst hdg hfr hlc hW hk hn
theorem cl_XL_45 {st0 As : List Value} {Po : Option Value → mp_M → Prop} {lv mc ms : Nat} (C : CX g x cc RXL fr ce sl lc) {b : Nat} {fs : List Value} (hM : Ct g yXS_next cXS_next 4 (some .int) lv (.ref b :: As) M Po mc ms) (hb : M b = some (.inr (ci_S, fs))) (hdg : decode cc pc = .ok (.invokevirtual 45, 3)) (hst : st0 = As.reverse ++ .ref b :: rest) (hnA : As.length = 2) (hfr : lv + 1 ≤ fr) (hlc : 8 + (4 + 11) + 40 * lv ≤ lc) (hW : (rest.map fun v => v.category).sum ≤ 8) (hk : k + mc ≤ ce) (hn : n + ms ≤ sl) : RN g x M k n pc L st0 rest Po mc ms := rn_V C hM hb rfl al_284 al_285 al_286 al_20 al_287 ⟨by decide, by decide, by decide +kernel⟩ hnA hst hdg hfr hlc hW hk hn
theorem cl_XL_49 {st0 As : List Value} {Po : Option Value → mp_M → Prop} {lv mc ms : Nat} (C : CX g x cc RXL fr ce sl lc) {b : Nat} {fs : List Value} (hM : Ct g yXS_nextRow cXS_nextRow 3 (some .int) lv (.ref b :: As) M Po mc ms) (hb : M b = some (.inr (ci_S, fs))) (hdg : decode cc pc = .ok (.invokevirtual 49, 3)) (hst : st0 = As.reverse ++ .ref b :: rest) (hnA : As.length = 1) (hfr : lv + 1 ≤ fr) (hlc : 8 + (3 + 11) + 40 * lv ≤ lc) (hW : (rest.map fun v => v.category).sum ≤ 8) (hk : k + mc ≤ ce) (hn : n + ms ≤ sl) : RN g x M k n pc L st0 rest Po mc ms := rn_V C hM hb rfl al_288 al_289 al_290 al_20 al_291 ⟨by decide, by decide, by decide +kernel⟩ hnA hst hdg hfr hlc hW hk hn
theorem cl_XS_89 {st0 As : List Value} {Po : Option Value → mp_M → Prop} {lv mc ms : Nat} (C : CX g x cc RXS fr ce sl lc) {b : Nat} {fs : List Value} (hM : Ct g yXS_next cXS_next 4 (some .int) lv (.ref b :: As) M Po mc ms) (hb : M b = some (.inr (ci_S, fs))) (hdg : decode cc pc = .ok (.invokevirtual 89, 3)) (hst : st0 = As.reverse ++ .ref b :: rest) (hnA : As.length = 2) (hfr : lv + 1 ≤ fr) (hlc : 8 + (4 + 11) + 40 * lv ≤ lc) (hW : (rest.map fun v => v.category).sum ≤ 8) (hk : k + mc ≤ ce) (hn : n + ms ≤ sl) : RN g x M k n pc L st0 rest Po mc ms := rn_V C hM hb rfl al_292 al_285 al_286 al_20 al_287 ⟨by decide, by decide, by decide +kernel⟩ hnA hst hdg hfr hlc hW hk hn
theorem cl_XL_54 {st0 As : List Value} {Po : Option Value → mp_M → Prop} {lv mc ms : Nat} (C : CX g x cc RXL fr ce sl lc) {b : Nat} {fs : List Value} (hM : Ct g yXS_flush cXS_flush 2 (some .int) lv (.ref b :: As) M Po mc ms) (hb : M b = some (.inr (ci_S, fs))) (hdg : decode cc pc = .ok (.invokevirtual 54, 3)) (hst : st0 = As.reverse ++ .ref b :: rest) (hnA : As.length = 0) (hfr : lv + 1 ≤ fr) (hlc : 8 + (2 + 11) + 40 * lv ≤ lc) (hW : (rest.map fun v => v.category).sum ≤ 8) (hk : k + mc ≤ ce) (hn : n + ms ≤ sl) : RN g x M k n pc L st0 rest Po mc ms := rn_V C hM hb rfl al_293 al_294 al_295 al_20 al_296 ⟨by decide, by decide, by decide +kernel⟩ hnA hst hdg hfr hlc hW hk hn
theorem cl_XL_59 {st0 As : List Value} {Po : Option Value → mp_M → Prop} {lv mc ms : Nat} (C : CX g x cc RXL fr ce sl lc) {b : Nat} {fs : List Value} (hM : Ct g yXS_merge cXS_merge 1 (some .int) lv (.ref b :: As) M Po mc ms) (hb : M b = some (.inr (ci_S, fs))) (hdg : decode cc pc = .ok (.invokevirtual 59, 3)) (hst : st0 = As.reverse ++ .ref b :: rest) (hnA : As.length = 0) (hfr : lv + 1 ≤ fr) (hlc : 8 + (1 + 11) + 40 * lv ≤ lc) (hW : (rest.map fun v => v.category).sum ≤ 8) (hk : k + mc ≤ ce) (hn : n + ms ≤ sl) : RN g x M k n pc L st0 rest Po mc ms := rn_V C hM hb rfl al_297 al_298 al_299 al_20 al_300 ⟨by decide, by decide, by decide +kernel⟩ hnA hst hdg hfr hlc hW hk hn
theorem cl_XS_98 {st0 As : List Value} {Po : Option Value → mp_M → Prop} {lv mc ms : Nat} (C : CX g x cc RXS fr ce sl lc) {b : Nat} {fs : List Value} (hM : Ct g yXA_isEmpty cXA_isEmpty 1 (some .boolean) lv (.ref b :: As) M Po mc ms) (hb : M b = some (.inr (ci_A, fs))) (hdg : decode cc pc = .ok (.invokevirtual 98, 3)) (hst : st0 = As.reverse ++ .ref b :: rest) (hnA : As.length = 0) (hfr : lv + 1 ≤ fr) (hlc : 8 + (1 + 11) + 40 * lv ≤ lc) (hW : (rest.map fun v => v.category).sum ≤ 8) (hk : k + mc ≤ ce) (hn : n + ms ≤ sl) : RN g x M k n pc L st0 rest Po mc ms := rn_V C hM hb rfl al_301 al_302 al_303 al_24 al_304 ⟨by decide, by decide, by decide +kernel⟩ hnA hst hdg hfr hlc hW hk hn
theorem cl_XS_102 {st0 As : List Value} {Po : Option Value → mp_M → Prop} {lv mc ms : Nat} (C : CX g x cc RXS fr ce sl lc) {b : Nat} {fs : List Value} (hM : Ct g yXS_greatestTier cXS_greatestTier 3 (some .int) lv (.ref b :: As) M Po mc ms) (hb : M b = some (.inr (ci_S, fs))) (hdg : decode cc pc = .ok (.invokevirtual 102, 3)) (hst : st0 = As.reverse ++ .ref b :: rest) (hnA : As.length = 0) (hfr : lv + 1 ≤ fr) (hlc : 8 + (3 + 11) + 40 * lv ≤ lc) (hW : (rest.map fun v => v.category).sum ≤ 8) (hk : k + mc ≤ ce) (hn : n + ms ≤ sl) : RN g x M k n pc L st0 rest Po mc ms := rn_V C hM hb rfl al_305 al_306 al_12 al_20 al_307 ⟨by decide, by decide, by decide +kernel⟩ hnA hst hdg hfr hlc hW hk hn
theorem cl_XL_63 {st0 As : List Value} {Po : Option Value → mp_M → Prop} {lv mc ms : Nat} (C : CX g x cc RXL fr ce sl lc) {b : Nat} {fs : List Value} (hM : Ct g yXS_sync cXS_sync 1 (some .int) lv (.ref b :: As) M Po mc ms) (hb : M b = some (.inr (ci_S, fs))) (hdg : decode cc pc = .ok (.invokevirtual 63, 3)) (hst : st0 = As.reverse ++ .ref b :: rest) (hnA : As.length = 0) (hfr : lv + 1 ≤ fr) (hlc : 8 + (1 + 11) + 40 * lv ≤ lc) (hW : (rest.map fun v => v.category).sum ≤ 8) (hk : k + mc ≤ ce) (hn : n + ms ≤ sl) : RN g x M k n pc L st0 rest Po mc ms := rn_V C hM hb rfl al_308 al_309 al_310 al_20 al_311 ⟨by decide, by decide, by decide +kernel⟩ hnA hst hdg hfr hlc hW hk hn
theorem cl_XL_67 {st0 As : List Value} {Po : Option Value → mp_M → Prop} {lv mc ms : Nat} (C : CX g x cc RXL fr ce sl lc) {b : Nat} {fs : List Value} (hM : Ct g yXS_crash cXS_crash 2 (some .int) lv (.ref b :: As) M Po mc ms) (hb : M b = some (.inr (ci_S, fs))) (hdg : decode cc pc = .ok (.invokevirtual 67, 3)) (hst : st0 = As.reverse ++ .ref b :: rest) (hnA : As.length = 0) (hfr : lv + 1 ≤ fr) (hlc : 8 + (2 + 11) + 40 * lv ≤ lc) (hW : (rest.map fun v => v.category).sum ≤ 8) (hk : k + mc ≤ ce) (hn : n + ms ≤ sl) : RN g x M k n pc L st0 rest Po mc ms := rn_V C hM hb rfl al_312 al_313 al_314 al_20 al_315 ⟨by decide, by decide, by decide +kernel⟩ hnA hst hdg hfr hlc hW hk hn
theorem cl_XS_110 {st0 As : List Value} {Po : Option Value → mp_M → Prop} {lv mc ms : Nat} (C : CX g x cc RXS fr ce sl lc) {b : Nat} {fs : List Value} (hM : Ct g yXT_clearSlots cXT_clearSlots 2 none lv (.ref b :: As) M Po mc ms) (hb : M b = some (.inr (ci_T, fs))) (hdg : decode cc pc = .ok (.invokevirtual 110, 3)) (hst : st0 = As.reverse ++ .ref b :: rest) (hnA : As.length = 0) (hfr : lv + 1 ≤ fr) (hlc : 8 + (2 + 11) + 40 * lv ≤ lc) (hW : (rest.map fun v => v.category).sum ≤ 8) (hk : k + mc ≤ ce) (hn : n + ms ≤ sl) : RN g x M k n pc L st0 rest Po mc ms := rn_V C hM hb rfl al_316 al_317 al_318 al_25 al_319 ⟨by decide, by decide, by decide +kernel⟩ hnA hst hdg hfr hlc hW hk hn
theorem cl_XL_71 {st0 As : List Value} {Po : Option Value → mp_M → Prop} {lv mc ms : Nat} (C : CX g x cc RXL fr ce sl lc) {b : Nat} {fs : List Value} (hM : Ct g yXS_tick cXS_tick 2 (some .int) lv (.ref b :: As) M Po mc ms) (hb : M b = some (.inr (ci_S, fs))) (hdg : decode cc pc = .ok (.invokevirtual 71, 3)) (hst : st0 = As.reverse ++ .ref b :: rest) (hnA : As.length = 1) (hfr : lv + 1 ≤ fr) (hlc : 8 + (2 + 11) + 40 * lv ≤ lc) (hW : (rest.map fun v => v.category).sum ≤ 8) (hk : k + mc ≤ ce) (hn : n + ms ≤ sl) : RN g x M k n pc L st0 rest Po mc ms := rn_V C hM hb rfl al_320 al_321 al_322 al_20 al_323 ⟨by decide, by decide, by decide +kernel⟩ hnA hst hdg hfr hlc hW hk hn
theorem cl_XL_75 {st0 As : List Value} {Po : Option Value → mp_M → Prop} {lv mc ms : Nat} (C : CX g x cc RXL fr ce sl lc) {b : Nat} {fs : List Value} (hM : Ct g yXS_count cXS_count 2 (some .int) lv (.ref b :: As) M Po mc ms) (hb : M b = some (.inr (ci_S, fs))) (hdg : decode cc pc = .ok (.invokevirtual 75, 3)) (hst : st0 = As.reverse ++ .ref b :: rest) (hnA : As.length = 1) (hfr : lv + 1 ≤ fr) (hlc : 8 + (2 + 11) + 40 * lv ≤ lc) (hW : (rest.map fun v => v.category).sum ≤ 8) (hk : k + mc ≤ ce) (hn : n + ms ≤ sl) : RN g x M k n pc L st0 rest Po mc ms := rn_V C hM hb rfl al_324 al_325 al_326 al_20 al_327 ⟨by decide, by decide, by decide +kernel⟩ hnA hst hdg hfr hlc hW hk hn
theorem cl_XL_79 {st0 As : List Value} {Po : Option Value → mp_M → Prop} {lv mc ms : Nat} (C : CX g x cc RXL fr ce sl lc) {b : Nat} {fs : List Value} (hM : Ct g yXS_run cXS_run 4 (some .int) lv (.ref b :: As) M Po mc ms) (hb : M b = some (.inr (ci_S, fs))) (hdg : decode cc pc = .ok (.invokevirtual 79, 3)) (hst : st0 = As.reverse ++ .ref b :: rest) (hnA : As.length = 2) (hfr : lv + 1 ≤ fr) (hlc : 8 + (4 + 11) + 40 * lv ≤ lc) (hW : (rest.map fun v => v.category).sum ≤ 8) (hk : k + mc ≤ ce) (hn : n + ms ≤ sl) : RN g x M k n pc L st0 rest Po mc ms := rn_V C hM hb rfl al_328 al_329 al_330 al_20 al_331 ⟨by decide, by decide, by decide +kernel⟩ hnA hst hdg hfr hlc hW hk hn
theorem cl_XL_9 {st0 As : List Value} {Po : Option Value → mp_M → Prop} {lv mc ms : Nat} (C : CX g x cc RXL fr ce sl lc) (hM : Ct g yXL_cell cXL_cell 2 (some .int) lv As M Po mc ms) (hdg : decode cc pc = .ok (.invokestatic 9, 3)) (hst : st0 = As.reverse ++ rest) (hnA : As.length = 2) (hfr : lv + 1 ≤ fr) (hlc : 8 + (2 + 11) + 40 * lv ≤ lc) (hW : (rest.map fun v => v.category).sum ≤ 8) (hk : k + mc ≤ ce) (hn : n + ms ≤ sl) : RN g x M k n pc L st0 rest Po mc ms := rn_S C hM al_332 al_333 al_19 al_334 ⟨by decide, by decide, by decide +kernel⟩ hnA hst hdg hfr hlc hW hk hn
theorem nw_XL_18 (C : CX g x cc RXL fr ce sl lc) (q : Nat) (hd : decode cc pc = .ok (.new 18, 3)) (hq : pc + 3 = q) (hcells : k + 1 ≤ ce) (hslots : n + 16 ≤ sl) (kk : ∀ a : Nat, M a = none → VV g x (mp_u M a (.inr (ci_M, [.int 0, .int 0, .int 0, .int 0, .null, .int 0, .int 0, .null, .int 0, .null, .null, .int 0, .int 0, .null, .null, .null]))) (k + 1) (n + 16) q L (.ref a :: rest)) : VV g x M k n pc L rest := v_new C q hinM tyXM tyXM_ok rfl al_335 al_336 al_26 (by intro j hj; rcases (show j = 0 ∨ j = 1 ∨ j = 2 ∨ j = 3 ∨ j = 4 ∨ j = 5 ∨ j = 6 ∨ j = 7 ∨ j = 8 ∨ j = 9 ∨ j = 10 ∨ j = 11 ∨ j = 12 ∨ j = 13 ∨ j = 14 ∨ j = 15 by omega) with rfl | rfl | rfl | rfl | rfl | rfl | rfl | rfl | rfl | rfl | rfl | rfl | rfl | rfl | rfl | rfl <;> rfl) hd hq hcells hslots kk
theorem cl_XL_20 {st0 As : List Value} {Po : Option Value → mp_M → Prop} {lv mc ms : Nat} (C : CX g x cc RXL fr ce sl lc) {b : Nat} (hM : Ct g yXM_init cXM_init 3 none lv (.ref b :: As) M Po mc ms) (hdg : decode cc pc = .ok (.invokespecial 20, 3)) (hst : st0 = As.reverse ++ .ref b :: rest) (hnA : As.length = 2) (hfr : lv + 1 ≤ fr) (hlc : 8 + (3 + 11) + 40 * lv ≤ lc) (hW : (rest.map fun v => v.category).sum ≤ 8) (hk : k + mc ≤ ce) (hn : n + ms ≤ sl) : RN g x M k n pc L st0 rest Po mc ms := rn_I C hM rfl al_337 al_338 al_26 al_339 ⟨by decide, by decide, by decide +kernel⟩ hnA hst hdg hfr hlc hW hk hn
theorem oi_XM_1 (C : CX g x cc RXM fr ce sl lc) (q : Nat) {a : Nat} (hd : decode cc pc = .ok (.invokespecial 1, 3)) (hq : pc + 3 = q) (hfr : 1 ≤ fr) (hlo : (rest.map fun v => v.category).sum + 12 ≤ lc) (kk : VV g x M k n q L rest) : VV g x M k n pc L (.ref a :: rest) := v_objInit C q al_340 al_39 al_40 hd hq hfr hlo kk
theorem gt_XM_31 (C : CX g x cc RXM fr ce sl lc) (q : Nat) {a : Nat} {fs : List Value} {v : Value} (hd : decode cc pc = .ok (.getfield 31, 3)) (hq : pc + 3 = q) (hM : M a = some (.inr (ci_M, fs))) (hv : fs[0]? = some v) (kk : VV g x M k n q L (v :: rest)) : VV g x M k n pc L (.ref a :: rest) := v_get C q hinM rfl 0 (by decide) al_341 (Or.inl rfl) hd hq hM hv kk
theorem pt_XM_31 (C : CX g x cc RXM fr ce sl lc) (I : IX x) (q : Nat) {a : Nat} {fs : List Value} {v : Value} (hd : decode cc pc = .ok (.putfield 31, 3)) (hq : pc + 3 = q) (hn : narrow .int v = v) (hfit : fits .int v = true) (hM : M a = some (.inr (ci_M, fs))) (hl2 : 0 < fs.length) (fs2 : List Value) (hfs : fs.set 0 v = fs2) (kk : VV g x (mp_u M a (.inr (ci_M, fs2))) k n q L rest) : VV g x M k n pc L (v :: .ref a :: rest) := v_putF C I q hinM tyXM tyXM_ok nmXM rfl 0 (by decide) al_341 (Or.inl rfl) rfl rfl (by decide +kernel) hd hq hn hfit hM hl2 fs2 hfs kk
theorem gt_XM_35 (C : CX g x cc RXM fr ce sl lc) (q : Nat) {a : Nat} {fs : List Value} {v : Value} (hd : decode cc pc = .ok (.getfield 35, 3)) (hq : pc + 3 = q) (hM : M a = some (.inr (ci_M, fs))) (hv : fs[1]? = some v) (kk : VV g x M k n q L (v :: rest)) : VV g x M k n pc L (.ref a :: rest) := v_get C q hinM rfl 1 (by decide) al_342 (Or.inl rfl) hd hq hM hv kk
theorem pt_XM_35 (C : CX g x cc RXM fr ce sl lc) (I : IX x) (q : Nat) {a : Nat} {fs : List Value} {v : Value} (hd : decode cc pc = .ok (.putfield 35, 3)) (hq : pc + 3 = q) (hn : narrow .int v = v) (hfit : fits .int v = true) (hM : M a = some (.inr (ci_M, fs))) (hl2 : 1 < fs.length) (fs2 : List Value) (hfs : fs.set 1 v = fs2) (kk : VV g x (mp_u M a (.inr (ci_M, fs2))) k n q L rest) : VV g x M k n pc L (v :: .ref a :: rest) := v_putF C I q hinM tyXM tyXM_ok nmXM rfl 1 (by decide) al_342 (Or.inl rfl) rfl rfl (by decide +kernel) hd hq hn hfit hM hl2 fs2 hfs kk
theorem gt_XM_75 (C : CX g x cc RXM fr ce sl lc) (q : Nat) {a : Nat} {fs : List Value} {v : Value} (hd : decode cc pc = .ok (.getfield 75, 3)) (hq : pc + 3 = q) (hM : M a = some (.inr (ci_M, fs))) (hv : fs[2]? = some v) (kk : VV g x M k n q L (v :: rest)) : VV g x M k n pc L (.ref a :: rest) := v_get C q hinM rfl 2 (by decide) al_343 (Or.inl rfl) hd hq hM hv kk
theorem pt_XM_75 (C : CX g x cc RXM fr ce sl lc) (q : Nat) {a : Nat} {fs : List Value} {v : Value} (hd : decode cc pc = .ok (.putfield 75, 3)) (hq : pc + 3 = q) (hn : narrow .int v = v) (hfit : fits .int v = true) (hM : M a = some (.inr (ci_M, fs))) (hl2 : 2 < fs.length) (fs2 : List Value) (hfs : fs.set 2 v = fs2) (kk : VV g x (mp_u M a (.inr (ci_M, fs2))) k n q L rest) : VV g x M k n pc L (v :: .ref a :: rest) := v_put C q hinM tyXM tyXM_ok nmXM rfl 2 (by decide) al_343 (Or.inl rfl) rfl (by decide +kernel) hd hq hn hfit hM hl2 fs2 hfs kk
theorem gt_XM_42 (C : CX g x cc RXM fr ce sl lc) (q : Nat) {a : Nat} {fs : List Value} {v : Value} (hd : decode cc pc = .ok (.getfield 42, 3)) (hq : pc + 3 = q) (hM : M a = some (.inr (ci_M, fs))) (hv : fs[3]? = some v) (kk : VV g x M k n q L (v :: rest)) : VV g x M k n pc L (.ref a :: rest) := v_get C q hinM rfl 3 (by decide) al_344 (Or.inl rfl) hd hq hM hv kk
theorem pt_XM_42 (C : CX g x cc RXM fr ce sl lc) (q : Nat) {a : Nat} {fs : List Value} {v : Value} (hd : decode cc pc = .ok (.putfield 42, 3)) (hq : pc + 3 = q) (hn : narrow .int v = v) (hfit : fits .int v = true) (hM : M a = some (.inr (ci_M, fs))) (hl2 : 3 < fs.length) (fs2 : List Value) (hfs : fs.set 3 v = fs2) (kk : VV g x (mp_u M a (.inr (ci_M, fs2))) k n q L rest) : VV g x M k n pc L (v :: .ref a :: rest) := v_put C q hinM tyXM tyXM_ok nmXM rfl 3 (by decide) al_344 (Or.inl rfl) rfl (by decide +kernel) hd hq hn hfit hM hl2 fs2 hfs kk
theorem gt_XM_7 (C : CX g x cc RXM fr ce sl lc) (q : Nat) {a : Nat} {fs : List Value} {v : Value} (hd : decode cc pc = .ok (.getfield 7, 3)) (hq : pc + 3 = q) (hM : M a = some (.inr (ci_M, fs))) (hv : fs[4]? = some v) (kk : VV g x M k n q L (v :: rest)) : VV g x M k n pc L (.ref a :: rest) := v_get C q hinM rfl 4 (by decide) al_345 (Or.inl rfl) hd hq hM hv kk
theorem pt_XM_7 (C : CX g x cc RXM fr ce sl lc) (I : IX x) (q : Nat) {a : Nat} {fs : List Value} {v : Value} (hd : decode cc pc = .ok (.putfield 7, 3)) (hq : pc + 3 = q) (hn : narrow (.array .int) v = v) (hfit : fits (.array .int) v = true) (hM : M a = some (.inr (ci_M, fs))) (hl2 : 4 < fs.length) (fs2 : List Value) (hfs : fs.set 4 v = fs2) (kk : VV g x (mp_u M a (.inr (ci_M, fs2))) k n q L rest) : VV g x M k n pc L (v :: .ref a :: rest) := v_putF C I q hinM tyXM tyXM_ok nmXM rfl 4 (by decide) al_345 (Or.inl rfl) rfl rfl (by decide +kernel) hd hq hn hfit hM hl2 fs2 hfs kk
theorem gt_XM_56 (C : CX g x cc RXM fr ce sl lc) (q : Nat) {a : Nat} {fs : List Value} {v : Value} (hd : decode cc pc = .ok (.getfield 56, 3)) (hq : pc + 3 = q) (hM : M a = some (.inr (ci_M, fs))) (hv : fs[5]? = some v) (kk : VV g x M k n q L (v :: rest)) : VV g x M k n pc L (.ref a :: rest) := v_get C q hinM rfl 5 (by decide) al_346 (Or.inl rfl) hd hq hM hv kk
theorem pt_XM_56 (C : CX g x cc RXM fr ce sl lc) (q : Nat) {a : Nat} {fs : List Value} {v : Value} (hd : decode cc pc = .ok (.putfield 56, 3)) (hq : pc + 3 = q) (hn : narrow .int v = v) (hfit : fits .int v = true) (hM : M a = some (.inr (ci_M, fs))) (hl2 : 5 < fs.length) (fs2 : List Value) (hfs : fs.set 5 v = fs2) (kk : VV g x (mp_u M a (.inr (ci_M, fs2))) k n q L rest) : VV g x M k n pc L (v :: .ref a :: rest) := v_put C q hinM tyXM tyXM_ok nmXM rfl 5 (by decide) al_346 (Or.inl rfl) rfl (by decide +kernel) hd hq hn hfit hM hl2 fs2 hfs kk
theorem gt_XM_91 (C : CX g x cc RXM fr ce sl lc) (q : Nat) {a : Nat} {fs : List Value} {v : Value} (hd : decode cc pc = .ok (.getfield 91, 3)) (hq : pc + 3 = q) (hM : M a = some (.inr (ci_M, fs))) (hv : fs[6]? = some v) (kk : VV g x M k n q L (v :: rest)) : VV g x M k n pc L (.ref a :: rest) := v_get C q hinM rfl 6 (by decide) al_347 (Or.inl rfl) hd hq hM hv kk
theorem pt_XM_91 (C : CX g x cc RXM fr ce sl lc) (q : Nat) {a : Nat} {fs : List Value} {v : Value} (hd : decode cc pc = .ok (.putfield 91, 3)) (hq : pc + 3 = q) (hn : narrow .int v = v) (hfit : fits .int v = true) (hM : M a = some (.inr (ci_M, fs))) (hl2 : 6 < fs.length) (fs2 : List Value) (hfs : fs.set 6 v = fs2) (kk : VV g x (mp_u M a (.inr (ci_M, fs2))) k n q L rest) : VV g x M k n pc L (v :: .ref a :: rest) := v_put C q hinM tyXM tyXM_ok nmXM rfl 6 (by decide) al_347 (Or.inl rfl) rfl (by decide +kernel) hd hq hn hfit hM hl2 fs2 hfs kk
theorem gt_XM_13 (C : CX g x cc RXM fr ce sl lc) (q : Nat) {a : Nat} {fs : List Value} {v : Value} (hd : decode cc pc = .ok (.getfield 13, 3)) (hq : pc + 3 = q) (hM : M a = some (.inr (ci_M, fs))) (hv : fs[7]? = some v) (kk : VV g x M k n q L (v :: rest)) : VV g x M k n pc L (.ref a :: rest) := v_get C q hinM rfl 7 (by decide) al_348 (Or.inl rfl) hd hq hM hv kk
theorem pt_XM_13 (C : CX g x cc RXM fr ce sl lc) (I : IX x) (q : Nat) {a : Nat} {fs : List Value} {v : Value} (hd : decode cc pc = .ok (.putfield 13, 3)) (hq : pc + 3 = q) (hn : narrow (.array .int) v = v) (hfit : fits (.array .int) v = true) (hM : M a = some (.inr (ci_M, fs))) (hl2 : 7 < fs.length) (fs2 : List Value) (hfs : fs.set 7 v = fs2) (kk : VV g x (mp_u M a (.inr (ci_M, fs2))) k n q L rest) : VV g x M k n pc L (v :: .ref a :: rest) := v_putF C I q hinM tyXM tyXM_ok nmXM rfl 7 (by decide) al_348 (Or.inl rfl) rfl rfl (by decide +kernel) hd hq hn hfit hM hl2 fs2 hfs kk
theorem gt_XM_85 (C : CX g x cc RXM fr ce sl lc) (q : Nat) {a : Nat} {fs : List Value} {v : Value} (hd : decode cc pc = .ok (.getfield 85, 3)) (hq : pc + 3 = q) (hM : M a = some (.inr (ci_M, fs))) (hv : fs[8]? = some v) (kk : VV g x M k n q L (v :: rest)) : VV g x M k n pc L (.ref a :: rest) := v_get C q hinM rfl 8 (by decide) al_349 (Or.inl rfl) hd hq hM hv kk
theorem pt_XM_85 (C : CX g x cc RXM fr ce sl lc) (q : Nat) {a : Nat} {fs : List Value} {v : Value} (hd : decode cc pc = .ok (.putfield 85, 3)) (hq : pc + 3 = q) (hn : narrow .int v = v) (hfit : fits .int v = true) (hM : M a = some (.inr (ci_M, fs))) (hl2 : 8 < fs.length) (fs2 : List Value) (hfs : fs.set 8 v = fs2) (kk : VV g x (mp_u M a (.inr (ci_M, fs2))) k n q L rest) : VV g x M k n pc L (v :: .ref a :: rest) := v_put C q hinM tyXM tyXM_ok nmXM rfl 8 (by decide) al_349 (Or.inl rfl) rfl (by decide +kernel) hd hq hn hfit hM hl2 fs2 hfs kk
theorem gt_XM_16 (C : CX g x cc RXM fr ce sl lc) (q : Nat) {a : Nat} {fs : List Value} {v : Value} (hd : decode cc pc = .ok (.getfield 16, 3)) (hq : pc + 3 = q) (hM : M a = some (.inr (ci_M, fs))) (hv : fs[9]? = some v) (kk : VV g x M k n q L (v :: rest)) : VV g x M k n pc L (.ref a :: rest) := v_get C q hinM rfl 9 (by decide) al_350 (Or.inl rfl) hd hq hM hv kk
theorem pt_XM_16 (C : CX g x cc RXM fr ce sl lc) (I : IX x) (q : Nat) {a : Nat} {fs : List Value} {v : Value} (hd : decode cc pc = .ok (.putfield 16, 3)) (hq : pc + 3 = q) (hn : narrow (.array .int) v = v) (hfit : fits (.array .int) v = true) (hM : M a = some (.inr (ci_M, fs))) (hl2 : 9 < fs.length) (fs2 : List Value) (hfs : fs.set 9 v = fs2) (kk : VV g x (mp_u M a (.inr (ci_M, fs2))) k n q L rest) : VV g x M k n pc L (v :: .ref a :: rest) := v_putF C I q hinM tyXM tyXM_ok nmXM rfl 9 (by decide) al_350 (Or.inl rfl) rfl rfl (by decide +kernel) hd hq hn hfit hM hl2 fs2 hfs kk
theorem gt_XM_19 (C : CX g x cc RXM fr ce sl lc) (q : Nat) {a : Nat} {fs : List Value} {v : Value} (hd : decode cc pc = .ok (.getfield 19, 3)) (hq : pc + 3 = q) (hM : M a = some (.inr (ci_M, fs))) (hv : fs[10]? = some v) (kk : VV g x M k n q L (v :: rest)) : VV g x M k n pc L (.ref a :: rest) := v_get C q hinM rfl 10 (by decide) al_351 (Or.inl rfl) hd hq hM hv kk
theorem pt_XM_19 (C : CX g x cc RXM fr ce sl lc) (I : IX x) (q : Nat) {a : Nat} {fs : List Value} {v : Value} (hd : decode cc pc = .ok (.putfield 19, 3)) (hq : pc + 3 = q) (hn : narrow (.array .int) v = v) (hfit : fits (.array .int) v = true) (hM : M a = some (.inr (ci_M, fs))) (hl2 : 10 < fs.length) (fs2 : List Value) (hfs : fs.set 10 v = fs2) (kk : VV g x (mp_u M a (.inr (ci_M, fs2))) k n q L rest) : VV g x M k n pc L (v :: .ref a :: rest) := v_putF C I q hinM tyXM tyXM_ok nmXM rfl 10 (by decide) al_351 (Or.inl rfl) rfl rfl (by decide +kernel) hd hq hn hfit hM hl2 fs2 hfs kk
theorem gt_XM_88 (C : CX g x cc RXM fr ce sl lc) (q : Nat) {a : Nat} {fs : List Value} {v : Value} (hd : decode cc pc = .ok (.getfield 88, 3)) (hq : pc + 3 = q) (hM : M a = some (.inr (ci_M, fs))) (hv : fs[11]? = some v) (kk : VV g x M k n q L (v :: rest)) : VV g x M k n pc L (.ref a :: rest) := v_get C q hinM rfl 11 (by decide) al_352 (Or.inl rfl) hd hq hM hv kk
theorem pt_XM_88 (C : CX g x cc RXM fr ce sl lc) (q : Nat) {a : Nat} {fs : List Value} {v : Value} (hd : decode cc pc = .ok (.putfield 88, 3)) (hq : pc + 3 = q) (hn : narrow .int v = v) (hfit : fits .int v = true) (hM : M a = some (.inr (ci_M, fs))) (hl2 : 11 < fs.length) (fs2 : List Value) (hfs : fs.set 11 v = fs2) (kk : VV g x (mp_u M a (.inr (ci_M, fs2))) k n q L rest) : VV g x M k n pc L (v :: .ref a :: rest) := v_put C q hinM tyXM tyXM_ok nmXM rfl 11 (by decide) al_352 (Or.inl rfl) rfl (by decide +kernel) hd hq hn hfit hM hl2 fs2 hfs kk
theorem gt_XM_82 (C : CX g x cc RXM fr ce sl lc) (q : Nat) {a : Nat} {fs : List Value} {v : Value} (hd : decode cc pc = .ok (.getfield 82, 3)) (hq : pc + 3 = q) (hM : M a = some (.inr (ci_M, fs))) (hv : fs[12]? = some v) (kk : VV g x M k n q L (v :: rest)) : VV g x M k n pc L (.ref a :: rest) := v_get C q hinM rfl 12 (by decide) al_353 (Or.inl rfl) hd hq hM hv kk
theorem pt_XM_82 (C : CX g x cc RXM fr ce sl lc) (q : Nat) {a : Nat} {fs : List Value} {v : Value} (hd : decode cc pc = .ok (.putfield 82, 3)) (hq : pc + 3 = q) (hn : narrow .int v = v) (hfit : fits .int v = true) (hM : M a = some (.inr (ci_M, fs))) (hl2 : 12 < fs.length) (fs2 : List Value) (hfs : fs.set 12 v = fs2) (kk : VV g x (mp_u M a (.inr (ci_M, fs2))) k n q L rest) : VV g x M k n pc L (v :: .ref a :: rest) := v_put C q hinM tyXM tyXM_ok nmXM rfl 12 (by decide) al_353 (Or.inl rfl) rfl (by decide +kernel) hd hq hn hfit hM hl2 fs2 hfs kk
theorem gt_XM_22 (C : CX g x cc RXM fr ce sl lc) (q : Nat) {a : Nat} {fs : List Value} {v : Value} (hd : decode cc pc = .ok (.getfield 22, 3)) (hq : pc + 3 = q) (hM : M a = some (.inr (ci_M, fs))) (hv : fs[13]? = some v) (kk : VV g x M k n q L (v :: rest)) : VV g x M k n pc L (.ref a :: rest) := v_get C q hinM rfl 13 (by decide) al_354 (Or.inl rfl) hd hq hM hv kk
theorem pt_XM_22 (C : CX g x cc RXM fr ce sl lc) (I : IX x) (q : Nat) {a : Nat} {fs : List Value} {v : Value} (hd : decode cc pc = .ok (.putfield 22, 3)) (hq : pc + 3 = q) (hn : narrow (.array .int) v = v) (hfit : fits (.array .int) v = true) (hM : M a = some (.inr (ci_M, fs))) (hl2 : 13 < fs.length) (fs2 : List Value) (hfs : fs.set 13 v = fs2) (kk : VV g x (mp_u M a (.inr (ci_M, fs2))) k n q L rest) : VV g x M k n pc L (v :: .ref a :: rest) := v_putF C I q hinM tyXM tyXM_ok nmXM rfl 13 (by decide) al_354 (Or.inl rfl) rfl rfl (by decide +kernel) hd hq hn hfit hM hl2 fs2 hfs kk
theorem gt_XM_25 (C : CX g x cc RXM fr ce sl lc) (q : Nat) {a : Nat} {fs : List Value} {v : Value} (hd : decode cc pc = .ok (.getfield 25, 3)) (hq : pc + 3 = q) (hM : M a = some (.inr (ci_M, fs))) (hv : fs[14]? = some v) (kk : VV g x M k n q L (v :: rest)) : VV g x M k n pc L (.ref a :: rest) := v_get C q hinM rfl 14 (by decide) al_355 (Or.inl rfl) hd hq hM hv kk
theorem pt_XM_25 (C : CX g x cc RXM fr ce sl lc) (I : IX x) (q : Nat) {a : Nat} {fs : List Value} {v : Value} (hd : decode cc pc = .ok (.putfield 25, 3)) (hq : pc + 3 = q) (hn : narrow (.array .int) v = v) (hfit : fits (.array .int) v = true) (hM : M a = some (.inr (ci_M, fs))) (hl2 : 14 < fs.length) (fs2 : List Value) (hfs : fs.set 14 v = fs2) (kk : VV g x (mp_u M a (.inr (ci_M, fs2))) k n q L rest) : VV g x M k n pc L (v :: .ref a :: rest) := v_putF C I q hinM tyXM tyXM_ok nmXM rfl 14 (by decide) al_355 (Or.inl rfl) rfl rfl (by decide +kernel) hd hq hn hfit hM hl2 fs2 hfs kk
theorem gt_XM_28 (C : CX g x cc RXM fr ce sl lc) (q : Nat) {a : Nat} {fs : List Value} {v : Value} (hd : decode cc pc = .ok (.getfield 28, 3)) (hq : pc + 3 = q) (hM : M a = some (.inr (ci_M, fs))) (hv : fs[15]? = some v) (kk : VV g x M k n q L (v :: rest)) : VV g x M k n pc L (.ref a :: rest) := v_get C q hinM rfl 15 (by decide) al_356 (Or.inl rfl) hd hq hM hv kk
theorem pt_XM_28 (C : CX g x cc RXM fr ce sl lc) (I : IX x) (q : Nat) {a : Nat} {fs : List Value} {v : Value} (hd : decode cc pc = .ok (.putfield 28, 3)) (hq : pc + 3 = q) (hn : narrow (.array .int) v = v) (hfit : fits (.array .int) v = true) (hM : M a = some (.inr (ci_M, fs))) (hl2 : 15 < fs.length) (fs2 : List Value) (hfs : fs.set 15 v = fs2) (kk : VV g x (mp_u M a (.inr (ci_M, fs2))) k n q L rest) : VV g x M k n pc L (v :: .ref a :: rest) := v_putF C I q hinM tyXM tyXM_ok nmXM rfl 15 (by decide) al_356 (Or.inl rfl) rfl rfl (by decide +kernel) hd hq hn hfit hM hl2 fs2 hfs kk
theorem cl_XL_25 {st0 As : List Value} {Po : Option Value → mp_M → Prop} {lv mc ms : Nat} (C : CX g x cc RXL fr ce sl lc) {b : Nat} {fs : List Value} (hM : Ct g yXM_put cXM_put 6 (some .boolean) lv (.ref b :: As) M Po mc ms) (hb : M b = some (.inr (ci_M, fs))) (hdg : decode cc pc = .ok (.invokevirtual 25, 3)) (hst : st0 = As.reverse ++ .ref b :: rest) (hnA : As.length = 5) (hfr : lv + 1 ≤ fr) (hlc : 8 + (6 + 11) + 40 * lv ≤ lc) (hW : (rest.map fun v => v.category).sum ≤ 8) (hk : k + mc ≤ ce) (hn : n + ms ≤ sl) : RN g x M k n pc L st0 rest Po mc ms := rn_V C hM hb rfl al_374 al_375 al_376 al_26 al_377 ⟨by decide, by decide, by decide +kernel⟩ hnA hst hdg hfr hlc hW hk hn
theorem cl_XM_67 {st0 As : List Value} {Po : Option Value → mp_M → Prop} {lv mc ms : Nat} (C : CX g x cc RXM fr ce sl lc) (hM : Ct g yXM_isPlace cXM_isPlace 2 (some .boolean) lv As M Po mc ms) (hdg : decode cc pc = .ok (.invokestatic 67, 3)) (hst : st0 = As.reverse ++ rest) (hnA : As.length = 2) (hfr : lv + 1 ≤ fr) (hlc : 8 + (2 + 11) + 40 * lv ≤ lc) (hW : (rest.map fun v => v.category).sum ≤ 8) (hk : k + mc ≤ ce) (hn : n + ms ≤ sl) : RN g x M k n pc L st0 rest Po mc ms := rn_S C hM al_378 al_379 al_26 al_380 ⟨by decide, by decide, by decide +kernel⟩ hnA hst hdg hfr hlc hW hk hn
theorem cl_XM_71 {st0 As : List Value} {Po : Option Value → mp_M → Prop} {lv mc ms : Nat} (C : CX g x cc RXM fr ce sl lc) (hM : Ct g yXM_isStamp cXM_isStamp 1 (some .boolean) lv As M Po mc ms) (hdg : decode cc pc = .ok (.invokestatic 71, 3)) (hst : st0 = As.reverse ++ rest) (hnA : As.length = 1) (hfr : lv + 1 ≤ fr) (hlc : 8 + (1 + 11) + 40 * lv ≤ lc) (hW : (rest.map fun v => v.category).sum ≤ 8) (hk : k + mc ≤ ce) (hn : n + ms ≤ sl) : RN g x M k n pc L st0 rest Po mc ms := rn_S C hM al_381 al_382 al_26 al_383 ⟨by decide, by decide, by decide +kernel⟩ hnA hst hdg hfr hlc hW hk hn
theorem cl_XM_78 {st0 As : List Value} {Po : Option Value → mp_M → Prop} {lv mc ms : Nat} (C : CX g x cc RXM fr ce sl lc) {b : Nat} {fs : List Value} (hM : Ct g yXM_add cXM_add 10 (some .boolean) lv (.ref b :: As) M Po mc ms) (hb : M b = some (.inr (ci_M, fs))) (hdg : decode cc pc = .ok (.invokevirtual 78, 3)) (hst : st0 = As.reverse ++ .ref b :: rest) (hnA : As.length = 7) (hfr : lv + 1 ≤ fr) (hlc : 8 + (10 + 11) + 40 * lv ≤ lc) (hW : (rest.map fun v => v.category).sum ≤ 8) (hk : k + mc ≤ ce) (hn : n + ms ≤ sl) : RN g x M k n pc L st0 rest Po mc ms := rn_V C hM hb rfl al_384 al_385 al_13 al_26 al_386 ⟨by decide, by decide, by decide +kernel⟩ hnA hst hdg hfr hlc hW hk hn
theorem cl_XM_59 {st0 As : List Value} {Po : Option Value → mp_M → Prop} {lv mc ms : Nat} (C : CX g x cc RXM fr ce sl lc) {b : Nat} {fs : List Value} (hM : Ct g yXM_remember cXM_remember 3 none lv (.ref b :: As) M Po mc ms) (hb : M b = some (.inr (ci_M, fs))) (hdg : decode cc pc = .ok (.invokevirtual 59, 3)) (hst : st0 = As.reverse ++ .ref b :: rest) (hnA : As.length = 1) (hfr : lv + 1 ≤ fr) (hlc : 8 + (3 + 11) + 40 * lv ≤ lc) (hW : (rest.map fun v => v.category).sum ≤ 8) (hk : k + mc ≤ ce) (hn : n + ms ≤ sl) : RN g x M k n pc L st0 rest Po mc ms := rn_V C hM hb rfl al_387 al_388 al_14 al_26 al_389 ⟨by decide, by decide, by decide +kernel⟩ hnA hst hdg hfr hlc hW hk hn
theorem cl_XM_45 {st0 As : List Value} {Po : Option Value → mp_M → Prop} {lv mc ms : Nat} (C : CX g x cc RXM fr ce sl lc) (hM : Ct g yXM_alike cXM_alike 5 (some .boolean) lv As M Po mc ms) (hdg : decode cc pc = .ok (.invokestatic 45, 3)) (hst : st0 = As.reverse ++ rest) (hnA : As.length = 4) (hfr : lv + 1 ≤ fr) (hlc : 8 + (5 + 11) + 40 * lv ≤ lc) (hW : (rest.map fun v => v.category).sum ≤ 8) (hk : k + mc ≤ ce) (hn : n + ms ≤ sl) : RN g x M k n pc L st0 rest Po mc ms := rn_S C hM al_390 al_391 al_26 al_392 ⟨by decide, by decide, by decide +kernel⟩ hnA hst hdg hfr hlc hW hk hn
theorem cl_XM_38 {st0 As : List Value} {Po : Option Value → mp_M → Prop} {lv mc ms : Nat} (C : CX g x cc RXM fr ce sl lc) (hM : Ct g yXM_point cXM_point 2 (some .boolean) lv As M Po mc ms) (hdg : decode cc pc = .ok (.invokestatic 38, 3)) (hst : st0 = As.reverse ++ rest) (hnA : As.length = 2) (hfr : lv + 1 ≤ fr) (hlc : 8 + (2 + 11) + 40 * lv ≤ lc) (hW : (rest.map fun v => v.category).sum ≤ 8) (hk : k + mc ≤ ce) (hn : n + ms ≤ sl) : RN g x M k n pc L st0 rest Po mc ms := rn_S C hM al_393 al_394 al_26 al_395 ⟨by decide, by decide, by decide +kernel⟩ hnA hst hdg hfr hlc hW hk hn
theorem cl_XM_49 {st0 As : List Value} {Po : Option Value → mp_M → Prop} {lv mc ms : Nat} (C : CX g x cc RXM fr ce sl lc) (hM : Ct g yXM_wins cXM_wins 4 (some .boolean) lv As M Po mc ms) (hdg : decode cc pc = .ok (.invokestatic 49, 3)) (hst : st0 = As.reverse ++ rest) (hnA : As.length = 4) (hfr : lv + 1 ≤ fr) (hlc : 8 + (4 + 11) + 40 * lv ≤ lc) (hW : (rest.map fun v => v.category).sum ≤ 8) (hk : k + mc ≤ ce) (hn : n + ms ≤ sl) : RN g x M k n pc L st0 rest Po mc ms := rn_S C hM al_396 al_397 al_26 al_398 ⟨by decide, by decide, by decide +kernel⟩ hnA hst hdg hfr hlc hW hk hn
theorem cl_XM_52 {st0 As : List Value} {Po : Option Value → mp_M → Prop} {lv mc ms : Nat} (C : CX g x cc RXM fr ce sl lc) (hM : Ct g yXM_copy cXM_copy 5 none lv As M Po mc ms) (hdg : decode cc pc = .ok (.invokestatic 52, 3)) (hst : st0 = As.reverse ++ rest) (hnA : As.length = 4) (hfr : lv + 1 ≤ fr) (hlc : 8 + (5 + 11) + 40 * lv ≤ lc) (hW : (rest.map fun v => v.category).sum ≤ 8) (hk : k + mc ≤ ce) (hn : n + ms ≤ sl) : RN g x M k n pc L st0 rest Po mc ms := rn_S C hM al_399 al_400 al_26 al_401 ⟨by decide, by decide, by decide +kernel⟩ hnA hst hdg hfr hlc hW hk hn
theorem cl_XM_63 {st0 As : List Value} {Po : Option Value → mp_M → Prop} {lv mc ms : Nat} (C : CX g x cc RXM fr ce sl lc) {b : Nat} {fs : List Value} (hM : Ct g yXM_flushAll cXM_flushAll 3 (some .int) lv (.ref b :: As) M Po mc ms) (hb : M b = some (.inr (ci_M, fs))) (hdg : decode cc pc = .ok (.invokevirtual 63, 3)) (hst : st0 = As.reverse ++ .ref b :: rest) (hnA : As.length = 0) (hfr : lv + 1 ≤ fr) (hlc : 8 + (3 + 11) + 40 * lv ≤ lc) (hW : (rest.map fun v => v.category).sum ≤ 8) (hk : k + mc ≤ ce) (hn : n + ms ≤ sl) : RN g x M k n pc L st0 rest Po mc ms := rn_V C hM hb rfl al_402 al_403 al_15 al_26 al_404 ⟨by decide, by decide, by decide +kernel⟩ hnA hst hdg hfr hlc hW hk hn
theorem cl_XM_94 {st0 As : List Value} {Po : Option Value → mp_M → Prop} {lv mc ms : Nat} (C : CX g x cc RXM fr ce sl lc) {b : Nat} {fs : List Value} (hM : Ct g yXM_join cXM_join 8 none lv (.ref b :: As) M Po mc ms) (hb : M b = some (.inr (ci_M, fs))) (hdg : decode cc pc = .ok (.invokevirtual 94, 3)) (hst : st0 = As.reverse ++ .ref b :: rest) (hnA : As.length = 2) (hfr : lv + 1 ≤ fr) (hlc : 8 + (8 + 11) + 40 * lv ≤ lc) (hW : (rest.map fun v => v.category).sum ≤ 8) (hk : k + mc ≤ ce) (hn : n + ms ≤ sl) : RN g x M k n pc L st0 rest Po mc ms := rn_V C hM hb rfl al_405 al_406 al_16 al_26 al_407 ⟨by decide, by decide, by decide +kernel⟩ hnA hst hdg hfr hlc hW hk hn
theorem cl_XM_98 {st0 As : List Value} {Po : Option Value → mp_M → Prop} {lv mc ms : Nat} (C : CX g x cc RXM fr ce sl lc) (hM : Ct g yXM_covers cXM_covers 5 (some .boolean) lv As M Po mc ms) (hdg : decode cc pc = .ok (.invokestatic 98, 3)) (hst : st0 = As.reverse ++ rest) (hnA : As.length = 5) (hfr : lv + 1 ≤ fr) (hlc : 8 + (5 + 11) + 40 * lv ≤ lc) (hW : (rest.map fun v => v.category).sum ≤ 8) (hk : k + mc ≤ ce) (hn : n + ms ≤ sl) : RN g x M k n pc L st0 rest Po mc ms := rn_S C hM al_408 al_409 al_26 al_410 ⟨by decide, by decide, by decide +kernel⟩ hnA hst hdg hfr hlc hW hk hn
theorem cl_XL_30 {st0 As : List Value} {Po : Option Value → mp_M → Prop} {lv mc ms : Nat} (C : CX g x cc RXL fr ce sl lc) {b : Nat} {fs : List Value} (hM : Ct g yXM_delete cXM_delete 4 (some .boolean) lv (.ref b :: As) M Po mc ms) (hb : M b = some (.inr (ci_M, fs))) (hdg : decode cc pc = .ok (.invokevirtual 30, 3)) (hst : st0 = As.reverse ++ .ref b :: rest) (hnA : As.length = 3) (hfr : lv + 1 ≤ fr) (hlc : 8 + (4 + 11) + 40 * lv ≤ lc) (hW : (rest.map fun v => v.category).sum ≤ 8) (hk : k + mc ≤ ce) (hn : n + ms ≤ sl) : RN g x M k n pc L st0 rest Po mc ms := rn_V C hM hb rfl al_411 al_412 al_413 al_26 al_414 ⟨by decide, by decide, by decide +kernel⟩ hnA hst hdg hfr hlc hW hk hn
theorem cl_XL_35 {st0 As : List Value} {Po : Option Value → mp_M → Prop} {lv mc ms : Nat} (C : CX g x cc RXL fr ce sl lc) {b : Nat} {fs : List Value} (hM : Ct g yXM_wipe cXM_wipe 5 (some .boolean) lv (.ref b :: As) M Po mc ms) (hb : M b = some (.inr (ci_M, fs))) (hdg : decode cc pc = .ok (.invokevirtual 35, 3)) (hst : st0 = As.reverse ++ .ref b :: rest) (hnA : As.length = 4) (hfr : lv + 1 ≤ fr) (hlc : 8 + (5 + 11) + 40 * lv ≤ lc) (hW : (rest.map fun v => v.category).sum ≤ 8) (hk : k + mc ≤ ce) (hn : n + ms ≤ sl) : RN g x M k n pc L st0 rest Po mc ms := rn_V C hM hb rfl al_415 al_416 al_417 al_26 al_418 ⟨by decide, by decide, by decide +kernel⟩ hnA hst hdg hfr hlc hW hk hn
theorem cl_XL_58 {st0 As : List Value} {Po : Option Value → mp_M → Prop} {lv mc ms : Nat} (C : CX g x cc RXL fr ce sl lc) {b : Nat} {fs : List Value} (hM : Ct g yXM_flush cXM_flush 1 (some .int) lv (.ref b :: As) M Po mc ms) (hb : M b = some (.inr (ci_M, fs))) (hdg : decode cc pc = .ok (.invokevirtual 58, 3)) (hst : st0 = As.reverse ++ .ref b :: rest) (hnA : As.length = 0) (hfr : lv + 1 ≤ fr) (hlc : 8 + (1 + 11) + 40 * lv ≤ lc) (hW : (rest.map fun v => v.category).sum ≤ 8) (hk : k + mc ≤ ce) (hn : n + ms ≤ sl) : RN g x M k n pc L st0 rest Po mc ms := rn_V C hM hb rfl al_419 al_420 al_421 al_26 al_422 ⟨by decide, by decide, by decide +kernel⟩ hnA hst hdg hfr hlc hW hk hn
theorem cl_XL_62 {st0 As : List Value} {Po : Option Value → mp_M → Prop} {lv mc ms : Nat} (C : CX g x cc RXL fr ce sl lc) {b : Nat} {fs : List Value} (hM : Ct g yXM_merge cXM_merge 3 (some .int) lv (.ref b :: As) M Po mc ms) (hb : M b = some (.inr (ci_M, fs))) (hdg : decode cc pc = .ok (.invokevirtual 62, 3)) (hst : st0 = As.reverse ++ .ref b :: rest) (hnA : As.length = 0) (hfr : lv + 1 ≤ fr) (hlc : 8 + (3 + 11) + 40 * lv ≤ lc) (hW : (rest.map fun v => v.category).sum ≤ 8) (hk : k + mc ≤ ce) (hn : n + ms ≤ sl) : RN g x M k n pc L st0 rest Po mc ms := rn_V C hM hb rfl al_423 al_424 al_425 al_26 al_426 ⟨by decide, by decide, by decide +kernel⟩ hnA hst hdg hfr hlc hW hk hn
theorem cl_XM_102 {st0 As : List Value} {Po : Option Value → mp_M → Prop} {lv mc ms : Nat} (C : CX g x cc RXM fr ce sl lc) {b : Nat} {fs : List Value} (hM : Ct g yXM_run cXM_run 5 (some .int) lv (.ref b :: As) M Po mc ms) (hb : M b = some (.inr (ci_M, fs))) (hdg : decode cc pc = .ok (.invokevirtual 102, 3)) (hst : st0 = As.reverse ++ .ref b :: rest) (hnA : As.length = 2) (hfr : lv + 1 ≤ fr) (hlc : 8 + (5 + 11) + 40 * lv ≤ lc) (hW : (rest.map fun v => v.category).sum ≤ 8) (hk : k + mc ≤ ce) (hn : n + ms ≤ sl) : RN g x M k n pc L st0 rest Po mc ms := rn_V C hM hb rfl al_427 al_428 al_429 al_26 al_430 ⟨by decide, by decide, by decide +kernel⟩ hnA hst hdg hfr hlc hW hk hn
theorem cl_XL_40 {st0 As : List Value} {Po : Option Value → mp_M → Prop} {lv mc ms : Nat} (C : CX g x cc RXL fr ce sl lc) {b : Nat} {fs : List Value} (hM : Ct g yXM_get cXM_get 3 (some .int) lv (.ref b :: As) M Po mc ms) (hb : M b = some (.inr (ci_M, fs))) (hdg : decode cc pc = .ok (.invokevirtual 40, 3)) (hst : st0 = As.reverse ++ .ref b :: rest) (hnA : As.length = 2) (hfr : lv + 1 ≤ fr) (hlc : 8 + (3 + 11) + 40 * lv ≤ lc) (hW : (rest.map fun v => v.category).sum ≤ 8) (hk : k + mc ≤ ce) (hn : n + ms ≤ sl) : RN g x M k n pc L st0 rest Po mc ms := rn_V C hM hb rfl al_431 al_432 al_433 al_26 al_434 ⟨by decide, by decide, by decide +kernel⟩ hnA hst hdg hfr hlc hW hk hn
theorem cl_XM_110 {st0 As : List Value} {Po : Option Value → mp_M → Prop} {lv mc ms : Nat} (C : CX g x cc RXM fr ce sl lc) {b : Nat} {fs : List Value} (hM : Ct g yXM_seen cXM_seen 5 (some .boolean) lv (.ref b :: As) M Po mc ms) (hb : M b = some (.inr (ci_M, fs))) (hdg : decode cc pc = .ok (.invokevirtual 110, 3)) (hst : st0 = As.reverse ++ .ref b :: rest) (hnA : As.length = 2) (hfr : lv + 1 ≤ fr) (hlc : 8 + (5 + 11) + 40 * lv ≤ lc) (hW : (rest.map fun v => v.category).sum ≤ 8) (hk : k + mc ≤ ce) (hn : n + ms ≤ sl) : RN g x M k n pc L st0 rest Po mc ms := rn_V C hM hb rfl al_435 al_436 al_17 al_26 al_437 ⟨by decide, by decide, by decide +kernel⟩ hnA hst hdg hfr hlc hW hk hn
theorem cl_XM_107 {st0 As : List Value} {Po : Option Value → mp_M → Prop} {lv mc ms : Nat} (C : CX g x cc RXM fr ce sl lc) {b : Nat} {fs : List Value} (hM : Ct g yXM_winner cXM_winner 6 (some .int) lv (.ref b :: As) M Po mc ms) (hb : M b = some (.inr (ci_M, fs))) (hdg : decode cc pc = .ok (.invokevirtual 107, 3)) (hst : st0 = As.reverse ++ .ref b :: rest) (hnA : As.length = 2) (hfr : lv + 1 ≤ fr) (hlc : 8 + (6 + 11) + 40 * lv ≤ lc) (hW : (rest.map fun v => v.category).sum ≤ 8) (hk : k + mc ≤ ce) (hn : n + ms ≤ sl) : RN g x M k n pc L st0 rest Po mc ms := rn_V C hM hb rfl al_438 al_439 al_18 al_26 al_440 ⟨by decide, by decide, by decide +kernel⟩ hnA hst hdg hfr hlc hW hk hn
theorem ld_XM_106 (C : CX g x cc RXM fr ce sl lc) (q : Nat) (hd : decode cc pc = .ok (.ldc 106, 2)) (hq : pc + 2 = q) (kk : VV g x M k n q L (.int (-1000000) :: rest)) : VV g x M k n pc L rest := v_ldc C q al_441 hd hq kk
theorem cl_XL_44 {st0 As : List Value} {Po : Option Value → mp_M → Prop} {lv mc ms : Nat} (C : CX g x cc RXL fr ce sl lc) {b : Nat} {fs : List Value} (hM : Ct g yXM_stamp cXM_stamp 3 (some .int) lv (.ref b :: As) M Po mc ms) (hb : M b = some (.inr (ci_M, fs))) (hdg : decode cc pc = .ok (.invokevirtual 44, 3)) (hst : st0 = As.reverse ++ .ref b :: rest) (hnA : As.length = 2) (hfr : lv + 1 ≤ fr) (hlc : 8 + (3 + 11) + 40 * lv ≤ lc) (hW : (rest.map fun v => v.category).sum ≤ 8) (hk : k + mc ≤ ce) (hn : n + ms ≤ sl) : RN g x M k n pc L st0 rest Po mc ms := rn_V C hM hb rfl al_442 al_443 al_444 al_26 al_445 ⟨by decide, by decide, by decide +kernel⟩ hnA hst hdg hfr hlc hW hk hn
theorem cl_XL_48 {st0 As : List Value} {Po : Option Value → mp_M → Prop} {lv mc ms : Nat} (C : CX g x cc RXL fr ce sl lc) {b : Nat} {fs : List Value} (hM : Ct g yXM_next cXM_next 4 (some .int) lv (.ref b :: As) M Po mc ms) (hb : M b = some (.inr (ci_M, fs))) (hdg : decode cc pc = .ok (.invokevirtual 48, 3)) (hst : st0 = As.reverse ++ .ref b :: rest) (hnA : As.length = 2) (hfr : lv + 1 ≤ fr) (hlc : 8 + (4 + 11) + 40 * lv ≤ lc) (hW : (rest.map fun v => v.category).sum ≤ 8) (hk : k + mc ≤ ce) (hn : n + ms ≤ sl) : RN g x M k n pc L st0 rest Po mc ms := rn_V C hM hb rfl al_446 al_447 al_448 al_26 al_449 ⟨by decide, by decide, by decide +kernel⟩ hnA hst hdg hfr hlc hW hk hn
theorem cl_XL_53 {st0 As : List Value} {Po : Option Value → mp_M → Prop} {lv mc ms : Nat} (C : CX g x cc RXL fr ce sl lc) {b : Nat} {fs : List Value} (hM : Ct g yXM_nextRow cXM_nextRow 3 (some .int) lv (.ref b :: As) M Po mc ms) (hb : M b = some (.inr (ci_M, fs))) (hdg : decode cc pc = .ok (.invokevirtual 53, 3)) (hst : st0 = As.reverse ++ .ref b :: rest) (hnA : As.length = 1) (hfr : lv + 1 ≤ fr) (hlc : 8 + (3 + 11) + 40 * lv ≤ lc) (hW : (rest.map fun v => v.category).sum ≤ 8) (hk : k + mc ≤ ce) (hn : n + ms ≤ sl) : RN g x M k n pc L st0 rest Po mc ms := rn_V C hM hb rfl al_450 al_451 al_452 al_26 al_453 ⟨by decide, by decide, by decide +kernel⟩ hnA hst hdg hfr hlc hW hk hn
theorem cl_XM_113 {st0 As : List Value} {Po : Option Value → mp_M → Prop} {lv mc ms : Nat} (C : CX g x cc RXM fr ce sl lc) {b : Nat} {fs : List Value} (hM : Ct g yXM_next cXM_next 4 (some .int) lv (.ref b :: As) M Po mc ms) (hb : M b = some (.inr (ci_M, fs))) (hdg : decode cc pc = .ok (.invokevirtual 113, 3)) (hst : st0 = As.reverse ++ .ref b :: rest) (hnA : As.length = 2) (hfr : lv + 1 ≤ fr) (hlc : 8 + (4 + 11) + 40 * lv ≤ lc) (hW : (rest.map fun v => v.category).sum ≤ 8) (hk : k + mc ≤ ce) (hn : n + ms ≤ sl) : RN g x M k n pc L st0 rest Po mc ms := rn_V C hM hb rfl al_454 al_447 al_448 al_26 al_449 ⟨by decide, by decide, by decide +kernel⟩ hnA hst hdg hfr hlc hW hk hn
theorem cl_XL_66 {st0 As : List Value} {Po : Option Value → mp_M → Prop} {lv mc ms : Nat} (C : CX g x cc RXL fr ce sl lc) {b : Nat} {fs : List Value} (hM : Ct g yXM_sync cXM_sync 1 (some .int) lv (.ref b :: As) M Po mc ms) (hb : M b = some (.inr (ci_M, fs))) (hdg : decode cc pc = .ok (.invokevirtual 66, 3)) (hst : st0 = As.reverse ++ .ref b :: rest) (hnA : As.length = 0) (hfr : lv + 1 ≤ fr) (hlc : 8 + (1 + 11) + 40 * lv ≤ lc) (hW : (rest.map fun v => v.category).sum ≤ 8) (hk : k + mc ≤ ce) (hn : n + ms ≤ sl) : RN g x M k n pc L st0 rest Po mc ms := rn_V C hM hb rfl al_455 al_456 al_457 al_26 al_458 ⟨by decide, by decide, by decide +kernel⟩ hnA hst hdg hfr hlc hW hk hn
theorem cl_XL_70 {st0 As : List Value} {Po : Option Value → mp_M → Prop} {lv mc ms : Nat} (C : CX g x cc RXL fr ce sl lc) {b : Nat} {fs : List Value} (hM : Ct g yXM_crash cXM_crash 2 (some .int) lv (.ref b :: As) M Po mc ms) (hb : M b = some (.inr (ci_M, fs))) (hdg : decode cc pc = .ok (.invokevirtual 70, 3)) (hst : st0 = As.reverse ++ .ref b :: rest) (hnA : As.length = 0) (hfr : lv + 1 ≤ fr) (hlc : 8 + (2 + 11) + 40 * lv ≤ lc) (hW : (rest.map fun v => v.category).sum ≤ 8) (hk : k + mc ≤ ce) (hn : n + ms ≤ sl) : RN g x M k n pc L st0 rest Po mc ms := rn_V C hM hb rfl al_459 al_460 al_461 al_26 al_462 ⟨by decide, by decide, by decide +kernel⟩ hnA hst hdg hfr hlc hW hk hn
theorem cl_XL_74 {st0 As : List Value} {Po : Option Value → mp_M → Prop} {lv mc ms : Nat} (C : CX g x cc RXL fr ce sl lc) {b : Nat} {fs : List Value} (hM : Ct g yXM_tick cXM_tick 2 (some .int) lv (.ref b :: As) M Po mc ms) (hb : M b = some (.inr (ci_M, fs))) (hdg : decode cc pc = .ok (.invokevirtual 74, 3)) (hst : st0 = As.reverse ++ .ref b :: rest) (hnA : As.length = 1) (hfr : lv + 1 ≤ fr) (hlc : 8 + (2 + 11) + 40 * lv ≤ lc) (hW : (rest.map fun v => v.category).sum ≤ 8) (hk : k + mc ≤ ce) (hn : n + ms ≤ sl) : RN g x M k n pc L st0 rest Po mc ms := rn_V C hM hb rfl al_463 al_464 al_465 al_26 al_466 ⟨by decide, by decide, by decide +kernel⟩ hnA hst hdg hfr hlc hW hk hn
theorem cl_XL_78 {st0 As : List Value} {Po : Option Value → mp_M → Prop} {lv mc ms : Nat} (C : CX g x cc RXL fr ce sl lc) {b : Nat} {fs : List Value} (hM : Ct g yXM_count cXM_count 2 (some .int) lv (.ref b :: As) M Po mc ms) (hb : M b = some (.inr (ci_M, fs))) (hdg : decode cc pc = .ok (.invokevirtual 78, 3)) (hst : st0 = As.reverse ++ .ref b :: rest) (hnA : As.length = 1) (hfr : lv + 1 ≤ fr) (hlc : 8 + (2 + 11) + 40 * lv ≤ lc) (hW : (rest.map fun v => v.category).sum ≤ 8) (hk : k + mc ≤ ce) (hn : n + ms ≤ sl) : RN g x M k n pc L st0 rest Po mc ms := rn_V C hM hb rfl al_467 al_468 al_469 al_26 al_470 ⟨by decide, by decide, by decide +kernel⟩ hnA hst hdg hfr hlc hW hk hn
theorem cl_XL_82 {st0 As : List Value} {Po : Option Value → mp_M → Prop} {lv mc ms : Nat} (C : CX g x cc RXL fr ce sl lc) {b : Nat} {fs : List Value} (hM : Ct g yXM_run cXM_run 5 (some .int) lv (.ref b :: As) M Po mc ms) (hb : M b = some (.inr (ci_M, fs))) (hdg : decode cc pc = .ok (.invokevirtual 82, 3)) (hst : st0 = As.reverse ++ .ref b :: rest) (hnA : As.length = 2) (hfr : lv + 1 ≤ fr) (hlc : 8 + (5 + 11) + 40 * lv ≤ lc) (hW : (rest.map fun v => v.category).sum ≤ 8) (hk : k + mc ≤ ce) (hn : n + ms ≤ sl) : RN g x M k n pc L st0 rest Po mc ms := rn_V C hM hb rfl al_471 al_428 al_429 al_26 al_430 ⟨by decide, by decide, by decide +kernel⟩ hnA hst hdg hfr hlc hW hk hn
theorem cl_XT_27 {st0 As : List Value} {Po : Option Value → mp_M → Prop} {lv mc ms : Nat} (C : CX g x cc RXT fr ce sl lc) (hM : Ct g yXS_pointSlot cXS_pointSlot 2 (some .int) lv As M Po mc ms) (hdg : decode cc pc = .ok (.invokestatic 27, 3)) (hst : st0 = As.reverse ++ rest) (hnA : As.length = 2) (hfr : lv + 1 ≤ fr) (hlc : 8 + (2 + 11) + 40 * lv ≤ lc) (hW : (rest.map fun v => v.category).sum ≤ 8) (hk : k + mc ≤ ce) (hn : n + ms ≤ sl) : RN g x M k n pc L st0 rest Po mc ms := rn_SN C hM (fun s h => h.2.2.2.1) al_116 al_20 al_117 ⟨by decide, by decide, by decide +kernel⟩ hnA hst hdg hfr hlc hW hk hn
theorem cl_XT_45 {st0 As : List Value} {Po : Option Value → mp_M → Prop} {lv mc ms : Nat} (C : CX g x cc RXT fr ce sl lc) (hM : Ct g yXS_wipeSlot cXS_wipeSlot 3 (some .int) lv As M Po mc ms) (hdg : decode cc pc = .ok (.invokestatic 45, 3)) (hst : st0 = As.reverse ++ rest) (hnA : As.length = 3) (hfr : lv + 1 ≤ fr) (hlc : 8 + (3 + 11) + 40 * lv ≤ lc) (hW : (rest.map fun v => v.category).sum ≤ 8) (hk : k + mc ≤ ce) (hn : n + ms ≤ sl) : RN g x M k n pc L st0 rest Po mc ms := rn_SN C hM (fun s h => h.2.2.2.2.1) al_238 al_20 al_239 ⟨by decide, by decide, by decide +kernel⟩ hnA hst hdg hfr hlc hW hk hn
theorem al_arrI : (.arrayClass .int : Cond) ∈ AL := al_373
end POOL
end
section

noncomputable def bo (p : Prop) : Bool := @decide p (Classical.propDecidable p)
theorem bo_t {p : Prop} : bo p = true ↔ p := by
  unfold bo
  exact @decide_eq_true_iff p (Classical.propDecidable p)
theorem bo_f {p : Prop} : bo p = false ↔ ¬ p := by
  unfold bo
  exact @decide_eq_false_iff_not p (Classical.propDecidable p)
abbrev en_E : Type := Nat × Nat × Nat × Nat × Nat × Int32 × Nat
def en_k (e : en_E) : Nat := e.1
def en_r (e : en_E) : Nat := e.2.1
def en_c (e : en_E) : Nat := e.2.2.1
def en_l (e : en_E) : Nat := e.2.2.2.1
def en_p (e : en_E) : Nat := e.2.2.2.2.1
def en_v (e : en_E) : Int32 := e.2.2.2.2.2.1
def en_t (e : en_E) : Nat := e.2.2.2.2.2.2
def en_ok (e : en_E) : Prop := en_k e ≤ 2 ∧ en_r e < 16 ∧ en_c e ≤ en_l e ∧ en_l e < 8 ∧ (en_k e ≠ 2 → en_l e = en_c e) ∧ en_p e ≤ 9999 ∧ (en_k e ≠ 0 → en_v e = 0) ∧ (en_t e ≤ 100000 ∨ (en_k e = 0 ∧ en_t e = 2147483647))
def en_ws (r c l : Nat) : Nat := 128 + r * 36 + l * (l + 1) / 2 + c
def en_s (e : en_E) : Nat := if en_k e = 2 then en_ws (en_r e) (en_c e) (en_l e) else en_r e * 8 + en_c e
theorem en_tri : ∀ l, l < 8 → ∀ c, c < 8 → c ≤ l → l * (l + 1) / 2 + c < 36 := by decide +kernel
theorem en_trj : ∀ l, l < 8 → ∀ c, c < 8 → ∀ l', l' < 8 → ∀ c', c' < 8 → c ≤ l → c' ≤ l' → l * (l + 1) / 2 + c = l' * (l' + 1) / 2 + c' → l = l' ∧ c = c' := by
  intro l hl c hc l' hl' c' hc' h1 h2 h3
  rcases (show l = 0 ∨ l = 1 ∨ l = 2 ∨ l = 3 ∨ l = 4 ∨ l = 5 ∨ l = 6 ∨ l = 7 by omega) with rfl | rfl | rfl | rfl | rfl | rfl | rfl | rfl <;> rcases (show l' = 0 ∨ l' = 1 ∨ l' = 2 ∨ l' = 3 ∨ l' = 4 ∨ l' = 5 ∨ l' = 6 ∨ l' = 7 by omega) with rfl | rfl | rfl | rfl | rfl | rfl | rfl | rfl <;> omega
theorem en_ws_lt {r c l : Nat} (hr : r < 16) (hc : c ≤ l) (hl : l < 8) : 128 ≤ en_ws r c l ∧ en_ws r c l < 704 := by
  have := en_tri l hl c (by omega) hc
  unfold en_ws
  omega
theorem en_ws_inj {r c l r' c' l' : Nat} (hc : c ≤ l) (hl : l < 8) (hc' : c' ≤ l') (hl' : l' < 8) (h : en_ws r c l = en_ws r' c' l') : r = r' ∧ c = c' ∧ l = l' := by
  have h1 := en_tri l hl c (by omega) hc
  have h2 := en_tri l' hl' c' (by omega) hc'
  unfold en_ws at h
  have hr : r = r' := by omega
  have h3 := en_trj l hl c (by omega) l' hl' c' (by omega) hc hc' (by omega)
  exact ⟨hr, h3.2, h3.1⟩
theorem en_s_w {e : en_E} (h : en_k e = 2) : en_s e = en_ws (en_r e) (en_c e) (en_l e) := if_pos h
theorem en_s_p {e : en_E} (h : en_k e ≠ 2) : en_s e = en_r e * 8 + en_c e := if_neg h
theorem en_s_lt {e : en_E} (h : en_ok e) : en_s e < 704 := by
  obtain ⟨h1, h2, h3, h4, h5, h6, h7, h8⟩ := h
  by_cases hk : en_k e = 2
  · rw [en_s_w hk]
    exact (en_ws_lt h2 h3 h4).2
  · rw [en_s_p hk]
    omega
theorem en_s_128 {e : en_E} (h : en_ok e) : en_s e < 128 ↔ en_k e ≠ 2 := by
  obtain ⟨h1, h2, h3, h4, h5, h6, h7, h8⟩ := h
  by_cases hk : en_k e = 2
  · rw [en_s_w hk]
    have := (en_ws_lt h2 h3 h4).1
    constructor
    · intro h; omega
    · intro h; exact absurd hk h
  · rw [en_s_p hk]
    constructor
    · intro _; exact hk
    · intro _; omega
theorem en_s_inj {e f : en_E} (he : en_ok e) (hf : en_ok f) (h : en_s e = en_s f) : (en_k e = 2 ↔ en_k f = 2) ∧ en_r e = en_r f ∧ en_c e = en_c f ∧ en_l e = en_l f := by
  have g1 := en_s_128 he
  have g2 := en_s_128 hf
  rw [h] at g1
  have hkk : en_k e ≠ 2 ↔ en_k f ≠ 2 := g1.symm.trans g2
  obtain ⟨h1, h2, h3, h4, h5, h6, h7, h8⟩ := he
  obtain ⟨f1, f2, f3, f4, f5, f6, f7, f8⟩ := hf
  by_cases hk : en_k e = 2
  · have hk2 : en_k f = 2 := Classical.byContradiction fun z => hkk.mpr z hk
    rw [en_s_w hk, en_s_w hk2] at h
    exact ⟨⟨fun _ => hk2, fun _ => hk⟩, en_ws_inj h3 h4 f3 f4 h⟩
  · have hk2 := hkk.mp hk
    rw [en_s_p hk, en_s_p hk2] at h
    have l1 := h5 hk
    have l2 := f5 hk2
    exact ⟨⟨fun z => absurd z hk, fun z => absurd z hk2⟩, by omega, by omega, by omega⟩
def en_w (e f : en_E) : Bool := decide (en_p f < en_p e ∨ (en_p e = en_p f ∧ (en_k f < en_k e ∨ (en_k e = en_k f ∧ ((en_v f).toInt < (en_v e).toInt ∨ ((en_v e).toInt = (en_v f).toInt ∧ en_t f < en_t e))))))
theorem en_w_t {e f : en_E} : en_w e f = true ↔ (en_p f < en_p e ∨ (en_p e = en_p f ∧ (en_k f < en_k e ∨ (en_k e = en_k f ∧ ((en_v f).toInt < (en_v e).toInt ∨ ((en_v e).toInt = (en_v f).toInt ∧ en_t f < en_t e)))))) := decide_eq_true_iff
theorem en_w_f {e f : en_E} : en_w e f = false ↔ ¬ (en_p f < en_p e ∨ (en_p e = en_p f ∧ (en_k f < en_k e ∨ (en_k e = en_k f ∧ ((en_v f).toInt < (en_v e).toInt ∨ ((en_v e).toInt = (en_v f).toInt ∧ en_t f < en_t e)))))) := decide_eq_false_iff_not
theorem en_w_self (e : en_E) : en_w e e = false := by
  rw [en_w_f]
  omega
theorem en_w_tr {e f h : en_E} (h1 : en_w e f = true) (h2 : en_w f h = true) : en_w e h = true := by
  rw [en_w_t] at *
  omega
theorem en_w_as {e f : en_E} (h1 : en_w e f = true) : en_w f e = false := by
  rw [en_w_t] at h1
  rw [en_w_f]
  omega

theorem en_w_tn {e f h : en_E} (h1 : en_w f e = false) (h2 : en_w h f = false) : en_w h e = false := by
  rw [en_w_f] at *
  omega
theorem en_w_tot {e f : en_E} (he : en_ok e) (hf : en_ok f) (hs : en_s e = en_s f) (h1 : en_w e f = false) (h2 : en_w f e = false) : e = f := by
  obtain ⟨g1, g2, g3, g4⟩ := en_s_inj he hf hs
  rw [en_w_f] at h1 h2
  have a1 : en_p e = en_p f := by omega
  have a2 : en_k e = en_k f := by omega
  have a3 : (en_v e).toInt = (en_v f).toInt := by omega
  have a4 : en_t e = en_t f := by omega
  have a5 : en_v e = en_v f := Int32.toInt_inj.mp a3
  obtain ⟨e1, e2, e3, e4, e5, e6, e7⟩ := e
  obtain ⟨f1, f2, f3, f4, f5, f6, f7⟩ := f
  simp only [en_k, en_r, en_c, en_l, en_p, en_v, en_t] at *
  subst a1 a2 a4 a5 g2 g3 g4
  rfl
def en_m (a b : Option en_E) : Option en_E := match a, b with
  | a, none => a
  | none, some e => some e
  | some h, some e => if en_w e h = true then some e else some h
def en_X (S : en_E → Prop) (o : Option en_E) : Prop := match o with
  | none => ∀ e, ¬ S e
  | some e => S e ∧ ∀ f, S f → en_w f e = false
theorem en_X_u {S : en_E → Prop} {s : Nat} (hS : ∀ e, S e → en_ok e ∧ en_s e = s) {a b : Option en_E} (ha : en_X S a) (hb : en_X S b) : a = b := by
  cases a with
  | none => cases b with
    | none => rfl
    | some f => exact absurd hb.1 (ha f)
  | some e => cases b with
    | none => exact absurd ha.1 (hb e)
    | some f =>
      have h1 := hS e ha.1
      have h2 := hS f hb.1
      rw [en_w_tot h1.1 h2.1 (h1.2.trans h2.2.symm) (hb.2 e ha.1) (ha.2 f hb.1)]
theorem en_X_m {S : en_E → Prop} {a b : Option en_E} (ha : en_X S a) : en_X (fun e => S e ∨ b = some e) (en_m a b) := by
  cases b with
  | none =>
    cases a with
    | none => exact fun e h => h.elim (ha e) (fun z => by cases z)
    | some h => exact ⟨Or.inl ha.1, fun f hf => hf.elim (ha.2 f) (fun z => by cases z)⟩
  | some e =>
    cases a with
    | none => exact ⟨Or.inr rfl, fun f hf => hf.elim (fun z => absurd z (ha f)) (fun z => by cases z; exact en_w_self e)⟩
    | some h =>
      unfold en_m
      by_cases hw : en_w e h = true
      · simp only [hw, if_true]
        refine ⟨Or.inr rfl, fun f hf => ?_⟩
        rcases hf with hf | hf
        · exact en_w_tn (en_w_as hw) (ha.2 f hf)
        · cases hf
          exact en_w_self e
      · simp only [hw]
        refine ⟨Or.inl ha.1, fun f hf => ?_⟩
        rcases hf with hf | hf
        · exact ha.2 f hf
        · cases hf
          exact Bool.eq_false_iff.mpr hw
theorem en_X_cg {S S' : en_E → Prop} {a : Option en_E} (h : ∀ e, S e ↔ S' e) (ha : en_X S a) : en_X S' a := by
  cases a with
  | none => exact fun e he => ha e ((h e).mpr he)
  | some e => exact ⟨(h e).mp ha.1, fun f hf => ha.2 f ((h f).mpr hf)⟩
theorem en_m_or {a b : Option en_E} {e : en_E} (h : en_m a b = some e) : a = some e ∨ b = some e := by
  cases b with
  | none => exact Or.inl (by cases a <;> exact h)
  | some f =>
    cases a with
    | none => exact Or.inr h
    | some h2 =>
      unfold en_m at h
      simp only at h
      split at h
      · exact Or.inr h
      · exact Or.inl h

def cn (P : Nat → Bool) : Nat → Nat
  | 0 => 0
  | n + 1 => cn P n + (if P n = true then 1 else 0)
theorem cn_le (P : Nat → Bool) : ∀ n, cn P n ≤ n
  | 0 => Nat.le_refl _
  | n + 1 => by
    have := cn_le P n
    unfold cn
    split <;> omega
theorem cn_eq {P Q : Nat → Bool} : ∀ n, (∀ j, j < n → P j = Q j) → cn P n = cn Q n
  | 0, _ => rfl
  | n + 1, h => by
    unfold cn
    rw [cn_eq n (fun j hj => h j (by omega)), h n (by omega)]
theorem cn_inc {P Q : Nat → Bool} {s : Nat} : ∀ n, s < n → P s = false → Q s = true → (∀ j, j < n → j ≠ s → P j = Q j) → cn Q n = cn P n + 1
  | 0, h, _, _, _ => by omega
  | n + 1, h, hp, hq, ho => by
    unfold cn
    by_cases hs : s = n
    · subst hs
      rw [cn_eq (P := P) (Q := Q) s (fun j hj => ho j (by omega) (by omega)), hp, hq]
      simp
    · rw [cn_inc n (by omega) hp hq (fun j hj hne => ho j (by omega) hne), ho n (by omega) (fun z => hs z.symm)]
      omega
theorem cn_pos {P : Nat → Bool} {s : Nat} : ∀ n, s < n → P s = true → 0 < cn P n
  | 0, h, _ => by omega
  | n + 1, h, hp => by
    unfold cn
    by_cases hs : s = n
    · subst hs
      rw [hp]
      simp
    · have := cn_pos n (by omega) hp
      omega
theorem cn_0 {P : Nat → Bool} {n : Nat} (h : cn P n = 0) (s : Nat) (hs : s < n) : P s = false := by
  cases hp : P s with
  | false => rfl
  | true =>
    have := cn_pos n hs hp
    omega
theorem cn_z {P : Nat → Bool} : ∀ n, (∀ j, j < n → P j = false) → cn P n = 0
  | 0, _ => rfl
  | n + 1, h => by
    unfold cn
    rw [cn_z n (fun j hj => h j (by omega)), h n (by omega)]
    simp

abbrev tb_T : Type := Nat → Option en_E
def tb_ok (T : tb_T) : Prop := ∀ (s : Nat) (e : en_E), T s = some e → en_ok e ∧ en_s e = s
def tb_0 : tb_T := fun _ => none
def tb_a (T : tb_T) (e : en_E) : tb_T := va_up T (en_s e) (en_m (T (en_s e)) (some e))
def tb_m (T U : tb_T) : tb_T := fun s => en_m (T s) (U s)
def tb_n (T : tb_T) : Nat := cn (fun s => (T s).isSome) 704
def tb_i (o : Option en_E) : Bool := match o with
  | some e => decide (en_k e = 2)
  | none => false
def tb_w (T : tb_T) : Nat := cn (fun s => tb_i (T s)) 704
theorem tb_ok_0 : tb_ok tb_0 := fun _ _ h => by cases h
theorem tb_ok_a {T : tb_T} {e : en_E} (h : tb_ok T) (he : en_ok e) : tb_ok (tb_a T e) := by
  intro s f hf
  unfold tb_a at hf
  by_cases hs : s = en_s e
  · subst hs
    rw [va_up_self] at hf
    rcases en_m_or hf with h1 | h1
    · exact h _ _ h1
    · cases h1
      exact ⟨he, rfl⟩
  · rw [va_up_ne _ _ hs] at hf
    exact h s f hf
theorem tb_ok_m {T U : tb_T} (h : tb_ok T) (h2 : tb_ok U) : tb_ok (tb_m T U) := by
  intro s f hf
  rcases en_m_or hf with h1 | h1
  · exact h _ _ h1
  · exact h2 _ _ h1
theorem tb_lt {T : tb_T} (h : tb_ok T) {s : Nat} {e : en_E} (he : T s = some e) : s < 704 := by
  obtain ⟨h1, h2⟩ := h s e he
  rw [← h2]
  exact en_s_lt h1
theorem tb_n_le (T : tb_T) : tb_n T ≤ 704 := cn_le _ 704
theorem tb_w_le (T : tb_T) : tb_w T ≤ 704 := cn_le _ 704
theorem tb_n_0 : tb_n tb_0 = 0 := cn_z _ (fun _ _ => rfl)
theorem tb_w_0 : tb_w tb_0 = 0 := cn_z _ (fun _ _ => rfl)
theorem tb_up_o {T : tb_T} {s j : Nat} {o : Option en_E} (h : j ≠ s) : va_up T s o j = T j := va_up_ne _ _ h
theorem tb_n_new {T : tb_T} {s : Nat} {e : en_E} (hs : s < 704) (h : T s = none) : tb_n (va_up T s (some e)) = tb_n T + 1 :=
  cn_inc (P := fun s => (T s).isSome) (Q := fun j => (va_up T s (some e) j).isSome) (s := s) 704 hs (by show (T s).isSome = false; rw [h]; rfl) (by show (va_up T s (some e) s).isSome = true; rw [va_up_self]; rfl) (fun j _ hne => by show (T j).isSome = (va_up T s (some e) j).isSome; rw [tb_up_o hne])
theorem tb_n_old {T : tb_T} {s : Nat} {e h : en_E} (hh : T s = some h) : tb_n (va_up T s (some e)) = tb_n T := by
  refine cn_eq 704 (fun j _ => ?_)
  show (va_up T s (some e) j).isSome = (T j).isSome
  by_cases hj : j = s
  · subst hj
    rw [va_up_self, hh]
    rfl
  · rw [tb_up_o hj]
theorem tb_n_del {T : tb_T} {s : Nat} {h : en_E} (hs : s < 704) (hh : T s = some h) : tb_n T = tb_n (va_up T s none) + 1 :=
  cn_inc (P := fun j => (va_up T s none j).isSome) (Q := fun s => (T s).isSome) (s := s) 704 hs (by show (va_up T s none s).isSome = false; rw [va_up_self]; rfl) (by show (T s).isSome = true; rw [hh]; rfl) (fun j _ hne => by show (va_up T s none j).isSome = (T j).isSome; rw [tb_up_o hne])
theorem tb_w_up {T : tb_T} {s : Nat} {o : Option en_E} (h : tb_i o = tb_i (T s)) : tb_w (va_up T s o) = tb_w T := by
  refine cn_eq 704 (fun j _ => ?_)
  show tb_i (va_up T s o j) = tb_i (T j)
  by_cases hj : j = s
  · subst hj
    rw [va_up_self]
    exact h
  · rw [tb_up_o hj]
theorem tb_w_inc {T : tb_T} {s : Nat} {o : Option en_E} (hs : s < 704) (h : tb_i (T s) = false) (ho : tb_i o = true) : tb_w (va_up T s o) = tb_w T + 1 :=
  cn_inc (P := fun s => tb_i (T s)) (Q := fun j => tb_i (va_up T s o j)) (s := s) 704 hs h (by show tb_i (va_up T s o s) = true; rw [va_up_self]; exact ho) (fun j _ hne => by show tb_i (T j) = tb_i (va_up T s o j); rw [tb_up_o hne])
theorem tb_w_dec {T : tb_T} {s : Nat} {o : Option en_E} (hs : s < 704) (h : tb_i (T s) = true) (ho : tb_i o = false) : tb_w T = tb_w (va_up T s o) + 1 :=
  cn_inc (P := fun j => tb_i (va_up T s o j)) (Q := fun s => tb_i (T s)) (s := s) 704 hs (by show tb_i (va_up T s o s) = false; rw [va_up_self]; exact ho) h (fun j _ hne => by show tb_i (va_up T s o j) = tb_i (T j); rw [tb_up_o hne])

def tb_c (T : tb_T) (r c p : Nat) : Prop := ∃ (s : Nat) (e : en_E), T s = some e ∧ en_k e = 2 ∧ en_r e = r ∧ en_c e ≤ c ∧ c ≤ en_l e ∧ p ≤ en_p e
def tb_cs (T : tb_T) (r p f l : Nat) : Prop := ∃ e : en_E, T (en_ws r f l) = some e ∧ p ≤ en_p e
theorem tb_c_iff {T : tb_T} (h : tb_ok T) {r c p : Nat} (hr : r < 16) (hc : c < 8) : tb_c T r c p ↔ ∃ f l : Nat, f ≤ c ∧ c ≤ l ∧ l < 8 ∧ tb_cs T r p f l := by
  constructor
  · rintro ⟨s, e, h1, h2, h3, h4, h5, h6⟩
    obtain ⟨g1, g2⟩ := h s e h1
    refine ⟨en_c e, en_l e, h4, h5, g1.2.2.2.1, e, ?_, h6⟩
    rw [← h3, ← en_s_w h2, g2]
    exact h1
  · rintro ⟨f, l, h1, h2, h3, e, h4, h5⟩
    obtain ⟨g1, g2⟩ := h _ e h4
    have hk : en_k e = 2 := Classical.byContradiction fun z => by
      have a1 := (en_s_128 g1).mpr z
      have a2 := (en_ws_lt (r := r) (c := f) (l := l) hr (by omega) h3).1
      omega
    rw [en_s_w hk] at g2
    obtain ⟨b1, b2, b3⟩ := en_ws_inj g1.2.2.1 g1.2.2.2.1 (by omega) h3 g2
    exact ⟨_, e, h4, hk, b1, by omega, by omega, h5⟩
theorem tb_c_0 {T : tb_T} (h : tb_ok T) (hw : tb_w T = 0) {r c p : Nat} : ¬ tb_c T r c p := by
  rintro ⟨s, e, h1, h2, -⟩
  have := cn_0 (P := fun s => tb_i (T s)) hw s (tb_lt h h1)
  have h3 : tb_i (T s) = false := this
  rw [h1] at h3
  simp [tb_i, h2] at h3
noncomputable def tb_d (T : tb_T) : tb_T := fun s => match T s with
  | none => none
  | some e => if bo (en_k e ≠ 2 ∧ tb_c T (en_r e) (en_c e) (en_p e)) = true then none else some e
def tb_o (now grace : Nat) (T : tb_T) : tb_T := fun s => match T s with
  | none => none
  | some e => if en_t e + grace ≤ now then none else some e
noncomputable def tb_j (now grace : Nat) (all : Bool) (ts : List tb_T) : tb_T := if all = true then tb_o now grace (tb_d (ts.foldl tb_m tb_0)) else tb_d (ts.foldl tb_m tb_0)
theorem tb_ok_d {T : tb_T} (h : tb_ok T) : tb_ok (tb_d T) := by
  intro s e he
  unfold tb_d at he
  cases hs : T s with
  | none => rw [hs] at he; cases he
  | some f =>
    rw [hs] at he
    simp only at he
    split at he
    · cases he
    · cases he
      exact h s _ hs
theorem tb_ok_o {now grace : Nat} {T : tb_T} (h : tb_ok T) : tb_ok (tb_o now grace T) := by
  intro s e he
  unfold tb_o at he
  cases hs : T s with
  | none => rw [hs] at he; cases he
  | some f =>
    rw [hs] at he
    simp only at he
    split at he
    · cases he
    · cases he
      exact h s _ hs
theorem tb_ok_f : ∀ (ts : List tb_T) (T : tb_T), tb_ok T → (∀ t, t ∈ ts → tb_ok t) → tb_ok (ts.foldl tb_m T)
  | [], _, h, _ => h
  | t :: ts, T, h, ht => tb_ok_f ts (tb_m T t) (tb_ok_m h (ht t (List.mem_cons_self))) (fun u hu => ht u (List.mem_cons_of_mem _ hu))
theorem tb_ok_j {now grace : Nat} {all : Bool} {ts : List tb_T} (ht : ∀ t, t ∈ ts → tb_ok t) : tb_ok (tb_j now grace all ts) := by
  unfold tb_j
  split
  · exact tb_ok_o (tb_ok_d (tb_ok_f ts tb_0 tb_ok_0 ht))
  · exact tb_ok_d (tb_ok_f ts tb_0 tb_ok_0 ht)
theorem tb_X_f : ∀ (ts : List tb_T) (T : tb_T) (s : Nat) (S : en_E → Prop), en_X S (T s) → en_X (fun e => S e ∨ ∃ t, t ∈ ts ∧ t s = some e) ((ts.foldl tb_m T) s)
  | [], T, s, S, h => en_X_cg (fun e => ⟨fun z => Or.inl z, fun z => z.elim id (fun ⟨t, h1, _⟩ => by cases h1)⟩) h
  | t :: ts, T, s, S, h => by
    have h1 := tb_X_f ts (tb_m T t) s (fun e => S e ∨ t s = some e) (en_X_m h)
    refine en_X_cg (fun e => ⟨fun z => ?_, fun z => ?_⟩) h1
    · rcases z with (z | z) | ⟨u, h2, h3⟩
      · exact Or.inl z
      · exact Or.inr ⟨t, List.mem_cons_self, z⟩
      · exact Or.inr ⟨u, List.mem_cons_of_mem _ h2, h3⟩
    · rcases z with z | ⟨u, h2, h3⟩
      · exact Or.inl (Or.inl z)
      · rcases List.mem_cons.mp h2 with h4 | h4
        · subst h4
          exact Or.inl (Or.inr h3)
        · exact Or.inr ⟨u, h4, h3⟩

abbrev st_R : Type := List (Nat × tb_T)
abbrev st_S : Type := Nat × Nat × Nat × tb_T × List en_E × Nat × st_R
def st_cap (S : st_S) : Nat := S.1
def st_gr (S : st_S) : Nat := S.2.1
def st_now (S : st_S) : Nat := S.2.2.1
def st_mem (S : st_S) : tb_T := S.2.2.2.1
def st_log (S : st_S) : List en_E := S.2.2.2.2.1
def st_safe (S : st_S) : Nat := S.2.2.2.2.2.1
def st_runs (S : st_S) : st_R := S.2.2.2.2.2.2
def st_ti (rs : st_R) (i : Nat) : Nat := (rs.getD i (0, tb_0)).1
def st_tb (rs : st_R) (i : Nat) : tb_T := (rs.getD i (0, tb_0)).2
def st_3 (rs : st_R) : Bool := decide (3 ≤ rs.length ∧ st_ti rs (rs.length - 2) = st_ti rs (rs.length - 3) ∧ st_ti rs (rs.length - 1) = st_ti rs (rs.length - 3))
noncomputable def st_j (now grace : Nat) (rs : st_R) (i tier : Nat) : st_R := rs.take i ++ [(tier, tb_j now grace (decide (i = 0)) ((rs.drop i).map Prod.snd))]
noncomputable def st_g (now grace : Nat) : Nat → st_R → st_R
  | 0, rs => rs
  | n + 1, rs => if st_3 rs = true then st_g now grace n (st_j now grace rs (rs.length - 3) (st_ti rs (rs.length - 3) + 1)) else rs
noncomputable def st_f (S : st_S) : st_S := if tb_n (st_mem S) = 0 then S else (st_cap S, st_gr S, st_now S, tb_0, [], 0, st_g (st_now S) (st_gr S) ((st_runs S).length + 1) (st_runs S ++ [(0, st_mem S)]))
noncomputable def st_a (S : st_S) (e : en_E) : st_S := if st_cap S < tb_n (tb_a (st_mem S) e) then st_f (st_cap S, st_gr S, st_now S, tb_a (st_mem S) e, st_log S ++ [e], st_safe S, st_runs S) else (st_cap S, st_gr S, st_now S, tb_a (st_mem S) e, st_log S ++ [e], st_safe S, st_runs S)
def st_top (rs : st_R) : Nat := rs.foldl (fun m r => max m r.1) 0
def st_w (S : st_S) (s : Nat) : Option en_E := (st_runs S).foldl (fun o r => en_m o (r.2 s)) (st_mem S s)
def st_cov (S : st_S) (r c p : Nat) : Prop := tb_c (st_mem S) r c p ∨ ∃ t, t ∈ st_runs S ∧ tb_c t.2 r c p
noncomputable def st_v (S : st_S) (r c : Int32) : Option en_E := if 0 ≤ r.toInt ∧ r.toInt < 16 ∧ 0 ≤ c.toInt ∧ c.toInt < 8 then (match st_w S (r.toInt.toNat * 8 + c.toInt.toNat) with
  | none => none
  | some e => if en_k e = 0 ∧ st_now S < en_t e ∧ bo (st_cov S r.toInt.toNat c.toInt.toNat (en_p e)) = false then some e else none) else none
def st_cr (S : st_S) : st_S := (st_cap S, st_gr S, st_now S, ((st_log S).take (st_safe S)).foldl tb_a tb_0, (st_log S).take (st_safe S), st_safe S, st_runs S)
def st_ok (S : st_S) : Prop := tb_ok (st_mem S) ∧ (∀ e, e ∈ st_log S → en_ok e) ∧ (∀ t, t ∈ st_runs S → tb_ok t.2) ∧ st_safe S ≤ (st_log S).length
theorem st_g_fix (now grace : Nat) : ∀ (n : Nat) (rs : st_R), rs.length ≤ n → st_3 (st_g now grace n rs) = false
  | 0, rs, h => by
    have : rs = [] := List.length_eq_zero_iff.mp (by omega)
    subst this
    rfl
  | n + 1, rs, h => by
    unfold st_g
    split
    · next h3 =>
      refine st_g_fix now grace n _ ?_
      have h4 := of_decide_eq_true h3
      unfold st_j
      rw [List.length_append, List.length_take]
      simp
      omega
    · next h3 => exact Bool.eq_false_iff.mpr h3
end
section
def tb_mi (T U : tb_T) (i : Nat) : tb_T := fun s => if s < i then en_m (T s) (U s) else T s
theorem tb_mi_0 {T U : tb_T} : tb_mi T U 0 = T := by
  funext s
  exact if_neg (Nat.not_lt_zero s)
theorem tb_mi_e {T U : tb_T} (hT : tb_ok T) (hU : tb_ok U) : tb_mi T U 704 = tb_m T U := by
  funext s
  unfold tb_mi tb_m
  by_cases hs : s < 704
  · rw [if_pos hs]
  · rw [if_neg hs]
    cases h : T s with
    | some e => exact absurd (tb_lt hT h) hs
    | none =>
      cases h2 : U s with
      | some e => exact absurd (tb_lt hU h2) hs
      | none => rfl
theorem tb_mi_n {T U : tb_T} {i : Nat} (h : U i = none) : tb_mi T U (i + 1) = tb_mi T U i := by
  funext s
  unfold tb_mi
  by_cases h1 : s < i
  · rw [if_pos h1, if_pos (by omega)]
  · rw [if_neg h1]
    by_cases h2 : s = i
    · subst h2
      rw [if_pos (by omega), h]
      cases T s <;> rfl
    · rw [if_neg (by omega)]
theorem tb_mi_s {T U : tb_T} {i : Nat} {e : en_E} (h : U i = some e) (hs : en_s e = i) : tb_a (tb_mi T U i) e = tb_mi T U (i + 1) := by
  funext s
  unfold tb_a
  rw [hs]
  by_cases h2 : s = i
  · subst h2
    rw [va_up_self]
    unfold tb_mi
    rw [if_neg (Nat.lt_irrefl _), if_pos (Nat.lt_succ_self _), h]
  · rw [va_up_ne _ _ h2]
    unfold tb_mi
    by_cases h3 : s < i
    · rw [if_pos h3, if_pos (by omega)]
    · rw [if_neg h3, if_neg (by omega)]
theorem tb_ok_mi {T U : tb_T} (hT : tb_ok T) (hU : tb_ok U) (i : Nat) : tb_ok (tb_mi T U i) := by
  intro s e h
  unfold tb_mi at h
  split at h
  · exact tb_ok_m hT hU s e h
  · exact hT s e h
noncomputable def tb_di (T : tb_T) (i : Nat) : tb_T := fun s => if s < i then tb_d T s else T s
theorem tb_d_w {T : tb_T} {s : Nat} {e : en_E} (h : T s = some e) (hk : en_k e = 2) : tb_d T s = some e := by
  unfold tb_d
  rw [h]
  simp only
  rw [if_neg]
  intro z
  exact (bo_t.mp z).1 hk
theorem tb_d_s {T : tb_T} {s : Nat} {e : en_E} (h : tb_d T s = some e) : T s = some e := by
  unfold tb_d at h
  cases hs : T s with
  | none => rw [hs] at h; cases h
  | some f =>
    rw [hs] at h
    simp only at h
    split at h
    · cases h
    · exact h
theorem tb_di_s {T : tb_T} {i s : Nat} {e : en_E} (h : tb_di T i s = some e) : T s = some e := by
  unfold tb_di at h
  split at h
  · exact tb_d_s h
  · exact h
theorem tb_di_c {T : tb_T} {i r c p : Nat} : tb_c (tb_di T i) r c p ↔ tb_c T r c p := by
  constructor
  · rintro ⟨s, e, h1, h2⟩
    exact ⟨s, e, tb_di_s h1, h2⟩
  · rintro ⟨s, e, h1, h2, h3⟩
    refine ⟨s, e, ?_, h2, h3⟩
    unfold tb_di
    split
    · exact tb_d_w h1 h2
    · exact h1
theorem tb_di_0 {T : tb_T} : tb_di T 0 = T := by
  funext s
  exact if_neg (Nat.not_lt_zero s)
theorem tb_di_e {T : tb_T} (h : tb_ok T) : tb_di T 128 = tb_d T := by
  funext s
  unfold tb_di
  by_cases hs : s < 128
  · rw [if_pos hs]
  · rw [if_neg hs]
    cases h2 : T s with
    | none => unfold tb_d; rw [h2]
    | some e =>
      obtain ⟨g1, g2⟩ := h s e h2
      rw [tb_d_w h2 (Classical.byContradiction fun z => hs (by rw [← g2]; exact (en_s_128 g1).mpr z))]
theorem tb_di_n {T : tb_T} {i : Nat} (h : tb_d T i = T i) : tb_di T (i + 1) = tb_di T i := by
  funext s
  unfold tb_di
  by_cases h1 : s < i
  · rw [if_pos h1, if_pos (by omega)]
  · rw [if_neg h1]
    by_cases h2 : s = i
    · subst h2
      rw [if_pos (by omega), h]
    · rw [if_neg (by omega)]
theorem tb_di_d {T : tb_T} {i : Nat} (h : tb_d T i = none) : va_up (tb_di T i) i none = tb_di T (i + 1) := by
  funext s
  by_cases h2 : s = i
  · subst h2
    rw [va_up_self]
    unfold tb_di
    rw [if_pos (Nat.lt_succ_self _), h]
  · rw [va_up_ne _ _ h2]
    unfold tb_di
    by_cases h3 : s < i
    · rw [if_pos h3, if_pos (by omega)]
    · rw [if_neg h3, if_neg (by omega)]
theorem tb_ok_di {T : tb_T} (h : tb_ok T) (i : Nat) : tb_ok (tb_di T i) := fun s e he => h s e (tb_di_s he)
def tb_oi (now grace : Nat) (T : tb_T) (i : Nat) : tb_T := fun s => if s < i then tb_o now grace T s else T s
theorem tb_oi_0 {now grace : Nat} {T : tb_T} : tb_oi now grace T 0 = T := by
  funext s
  exact if_neg (Nat.not_lt_zero s)
theorem tb_oi_e {now grace : Nat} {T : tb_T} (h : tb_ok T) : tb_oi now grace T 704 = tb_o now grace T := by
  funext s
  unfold tb_oi
  by_cases hs : s < 704
  · rw [if_pos hs]
  · rw [if_neg hs]
    cases h2 : T s with
    | none => unfold tb_o; rw [h2]
    | some e => exact absurd (tb_lt h h2) hs
theorem tb_oi_n {now grace : Nat} {T : tb_T} {i : Nat} (h : tb_o now grace T i = T i) : tb_oi now grace T (i + 1) = tb_oi now grace T i := by
  funext s
  unfold tb_oi
  by_cases h1 : s < i
  · rw [if_pos h1, if_pos (by omega)]
  · rw [if_neg h1]
    by_cases h2 : s = i
    · subst h2
      rw [if_pos (by omega), h]
    · rw [if_neg (by omega)]
theorem tb_oi_d {now grace : Nat} {T : tb_T} {i : Nat} (h : tb_o now grace T i = none) : va_up (tb_oi now grace T i) i none = tb_oi now grace T (i + 1) := by
  funext s
  by_cases h2 : s = i
  · subst h2
    rw [va_up_self]
    unfold tb_oi
    rw [if_pos (Nat.lt_succ_self _), h]
  · rw [va_up_ne _ _ h2]
    unfold tb_oi
    by_cases h3 : s < i
    · rw [if_pos h3, if_pos (by omega)]
    · rw [if_neg h3, if_neg (by omega)]
theorem tb_oi_i {now grace : Nat} {T : tb_T} {i : Nat} : tb_oi now grace T i i = T i := if_neg (Nat.lt_irrefl i)
theorem tb_di_i {T : tb_T} {i : Nat} : tb_di T i i = T i := if_neg (Nat.lt_irrefl i)
theorem tb_mi_i {T U : tb_T} {i : Nat} : tb_mi T U i i = T i := if_neg (Nat.lt_irrefl i)
theorem old_iff {now t grace : Nat} (h1 : now ≤ 100000) (h2 : t < 2 ^ 31) (h3 : grace ≤ 100) : nI now - nI t < nI grace ↔ ¬ (t + grace ≤ now) := by
  rw [Int32.lt_iff_toInt_lt, Int32.toInt_sub, nI_toInt (by omega), nI_toInt h2, nI_toInt (by omega)]
  rw [Int.bmod_eq_of_le_mul_two (by omega) (by omega)]
  omega
end
section
def bI (b : Bool) : Int32 := if b = true then 1 else 0
theorem bI_t {b : Bool} (h : b = true) : bI b = 1 := if_pos h
theorem bI_f {b : Bool} (h : b = false) : bI b = 0 := by subst h; rfl
theorem bI_or (b : Bool) : bI b = 0 ∨ bI b = 1 := by cases b <;> simp [bI]
theorem bI_0 {b : Bool} : bI b = 0 ↔ b = false := by cases b <;> simp [bI]
def cw_e (F : Nat → Prop) (M : mp_M) (q : Nat) (e : en_E) : Prop := ¬ F q ∧ M q = some (.inr (ci_E, [.int (nI (en_k e)), .int (nI (en_s e)), .int (nI (en_p e)), .int (en_v e), .int (nI (en_t e))]))
def cw_o (F : Nat → Prop) (M : mp_M) (o : Option Nat) (w : Option en_E) : Prop := (o = none ∧ w = none) ∨ ∃ (q : Nat) (e : en_E), o = some q ∧ w = some e ∧ cw_e F M q e
def cw_f (F : Nat → Prop) (M : mp_M) (f : Nat → Option Nat) (T : tb_T) : Prop := ∀ s, s < 704 → cw_o F M (f s) (T s)
abbrev ar_q (c : ClassId) (n : Nat) (f : Nat → Option Nat) : va_E := .inl (c, n, .inr (.inr (.inr (.inr f))))
abbrev ar_i (c : ClassId) (n : Nat) (f : Nat → Int32) : va_E := .inl (c, n, .inl f)
abbrev ob_T (tier sl : Nat) (T : tb_T) : va_E := .inr (ci_T, [.int (nI tier), .ref sl, .int (nI (tb_n T)), .int (nI (tb_w T))])
theorem ob_Tc {tier sl : Nat} {T T' : tb_T} (h1 : tb_n T = tb_n T') (h2 : tb_w T = tb_w T') : ob_T tier sl T = ob_T tier sl T' := by
  unfold ob_T
  rw [h1, h2]
theorem ob_T0 {tier sl : Nat} : ob_T tier sl tb_0 = .inr (ci_T, [.int (nI tier), .ref sl, .int (nI 0), .int (nI 0)]) := by
  show (Sum.inr (ci_T, [Value.int (nI tier), .ref sl, .int (nI (tb_n tb_0)), .int (nI (tb_w tb_0))]) : va_E) = _
  rw [tb_n_0, tb_w_0]
def cw_t (g : gx_T) (F : Nat → Prop) (M : mp_M) (a sl tier : Nat) (T : tb_T) : Prop := ¬ F a ∧ ¬ F sl ∧ tb_ok T ∧ M a = some (ob_T tier sl T) ∧ ∃ f : Nat → Option Nat, M sl = some (ar_q (gx_E g) 704 f) ∧ cw_f F M f T
theorem ne_o {M : mp_M} {q a c1 c2 : Nat} {f1 f2 : List Value} (h1 : M q = some (.inr (c1, f1))) (h2 : M a = some (.inr (c2, f2))) (hc : c1 ≠ c2) : q ≠ a := by
  intro h
  subst h
  rw [h1] at h2
  cases h2
  exact hc rfl
theorem ne_a {M : mp_M} {q a : Nat} {u : Nat × List Value} {y : ClassId × vp_A} (h1 : M q = some (.inr u)) (h2 : M a = some (.inl y)) : q ≠ a := by
  intro h
  subst h
  rw [h1] at h2
  cases h2
theorem ne_n {M : mp_M} {q a : Nat} {u : va_E} (h1 : M q = some u) (h2 : M a = none) : q ≠ a := by
  intro h
  subst h
  rw [h1] at h2
  cases h2

def nE (P : Nat → Prop) (M : mp_M) : Prop := ∀ (q : Nat) (fs : List Value), P q → M q ≠ some (.inr (ci_E, fs))
theorem cw_e.k {F P : Nat → Prop} {M M' : mp_M} {q : Nat} {e : en_E} (h : cw_e F M q e) (hk : mp_k P M M') (hn : nE P M) : cw_e F M' q e := ⟨h.1, hk _ _ (fun z => hn q _ z h.2) h.2⟩
theorem cw_o.k {F P : Nat → Prop} {M M' : mp_M} {o : Option Nat} {w : Option en_E} (h : cw_o F M o w) (hk : mp_k P M M') (hn : nE P M) : cw_o F M' o w := by
  rcases h with h | ⟨q, e, h1, h2, h3⟩
  · exact Or.inl h
  · exact Or.inr ⟨q, e, h1, h2, h3.k hk hn⟩
theorem cw_f.k {F P : Nat → Prop} {M M' : mp_M} {f : Nat → Option Nat} {T : tb_T} (h : cw_f F M f T) (hk : mp_k P M M') (hn : nE P M) : cw_f F M' f T := fun s hs => (h s hs).k hk hn
theorem cw_t.k {g : gx_T} {F P : Nat → Prop} {M M' : mp_M} {a sl tier : Nat} {T : tb_T} (h : cw_t g F M a sl tier T) (hk : mp_k P M M') (hn : nE P M) (ha : ¬ P a) (hs : ¬ P sl) : cw_t g F M' a sl tier T := by
  obtain ⟨h1, h2, h3, h4, f, h5, h6⟩ := h
  exact ⟨h1, h2, h3, hk _ _ ha h4, f, hk _ _ hs h5, h6.k hk hn⟩
theorem nE_t {g : gx_T} {F : Nat → Prop} {M : mp_M} {a sl tier : Nat} {T : tb_T} (h : cw_t g F M a sl tier T) : nE (fun q => q = a ∨ q = sl) M := by
  obtain ⟨h1, h2, h3, h4, f, h5, h6⟩ := h
  intro q fs hq
  rcases hq with rfl | rfl
  · rw [h4]
    intro z
    cases z
  · rw [h5]
    intro z
    cases z
theorem nE_f {F : Nat → Prop} {M : mp_M} {P : Nat → Prop} (h : ∀ q, P q → F q) {q : Nat} {e : en_E} (he : cw_e F M q e) : ¬ P q := fun z => he.1 (h q z)
theorem cw_t_up {g : gx_T} {F : Nat → Prop} {M : mp_M} {a sl tier tier0 sl0 : Nat} {T0 T' : tb_T} {f0 f' : Nat → Option Nat} (ha : ¬ F a) (hs : ¬ F sl) (hMa : M a = some (ob_T tier0 sl0 T0)) (hMs : M sl = some (ar_q (gx_E g) 704 f0)) (hok : tb_ok T') (hf : cw_f F M f' T') : cw_t g F (mp_u (mp_u M sl (ar_q (gx_E g) 704 f')) a (ob_T tier sl T')) a sl tier T' := by
  have hne : sl ≠ a := fun z => ne_a hMa hMs z.symm
  refine ⟨ha, hs, hok, mp_us, f', by rw [mp_un hne]; exact mp_us, fun s h => ?_⟩
  rcases hf s h with h1 | ⟨q, e, h1, h2, h3⟩
  · exact Or.inl h1
  · refine Or.inr ⟨q, e, h1, h2, h3.1, ?_⟩
    rw [mp_un (ne_o h3.2 hMa (by decide)), mp_un (ne_a h3.2 hMs)]
    exact h3.2
theorem cw_t_kp {M : mp_M} {a sl : Nat} {A B : va_E} : mp_k (fun q => q = a ∨ q = sl) M (mp_u (mp_u M sl A) a B) := (mp_k.up (Or.inr rfl)).tr (mp_k.up (Or.inl rfl))
theorem en_w_I {e f : en_E} (he : en_ok e) (hf : en_ok f) : en_w e f = true ↔ (nI (en_p f) < nI (en_p e) ∨ (nI (en_p e) = nI (en_p f) ∧ (nI (en_k f) < nI (en_k e) ∨ (nI (en_k e) = nI (en_k f) ∧ (en_v f < en_v e ∨ (en_v e = en_v f ∧ nI (en_t f) < nI (en_t e))))))) := by
  obtain ⟨h1, h2, h3, h4, h5, h6, h7, h8⟩ := he
  obtain ⟨f1, f2, f3, f4, f5, f6, f7, f8⟩ := hf
  rw [en_w_t, nI_ltI (by omega) (by omega), nI_eq (by omega) (by omega), nI_ltI (by omega) (by omega), nI_eq (by omega) (by omega), Int32.lt_iff_toInt_lt, ← Int32.toInt_inj, nI_ltI (by omega) (by omega)]
def pl (r c : Int32) : Bool := decide (0 ≤ r.toInt ∧ r.toInt < 16 ∧ 0 ≤ c.toInt ∧ c.toInt < 8)
def sp_ok (p : Int32) : Bool := decide (0 ≤ p.toInt ∧ p.toInt ≤ 9999)
theorem i0 : (0 : Int32).toInt = 0 := by decide
theorem pl_nI {r c : Nat} (hr : r < 16) (hc : c < 8) : pl (nI r) (nI c) = true := by
  unfold pl
  rw [nI_toInt (by omega), nI_toInt (by omega)]
  exact decide_eq_true ⟨by omega, by omega, by omega, by omega⟩
theorem pl_of {r c : Int32} (h : pl r c = true) : ∃ i j : Nat, i < 16 ∧ j < 8 ∧ r = nI i ∧ c = nI j := by
  obtain ⟨h1, h2, h3, h4⟩ := of_decide_eq_true h
  obtain ⟨i, a1, rfl⟩ := nI_of (x := r) (by rw [Int32.lt_iff_toInt_lt, i0]; omega)
  obtain ⟨j, a2, rfl⟩ := nI_of (x := c) (by rw [Int32.lt_iff_toInt_lt, i0]; omega)
  rw [nI_toInt a1] at h1 h2
  rw [nI_toInt a2] at h3 h4
  exact ⟨i, j, by omega, by omega, rfl, rfl⟩
theorem sp_of {p : Int32} (h : sp_ok p = true) : ∃ i : Nat, i ≤ 9999 ∧ p = nI i := by
  obtain ⟨h1, h2⟩ := of_decide_eq_true h
  obtain ⟨i, a1, rfl⟩ := nI_of (x := p) (by rw [Int32.lt_iff_toInt_lt, i0]; omega)
  rw [nI_toInt a1] at h1 h2
  exact ⟨i, by omega, rfl⟩
theorem tb_i_s {e : en_E} : tb_i (some e) = decide (en_k e = 2) := rfl
theorem tb_a_n {T : tb_T} {e : en_E} (h : T (en_s e) = none) : tb_a T e = va_up T (en_s e) (some e) := by
  unfold tb_a
  rw [h]
  rfl
theorem tb_a_w {T : tb_T} {e f : en_E} (h : T (en_s e) = some f) (hw : en_w e f = true) : tb_a T e = va_up T (en_s e) (some e) := by
  unfold tb_a
  rw [h]
  simp only [en_m, hw, if_true]
theorem tb_a_l {T : tb_T} {e f : en_E} (h : T (en_s e) = some f) (hw : en_w e f = false) : tb_a T e = T := by
  unfold tb_a
  rw [h]
  simp only [en_m, hw]
  funext s
  by_cases hs : s = en_s e
  · subst hs
    rw [va_up_self, h]
    rfl
  · rw [va_up_ne _ _ hs]
theorem cw_f_up {F : Nat → Prop} {M : mp_M} {f : Nat → Option Nat} {T : tb_T} (h : cw_f F M f T) {s : Nat} {o : Option Nat} {w : Option en_E} (ho : cw_o F M o w) : cw_f F M (va_up f s o) (va_up T s w) := by
  intro j hj
  by_cases hs : j = s
  · subst hs
    rw [va_up_self, va_up_self]
    exact ho
  · rw [va_up_ne _ _ hs, va_up_ne _ _ hs]
    exact h j hj
end
section
set_option maxHeartbeats 4000000 in
set_option maxRecDepth 100000 in
theorem c_E_init (g : gx_T) {M : mp_M} {a : Nat} {fs : List Value} (k s p v t : Int32) (hM : M a = some (.inr (ci_E, fs))) (hl : fs.length = 5) : Ct g yXE_init cXE_init 6 none 1 [.ref a, .int k, .int s, .int p, .int v, .int t] M (pv (fun M' => M' = mp_u M a (.inr (ci_E, [.int k, .int s, .int p, .int v, .int t])))) 0 0 := by
  refine ct_intro (L0 := [some (.ref a), some (.int k), some (.int s), some (.int p), some (.int v), some (.int t)]) (by decide) (Nat.le_of_ble_eq_true rfl) rfl rfl (fun x C E I => ?_)
  obtain ⟨f0, f1, f2, f3, f4, rfl⟩ : ∃ f0 f1 f2 f3 f4 : Value, fs = [f0, f1, f2, f3, f4] := by
    match fs, hl with
    | [f0, f1, f2, f3, f4], _ => exact ⟨f0, f1, f2, f3, f4, rfl⟩
  first | refine v_aload_n C 1 dXE_init_0 rfl rfl ?_ | refine v_aload_nN C 1 dXE_init_0 rfl rfl ?_ | refine v_aload_nQ C 1 dXE_init_0 rfl rfl ?_
  refine oi_XE_1 C 4 dXE_init_1 rfl (Nat.le_of_ble_eq_true rfl) (Nat.le_of_ble_eq_true rfl) ?_
  first | refine v_aload_n C 5 dXE_init_4 rfl rfl ?_ | refine v_aload_nN C 5 dXE_init_4 rfl rfl ?_ | refine v_aload_nQ C 5 dXE_init_4 rfl rfl ?_
  refine v_iload_n C 6 dXE_init_5 rfl rfl ?_
  refine pt_XE_7 C (I rfl) 9 dXE_init_6 rfl rfl rfl hM (Nat.lt_of_lt_of_le (Nat.lt_succ_self _) (Nat.le_of_ble_eq_true rfl)) [.int k, f1, f2, f3, f4] rfl ?_
  first | refine v_aload_n C 10 dXE_init_9 rfl rfl ?_ | refine v_aload_nN C 10 dXE_init_9 rfl rfl ?_ | refine v_aload_nQ C 10 dXE_init_9 rfl rfl ?_
  refine v_iload_n C 11 dXE_init_10 rfl rfl ?_
  refine pt_XE_13 C (I rfl) 14 dXE_init_11 rfl rfl rfl mp_us (Nat.lt_of_lt_of_le (Nat.lt_succ_self _) (Nat.le_of_ble_eq_true rfl)) [.int k, .int s, f2, f3, f4] rfl ?_
  first | refine v_aload_n C 15 dXE_init_14 rfl rfl ?_ | refine v_aload_nN C 15 dXE_init_14 rfl rfl ?_ | refine v_aload_nQ C 15 dXE_init_14 rfl rfl ?_
  refine v_iload_n C 16 dXE_init_15 rfl rfl ?_
  refine pt_XE_16 C (I rfl) 19 dXE_init_16 rfl rfl rfl mp_us (Nat.lt_of_lt_of_le (Nat.lt_succ_self _) (Nat.le_of_ble_eq_true rfl)) [.int k, .int s, .int p, f3, f4] rfl ?_
  first | refine v_aload_n C 20 dXE_init_19 rfl rfl ?_ | refine v_aload_nN C 20 dXE_init_19 rfl rfl ?_ | refine v_aload_nQ C 20 dXE_init_19 rfl rfl ?_
  refine v_iload C 22 dXE_init_20 rfl rfl ?_
  refine pt_XE_19 C (I rfl) 25 dXE_init_22 rfl rfl rfl mp_us (Nat.lt_of_lt_of_le (Nat.lt_succ_self _) (Nat.le_of_ble_eq_true rfl)) [.int k, .int s, .int p, .int v, f4] rfl ?_
  first | refine v_aload_n C 26 dXE_init_25 rfl rfl ?_ | refine v_aload_nN C 26 dXE_init_25 rfl rfl ?_ | refine v_aload_nQ C 26 dXE_init_25 rfl rfl ?_
  refine v_iload C 28 dXE_init_26 rfl rfl ?_
  refine pt_XE_22 C (I rfl) 31 dXE_init_28 rfl rfl rfl mp_us (Nat.lt_of_lt_of_le (Nat.lt_succ_self _) (Nat.le_of_ble_eq_true rfl)) [.int k, .int s, .int p, .int v, .int t] rfl ?_
  refine v_vret C E dXE_init_31 (by omega) (by omega) ⟨rfl, by simp only [mp_uu]⟩
set_option maxHeartbeats 4000000 in
set_option maxRecDepth 100000 in
theorem c_E_winsOver (g : gx_T) {F : Nat → Prop} {M : mp_M} {a b : Nat} {e f : en_E} (ha : cw_e F M a e) (hb : cw_e F M b f) (he : en_ok e) (hf : en_ok f) : Ct g yXE_winsOver cXE_winsOver 2 (some .boolean) 1 [.ref a, .ref b] M (pi_ (fun r M' => M = M' ∧ r = bI (en_w e f))) 0 0 := by
  refine ct_intro (L0 := [some (.ref a), some (.ref b)]) (by decide) (Nat.le_of_ble_eq_true rfl) rfl rfl (fun x C E I => ?_)
  have key := en_w_I he hf
  have one : en_w e f = true → (1 : Int32) = bI (en_w e f) := fun h => (bI_t h).symm
  have nul : ¬ en_w e f = true → (0 : Int32) = bI (en_w e f) := fun h => (bI_f (Bool.eq_false_iff.mpr h)).symm
  first | refine v_aload_n C 1 dXE_winsOver_0 rfl rfl ?_ | refine v_aload_nN C 1 dXE_winsOver_0 rfl rfl ?_ | refine v_aload_nQ C 1 dXE_winsOver_0 rfl rfl ?_
  refine gt_XE_16 C 4 dXE_winsOver_1 rfl ha.2 rfl ?_
  first | refine v_aload_n C 5 dXE_winsOver_4 rfl rfl ?_ | refine v_aload_nN C 5 dXE_winsOver_4 rfl rfl ?_ | refine v_aload_nQ C 5 dXE_winsOver_4 rfl rfl ?_
  refine gt_XE_16 C 8 dXE_winsOver_5 rfl hb.2 rfl ?_
  refine v_icmp_eq C 11 28 dXE_winsOver_8 rfl rfl (fun h1 => ?_) (fun h1 => ?_)
  · first | refine v_aload_n C 29 dXE_winsOver_28 rfl rfl ?_ | refine v_aload_nN C 29 dXE_winsOver_28 rfl rfl ?_ | refine v_aload_nQ C 29 dXE_winsOver_28 rfl rfl ?_
    refine gt_XE_7 C 32 dXE_winsOver_29 rfl ha.2 rfl ?_
    first | refine v_aload_n C 33 dXE_winsOver_32 rfl rfl ?_ | refine v_aload_nN C 33 dXE_winsOver_32 rfl rfl ?_ | refine v_aload_nQ C 33 dXE_winsOver_32 rfl rfl ?_
    refine gt_XE_7 C 36 dXE_winsOver_33 rfl hb.2 rfl ?_
    refine v_icmp_eq C 39 56 dXE_winsOver_36 rfl rfl (fun h2 => ?_) (fun h2 => ?_)
    · first | refine v_aload_n C 57 dXE_winsOver_56 rfl rfl ?_ | refine v_aload_nN C 57 dXE_winsOver_56 rfl rfl ?_ | refine v_aload_nQ C 57 dXE_winsOver_56 rfl rfl ?_
      refine gt_XE_19 C 60 dXE_winsOver_57 rfl ha.2 rfl ?_
      first | refine v_aload_n C 61 dXE_winsOver_60 rfl rfl ?_ | refine v_aload_nN C 61 dXE_winsOver_60 rfl rfl ?_ | refine v_aload_nQ C 61 dXE_winsOver_60 rfl rfl ?_
      refine gt_XE_19 C 64 dXE_winsOver_61 rfl hb.2 rfl ?_
      refine v_icmp_eq C 67 84 dXE_winsOver_64 rfl rfl (fun h3 => ?_) (fun h3 => ?_)
      · first | refine v_aload_n C 85 dXE_winsOver_84 rfl rfl ?_ | refine v_aload_nN C 85 dXE_winsOver_84 rfl rfl ?_ | refine v_aload_nQ C 85 dXE_winsOver_84 rfl rfl ?_
        refine gt_XE_22 C 88 dXE_winsOver_85 rfl ha.2 rfl ?_
        first | refine v_aload_n C 89 dXE_winsOver_88 rfl rfl ?_ | refine v_aload_nN C 89 dXE_winsOver_88 rfl rfl ?_ | refine v_aload_nQ C 89 dXE_winsOver_88 rfl rfl ?_
        refine gt_XE_22 C 92 dXE_winsOver_89 rfl hb.2 rfl ?_
        refine v_icmp_le C 95 99 dXE_winsOver_92 rfl rfl (fun h4 => ?_) (fun h4 => ?_)
        · refine v_iconst C 100 dXE_winsOver_99 rfl (nI 0) (by decide) ?_
          refine v_zret C E dXE_winsOver_100 (by omega) (by omega) (Or.inl rfl) ⟨_, rfl, rfl, nul (fun z => by
            rcases key.mp z with z | ⟨_, z | ⟨_, z | ⟨_, z⟩⟩⟩
            · exact absurd z (by rw [h1]; exact Int32.lt_irrefl)
            · exact absurd z (by rw [h2]; exact Int32.lt_irrefl)
            · exact absurd z (by rw [h3]; exact Int32.lt_irrefl)
            · exact absurd z (Int32.not_lt.mpr h4))⟩
        · refine v_iconst C 96 dXE_winsOver_95 rfl (nI 1) (by decide) ?_
          refine v_goto C 100 dXE_winsOver_96 rfl ?_
          refine v_zret C E dXE_winsOver_100 (by omega) (by omega) (Or.inr rfl) ⟨_, rfl, rfl, one (key.mpr (Or.inr ⟨h1, Or.inr ⟨h2, Or.inr ⟨h3, Int32.not_le.mp h4⟩⟩⟩))⟩
      · first | refine v_aload_n C 68 dXE_winsOver_67 rfl rfl ?_ | refine v_aload_nN C 68 dXE_winsOver_67 rfl rfl ?_ | refine v_aload_nQ C 68 dXE_winsOver_67 rfl rfl ?_
        refine gt_XE_19 C 71 dXE_winsOver_68 rfl ha.2 rfl ?_
        first | refine v_aload_n C 72 dXE_winsOver_71 rfl rfl ?_ | refine v_aload_nN C 72 dXE_winsOver_71 rfl rfl ?_ | refine v_aload_nQ C 72 dXE_winsOver_71 rfl rfl ?_
        refine gt_XE_19 C 75 dXE_winsOver_72 rfl hb.2 rfl ?_
        refine v_icmp_le C 78 82 dXE_winsOver_75 rfl rfl (fun h4 => ?_) (fun h4 => ?_)
        · refine v_iconst C 83 dXE_winsOver_82 rfl (nI 0) (by decide) ?_
          refine v_zret C E dXE_winsOver_83 (by omega) (by omega) (Or.inl rfl) ⟨_, rfl, rfl, nul (fun z => by
            rcases key.mp z with z | ⟨_, z | ⟨_, z | ⟨z, _⟩⟩⟩
            · exact absurd z (by rw [h1]; exact Int32.lt_irrefl)
            · exact absurd z (by rw [h2]; exact Int32.lt_irrefl)
            · exact absurd z (Int32.not_lt.mpr h4)
            · exact h3 z)⟩
        · refine v_iconst C 79 dXE_winsOver_78 rfl (nI 1) (by decide) ?_
          refine v_goto C 83 dXE_winsOver_79 rfl ?_
          refine v_zret C E dXE_winsOver_83 (by omega) (by omega) (Or.inr rfl) ⟨_, rfl, rfl, one (key.mpr (Or.inr ⟨h1, Or.inr ⟨h2, Or.inl (Int32.not_le.mp h4)⟩⟩))⟩
    · first | refine v_aload_n C 40 dXE_winsOver_39 rfl rfl ?_ | refine v_aload_nN C 40 dXE_winsOver_39 rfl rfl ?_ | refine v_aload_nQ C 40 dXE_winsOver_39 rfl rfl ?_
      refine gt_XE_7 C 43 dXE_winsOver_40 rfl ha.2 rfl ?_
      first | refine v_aload_n C 44 dXE_winsOver_43 rfl rfl ?_ | refine v_aload_nN C 44 dXE_winsOver_43 rfl rfl ?_ | refine v_aload_nQ C 44 dXE_winsOver_43 rfl rfl ?_
      refine gt_XE_7 C 47 dXE_winsOver_44 rfl hb.2 rfl ?_
      refine v_icmp_le C 50 54 dXE_winsOver_47 rfl rfl (fun h4 => ?_) (fun h4 => ?_)
      · refine v_iconst C 55 dXE_winsOver_54 rfl (nI 0) (by decide) ?_
        refine v_zret C E dXE_winsOver_55 (by omega) (by omega) (Or.inl rfl) ⟨_, rfl, rfl, nul (fun z => by
          rcases key.mp z with z | ⟨_, z | ⟨z, _⟩⟩
          · exact absurd z (by rw [h1]; exact Int32.lt_irrefl)
          · exact absurd z (Int32.not_lt.mpr h4)
          · exact h2 z)⟩
      · refine v_iconst C 51 dXE_winsOver_50 rfl (nI 1) (by decide) ?_
        refine v_goto C 55 dXE_winsOver_51 rfl ?_
        refine v_zret C E dXE_winsOver_55 (by omega) (by omega) (Or.inr rfl) ⟨_, rfl, rfl, one (key.mpr (Or.inr ⟨h1, Or.inl (Int32.not_le.mp h4)⟩))⟩
  · first | refine v_aload_n C 12 dXE_winsOver_11 rfl rfl ?_ | refine v_aload_nN C 12 dXE_winsOver_11 rfl rfl ?_ | refine v_aload_nQ C 12 dXE_winsOver_11 rfl rfl ?_
    refine gt_XE_16 C 15 dXE_winsOver_12 rfl ha.2 rfl ?_
    first | refine v_aload_n C 16 dXE_winsOver_15 rfl rfl ?_ | refine v_aload_nN C 16 dXE_winsOver_15 rfl rfl ?_ | refine v_aload_nQ C 16 dXE_winsOver_15 rfl rfl ?_
    refine gt_XE_16 C 19 dXE_winsOver_16 rfl hb.2 rfl ?_
    refine v_icmp_le C 22 26 dXE_winsOver_19 rfl rfl (fun h4 => ?_) (fun h4 => ?_)
    · refine v_iconst C 27 dXE_winsOver_26 rfl (nI 0) (by decide) ?_
      refine v_zret C E dXE_winsOver_27 (by omega) (by omega) (Or.inl rfl) ⟨_, rfl, rfl, nul (fun z => by
        rcases key.mp z with z | ⟨z, _⟩
        · exact absurd z (Int32.not_lt.mpr h4)
        · exact h1 z)⟩
    · refine v_iconst C 23 dXE_winsOver_22 rfl (nI 1) (by decide) ?_
      refine v_goto C 27 dXE_winsOver_23 rfl ?_
      refine v_zret C E dXE_winsOver_27 (by omega) (by omega) (Or.inr rfl) ⟨_, rfl, rfl, one (key.mpr (Or.inl (Int32.not_le.mp h4)))⟩
set_option maxHeartbeats 4000000 in
set_option maxRecDepth 100000 in
theorem c_S_isPlace (g : gx_T) {M : mp_M} (r c : Int32) : Ct g yXS_isPlace cXS_isPlace 2 (some .boolean) 1 [.int r, .int c] M (pi_ (fun v M' => M = M' ∧ v = bI (pl r c))) 0 0 := by
  refine ct_intro (L0 := [some (.int r), some (.int c)]) (by decide) (Nat.le_of_ble_eq_true rfl) rfl rfl (fun x C E I => ?_)
  have k16 : (nI 16).toInt = 16 := by decide
  have k8 : (nI 8).toInt = 8 := by decide
  have z : pl r c = false → VV g x M 0 0 24 [some (.int r), some (.int c)] [] := fun h => by
    refine v_iconst C 25 dXS_isPlace_24 rfl (nI 0) (by decide) ?_
    refine v_zret C E dXS_isPlace_25 (by omega) (by omega) (Or.inl rfl) ⟨_, rfl, rfl, (bI_f h).symm⟩
  refine v_iload_n C 1 dXS_isPlace_0 rfl rfl ?_
  refine v_if_lt C 4 24 dXS_isPlace_1 rfl rfl (fun h1 => ?_) (fun h1 => ?_)
  · exact z (decide_eq_false (fun q => by rw [Int32.lt_iff_toInt_lt, i0] at h1; omega))
  · refine v_iload_n C 5 dXS_isPlace_4 rfl rfl ?_
    refine v_bipush C 7 dXS_isPlace_5 rfl (nI 16) (by decide) ?_
    refine v_icmp_ge C 10 24 dXS_isPlace_7 rfl rfl (fun h2 => ?_) (fun h2 => ?_)
    · exact z (decide_eq_false (fun q => by rw [Int32.le_iff_toInt_le, k16] at h2; omega))
    · refine v_iload_n C 11 dXS_isPlace_10 rfl rfl ?_
      refine v_if_lt C 14 24 dXS_isPlace_11 rfl rfl (fun h3 => ?_) (fun h3 => ?_)
      · exact z (decide_eq_false (fun q => by rw [Int32.lt_iff_toInt_lt, i0] at h3; omega))
      · refine v_iload_n C 15 dXS_isPlace_14 rfl rfl ?_
        refine v_bipush C 17 dXS_isPlace_15 rfl (nI 8) (by decide) ?_
        refine v_icmp_ge C 20 24 dXS_isPlace_17 rfl rfl (fun h4 => ?_) (fun h4 => ?_)
        · exact z (decide_eq_false (fun q => by rw [Int32.le_iff_toInt_le, k8] at h4; omega))
        · refine v_iconst C 21 dXS_isPlace_20 rfl (nI 1) (by decide) ?_
          refine v_goto C 25 dXS_isPlace_21 rfl ?_
          rw [Int32.lt_iff_toInt_lt, i0] at h1 h3
          rw [Int32.le_iff_toInt_le, k16] at h2
          rw [Int32.le_iff_toInt_le, k8] at h4
          refine v_zret C E dXS_isPlace_25 (by omega) (by omega) (Or.inr rfl) ⟨_, rfl, rfl, (bI_t (decide_eq_true ⟨by omega, by omega, by omega, by omega⟩)).symm⟩
set_option maxHeartbeats 4000000 in
set_option maxRecDepth 100000 in
theorem c_S_isStamp (g : gx_T) {M : mp_M} (p : Int32) : Ct g yXS_isStamp cXS_isStamp 1 (some .boolean) 1 [.int p] M (pi_ (fun v M' => M = M' ∧ v = bI (sp_ok p))) 0 0 := by
  refine ct_intro (L0 := [some (.int p)]) (by decide) (Nat.le_of_ble_eq_true rfl) rfl rfl (fun x C E I => ?_)
  have k9 : (nI 9999).toInt = 9999 := by decide
  have z : sp_ok p = false → VV g x M 0 0 15 [some (.int p)] [] := fun h => by
    refine v_iconst C 16 dXS_isStamp_15 rfl (nI 0) (by decide) ?_
    refine v_zret C E dXS_isStamp_16 (by omega) (by omega) (Or.inl rfl) ⟨_, rfl, rfl, (bI_f h).symm⟩
  refine v_iload_n C 1 dXS_isStamp_0 rfl rfl ?_
  refine v_if_lt C 4 15 dXS_isStamp_1 rfl rfl (fun h1 => ?_) (fun h1 => ?_)
  · exact z (decide_eq_false (fun q => by rw [Int32.lt_iff_toInt_lt, i0] at h1; omega))
  · refine v_iload_n C 5 dXS_isStamp_4 rfl rfl ?_
    refine v_sipush C 8 dXS_isStamp_5 rfl (nI 9999) (by decide) ?_
    refine v_icmp_gt C 11 15 dXS_isStamp_8 rfl rfl (fun h2 => ?_) (fun h2 => ?_)
    · exact z (decide_eq_false (fun q => by rw [Int32.lt_iff_toInt_lt, k9] at h2; omega))
    · refine v_iconst C 12 dXS_isStamp_11 rfl (nI 1) (by decide) ?_
      refine v_goto C 16 dXS_isStamp_12 rfl ?_
      rw [Int32.lt_iff_toInt_lt, i0] at h1
      rw [Int32.lt_iff_toInt_lt, k9] at h2
      refine v_zret C E dXS_isStamp_16 (by omega) (by omega) (Or.inr rfl) ⟨_, rfl, rfl, (bI_t (decide_eq_true ⟨by omega, by omega⟩)).symm⟩
set_option maxHeartbeats 4000000 in
set_option maxRecDepth 100000 in
theorem c_S_pointSlot (g : gx_T) {M : mp_M} (r c : Nat) : Ct g yXS_pointSlot cXS_pointSlot 2 (some .int) 1 [.int (nI r), .int (nI c)] M (pi_ (fun v M' => M = M' ∧ v = nI (r * 8 + c))) 0 0 := by
  refine ct_intro (L0 := [some (.int (nI r)), some (.int (nI c))]) (by decide) (Nat.le_of_ble_eq_true rfl) rfl rfl (fun x C E I => ?_)
  refine v_iload_n C 1 dXS_pointSlot_0 rfl rfl ?_
  refine v_bipush C 3 dXS_pointSlot_1 rfl (nI 8) (by decide) ?_
  refine v_imul C 4 dXS_pointSlot_3 rfl ?_
  refine v_iload_n C 5 dXS_pointSlot_4 rfl rfl ?_
  refine v_iadd C 6 dXS_pointSlot_5 rfl ?_
  refine v_iret C E dXS_pointSlot_6 (by omega) (by omega) ⟨_, rfl, rfl, by rw [pk_mul, nI_add]⟩
set_option maxHeartbeats 4000000 in
set_option maxRecDepth 100000 in
theorem c_S_wipeSlot (g : gx_T) {M : mp_M} (r f l : Nat) (hl : l < 8) : Ct g yXS_wipeSlot cXS_wipeSlot 3 (some .int) 1 [.int (nI r), .int (nI f), .int (nI l)] M (pi_ (fun v M' => M = M' ∧ v = nI (en_ws r f l))) 0 0 := by
  refine ct_intro (L0 := [some (.int (nI r)), some (.int (nI f)), some (.int (nI l))]) (by decide) (Nat.le_of_ble_eq_true rfl) rfl rfl (fun x C E I => ?_)
  refine v_sipush C 3 dXS_wipeSlot_0 rfl (nI 128) (by decide) ?_
  refine v_iload_n C 4 dXS_wipeSlot_3 rfl rfl ?_
  refine v_bipush C 6 dXS_wipeSlot_4 rfl (nI 36) (by decide) ?_
  refine v_imul C 7 dXS_wipeSlot_6 rfl ?_
  refine v_iadd C 8 dXS_wipeSlot_7 rfl ?_
  refine v_iload_n C 9 dXS_wipeSlot_8 rfl rfl ?_
  refine v_iload_n C 10 dXS_wipeSlot_9 rfl rfl ?_
  refine v_iconst C 11 dXS_wipeSlot_10 rfl (nI 1) (by decide) ?_
  refine v_iadd C 12 dXS_wipeSlot_11 rfl ?_
  refine v_imul C 13 dXS_wipeSlot_12 rfl ?_
  refine v_iconst C 14 dXS_wipeSlot_13 rfl (nI 2) (by decide) ?_
  refine v_idiv C 15 dXS_wipeSlot_14 rfl (by decide) ?_
  refine v_iadd C 16 dXS_wipeSlot_15 rfl ?_
  refine v_iload_n C 17 dXS_wipeSlot_16 rfl rfl ?_
  refine v_iadd C 18 dXS_wipeSlot_17 rfl ?_
  have hb : l * (l + 1) < 2 ^ 31 := Nat.lt_of_le_of_lt (Nat.mul_le_mul (show l ≤ 8 by omega) (show l + 1 ≤ 9 by omega)) (by decide)
  refine v_iret C E dXS_wipeSlot_18 (by omega) (by omega) ⟨_, rfl, rfl, by simp only [pk_mul, nI_add]; rw [pk_div hb (by decide) (by decide)]; simp only [nI_add]; rfl⟩
set_option maxHeartbeats 4000000 in
set_option maxRecDepth 100000 in
theorem c_T_init (g : gx_T) {F : Nat → Prop} {M : mp_M} {a : Nat} {fs : List Value} (tier : Nat) (hM : M a = some (.inr (ci_T, fs))) (hl : fs.length = 4) (hF : ∀ q, F q → M q ≠ none) (ha : ¬ F a) : Ct g yXT_init cXT_init 2 none 1 [.ref a, .int (nI tier)] M (pv (fun M' => ∃ sl : Nat, M sl = none ∧ mp_k (fun q => q = a) M M' ∧ cw_t g F M' a sl tier tb_0)) 1 704 := by
  refine ct_intro (L0 := [some (.ref a), some (.int (nI tier))]) (by decide) (Nat.le_of_ble_eq_true rfl) rfl rfl (fun x C E I => ?_)
  obtain ⟨f0, f1, f2, f3, rfl⟩ : ∃ f0 f1 f2 f3 : Value, fs = [f0, f1, f2, f3] := by
    match fs, hl with
    | [f0, f1, f2, f3], _ => exact ⟨f0, f1, f2, f3, rfl⟩
  first | refine v_aload_n C 1 dXT_init_0 rfl rfl ?_ | refine v_aload_nN C 1 dXT_init_0 rfl rfl ?_ | refine v_aload_nQ C 1 dXT_init_0 rfl rfl ?_
  refine oi_XT_3 C 4 dXT_init_1 rfl (Nat.le_of_ble_eq_true rfl) (Nat.le_of_ble_eq_true rfl) ?_
  first | refine v_aload_n C 5 dXT_init_4 rfl rfl ?_ | refine v_aload_nN C 5 dXT_init_4 rfl rfl ?_ | refine v_aload_nQ C 5 dXT_init_4 rfl rfl ?_
  refine v_iload_n C 6 dXT_init_5 rfl rfl ?_
  refine pt_XT_9 C (I rfl) 9 dXT_init_6 rfl rfl rfl hM (Nat.lt_of_lt_of_le (Nat.lt_succ_self _) (Nat.le_of_ble_eq_true rfl)) [.int (nI tier), f1, f2, f3] rfl ?_
  first | refine v_aload_n C 10 dXT_init_9 rfl rfl ?_ | refine v_aload_nN C 10 dXT_init_9 rfl rfl ?_ | refine v_aload_nQ C 10 dXT_init_9 rfl rfl ?_
  refine v_sipush C 13 dXT_init_10 rfl (nI 704) (by decide) ?_
  refine na_XT_15 C 16 dXT_init_13 rfl 704 rfl (by decide) (by decide) (by decide) (fun sl hsl => ?_)
  have hsa : a ≠ sl := fun z => by rw [← z, mp_us] at hsl; cases hsl
  have hsl0 : M sl = none := by rw [mp_un (Ne.symm hsa)] at hsl; exact hsl
  refine pt_XT_17 C (I rfl) 19 dXT_init_16 rfl rfl rfl ((mp_un hsa).trans mp_us) (Nat.lt_of_lt_of_le (Nat.lt_succ_self _) (Nat.le_of_ble_eq_true rfl)) [.int (nI tier), .ref sl, f2, f3] rfl ?_
  first | refine v_aload_n C 20 dXT_init_19 rfl rfl ?_ | refine v_aload_nN C 20 dXT_init_19 rfl rfl ?_ | refine v_aload_nQ C 20 dXT_init_19 rfl rfl ?_
  refine v_iconst C 21 dXT_init_20 rfl (nI 0) (by decide) ?_
  refine pt_XT_21 C 24 dXT_init_21 rfl rfl rfl mp_us (Nat.lt_of_lt_of_le (Nat.lt_succ_self _) (Nat.le_of_ble_eq_true rfl)) [.int (nI tier), .ref sl, .int (nI 0), f3] rfl ?_
  first | refine v_aload_n C 25 dXT_init_24 rfl rfl ?_ | refine v_aload_nN C 25 dXT_init_24 rfl rfl ?_ | refine v_aload_nQ C 25 dXT_init_24 rfl rfl ?_
  refine v_iconst C 26 dXT_init_25 rfl (nI 0) (by decide) ?_
  refine pt_XT_24 C 29 dXT_init_26 rfl rfl rfl mp_us (Nat.lt_of_lt_of_le (Nat.lt_succ_self _) (Nat.le_of_ble_eq_true rfl)) [.int (nI tier), .ref sl, .int (nI 0), .int (nI 0)] rfl ?_
  refine v_vret C E dXT_init_29 (by omega) (by omega) ⟨rfl, sl, hsl0, ?_, ?_⟩
  · exact mp_k.tr (mp_k.up rfl) (mp_k.tr (mp_k.new hsl) (mp_k.tr (mp_k.up rfl) (mp_k.tr (mp_k.up rfl) (mp_k.up rfl))))
  · refine ⟨ha, fun z => hF sl z hsl0, tb_ok_0, ?_, (fun _ => none), ?_, fun s _ => Or.inl ⟨rfl, rfl⟩⟩
    · rw [ob_T0]
      exact mp_us
    · rw [mp_un (Ne.symm hsa), mp_un (Ne.symm hsa), mp_un (Ne.symm hsa)]
      exact mp_us
end
section
set_option maxHeartbeats 4000000 in
set_option maxRecDepth 100000 in
theorem c_T_pointAt (g : gx_T) {F : Nat → Prop} {M : mp_M} {a sl tier : Nat} {T : tb_T} (r c : Nat) (hr : r < 16) (hc : c < 8) (h : cw_t g F M a sl tier T) : Ct g yXT_pointAt cXT_pointAt 3 (some (.object "WideStore$Entry")) 2 [.ref a, .int (nI r), .int (nI c)] M (pq (fun o M' => M = M' ∧ cw_o F M o (T (r * 8 + c)))) 0 0 := by
  refine ct_intro (L0 := [some (.ref a), some (.int (nI r)), some (.int (nI c))]) (by decide) (Nat.le_of_ble_eq_true rfl) rfl rfl (fun x C E I => ?_)
  obtain ⟨h1, h2, h3, h4, f, h5, h6⟩ := h
  first | refine v_aload_n C 1 dXT_pointAt_0 rfl rfl ?_ | refine v_aload_nN C 1 dXT_pointAt_0 rfl rfl ?_ | refine v_aload_nQ C 1 dXT_pointAt_0 rfl rfl ?_
  refine gt_XT_17 C 4 dXT_pointAt_1 rfl h4 rfl ?_
  refine v_iload_n C 5 dXT_pointAt_4 rfl rfl ?_
  refine v_iload_n C 6 dXT_pointAt_5 rfl rfl ?_
  refine v_ri 9 (cl_XT_27 C ((c_S_pointSlot g (M := M) r c)) dXT_pointAt_6 rfl rfl (Nat.le_of_ble_eq_true rfl) (Nat.le_of_ble_eq_true rfl) (Nat.le_of_ble_eq_true rfl) (by omega) (by omega)) rfl (fun v M1 hv => ?_)
  obtain ⟨rfl, rfl⟩ := hv
  refine v_aald C 10 0 rfl dXT_pointAt_9 rfl h5 (r * 8 + c) rfl (by omega) (by decide) ?_
  refine v_aret C E (Or.inl ⟨_, rfl⟩) dXT_pointAt_10 (by omega) (by omega) ⟨_, rfl, rfl, h6 _ (by omega)⟩
set_option maxHeartbeats 4000000 in
set_option maxRecDepth 100000 in
theorem c_T_addWinner (g : gx_T) {F : Nat → Prop} {M : mp_M} {a sl tier q : Nat} {T : tb_T} {e : en_E} (h : cw_t g F M a sl tier T) (hq : cw_e F M q e) (he : en_ok e) : Ct g yXT_addWinner cXT_addWinner 3 none 2 [.ref a, .ref q] M (pv (fun M' => mp_k (fun y => y = a ∨ y = sl) M M' ∧ cw_t g F M' a sl tier (tb_a T e))) 0 0 := by
  refine ct_intro (L0 := [some (.ref a), some (.ref q), none]) (by decide) (Nat.le_of_ble_eq_true rfl) rfl rfl (fun x C E I => ?_)
  obtain ⟨h1, h2, h3, h4, f, h5, h6⟩ := h
  have hs := en_s_lt he
  have hqa : q ≠ a := ne_o hq.2 h4 (by decide)
  have hqs : q ≠ sl := ne_a hq.2 h5
  have has : a ≠ sl := ne_a h4 h5
  have hqo : cw_o F M (some q) (some e) := Or.inr ⟨q, e, rfl, rfl, hq⟩
  first | refine v_aload_n C 1 dXT_addWinner_0 rfl rfl ?_ | refine v_aload_nN C 1 dXT_addWinner_0 rfl rfl ?_ | refine v_aload_nQ C 1 dXT_addWinner_0 rfl rfl ?_
  refine gt_XT_17 C 4 dXT_addWinner_1 rfl h4 rfl ?_
  first | refine v_aload_n C 5 dXT_addWinner_4 rfl rfl ?_ | refine v_aload_nN C 5 dXT_addWinner_4 rfl rfl ?_ | refine v_aload_nQ C 5 dXT_addWinner_4 rfl rfl ?_
  refine gt_XT_31 C 8 dXT_addWinner_5 rfl hq.2 rfl ?_
  refine v_aald C 9 0 rfl dXT_addWinner_8 rfl h5 (en_s e) rfl hs (by decide) ?_
  first | refine v_astore_n C 10 _ dXT_addWinner_9 rfl (Nat.lt_of_lt_of_le (Nat.lt_succ_self _) (Nat.le_of_ble_eq_true rfl)) rfl ?_ | refine v_astore_nN C 10 _ dXT_addWinner_9 rfl (Nat.lt_of_lt_of_le (Nat.lt_succ_self _) (Nat.le_of_ble_eq_true rfl)) rfl ?_ | refine v_astore_nQ C 10 _ dXT_addWinner_9 rfl (Nat.lt_of_lt_of_le (Nat.lt_succ_self _) (Nat.le_of_ble_eq_true rfl)) rfl ?_
  first | refine v_aload_n C 11 dXT_addWinner_10 rfl rfl ?_ | refine v_aload_nN C 11 dXT_addWinner_10 rfl rfl ?_ | refine v_aload_nQ C 11 dXT_addWinner_10 rfl rfl ?_
  refine v_ifnonnull C 14 59 dXT_addWinner_11 rfl rfl (fun b hb => ?_) (fun hb => ?_)
  · rcases h6 _ hs with ⟨z, -⟩ | ⟨q2, e2, g1, g2, g3⟩
    · rw [z] at hb
      cases hb
    · cases hb.symm.trans g1
      rw [hb]
      first | refine v_aload_n C 60 dXT_addWinner_59 rfl rfl ?_ | refine v_aload_nN C 60 dXT_addWinner_59 rfl rfl ?_ | refine v_aload_nQ C 60 dXT_addWinner_59 rfl rfl ?_
      first | refine v_aload_n C 61 dXT_addWinner_60 rfl rfl ?_ | refine v_aload_nN C 61 dXT_addWinner_60 rfl rfl ?_ | refine v_aload_nQ C 61 dXT_addWinner_60 rfl rfl ?_
      refine v_ri 64 (cl_XT_37 C ((c_E_winsOver g hq g3 he (h3 _ _ g2).1)) hq.2 dXT_addWinner_61 rfl rfl (Nat.le_of_ble_eq_true rfl) (Nat.le_of_ble_eq_true rfl) (Nat.le_of_ble_eq_true rfl) (by omega) (by omega)) rfl (fun v M1 hv => ?_)
      obtain ⟨rfl, rfl⟩ := hv
      refine v_if_eq C 67 77 dXT_addWinner_64 rfl rfl (fun hw => ?_) (fun hw => ?_)
      · rw [bI_0] at hw
        refine v_vret C E dXT_addWinner_77 (by omega) (by omega) ⟨rfl, mp_k.rf, by rw [tb_a_l g2 hw]; exact ⟨h1, h2, h3, h4, f, h5, h6⟩⟩
      · have hw2 : en_w e e2 = true := by cases hz : en_w e e2 with | true => rfl | false => exact absurd (bI_0.mpr hz) hw
        first | refine v_aload_n C 68 dXT_addWinner_67 rfl rfl ?_ | refine v_aload_nN C 68 dXT_addWinner_67 rfl rfl ?_ | refine v_aload_nQ C 68 dXT_addWinner_67 rfl rfl ?_
        refine gt_XT_17 C 71 dXT_addWinner_68 rfl h4 rfl ?_
        first | refine v_aload_n C 72 dXT_addWinner_71 rfl rfl ?_ | refine v_aload_nN C 72 dXT_addWinner_71 rfl rfl ?_ | refine v_aload_nQ C 72 dXT_addWinner_71 rfl rfl ?_
        refine gt_XT_31 C 75 dXT_addWinner_72 rfl hq.2 rfl ?_
        first | refine v_aload_n C 76 dXT_addWinner_75 rfl rfl ?_ | refine v_aload_nN C 76 dXT_addWinner_75 rfl rfl ?_ | refine v_aload_nQ C 76 dXT_addWinner_75 rfl rfl ?_
        refine v_aast C 77 0 ci_E rfl rfl dXT_addWinner_76 rfl h5 hq.2 (en_s e) rfl hs (by decide) ?_
        have hii : tb_i (some e) = tb_i (T (en_s e)) := by
          rw [g2, tb_i_s, tb_i_s]
          have := (en_s_inj he (h3 _ _ g2).1 (h3 _ _ g2).2.symm).1
          exact decide_eq_decide.mpr this
        have hT : ob_T tier sl (va_up T (en_s e) (some e)) = ob_T tier sl T := ob_Tc (tb_n_old g2) (tb_w_up hii)
        have hM2 : mp_u (mp_u M sl (ar_q (gx_E g) 704 (va_up f (en_s e) (some q)))) a (ob_T tier sl (va_up T (en_s e) (some e))) = mp_u M sl (ar_q (gx_E g) 704 (va_up f (en_s e) (some q))) := by
          rw [hT]
          exact mp_same ((mp_un has).trans h4)
        refine v_vret C E dXT_addWinner_77 (by omega) (by omega) ⟨rfl, mp_k.up (Or.inr rfl), by
          rw [tb_a_w g2 hw2, ← hM2]
          exact cw_t_up h1 h2 h4 h5 (by rw [← tb_a_w g2 hw2]; exact tb_ok_a h3 he) (cw_f_up h6 hqo)⟩
  · have hN : T (en_s e) = none := by
      rcases h6 _ hs with ⟨-, z⟩ | ⟨q2, e2, g1, g2, g3⟩
      · exact z
      · rw [hb] at g1
        cases g1
    first | refine v_aload_n C 15 dXT_addWinner_14 rfl rfl ?_ | refine v_aload_nN C 15 dXT_addWinner_14 rfl rfl ?_ | refine v_aload_nQ C 15 dXT_addWinner_14 rfl rfl ?_
    refine gt_XT_17 C 18 dXT_addWinner_15 rfl h4 rfl ?_
    first | refine v_aload_n C 19 dXT_addWinner_18 rfl rfl ?_ | refine v_aload_nN C 19 dXT_addWinner_18 rfl rfl ?_ | refine v_aload_nQ C 19 dXT_addWinner_18 rfl rfl ?_
    refine gt_XT_31 C 22 dXT_addWinner_19 rfl hq.2 rfl ?_
    first | refine v_aload_n C 23 dXT_addWinner_22 rfl rfl ?_ | refine v_aload_nN C 23 dXT_addWinner_22 rfl rfl ?_ | refine v_aload_nQ C 23 dXT_addWinner_22 rfl rfl ?_
    refine v_aast C 24 0 ci_E rfl rfl dXT_addWinner_23 rfl h5 hq.2 (en_s e) rfl hs (by decide) ?_
    first | refine v_aload_n C 25 dXT_addWinner_24 rfl rfl ?_ | refine v_aload_nN C 25 dXT_addWinner_24 rfl rfl ?_ | refine v_aload_nQ C 25 dXT_addWinner_24 rfl rfl ?_
    refine v_dup C 26 dXT_addWinner_25 rfl rfl ?_
    refine gt_XT_21 C 29 dXT_addWinner_26 rfl ((mp_un has).trans h4) rfl ?_
    refine v_iconst C 30 dXT_addWinner_29 rfl (nI 1) (by decide) ?_
    refine v_iadd C 31 dXT_addWinner_30 rfl ?_
    refine pt_XT_21 C 34 dXT_addWinner_31 rfl rfl rfl ((mp_un has).trans h4) (Nat.lt_of_lt_of_le (Nat.lt_succ_self _) (Nat.le_of_ble_eq_true rfl)) [.int (nI tier), .ref sl, .int (nI (tb_n T) + nI 1), .int (nI (tb_w T))] rfl ?_
    first | refine v_aload_n C 35 dXT_addWinner_34 rfl rfl ?_ | refine v_aload_nN C 35 dXT_addWinner_34 rfl rfl ?_ | refine v_aload_nQ C 35 dXT_addWinner_34 rfl rfl ?_
    refine v_dup C 36 dXT_addWinner_35 rfl rfl ?_
    refine gt_XT_24 C 39 dXT_addWinner_36 rfl mp_us rfl ?_
    first | refine v_aload_n C 40 dXT_addWinner_39 rfl rfl ?_ | refine v_aload_nN C 40 dXT_addWinner_39 rfl rfl ?_ | refine v_aload_nQ C 40 dXT_addWinner_39 rfl rfl ?_
    refine gt_XT_34 C 43 dXT_addWinner_40 rfl ((mp_un hqa).trans ((mp_un hqs).trans hq.2)) rfl ?_
    refine v_iconst C 44 dXT_addWinner_43 rfl (nI 2) (by decide) ?_
    have fin : ∀ w : Int32, nI (tb_w T) + w = nI (tb_w (tb_a T e)) → VV g x (mp_u (mp_u M sl (ar_q (gx_E g) 704 (va_up f (en_s e) (some q)))) a (.inr (ci_T, [.int (nI tier), .ref sl, .int (nI (tb_n T) + nI 1), .int (nI (tb_w T))]))) 0 0 52 [some (.ref a), some (.ref q), some (va_rf (f (en_s e)))] [.int w, .int (nI (tb_w T)), .ref a] := by
      intro w hw
      refine v_iadd C 53 dXT_addWinner_52 rfl ?_
      refine pt_XT_24 C 56 dXT_addWinner_53 rfl rfl rfl mp_us (Nat.lt_of_lt_of_le (Nat.lt_succ_self _) (Nat.le_of_ble_eq_true rfl)) [.int (nI tier), .ref sl, .int (nI (tb_n T) + nI 1), .int (nI (tb_w T) + w)] rfl ?_
      refine v_goto C 77 dXT_addWinner_56 rfl ?_
      refine v_vret C E dXT_addWinner_77 (by omega) (by omega) ⟨rfl, ?_, ?_⟩
      · rw [mp_uu]
        exact cw_t_kp
      · rw [mp_uu, hw, nI_add, ← tb_n_new hs hN (e := e), ← tb_a_n hN]
        exact cw_t_up h1 h2 h4 h5 (tb_ok_a h3 he) (by rw [tb_a_n hN]; exact cw_f_up h6 hqo)
    refine v_icmp_ne C 47 51 dXT_addWinner_44 rfl rfl (fun hk => ?_) (fun hk => ?_)
    · refine v_iconst C 52 dXT_addWinner_51 rfl (nI 0) (by decide) ?_
      refine fin _ ?_
      have hk2 : en_k e ≠ 2 := fun z => hk (by rw [z])
      rw [nI_add, Nat.add_zero, tb_a_n hN, tb_w_up (by rw [hN, tb_i_s]; exact decide_eq_false hk2)]
    · refine v_iconst C 48 dXT_addWinner_47 rfl (nI 1) (by decide) ?_
      refine v_goto C 52 dXT_addWinner_48 rfl ?_
      refine fin _ ?_
      have hk2 : en_k e = 2 := (nI_eq (by have := he.1; omega) (by decide)).mp hk
      rw [nI_add, tb_a_n hN, tb_w_inc hs (by rw [hN]; rfl) (by rw [tb_i_s]; exact decide_eq_true hk2)]
set_option maxHeartbeats 4000000 in
set_option maxRecDepth 100000 in
theorem c_T_dropEntry (g : gx_T) {F : Nat → Prop} {M : mp_M} {a sl tier q : Nat} {T : tb_T} {e : en_E} (h : cw_t g F M a sl tier T) (hq : cw_e F M q e) (hT : T (en_s e) = some e) : Ct g yXT_dropEntry cXT_dropEntry 2 none 2 [.ref a, .ref q] M (pv (fun M' => mp_k (fun y => y = a ∨ y = sl) M M' ∧ cw_t g F M' a sl tier (va_up T (en_s e) none))) 0 0 := by
  refine ct_intro (L0 := [some (.ref a), some (.ref q)]) (by decide) (Nat.le_of_ble_eq_true rfl) rfl rfl (fun x C E I => ?_)
  obtain ⟨h1, h2, h3, h4, f, h5, h6⟩ := h
  have he := (h3 _ _ hT).1
  have hs := en_s_lt he
  have hqa : q ≠ a := ne_o hq.2 h4 (by decide)
  have hqs : q ≠ sl := ne_a hq.2 h5
  have has : a ≠ sl := ne_a h4 h5
  have hno : cw_o F M none none := Or.inl ⟨rfl, rfl⟩
  have hok : tb_ok (va_up T (en_s e) none) := by
    intro s e2 z
    by_cases hs2 : s = en_s e
    · rw [hs2, va_up_self] at z
      cases z
    · rw [va_up_ne _ _ hs2] at z
      exact h3 s e2 z
  have hn := tb_n_del hs hT
  first | refine v_aload_n C 1 dXT_dropEntry_0 rfl rfl ?_ | refine v_aload_nN C 1 dXT_dropEntry_0 rfl rfl ?_ | refine v_aload_nQ C 1 dXT_dropEntry_0 rfl rfl ?_
  refine gt_XT_17 C 4 dXT_dropEntry_1 rfl h4 rfl ?_
  first | refine v_aload_n C 5 dXT_dropEntry_4 rfl rfl ?_ | refine v_aload_nN C 5 dXT_dropEntry_4 rfl rfl ?_ | refine v_aload_nQ C 5 dXT_dropEntry_4 rfl rfl ?_
  refine gt_XT_31 C 8 dXT_dropEntry_5 rfl hq.2 rfl ?_
  refine v_null C 9 dXT_dropEntry_8 rfl ?_
  refine v_aastN C 10 0 rfl dXT_dropEntry_9 rfl h5 (en_s e) rfl hs (by decide) ?_
  first | refine v_aload_n C 11 dXT_dropEntry_10 rfl rfl ?_ | refine v_aload_nN C 11 dXT_dropEntry_10 rfl rfl ?_ | refine v_aload_nQ C 11 dXT_dropEntry_10 rfl rfl ?_
  refine v_dup C 12 dXT_dropEntry_11 rfl rfl ?_
  refine gt_XT_21 C 15 dXT_dropEntry_12 rfl ((mp_un has).trans h4) rfl ?_
  refine v_iconst C 16 dXT_dropEntry_15 rfl (nI 1) (by decide) ?_
  refine v_isub C 17 dXT_dropEntry_16 rfl ?_
  refine pt_XT_21 C 20 dXT_dropEntry_17 rfl rfl rfl ((mp_un has).trans h4) (Nat.lt_of_lt_of_le (Nat.lt_succ_self _) (Nat.le_of_ble_eq_true rfl)) [.int (nI tier), .ref sl, .int (nI (tb_n T) - nI 1), .int (nI (tb_w T))] rfl ?_
  first | refine v_aload_n C 21 dXT_dropEntry_20 rfl rfl ?_ | refine v_aload_nN C 21 dXT_dropEntry_20 rfl rfl ?_ | refine v_aload_nQ C 21 dXT_dropEntry_20 rfl rfl ?_
  refine v_dup C 22 dXT_dropEntry_21 rfl rfl ?_
  refine gt_XT_24 C 25 dXT_dropEntry_22 rfl mp_us rfl ?_
  first | refine v_aload_n C 26 dXT_dropEntry_25 rfl rfl ?_ | refine v_aload_nN C 26 dXT_dropEntry_25 rfl rfl ?_ | refine v_aload_nQ C 26 dXT_dropEntry_25 rfl rfl ?_
  refine gt_XT_34 C 29 dXT_dropEntry_26 rfl ((mp_un hqa).trans ((mp_un hqs).trans hq.2)) rfl ?_
  refine v_iconst C 30 dXT_dropEntry_29 rfl (nI 2) (by decide) ?_
  have fin : ∀ w : Int32, nI (tb_w T) - w = nI (tb_w (va_up T (en_s e) none)) → VV g x (mp_u (mp_u M sl (ar_q (gx_E g) 704 (va_up f (en_s e) none))) a (.inr (ci_T, [.int (nI tier), .ref sl, .int (nI (tb_n T) - nI 1), .int (nI (tb_w T))]))) 0 0 38 [some (.ref a), some (.ref q)] [.int w, .int (nI (tb_w T)), .ref a] := by
    intro w hw
    refine v_isub C 39 dXT_dropEntry_38 rfl ?_
    refine pt_XT_24 C 42 dXT_dropEntry_39 rfl rfl rfl mp_us (Nat.lt_of_lt_of_le (Nat.lt_succ_self _) (Nat.le_of_ble_eq_true rfl)) [.int (nI tier), .ref sl, .int (nI (tb_n T) - nI 1), .int (nI (tb_w T) - w)] rfl ?_
    refine v_vret C E dXT_dropEntry_42 (by omega) (by omega) ⟨rfl, ?_, ?_⟩
    · rw [mp_uu]
      exact cw_t_kp
    · rw [mp_uu, hw, pk_sub (by omega), show tb_n T - 1 = tb_n (va_up T (en_s e) none) by omega]
      exact cw_t_up h1 h2 h4 h5 hok (cw_f_up h6 hno)
  refine v_icmp_ne C 33 37 dXT_dropEntry_30 rfl rfl (fun hk => ?_) (fun hk => ?_)
  · refine v_iconst C 38 dXT_dropEntry_37 rfl (nI 0) (by decide) ?_
    refine fin _ ?_
    have hk2 : en_k e ≠ 2 := fun z => hk (by rw [z])
    rw [pk_sub (Nat.zero_le _), Nat.sub_zero, tb_w_up (by rw [hT, tb_i_s]; exact (decide_eq_false hk2).symm)]
  · refine v_iconst C 34 dXT_dropEntry_33 rfl (nI 1) (by decide) ?_
    refine v_goto C 38 dXT_dropEntry_34 rfl ?_
    refine fin _ ?_
    have hk2 : en_k e = 2 := (nI_eq (by have := he.1; omega) (by decide)).mp hk
    have hw := tb_w_dec (T := T) (o := none) hs (by rw [hT, tb_i_s]; exact decide_eq_true hk2) rfl
    rw [pk_sub (by omega), hw, Nat.add_sub_cancel]
set_option maxHeartbeats 4000000 in
set_option maxRecDepth 100000 in
theorem c_T_covers (g : gx_T) {F : Nat → Prop} {M : mp_M} {a sl tier : Nat} {T : tb_T} (r c p : Nat) (hr : r < 16) (hc : c < 8) (hp : p ≤ 9999) (h : cw_t g F M a sl tier T) : Ct g yXT_covers cXT_covers 7 (some .boolean) 2 [.ref a, .int (nI r), .int (nI c), .int (nI p)] M (pi_ (fun v M' => M = M' ∧ v = bI (bo (tb_c T r c p)))) 0 0 := by
  refine ct_intro (L0 := [some (.ref a), some (.int (nI r)), some (.int (nI c)), some (.int (nI p)), none, none, none]) (by decide) (Nat.le_of_ble_eq_true rfl) rfl rfl (fun x C E I => ?_)
  obtain ⟨h1, h2, h3, h4, f, h5, h6⟩ := h
  have hwl := tb_w_le T
  have iff := tb_c_iff h3 (p := p) hr hc
  first | refine v_aload_n C 1 dXT_covers_0 rfl rfl ?_ | refine v_aload_nN C 1 dXT_covers_0 rfl rfl ?_ | refine v_aload_nQ C 1 dXT_covers_0 rfl rfl ?_
  refine gt_XT_24 C 4 dXT_covers_1 rfl h4 rfl ?_
  refine v_if_ne C 7 9 dXT_covers_4 rfl rfl (fun hw => ?_) (fun hw => ?_)
  · have out : (∀ f l, f ≤ c → c ≤ l → l < 8 → ¬ tb_cs T r p f l) → ∀ L4 L5 L6, VV g x M 0 0 71 [some (.ref a), some (.int (nI r)), some (.int (nI c)), some (.int (nI p)), L4, L5, L6] [] := by
      intro hno L4 L5 L6
      refine v_iconst C 72 dXT_covers_71 rfl (nI 0) (by decide) ?_
      refine v_zret C E dXT_covers_72 (by omega) (by omega) (Or.inl rfl) ⟨_, rfl, rfl, (bI_f (bo_f.mpr (fun z => by obtain ⟨f, l, a1, a2, a3, a4⟩ := iff.mp z; exact hno f l a1 a2 a3 a4))).symm⟩
    have inner : ∀ (n j i : Nat), i ≤ c → c ≤ j → j + n = 8 → (∀ l, c ≤ l → l < j → ¬ tb_cs T r p i l) → ((∀ l, c ≤ l → l < 8 → ¬ tb_cs T r p i l) → ∀ L5 L6, VV g x M 0 0 65 [some (.ref a), some (.int (nI r)), some (.int (nI c)), some (.int (nI p)), some (.int (nI i)), L5, L6] []) → ∀ L6, VV g x M 0 0 21 [some (.ref a), some (.int (nI r)), some (.int (nI c)), some (.int (nI p)), some (.int (nI i)), some (.int (nI j)), L6] [] := by
      intro n
      induction n with
      | zero =>
        intro j i hi hj hjn hno kk L6
        refine v_iload C 23 dXT_covers_21 rfl rfl ?_
        refine v_bipush C 25 dXT_covers_23 rfl (nI 8) (by decide) ?_
        refine v_icmp_ge C 28 65 dXT_covers_25 rfl rfl (fun h9 => ?_) (fun h9 => False.elim (by first | exact h9 (nI_le (show 8 ≤ j by omega) (by omega)) | exact (nI_le (show 8 ≤ j by omega) (by omega)) h9))
        exact kk (fun l a1 a2 => hno l a1 (by omega)) _ _
      | succ n ih =>
        intro j i hi hj hjn hno kk L6
        have hsl := (en_ws_lt (r := r) (c := i) (l := j) hr (by omega) (by omega)).2
        refine v_iload C 23 dXT_covers_21 rfl rfl ?_
        refine v_bipush C 25 dXT_covers_23 rfl (nI 8) (by decide) ?_
        refine v_icmp_ge C 28 65 dXT_covers_25 rfl rfl (fun h9 => False.elim (by first | exact h9 (nI_ge (show j < 8 by omega) (by decide)) | exact (nI_ge (show j < 8 by omega) (by decide)) h9)) (fun h9 => ?_)
        first | refine v_aload_n C 29 dXT_covers_28 rfl rfl ?_ | refine v_aload_nN C 29 dXT_covers_28 rfl rfl ?_ | refine v_aload_nQ C 29 dXT_covers_28 rfl rfl ?_
        refine gt_XT_17 C 32 dXT_covers_29 rfl h4 rfl ?_
        refine v_iload_n C 33 dXT_covers_32 rfl rfl ?_
        refine v_iload C 35 dXT_covers_33 rfl rfl ?_
        refine v_iload C 37 dXT_covers_35 rfl rfl ?_
        refine v_ri 40 (cl_XT_45 C ((c_S_wipeSlot g (M := M) r i j (by omega))) dXT_covers_37 rfl rfl (Nat.le_of_ble_eq_true rfl) (Nat.le_of_ble_eq_true rfl) (Nat.le_of_ble_eq_true rfl) (by omega) (by omega)) rfl (fun v M1 hv => ?_)
        obtain ⟨rfl, rfl⟩ := hv
        refine v_aald C 41 0 rfl dXT_covers_40 rfl h5 (en_ws r i j) rfl hsl (by decide) ?_
        first | refine v_astore C 43 _ dXT_covers_41 rfl (Nat.lt_of_lt_of_le (Nat.lt_succ_self _) (Nat.le_of_ble_eq_true rfl)) rfl ?_ | refine v_astoreN C 43 _ dXT_covers_41 rfl (Nat.lt_of_lt_of_le (Nat.lt_succ_self _) (Nat.le_of_ble_eq_true rfl)) rfl ?_ | refine v_astoreQ C 43 _ dXT_covers_41 rfl (Nat.lt_of_lt_of_le (Nat.lt_succ_self _) (Nat.le_of_ble_eq_true rfl)) rfl ?_
        first | refine v_aload C 45 dXT_covers_43 rfl rfl ?_ | refine v_aloadN C 45 dXT_covers_43 rfl rfl ?_ | refine v_aloadQ C 45 dXT_covers_43 rfl rfl ?_
        have nxt : ¬ tb_cs T r p i j → ∀ L6, VV g x M 0 0 59 [some (.ref a), some (.int (nI r)), some (.int (nI c)), some (.int (nI p)), some (.int (nI i)), some (.int (nI j)), L6] [] := by
          intro hn6 L6
          refine v_iinc C 62 _ (nI (j + 1)) dXT_covers_59 rfl rfl (nI_1 j) rfl ?_
          refine v_goto C 21 dXT_covers_62 rfl ?_
          refine ih (j + 1) i hi (by omega) (by omega) (fun l a1 a2 => ?_) kk L6
          by_cases hlj : l = j
          · rw [hlj]
            exact hn6
          · exact hno l a1 (by omega)
        refine v_ifnull C 48 59 dXT_covers_45 rfl rfl (fun hz => ?_) (fun b hb => ?_)
        · refine nxt ?_ _
          rintro ⟨e2, a1, -⟩
          rcases h6 _ hsl with ⟨-, z2⟩ | ⟨q2, e3, g1, -⟩
          · rw [z2] at a1
            cases a1
          · rw [hz] at g1
            cases g1
        · rcases h6 _ hsl with ⟨z1, -⟩ | ⟨q2, e2, g1, g2, g3⟩
          · rw [hb] at z1
            cases z1
          · cases hb.symm.trans g1
            rw [hb]
            first | refine v_aload C 50 dXT_covers_48 rfl rfl ?_ | refine v_aloadN C 50 dXT_covers_48 rfl rfl ?_ | refine v_aloadQ C 50 dXT_covers_48 rfl rfl ?_
            refine gt_XT_49 C 53 dXT_covers_50 rfl g3.2 rfl ?_
            refine v_iload_n C 54 dXT_covers_53 rfl rfl ?_
            have hk2 := (h3 _ _ g2).1.2.2.2.2.2.1
            refine v_icmp_lt C 57 59 dXT_covers_54 rfl rfl (fun hl => ?_) (fun hl => ?_)
            · refine nxt ?_ _
              rintro ⟨e4, a1, a2⟩
              cases g2.symm.trans a1
              rw [nI_ltI (by omega) (by omega)] at hl
              omega
            · refine v_iconst C 58 dXT_covers_57 rfl (nI 1) (by decide) ?_
              rw [nI_ltI (by omega) (by omega)] at hl
              refine v_zret C E dXT_covers_58 (by omega) (by omega) (Or.inr rfl) ⟨_, rfl, rfl, (bI_t (bo_t.mpr (iff.mpr ⟨i, j, hi, hj, by omega, e2, g2, by omega⟩))).symm⟩
    have outer : ∀ (n i : Nat), i + n = c + 1 → (∀ f l, f < i → c ≤ l → l < 8 → ¬ tb_cs T r p f l) → ∀ L5 L6, VV g x M 0 0 12 [some (.ref a), some (.int (nI r)), some (.int (nI c)), some (.int (nI p)), some (.int (nI i)), L5, L6] [] := by
      intro n
      induction n with
      | zero =>
        intro i hin hno L5 L6
        refine v_iload C 14 dXT_covers_12 rfl rfl ?_
        refine v_iload_n C 15 dXT_covers_14 rfl rfl ?_
        refine v_icmp_gt C 18 71 dXT_covers_15 rfl rfl (fun h9 => ?_) (fun h9 => False.elim (by first | exact h9 (nI_lt (show c < i by omega) (by omega)) | exact (nI_lt (show c < i by omega) (by omega)) h9))
        exact out (fun f l a1 a2 a3 => hno f l (by omega) a2 a3) _ _ _
      | succ n ih =>
        intro i hin hno L5 L6
        refine v_iload C 14 dXT_covers_12 rfl rfl ?_
        refine v_iload_n C 15 dXT_covers_14 rfl rfl ?_
        refine v_icmp_gt C 18 71 dXT_covers_15 rfl rfl (fun h9 => False.elim (by first | exact h9 (nI_nlt (show i ≤ c by omega) (by omega)) | exact (nI_nlt (show i ≤ c by omega) (by omega)) h9)) (fun h9 => ?_)
        refine v_iload_n C 19 dXT_covers_18 rfl rfl ?_
        refine v_istore C 21 _ dXT_covers_19 rfl (Nat.lt_of_lt_of_le (Nat.lt_succ_self _) (Nat.le_of_ble_eq_true rfl)) rfl ?_
        refine inner (8 - c) c i (by omega) (Nat.le_refl _) (by omega) (fun l a1 a2 => absurd a2 (by omega)) (fun hn5 L5 L6 => ?_) _
        refine v_iinc C 68 _ (nI (i + 1)) dXT_covers_65 rfl rfl (nI_1 i) rfl ?_
        refine v_goto C 12 dXT_covers_68 rfl ?_
        refine ih (i + 1) (by omega) (fun f l a1 a2 a3 => ?_) _ _
        by_cases hfi : f = i
        · rw [hfi]
          exact hn5 l a2 a3
        · exact hno f l (by omega) a2 a3
    refine v_iconst C 10 dXT_covers_9 rfl (nI 0) (by decide) ?_
    refine v_istore C 12 _ dXT_covers_10 rfl (Nat.lt_of_lt_of_le (Nat.lt_succ_self _) (Nat.le_of_ble_eq_true rfl)) rfl ?_
    exact outer (c + 1) 0 (by omega) (fun f l a1 => absurd a1 (Nat.not_lt_zero f)) _ _
  · refine v_iconst C 8 dXT_covers_7 rfl (nI 0) (by decide) ?_
    have hw0 : tb_w T = 0 := (nI_eq (a := tb_w T) (b := 0) (by omega) (by decide)).mp hw
    refine v_zret C E dXT_covers_8 (by omega) (by omega) (Or.inl rfl) ⟨_, rfl, rfl, (bI_f (bo_f.mpr (tb_c_0 h3 hw0))).symm⟩
set_option maxHeartbeats 4000000 in
set_option maxRecDepth 100000 in
theorem c_T_addWinners (g : gx_T) {F : Nat → Prop} {M : mp_M} {a sl tier b sl2 tier2 : Nat} {T U : tb_T} (h : cw_t g F M a sl tier T) (hU : cw_t g F M b sl2 tier2 U) (hab : b ≠ a) (hss : sl2 ≠ sl) : Ct g yXT_addWinners cXT_addWinners 3 none 3 [.ref a, .ref b] M (pv (fun M' => mp_k (fun y => y = a ∨ y = sl) M M' ∧ cw_t g F M' a sl tier (tb_m T U))) 0 0 := by
  refine ct_intro (L0 := [some (.ref a), some (.ref b), none]) (by decide) (Nat.le_of_ble_eq_true rfl) rfl rfl (fun x C E I => ?_)
  have hnE := nE_t h
  have hsa : sl2 ≠ a := by
    obtain ⟨-, -, -, b4, f2, b5, -⟩ := hU
    obtain ⟨-, -, -, c4, -⟩ := h
    exact fun z => ne_a c4 b5 z.symm
  have hbs : b ≠ sl := by
    obtain ⟨-, -, -, b4, -⟩ := hU
    obtain ⟨-, -, -, -, f1, c5, -⟩ := h
    exact ne_a b4 c5
  have loop : ∀ (n i : Nat) (M' : mp_M), i + n = 704 → mp_k (fun y => y = a ∨ y = sl) M M' → cw_t g F M' a sl tier (tb_mi T U i) → VV g x M' 0 0 2 [some (.ref a), some (.ref b), some (.int (nI i))] [] := by
    intro n
    induction n with
    | zero =>
      intro i M' hin hk ht
      have hi : i = 704 := by omega
      subst hi
      refine v_iload_n C 3 dXT_addWinners_2 rfl rfl ?_
      refine v_sipush C 6 dXT_addWinners_3 rfl (nI 704) (by decide) ?_
      refine v_icmp_ge C 9 34 dXT_addWinners_6 rfl rfl (fun h9 => ?_) (fun h9 => False.elim (by first | exact h9 (nI_le (Nat.le_refl 704) (by decide)) | exact (nI_le (Nat.le_refl 704) (by decide)) h9))
      refine v_vret C E dXT_addWinners_34 (by omega) (by omega) ⟨rfl, hk, by rw [← tb_mi_e h.2.2.1 hU.2.2.1]; exact ht⟩
    | succ n ih =>
      intro i M' hin hk ht
      obtain ⟨b1, b2, b3, b4, f2, b5, b6⟩ := hU.k hk hnE (fun z => z.elim hab hbs) (fun z => z.elim hsa hss)
      refine v_iload_n C 3 dXT_addWinners_2 rfl rfl ?_
      refine v_sipush C 6 dXT_addWinners_3 rfl (nI 704) (by decide) ?_
      refine v_icmp_ge C 9 34 dXT_addWinners_6 rfl rfl (fun h9 => False.elim (by first | exact h9 (nI_ge (show i < 704 by omega) (by decide)) | exact (nI_ge (show i < 704 by omega) (by decide)) h9)) (fun h9 => ?_)
      first | refine v_aload_n C 10 dXT_addWinners_9 rfl rfl ?_ | refine v_aload_nN C 10 dXT_addWinners_9 rfl rfl ?_ | refine v_aload_nQ C 10 dXT_addWinners_9 rfl rfl ?_
      refine gt_XT_17 C 13 dXT_addWinners_10 rfl b4 rfl ?_
      refine v_iload_n C 14 dXT_addWinners_13 rfl rfl ?_
      refine v_aald C 15 0 rfl dXT_addWinners_14 rfl b5 i rfl (by omega) (by decide) ?_
      refine v_ifnull C 18 28 dXT_addWinners_15 rfl rfl (fun hz => ?_) (fun q hq => ?_)
      · refine v_iinc C 31 _ (nI (i + 1)) dXT_addWinners_28 rfl rfl (nI_1 i) rfl ?_
        refine v_goto C 2 dXT_addWinners_31 rfl ?_
        refine ih (i + 1) M' (by omega) hk ?_
        rw [tb_mi_n]
        · exact ht
        · rcases b6 i (by omega) with ⟨-, z⟩ | ⟨q2, e2, g1, -⟩
          · exact z
          · rw [hz] at g1
            cases g1
      · rcases b6 i (by omega) with ⟨z, -⟩ | ⟨q2, e2, g1, g2, g3⟩
        · rw [hq] at z
          cases z
        · cases hq.symm.trans g1
          first | refine v_aload_n C 19 dXT_addWinners_18 rfl rfl ?_ | refine v_aload_nN C 19 dXT_addWinners_18 rfl rfl ?_ | refine v_aload_nQ C 19 dXT_addWinners_18 rfl rfl ?_
          first | refine v_aload_n C 20 dXT_addWinners_19 rfl rfl ?_ | refine v_aload_nN C 20 dXT_addWinners_19 rfl rfl ?_ | refine v_aload_nQ C 20 dXT_addWinners_19 rfl rfl ?_
          refine gt_XT_17 C 23 dXT_addWinners_20 rfl b4 rfl ?_
          refine v_iload_n C 24 dXT_addWinners_23 rfl rfl ?_
          refine v_aald C 25 0 rfl dXT_addWinners_24 rfl b5 i rfl (by omega) (by decide) ?_
          rw [hq]
          refine v_rv 28 (cl_XT_41 C ((c_T_addWinner g ht g3 (b3 _ _ g2).1)) ht.2.2.2.1 dXT_addWinners_25 rfl rfl (Nat.le_of_ble_eq_true rfl) (Nat.le_of_ble_eq_true rfl) (Nat.le_of_ble_eq_true rfl) (by omega) (by omega)) rfl (fun M2 hM2 => ?_)
          refine v_iinc C 31 _ (nI (i + 1)) dXT_addWinners_28 rfl rfl (nI_1 i) rfl ?_
          refine v_goto C 2 dXT_addWinners_31 rfl ?_
          refine ih (i + 1) M2 (by omega) (hk.tr hM2.1) ?_
          rw [← tb_mi_s g2 (b3 _ _ g2).2]
          exact hM2.2
  refine v_iconst C 1 dXT_addWinners_0 rfl (nI 0) (by decide) ?_
  refine v_istore_n C 2 _ dXT_addWinners_1 rfl (Nat.lt_of_lt_of_le (Nat.lt_succ_self _) (Nat.le_of_ble_eq_true rfl)) rfl ?_
  exact loop 704 0 M (by omega) mp_k.rf (by rw [tb_mi_0]; exact h)
set_option maxHeartbeats 4000000 in
set_option maxRecDepth 100000 in
theorem c_T_dropCovered (g : gx_T) {F : Nat → Prop} {M : mp_M} {a sl tier : Nat} {T : tb_T} (h : cw_t g F M a sl tier T) : Ct g yXT_dropCovered cXT_dropCovered 4 none 3 [.ref a] M (pv (fun M' => mp_k (fun y => y = a ∨ y = sl) M M' ∧ cw_t g F M' a sl tier (tb_d T))) 0 0 := by
  refine ct_intro (L0 := [some (.ref a), none, none, none]) (by decide) (Nat.le_of_ble_eq_true rfl) rfl rfl (fun x C E I => ?_)
  have inner : ∀ (n j i : Nat) (M' : mp_M), i < 16 → j + n = 8 → mp_k (fun y => y = a ∨ y = sl) M M' → cw_t g F M' a sl tier (tb_di T (i * 8 + j)) → (∀ M2 : mp_M, mp_k (fun y => y = a ∨ y = sl) M M2 → cw_t g F M2 a sl tier (tb_di T (i * 8 + 8)) → ∀ L2 L3, VV g x M2 0 0 51 [some (.ref a), some (.int (nI i)), L2, L3] []) → ∀ L3, VV g x M' 0 0 10 [some (.ref a), some (.int (nI i)), some (.int (nI j)), L3] [] := by
    intro n
    induction n with
    | zero =>
      intro j i M' hi hj hk ht kk L3
      have hj8 : j = 8 := by omega
      subst hj8
      refine v_iload_n C 11 dXT_dropCovered_10 rfl rfl ?_
      refine v_bipush C 13 dXT_dropCovered_11 rfl (nI 8) (by decide) ?_
      refine v_icmp_ge C 16 51 dXT_dropCovered_13 rfl rfl (fun h9 => ?_) (fun h9 => False.elim (by first | exact h9 (nI_le (Nat.le_refl 8) (by decide)) | exact (nI_le (Nat.le_refl 8) (by decide)) h9))
      exact kk M' hk ht _ _
    | succ n ih =>
      intro j i M' hi hj hk ht kk L3
      refine v_iload_n C 11 dXT_dropCovered_10 rfl rfl ?_
      refine v_bipush C 13 dXT_dropCovered_11 rfl (nI 8) (by decide) ?_
      refine v_icmp_ge C 16 51 dXT_dropCovered_13 rfl rfl (fun h9 => False.elim (by first | exact h9 (nI_ge (show j < 8 by omega) (by decide)) | exact (nI_ge (show j < 8 by omega) (by decide)) h9)) (fun h9 => ?_)
      first | refine v_aload_n C 17 dXT_dropCovered_16 rfl rfl ?_ | refine v_aload_nN C 17 dXT_dropCovered_16 rfl rfl ?_ | refine v_aload_nQ C 17 dXT_dropCovered_16 rfl rfl ?_
      refine v_iload_n C 18 dXT_dropCovered_17 rfl rfl ?_
      refine v_iload_n C 19 dXT_dropCovered_18 rfl rfl ?_
      refine v_rq 22 (cl_XT_52 C ((c_T_pointAt g i j hi (by omega) ht)) ht.2.2.2.1 dXT_dropCovered_19 rfl rfl (Nat.le_of_ble_eq_true rfl) (Nat.le_of_ble_eq_true rfl) (Nat.le_of_ble_eq_true rfl) (by omega) (by omega)) rfl (fun o M2 ho => ?_)
      obtain ⟨rfl, ho⟩ := ho
      first | refine v_astore_n C 23 _ dXT_dropCovered_22 rfl (Nat.lt_of_lt_of_le (Nat.lt_succ_self _) (Nat.le_of_ble_eq_true rfl)) rfl ?_ | refine v_astore_nN C 23 _ dXT_dropCovered_22 rfl (Nat.lt_of_lt_of_le (Nat.lt_succ_self _) (Nat.le_of_ble_eq_true rfl)) rfl ?_ | refine v_astore_nQ C 23 _ dXT_dropCovered_22 rfl (Nat.lt_of_lt_of_le (Nat.lt_succ_self _) (Nat.le_of_ble_eq_true rfl)) rfl ?_
      first | refine v_aload_n C 24 dXT_dropCovered_23 rfl rfl ?_ | refine v_aload_nN C 24 dXT_dropCovered_23 rfl rfl ?_ | refine v_aload_nQ C 24 dXT_dropCovered_23 rfl rfl ?_
      have nxt : ∀ M2 : mp_M, mp_k (fun y => y = a ∨ y = sl) M M2 → cw_t g F M2 a sl tier (tb_di T (i * 8 + (j + 1))) → ∀ L3, VV g x M2 0 0 45 [some (.ref a), some (.int (nI i)), some (.int (nI j)), L3] [] := by
        intro M2 hk2 ht2 L3
        refine v_iinc C 48 _ (nI (j + 1)) dXT_dropCovered_45 rfl rfl (nI_1 j) rfl ?_
        refine v_goto C 10 dXT_dropCovered_48 rfl ?_
        exact ih (j + 1) i M2 hi (by omega) hk2 ht2 kk _
      have hcur : tb_di T (i * 8 + j) (i * 8 + j) = T (i * 8 + j) := tb_di_i
      refine v_ifnull C 27 45 dXT_dropCovered_24 rfl rfl (fun hz => ?_) (fun q hq => ?_)
      · refine nxt M' hk ?_ _
        rw [← Nat.add_assoc, tb_di_n]
        · exact ht
        · rcases ho with ⟨-, z⟩ | ⟨q2, e2, g1, -⟩
          · rw [hcur] at z
            unfold tb_d
            rw [z]
          · rw [hz] at g1
            cases g1
      · rcases ho with ⟨z, -⟩ | ⟨q2, e2, g1, g2, g3⟩
        · rw [hq] at z
          cases z
        · cases hq.symm.trans g1
          rw [hq]
          rw [hcur] at g2
          obtain ⟨ok2, s2⟩ := h.2.2.1 _ _ g2
          have hk2 : en_k e2 ≠ 2 := (en_s_128 ok2).mp (by omega)
          have hrc : en_r e2 = i ∧ en_c e2 = j := by
            rw [en_s_p hk2] at s2
            have l2 := ok2.2.2.2.2.1 hk2
            have l3 := ok2.2.2.2.1
            have l4 := ok2.2.2.1
            omega
          first | refine v_aload_n C 28 dXT_dropCovered_27 rfl rfl ?_ | refine v_aload_nN C 28 dXT_dropCovered_27 rfl rfl ?_ | refine v_aload_nQ C 28 dXT_dropCovered_27 rfl rfl ?_
          refine v_iload_n C 29 dXT_dropCovered_28 rfl rfl ?_
          refine v_iload_n C 30 dXT_dropCovered_29 rfl rfl ?_
          first | refine v_aload_n C 31 dXT_dropCovered_30 rfl rfl ?_ | refine v_aload_nN C 31 dXT_dropCovered_30 rfl rfl ?_ | refine v_aload_nQ C 31 dXT_dropCovered_30 rfl rfl ?_
          refine gt_XT_49 C 34 dXT_dropCovered_31 rfl g3.2 rfl ?_
          refine v_ri 37 (cl_XT_56 C ((c_T_covers g i j (en_p e2) hi (by omega) ok2.2.2.2.2.2.1 ht)) ht.2.2.2.1 dXT_dropCovered_34 rfl rfl (Nat.le_of_ble_eq_true rfl) (Nat.le_of_ble_eq_true rfl) (Nat.le_of_ble_eq_true rfl) (by omega) (by omega)) rfl (fun v M2 hv => ?_)
          obtain ⟨rfl, rfl⟩ := hv
          refine v_if_eq C 40 45 dXT_dropCovered_37 rfl rfl (fun hv => ?_) (fun hv => ?_)
          · refine nxt M' hk ?_ _
            rw [bI_0, bo_f, tb_di_c] at hv
            rw [← Nat.add_assoc, tb_di_n]
            · exact ht
            · unfold tb_d
              rw [g2]
              simp only
              rw [if_neg]
              intro z
              have z2 := (bo_t.mp z).2
              rw [hrc.1, hrc.2] at z2
              exact hv z2
          · first | refine v_aload_n C 41 dXT_dropCovered_40 rfl rfl ?_ | refine v_aload_nN C 41 dXT_dropCovered_40 rfl rfl ?_ | refine v_aload_nQ C 41 dXT_dropCovered_40 rfl rfl ?_
            first | refine v_aload_n C 42 dXT_dropCovered_41 rfl rfl ?_ | refine v_aload_nN C 42 dXT_dropCovered_41 rfl rfl ?_ | refine v_aload_nQ C 42 dXT_dropCovered_41 rfl rfl ?_
            refine v_rv 45 (cl_XT_60 C ((c_T_dropEntry g ht g3 (by rw [s2, hcur]; exact g2))) ht.2.2.2.1 dXT_dropCovered_42 rfl rfl (Nat.le_of_ble_eq_true rfl) (Nat.le_of_ble_eq_true rfl) (Nat.le_of_ble_eq_true rfl) (by omega) (by omega)) rfl (fun M2 hM2 => ?_)
            refine nxt M2 (hk.tr hM2.1) ?_ _
            have hv2 : tb_c T i j (en_p e2) := by
              have : ¬ bo (tb_c (tb_di T (i * 8 + j)) i j (en_p e2)) = false := fun z => hv (bI_0.mpr z)
              rw [bo_f, tb_di_c] at this
              exact Classical.byContradiction this
            rw [← Nat.add_assoc, ← tb_di_d]
            · rw [← s2]
              rw [← s2] at hM2
              exact hM2.2
            · unfold tb_d
              rw [g2]
              simp only
              rw [if_pos (bo_t.mpr ⟨hk2, by rw [hrc.1, hrc.2]; exact hv2⟩)]
  have outer : ∀ (n i : Nat) (M' : mp_M), i + n = 16 → mp_k (fun y => y = a ∨ y = sl) M M' → cw_t g F M' a sl tier (tb_di T (i * 8)) → ∀ L2 L3, VV g x M' 0 0 2 [some (.ref a), some (.int (nI i)), L2, L3] [] := by
    intro n
    induction n with
    | zero =>
      intro i M' hin hk ht L2 L3
      have hi : i = 16 := by omega
      subst hi
      refine v_iload_n C 3 dXT_dropCovered_2 rfl rfl ?_
      refine v_bipush C 5 dXT_dropCovered_3 rfl (nI 16) (by decide) ?_
      refine v_icmp_ge C 8 57 dXT_dropCovered_5 rfl rfl (fun h9 => ?_) (fun h9 => False.elim (by first | exact h9 (nI_le (Nat.le_refl 16) (by decide)) | exact (nI_le (Nat.le_refl 16) (by decide)) h9))
      refine v_vret C E dXT_dropCovered_57 (by omega) (by omega) ⟨rfl, hk, by rw [← tb_di_e h.2.2.1]; exact ht⟩
    | succ n ih =>
      intro i M' hin hk ht L2 L3
      refine v_iload_n C 3 dXT_dropCovered_2 rfl rfl ?_
      refine v_bipush C 5 dXT_dropCovered_3 rfl (nI 16) (by decide) ?_
      refine v_icmp_ge C 8 57 dXT_dropCovered_5 rfl rfl (fun h9 => False.elim (by first | exact h9 (nI_ge (show i < 16 by omega) (by decide)) | exact (nI_ge (show i < 16 by omega) (by decide)) h9)) (fun h9 => ?_)
      refine v_iconst C 9 dXT_dropCovered_8 rfl (nI 0) (by decide) ?_
      refine v_istore_n C 10 _ dXT_dropCovered_9 rfl (Nat.lt_of_lt_of_le (Nat.lt_succ_self _) (Nat.le_of_ble_eq_true rfl)) rfl ?_
      refine inner 8 0 i M' (by omega) (by omega) hk (by rw [Nat.add_zero]; exact ht) (fun M2 hk2 ht2 L2 L3 => ?_) _
      refine v_iinc C 54 _ (nI (i + 1)) dXT_dropCovered_51 rfl rfl (nI_1 i) rfl ?_
      refine v_goto C 2 dXT_dropCovered_54 rfl ?_
      exact ih (i + 1) M2 (by omega) hk2 (by rw [show (i + 1) * 8 = i * 8 + 8 by omega]; exact ht2) _ _
  refine v_iconst C 1 dXT_dropCovered_0 rfl (nI 0) (by decide) ?_
  refine v_istore_n C 2 _ dXT_dropCovered_1 rfl (Nat.lt_of_lt_of_le (Nat.lt_succ_self _) (Nat.le_of_ble_eq_true rfl)) rfl ?_
  exact outer 16 0 M (by omega) mp_k.rf (by rw [Nat.zero_mul, tb_di_0]; exact h) _ _
set_option maxHeartbeats 4000000 in
set_option maxRecDepth 100000 in
theorem c_T_dropOld (g : gx_T) {F : Nat → Prop} {M : mp_M} {a sl tier : Nat} {T : tb_T} (now grace : Nat) (hnow : now ≤ 100000) (hgr : grace ≤ 100) (h : cw_t g F M a sl tier T) : Ct g yXT_dropOld cXT_dropOld 5 none 3 [.ref a, .int (nI now), .int (nI grace)] M (pv (fun M' => mp_k (fun y => y = a ∨ y = sl) M M' ∧ cw_t g F M' a sl tier (tb_o now grace T))) 0 0 := by
  refine ct_intro (L0 := [some (.ref a), some (.int (nI now)), some (.int (nI grace)), none, none]) (by decide) (Nat.le_of_ble_eq_true rfl) rfl rfl (fun x C E I => ?_)
  have loop : ∀ (n i : Nat) (M' : mp_M), i + n = 704 → mp_k (fun y => y = a ∨ y = sl) M M' → cw_t g F M' a sl tier (tb_oi now grace T i) → ∀ L4, VV g x M' 0 0 2 [some (.ref a), some (.int (nI now)), some (.int (nI grace)), some (.int (nI i)), L4] [] := by
    intro n
    induction n with
    | zero =>
      intro i M' hin hk ht L4
      have hi : i = 704 := by omega
      subst hi
      refine v_iload_n C 3 dXT_dropOld_2 rfl rfl ?_
      refine v_sipush C 6 dXT_dropOld_3 rfl (nI 704) (by decide) ?_
      refine v_icmp_ge C 9 45 dXT_dropOld_6 rfl rfl (fun h9 => ?_) (fun h9 => False.elim (by first | exact h9 (nI_le (Nat.le_refl 704) (by decide)) | exact (nI_le (Nat.le_refl 704) (by decide)) h9))
      refine v_vret C E dXT_dropOld_45 (by omega) (by omega) ⟨rfl, hk, by rw [← tb_oi_e h.2.2.1]; exact ht⟩
    | succ n ih =>
      intro i M' hin hk ht L4
      have hcur : tb_oi now grace T i i = T i := tb_oi_i
      have nxt : ∀ M2 : mp_M, mp_k (fun y => y = a ∨ y = sl) M M2 → cw_t g F M2 a sl tier (tb_oi now grace T (i + 1)) → ∀ L4, VV g x M2 0 0 39 [some (.ref a), some (.int (nI now)), some (.int (nI grace)), some (.int (nI i)), L4] [] := by
        intro M2 hk2 ht2 L4
        refine v_iinc C 42 _ (nI (i + 1)) dXT_dropOld_39 rfl rfl (nI_1 i) rfl ?_
        refine v_goto C 2 dXT_dropOld_42 rfl ?_
        exact ih (i + 1) M2 (by omega) hk2 ht2 _
      obtain ⟨b1, b2, b3, b4, f2, b5, b6⟩ := id ht
      refine v_iload_n C 3 dXT_dropOld_2 rfl rfl ?_
      refine v_sipush C 6 dXT_dropOld_3 rfl (nI 704) (by decide) ?_
      refine v_icmp_ge C 9 45 dXT_dropOld_6 rfl rfl (fun h9 => False.elim (by first | exact h9 (nI_ge (show i < 704 by omega) (by decide)) | exact (nI_ge (show i < 704 by omega) (by decide)) h9)) (fun h9 => ?_)
      first | refine v_aload_n C 10 dXT_dropOld_9 rfl rfl ?_ | refine v_aload_nN C 10 dXT_dropOld_9 rfl rfl ?_ | refine v_aload_nQ C 10 dXT_dropOld_9 rfl rfl ?_
      refine gt_XT_17 C 13 dXT_dropOld_10 rfl b4 rfl ?_
      refine v_iload_n C 14 dXT_dropOld_13 rfl rfl ?_
      refine v_aald C 15 0 rfl dXT_dropOld_14 rfl b5 i rfl (by omega) (by decide) ?_
      first | refine v_astore C 17 _ dXT_dropOld_15 rfl (Nat.lt_of_lt_of_le (Nat.lt_succ_self _) (Nat.le_of_ble_eq_true rfl)) rfl ?_ | refine v_astoreN C 17 _ dXT_dropOld_15 rfl (Nat.lt_of_lt_of_le (Nat.lt_succ_self _) (Nat.le_of_ble_eq_true rfl)) rfl ?_ | refine v_astoreQ C 17 _ dXT_dropOld_15 rfl (Nat.lt_of_lt_of_le (Nat.lt_succ_self _) (Nat.le_of_ble_eq_true rfl)) rfl ?_
      first | refine v_aload C 19 dXT_dropOld_17 rfl rfl ?_ | refine v_aloadN C 19 dXT_dropOld_17 rfl rfl ?_ | refine v_aloadQ C 19 dXT_dropOld_17 rfl rfl ?_
      refine v_ifnull C 22 39 dXT_dropOld_19 rfl rfl (fun hz => ?_) (fun q hq => ?_)
      · refine nxt M' hk ?_ _
        rw [tb_oi_n]
        · exact ht
        · rcases b6 i (by omega) with ⟨-, z⟩ | ⟨q2, e2, g1, -⟩
          · rw [hcur] at z
            unfold tb_o
            rw [z]
          · rw [hz] at g1
            cases g1
      · rcases b6 i (by omega) with ⟨z, -⟩ | ⟨q2, e2, g1, g2, g3⟩
        · rw [hq] at z
          cases z
        · cases hq.symm.trans g1
          rw [hq]
          have g2' := g2
          rw [hcur] at g2'
          obtain ⟨ok2, s2⟩ := h.2.2.1 _ _ g2'
          refine v_iload_n C 23 dXT_dropOld_22 rfl rfl ?_
          first | refine v_aload C 25 dXT_dropOld_23 rfl rfl ?_ | refine v_aloadN C 25 dXT_dropOld_23 rfl rfl ?_ | refine v_aloadQ C 25 dXT_dropOld_23 rfl rfl ?_
          refine gt_XT_63 C 28 dXT_dropOld_25 rfl g3.2 rfl ?_
          refine v_isub C 29 dXT_dropOld_28 rfl ?_
          refine v_iload_n C 30 dXT_dropOld_29 rfl rfl ?_
          have key := old_iff (now := now) (t := en_t e2) (grace := grace) hnow (by have := ok2.2.2.2.2.2.2.2; omega) hgr
          refine v_icmp_lt C 33 39 dXT_dropOld_30 rfl rfl (fun hv => ?_) (fun hv => ?_)
          · refine nxt M' hk ?_ _
            rw [tb_oi_n]
            · exact ht
            · unfold tb_o
              rw [g2']
              simp only
              rw [if_neg (key.mp hv)]
          · first | refine v_aload_n C 34 dXT_dropOld_33 rfl rfl ?_ | refine v_aload_nN C 34 dXT_dropOld_33 rfl rfl ?_ | refine v_aload_nQ C 34 dXT_dropOld_33 rfl rfl ?_
            first | refine v_aload C 36 dXT_dropOld_34 rfl rfl ?_ | refine v_aloadN C 36 dXT_dropOld_34 rfl rfl ?_ | refine v_aloadQ C 36 dXT_dropOld_34 rfl rfl ?_
            refine v_rv 39 (cl_XT_60 C ((c_T_dropEntry g ht g3 (by rw [s2]; exact g2))) ht.2.2.2.1 dXT_dropOld_36 rfl rfl (Nat.le_of_ble_eq_true rfl) (Nat.le_of_ble_eq_true rfl) (Nat.le_of_ble_eq_true rfl) (by omega) (by omega)) rfl (fun M2 hM2 => ?_)
            refine nxt M2 (hk.tr hM2.1) ?_ _
            rw [← tb_oi_d]
            · rw [s2] at hM2
              exact hM2.2
            · unfold tb_o
              rw [g2']
              simp only
              rw [if_pos (Classical.byContradiction fun z => hv (key.mpr z))]
  refine v_iconst C 1 dXT_dropOld_0 rfl (nI 0) (by decide) ?_
  refine v_istore_n C 2 _ dXT_dropOld_1 rfl (Nat.lt_of_lt_of_le (Nat.lt_succ_self _) (Nat.le_of_ble_eq_true rfl)) rfl ?_
  exact loop 704 0 M (by omega) mp_k.rf (by rw [tb_oi_0]; exact h) _
set_option maxHeartbeats 4000000 in
set_option maxRecDepth 100000 in
theorem c_T_clearSlots (g : gx_T) {F : Nat → Prop} {M : mp_M} {a sl tier : Nat} {T : tb_T} (h : cw_t g F M a sl tier T) : Ct g yXT_clearSlots cXT_clearSlots 2 none 1 [.ref a] M (pv (fun M' => mp_k (fun y => y = a ∨ y = sl) M M' ∧ cw_t g F M' a sl tier tb_0)) 0 0 := by
  refine ct_intro (L0 := [some (.ref a), none]) (by decide) (Nat.le_of_ble_eq_true rfl) rfl rfl (fun x C E I => ?_)
  obtain ⟨h1, h2, h3, h4, f, h5, h6⟩ := h
  have has : a ≠ sl := ne_a h4 h5
  have loop : ∀ (n i : Nat) (f' : Nat → Option Nat), i + n = 704 → (∀ s, s < i → f' s = none) → VV g x (mp_u M sl (ar_q (gx_E g) 704 f')) 0 0 2 [some (.ref a), some (.int (nI i))] [] := by
    intro n
    induction n with
    | zero =>
      intro i f' hin hf
      have hi : i = 704 := by omega
      subst hi
      refine v_iload_n C 3 dXT_clearSlots_2 rfl rfl ?_
      refine v_sipush C 6 dXT_clearSlots_3 rfl (nI 704) (by decide) ?_
      refine v_icmp_ge C 9 22 dXT_clearSlots_6 rfl rfl (fun h9 => ?_) (fun h9 => False.elim (by first | exact h9 (nI_le (Nat.le_refl 704) (by decide)) | exact (nI_le (Nat.le_refl 704) (by decide)) h9))
      first | refine v_aload_n C 23 dXT_clearSlots_22 rfl rfl ?_ | refine v_aload_nN C 23 dXT_clearSlots_22 rfl rfl ?_ | refine v_aload_nQ C 23 dXT_clearSlots_22 rfl rfl ?_
      refine v_iconst C 24 dXT_clearSlots_23 rfl (nI 0) (by decide) ?_
      refine pt_XT_21 C 27 dXT_clearSlots_24 rfl rfl rfl ((mp_un has).trans h4) (Nat.lt_of_lt_of_le (Nat.lt_succ_self _) (Nat.le_of_ble_eq_true rfl)) [.int (nI tier), .ref sl, .int (nI 0), .int (nI (tb_w T))] rfl ?_
      first | refine v_aload_n C 28 dXT_clearSlots_27 rfl rfl ?_ | refine v_aload_nN C 28 dXT_clearSlots_27 rfl rfl ?_ | refine v_aload_nQ C 28 dXT_clearSlots_27 rfl rfl ?_
      refine v_iconst C 29 dXT_clearSlots_28 rfl (nI 0) (by decide) ?_
      refine pt_XT_24 C 32 dXT_clearSlots_29 rfl rfl rfl mp_us (Nat.lt_of_lt_of_le (Nat.lt_succ_self _) (Nat.le_of_ble_eq_true rfl)) [.int (nI tier), .ref sl, .int (nI 0), .int (nI 0)] rfl ?_
      refine v_vret C E dXT_clearSlots_32 (by omega) (by omega) ⟨rfl, ?_, ?_⟩
      · rw [mp_uu]
        exact cw_t_kp
      · rw [mp_uu]
        have := cw_t_up (tier := tier) (T' := tb_0) (f' := f') h1 h2 h4 h5 tb_ok_0 (fun s hs => Or.inl ⟨hf s hs, rfl⟩)
        rw [ob_T0] at this
        exact this
    | succ n ih =>
      intro i f' hin hf
      refine v_iload_n C 3 dXT_clearSlots_2 rfl rfl ?_
      refine v_sipush C 6 dXT_clearSlots_3 rfl (nI 704) (by decide) ?_
      refine v_icmp_ge C 9 22 dXT_clearSlots_6 rfl rfl (fun h9 => False.elim (by first | exact h9 (nI_ge (show i < 704 by omega) (by decide)) | exact (nI_ge (show i < 704 by omega) (by decide)) h9)) (fun h9 => ?_)
      first | refine v_aload_n C 10 dXT_clearSlots_9 rfl rfl ?_ | refine v_aload_nN C 10 dXT_clearSlots_9 rfl rfl ?_ | refine v_aload_nQ C 10 dXT_clearSlots_9 rfl rfl ?_
      refine gt_XT_17 C 13 dXT_clearSlots_10 rfl ((mp_un has).trans h4) rfl ?_
      refine v_iload_n C 14 dXT_clearSlots_13 rfl rfl ?_
      refine v_null C 15 dXT_clearSlots_14 rfl ?_
      refine v_aastN C 16 0 rfl dXT_clearSlots_15 rfl mp_us i rfl (by omega) (by decide) ?_
      refine v_iinc C 19 _ (nI (i + 1)) dXT_clearSlots_16 rfl rfl (nI_1 i) rfl ?_
      refine v_goto C 2 dXT_clearSlots_19 rfl ?_
      rw [mp_uu]
      refine ih (i + 1) _ (by omega) (fun s hs => ?_)
      by_cases hsi : s = i
      · rw [hsi, va_up_self]
      · rw [va_up_ne _ _ hsi]
        exact hf s (by omega)
  refine v_iconst C 1 dXT_clearSlots_0 rfl (nI 0) (by decide) ?_
  refine v_istore_n C 2 _ dXT_clearSlots_1 rfl (Nat.lt_of_lt_of_le (Nat.lt_succ_self _) (Nat.le_of_ble_eq_true rfl)) rfl ?_
  have hM : mp_u M sl (ar_q (gx_E g) 704 f) = M := mp_same h5
  rw [← hM]
  exact loop 704 0 f (by omega) (fun s hs => absurd hs (Nat.not_lt_zero s))
end
section
def tw (t : Nat) : Int32 := if t = 2147483647 then -1 else nI t
def rw_e (f : Nat → Int32) (p : Nat) (e : en_E) : Prop := f p = nI (en_k e) ∧ f (p + 1) = nI (en_r e) ∧ f (p + 2) = nI (en_c e) ∧ f (p + 3) = nI (en_l e) ∧ f (p + 4) = nI (en_p e) ∧ f (p + 5) = en_v e ∧ f (p + 6) = tw (en_t e)
theorem tw_n {e : en_E} (h : en_ok e) : (tw (en_t e) < 0 ↔ en_t e = 2147483647) := by
  unfold tw
  have := h.2.2.2.2.2.2.2
  by_cases ht : en_t e = 2147483647
  · rw [if_pos ht]
    exact ⟨fun _ => ht, fun _ => by decide⟩
  · rw [if_neg ht]
    exact ⟨fun z => absurd z (nI_pos (by omega)), fun z => absurd z ht⟩
theorem tw_lt {e f : en_E} (h : en_ok e) (h2 : en_ok f) (he : en_t e ≠ 2147483647) (hf : en_t f ≠ 2147483647) : (tw (en_t f) < tw (en_t e) ↔ en_t f < en_t e) := by
  have a1 := h.2.2.2.2.2.2.2
  have a2 := h2.2.2.2.2.2.2.2
  unfold tw
  rw [if_neg he, if_neg hf]
  exact nI_ltI (by omega) (by omega)
set_option maxHeartbeats 4000000 in
set_option maxRecDepth 100000 in
theorem c_M_point (g : gx_T) {M : mp_M} {a n p : Nat} {f : Nat → Int32} {e : en_E} (hM : M a = some (ar_i (gx_I g) n f)) (hn : n < 2 ^ 31) (hp : p < n) (he : rw_e f p e) (ok : en_ok e) : Ct g yXM_point cXM_point 2 (some .boolean) 1 [.ref a, .int (nI p)] M (pi_ (fun v M' => M = M' ∧ v = bI (decide (en_k e ≠ 2)))) 0 0 := by
  refine ct_intro (L0 := [some (.ref a), some (.int (nI p))]) (by decide) (Nat.le_of_ble_eq_true rfl) rfl rfl (fun x C E I => ?_)
  have hk2 := ok.1
  first | refine v_aload_n C 1 dXM_point_0 rfl rfl ?_ | refine v_aload_nN C 1 dXM_point_0 rfl rfl ?_ | refine v_aload_nQ C 1 dXM_point_0 rfl rfl ?_
  refine v_iload_n C 2 dXM_point_1 rfl rfl ?_
  refine v_iald C 3 dXM_point_2 rfl hM p rfl hp hn ?_
  rw [he.1]
  refine v_iconst C 4 dXM_point_3 rfl (nI 2) (by decide) ?_
  refine v_icmp_eq C 7 11 dXM_point_4 rfl rfl (fun h => ?_) (fun h => ?_)
  · refine v_iconst C 12 dXM_point_11 rfl (nI 0) (by decide) ?_
    refine v_zret C E dXM_point_12 (by omega) (by omega) (Or.inl rfl) ⟨_, rfl, rfl, (bI_f (decide_eq_false (fun z => z ((nI_eq (by omega) (by decide)).mp h)))).symm⟩
  · refine v_iconst C 8 dXM_point_7 rfl (nI 1) (by decide) ?_
    refine v_goto C 12 dXM_point_8 rfl ?_
    refine v_zret C E dXM_point_12 (by omega) (by omega) (Or.inr rfl) ⟨_, rfl, rfl, (bI_t (decide_eq_true (show en_k e ≠ 2 from fun z => h (by rw [z])))).symm⟩
set_option maxHeartbeats 4000000 in
set_option maxRecDepth 100000 in
theorem c_M_alike (g : gx_T) {M : mp_M} {a n p b n2 q : Nat} {f f2 : Nat → Int32} {e e2 : en_E} (hM : M a = some (ar_i (gx_I g) n f)) (hM2 : M b = some (ar_i (gx_I g) n2 f2)) (hn : n < 2 ^ 31) (hn2 : n2 < 2 ^ 31) (hp : p + 6 < n) (hq : q + 6 < n2) (he : rw_e f p e) (he2 : rw_e f2 q e2) (ok : en_ok e) (ok2 : en_ok e2) : Ct g yXM_alike cXM_alike 5 (some .boolean) 2 [.ref a, .int (nI p), .ref b, .int (nI q)] M (pi_ (fun v M' => M = M' ∧ v = bI (decide (en_s e = en_s e2)))) 0 0 := by
  refine ct_intro (L0 := [some (.ref a), some (.int (nI p)), some (.ref b), some (.int (nI q)), none]) (by decide) (Nat.le_of_ble_eq_true rfl) rfl rfl (fun x C E I => ?_)
  have inj := fun z => en_s_inj ok ok2 z
  have o1 := ok.2.1
  have o2 := ok2.2.1
  have o3 := ok.2.2.1
  have o4 := ok2.2.2.1
  have o5 := ok.2.2.2.1
  have o6 := ok2.2.2.2.1
  have fin0 : en_s e ≠ en_s e2 → ∀ L4, VV g x M 0 0 76 [some (.ref a), some (.int (nI p)), some (.ref b), some (.int (nI q)), L4] [] := by
    intro hne L4
    refine v_iconst C 77 dXM_alike_76 rfl (nI 0) (by decide) ?_
    refine v_zret C E dXM_alike_77 (by omega) (by omega) (Or.inl rfl) ⟨_, rfl, rfl, (bI_f (decide_eq_false hne)).symm⟩
  have fin1 : en_s e = en_s e2 → ∀ L4, VV g x M 0 0 72 [some (.ref a), some (.int (nI p)), some (.ref b), some (.int (nI q)), L4] [] := by
    intro hne L4
    refine v_iconst C 73 dXM_alike_72 rfl (nI 1) (by decide) ?_
    refine v_goto C 77 dXM_alike_73 rfl ?_
    refine v_zret C E dXM_alike_77 (by omega) (by omega) (Or.inr rfl) ⟨_, rfl, rfl, (bI_t (decide_eq_true hne)).symm⟩
  have no : en_s e ≠ en_s e2 → VV g x M 0 0 30 [some (.ref a), some (.int (nI p)), some (.ref b), some (.int (nI q)), none] [] := by
    intro hne
    refine v_iconst C 31 dXM_alike_30 rfl (nI 0) (by decide) ?_
    refine v_istore C 33 _ dXM_alike_31 rfl (Nat.lt_of_lt_of_le (Nat.lt_succ_self _) (Nat.le_of_ble_eq_true rfl)) rfl ?_
    refine v_iload C 35 dXM_alike_33 rfl rfl ?_
    refine v_if_eq C 38 76 dXM_alike_35 rfl rfl (fun h9 => ?_) (fun h9 => False.elim (by first | exact h9 (rfl) | exact absurd h9 (rfl)))
    exact fin0 hne _
  first | refine v_aload_n C 1 dXM_alike_0 rfl rfl ?_ | refine v_aload_nN C 1 dXM_alike_0 rfl rfl ?_ | refine v_aload_nQ C 1 dXM_alike_0 rfl rfl ?_
  refine v_iload_n C 2 dXM_alike_1 rfl rfl ?_
  refine v_iconst C 3 dXM_alike_2 rfl (nI 1) (by decide) ?_
  refine v_iadd C 4 dXM_alike_3 rfl ?_
  refine v_iald C 5 dXM_alike_4 rfl hM (p + 1) (nI_add p 1) (by omega) hn ?_
  first | refine v_aload_n C 6 dXM_alike_5 rfl rfl ?_ | refine v_aload_nN C 6 dXM_alike_5 rfl rfl ?_ | refine v_aload_nQ C 6 dXM_alike_5 rfl rfl ?_
  refine v_iload_n C 7 dXM_alike_6 rfl rfl ?_
  refine v_iconst C 8 dXM_alike_7 rfl (nI 1) (by decide) ?_
  refine v_iadd C 9 dXM_alike_8 rfl ?_
  refine v_iald C 10 dXM_alike_9 rfl hM2 (q + 1) (nI_add q 1) (by omega) hn2 ?_
  rw [he.2.1, he2.2.1]
  refine v_icmp_ne C 13 30 dXM_alike_10 rfl rfl (fun h1 => ?_) (fun h1 => ?_)
  · exact no (fun z => h1 (by rw [(inj z).2.1]))
  · first | refine v_aload_n C 14 dXM_alike_13 rfl rfl ?_ | refine v_aload_nN C 14 dXM_alike_13 rfl rfl ?_ | refine v_aload_nQ C 14 dXM_alike_13 rfl rfl ?_
    refine v_iload_n C 15 dXM_alike_14 rfl rfl ?_
    refine v_iconst C 16 dXM_alike_15 rfl (nI 2) (by decide) ?_
    refine v_iadd C 17 dXM_alike_16 rfl ?_
    refine v_iald C 18 dXM_alike_17 rfl hM (p + 2) (nI_add p 2) (by omega) hn ?_
    first | refine v_aload_n C 19 dXM_alike_18 rfl rfl ?_ | refine v_aload_nN C 19 dXM_alike_18 rfl rfl ?_ | refine v_aload_nQ C 19 dXM_alike_18 rfl rfl ?_
    refine v_iload_n C 20 dXM_alike_19 rfl rfl ?_
    refine v_iconst C 21 dXM_alike_20 rfl (nI 2) (by decide) ?_
    refine v_iadd C 22 dXM_alike_21 rfl ?_
    refine v_iald C 23 dXM_alike_22 rfl hM2 (q + 2) (nI_add q 2) (by omega) hn2 ?_
    rw [he.2.2.1, he2.2.2.1]
    refine v_icmp_ne C 26 30 dXM_alike_23 rfl rfl (fun h2 => ?_) (fun h2 => ?_)
    · exact no (fun z => h2 (by rw [(inj z).2.2.1]))
    · rw [nI_eq (by omega) (by omega)] at h1 h2
      refine v_iconst C 27 dXM_alike_26 rfl (nI 1) (by decide) ?_
      refine v_goto C 31 dXM_alike_27 rfl ?_
      refine v_istore C 33 _ dXM_alike_31 rfl (Nat.lt_of_lt_of_le (Nat.lt_succ_self _) (Nat.le_of_ble_eq_true rfl)) rfl ?_
      refine v_iload C 35 dXM_alike_33 rfl rfl ?_
      refine v_if_eq C 38 76 dXM_alike_35 rfl rfl (fun h9 => False.elim (by first | exact h9 ((by decide)) | exact absurd h9 ((by decide)))) (fun h9 => ?_)
      first | refine v_aload_n C 39 dXM_alike_38 rfl rfl ?_ | refine v_aload_nN C 39 dXM_alike_38 rfl rfl ?_ | refine v_aload_nQ C 39 dXM_alike_38 rfl rfl ?_
      refine v_iload_n C 40 dXM_alike_39 rfl rfl ?_
      refine v_ri 43 (cl_XM_38 C ((c_M_point g hM hn (by omega) he ok)) dXM_alike_40 rfl rfl (Nat.le_of_ble_eq_true rfl) (Nat.le_of_ble_eq_true rfl) (Nat.le_of_ble_eq_true rfl) (by omega) (by omega)) rfl (fun v M1 hv => ?_)
      obtain ⟨rfl, rfl⟩ := hv
      first | refine v_aload_n C 44 dXM_alike_43 rfl rfl ?_ | refine v_aload_nN C 44 dXM_alike_43 rfl rfl ?_ | refine v_aload_nQ C 44 dXM_alike_43 rfl rfl ?_
      refine v_iload_n C 45 dXM_alike_44 rfl rfl ?_
      refine v_ri 48 (cl_XM_38 C ((c_M_point g hM2 hn2 (by omega) he2 ok2)) dXM_alike_45 rfl rfl (Nat.le_of_ble_eq_true rfl) (Nat.le_of_ble_eq_true rfl) (Nat.le_of_ble_eq_true rfl) (by omega) (by omega)) rfl (fun v M1 hv => ?_)
      obtain ⟨rfl, rfl⟩ := hv
      refine v_icmp_ne C 51 76 dXM_alike_48 rfl rfl (fun h3 => ?_) (fun h3 => ?_)
      · refine fin0 (fun z => h3 ?_) _
        have := (inj z).1
        rw [show decide (en_k e ≠ 2) = decide (en_k e2 ≠ 2) from decide_eq_decide.mpr (not_congr this)]
      · first | refine v_aload_n C 52 dXM_alike_51 rfl rfl ?_ | refine v_aload_nN C 52 dXM_alike_51 rfl rfl ?_ | refine v_aload_nQ C 52 dXM_alike_51 rfl rfl ?_
        refine v_iload_n C 53 dXM_alike_52 rfl rfl ?_
        refine v_ri 56 (cl_XM_38 C ((c_M_point g hM hn (by omega) he ok)) dXM_alike_53 rfl rfl (Nat.le_of_ble_eq_true rfl) (Nat.le_of_ble_eq_true rfl) (Nat.le_of_ble_eq_true rfl) (by omega) (by omega)) rfl (fun v M1 hv => ?_)
        obtain ⟨rfl, rfl⟩ := hv
        have hkk : en_k e = 2 ↔ en_k e2 = 2 := by
          have h4 : decide (en_k e ≠ 2) = decide (en_k e2 ≠ 2) := by
            cases z1 : decide (en_k e ≠ 2) <;> cases z2 : decide (en_k e2 ≠ 2) <;> rw [z1, z2] at h3 <;> first | rfl | exact absurd h3 (by decide)
          have h5 := decide_eq_decide.mp h4
          constructor
          · intro z
            exact Classical.byContradiction fun y => (h5.mpr y) z
          · intro z
            exact Classical.byContradiction fun y => (h5.mp y) z
        refine v_if_ne C 59 72 dXM_alike_56 rfl rfl (fun h4 => ?_) (fun h4 => ?_)
        · have hk : en_k e ≠ 2 := by
            intro z
            exact h4 (bI_f (decide_eq_false (fun y => y z)))
          refine fin1 ?_ _
          rw [en_s_p hk, en_s_p (fun z => hk (hkk.mpr z)), h1, h2]
        · have hk : en_k e = 2 := by
            rw [bI_0] at h4
            exact Classical.byContradiction (of_decide_eq_false h4)
          first | refine v_aload_n C 60 dXM_alike_59 rfl rfl ?_ | refine v_aload_nN C 60 dXM_alike_59 rfl rfl ?_ | refine v_aload_nQ C 60 dXM_alike_59 rfl rfl ?_
          refine v_iload_n C 61 dXM_alike_60 rfl rfl ?_
          refine v_iconst C 62 dXM_alike_61 rfl (nI 3) (by decide) ?_
          refine v_iadd C 63 dXM_alike_62 rfl ?_
          refine v_iald C 64 dXM_alike_63 rfl hM (p + 3) (nI_add p 3) (by omega) hn ?_
          first | refine v_aload_n C 65 dXM_alike_64 rfl rfl ?_ | refine v_aload_nN C 65 dXM_alike_64 rfl rfl ?_ | refine v_aload_nQ C 65 dXM_alike_64 rfl rfl ?_
          refine v_iload_n C 66 dXM_alike_65 rfl rfl ?_
          refine v_iconst C 67 dXM_alike_66 rfl (nI 3) (by decide) ?_
          refine v_iadd C 68 dXM_alike_67 rfl ?_
          refine v_iald C 69 dXM_alike_68 rfl hM2 (q + 3) (nI_add q 3) (by omega) hn2 ?_
          rw [he.2.2.2.1, he2.2.2.2.1]
          refine v_icmp_ne C 72 76 dXM_alike_69 rfl rfl (fun h5 => ?_) (fun h5 => ?_)
          · exact fin0 (fun z => h5 (by rw [(inj z).2.2.2])) _
          · refine fin1 ?_ _
            rw [nI_eq (by omega) (by omega)] at h5
            rw [en_s_w hk, en_s_w (hkk.mp hk), h1, h2, h5]
set_option maxHeartbeats 4000000 in
set_option maxRecDepth 100000 in
theorem c_M_wins (g : gx_T) {M : mp_M} {a n p b n2 q : Nat} {f f2 : Nat → Int32} {e e2 : en_E} (hM : M a = some (ar_i (gx_I g) n f)) (hM2 : M b = some (ar_i (gx_I g) n2 f2)) (hn : n < 2 ^ 31) (hn2 : n2 < 2 ^ 31) (hp : p + 6 < n) (hq : q + 6 < n2) (he : rw_e f p e) (he2 : rw_e f2 q e2) (ok : en_ok e) (ok2 : en_ok e2) (hs : en_s e = en_s e2) : Ct g yXM_wins cXM_wins 4 (some .boolean) 1 [.ref a, .int (nI p), .ref b, .int (nI q)] M (pi_ (fun v M' => M = M' ∧ v = bI (en_w e e2))) 0 0 := by
  refine ct_intro (L0 := [some (.ref a), some (.int (nI p)), some (.ref b), some (.int (nI q))]) (by decide) (Nat.le_of_ble_eq_true rfl) rfl rfl (fun x C E I => ?_)
  obtain ⟨inj, -, -, -⟩ := en_s_inj ok ok2 hs
  have o1 := ok.1
  have o2 := ok2.1
  have o3 := ok.2.2.2.2.2.1
  have o4 := ok2.2.2.2.2.2.1
  have o5 := ok.2.2.2.2.2.2.1
  have o6 := ok2.2.2.2.2.2.2.1
  have o7 := ok.2.2.2.2.2.2.2
  have o8 := ok2.2.2.2.2.2.2.2
  have t1 := tw_n ok
  have t2 := tw_n ok2
  have one : en_w e e2 = true → (1 : Int32) = bI (en_w e e2) := fun h => (bI_t h).symm
  have nul : en_w e e2 = false → (0 : Int32) = bI (en_w e e2) := fun h => (bI_f h).symm
  first | refine v_aload_n C 1 dXM_wins_0 rfl rfl ?_ | refine v_aload_nN C 1 dXM_wins_0 rfl rfl ?_ | refine v_aload_nQ C 1 dXM_wins_0 rfl rfl ?_
  refine v_iload_n C 2 dXM_wins_1 rfl rfl ?_
  refine v_iconst C 3 dXM_wins_2 rfl (nI 4) (by decide) ?_
  refine v_iadd C 4 dXM_wins_3 rfl ?_
  refine v_iald C 5 dXM_wins_4 rfl hM (p + 4) (nI_add p 4) (by omega) hn ?_
  first | refine v_aload_n C 6 dXM_wins_5 rfl rfl ?_ | refine v_aload_nN C 6 dXM_wins_5 rfl rfl ?_ | refine v_aload_nQ C 6 dXM_wins_5 rfl rfl ?_
  refine v_iload_n C 7 dXM_wins_6 rfl rfl ?_
  refine v_iconst C 8 dXM_wins_7 rfl (nI 4) (by decide) ?_
  refine v_iadd C 9 dXM_wins_8 rfl ?_
  refine v_iald C 10 dXM_wins_9 rfl hM2 (q + 4) (nI_add q 4) (by omega) hn2 ?_
  rw [he.2.2.2.2.1, he2.2.2.2.2.1]
  refine v_icmp_eq C 13 32 dXM_wins_10 rfl rfl (fun h1 => ?_) (fun h1 => ?_)
  · rw [nI_eq (by omega) (by omega)] at h1
    first | refine v_aload_n C 33 dXM_wins_32 rfl rfl ?_ | refine v_aload_nN C 33 dXM_wins_32 rfl rfl ?_ | refine v_aload_nQ C 33 dXM_wins_32 rfl rfl ?_
    refine v_iload_n C 34 dXM_wins_33 rfl rfl ?_
    refine v_iald C 35 dXM_wins_34 rfl hM p rfl (by omega) hn ?_
    first | refine v_aload_n C 36 dXM_wins_35 rfl rfl ?_ | refine v_aload_nN C 36 dXM_wins_35 rfl rfl ?_ | refine v_aload_nQ C 36 dXM_wins_35 rfl rfl ?_
    refine v_iload_n C 37 dXM_wins_36 rfl rfl ?_
    refine v_iald C 38 dXM_wins_37 rfl hM2 q rfl (by omega) hn2 ?_
    rw [he.1, he2.1]
    refine v_icmp_eq C 41 54 dXM_wins_38 rfl rfl (fun h2 => ?_) (fun h2 => ?_)
    · rw [nI_eq (by omega) (by omega)] at h2
      first | refine v_aload_n C 55 dXM_wins_54 rfl rfl ?_ | refine v_aload_nN C 55 dXM_wins_54 rfl rfl ?_ | refine v_aload_nQ C 55 dXM_wins_54 rfl rfl ?_
      refine v_iload_n C 56 dXM_wins_55 rfl rfl ?_
      refine v_iald C 57 dXM_wins_56 rfl hM p rfl (by omega) hn ?_
      rw [he.1]
      have rest : (en_k e = 0 → en_v e = en_v e2) → VV g x M 0 0 92 [some (.ref a), some (.int (nI p)), some (.ref b), some (.int (nI q))] [] := by
        intro hv
        have hvv : (en_v e).toInt = (en_v e2).toInt := by
          by_cases z : en_k e = 0
          · rw [hv z]
          · rw [o5 z, o6 (by omega)]
        have wt : en_w e e2 = true ↔ en_t e2 < en_t e := by
          rw [en_w_t]
          omega
        have wf : en_w e e2 = false ↔ ¬ en_t e2 < en_t e := by
          rw [en_w_f]
          omega
        have last : en_t e ≠ 2147483647 → en_t e2 ≠ 2147483647 → VV g x M 0 0 140 [some (.ref a), some (.int (nI p)), some (.ref b), some (.int (nI q))] [] := by
          intro n1 n2
          have hlt := tw_lt ok ok2 n1 n2
          first | refine v_aload_n C 141 dXM_wins_140 rfl rfl ?_ | refine v_aload_nN C 141 dXM_wins_140 rfl rfl ?_ | refine v_aload_nQ C 141 dXM_wins_140 rfl rfl ?_
          refine v_iload_n C 142 dXM_wins_141 rfl rfl ?_
          refine v_bipush C 144 dXM_wins_142 rfl (nI 6) (by decide) ?_
          refine v_iadd C 145 dXM_wins_144 rfl ?_
          refine v_iald C 146 dXM_wins_145 rfl hM (p + 6) (nI_add p 6) (by omega) hn ?_
          first | refine v_aload_n C 147 dXM_wins_146 rfl rfl ?_ | refine v_aload_nN C 147 dXM_wins_146 rfl rfl ?_ | refine v_aload_nQ C 147 dXM_wins_146 rfl rfl ?_
          refine v_iload_n C 148 dXM_wins_147 rfl rfl ?_
          refine v_bipush C 150 dXM_wins_148 rfl (nI 6) (by decide) ?_
          refine v_iadd C 151 dXM_wins_150 rfl ?_
          refine v_iald C 152 dXM_wins_151 rfl hM2 (q + 6) (nI_add q 6) (by omega) hn2 ?_
          rw [he.2.2.2.2.2.2, he2.2.2.2.2.2.2]
          refine v_icmp_le C 155 159 dXM_wins_152 rfl rfl (fun h3 => ?_) (fun h3 => ?_)
          · refine v_iconst C 160 dXM_wins_159 rfl (nI 0) (by decide) ?_
            refine v_zret C E dXM_wins_160 (by omega) (by omega) (Or.inl rfl) ⟨_, rfl, rfl, nul (wf.mpr (fun z => absurd (hlt.mpr z) (Int32.not_lt.mpr h3)))⟩
          · refine v_iconst C 156 dXM_wins_155 rfl (nI 1) (by decide) ?_
            refine v_goto C 160 dXM_wins_156 rfl ?_
            refine v_zret C E dXM_wins_160 (by omega) (by omega) (Or.inr rfl) ⟨_, rfl, rfl, one (wt.mpr (hlt.mp (Int32.not_le.mp h3)))⟩
        first | refine v_aload_n C 93 dXM_wins_92 rfl rfl ?_ | refine v_aload_nN C 93 dXM_wins_92 rfl rfl ?_ | refine v_aload_nQ C 93 dXM_wins_92 rfl rfl ?_
        refine v_iload_n C 94 dXM_wins_93 rfl rfl ?_
        refine v_iald C 95 dXM_wins_94 rfl hM p rfl (by omega) hn ?_
        rw [he.1]
        refine v_if_ne C 98 140 dXM_wins_95 rfl rfl (fun h3 => ?_) (fun h3 => ?_)
        · have hk0 : en_k e ≠ 0 := fun z => h3 (by rw [z]; rfl)
          exact last (by omega) (by omega)
        · first | refine v_aload_n C 99 dXM_wins_98 rfl rfl ?_ | refine v_aload_nN C 99 dXM_wins_98 rfl rfl ?_ | refine v_aload_nQ C 99 dXM_wins_98 rfl rfl ?_
          refine v_iload_n C 100 dXM_wins_99 rfl rfl ?_
          refine v_bipush C 102 dXM_wins_100 rfl (nI 6) (by decide) ?_
          refine v_iadd C 103 dXM_wins_102 rfl ?_
          refine v_iald C 104 dXM_wins_103 rfl hM (p + 6) (nI_add p 6) (by omega) hn ?_
          rw [he.2.2.2.2.2.2]
          have both : (en_t e = 2147483647 ∨ en_t e2 = 2147483647) → VV g x M 0 0 116 [some (.ref a), some (.int (nI p)), some (.ref b), some (.int (nI q))] [] := by
            intro hor
            first | refine v_aload_n C 117 dXM_wins_116 rfl rfl ?_ | refine v_aload_nN C 117 dXM_wins_116 rfl rfl ?_ | refine v_aload_nQ C 117 dXM_wins_116 rfl rfl ?_
            refine v_iload_n C 118 dXM_wins_117 rfl rfl ?_
            refine v_bipush C 120 dXM_wins_118 rfl (nI 6) (by decide) ?_
            refine v_iadd C 121 dXM_wins_120 rfl ?_
            refine v_iald C 122 dXM_wins_121 rfl hM (p + 6) (nI_add p 6) (by omega) hn ?_
            rw [he.2.2.2.2.2.2]
            refine v_if_ge C 125 138 dXM_wins_122 rfl rfl (fun h5 => ?_) (fun h5 => ?_)
            · refine v_iconst C 139 dXM_wins_138 rfl (nI 0) (by decide) ?_
              have : ¬ en_t e = 2147483647 := fun z => absurd (t1.mpr z) (Int32.not_lt.mpr h5)
              refine v_zret C E dXM_wins_139 (by omega) (by omega) (Or.inl rfl) ⟨_, rfl, rfl, nul (wf.mpr (by omega))⟩
            · first | refine v_aload_n C 126 dXM_wins_125 rfl rfl ?_ | refine v_aload_nN C 126 dXM_wins_125 rfl rfl ?_ | refine v_aload_nQ C 126 dXM_wins_125 rfl rfl ?_
              refine v_iload_n C 127 dXM_wins_126 rfl rfl ?_
              refine v_bipush C 129 dXM_wins_127 rfl (nI 6) (by decide) ?_
              refine v_iadd C 130 dXM_wins_129 rfl ?_
              refine v_iald C 131 dXM_wins_130 rfl hM2 (q + 6) (nI_add q 6) (by omega) hn2 ?_
              rw [he2.2.2.2.2.2.2]
              have h5' := t1.mp (Int32.not_le.mp h5)
              refine v_if_lt C 134 138 dXM_wins_131 rfl rfl (fun h6 => ?_) (fun h6 => ?_)
              · refine v_iconst C 139 dXM_wins_138 rfl (nI 0) (by decide) ?_
                have := t2.mp h6
                refine v_zret C E dXM_wins_139 (by omega) (by omega) (Or.inl rfl) ⟨_, rfl, rfl, nul (wf.mpr (by omega))⟩
              · refine v_iconst C 135 dXM_wins_134 rfl (nI 1) (by decide) ?_
                refine v_goto C 139 dXM_wins_135 rfl ?_
                have : ¬ en_t e2 = 2147483647 := fun z => h6 (t2.mpr z)
                refine v_zret C E dXM_wins_139 (by omega) (by omega) (Or.inr rfl) ⟨_, rfl, rfl, one (wt.mpr (by omega))⟩
          refine v_if_lt C 107 116 dXM_wins_104 rfl rfl (fun h4 => ?_) (fun h4 => ?_)
          · exact both (Or.inl (t1.mp h4))
          · first | refine v_aload_n C 108 dXM_wins_107 rfl rfl ?_ | refine v_aload_nN C 108 dXM_wins_107 rfl rfl ?_ | refine v_aload_nQ C 108 dXM_wins_107 rfl rfl ?_
            refine v_iload_n C 109 dXM_wins_108 rfl rfl ?_
            refine v_bipush C 111 dXM_wins_109 rfl (nI 6) (by decide) ?_
            refine v_iadd C 112 dXM_wins_111 rfl ?_
            refine v_iald C 113 dXM_wins_112 rfl hM2 (q + 6) (nI_add q 6) (by omega) hn2 ?_
            rw [he2.2.2.2.2.2.2]
            refine v_if_ge C 116 140 dXM_wins_113 rfl rfl (fun h5 => ?_) (fun h5 => ?_)
            · exact last (fun z => h4 (t1.mpr z)) (fun z => absurd (t2.mpr z) (Int32.not_lt.mpr h5))
            · exact both (Or.inr (t2.mp (Int32.not_le.mp h5)))
      refine v_if_ne C 60 92 dXM_wins_57 rfl rfl (fun h3 => ?_) (fun h3 => ?_)
      · exact rest (fun z => absurd (by rw [z]; rfl) h3)
      · have hk0 : en_k e = 0 := (nI_eq (a := en_k e) (b := 0) (by omega) (by decide)).mp h3
        first | refine v_aload_n C 61 dXM_wins_60 rfl rfl ?_ | refine v_aload_nN C 61 dXM_wins_60 rfl rfl ?_ | refine v_aload_nQ C 61 dXM_wins_60 rfl rfl ?_
        refine v_iload_n C 62 dXM_wins_61 rfl rfl ?_
        refine v_iconst C 63 dXM_wins_62 rfl (nI 5) (by decide) ?_
        refine v_iadd C 64 dXM_wins_63 rfl ?_
        refine v_iald C 65 dXM_wins_64 rfl hM (p + 5) (nI_add p 5) (by omega) hn ?_
        first | refine v_aload_n C 66 dXM_wins_65 rfl rfl ?_ | refine v_aload_nN C 66 dXM_wins_65 rfl rfl ?_ | refine v_aload_nQ C 66 dXM_wins_65 rfl rfl ?_
        refine v_iload_n C 67 dXM_wins_66 rfl rfl ?_
        refine v_iconst C 68 dXM_wins_67 rfl (nI 5) (by decide) ?_
        refine v_iadd C 69 dXM_wins_68 rfl ?_
        refine v_iald C 70 dXM_wins_69 rfl hM2 (q + 5) (nI_add q 5) (by omega) hn2 ?_
        rw [he.2.2.2.2.2.1, he2.2.2.2.2.2.1]
        refine v_icmp_eq C 73 92 dXM_wins_70 rfl rfl (fun h4 => ?_) (fun h4 => ?_)
        · exact rest (fun _ => h4)
        · have hvn : (en_v e).toInt ≠ (en_v e2).toInt := fun z => h4 (Int32.toInt_inj.mp z)
          first | refine v_aload_n C 74 dXM_wins_73 rfl rfl ?_ | refine v_aload_nN C 74 dXM_wins_73 rfl rfl ?_ | refine v_aload_nQ C 74 dXM_wins_73 rfl rfl ?_
          refine v_iload_n C 75 dXM_wins_74 rfl rfl ?_
          refine v_iconst C 76 dXM_wins_75 rfl (nI 5) (by decide) ?_
          refine v_iadd C 77 dXM_wins_76 rfl ?_
          refine v_iald C 78 dXM_wins_77 rfl hM (p + 5) (nI_add p 5) (by omega) hn ?_
          first | refine v_aload_n C 79 dXM_wins_78 rfl rfl ?_ | refine v_aload_nN C 79 dXM_wins_78 rfl rfl ?_ | refine v_aload_nQ C 79 dXM_wins_78 rfl rfl ?_
          refine v_iload_n C 80 dXM_wins_79 rfl rfl ?_
          refine v_iconst C 81 dXM_wins_80 rfl (nI 5) (by decide) ?_
          refine v_iadd C 82 dXM_wins_81 rfl ?_
          refine v_iald C 83 dXM_wins_82 rfl hM2 (q + 5) (nI_add q 5) (by omega) hn2 ?_
          rw [he.2.2.2.2.2.1, he2.2.2.2.2.2.1]
          refine v_icmp_le C 86 90 dXM_wins_83 rfl rfl (fun h5 => ?_) (fun h5 => ?_)
          · refine v_iconst C 91 dXM_wins_90 rfl (nI 0) (by decide) ?_
            rw [Int32.le_iff_toInt_le] at h5
            refine v_zret C E dXM_wins_91 (by omega) (by omega) (Or.inl rfl) ⟨_, rfl, rfl, nul (en_w_f.mpr (by omega))⟩
          · refine v_iconst C 87 dXM_wins_86 rfl (nI 1) (by decide) ?_
            refine v_goto C 91 dXM_wins_87 rfl ?_
            rw [Int32.le_iff_toInt_le] at h5
            refine v_zret C E dXM_wins_91 (by omega) (by omega) (Or.inr rfl) ⟨_, rfl, rfl, one (en_w_t.mpr (by omega))⟩
    · rw [nI_eq (by omega) (by omega)] at h2
      first | refine v_aload_n C 42 dXM_wins_41 rfl rfl ?_ | refine v_aload_nN C 42 dXM_wins_41 rfl rfl ?_ | refine v_aload_nQ C 42 dXM_wins_41 rfl rfl ?_
      refine v_iload_n C 43 dXM_wins_42 rfl rfl ?_
      refine v_iald C 44 dXM_wins_43 rfl hM p rfl (by omega) hn ?_
      rw [he.1]
      refine v_iconst C 45 dXM_wins_44 rfl (nI 1) (by decide) ?_
      refine v_icmp_ne C 48 52 dXM_wins_45 rfl rfl (fun h3 => ?_) (fun h3 => ?_)
      · refine v_iconst C 53 dXM_wins_52 rfl (nI 0) (by decide) ?_
        have hk1 : en_k e ≠ 1 := fun z => h3 (by rw [z])
        refine v_zret C E dXM_wins_53 (by omega) (by omega) (Or.inl rfl) ⟨_, rfl, rfl, nul (en_w_f.mpr (by omega))⟩
      · refine v_iconst C 49 dXM_wins_48 rfl (nI 1) (by decide) ?_
        refine v_goto C 53 dXM_wins_49 rfl ?_
        rw [nI_eq (by omega) (by omega)] at h3
        refine v_zret C E dXM_wins_53 (by omega) (by omega) (Or.inr rfl) ⟨_, rfl, rfl, one (en_w_t.mpr (by omega))⟩
  · rw [nI_eq (by omega) (by omega)] at h1
    first | refine v_aload_n C 14 dXM_wins_13 rfl rfl ?_ | refine v_aload_nN C 14 dXM_wins_13 rfl rfl ?_ | refine v_aload_nQ C 14 dXM_wins_13 rfl rfl ?_
    refine v_iload_n C 15 dXM_wins_14 rfl rfl ?_
    refine v_iconst C 16 dXM_wins_15 rfl (nI 4) (by decide) ?_
    refine v_iadd C 17 dXM_wins_16 rfl ?_
    refine v_iald C 18 dXM_wins_17 rfl hM (p + 4) (nI_add p 4) (by omega) hn ?_
    first | refine v_aload_n C 19 dXM_wins_18 rfl rfl ?_ | refine v_aload_nN C 19 dXM_wins_18 rfl rfl ?_ | refine v_aload_nQ C 19 dXM_wins_18 rfl rfl ?_
    refine v_iload_n C 20 dXM_wins_19 rfl rfl ?_
    refine v_iconst C 21 dXM_wins_20 rfl (nI 4) (by decide) ?_
    refine v_iadd C 22 dXM_wins_21 rfl ?_
    refine v_iald C 23 dXM_wins_22 rfl hM2 (q + 4) (nI_add q 4) (by omega) hn2 ?_
    rw [he.2.2.2.2.1, he2.2.2.2.2.1]
    refine v_icmp_le C 26 30 dXM_wins_23 rfl rfl (fun h2 => ?_) (fun h2 => ?_)
    · refine v_iconst C 31 dXM_wins_30 rfl (nI 0) (by decide) ?_
      rw [nI_leI (by omega) (by omega)] at h2
      refine v_zret C E dXM_wins_31 (by omega) (by omega) (Or.inl rfl) ⟨_, rfl, rfl, nul (en_w_f.mpr (by omega))⟩
    · refine v_iconst C 27 dXM_wins_26 rfl (nI 1) (by decide) ?_
      refine v_goto C 31 dXM_wins_27 rfl ?_
      rw [nI_leI (by omega) (by omega)] at h2
      refine v_zret C E dXM_wins_31 (by omega) (by omega) (Or.inr rfl) ⟨_, rfl, rfl, one (en_w_t.mpr (by omega))⟩
def en_cv (e : en_E) (r c p : Nat) : Prop := en_k e = 2 ∧ en_r e = r ∧ en_c e ≤ c ∧ c ≤ en_l e ∧ p ≤ en_p e
set_option maxHeartbeats 4000000 in
set_option maxRecDepth 100000 in
theorem c_M_covers (g : gx_T) {M : mp_M} {a n p : Nat} {f : Nat → Int32} {e : en_E} (hM : M a = some (ar_i (gx_I g) n f)) (hn : n < 2 ^ 31) (hp : p + 6 < n) (he : rw_e f p e) (ok : en_ok e) (r c st : Nat) (hr : r < 16) (hc : c < 8) (hst : st ≤ 9999) : Ct g yXM_covers cXM_covers 5 (some .boolean) 1 [.ref a, .int (nI p), .int (nI r), .int (nI c), .int (nI st)] M (pi_ (fun v M' => M = M' ∧ v = bI (bo (en_cv e r c st)))) 0 0 := by
  refine ct_intro (L0 := [some (.ref a), some (.int (nI p)), some (.int (nI r)), some (.int (nI c)), some (.int (nI st))]) (by decide) (Nat.le_of_ble_eq_true rfl) rfl rfl (fun x C E I => ?_)
  have o1 := ok.1
  have o2 := ok.2.1
  have o3 := ok.2.2.1
  have o4 := ok.2.2.2.1
  have o5 := ok.2.2.2.2.2.1
  have z0 : ¬ en_cv e r c st → VV g x M 0 0 48 [some (.ref a), some (.int (nI p)), some (.int (nI r)), some (.int (nI c)), some (.int (nI st))] [] := by
    intro hno
    refine v_iconst C 49 dXM_covers_48 rfl (nI 0) (by decide) ?_
    refine v_zret C E dXM_covers_49 (by omega) (by omega) (Or.inl rfl) ⟨_, rfl, rfl, (bI_f (bo_f.mpr hno)).symm⟩
  first | refine v_aload_n C 1 dXM_covers_0 rfl rfl ?_ | refine v_aload_nN C 1 dXM_covers_0 rfl rfl ?_ | refine v_aload_nQ C 1 dXM_covers_0 rfl rfl ?_
  refine v_iload_n C 2 dXM_covers_1 rfl rfl ?_
  refine v_iald C 3 dXM_covers_2 rfl hM p rfl (by omega) hn ?_
  rw [he.1]
  refine v_iconst C 4 dXM_covers_3 rfl (nI 2) (by decide) ?_
  refine v_icmp_ne C 7 48 dXM_covers_4 rfl rfl (fun h1 => ?_) (fun h1 => ?_)
  · exact z0 (fun z => h1 (by rw [z.1]))
  · rw [nI_eq (by omega) (by omega)] at h1
    first | refine v_aload_n C 8 dXM_covers_7 rfl rfl ?_ | refine v_aload_nN C 8 dXM_covers_7 rfl rfl ?_ | refine v_aload_nQ C 8 dXM_covers_7 rfl rfl ?_
    refine v_iload_n C 9 dXM_covers_8 rfl rfl ?_
    refine v_iconst C 10 dXM_covers_9 rfl (nI 1) (by decide) ?_
    refine v_iadd C 11 dXM_covers_10 rfl ?_
    refine v_iald C 12 dXM_covers_11 rfl hM (p + 1) (nI_add p 1) (by omega) hn ?_
    rw [he.2.1]
    refine v_iload_n C 13 dXM_covers_12 rfl rfl ?_
    refine v_icmp_ne C 16 48 dXM_covers_13 rfl rfl (fun h2 => ?_) (fun h2 => ?_)
    · exact z0 (fun z => h2 (by rw [z.2.1]))
    · rw [nI_eq (by omega) (by omega)] at h2
      first | refine v_aload_n C 17 dXM_covers_16 rfl rfl ?_ | refine v_aload_nN C 17 dXM_covers_16 rfl rfl ?_ | refine v_aload_nQ C 17 dXM_covers_16 rfl rfl ?_
      refine v_iload_n C 18 dXM_covers_17 rfl rfl ?_
      refine v_iconst C 19 dXM_covers_18 rfl (nI 2) (by decide) ?_
      refine v_iadd C 20 dXM_covers_19 rfl ?_
      refine v_iald C 21 dXM_covers_20 rfl hM (p + 2) (nI_add p 2) (by omega) hn ?_
      rw [he.2.2.1]
      refine v_iload_n C 22 dXM_covers_21 rfl rfl ?_
      refine v_icmp_gt C 25 48 dXM_covers_22 rfl rfl (fun h3 => ?_) (fun h3 => ?_)
      · rw [nI_ltI (by omega) (by omega)] at h3
        exact z0 (fun z => by have := z.2.2.1; omega)
      · rw [nI_ltI (by omega) (by omega)] at h3
        refine v_iload_n C 26 dXM_covers_25 rfl rfl ?_
        first | refine v_aload_n C 27 dXM_covers_26 rfl rfl ?_ | refine v_aload_nN C 27 dXM_covers_26 rfl rfl ?_ | refine v_aload_nQ C 27 dXM_covers_26 rfl rfl ?_
        refine v_iload_n C 28 dXM_covers_27 rfl rfl ?_
        refine v_iconst C 29 dXM_covers_28 rfl (nI 3) (by decide) ?_
        refine v_iadd C 30 dXM_covers_29 rfl ?_
        refine v_iald C 31 dXM_covers_30 rfl hM (p + 3) (nI_add p 3) (by omega) hn ?_
        rw [he.2.2.2.1]
        refine v_icmp_gt C 34 48 dXM_covers_31 rfl rfl (fun h4 => ?_) (fun h4 => ?_)
        · rw [nI_ltI (by omega) (by omega)] at h4
          exact z0 (fun z => by have := z.2.2.2.1; omega)
        · rw [nI_ltI (by omega) (by omega)] at h4
          refine v_iload C 36 dXM_covers_34 rfl rfl ?_
          first | refine v_aload_n C 37 dXM_covers_36 rfl rfl ?_ | refine v_aload_nN C 37 dXM_covers_36 rfl rfl ?_ | refine v_aload_nQ C 37 dXM_covers_36 rfl rfl ?_
          refine v_iload_n C 38 dXM_covers_37 rfl rfl ?_
          refine v_iconst C 39 dXM_covers_38 rfl (nI 4) (by decide) ?_
          refine v_iadd C 40 dXM_covers_39 rfl ?_
          refine v_iald C 41 dXM_covers_40 rfl hM (p + 4) (nI_add p 4) (by omega) hn ?_
          rw [he.2.2.2.2.1]
          refine v_icmp_gt C 44 48 dXM_covers_41 rfl rfl (fun h5 => ?_) (fun h5 => ?_)
          · rw [nI_ltI (by omega) (by omega)] at h5
            exact z0 (fun z => by have := z.2.2.2.2; omega)
          · rw [nI_ltI (by omega) (by omega)] at h5
            refine v_iconst C 45 dXM_covers_44 rfl (nI 1) (by decide) ?_
            refine v_goto C 49 dXM_covers_45 rfl ?_
            refine v_zret C E dXM_covers_49 (by omega) (by omega) (Or.inr rfl) ⟨_, rfl, rfl, (bI_t (bo_t.mpr ⟨h1, h2, by omega, by omega, by omega⟩)).symm⟩
def cp7 (f f2 : Nat → Int32) (p q n : Nat) : Nat → Int32 := fun j => if q ≤ j ∧ j < q + n then f (p + (j - q)) else f2 j
theorem cp7_0 {f f2 : Nat → Int32} {p q : Nat} : cp7 f f2 p q 0 = f2 := by
  funext j
  exact if_neg (by omega)
theorem cp7_s {f f2 : Nat → Int32} {p q n : Nat} : upd (cp7 f f2 p q n) (q + n) (f (p + n)) = cp7 f f2 p q (n + 1) := by
  funext j
  unfold upd cp7
  by_cases h : j = q + n
  · subst h
    rw [if_pos rfl, if_pos (by omega), Nat.add_sub_cancel_left]
  · rw [if_neg h]
    by_cases h2 : q ≤ j ∧ j < q + n
    · rw [if_pos h2, if_pos (by omega)]
    · rw [if_neg h2, if_neg (by omega)]
theorem cp7_e {f f2 : Nat → Int32} {p q : Nat} {e : en_E} (h : rw_e f p e) : rw_e (cp7 f f2 p q 7) q e := by
  have k : ∀ i, i < 7 → cp7 f f2 p q 7 (q + i) = f (p + i) := fun i hi => by
    unfold cp7
    rw [if_pos (by omega), Nat.add_sub_cancel_left]
  obtain ⟨h0, h1, h2, h3, h4, h5, h6⟩ := h
  exact ⟨(k 0 (by omega)).trans h0, (k 1 (by omega)).trans h1, (k 2 (by omega)).trans h2, (k 3 (by omega)).trans h3, (k 4 (by omega)).trans h4, (k 5 (by omega)).trans h5, (k 6 (by omega)).trans h6⟩
theorem cp7_o {f f2 : Nat → Int32} {p q r : Nat} {e : en_E} (h : rw_e f2 r e) (ho : r + 6 < q ∨ q + 7 ≤ r) : rw_e (cp7 f f2 p q 7) r e := by
  have k : ∀ i, i < 7 → cp7 f f2 p q 7 (r + i) = f2 (r + i) := fun i hi => if_neg (by omega)
  obtain ⟨h0, h1, h2, h3, h4, h5, h6⟩ := h
  exact ⟨(k 0 (by omega)).trans h0, (k 1 (by omega)).trans h1, (k 2 (by omega)).trans h2, (k 3 (by omega)).trans h3, (k 4 (by omega)).trans h4, (k 5 (by omega)).trans h5, (k 6 (by omega)).trans h6⟩
set_option maxHeartbeats 4000000 in
set_option maxRecDepth 100000 in
theorem c_M_copy (g : gx_T) {M : mp_M} {a n p b n2 q : Nat} {f f2 : Nat → Int32} (hM : M a = some (ar_i (gx_I g) n f)) (hM2 : M b = some (ar_i (gx_I g) n2 f2)) (hab : a ≠ b) (hn : n < 2 ^ 31) (hn2 : n2 < 2 ^ 31) (hp : p + 6 < n) (hq : q + 6 < n2) : Ct g yXM_copy cXM_copy 5 none 1 [.ref a, .int (nI p), .ref b, .int (nI q)] M (pv (fun M' => M' = mp_u M b (ar_i (gx_I g) n2 (cp7 f f2 p q 7)))) 0 0 := by
  refine ct_intro (L0 := [some (.ref a), some (.int (nI p)), some (.ref b), some (.int (nI q)), none]) (by decide) (Nat.le_of_ble_eq_true rfl) rfl rfl (fun x C E I => ?_)
  have loop : ∀ (n9 i : Nat), i + n9 = 7 → VV g x (mp_u M b (ar_i (gx_I g) n2 (cp7 f f2 p q i))) 0 0 3 [some (.ref a), some (.int (nI p)), some (.ref b), some (.int (nI q)), some (.int (nI i))] [] := by
    intro n9
    induction n9 with
    | zero =>
      intro i hi
      have hi7 : i = 7 := by omega
      subst hi7
      refine v_iload C 5 dXM_copy_3 rfl rfl ?_
      refine v_bipush C 7 dXM_copy_5 rfl (nI 7) (by decide) ?_
      refine v_icmp_ge C 10 28 dXM_copy_7 rfl rfl (fun h9 => ?_) (fun h9 => False.elim (by first | exact h9 (nI_le (Nat.le_refl 7) (by decide)) | exact absurd h9 (nI_le (Nat.le_refl 7) (by decide))))
      refine v_vret C E dXM_copy_28 (by omega) (by omega) ⟨rfl, rfl⟩
    | succ n9 ih =>
      intro i hi
      refine v_iload C 5 dXM_copy_3 rfl rfl ?_
      refine v_bipush C 7 dXM_copy_5 rfl (nI 7) (by decide) ?_
      refine v_icmp_ge C 10 28 dXM_copy_7 rfl rfl (fun h9 => False.elim (by first | exact h9 (nI_ge (show i < 7 by omega) (by decide)) | exact absurd h9 (nI_ge (show i < 7 by omega) (by decide)))) (fun h9 => ?_)
      first | refine v_aload_n C 11 dXM_copy_10 rfl rfl ?_ | refine v_aload_nN C 11 dXM_copy_10 rfl rfl ?_ | refine v_aload_nQ C 11 dXM_copy_10 rfl rfl ?_
      refine v_iload_n C 12 dXM_copy_11 rfl rfl ?_
      refine v_iload C 14 dXM_copy_12 rfl rfl ?_
      refine v_iadd C 15 dXM_copy_14 rfl ?_
      first | refine v_aload_n C 16 dXM_copy_15 rfl rfl ?_ | refine v_aload_nN C 16 dXM_copy_15 rfl rfl ?_ | refine v_aload_nQ C 16 dXM_copy_15 rfl rfl ?_
      refine v_iload_n C 17 dXM_copy_16 rfl rfl ?_
      refine v_iload C 19 dXM_copy_17 rfl rfl ?_
      refine v_iadd C 20 dXM_copy_19 rfl ?_
      refine v_iald C 21 dXM_copy_20 rfl ((mp_un hab).trans hM) (p + i) (nI_add p i) (by omega) hn ?_
      refine v_iast C 22 dXM_copy_21 rfl mp_us (q + i) (nI_add q i) (by omega) hn2 ?_
      refine v_iinc C 25 _ (nI (i + 1)) dXM_copy_22 rfl rfl (nI_1 i) rfl ?_
      refine v_goto C 3 dXM_copy_25 rfl ?_
      rw [mp_uu, cp7_s]
      exact ih (i + 1) (by omega)
  refine v_iconst C 1 dXM_copy_0 rfl (nI 0) (by decide) ?_
  refine v_istore C 3 _ dXM_copy_1 rfl (Nat.lt_of_lt_of_le (Nat.lt_succ_self _) (Nat.le_of_ble_eq_true rfl)) rfl ?_
  have hM0 : mp_u M b (ar_i (gx_I g) n2 (cp7 f f2 p q 0)) = M := by
    rw [cp7_0]
    exact mp_same hM2
  rw [← hM0]
  exact loop 7 0 (by omega)
end
section
abbrev ob_M (A : Nat → Nat) (cap gr now mem logs safe fl runs marks : Nat) : List Value := [.int (nI cap), .int (nI gr), .int (nI now), .int (nI mem), .ref (A 0), .int (nI logs), .int (nI safe), .ref (A 1), .int (nI fl), .ref (A 2), .ref (A 3), .int (nI runs), .int (nI marks), .ref (A 4), .ref (A 5), .ref (A 6)]
def ra_sz (i : Nat) : Nat := match i with
  | 0 => 168
  | 1 => 3640
  | 2 => 3640
  | 3 => 520
  | 4 => 520
  | 5 => 520
  | _ => 7
theorem ra_sz_lt : ∀ i, ra_sz i < 2 ^ 31
  | 0 => by decide
  | 1 => by decide
  | 2 => by decide
  | 3 => by decide
  | 4 => by decide
  | 5 => by decide
  | _ + 6 => by show 7 < 2 ^ 31; decide
def ra_M (g : gx_T) (M : mp_M) (b : Nat) (A : Nat → Nat) (cap gr now mem logs safe fl runs marks : Nat) (f : Nat → Nat → Int32) : Prop := M b = some (.inr (ci_M, ob_M A cap gr now mem logs safe fl runs marks)) ∧ (∀ i, i < 7 → M (A i) = some (ar_i (gx_I g) (ra_sz i) (f i))) ∧ (∀ i j, i < 7 → j < 7 → A i = A j → i = j)
def ra_P (b : Nat) (A : Nat → Nat) : Nat → Prop := fun q => q = b ∨ ∃ i, i < 7 ∧ q = A i
section RA
variable {g : gx_T} {M : mp_M} {b : Nat} {A : Nat → Nat} {cap gr now mem logs safe fl runs marks : Nat} {f : Nat → Nat → Int32}
theorem ra_ne (h : ra_M g M b A cap gr now mem logs safe fl runs marks f) {i : Nat} (hi : i < 7) : b ≠ A i := ne_a h.1 (h.2.1 i hi)
theorem ra_up (h : ra_M g M b A cap gr now mem logs safe fl runs marks f) (i : Nat) (hi : i < 7) (v : Nat → Int32) : ra_M g (mp_u M (A i) (ar_i (gx_I g) (ra_sz i) v)) b A cap gr now mem logs safe fl runs marks (va_up f i v) := by
  refine ⟨(mp_un (ra_ne h hi)).trans h.1, fun j hj => ?_, h.2.2⟩
  by_cases hij : j = i
  · subst hij
    rw [mp_us, va_up_self]
  · rw [mp_un (fun z => hij (h.2.2 j i hj hi z)), va_up_ne _ _ hij]
    exact h.2.1 j hj
theorem ra_put (h : ra_M g M b A cap gr now mem logs safe fl runs marks f) {now' mem' logs' safe' fl' runs' marks' : Nat} : ra_M g (mp_u M b (.inr (ci_M, ob_M A cap gr now' mem' logs' safe' fl' runs' marks'))) b A cap gr now' mem' logs' safe' fl' runs' marks' f :=
  ⟨mp_us, fun j hj => (mp_un (Ne.symm (ra_ne h hj))).trans (h.2.1 j hj), h.2.2⟩
theorem ra_ku {i : Nat} (hi : i < 7) {e : va_E} : mp_k (ra_P b A) M (mp_u M (A i) e) := mp_k.up (Or.inr ⟨i, hi, rfl⟩)
theorem ra_kb {e : va_E} : mp_k (ra_P b A) M (mp_u M b e) := mp_k.up (Or.inl rfl)
end RA

def tr (el : List en_E) (P : Nat → Prop) (T : tb_T) : Prop := (∀ (i : Nat) (e : en_E), el[i]? = some e → P i → T (en_s e) = some e) ∧ (∀ (s : Nat) (e : en_E), T s = some e → ∃ i : Nat, el[i]? = some e ∧ P i) ∧ (∀ (i j : Nat) (e e' : en_E), el[i]? = some e → el[j]? = some e' → P i → P j → en_s e = en_s e' → i = j)
def lw (f : Nat → Int32) (el : List en_E) : Prop := ∀ (i : Nat) (e : en_E), el[i]? = some e → rw_e f (7 * i) e ∧ en_ok e
theorem cn_bij (sl : Nat → Nat) : ∀ (n : Nat) (P Q : Nat → Bool), (∀ i, i < n → P i = true → sl i < 704 ∧ Q (sl i) = true) → (∀ s, s < 704 → Q s = true → ∃ i, i < n ∧ P i = true ∧ sl i = s) → (∀ i j, i < n → j < n → P i = true → P j = true → sl i = sl j → i = j) → cn P n = cn Q 704
  | 0, P, Q, _, h2, _ => by
    have h : cn Q 704 = 0 := cn_z 704 (fun s hs => by
      cases hq : Q s with
      | false => rfl
      | true =>
        obtain ⟨i, hi, -⟩ := h2 s hs hq
        omega)
    show 0 = cn Q 704
    exact h.symm
  | n + 1, P, Q, h1, h2, h3 => by
    show cn P n + (if P n = true then 1 else 0) = cn Q 704
    cases hp : P n with
    | false =>
      have ih := cn_bij sl n P Q (fun i hi hpi => h1 i (by omega) hpi) (fun s hs hq => ?_) (fun i j hi hj => h3 i j (by omega) (by omega))
      · rw [ih]
        simp
      · obtain ⟨i, hi, h4, h5⟩ := h2 s hs hq
        refine ⟨i, ?_, h4, h5⟩
        by_cases hin : i = n
        · subst hin
          rw [hp] at h4
          cases h4
        · omega
    | true =>
      obtain ⟨g1, g2⟩ := h1 n (by omega) hp
      have ih := cn_bij sl n P (fun s => Q s && decide (s ≠ sl n)) (fun i hi hpi => ?_) (fun s hs hq => ?_) (fun i j hi hj => h3 i j (by omega) (by omega))
      · rw [ih, if_pos rfl]
        refine (cn_inc (P := fun s => Q s && decide (s ≠ sl n)) (Q := Q) (s := sl n) 704 g1 ?_ g2 (fun j hj hne => ?_)).symm
        · simp
        · simp [hne]
      · obtain ⟨a1, a2⟩ := h1 i (by omega) hpi
        refine ⟨a1, ?_⟩
        have : sl i ≠ sl n := fun z => by
          have := h3 i n (by omega) (by omega) hpi hp z
          omega
        simp [a2, this]
      · have hq2 : Q s = true ∧ s ≠ sl n := by simpa using hq
        obtain ⟨i, hi, h4, h5⟩ := h2 s hs hq2.1
        refine ⟨i, ?_, h4, h5⟩
        by_cases hin : i = n
        · subst hin
          exact absurd h5.symm hq2.2
        · omega
noncomputable def tr_P (el : List en_E) (P : Nat → Prop) (i : Nat) : Bool := bo (P i)
theorem tr_n {el : List en_E} {P : Nat → Prop} {T : tb_T} (h : tr el P T) (ok : tb_ok T) (oke : ∀ (i : Nat) (e : en_E), el[i]? = some e → en_ok e) : cn (fun i => bo (P i)) el.length = tb_n T := by
  refine cn_bij (fun i => en_s (el.getD i (0, 0, 0, 0, 0, 0, 0))) el.length _ _ (fun i hi hp => ?_) (fun s hs hq => ?_) (fun i j hi hj hp1 hp2 hs => ?_)
  · have e1 : el[i]? = some (el.getD i (0, 0, 0, 0, 0, 0, 0)) := by simp [hi]
    refine ⟨en_s_lt (oke i _ e1), ?_⟩
    show (T _).isSome = true
    rw [h.1 i _ e1 (bo_t.mp hp)]
    rfl
  · have hq2 : (T s).isSome = true := hq
    cases he : T s with
    | none => rw [he] at hq2; cases hq2
    | some e =>
      obtain ⟨i, h1, h2⟩ := h.2.1 s e he
      have hi := (List.getElem?_eq_some_iff.mp h1).1
      refine ⟨i, hi, bo_t.mpr h2, ?_⟩
      have e1 : el.getD i (0, 0, 0, 0, 0, 0, 0) = e := by simp [h1]
      show en_s (el.getD i _) = s
      rw [e1]
      exact (ok s e he).2
  · have e1 : el[i]? = some (el.getD i (0, 0, 0, 0, 0, 0, 0)) := by simp [hi]
    have e2 : el[j]? = some (el.getD j (0, 0, 0, 0, 0, 0, 0)) := by simp [hj]
    exact h.2.2 i j _ _ e1 e2 (bo_t.mp hp1) (bo_t.mp hp2) hs
theorem tr_w {el : List en_E} {P : Nat → Prop} {T : tb_T} (h : tr el P T) (ok : tb_ok T) (oke : ∀ (i : Nat) (e : en_E), el[i]? = some e → en_ok e) : cn (fun i => bo (P i) && tb_i el[i]?) el.length = tb_w T := by
  refine cn_bij (fun i => en_s (el.getD i (0, 0, 0, 0, 0, 0, 0))) el.length _ _ (fun i hi hp => ?_) (fun s hs hq => ?_) (fun i j hi hj hp1 hp2 hs => ?_)
  · have e1 : el[i]? = some (el.getD i (0, 0, 0, 0, 0, 0, 0)) := by simp [hi]
    have hp2 : bo (P i) = true ∧ tb_i el[i]? = true := by simpa using hp
    refine ⟨en_s_lt (oke i _ e1), ?_⟩
    show tb_i (T _) = true
    rw [h.1 i _ e1 (bo_t.mp hp2.1), ← e1]
    exact hp2.2
  · have hq2 : tb_i (T s) = true := hq
    cases he : T s with
    | none => rw [he] at hq2; cases hq2
    | some e =>
      obtain ⟨i, h1, h2⟩ := h.2.1 s e he
      have hi := (List.getElem?_eq_some_iff.mp h1).1
      refine ⟨i, hi, ?_, ?_⟩
      · have : bo (P i) = true := bo_t.mpr h2
        rw [he] at hq2
        simp [this, h1, hq2]
      · have e1 : el.getD i (0, 0, 0, 0, 0, 0, 0) = e := by simp [h1]
        show en_s (el.getD i _) = s
        rw [e1]
        exact (ok s e he).2
  · have e1 : el[i]? = some (el.getD i (0, 0, 0, 0, 0, 0, 0)) := by simp [hi]
    have e2 : el[j]? = some (el.getD j (0, 0, 0, 0, 0, 0, 0)) := by simp [hj]
    have a1 : bo (P i) = true ∧ tb_i el[i]? = true := by simpa using hp1
    have a2 : bo (P j) = true ∧ tb_i el[j]? = true := by simpa using hp2
    exact h.2.2 i j _ _ e1 e2 (bo_t.mp a1.1) (bo_t.mp a2.1) hs
end
section
theorem va_up_id {α : Type} (f : Nat → α) (i : Nat) : va_up f i (f i) = f := by
  funext j
  by_cases h : j = i
  · subst h
    rw [va_up_self]
  · rw [va_up_ne _ _ h]
theorem tr_set {ml : List en_E} {T : tb_T} {m : Nat} {em e : en_E} (h : tr ml (fun _ => True) T) (hT : tb_ok T) (hm : ml[m]? = some em) (hs : en_s em = en_s e) : tr (ml.set m e) (fun _ => True) (va_up T (en_s e) (some e)) := by
  have hlt := (List.getElem?_eq_some_iff.mp hm).1
  have other : ∀ (i : Nat) (e' : en_E), i ≠ m → ml[i]? = some e' → en_s e' ≠ en_s e := fun i e' hne h1 z => hne (h.2.2 i m e' em h1 hm trivial trivial (z.trans hs.symm))
  refine ⟨fun i e' h1 _ => ?_, fun s e' h1 => ?_, fun i j e1 e2 h1 h2 _ _ h3 => ?_⟩
  · by_cases him : i = m
    · subst him
      rw [List.getElem?_set_self hlt] at h1
      cases h1
      rw [va_up_self]
    · rw [List.getElem?_set_ne (Ne.symm him)] at h1
      rw [va_up_ne _ _ (other i e' him h1)]
      exact h.1 i e' h1 trivial
  · by_cases hse : s = en_s e
    · subst hse
      rw [va_up_self] at h1
      cases h1
      exact ⟨m, List.getElem?_set_self hlt, trivial⟩
    · rw [va_up_ne _ _ hse] at h1
      obtain ⟨i, g1, -⟩ := h.2.1 s e' h1
      have him : m ≠ i := by
        intro z
        subst z
        have he := Option.some.inj (hm.symm.trans g1)
        rw [← he] at h1
        exact hse ((hT s em h1).2.symm.trans hs)
      exact ⟨i, by rw [List.getElem?_set_ne him]; exact g1, trivial⟩
  · have back : ∀ (i : Nat) (e' : en_E), (ml.set m e)[i]? = some e' → ∃ e0, ml[i]? = some e0 ∧ en_s e0 = en_s e' := by
      intro i e' h1
      by_cases him : i = m
      · subst him
        rw [List.getElem?_set_self hlt] at h1
        cases h1
        exact ⟨em, hm, hs⟩
      · rw [List.getElem?_set_ne (Ne.symm him)] at h1
        exact ⟨e', h1, rfl⟩
    obtain ⟨a1, b1, c1⟩ := back i e1 h1
    obtain ⟨a2, b2, c2⟩ := back j e2 h2
    exact h.2.2 i j a1 a2 b1 b2 trivial trivial (c1.trans (h3.trans c2.symm))
theorem tr_app {ml : List en_E} {T : tb_T} {e : en_E} (h : tr ml (fun _ => True) T) (hT : tb_ok T) (hN : T (en_s e) = none) : tr (ml ++ [e]) (fun _ => True) (va_up T (en_s e) (some e)) := by
  have other : ∀ (i : Nat) (e' : en_E), ml[i]? = some e' → en_s e' ≠ en_s e := fun i e' h1 z => by
    have := h.1 i e' h1 trivial
    rw [z, hN] at this
    cases this
  have cas : ∀ (i : Nat) (e' : en_E), (ml ++ [e])[i]? = some e' → ml[i]? = some e' ∨ (i = ml.length ∧ e' = e) := by
    intro i e' h1
    by_cases hi : i < ml.length
    · rw [List.getElem?_append_left hi] at h1
      exact Or.inl h1
    · rw [List.getElem?_append_right (by omega)] at h1
      have hz : i - ml.length < 1 := (List.getElem?_eq_some_iff.mp h1).1
      rw [show i - ml.length = 0 by omega] at h1
      cases h1
      exact Or.inr ⟨by omega, rfl⟩
  refine ⟨fun i e' h1 _ => ?_, fun s e' h1 => ?_, fun i j e1 e2 h1 h2 _ _ h3 => ?_⟩
  · rcases cas i e' h1 with h2 | ⟨-, rfl⟩
    · rw [va_up_ne _ _ (other i e' h2)]
      exact h.1 i e' h2 trivial
    · rw [va_up_self]
  · by_cases hse : s = en_s e
    · subst hse
      rw [va_up_self] at h1
      cases h1
      exact ⟨ml.length, by rw [List.getElem?_append_right (Nat.le_refl _), Nat.sub_self]; rfl, trivial⟩
    · rw [va_up_ne _ _ hse] at h1
      obtain ⟨i, g1, -⟩ := h.2.1 s e' h1
      exact ⟨i, by rw [List.getElem?_append_left (List.getElem?_eq_some_iff.mp g1).1]; exact g1, trivial⟩
  · rcases cas i e1 h1 with a1 | ⟨a1, rfl⟩ <;> rcases cas j e2 h2 with a2 | ⟨a2, rfl⟩
    · exact h.2.2 i j e1 e2 a1 a2 trivial trivial h3
    · exact absurd h3 (other i e1 a1)
    · exact absurd h3.symm (other j e2 a2)
    · omega
theorem lw_set {f f2 : Nat → Int32} {ml : List en_E} {e : en_E} {p m : Nat} (h : lw f2 ml) (he : rw_e f p e) (ok : en_ok e) : lw (cp7 f f2 p (7 * m) 7) (ml.set m e) := by
  intro i e' h1
  by_cases him : i = m
  · subst him
    have hlt : i < ml.length := by
      have := (List.getElem?_eq_some_iff.mp h1).1
      rw [List.length_set] at this
      exact this
    rw [List.getElem?_set_self hlt] at h1
    cases h1
    exact ⟨cp7_e he, ok⟩
  · rw [List.getElem?_set_ne (Ne.symm him)] at h1
    exact ⟨cp7_o (h i e' h1).1 (by omega), (h i e' h1).2⟩
theorem lw_app {f f2 : Nat → Int32} {ml : List en_E} {e : en_E} {p : Nat} (h : lw f2 ml) (he : rw_e f p e) (ok : en_ok e) : lw (cp7 f f2 p (7 * ml.length) 7) (ml ++ [e]) := by
  intro i e' h1
  by_cases hi : i < ml.length
  · rw [List.getElem?_append_left hi] at h1
    exact ⟨cp7_o (h i e' h1).1 (by omega), (h i e' h1).2⟩
  · rw [List.getElem?_append_right (by omega)] at h1
    have hz : i - ml.length < 1 := (List.getElem?_eq_some_iff.mp h1).1
    rw [show i - ml.length = 0 by omega] at h1
    cases h1
    rw [show i = ml.length by omega]
    exact ⟨cp7_e he, ok⟩
set_option maxHeartbeats 4000000 in
set_option maxRecDepth 100000 in
theorem c_M_remember (g : gx_T) {M : mp_M} {b : Nat} {A : Nat → Nat} {cap gr now logs safe fl runs marks : Nat} {f : Nat → Nat → Int32} {ml : List en_E} {T : tb_T} (h : ra_M g M b A cap gr now ml.length logs safe fl runs marks f) (hl : lw (f 0) ml) (ht : tr ml (fun _ => True) T) (hT : tb_ok T) (hn : ml.length = tb_n T) (k : Nat) {e : en_E} (hk : k < 520) (he : rw_e (f 1) (7 * k) e) (ok : en_ok e) (hroom : ml.length < 24) : Ct g yXM_remember cXM_remember 3 none 3 [.ref b, .int (nI (7 * k))] M (pv (fun M' => ∃ (ml' : List en_E) (f0 : Nat → Int32), mp_k (ra_P b A) M M' ∧ ra_M g M' b A cap gr now ml'.length logs safe fl runs marks (va_up f 0 f0) ∧ lw f0 ml' ∧ tr ml' (fun _ => True) (tb_a T e) ∧ ml'.length = tb_n (tb_a T e))) 0 0 := by
  refine ct_intro (L0 := [some (.ref b), some (.int (nI (7 * k))), none]) (by decide) (Nat.le_of_ble_eq_true rfl) rfl rfl (fun x C E I => ?_)
  have hA0 := h.2.1 0 (by decide)
  have hA1 := h.2.1 1 (by decide)
  have hne : A 1 ≠ A 0 := fun z => by have := h.2.2 1 0 (by decide) (by decide) z; omega
  have loop : ∀ (n m : Nat), m + n = ml.length → (∀ (i : Nat) (e' : en_E), i < m → ml[i]? = some e' → en_s e' ≠ en_s e) → VV g x M 0 0 2 [some (.ref b), some (.int (nI (7 * k))), some (.int (nI m))] [] := by
    intro n
    induction n with
    | zero =>
      intro m hm hno
      have hN : T (en_s e) = none := by
        cases hz : T (en_s e) with
        | none => rfl
        | some e' =>
          obtain ⟨i, g1, -⟩ := ht.2.1 _ _ hz
          exact absurd (hT _ _ hz).2 (hno i e' (by have := (List.getElem?_eq_some_iff.mp g1).1; omega) g1)
      refine v_iload_n C 3 dXM_remember_2 rfl rfl ?_
      first | refine v_aload_n C 4 dXM_remember_3 rfl rfl ?_ | refine v_aload_nN C 4 dXM_remember_3 rfl rfl ?_ | refine v_aload_nQ C 4 dXM_remember_3 rfl rfl ?_
      refine gt_XM_42 C 7 dXM_remember_4 rfl h.1 rfl ?_
      refine v_icmp_ge C 10 71 dXM_remember_7 rfl rfl (fun h9 => ?_) (fun h9 => False.elim (by first | exact h9 (nI_le (show ml.length ≤ m by omega) (by omega)) | exact absurd h9 (nI_le (show ml.length ≤ m by omega) (by omega))))
      first | refine v_aload_n C 72 dXM_remember_71 rfl rfl ?_ | refine v_aload_nN C 72 dXM_remember_71 rfl rfl ?_ | refine v_aload_nQ C 72 dXM_remember_71 rfl rfl ?_
      refine gt_XM_13 C 75 dXM_remember_72 rfl h.1 rfl ?_
      refine v_iload_n C 76 dXM_remember_75 rfl rfl ?_
      first | refine v_aload_n C 77 dXM_remember_76 rfl rfl ?_ | refine v_aload_nN C 77 dXM_remember_76 rfl rfl ?_ | refine v_aload_nQ C 77 dXM_remember_76 rfl rfl ?_
      refine gt_XM_7 C 80 dXM_remember_77 rfl h.1 rfl ?_
      refine v_bipush C 82 dXM_remember_80 rfl (nI 7) (by decide) ?_
      first | refine v_aload_n C 83 dXM_remember_82 rfl rfl ?_ | refine v_aload_nN C 83 dXM_remember_82 rfl rfl ?_ | refine v_aload_nQ C 83 dXM_remember_82 rfl rfl ?_
      refine gt_XM_42 C 86 dXM_remember_83 rfl h.1 rfl ?_
      refine v_imul C 87 dXM_remember_86 rfl ?_
      refine v_top _ (.int (nI (7 * ml.length))) (congrArg Value.int (pk_mul 7 ml.length)) ?_
      refine v_rv 90 (cl_XM_52 C ((c_M_copy g hA1 hA0 hne (ra_sz_lt 1) (ra_sz_lt 0) (show 7 * k + 6 < 3640 by omega) (show 7 * ml.length + 6 < 168 by omega))) dXM_remember_87 rfl rfl (Nat.le_of_ble_eq_true rfl) (Nat.le_of_ble_eq_true rfl) (Nat.le_of_ble_eq_true rfl) (by omega) (by omega)) rfl (fun M1 hM1 => ?_)
      subst hM1
      have h' := ra_up h 0 (by decide) (cp7 (f 1) (f 0) (7 * k) (7 * ml.length) 7)
      first | refine v_aload_n C 91 dXM_remember_90 rfl rfl ?_ | refine v_aload_nN C 91 dXM_remember_90 rfl rfl ?_ | refine v_aload_nQ C 91 dXM_remember_90 rfl rfl ?_
      refine v_dup C 92 dXM_remember_91 rfl rfl ?_
      refine gt_XM_42 C 95 dXM_remember_92 rfl h'.1 rfl ?_
      refine v_iconst C 96 dXM_remember_95 rfl (nI 1) (by decide) ?_
      refine v_iadd C 97 dXM_remember_96 rfl ?_
      refine v_top _ (.int (nI (ml.length + 1))) (congrArg Value.int (nI_add ml.length 1)) ?_
      refine pt_XM_42 C 100 dXM_remember_97 rfl rfl rfl h'.1 (Nat.lt_of_lt_of_le (Nat.lt_succ_self _) (Nat.le_of_ble_eq_true rfl)) (ob_M A cap gr now (ml.length + 1) logs safe fl runs marks) rfl ?_
      refine v_vret C E dXM_remember_100 (by omega) (by omega) ⟨rfl, ml ++ [e], _, (ra_ku (by decide)).tr ra_kb, ?_, lw_app hl he ok, ?_, ?_⟩
      · rw [List.length_append]
        exact ra_put h'
      · rw [tb_a_n hN]
        exact tr_app ht hT hN
      · rw [tb_a_n hN, tb_n_new (en_s_lt ok) hN, List.length_append, hn]
        rfl
    | succ n ih =>
      intro m hm hno
      obtain ⟨em, hem⟩ : ∃ em, ml[m]? = some em := ⟨_, List.getElem?_eq_getElem (show m < ml.length by omega)⟩
      obtain ⟨hwe, oke⟩ := hl m em hem
      refine v_iload_n C 3 dXM_remember_2 rfl rfl ?_
      first | refine v_aload_n C 4 dXM_remember_3 rfl rfl ?_ | refine v_aload_nN C 4 dXM_remember_3 rfl rfl ?_ | refine v_aload_nQ C 4 dXM_remember_3 rfl rfl ?_
      refine gt_XM_42 C 7 dXM_remember_4 rfl h.1 rfl ?_
      refine v_icmp_ge C 10 71 dXM_remember_7 rfl rfl (fun h9 => False.elim (by first | exact h9 (nI_ge (show m < ml.length by omega) (by omega)) | exact absurd h9 (nI_ge (show m < ml.length by omega) (by omega)))) (fun h9 => ?_)
      first | refine v_aload_n C 11 dXM_remember_10 rfl rfl ?_ | refine v_aload_nN C 11 dXM_remember_10 rfl rfl ?_ | refine v_aload_nQ C 11 dXM_remember_10 rfl rfl ?_
      refine gt_XM_7 C 14 dXM_remember_11 rfl h.1 rfl ?_
      refine v_bipush C 16 dXM_remember_14 rfl (nI 7) (by decide) ?_
      refine v_iload_n C 17 dXM_remember_16 rfl rfl ?_
      refine v_imul C 18 dXM_remember_17 rfl ?_
      refine v_top _ (.int (nI (7 * m))) (congrArg Value.int (pk_mul 7 m)) ?_
      first | refine v_aload_n C 19 dXM_remember_18 rfl rfl ?_ | refine v_aload_nN C 19 dXM_remember_18 rfl rfl ?_ | refine v_aload_nQ C 19 dXM_remember_18 rfl rfl ?_
      refine gt_XM_13 C 22 dXM_remember_19 rfl h.1 rfl ?_
      refine v_iload_n C 23 dXM_remember_22 rfl rfl ?_
      refine v_ri 26 (cl_XM_45 C ((c_M_alike g hA0 hA1 (ra_sz_lt 0) (ra_sz_lt 1) (show 7 * m + 6 < 168 by omega) (show 7 * k + 6 < 3640 by omega) hwe he oke ok)) dXM_remember_23 rfl rfl (Nat.le_of_ble_eq_true rfl) (Nat.le_of_ble_eq_true rfl) (Nat.le_of_ble_eq_true rfl) (by omega) (by omega)) rfl (fun v M1 hv => ?_)
      obtain ⟨rfl, rfl⟩ := hv
      refine v_if_eq C 29 65 dXM_remember_26 rfl rfl (fun h1 => ?_) (fun h1 => ?_)
      · rw [bI_0] at h1
        have h2 := of_decide_eq_false h1
        refine v_iinc C 68 _ (nI (m + 1)) dXM_remember_65 rfl rfl (nI_1 m) rfl ?_
        refine v_goto C 2 dXM_remember_68 rfl ?_
        refine ih (m + 1) (by omega) (fun i e' hi hie => ?_)
        by_cases him : i = m
        · subst him
          cases hem.symm.trans hie
          exact h2
        · exact hno i e' (by omega) hie
      · have h2 : en_s em = en_s e := by
          apply Classical.byContradiction
          intro z
          exact h1 (bI_0.mpr (decide_eq_false z))
        have hTs : T (en_s e) = some em := by
          rw [← h2]
          exact ht.1 m em hem trivial
        first | refine v_aload_n C 30 dXM_remember_29 rfl rfl ?_ | refine v_aload_nN C 30 dXM_remember_29 rfl rfl ?_ | refine v_aload_nQ C 30 dXM_remember_29 rfl rfl ?_
        refine gt_XM_13 C 33 dXM_remember_30 rfl h.1 rfl ?_
        refine v_iload_n C 34 dXM_remember_33 rfl rfl ?_
        first | refine v_aload_n C 35 dXM_remember_34 rfl rfl ?_ | refine v_aload_nN C 35 dXM_remember_34 rfl rfl ?_ | refine v_aload_nQ C 35 dXM_remember_34 rfl rfl ?_
        refine gt_XM_7 C 38 dXM_remember_35 rfl h.1 rfl ?_
        refine v_bipush C 40 dXM_remember_38 rfl (nI 7) (by decide) ?_
        refine v_iload_n C 41 dXM_remember_40 rfl rfl ?_
        refine v_imul C 42 dXM_remember_41 rfl ?_
        refine v_top _ (.int (nI (7 * m))) (congrArg Value.int (pk_mul 7 m)) ?_
        refine v_ri 45 (cl_XM_49 C ((c_M_wins g hA1 hA0 (ra_sz_lt 1) (ra_sz_lt 0) (show 7 * k + 6 < 3640 by omega) (show 7 * m + 6 < 168 by omega) he hwe ok oke h2.symm)) dXM_remember_42 rfl rfl (Nat.le_of_ble_eq_true rfl) (Nat.le_of_ble_eq_true rfl) (Nat.le_of_ble_eq_true rfl) (by omega) (by omega)) rfl (fun v M1 hv => ?_)
        obtain ⟨rfl, rfl⟩ := hv
        refine v_if_eq C 48 64 dXM_remember_45 rfl rfl (fun h3 => ?_) (fun h3 => ?_)
        · rw [bI_0] at h3
          refine v_vret C E dXM_remember_64 (by omega) (by omega) ⟨rfl, ml, f 0, mp_k.rf, by rw [va_up_id]; exact h, hl, by rw [tb_a_l hTs h3]; exact ht, by rw [tb_a_l hTs h3]; exact hn⟩
        · have h4 : en_w e em = true := by
            cases hz : en_w e em with
            | true => rfl
            | false => exact absurd (bI_0.mpr hz) h3
          first | refine v_aload_n C 49 dXM_remember_48 rfl rfl ?_ | refine v_aload_nN C 49 dXM_remember_48 rfl rfl ?_ | refine v_aload_nQ C 49 dXM_remember_48 rfl rfl ?_
          refine gt_XM_13 C 52 dXM_remember_49 rfl h.1 rfl ?_
          refine v_iload_n C 53 dXM_remember_52 rfl rfl ?_
          first | refine v_aload_n C 54 dXM_remember_53 rfl rfl ?_ | refine v_aload_nN C 54 dXM_remember_53 rfl rfl ?_ | refine v_aload_nQ C 54 dXM_remember_53 rfl rfl ?_
          refine gt_XM_7 C 57 dXM_remember_54 rfl h.1 rfl ?_
          refine v_bipush C 59 dXM_remember_57 rfl (nI 7) (by decide) ?_
          refine v_iload_n C 60 dXM_remember_59 rfl rfl ?_
          refine v_imul C 61 dXM_remember_60 rfl ?_
          refine v_top _ (.int (nI (7 * m))) (congrArg Value.int (pk_mul 7 m)) ?_
          refine v_rv 64 (cl_XM_52 C ((c_M_copy g hA1 hA0 hne (ra_sz_lt 1) (ra_sz_lt 0) (show 7 * k + 6 < 3640 by omega) (show 7 * m + 6 < 168 by omega))) dXM_remember_61 rfl rfl (Nat.le_of_ble_eq_true rfl) (Nat.le_of_ble_eq_true rfl) (Nat.le_of_ble_eq_true rfl) (by omega) (by omega)) rfl (fun M1 hM1 => ?_)
          subst hM1
          refine v_vret C E dXM_remember_64 (by omega) (by omega) ⟨rfl, ml.set m e, _, ra_ku (by decide), ?_, lw_set hl he ok, ?_, ?_⟩
          · rw [List.length_set]
            exact ra_up h 0 (by decide) _
          · rw [tb_a_w hTs h4]
            exact tr_set ht hT hem h2
          · rw [tb_a_w hTs h4, tb_n_old hTs, List.length_set]
            exact hn
  refine v_iconst C 1 dXM_remember_0 rfl (nI 0) (by decide) ?_
  refine v_istore_n C 2 _ dXM_remember_1 rfl (Nat.lt_of_lt_of_le (Nat.lt_succ_self _) (Nat.le_of_ble_eq_true rfl)) rfl ?_
  exact loop ml.length 0 (by omega) (fun i e' hi => absurd hi (Nat.not_lt_zero i))
end
section
def jG (ow mk : Nat → Nat) (i0 K i : Nat) : Prop := ∃ k, i0 ≤ k ∧ k < K ∧ ow i = mk k
noncomputable def j1 (ow mk : Nat → Nat) (i0 K mx i : Nat) : Nat := if bo (jG ow mk i0 K i) = true then mx else ow i
def lo (el : List en_E) (i j : Nat) : Prop := ∃ e f : en_E, el[i]? = some e ∧ el[j]? = some f ∧ en_s e = en_s f ∧ (en_w f e = true ∨ (i < j ∧ en_w e f = false))
noncomputable def j2 (el : List en_E) (o : Nat → Nat) (mx i : Nat) : Nat := if bo (o i = mx ∧ ∃ j, o j = mx ∧ lo el i j) = true then 0 else o i
noncomputable def j3 (el : List en_E) (o : Nat → Nat) (mx i : Nat) : Nat := if bo (o i = mx ∧ ∃ e, el[i]? = some e ∧ en_k e ≠ 2 ∧ ∃ (j : Nat) (f : en_E), o j = mx ∧ el[j]? = some f ∧ en_cv f (en_r e) (en_c e) (en_p e)) = true then 0 else o i
noncomputable def j4 (el : List en_E) (now gr : Nat) (o : Nat → Nat) (mx i : Nat) : Nat := if bo (o i = mx ∧ ∃ e, el[i]? = some e ∧ en_t e + gr ≤ now) = true then 0 else o i
theorem lo_ii {el : List en_E} {i : Nat} : ¬ lo el i i := by
  rintro ⟨e, f, h1, h2, -, h3⟩
  cases h1.symm.trans h2
  rcases h3 with h3 | h3
  · rw [en_w_self] at h3
    cases h3
  · omega
theorem lo_tr {el : List en_E} {i j k : Nat} (h : lo el i j) (h2 : lo el j k) : lo el i k := by
  obtain ⟨e, f, a1, a2, a3, a4⟩ := h
  obtain ⟨f', d, b1, b2, b3, b4⟩ := h2
  cases a2.symm.trans b1
  refine ⟨e, d, a1, b2, a3.trans b3, ?_⟩
  rcases a4 with a4 | ⟨a4, a5⟩
  · rcases b4 with b4 | ⟨b4, b5⟩
    · exact Or.inl (en_w_tr b4 a4)
    · left
      cases hz : en_w d e with
      | true => rfl
      | false =>
        rw [en_w_tn hz b5] at a4
        cases a4
  · rcases b4 with b4 | ⟨b4, b5⟩
    · left
      cases hz : en_w d e with
      | true => rfl
      | false =>
        rw [en_w_tn a5 hz] at b4
        cases b4
    · exact Or.inr ⟨by omega, en_w_tn b5 a5⟩
theorem lo_tot {el : List en_E} {i j : Nat} {e f : en_E} (h1 : el[i]? = some e) (h2 : el[j]? = some f) (hs : en_s e = en_s f) (hne : i ≠ j) : lo el i j ∨ lo el j i := by
  cases hz : en_w f e with
  | true => exact Or.inl ⟨e, f, h1, h2, hs, Or.inl hz⟩
  | false =>
    cases hz2 : en_w e f with
    | true => exact Or.inr ⟨f, e, h2, h1, hs.symm, Or.inl hz2⟩
    | false =>
      rcases Nat.lt_or_gt_of_ne hne with h | h
      · exact Or.inl ⟨e, f, h1, h2, hs, Or.inr ⟨h, hz2⟩⟩
      · exact Or.inr ⟨f, e, h2, h1, hs.symm, Or.inr ⟨h, hz⟩⟩
theorem lo_max (el : List en_E) (P : Nat → Prop) : ∀ n, (∃ i, i < n ∧ P i) → ∃ t, t < n ∧ P t ∧ ∀ j, j < n → P j → ¬ lo el t j
  | 0, h => by
    obtain ⟨i, hi, -⟩ := h
    omega
  | n + 1, h => by
    by_cases hP : P n
    · by_cases h2 : ∃ i, i < n ∧ P i
      · obtain ⟨t, h3, h4, h5⟩ := lo_max el P n h2
        by_cases hl : lo el t n
        · refine ⟨n, by omega, hP, fun j hj hPj z => ?_⟩
          by_cases hjn : j = n
          · subst hjn
            exact lo_ii z
          · exact h5 j (by omega) hPj (lo_tr hl z)
        · refine ⟨t, by omega, h4, fun j hj hPj z => ?_⟩
          by_cases hjn : j = n
          · subst hjn
            exact hl z
          · exact h5 j (by omega) hPj z
      · refine ⟨n, by omega, hP, fun j hj hPj z => ?_⟩
        by_cases hjn : j = n
        · subst hjn
          exact lo_ii z
        · exact h2 ⟨j, by omega, hPj⟩
    · obtain ⟨i, hi, hPi⟩ := h
      have hin : i ≠ n := fun z => hP (z ▸ hPi)
      obtain ⟨t, h3, h4, h5⟩ := lo_max el P n ⟨i, by omega, hPi⟩
      refine ⟨t, by omega, h4, fun j hj hPj z => ?_⟩
      by_cases hjn : j = n
      · subst hjn
        exact hP hPj
      · exact h5 j (by omega) hPj z

theorem lo_top {el : List en_E} {o : Nat → Nat} {mx i : Nat} {e : en_E} (hi : o i = mx) (he : el[i]? = some e) : ∃ (t : Nat) (et : en_E), o t = mx ∧ el[t]? = some et ∧ en_s et = en_s e ∧ ∀ j, o j = mx → ¬ lo el t j := by
  obtain ⟨t, h1, ⟨et, h2, h3, h4⟩, h5⟩ := lo_max el (fun j => ∃ e', el[j]? = some e' ∧ o j = mx ∧ en_s e' = en_s e) el.length ⟨i, (List.getElem?_eq_some_iff.mp he).1, e, he, hi, rfl⟩
  refine ⟨t, et, h3, h2, h4, fun j hj z => ?_⟩
  obtain ⟨e1, f1, a1, a2, a3, -⟩ := id z
  cases h2.symm.trans a1
  exact h5 j (List.getElem?_eq_some_iff.mp a2).1 ⟨f1, a2, hj, a3.symm.trans h4⟩ z
theorem lo_top2 {el : List en_E} {o : Nat → Nat} {mx i : Nat} {e : en_E} (hi : o i = mx) (he : el[i]? = some e) (hd : ∃ j, o j = mx ∧ lo el i j) : ∃ t, o t = mx ∧ lo el i t ∧ ∀ j, o j = mx → ¬ lo el t j := by
  obtain ⟨t, et, h1, h2, h3, h4⟩ := lo_top hi he
  have hne : i ≠ t := by
    intro z
    subst z
    obtain ⟨j, a1, a2⟩ := hd
    exact h4 j a1 a2
  rcases lo_tot he h2 h3.symm hne with h | h
  · exact ⟨t, h1, h, h4⟩
  · exact absurd h (h4 i hi)
theorem j1_mx {ow mk : Nat → Nat} {i0 K mx i : Nat} (h : ow i ≠ mx) : j1 ow mk i0 K mx i = mx ↔ jG ow mk i0 K i := by
  unfold j1
  by_cases hG : jG ow mk i0 K i
  · rw [if_pos (bo_t.mpr hG)]
    exact ⟨fun _ => hG, fun _ => rfl⟩
  · rw [if_neg (by rw [bo_t]; exact hG)]
    exact ⟨fun z => absurd z h, fun z => absurd z hG⟩
theorem j1_no {ow mk : Nat → Nat} {i0 K mx i : Nat} (h : ¬ jG ow mk i0 K i) : j1 ow mk i0 K mx i = ow i := if_neg (by rw [bo_t]; exact h)
theorem j1_0 {ow mk : Nat → Nat} {i0 mx : Nat} : j1 ow mk i0 i0 mx = ow := by
  funext i
  exact j1_no (fun ⟨k, h1, h2, _⟩ => by omega)
theorem j2_mx {el : List en_E} {o : Nat → Nat} {mx i : Nat} (h0 : mx ≠ 0) : j2 el o mx i = mx ↔ (o i = mx ∧ ∀ j, o j = mx → ¬ lo el i j) := by
  unfold j2
  by_cases hd : o i = mx ∧ ∃ j, o j = mx ∧ lo el i j
  · rw [if_pos (bo_t.mpr hd)]
    obtain ⟨h1, j, h2, h3⟩ := hd
    exact ⟨fun z => absurd z.symm h0, fun z => absurd h3 (z.2 j h2)⟩
  · rw [if_neg (by rw [bo_t]; exact hd)]
    exact ⟨fun z => ⟨z, fun j hj hl => hd ⟨z, j, hj, hl⟩⟩, fun z => z.1⟩
theorem j2_no {el : List en_E} {o : Nat → Nat} {mx i : Nat} (h : o i ≠ mx) : j2 el o mx i = o i := if_neg (by rw [bo_t]; exact fun z => h z.1)
theorem j2_or {el : List en_E} {o : Nat → Nat} {mx i : Nat} : j2 el o mx i = 0 ∨ j2 el o mx i = o i := by
  unfold j2
  split
  · exact Or.inl rfl
  · exact Or.inr rfl
theorem j3_mx {el : List en_E} {o : Nat → Nat} {mx i : Nat} (h0 : mx ≠ 0) : j3 el o mx i = mx ↔ (o i = mx ∧ ∀ e, el[i]? = some e → en_k e ≠ 2 → ∀ (j : Nat) (f : en_E), o j = mx → el[j]? = some f → ¬ en_cv f (en_r e) (en_c e) (en_p e)) := by
  unfold j3
  by_cases hd : o i = mx ∧ ∃ e, el[i]? = some e ∧ en_k e ≠ 2 ∧ ∃ (j : Nat) (f : en_E), o j = mx ∧ el[j]? = some f ∧ en_cv f (en_r e) (en_c e) (en_p e)
  · rw [if_pos (bo_t.mpr hd)]
    obtain ⟨h1, e, h2, h3, j, f, h4, h5, h6⟩ := hd
    exact ⟨fun z => absurd z.symm h0, fun z => absurd h6 (z.2 e h2 h3 j f h4 h5)⟩
  · rw [if_neg (by rw [bo_t]; exact hd)]
    exact ⟨fun z => ⟨z, fun e h2 h3 j f h4 h5 h6 => hd ⟨z, e, h2, h3, j, f, h4, h5, h6⟩⟩, fun z => z.1⟩
theorem j3_no {el : List en_E} {o : Nat → Nat} {mx i : Nat} (h : o i ≠ mx) : j3 el o mx i = o i := if_neg (by rw [bo_t]; exact fun z => h z.1)
theorem j3_or {el : List en_E} {o : Nat → Nat} {mx i : Nat} : j3 el o mx i = 0 ∨ j3 el o mx i = o i := by
  unfold j3
  split
  · exact Or.inl rfl
  · exact Or.inr rfl
theorem j3_w {el : List en_E} {o : Nat → Nat} {mx i : Nat} {e : en_E} (he : el[i]? = some e) (hk : en_k e = 2) : j3 el o mx i = o i := if_neg (by
  rw [bo_t]
  rintro ⟨-, e', h1, h2, -⟩
  cases he.symm.trans h1
  exact h2 hk)
theorem j4_mx {el : List en_E} {now gr : Nat} {o : Nat → Nat} {mx i : Nat} (h0 : mx ≠ 0) : j4 el now gr o mx i = mx ↔ (o i = mx ∧ ∀ e, el[i]? = some e → ¬ en_t e + gr ≤ now) := by
  unfold j4
  by_cases hd : o i = mx ∧ ∃ e, el[i]? = some e ∧ en_t e + gr ≤ now
  · rw [if_pos (bo_t.mpr hd)]
    obtain ⟨h1, e, h2, h3⟩ := hd
    exact ⟨fun z => absurd z.symm h0, fun z => absurd h3 (z.2 e h2)⟩
  · rw [if_neg (by rw [bo_t]; exact hd)]
    exact ⟨fun z => ⟨z, fun e h2 h3 => hd ⟨z, e, h2, h3⟩⟩, fun z => z.1⟩
theorem j4_no {el : List en_E} {now gr : Nat} {o : Nat → Nat} {mx i : Nat} (h : o i ≠ mx) : j4 el now gr o mx i = o i := if_neg (by rw [bo_t]; exact fun z => h z.1)
theorem j4_or {el : List en_E} {now gr : Nat} {o : Nat → Nat} {mx i : Nat} : j4 el now gr o mx i = 0 ∨ j4 el now gr o mx i = o i := by
  unfold j4
  split
  · exact Or.inl rfl
  · exact Or.inr rfl

theorem tr_2 {el : List en_E} {o : Nat → Nat} {mx : Nat} {ts : List tb_T} (h0 : mx ≠ 0) (hok : ∀ t, t ∈ ts → tb_ok t) (h1 : ∀ (i : Nat) (e : en_E), el[i]? = some e → o i = mx → ∃ t, t ∈ ts ∧ t (en_s e) = some e) (h2 : ∀ t, t ∈ ts → ∀ (s : Nat) (e : en_E), t s = some e → ∃ i : Nat, el[i]? = some e ∧ o i = mx) : tr el (fun i => j2 el o mx i = mx) (ts.foldl tb_m tb_0) := by
  have hX : ∀ s, en_X (fun e => ∃ t, t ∈ ts ∧ t s = some e) ((ts.foldl tb_m tb_0) s) := fun s => en_X_cg (fun e => ⟨fun z => z.elim (fun z => absurd z not_false) id, fun z => Or.inr z⟩) (tb_X_f ts tb_0 s (fun _ => False) (fun _ z => z))
  have hS : ∀ s e, (∃ t, t ∈ ts ∧ t s = some e) → en_ok e ∧ en_s e = s := fun s e ⟨t, a1, a2⟩ => hok t a1 s e a2
  have live : ∀ (i : Nat) (e : en_E), el[i]? = some e → j2 el o mx i = mx → en_X (fun e' => ∃ t, t ∈ ts ∧ t (en_s e) = some e') (some e) := by
    intro i e he hi
    obtain ⟨a1, a2⟩ := (j2_mx h0).mp hi
    refine ⟨h1 i e he a1, fun f hf => ?_⟩
    obtain ⟨t, b1, b2⟩ := id hf
    obtain ⟨j, c1, c2⟩ := h2 t b1 _ f b2
    cases hz : en_w f e with
    | false => rfl
    | true => exact absurd ⟨e, f, he, c1, (hS _ f hf).2.symm, Or.inl hz⟩ (a2 j c2)
  refine ⟨fun i e he hi => en_X_u (hS (en_s e)) (hX _) (live i e he hi), fun s e he => ?_, fun i j e e' he he' hi hj hs => ?_⟩
  · have hx := hX s
    rw [he] at hx
    obtain ⟨t, b1, b2⟩ := hx.1
    obtain ⟨i, c1, c2⟩ := h2 t b1 s e b2
    obtain ⟨u, eu, d1, d2, d3, d4⟩ := lo_top c2 c1
    have hu : j2 el o mx u = mx := (j2_mx h0).mpr ⟨d1, d4⟩
    have hse := (hS s e hx.1).2
    have hl := live u eu d2 hu
    rw [d3, hse] at hl
    have := en_X_u (hS s) hx hl
    cases this
    exact ⟨u, d2, hu⟩
  · obtain ⟨a1, a2⟩ := (j2_mx h0).mp hi
    obtain ⟨b1, b2⟩ := (j2_mx h0).mp hj
    apply Classical.byContradiction
    intro hne
    rcases lo_tot he he' hs hne with z | z
    · exact a2 j b1 z
    · exact b2 i a1 z
theorem tr_3 {el : List en_E} {o : Nat → Nat} {mx : Nat} {T : tb_T} (h0 : mx ≠ 0) (h : tr el (fun i => o i = mx) T) : tr el (fun i => j3 el o mx i = mx) (tb_d T) := by
  have cov : ∀ r c p, (∃ (j : Nat) (f : en_E), o j = mx ∧ el[j]? = some f ∧ en_cv f r c p) ↔ tb_c T r c p := by
    intro r c p
    constructor
    · rintro ⟨j, f, a1, a2, a3⟩
      exact ⟨en_s f, f, h.1 j f a2 a1, a3⟩
    · rintro ⟨s, f, a1, a2⟩
      obtain ⟨j, b1, b2⟩ := h.2.1 s f a1
      exact ⟨j, f, b2, b1, a2⟩
  refine ⟨fun i e he hi => ?_, fun s e he => ?_, fun i j e e' he he' hi hj hs => h.2.2 i j e e' he he' ((j3_mx h0).mp hi).1 ((j3_mx h0).mp hj).1 hs⟩
  · obtain ⟨a1, a2⟩ := (j3_mx h0).mp hi
    unfold tb_d
    rw [h.1 i e he a1]
    simp only
    rw [if_neg]
    rw [bo_t]
    rintro ⟨b1, b2⟩
    obtain ⟨j, f, c1, c2, c3⟩ := (cov _ _ _).mpr b2
    exact a2 e he b1 j f c1 c2 c3
  · have hT := tb_d_s he
    obtain ⟨i, b1, b2⟩ := h.2.1 s e hT
    refine ⟨i, b1, (j3_mx h0).mpr ⟨b2, fun e' g1 g2 j f g3 g4 g5 => ?_⟩⟩
    cases b1.symm.trans g1
    unfold tb_d at he
    rw [hT] at he
    simp only at he
    rw [if_pos (bo_t.mpr ⟨g2, (cov _ _ _).mp ⟨j, f, g3, g4, g5⟩⟩)] at he
    cases he
theorem tr_4 {el : List en_E} {now gr : Nat} {o : Nat → Nat} {mx : Nat} {T : tb_T} (h0 : mx ≠ 0) (h : tr el (fun i => o i = mx) T) : tr el (fun i => j4 el now gr o mx i = mx) (tb_o now gr T) := by
  refine ⟨fun i e he hi => ?_, fun s e he => ?_, fun i j e e' he he' hi hj hs => h.2.2 i j e e' he he' ((j4_mx h0).mp hi).1 ((j4_mx h0).mp hj).1 hs⟩
  · obtain ⟨a1, a2⟩ := (j4_mx h0).mp hi
    unfold tb_o
    rw [h.1 i e he a1]
    simp only
    rw [if_neg (a2 e he)]
  · unfold tb_o at he
    cases hT : T s with
    | none => rw [hT] at he; cases he
    | some f =>
      rw [hT] at he
      simp only at he
      split at he
      · cases he
      · next hno =>
        cases he
        obtain ⟨i, b1, b2⟩ := h.2.1 s e hT
        refine ⟨i, b1, (j4_mx h0).mpr ⟨b2, fun e' g1 g2 => ?_⟩⟩
        cases b1.symm.trans g1
        exact hno g2
theorem tr_cg {el : List en_E} {P P' : Nat → Prop} {T : tb_T} (h : tr el P T) (hp : ∀ i, i < el.length → (P i ↔ P' i)) : tr el P' T := by
  have lt : ∀ {i : Nat} {e : en_E}, el[i]? = some e → i < el.length := fun h => (List.getElem?_eq_some_iff.mp h).1
  refine ⟨fun i e he hi => h.1 i e he ((hp i (lt he)).mpr hi), fun s e he => ?_, fun i j e e' he he' hi hj hs => h.2.2 i j e e' he he' ((hp i (lt he)).mpr hi) ((hp j (lt he')).mpr hj) hs⟩
  obtain ⟨i, a1, a2⟩ := h.2.1 s e he
  exact ⟨i, a1, (hp i (lt a1)).mp a2⟩
end
section
def rl_r (fe fo fk ft : Nat → Int32) (el : List en_E) (ow mk : Nat → Nat) (marks : Nat) (rs : st_R) : Prop := lw fe el ∧ (∀ i, i < el.length → fo i = nI (ow i) ∧ ow i ≤ marks) ∧ (∀ k, k < rs.length → fk k = nI (mk k) ∧ 0 < mk k ∧ mk k ≤ marks ∧ ft k = nI (st_ti rs k)) ∧ (∀ k k', k < rs.length → k' < rs.length → mk k = mk k' → k = k') ∧ (∀ i, i < el.length → ow i = 0 ∨ ∃ k, k < rs.length ∧ ow i = mk k) ∧ (∀ k, k < rs.length → tr el (fun i => ow i = mk k) (st_tb rs k))
theorem j1_hit {ow mk : Nat → Nat} {i0 K mx i : Nat} (h : j1 ow mk i0 K mx i = mk K) (hK : i0 ≤ K) (hmx : mk K ≠ mx) : j1 ow mk i0 (K + 1) mx i = mx := by
  by_cases hG : jG ow mk i0 K i
  · unfold j1 at h
    rw [if_pos (bo_t.mpr hG)] at h
    exact absurd h.symm hmx
  · rw [j1_no hG] at h
    exact if_pos (bo_t.mpr ⟨K, hK, by omega, h⟩)
theorem j1_miss {ow mk : Nat → Nat} {i0 K mx i : Nat} (h : j1 ow mk i0 K mx i ≠ mk K) : j1 ow mk i0 (K + 1) mx i = j1 ow mk i0 K mx i := by
  by_cases hG : jG ow mk i0 K i
  · obtain ⟨k, h1, h2, h3⟩ := id hG
    unfold j1
    rw [if_pos (bo_t.mpr hG), if_pos (bo_t.mpr ⟨k, h1, by omega, h3⟩)]
  · rw [j1_no hG] at h
    rw [j1_no hG, j1_no]
    rintro ⟨k, h1, h2, h3⟩
    by_cases hk : k = K
    · subst hk
      exact h h3
    · exact hG ⟨k, h1, by omega, h3⟩
theorem va_cm {α : Type} (f : Nat → α) {i j : Nat} (a c : α) (h : i ≠ j) : va_up (va_up f i a) j c = va_up (va_up f j c) i a := by
  funext q
  by_cases h1 : q = j
  · subst h1
    rw [va_up_self, va_up_ne _ _ (Ne.symm h), va_up_self]
  · rw [va_up_ne _ _ h1]
    by_cases h2 : q = i
    · subst h2
      rw [va_up_self, va_up_self]
    · rw [va_up_ne _ _ h2, va_up_ne _ _ h2, va_up_ne _ _ h1]

def ao (fo : Nat → Int32) (n : Nat) (o : Nat → Nat) : Prop := ∀ i, i < n → fo i = nI (o i)
theorem ao_up {fo : Nat → Int32} {n : Nat} {o o' : Nat → Nat} {E : Nat} {v : Int32} (h : ao fo n o) (hv : v = nI (o' E)) (ho : ∀ i, i < n → i ≠ E → o' i = o i) : ao (upd fo E v) n o' := by
  intro i hi
  unfold upd
  by_cases hE : i = E
  · subst hE
    rw [if_pos rfl, hv]
  · rw [if_neg hE, h i hi, ho i hi hE]
def mixo (o o' : Nat → Nat) (E i : Nat) : Nat := if i < E then o' i else o i
theorem mixo_0 {o o' : Nat → Nat} : mixo o o' 0 = o := by
  funext i
  exact if_neg (Nat.not_lt_zero i)
theorem mixo_E {o o' : Nat → Nat} {E : Nat} : mixo o o' E E = o E := if_neg (Nat.lt_irrefl E)
theorem mixo_s {o o' : Nat → Nat} {E : Nat} : mixo o o' (E + 1) E = o' E := if_pos (Nat.lt_succ_self E)
theorem mixo_n {o o' : Nat → Nat} {E i : Nat} (h : i ≠ E) : mixo o o' (E + 1) i = mixo o o' E i := by
  unfold mixo
  by_cases h1 : i < E
  · rw [if_pos h1, if_pos (by omega)]
  · rw [if_neg h1, if_neg (by omega)]
theorem mixo_or {o o' : Nat → Nat} {E i : Nat} : mixo o o' E i = o' i ∨ mixo o o' E i = o i := by
  unfold mixo
  split
  · exact Or.inl rfl
  · exact Or.inr rfl
theorem mixo_up {o o' : Nat → Nat} {E : Nat} : va_up (mixo o o' E) E (o' E) = mixo o o' (E + 1) := by
  funext i
  by_cases h : i = E
  · subst h
    rw [va_up_self, mixo_s]
  · rw [va_up_ne _ _ h, mixo_n h]
noncomputable def jall (el : List en_E) (now gr : Nat) (all : Bool) (ow mk : Nat → Nat) (i0 K mx : Nat) : Nat → Nat := if all = true then j4 el now gr (j3 el (j2 el (j1 ow mk i0 K mx) mx) mx) mx else j3 el (j2 el (j1 ow mk i0 K mx) mx) mx
end
section
set_option maxHeartbeats 4000000 in
set_option maxRecDepth 100000 in
theorem c_M_join (g : gx_T) {M : mp_M} {b : Nat} {A : Nat → Nat} {cap gr now mem logs safe marks : Nat} {f : Nat → Nat → Int32} {el : List en_E} {ow mk : Nat → Nat} {rs : st_R} (h : ra_M g M b A cap gr now mem logs safe el.length rs.length marks f) (R : rl_r (f 2) (f 3) (f 4) (f 5) el ow mk marks rs) (i0 many tier : Nat) (hm : i0 + many = rs.length) (hm0 : 0 < many) (hel : el.length ≤ 520) (hrs : rs.length ≤ 520) (hmk : marks < 1000000) (hnow : now ≤ 100000) (hgr : gr ≤ 100) : Ct g yXM_join cXM_join 8 none 4 [.ref b, .int (nI many), .int (nI tier)] M (pv (fun M' => ∃ f3 f4 f5 : Nat → Int32, mp_k (ra_P b A) M M' ∧ ra_M g M' b A cap gr now mem logs safe el.length (i0 + 1) (marks + 1) (va_up (va_up (va_up f 4 f4) 5 f5) 3 f3) ∧ f4 = upd (f 4) i0 (nI (marks + 1)) ∧ f5 = upd (f 5) i0 (nI tier) ∧ ao f3 el.length (jall el now gr (decide (i0 = 0)) ow mk i0 rs.length (marks + 1)))) 0 0 := by
  refine ct_intro (L0 := [some (.ref b), some (.int (nI many)), some (.int (nI tier)), none, none, none, none, none]) (by decide) (Nat.le_of_ble_eq_true rfl) rfl rfl (fun x C Rx I => ?_)
  obtain ⟨R1, R2, R3, R4, R5, R6⟩ := R
  have hmx0 : marks + 1 ≠ 0 := by omega
  have okE : ∀ (i : Nat) (e : en_E), el[i]? = some e → en_ok e := fun i e he => (R1 i e he).2
  have hget : ∀ i, i < el.length → ∃ e, el[i]? = some e := fun i hi => ⟨_, List.getElem?_eq_getElem hi⟩
  have le1 : ∀ K i, i < el.length → j1 ow mk i0 K (marks + 1) i ≤ marks + 1 := by
    intro K i hi
    have := (R2 i hi).2
    unfold j1
    split <;> omega

  have ph4 : ∀ (o3 : Nat → Nat), (∀ i, i < el.length → o3 i ≤ marks + 1) → ∀ (n E : Nat) (M' : mp_M) (f3 f4 f5 : Nat → Int32), E + n = el.length → f4 = upd (f 4) i0 (nI (marks + 1)) → f5 = upd (f 5) i0 (nI tier) → mp_k (ra_P b A) M M' → ra_M g M' b A cap gr now mem logs safe el.length (i0 + 1) (marks + 1) (va_up (va_up (va_up f 4 f4) 5 f5) 3 f3) → ao f3 el.length (mixo o3 (j4 el now gr o3 (marks + 1)) E) → (∀ f3', ao f3' el.length (if decide (i0 = 0) = true then j4 el now gr o3 (marks + 1) else o3) → ao f3' el.length (jall el now gr (decide (i0 = 0)) ow mk i0 rs.length (marks + 1))) → ((¬ i0 = 0) → E = 0) → ∀ L5 L6 L7, VV g x M' 0 0 489 [some (.ref b), some (.int (nI many)), some (.int (nI tier)), some (.int (bI (decide (i0 = 0)))), some (.int (nI E)), L5, L6, L7] [] := by
    intro o3 ho3 n
    induction n with
    | zero =>
      intro E M' f3 f4 f5 hE e4 e5 hk h' ha fin hz L5 L6 L7
      have hEl : E = el.length := by omega
      refine v_iload C 491 dXM_join_489 rfl rfl ?_
      first | refine v_aload_n C 492 dXM_join_491 rfl rfl ?_ | refine v_aload_nN C 492 dXM_join_491 rfl rfl ?_ | refine v_aload_nQ C 492 dXM_join_491 rfl rfl ?_
      refine gt_XM_85 C 495 dXM_join_492 rfl h'.1 rfl ?_
      refine v_icmp_ge C 498 586 dXM_join_495 rfl rfl (fun h9 => ?_) (fun h9 => False.elim (by first | exact h9 (nI_le (show el.length ≤ E by omega) (by omega)) | exact absurd h9 (nI_le (show el.length ≤ E by omega) (by omega))))
      refine v_vret C Rx dXM_join_586 (by omega) (by omega) ⟨rfl, f3, f4, f5, hk, h', e4, e5, fin f3 (fun i hi => ?_)⟩
      rw [ha i hi]
      unfold mixo
      rw [if_pos (by omega)]
      by_cases hi0 : i0 = 0
      · rw [if_pos (decide_eq_true hi0)]
      · have := hz hi0
        omega
    | succ n ih =>
      intro E M' f3 f4 f5 hE e4 e5 hk h' ha fin hz L5 L6 L7
      have hA2 := h'.2.1 2 (by decide)
      have hA3 := h'.2.1 3 (by decide)
      rw [va_up_self] at hA3
      rw [va_up_ne _ _ (by decide), va_up_ne _ _ (by decide), va_up_ne _ _ (by decide)] at hA2
      obtain ⟨e, he⟩ := hget E (by omega)
      obtain ⟨hwe, ok⟩ := R1 E e he
      have o8 := ok.2.2.2.2.2.2.2
      have hoE := ho3 E (by omega)
      have hfE : f3 E = nI (o3 E) := by rw [ha E (by omega), mixo_E]
      refine v_iload C 491 dXM_join_489 rfl rfl ?_
      first | refine v_aload_n C 492 dXM_join_491 rfl rfl ?_ | refine v_aload_nN C 492 dXM_join_491 rfl rfl ?_ | refine v_aload_nQ C 492 dXM_join_491 rfl rfl ?_
      refine gt_XM_85 C 495 dXM_join_492 rfl h'.1 rfl ?_
      refine v_icmp_ge C 498 586 dXM_join_495 rfl rfl (fun h9 => False.elim (by first | exact h9 (nI_ge (show E < el.length by omega) (by omega)) | exact absurd h9 (nI_ge (show E < el.length by omega) (by omega)))) (fun h9 => ?_)
      refine v_iload_n C 499 dXM_join_498 rfl rfl ?_
      by_cases hi0 : i0 = 0
      · rw [bI_t (decide_eq_true hi0)]
        refine v_if_eq C 502 586 dXM_join_499 rfl rfl (fun h9 => False.elim (by first | exact h9 ((by decide)) | exact absurd h9 ((by decide)))) (fun h9 => ?_)
        first | refine v_aload_n C 503 dXM_join_502 rfl rfl ?_ | refine v_aload_nN C 503 dXM_join_502 rfl rfl ?_ | refine v_aload_nQ C 503 dXM_join_502 rfl rfl ?_
        refine gt_XM_16 C 506 dXM_join_503 rfl h'.1 rfl ?_
        refine v_bipush C 508 dXM_join_506 rfl (nI 7) (by decide) ?_
        refine v_iload C 510 dXM_join_508 rfl rfl ?_
        refine v_imul C 511 dXM_join_510 rfl ?_
        refine v_top _ (.int (nI (7 * E))) (congrArg Value.int (pk_mul 7 E)) ?_
        refine v_bipush C 513 dXM_join_511 rfl (nI 6) (by decide) ?_
        refine v_iadd C 514 dXM_join_513 rfl ?_
        refine v_iald C 515 dXM_join_514 rfl hA2 (7 * E + 6) (nI_add (7 * E) 6) (show 7 * E + 6 < 3640 by omega) (ra_sz_lt 2) ?_
        rw [hwe.2.2.2.2.2.2]
        refine v_istore C 517 _ dXM_join_515 rfl (Nat.lt_of_lt_of_le (Nat.lt_succ_self _) (Nat.le_of_ble_eq_true rfl)) rfl ?_
        refine v_iload C 519 dXM_join_517 rfl rfl ?_
        have tail : ∀ bl : Bool, (bl = true ↔ en_t e + gr ≤ now) → ∀ L5 L6 L7, VV g x M' 0 0 541 [some (.ref b), some (.int (nI many)), some (.int (nI tier)), some (.int 1), some (.int (nI E)), L5, L6, L7] [.int (bI bl)] := by
          intro bl hbl L5 L6 L7
          have wr : ∀ v : Nat, v = j4 el now gr o3 (marks + 1) E → ∀ L5 L6 L7, VV g x M' 0 0 579 [some (.ref b), some (.int (nI many)), some (.int (nI tier)), some (.int 1), some (.int (nI E)), L5, L6, L7] [.int (nI v), .int (nI E), .ref (A 3)] := by
            intro v hv L5 L6 L7
            refine v_iast C 580 dXM_join_579 rfl hA3 E rfl (show E < 520 by omega) (ra_sz_lt 3) ?_
            have h2 := ra_up h' 3 (by decide) (upd f3 E (nI v))
            rw [bx_uu] at h2
            refine v_iinc C 583 _ (nI (E + 1)) dXM_join_580 rfl rfl (nI_1 E) rfl ?_
            refine v_goto C 489 dXM_join_583 rfl ?_
            have := ih (E + 1) _ (upd f3 E (nI v)) f4 f5 (by omega) e4 e5 (hk.tr (ra_ku (by decide))) h2 (ao_up ha (by rw [mixo_s, hv]) (fun i hi hne => mixo_n hne)) fin (fun z => absurd hi0 z) L5 L6 L7
            rw [bI_t (decide_eq_true hi0)] at this
            exact this
          have keep : ¬ (o3 E = marks + 1 ∧ bl = true) → ∀ L5 L6 L7, VV g x M' 0 0 572 [some (.ref b), some (.int (nI many)), some (.int (nI tier)), some (.int 1), some (.int (nI E)), L5, L6, L7] [.int (nI E), .ref (A 3)] := by
            intro hno L5 L6 L7
            first | refine v_aload_n C 573 dXM_join_572 rfl rfl ?_ | refine v_aload_nN C 573 dXM_join_572 rfl rfl ?_ | refine v_aload_nQ C 573 dXM_join_572 rfl rfl ?_
            refine gt_XM_19 C 576 dXM_join_573 rfl h'.1 rfl ?_
            refine v_iload C 578 dXM_join_576 rfl rfl ?_
            refine v_iald C 579 dXM_join_578 rfl hA3 E rfl (show E < 520 by omega) (ra_sz_lt 3) ?_
            rw [hfE]
            refine wr _ ?_ _ _ _
            symm
            refine if_neg ?_
            rw [bo_t]
            rintro ⟨z1, e', z2, z3⟩
            cases he.symm.trans z2
            exact hno ⟨z1, hbl.mpr z3⟩
          refine v_istore C 543 _ dXM_join_541 rfl (Nat.lt_of_lt_of_le (Nat.lt_succ_self _) (Nat.le_of_ble_eq_true rfl)) rfl ?_
          first | refine v_aload_n C 544 dXM_join_543 rfl rfl ?_ | refine v_aload_nN C 544 dXM_join_543 rfl rfl ?_ | refine v_aload_nQ C 544 dXM_join_543 rfl rfl ?_
          refine gt_XM_19 C 547 dXM_join_544 rfl h'.1 rfl ?_
          refine v_iload C 549 dXM_join_547 rfl rfl ?_
          first | refine v_aload_n C 550 dXM_join_549 rfl rfl ?_ | refine v_aload_nN C 550 dXM_join_549 rfl rfl ?_ | refine v_aload_nQ C 550 dXM_join_549 rfl rfl ?_
          refine gt_XM_19 C 553 dXM_join_550 rfl h'.1 rfl ?_
          refine v_iload C 555 dXM_join_553 rfl rfl ?_
          refine v_iald C 556 dXM_join_555 rfl hA3 E rfl (show E < 520 by omega) (ra_sz_lt 3) ?_
          rw [hfE]
          first | refine v_aload_n C 557 dXM_join_556 rfl rfl ?_ | refine v_aload_nN C 557 dXM_join_556 rfl rfl ?_ | refine v_aload_nQ C 557 dXM_join_556 rfl rfl ?_
          refine gt_XM_82 C 560 dXM_join_557 rfl h'.1 rfl ?_
          refine v_icmp_ne C 563 572 dXM_join_560 rfl rfl (fun hc => ?_) (fun hc => ?_)
          · exact keep (fun z => hc (by rw [z.1])) _ _ _
          · rw [nI_eq (by omega) (by omega)] at hc
            refine v_iload C 565 dXM_join_563 rfl rfl ?_
            refine v_if_eq C 568 572 dXM_join_565 rfl rfl (fun hb => ?_) (fun hb => ?_)
            · rw [bI_0] at hb
              exact keep (fun z => by rw [hb] at z; cases z.2) _ _ _
            · refine v_iconst C 569 dXM_join_568 rfl (nI 0) (by decide) ?_
              refine v_goto C 579 dXM_join_569 rfl ?_
              refine wr 0 ?_ _ _ _
              symm
              refine if_pos (bo_t.mpr ⟨hc, e, he, hbl.mp ?_⟩)
              cases hz2 : bl with
              | true => rfl
              | false => exact absurd (bI_0.mpr hz2) hb
        have no : ¬ en_t e + gr ≤ now → ∀ L5 L6 L7, VV g x M' 0 0 540 [some (.ref b), some (.int (nI many)), some (.int (nI tier)), some (.int 1), some (.int (nI E)), L5, L6, L7] [] := by
          intro hno L5 L6 L7
          refine v_iconst C 541 dXM_join_540 rfl (nI 0) (by decide) ?_
          exact tail false ⟨fun z => (by cases z), fun z => absurd z hno⟩ _ _ _
        refine v_if_lt C 522 540 dXM_join_519 rfl rfl (fun ht => ?_) (fun ht => ?_)
        · have := (tw_n ok).mp ht
          exact no (by omega) _ _ _
        · have htn : en_t e ≠ 2147483647 := fun z => ht ((tw_n ok).mpr z)
          have htw : tw (en_t e) = nI (en_t e) := if_neg htn
          rw [htw]
          refine v_iload C 524 dXM_join_522 rfl rfl ?_
          first | refine v_aload_n C 525 dXM_join_524 rfl rfl ?_ | refine v_aload_nN C 525 dXM_join_524 rfl rfl ?_ | refine v_aload_nQ C 525 dXM_join_524 rfl rfl ?_
          refine gt_XM_35 C 528 dXM_join_525 rfl h'.1 rfl ?_
          refine v_iadd C 529 dXM_join_528 rfl ?_
          refine v_top _ (.int (nI (en_t e + gr))) (congrArg Value.int (nI_add (en_t e) gr)) ?_
          first | refine v_aload_n C 530 dXM_join_529 rfl rfl ?_ | refine v_aload_nN C 530 dXM_join_529 rfl rfl ?_ | refine v_aload_nQ C 530 dXM_join_529 rfl rfl ?_
          refine gt_XM_75 C 533 dXM_join_530 rfl h'.1 rfl ?_
          refine v_icmp_gt C 536 540 dXM_join_533 rfl rfl (fun hle => ?_) (fun hle => ?_)
          · rw [nI_ltI (by omega) (by omega)] at hle
            exact no (by omega) _ _ _
          · rw [nI_ltI (by omega) (by omega)] at hle
            refine v_iconst C 537 dXM_join_536 rfl (nI 1) (by decide) ?_
            refine v_goto C 541 dXM_join_537 rfl ?_
            exact tail true ⟨fun _ => by omega, fun _ => rfl⟩ _ _ _
      · have hE0 := hz hi0
        subst hE0
        rw [bI_f (decide_eq_false hi0)]
        refine v_if_eq C 502 586 dXM_join_499 rfl rfl (fun h9 => ?_) (fun h9 => False.elim (by first | exact h9 (rfl) | exact absurd h9 (rfl)))
        refine v_vret C Rx dXM_join_586 (by omega) (by omega) ⟨rfl, f3, f4, f5, hk, h', e4, e5, fin f3 ?_⟩
        rw [mixo_0] at ha
        rw [if_neg (by rw [decide_eq_true_eq]; exact hi0)]
        exact ha
  have ph3 : ∀ (o2 : Nat → Nat), (∀ i, i < el.length → o2 i ≤ marks + 1) → (∀ f3', ao f3' el.length (if decide (i0 = 0) = true then j4 el now gr (j3 el o2 (marks + 1)) (marks + 1) else j3 el o2 (marks + 1)) → ao f3' el.length (jall el now gr (decide (i0 = 0)) ow mk i0 rs.length (marks + 1))) → ∀ (n E : Nat) (M' : mp_M) (f3 f4 f5 : Nat → Int32), E + n = el.length → f4 = upd (f 4) i0 (nI (marks + 1)) → f5 = upd (f 5) i0 (nI tier) → mp_k (ra_P b A) M M' → ra_M g M' b A cap gr now mem logs safe el.length (i0 + 1) (marks + 1) (va_up (va_up (va_up f 4 f4) 5 f5) 3 f3) → ao f3 el.length (mixo o2 (j3 el o2 (marks + 1)) E) → ∀ L5 L6 L7, VV g x M' 0 0 334 [some (.ref b), some (.int (nI many)), some (.int (nI tier)), some (.int (bI (decide (i0 = 0)))), some (.int (nI E)), L5, L6, L7] [] := by
    intro o2 ho2 fin n
    have ho3 : ∀ i, i < el.length → j3 el o2 (marks + 1) i ≤ marks + 1 := by
      intro i hi
      have := ho2 i hi
      rcases j3_or (el := el) (o := o2) (mx := marks + 1) (i := i) with z | z <;> rw [z] <;> omega
    induction n with
    | zero =>
      intro E M' f3 f4 f5 hE e4 e5 hk h' ha L5 L6 L7
      refine v_iload C 336 dXM_join_334 rfl rfl ?_
      first | refine v_aload_n C 337 dXM_join_336 rfl rfl ?_ | refine v_aload_nN C 337 dXM_join_336 rfl rfl ?_ | refine v_aload_nQ C 337 dXM_join_336 rfl rfl ?_
      refine gt_XM_85 C 340 dXM_join_337 rfl h'.1 rfl ?_
      refine v_icmp_ge C 343 486 dXM_join_340 rfl rfl (fun h9 => ?_) (fun h9 => False.elim (by first | exact h9 (nI_le (show el.length ≤ E by omega) (by omega)) | exact absurd h9 (nI_le (show el.length ≤ E by omega) (by omega))))
      refine v_iconst C 487 dXM_join_486 rfl (nI 0) (by decide) ?_
      refine v_istore C 489 _ dXM_join_487 rfl (Nat.lt_of_lt_of_le (Nat.lt_succ_self _) (Nat.le_of_ble_eq_true rfl)) rfl ?_
      refine ph4 (j3 el o2 (marks + 1)) ho3 el.length 0 M' f3 f4 f5 (by omega) e4 e5 hk h' ?_ fin (fun _ => rfl) _ _ _
      rw [mixo_0]
      intro i hi
      rw [ha i hi]
      unfold mixo
      rw [if_pos (by omega)]
    | succ n ih =>
      intro E M' f3 f4 f5 hE e4 e5 hk h' ha L5 L6 L7
      obtain ⟨e, he⟩ := hget E (by omega)
      obtain ⟨hwe, ok⟩ := R1 E e he
      have o1 := ok.2.1
      have o3 := ok.2.2.1
      have o4 := ok.2.2.2.1
      have o5 := ok.2.2.2.2.2.1
      have inner : ∀ (n' Fi : Nat) (M' : mp_M) (f3 : Nat → Int32) (cur : Nat), Fi + n' = el.length → mp_k (ra_P b A) M M' → ra_M g M' b A cap gr now mem logs safe el.length (i0 + 1) (marks + 1) (va_up (va_up (va_up f 4 f4) 5 f5) 3 f3) → ao f3 el.length (va_up (mixo o2 (j3 el o2 (marks + 1)) E) E cur) → ((cur = marks + 1 ∧ o2 E = marks + 1 ∧ ∀ (j : Nat) (e' : en_E), j < Fi → o2 j = marks + 1 → el[j]? = some e' → en_k e ≠ 2 → ¬ en_cv e' (en_r e) (en_c e) (en_p e)) ∨ (cur = j3 el o2 (marks + 1) E ∧ cur ≠ marks + 1)) → ∀ L6 L7, VV g x M' 0 0 346 [some (.ref b), some (.int (nI many)), some (.int (nI tier)), some (.int (bI (decide (i0 = 0)))), some (.int (nI E)), some (.int (nI Fi)), L6, L7] [] := by
        intro n'
        have out : ∀ (M' : mp_M) (f3 : Nat → Int32), mp_k (ra_P b A) M M' → ra_M g M' b A cap gr now mem logs safe el.length (i0 + 1) (marks + 1) (va_up (va_up (va_up f 4 f4) 5 f5) 3 f3) → ao f3 el.length (va_up (mixo o2 (j3 el o2 (marks + 1)) E) E (j3 el o2 (marks + 1) E)) → ∀ L5 L6 L7, VV g x M' 0 0 480 [some (.ref b), some (.int (nI many)), some (.int (nI tier)), some (.int (bI (decide (i0 = 0)))), some (.int (nI E)), L5, L6, L7] [] := by
          intro M' f3 hk h' ha L5 L6 L7
          refine v_iinc C 483 _ (nI (E + 1)) dXM_join_480 rfl rfl (nI_1 E) rfl ?_
          refine v_goto C 334 dXM_join_483 rfl ?_
          exact ih (E + 1) M' f3 f4 f5 (by omega) e4 e5 hk h' (by rw [← mixo_up]; exact ha) _ _ _
        induction n' with
        | zero =>
          intro Fi M' f3 cur hF hk h' ha hcur L6 L7
          refine v_iload C 348 dXM_join_346 rfl rfl ?_
          first | refine v_aload_n C 349 dXM_join_348 rfl rfl ?_ | refine v_aload_nN C 349 dXM_join_348 rfl rfl ?_ | refine v_aload_nQ C 349 dXM_join_348 rfl rfl ?_
          refine gt_XM_85 C 352 dXM_join_349 rfl h'.1 rfl ?_
          refine v_icmp_ge C 355 480 dXM_join_352 rfl rfl (fun h9 => ?_) (fun h9 => False.elim (by first | exact h9 (nI_le (show el.length ≤ Fi by omega) (by omega)) | exact absurd h9 (nI_le (show el.length ≤ Fi by omega) (by omega))))
          have hce : cur = j3 el o2 (marks + 1) E := by
            rcases hcur with ⟨c1, c2, c3⟩ | ⟨c1, -⟩
            · rw [c1]
              symm
              refine (j3_mx hmx0).mpr ⟨c2, fun e' a1 a2 j f' a3 a4 => ?_⟩
              cases he.symm.trans a1
              exact c3 j f' (by have := (List.getElem?_eq_some_iff.mp a4).1; omega) a3 a4 a2
            · exact c1
          exact out M' f3 hk h' (by rw [← hce]; exact ha) _ _ _
        | succ n' ih2 =>
          intro Fi M' f3 cur hF hk h' ha hcur L6 L7
          have hA2 := h'.2.1 2 (by decide)
          have hA3 := h'.2.1 3 (by decide)
          rw [va_up_self] at hA3
          rw [va_up_ne _ _ (by decide), va_up_ne _ _ (by decide), va_up_ne _ _ (by decide)] at hA2
          have hfE : f3 E = nI cur := by rw [ha E (by omega), va_up_self]
          have hcl : cur ≤ marks + 1 := by
            rcases hcur with ⟨c1, -, -⟩ | ⟨c1, -⟩
            · omega
            · rw [c1]
              exact ho3 E (by omega)
          refine v_iload C 348 dXM_join_346 rfl rfl ?_
          first | refine v_aload_n C 349 dXM_join_348 rfl rfl ?_ | refine v_aload_nN C 349 dXM_join_348 rfl rfl ?_ | refine v_aload_nQ C 349 dXM_join_348 rfl rfl ?_
          refine gt_XM_85 C 352 dXM_join_349 rfl h'.1 rfl ?_
          refine v_icmp_ge C 355 480 dXM_join_352 rfl rfl (fun h9 => False.elim (by first | exact h9 (nI_ge (show Fi < el.length by omega) (by omega)) | exact absurd h9 (nI_ge (show Fi < el.length by omega) (by omega)))) (fun h9 => ?_)
          first | refine v_aload_n C 356 dXM_join_355 rfl rfl ?_ | refine v_aload_nN C 356 dXM_join_355 rfl rfl ?_ | refine v_aload_nQ C 356 dXM_join_355 rfl rfl ?_
          refine gt_XM_19 C 359 dXM_join_356 rfl h'.1 rfl ?_
          refine v_iload C 361 dXM_join_359 rfl rfl ?_
          refine v_iald C 362 dXM_join_361 rfl hA3 E rfl (show E < 520 by omega) (ra_sz_lt 3) ?_
          rw [hfE]
          first | refine v_aload_n C 363 dXM_join_362 rfl rfl ?_ | refine v_aload_nN C 363 dXM_join_362 rfl rfl ?_ | refine v_aload_nQ C 363 dXM_join_362 rfl rfl ?_
          refine gt_XM_82 C 366 dXM_join_363 rfl h'.1 rfl ?_
          refine v_icmp_ne C 369 480 dXM_join_366 rfl rfl (fun hc => ?_) (fun hc => ?_)
          · have hce : cur = j3 el o2 (marks + 1) E := by
              rcases hcur with ⟨c1, -, -⟩ | ⟨c1, -⟩
              · exact absurd (by rw [c1]) hc
              · exact c1
            exact out M' f3 hk h' (by rw [← hce]; exact ha) _ _ _
          · rw [nI_eq (by omega) (by omega)] at hc
            obtain ⟨c2, c3⟩ : o2 E = marks + 1 ∧ ∀ (j : Nat) (e' : en_E), j < Fi → o2 j = marks + 1 → el[j]? = some e' → en_k e ≠ 2 → ¬ en_cv e' (en_r e) (en_c e) (en_p e) := by
              rcases hcur with ⟨-, c2, c3⟩ | ⟨-, c2⟩
              · exact ⟨c2, c3⟩
              · exact absurd hc c2
            first | refine v_aload_n C 370 dXM_join_369 rfl rfl ?_ | refine v_aload_nN C 370 dXM_join_369 rfl rfl ?_ | refine v_aload_nQ C 370 dXM_join_369 rfl rfl ?_
            refine gt_XM_16 C 373 dXM_join_370 rfl h'.1 rfl ?_
            refine v_bipush C 375 dXM_join_373 rfl (nI 7) (by decide) ?_
            refine v_iload C 377 dXM_join_375 rfl rfl ?_
            refine v_imul C 378 dXM_join_377 rfl ?_
            refine v_top _ (.int (nI (7 * E))) (congrArg Value.int (pk_mul 7 E)) ?_
            refine v_ri 381 (cl_XM_38 C ((c_M_point g hA2 (ra_sz_lt 2) (show 7 * E < 3640 by omega) hwe ok)) dXM_join_378 rfl rfl (Nat.le_of_ble_eq_true rfl) (Nat.le_of_ble_eq_true rfl) (Nat.le_of_ble_eq_true rfl) (by omega) (by omega)) rfl (fun v M1 hv => ?_)
            obtain ⟨rfl, rfl⟩ := hv
            refine v_if_eq C 384 480 dXM_join_381 rfl rfl (fun hp => ?_) (fun hp => ?_)
            · rw [bI_0] at hp
              have hk2 : en_k e = 2 := Classical.byContradiction (of_decide_eq_false hp)
              refine out M' f3 hk h' ?_ _ _ _
              have hj3 : j3 el o2 (marks + 1) E = cur := by rw [j3_w he hk2, c2, hc]
              rw [hj3]
              exact ha
            · have hk2 : en_k e ≠ 2 := fun z => hp (bI_0.mpr (decide_eq_false (fun y => y z)))
              obtain ⟨e', he'⟩ := hget Fi (by omega)
              obtain ⟨hwe', ok'⟩ := R1 Fi e' he'
              have wr : ∀ bl : Bool, (bl = true ↔ (o2 Fi = marks + 1 ∧ en_cv e' (en_r e) (en_c e) (en_p e))) → ∀ L6 L7, VV g x M' 0 0 452 [some (.ref b), some (.int (nI many)), some (.int (nI tier)), some (.int (bI (decide (i0 = 0)))), some (.int (nI E)), some (.int (nI Fi)), L6, L7] [.int (bI bl)] := by
                intro bl hbl L6 L7
                have st : ∀ v : Nat, (v = if bl = true then 0 else marks + 1) → ∀ L6 L7, VV g x M' 0 0 473 [some (.ref b), some (.int (nI many)), some (.int (nI tier)), some (.int (bI (decide (i0 = 0)))), some (.int (nI E)), some (.int (nI Fi)), L6, L7] [.int (nI v), .int (nI E), .ref (A 3)] := by
                  intro v hv L6 L7
                  refine v_iast C 474 dXM_join_473 rfl hA3 E rfl (show E < 520 by omega) (ra_sz_lt 3) ?_
                  have h2 := ra_up h' 3 (by decide) (upd f3 E (nI v))
                  rw [bx_uu] at h2
                  refine v_iinc C 477 _ (nI (Fi + 1)) dXM_join_474 rfl rfl (nI_1 Fi) rfl ?_
                  refine v_goto C 346 dXM_join_477 rfl ?_
                  refine ih2 (Fi + 1) _ (upd f3 E (nI v)) v (by omega) (hk.tr (ra_ku (by decide))) h2 (ao_up ha (by rw [va_up_self]) (fun i hi hne => by rw [va_up_ne _ _ hne, va_up_ne _ _ hne])) ?_ _ _
                  cases hz : bl with
                  | true =>
                    rw [hz, if_pos rfl] at hv
                    obtain ⟨d1, d2⟩ := hbl.mp hz
                    right
                    refine ⟨?_, by omega⟩
                    rw [hv]
                    symm
                    exact if_pos (bo_t.mpr ⟨c2, e, he, hk2, Fi, e', d1, he', d2⟩)
                  | false =>
                    rw [hz] at hv
                    have hv2 : v = marks + 1 := hv
                    refine Or.inl ⟨hv2, c2, fun j e2 hj a1 a2 a3 => ?_⟩
                    by_cases hjF : j = Fi
                    · subst hjF
                      cases he'.symm.trans a2
                      intro d2
                      have := hbl.mpr ⟨a1, d2⟩
                      rw [hz] at this
                      cases this
                    · exact c3 j e2 (by omega) a1 a2 a3
                refine v_istore C 454 _ dXM_join_452 rfl (Nat.lt_of_lt_of_le (Nat.lt_succ_self _) (Nat.le_of_ble_eq_true rfl)) rfl ?_
                first | refine v_aload_n C 455 dXM_join_454 rfl rfl ?_ | refine v_aload_nN C 455 dXM_join_454 rfl rfl ?_ | refine v_aload_nQ C 455 dXM_join_454 rfl rfl ?_
                refine gt_XM_19 C 458 dXM_join_455 rfl h'.1 rfl ?_
                refine v_iload C 460 dXM_join_458 rfl rfl ?_
                refine v_iload C 462 dXM_join_460 rfl rfl ?_
                refine v_if_eq C 465 469 dXM_join_462 rfl rfl (fun hb => ?_) (fun hb => ?_)
                · first | refine v_aload_n C 470 dXM_join_469 rfl rfl ?_ | refine v_aload_nN C 470 dXM_join_469 rfl rfl ?_ | refine v_aload_nQ C 470 dXM_join_469 rfl rfl ?_
                  refine gt_XM_82 C 473 dXM_join_470 rfl h'.1 rfl ?_
                  rw [bI_0] at hb
                  refine st (marks + 1) ?_ _ _
                  rw [hb]
                  rfl
                · refine v_iconst C 466 dXM_join_465 rfl (nI 0) (by decide) ?_
                  refine v_goto C 473 dXM_join_466 rfl ?_
                  refine st 0 ?_ _ _
                  cases hz : bl with
                  | true => rfl
                  | false => exact absurd (bI_0.mpr hz) hb
              have nob : ¬ (o2 Fi = marks + 1 ∧ en_cv e' (en_r e) (en_c e) (en_p e)) → ∀ L6 L7, VV g x M' 0 0 451 [some (.ref b), some (.int (nI many)), some (.int (nI tier)), some (.int (bI (decide (i0 = 0)))), some (.int (nI E)), some (.int (nI Fi)), L6, L7] [] := by
                intro hno L6 L7
                refine v_iconst C 452 dXM_join_451 rfl (nI 0) (by decide) ?_
                exact wr false ⟨fun z => (by cases z), fun z => absurd z hno⟩ _ _
              have oF : en_cv e' (en_r e) (en_c e) (en_p e) → va_up (mixo o2 (j3 el o2 (marks + 1)) E) E cur Fi = o2 Fi := by
                intro hcv
                have hne : Fi ≠ E := by
                  intro z
                  subst z
                  cases he.symm.trans he'
                  exact hk2 hcv.1
                rw [va_up_ne _ _ hne]
                rcases mixo_or (o := o2) (o' := j3 el o2 (marks + 1)) (E := E) (i := Fi) with z | z
                · rw [z, j3_w he' hcv.1]
                · exact z
              have hFl : va_up (mixo o2 (j3 el o2 (marks + 1)) E) E cur Fi ≤ marks + 1 := by
                by_cases hne : Fi = E
                · rw [hne, va_up_self]
                  exact hcl
                · rw [va_up_ne _ _ hne]
                  have a1 := ho2 Fi (by omega)
                  have a2 := ho3 Fi (by omega)
                  rcases mixo_or (o := o2) (o' := j3 el o2 (marks + 1)) (E := E) (i := Fi) with z | z <;> rw [z] <;> omega
              refine v_bipush C 386 dXM_join_384 rfl (nI 7) (by decide) ?_
              refine v_iload C 388 dXM_join_386 rfl rfl ?_
              refine v_imul C 389 dXM_join_388 rfl ?_
              refine v_top _ (.int (nI (7 * E))) (congrArg Value.int (pk_mul 7 E)) ?_
              refine v_istore C 391 _ dXM_join_389 rfl (Nat.lt_of_lt_of_le (Nat.lt_succ_self _) (Nat.le_of_ble_eq_true rfl)) rfl ?_
              first | refine v_aload_n C 392 dXM_join_391 rfl rfl ?_ | refine v_aload_nN C 392 dXM_join_391 rfl rfl ?_ | refine v_aload_nQ C 392 dXM_join_391 rfl rfl ?_
              refine gt_XM_19 C 395 dXM_join_392 rfl h'.1 rfl ?_
              refine v_iload C 397 dXM_join_395 rfl rfl ?_
              refine v_iald C 398 dXM_join_397 rfl hA3 Fi rfl (show Fi < 520 by omega) (ra_sz_lt 3) ?_
              rw [ha Fi (by omega)]
              first | refine v_aload_n C 399 dXM_join_398 rfl rfl ?_ | refine v_aload_nN C 399 dXM_join_398 rfl rfl ?_ | refine v_aload_nQ C 399 dXM_join_398 rfl rfl ?_
              refine gt_XM_82 C 402 dXM_join_399 rfl h'.1 rfl ?_
              refine v_icmp_ne C 405 451 dXM_join_402 rfl rfl (fun hq => ?_) (fun hq => ?_)
              · refine nob (fun z => hq ?_) _ _
                rw [oF z.2, z.1]
              · rw [nI_eq (by omega) (by omega)] at hq
                first | refine v_aload_n C 406 dXM_join_405 rfl rfl ?_ | refine v_aload_nN C 406 dXM_join_405 rfl rfl ?_ | refine v_aload_nQ C 406 dXM_join_405 rfl rfl ?_
                refine gt_XM_16 C 409 dXM_join_406 rfl h'.1 rfl ?_
                refine v_bipush C 411 dXM_join_409 rfl (nI 7) (by decide) ?_
                refine v_iload C 413 dXM_join_411 rfl rfl ?_
                refine v_imul C 414 dXM_join_413 rfl ?_
                refine v_top _ (.int (nI (7 * Fi))) (congrArg Value.int (pk_mul 7 Fi)) ?_
                first | refine v_aload_n C 415 dXM_join_414 rfl rfl ?_ | refine v_aload_nN C 415 dXM_join_414 rfl rfl ?_ | refine v_aload_nQ C 415 dXM_join_414 rfl rfl ?_
                refine gt_XM_16 C 418 dXM_join_415 rfl h'.1 rfl ?_
                refine v_iload C 420 dXM_join_418 rfl rfl ?_
                refine v_iconst C 421 dXM_join_420 rfl (nI 1) (by decide) ?_
                refine v_iadd C 422 dXM_join_421 rfl ?_
                refine v_iald C 423 dXM_join_422 rfl hA2 (7 * E + 1) (nI_add (7 * E) 1) (show 7 * E + 1 < 3640 by omega) (ra_sz_lt 2) ?_
                rw [hwe.2.1]
                first | refine v_aload_n C 424 dXM_join_423 rfl rfl ?_ | refine v_aload_nN C 424 dXM_join_423 rfl rfl ?_ | refine v_aload_nQ C 424 dXM_join_423 rfl rfl ?_
                refine gt_XM_16 C 427 dXM_join_424 rfl h'.1 rfl ?_
                refine v_iload C 429 dXM_join_427 rfl rfl ?_
                refine v_iconst C 430 dXM_join_429 rfl (nI 2) (by decide) ?_
                refine v_iadd C 431 dXM_join_430 rfl ?_
                refine v_iald C 432 dXM_join_431 rfl hA2 (7 * E + 2) (nI_add (7 * E) 2) (show 7 * E + 2 < 3640 by omega) (ra_sz_lt 2) ?_
                rw [hwe.2.2.1]
                first | refine v_aload_n C 433 dXM_join_432 rfl rfl ?_ | refine v_aload_nN C 433 dXM_join_432 rfl rfl ?_ | refine v_aload_nQ C 433 dXM_join_432 rfl rfl ?_
                refine gt_XM_16 C 436 dXM_join_433 rfl h'.1 rfl ?_
                refine v_iload C 438 dXM_join_436 rfl rfl ?_
                refine v_iconst C 439 dXM_join_438 rfl (nI 4) (by decide) ?_
                refine v_iadd C 440 dXM_join_439 rfl ?_
                refine v_iald C 441 dXM_join_440 rfl hA2 (7 * E + 4) (nI_add (7 * E) 4) (show 7 * E + 4 < 3640 by omega) (ra_sz_lt 2) ?_
                rw [hwe.2.2.2.2.1]
                refine v_ri 444 (cl_XM_98 C ((c_M_covers g hA2 (ra_sz_lt 2) (show 7 * Fi + 6 < 3640 by omega) hwe' ok' (en_r e) (en_c e) (en_p e) o1 (by omega) o5)) dXM_join_441 rfl rfl (Nat.le_of_ble_eq_true rfl) (Nat.le_of_ble_eq_true rfl) (Nat.le_of_ble_eq_true rfl) (by omega) (by omega)) rfl (fun v M1 hv => ?_)
                obtain ⟨rfl, rfl⟩ := hv
                refine v_if_eq C 447 451 dXM_join_444 rfl rfl (fun hcv => ?_) (fun hcv => ?_)
                · rw [bI_0, bo_f] at hcv
                  exact nob (fun z => hcv z.2) _ _
                · have hcv2 : en_cv e' (en_r e) (en_c e) (en_p e) := Classical.byContradiction fun z => hcv (bI_0.mpr (bo_f.mpr z))
                  refine v_iconst C 448 dXM_join_447 rfl (nI 1) (by decide) ?_
                  refine v_goto C 452 dXM_join_448 rfl ?_
                  exact wr true ⟨fun _ => ⟨by rw [← oF hcv2]; exact hq, hcv2⟩, fun _ => rfl⟩ _ _
      refine v_iload C 336 dXM_join_334 rfl rfl ?_
      first | refine v_aload_n C 337 dXM_join_336 rfl rfl ?_ | refine v_aload_nN C 337 dXM_join_336 rfl rfl ?_ | refine v_aload_nQ C 337 dXM_join_336 rfl rfl ?_
      refine gt_XM_85 C 340 dXM_join_337 rfl h'.1 rfl ?_
      refine v_icmp_ge C 343 486 dXM_join_340 rfl rfl (fun h9 => False.elim (by first | exact h9 (nI_ge (show E < el.length by omega) (by omega)) | exact absurd h9 (nI_ge (show E < el.length by omega) (by omega)))) (fun h9 => ?_)
      refine v_iconst C 344 dXM_join_343 rfl (nI 0) (by decide) ?_
      refine v_istore C 346 _ dXM_join_344 rfl (Nat.lt_of_lt_of_le (Nat.lt_succ_self _) (Nat.le_of_ble_eq_true rfl)) rfl ?_
      refine inner el.length 0 M' f3 (o2 E) (by omega) hk h' ?_ ?_ _ _
      · have : va_up (mixo o2 (j3 el o2 (marks + 1)) E) E (o2 E) = mixo o2 (j3 el o2 (marks + 1)) E := by
          have := va_up_id (mixo o2 (j3 el o2 (marks + 1)) E) E
          rw [mixo_E] at this
          exact this
        rw [this]
        exact ha
      · by_cases hoE : o2 E = marks + 1
        · exact Or.inl ⟨hoE, hoE, fun j e' hj => absurd hj (Nat.not_lt_zero j)⟩
        · exact Or.inr ⟨(j3_no hoE).symm, hoE⟩
  have ph2 : ∀ (o1 : Nat → Nat), (∀ i, i < el.length → o1 i ≤ marks + 1) → (∀ f3', ao f3' el.length (if decide (i0 = 0) = true then j4 el now gr (j3 el (j2 el o1 (marks + 1)) (marks + 1)) (marks + 1) else j3 el (j2 el o1 (marks + 1)) (marks + 1)) → ao f3' el.length (jall el now gr (decide (i0 = 0)) ow mk i0 rs.length (marks + 1))) → ∀ (n E : Nat) (M' : mp_M) (f3 f4 f5 : Nat → Int32), E + n = el.length → f4 = upd (f 4) i0 (nI (marks + 1)) → f5 = upd (f 5) i0 (nI tier) → mp_k (ra_P b A) M M' → ra_M g M' b A cap gr now mem logs safe el.length (i0 + 1) (marks + 1) (va_up (va_up (va_up f 4 f4) 5 f5) 3 f3) → ao f3 el.length (mixo o1 (j2 el o1 (marks + 1)) E) → ∀ L5 L6 L7, VV g x M' 0 0 145 [some (.ref b), some (.int (nI many)), some (.int (nI tier)), some (.int (bI (decide (i0 = 0)))), some (.int (nI E)), L5, L6, L7] [] := by
    intro o1 ho1 fin n
    have ho2 : ∀ i, i < el.length → j2 el o1 (marks + 1) i ≤ marks + 1 := by
      intro i hi
      have := ho1 i hi
      rcases j2_or (el := el) (o := o1) (mx := marks + 1) (i := i) with z | z <;> rw [z] <;> omega
    induction n with
    | zero =>
      intro E M' f3 f4 f5 hE e4 e5 hk h' ha L5 L6 L7
      refine v_iload C 147 dXM_join_145 rfl rfl ?_
      first | refine v_aload_n C 148 dXM_join_147 rfl rfl ?_ | refine v_aload_nN C 148 dXM_join_147 rfl rfl ?_ | refine v_aload_nQ C 148 dXM_join_147 rfl rfl ?_
      refine gt_XM_85 C 151 dXM_join_148 rfl h'.1 rfl ?_
      refine v_icmp_ge C 154 331 dXM_join_151 rfl rfl (fun h9 => ?_) (fun h9 => False.elim (by first | exact h9 (nI_le (show el.length ≤ E by omega) (by omega)) | exact absurd h9 (nI_le (show el.length ≤ E by omega) (by omega))))
      refine v_iconst C 332 dXM_join_331 rfl (nI 0) (by decide) ?_
      refine v_istore C 334 _ dXM_join_332 rfl (Nat.lt_of_lt_of_le (Nat.lt_succ_self _) (Nat.le_of_ble_eq_true rfl)) rfl ?_
      refine ph3 (j2 el o1 (marks + 1)) ho2 fin el.length 0 M' f3 f4 f5 (by omega) e4 e5 hk h' ?_ _ _ _
      rw [mixo_0]
      intro i hi
      rw [ha i hi]
      unfold mixo
      rw [if_pos (by omega)]
    | succ n ih =>
      intro E M' f3 f4 f5 hE e4 e5 hk h' ha L5 L6 L7
      obtain ⟨e, he⟩ := hget E (by omega)
      obtain ⟨hwe, ok⟩ := R1 E e he
      have out : ∀ (M' : mp_M) (f3 : Nat → Int32), mp_k (ra_P b A) M M' → ra_M g M' b A cap gr now mem logs safe el.length (i0 + 1) (marks + 1) (va_up (va_up (va_up f 4 f4) 5 f5) 3 f3) → ao f3 el.length (va_up (mixo o1 (j2 el o1 (marks + 1)) E) E (j2 el o1 (marks + 1) E)) → ∀ L5 L6 L7, VV g x M' 0 0 325 [some (.ref b), some (.int (nI many)), some (.int (nI tier)), some (.int (bI (decide (i0 = 0)))), some (.int (nI E)), L5, L6, L7] [] := by
        intro M' f3 hk h' ha L5 L6 L7
        refine v_iinc C 328 _ (nI (E + 1)) dXM_join_325 rfl rfl (nI_1 E) rfl ?_
        refine v_goto C 145 dXM_join_328 rfl ?_
        exact ih (E + 1) M' f3 f4 f5 (by omega) e4 e5 hk h' (by rw [← mixo_up]; exact ha) _ _ _
      have inner : ∀ (n' Fi : Nat) (M' : mp_M) (f3 : Nat → Int32) (cur : Nat), Fi + n' = el.length → mp_k (ra_P b A) M M' → ra_M g M' b A cap gr now mem logs safe el.length (i0 + 1) (marks + 1) (va_up (va_up (va_up f 4 f4) 5 f5) 3 f3) → ao f3 el.length (va_up (mixo o1 (j2 el o1 (marks + 1)) E) E cur) → ((cur = marks + 1 ∧ o1 E = marks + 1 ∧ ∀ j, j < Fi → j ≠ E → mixo o1 (j2 el o1 (marks + 1)) E j = marks + 1 → ¬ lo el E j) ∨ (cur = j2 el o1 (marks + 1) E ∧ cur ≠ marks + 1)) → ∀ L6 L7, VV g x M' 0 0 157 [some (.ref b), some (.int (nI many)), some (.int (nI tier)), some (.int (bI (decide (i0 = 0)))), some (.int (nI E)), some (.int (nI Fi)), L6, L7] [] := by
        intro n'
        induction n' with
        | zero =>
          intro Fi M' f3 cur hF hk h' ha hcur L6 L7
          refine v_iload C 159 dXM_join_157 rfl rfl ?_
          first | refine v_aload_n C 160 dXM_join_159 rfl rfl ?_ | refine v_aload_nN C 160 dXM_join_159 rfl rfl ?_ | refine v_aload_nQ C 160 dXM_join_159 rfl rfl ?_
          refine gt_XM_85 C 163 dXM_join_160 rfl h'.1 rfl ?_
          refine v_icmp_ge C 166 325 dXM_join_163 rfl rfl (fun h9 => ?_) (fun h9 => False.elim (by first | exact h9 (nI_le (show el.length ≤ Fi by omega) (by omega)) | exact absurd h9 (nI_le (show el.length ≤ Fi by omega) (by omega))))
          have hce : cur = j2 el o1 (marks + 1) E := by
            rcases hcur with ⟨c1, c2, c3⟩ | ⟨c1, -⟩
            · rw [c1]
              symm
              refine (j2_mx hmx0).mpr ⟨c2, fun j a1 a2 => ?_⟩
              obtain ⟨t, d1, d2, d3⟩ := lo_top2 c2 he ⟨j, a1, a2⟩
              obtain ⟨_, et, _, d4, _⟩ := id d2
              have htE : t ≠ E := fun z => by rw [z] at d2; exact lo_ii d2
              have hlt := (List.getElem?_eq_some_iff.mp d4).1
              refine c3 t (by omega) htE ?_ d2
              unfold mixo
              split
              · exact (j2_mx hmx0).mpr ⟨d1, d3⟩
              · exact d1
            · exact c1
          exact out M' f3 hk h' (by rw [← hce]; exact ha) _ _ _
        | succ n' ih2 =>
          intro Fi M' f3 cur hF hk h' ha hcur L6 L7
          have hA2 := h'.2.1 2 (by decide)
          have hA3 := h'.2.1 3 (by decide)
          rw [va_up_self] at hA3
          rw [va_up_ne _ _ (by decide), va_up_ne _ _ (by decide), va_up_ne _ _ (by decide)] at hA2
          have hfE : f3 E = nI cur := by rw [ha E (by omega), va_up_self]
          have hcl : cur ≤ marks + 1 := by
            rcases hcur with ⟨c1, -, -⟩ | ⟨c1, -⟩
            · omega
            · rw [c1]
              exact ho2 E (by omega)
          refine v_iload C 159 dXM_join_157 rfl rfl ?_
          first | refine v_aload_n C 160 dXM_join_159 rfl rfl ?_ | refine v_aload_nN C 160 dXM_join_159 rfl rfl ?_ | refine v_aload_nQ C 160 dXM_join_159 rfl rfl ?_
          refine gt_XM_85 C 163 dXM_join_160 rfl h'.1 rfl ?_
          refine v_icmp_ge C 166 325 dXM_join_163 rfl rfl (fun h9 => False.elim (by first | exact h9 (nI_ge (show Fi < el.length by omega) (by omega)) | exact absurd h9 (nI_ge (show Fi < el.length by omega) (by omega)))) (fun h9 => ?_)
          first | refine v_aload_n C 167 dXM_join_166 rfl rfl ?_ | refine v_aload_nN C 167 dXM_join_166 rfl rfl ?_ | refine v_aload_nQ C 167 dXM_join_166 rfl rfl ?_
          refine gt_XM_19 C 170 dXM_join_167 rfl h'.1 rfl ?_
          refine v_iload C 172 dXM_join_170 rfl rfl ?_
          refine v_iald C 173 dXM_join_172 rfl hA3 E rfl (show E < 520 by omega) (ra_sz_lt 3) ?_
          rw [hfE]
          first | refine v_aload_n C 174 dXM_join_173 rfl rfl ?_ | refine v_aload_nN C 174 dXM_join_173 rfl rfl ?_ | refine v_aload_nQ C 174 dXM_join_173 rfl rfl ?_
          refine gt_XM_82 C 177 dXM_join_174 rfl h'.1 rfl ?_
          refine v_icmp_ne C 180 325 dXM_join_177 rfl rfl (fun hc => ?_) (fun hc => ?_)
          · have hce : cur = j2 el o1 (marks + 1) E := by
              rcases hcur with ⟨c1, -, -⟩ | ⟨c1, -⟩
              · exact absurd (by rw [c1]) hc
              · exact c1
            exact out M' f3 hk h' (by rw [← hce]; exact ha) _ _ _
          · rw [nI_eq (by omega) (by omega)] at hc
            obtain ⟨c2, c3⟩ : o1 E = marks + 1 ∧ ∀ j, j < Fi → j ≠ E → mixo o1 (j2 el o1 (marks + 1)) E j = marks + 1 → ¬ lo el E j := by
              rcases hcur with ⟨-, c2, c3⟩ | ⟨-, c2⟩
              · exact ⟨c2, c3⟩
              · exact absurd hc c2
            obtain ⟨e', he'⟩ := hget Fi (by omega)
            obtain ⟨hwe', ok'⟩ := R1 Fi e' he'
            have wr : ∀ bl : Bool, (bl = true ↔ (Fi ≠ E ∧ mixo o1 (j2 el o1 (marks + 1)) E Fi = marks + 1 ∧ lo el E Fi)) → ∀ L6 L7, VV g x M' 0 0 297 [some (.ref b), some (.int (nI many)), some (.int (nI tier)), some (.int (bI (decide (i0 = 0)))), some (.int (nI E)), some (.int (nI Fi)), L6, L7] [.int (bI bl)] := by
              intro bl hbl L6 L7
              have st : ∀ v : Nat, (v = if bl = true then 0 else marks + 1) → ∀ L6 L7, VV g x M' 0 0 318 [some (.ref b), some (.int (nI many)), some (.int (nI tier)), some (.int (bI (decide (i0 = 0)))), some (.int (nI E)), some (.int (nI Fi)), L6, L7] [.int (nI v), .int (nI E), .ref (A 3)] := by
                intro v hv L6 L7
                refine v_iast C 319 dXM_join_318 rfl hA3 E rfl (show E < 520 by omega) (ra_sz_lt 3) ?_
                have h2 := ra_up h' 3 (by decide) (upd f3 E (nI v))
                rw [bx_uu] at h2
                refine v_iinc C 322 _ (nI (Fi + 1)) dXM_join_319 rfl rfl (nI_1 Fi) rfl ?_
                refine v_goto C 157 dXM_join_322 rfl ?_
                refine ih2 (Fi + 1) _ (upd f3 E (nI v)) v (by omega) (hk.tr (ra_ku (by decide))) h2 (ao_up ha (by rw [va_up_self]) (fun i hi hne => by rw [va_up_ne _ _ hne, va_up_ne _ _ hne])) ?_ _ _
                cases hz : bl with
                | true =>
                  rw [hz, if_pos rfl] at hv
                  obtain ⟨d0, d1, d2⟩ := hbl.mp hz
                  right
                  refine ⟨?_, by omega⟩
                  rw [hv]
                  symm
                  refine if_pos (bo_t.mpr ⟨c2, Fi, ?_, d2⟩)
                  rcases mixo_or (o := o1) (o' := j2 el o1 (marks + 1)) (E := E) (i := Fi) with z | z
                  · rw [z] at d1
                    exact ((j2_mx hmx0).mp d1).1
                  · rw [z] at d1
                    exact d1
                | false =>
                  rw [hz] at hv
                  have hv2 : v = marks + 1 := hv
                  refine Or.inl ⟨hv2, c2, fun j hj a0 a1 a2 => ?_⟩
                  by_cases hjF : j = Fi
                  · subst hjF
                    have := hbl.mpr ⟨a0, a1, a2⟩
                    rw [hz] at this
                    cases this
                  · exact c3 j (by omega) a0 a1 a2
              refine v_istore C 299 _ dXM_join_297 rfl (Nat.lt_of_lt_of_le (Nat.lt_succ_self _) (Nat.le_of_ble_eq_true rfl)) rfl ?_
              first | refine v_aload_n C 300 dXM_join_299 rfl rfl ?_ | refine v_aload_nN C 300 dXM_join_299 rfl rfl ?_ | refine v_aload_nQ C 300 dXM_join_299 rfl rfl ?_
              refine gt_XM_19 C 303 dXM_join_300 rfl h'.1 rfl ?_
              refine v_iload C 305 dXM_join_303 rfl rfl ?_
              refine v_iload C 307 dXM_join_305 rfl rfl ?_
              refine v_if_eq C 310 314 dXM_join_307 rfl rfl (fun hb => ?_) (fun hb => ?_)
              · first | refine v_aload_n C 315 dXM_join_314 rfl rfl ?_ | refine v_aload_nN C 315 dXM_join_314 rfl rfl ?_ | refine v_aload_nQ C 315 dXM_join_314 rfl rfl ?_
                refine gt_XM_82 C 318 dXM_join_315 rfl h'.1 rfl ?_
                rw [bI_0] at hb
                refine st (marks + 1) ?_ _ _
                rw [hb]
                rfl
              · refine v_iconst C 311 dXM_join_310 rfl (nI 0) (by decide) ?_
                refine v_goto C 318 dXM_join_311 rfl ?_
                refine st 0 ?_ _ _
                cases hz : bl with
                | true => rfl
                | false => exact absurd (bI_0.mpr hz) hb
            have no9 : ¬ (Fi ≠ E ∧ mixo o1 (j2 el o1 (marks + 1)) E Fi = marks + 1 ∧ lo el E Fi) → ∀ L6 L7, VV g x M' 0 0 296 [some (.ref b), some (.int (nI many)), some (.int (nI tier)), some (.int (bI (decide (i0 = 0)))), some (.int (nI E)), some (.int (nI Fi)), L6, L7] [] := by
              intro hno L6 L7
              refine v_iconst C 297 dXM_join_296 rfl (nI 0) (by decide) ?_
              exact wr false ⟨fun z => (by cases z), fun z => absurd z hno⟩ _ _
            have no2 : ¬ (Fi ≠ E ∧ mixo o1 (j2 el o1 (marks + 1)) E Fi = marks + 1 ∧ lo el E Fi) → ∀ L6 L7, VV g x M' 0 0 229 [some (.ref b), some (.int (nI many)), some (.int (nI tier)), some (.int (bI (decide (i0 = 0)))), some (.int (nI E)), some (.int (nI Fi)), L6, L7] [] := by
              intro hno L6 L7
              refine v_iconst C 230 dXM_join_229 rfl (nI 0) (by decide) ?_
              refine v_istore C 232 _ dXM_join_230 rfl (Nat.lt_of_lt_of_le (Nat.lt_succ_self _) (Nat.le_of_ble_eq_true rfl)) rfl ?_
              refine v_iload C 234 dXM_join_232 rfl rfl ?_
              refine v_if_eq C 237 296 dXM_join_234 rfl rfl (fun h9 => ?_) (fun h9 => False.elim (by first | exact h9 (rfl) | exact absurd h9 (rfl)))
              exact no9 hno _ _
            have ye9 : (Fi ≠ E ∧ mixo o1 (j2 el o1 (marks + 1)) E Fi = marks + 1 ∧ lo el E Fi) → ∀ L6 L7, VV g x M' 0 0 292 [some (.ref b), some (.int (nI many)), some (.int (nI tier)), some (.int (bI (decide (i0 = 0)))), some (.int (nI E)), some (.int (nI Fi)), L6, L7] [] := by
              intro hye L6 L7
              refine v_iconst C 293 dXM_join_292 rfl (nI 1) (by decide) ?_
              refine v_goto C 297 dXM_join_293 rfl ?_
              exact wr true ⟨fun _ => hye, fun _ => rfl⟩ _ _
            refine v_iload C 182 dXM_join_180 rfl rfl ?_
            refine v_iload C 184 dXM_join_182 rfl rfl ?_
            refine v_icmp_eq C 187 229 dXM_join_184 rfl rfl (fun hFE => ?_) (fun hFE => ?_)
            · rw [nI_eq (by omega) (by omega)] at hFE
              exact no2 (fun z => z.1 hFE) _ _
            · have hne : Fi ≠ E := fun z => hFE (by rw [z])
              have hFm : va_up (mixo o1 (j2 el o1 (marks + 1)) E) E cur Fi = mixo o1 (j2 el o1 (marks + 1)) E Fi := va_up_ne _ _ hne
              have hFl : mixo o1 (j2 el o1 (marks + 1)) E Fi ≤ marks + 1 := by
                have a1 := ho1 Fi (by omega)
                have a2 := ho2 Fi (by omega)
                rcases mixo_or (o := o1) (o' := j2 el o1 (marks + 1)) (E := E) (i := Fi) with z | z <;> rw [z] <;> omega
              first | refine v_aload_n C 188 dXM_join_187 rfl rfl ?_ | refine v_aload_nN C 188 dXM_join_187 rfl rfl ?_ | refine v_aload_nQ C 188 dXM_join_187 rfl rfl ?_
              refine gt_XM_19 C 191 dXM_join_188 rfl h'.1 rfl ?_
              refine v_iload C 193 dXM_join_191 rfl rfl ?_
              refine v_iald C 194 dXM_join_193 rfl hA3 Fi rfl (show Fi < 520 by omega) (ra_sz_lt 3) ?_
              rw [ha Fi (by omega), hFm]
              first | refine v_aload_n C 195 dXM_join_194 rfl rfl ?_ | refine v_aload_nN C 195 dXM_join_194 rfl rfl ?_ | refine v_aload_nQ C 195 dXM_join_194 rfl rfl ?_
              refine gt_XM_82 C 198 dXM_join_195 rfl h'.1 rfl ?_
              refine v_icmp_ne C 201 229 dXM_join_198 rfl rfl (fun hq => ?_) (fun hq => ?_)
              · exact no2 (fun z => hq (by rw [z.2.1])) _ _
              · rw [nI_eq (by omega) (by omega)] at hq
                first | refine v_aload_n C 202 dXM_join_201 rfl rfl ?_ | refine v_aload_nN C 202 dXM_join_201 rfl rfl ?_ | refine v_aload_nQ C 202 dXM_join_201 rfl rfl ?_
                refine gt_XM_16 C 205 dXM_join_202 rfl h'.1 rfl ?_
                refine v_bipush C 207 dXM_join_205 rfl (nI 7) (by decide) ?_
                refine v_iload C 209 dXM_join_207 rfl rfl ?_
                refine v_imul C 210 dXM_join_209 rfl ?_
                refine v_top _ (.int (nI (7 * E))) (congrArg Value.int (pk_mul 7 E)) ?_
                first | refine v_aload_n C 211 dXM_join_210 rfl rfl ?_ | refine v_aload_nN C 211 dXM_join_210 rfl rfl ?_ | refine v_aload_nQ C 211 dXM_join_210 rfl rfl ?_
                refine gt_XM_16 C 214 dXM_join_211 rfl h'.1 rfl ?_
                refine v_bipush C 216 dXM_join_214 rfl (nI 7) (by decide) ?_
                refine v_iload C 218 dXM_join_216 rfl rfl ?_
                refine v_imul C 219 dXM_join_218 rfl ?_
                refine v_top _ (.int (nI (7 * Fi))) (congrArg Value.int (pk_mul 7 Fi)) ?_
                refine v_ri 222 (cl_XM_45 C ((c_M_alike g hA2 hA2 (ra_sz_lt 2) (ra_sz_lt 2) (show 7 * E + 6 < 3640 by omega) (show 7 * Fi + 6 < 3640 by omega) hwe hwe' ok ok')) dXM_join_219 rfl rfl (Nat.le_of_ble_eq_true rfl) (Nat.le_of_ble_eq_true rfl) (Nat.le_of_ble_eq_true rfl) (by omega) (by omega)) rfl (fun v M1 hv => ?_)
                obtain ⟨rfl, rfl⟩ := hv
                refine v_if_eq C 225 229 dXM_join_222 rfl rfl (fun hal => ?_) (fun hal => ?_)
                · rw [bI_0] at hal
                  have hal2 := of_decide_eq_false hal
                  refine no2 (fun z => ?_) _ _
                  obtain ⟨_, _, a1, a2, a3, _⟩ := z.2.2
                  cases he.symm.trans a1
                  cases he'.symm.trans a2
                  exact hal2 a3
                · have hs : en_s e = en_s e' := by
                    apply Classical.byContradiction
                    intro z
                    exact hal (bI_0.mpr (decide_eq_false z))
                  have lo_iff : lo el E Fi ↔ (en_w e' e = true ∨ (E < Fi ∧ en_w e e' = false)) := by
                    constructor
                    · rintro ⟨_, _, a1, a2, -, a4⟩
                      cases he.symm.trans a1
                      cases he'.symm.trans a2
                      exact a4
                    · exact fun a4 => ⟨e, e', he, he', hs, a4⟩
                  refine v_iconst C 226 dXM_join_225 rfl (nI 1) (by decide) ?_
                  refine v_goto C 230 dXM_join_226 rfl ?_
                  refine v_istore C 232 _ dXM_join_230 rfl (Nat.lt_of_lt_of_le (Nat.lt_succ_self _) (Nat.le_of_ble_eq_true rfl)) rfl ?_
                  refine v_iload C 234 dXM_join_232 rfl rfl ?_
                  refine v_if_eq C 237 296 dXM_join_234 rfl rfl (fun h9 => False.elim (by first | exact h9 ((by decide)) | exact absurd h9 ((by decide)))) (fun h9 => ?_)
                  first | refine v_aload_n C 238 dXM_join_237 rfl rfl ?_ | refine v_aload_nN C 238 dXM_join_237 rfl rfl ?_ | refine v_aload_nQ C 238 dXM_join_237 rfl rfl ?_
                  refine gt_XM_16 C 241 dXM_join_238 rfl h'.1 rfl ?_
                  refine v_bipush C 243 dXM_join_241 rfl (nI 7) (by decide) ?_
                  refine v_iload C 245 dXM_join_243 rfl rfl ?_
                  refine v_imul C 246 dXM_join_245 rfl ?_
                  refine v_top _ (.int (nI (7 * Fi))) (congrArg Value.int (pk_mul 7 Fi)) ?_
                  first | refine v_aload_n C 247 dXM_join_246 rfl rfl ?_ | refine v_aload_nN C 247 dXM_join_246 rfl rfl ?_ | refine v_aload_nQ C 247 dXM_join_246 rfl rfl ?_
                  refine gt_XM_16 C 250 dXM_join_247 rfl h'.1 rfl ?_
                  refine v_bipush C 252 dXM_join_250 rfl (nI 7) (by decide) ?_
                  refine v_iload C 254 dXM_join_252 rfl rfl ?_
                  refine v_imul C 255 dXM_join_254 rfl ?_
                  refine v_top _ (.int (nI (7 * E))) (congrArg Value.int (pk_mul 7 E)) ?_
                  refine v_ri 258 (cl_XM_49 C ((c_M_wins g hA2 hA2 (ra_sz_lt 2) (ra_sz_lt 2) (show 7 * Fi + 6 < 3640 by omega) (show 7 * E + 6 < 3640 by omega) hwe' hwe ok' ok hs.symm)) dXM_join_255 rfl rfl (Nat.le_of_ble_eq_true rfl) (Nat.le_of_ble_eq_true rfl) (Nat.le_of_ble_eq_true rfl) (by omega) (by omega)) rfl (fun v M1 hv => ?_)
                  obtain ⟨rfl, rfl⟩ := hv
                  refine v_if_ne C 261 292 dXM_join_258 rfl rfl (fun hw1 => ?_) (fun hw1 => ?_)
                  · have hw2 : en_w e' e = true := by
                      cases hz : en_w e' e with
                      | true => rfl
                      | false => exact absurd (bI_0.mpr hz) hw1
                    exact ye9 ⟨hne, hq, lo_iff.mpr (Or.inl hw2)⟩ _ _
                  · rw [bI_0] at hw1
                    refine v_iload C 263 dXM_join_261 rfl rfl ?_
                    refine v_iload C 265 dXM_join_263 rfl rfl ?_
                    refine v_icmp_le C 268 296 dXM_join_265 rfl rfl (fun hlt => ?_) (fun hlt => ?_)
                    · rw [nI_leI (by omega) (by omega)] at hlt
                      refine no9 (fun z => ?_) _ _
                      rcases lo_iff.mp z.2.2 with y | y
                      · rw [hw1] at y
                        cases y
                      · omega
                    · rw [nI_leI (by omega) (by omega)] at hlt
                      first | refine v_aload_n C 269 dXM_join_268 rfl rfl ?_ | refine v_aload_nN C 269 dXM_join_268 rfl rfl ?_ | refine v_aload_nQ C 269 dXM_join_268 rfl rfl ?_
                      refine gt_XM_16 C 272 dXM_join_269 rfl h'.1 rfl ?_
                      refine v_bipush C 274 dXM_join_272 rfl (nI 7) (by decide) ?_
                      refine v_iload C 276 dXM_join_274 rfl rfl ?_
                      refine v_imul C 277 dXM_join_276 rfl ?_
                      refine v_top _ (.int (nI (7 * E))) (congrArg Value.int (pk_mul 7 E)) ?_
                      first | refine v_aload_n C 278 dXM_join_277 rfl rfl ?_ | refine v_aload_nN C 278 dXM_join_277 rfl rfl ?_ | refine v_aload_nQ C 278 dXM_join_277 rfl rfl ?_
                      refine gt_XM_16 C 281 dXM_join_278 rfl h'.1 rfl ?_
                      refine v_bipush C 283 dXM_join_281 rfl (nI 7) (by decide) ?_
                      refine v_iload C 285 dXM_join_283 rfl rfl ?_
                      refine v_imul C 286 dXM_join_285 rfl ?_
                      refine v_top _ (.int (nI (7 * Fi))) (congrArg Value.int (pk_mul 7 Fi)) ?_
                      refine v_ri 289 (cl_XM_49 C ((c_M_wins g hA2 hA2 (ra_sz_lt 2) (ra_sz_lt 2) (show 7 * E + 6 < 3640 by omega) (show 7 * Fi + 6 < 3640 by omega) hwe hwe' ok ok' hs)) dXM_join_286 rfl rfl (Nat.le_of_ble_eq_true rfl) (Nat.le_of_ble_eq_true rfl) (Nat.le_of_ble_eq_true rfl) (by omega) (by omega)) rfl (fun v M1 hv => ?_)
                      obtain ⟨rfl, rfl⟩ := hv
                      refine v_if_ne C 292 296 dXM_join_289 rfl rfl (fun hw3 => ?_) (fun hw3 => ?_)
                      · refine no9 (fun z => ?_) _ _
                        rcases lo_iff.mp z.2.2 with y | ⟨-, y⟩
                        · rw [hw1] at y
                          cases y
                        · exact hw3 (bI_0.mpr y)
                      · rw [bI_0] at hw3
                        exact ye9 ⟨hne, hq, lo_iff.mpr (Or.inr ⟨by omega, hw3⟩)⟩ _ _
      refine v_iload C 147 dXM_join_145 rfl rfl ?_
      first | refine v_aload_n C 148 dXM_join_147 rfl rfl ?_ | refine v_aload_nN C 148 dXM_join_147 rfl rfl ?_ | refine v_aload_nQ C 148 dXM_join_147 rfl rfl ?_
      refine gt_XM_85 C 151 dXM_join_148 rfl h'.1 rfl ?_
      refine v_icmp_ge C 154 331 dXM_join_151 rfl rfl (fun h9 => False.elim (by first | exact h9 (nI_ge (show E < el.length by omega) (by omega)) | exact absurd h9 (nI_ge (show E < el.length by omega) (by omega)))) (fun h9 => ?_)
      refine v_iconst C 155 dXM_join_154 rfl (nI 0) (by decide) ?_
      refine v_istore C 157 _ dXM_join_155 rfl (Nat.lt_of_lt_of_le (Nat.lt_succ_self _) (Nat.le_of_ble_eq_true rfl)) rfl ?_
      refine inner el.length 0 M' f3 (o1 E) (by omega) hk h' ?_ ?_ _ _
      · have : va_up (mixo o1 (j2 el o1 (marks + 1)) E) E (o1 E) = mixo o1 (j2 el o1 (marks + 1)) E := by
          have := va_up_id (mixo o1 (j2 el o1 (marks + 1)) E) E
          rw [mixo_E] at this
          exact this
        rw [this]
        exact ha
      · by_cases hoE : o1 E = marks + 1
        · exact Or.inl ⟨hoE, hoE, fun j hj => absurd hj (Nat.not_lt_zero j)⟩
        · exact Or.inr ⟨(j2_no hoE).symm, hoE⟩
  have mid : ∀ (M' : mp_M) (f3 : Nat → Int32), mp_k (ra_P b A) M M' → ra_M g M' b A cap gr now mem logs safe el.length rs.length (marks + 1) (va_up f 3 f3) → ao f3 el.length (j1 ow mk i0 rs.length (marks + 1)) → ∀ L4 L5 L6 L7, VV g x M' 0 0 103 [some (.ref b), some (.int (nI many)), some (.int (nI tier)), some (.int (bI (decide (i0 = 0)))), L4, L5, L6, L7] [] := by
    intro M' f3 hk h' ha L4 L5 L6 L7
    first | refine v_aload_n C 104 dXM_join_103 rfl rfl ?_ | refine v_aload_nN C 104 dXM_join_103 rfl rfl ?_ | refine v_aload_nQ C 104 dXM_join_103 rfl rfl ?_
    first | refine v_aload_n C 105 dXM_join_104 rfl rfl ?_ | refine v_aload_nN C 105 dXM_join_104 rfl rfl ?_ | refine v_aload_nQ C 105 dXM_join_104 rfl rfl ?_
    refine gt_XM_88 C 108 dXM_join_105 rfl h'.1 rfl ?_
    refine v_iload_n C 109 dXM_join_108 rfl rfl ?_
    refine v_isub C 110 dXM_join_109 rfl ?_
    refine v_top _ (.int (nI i0)) (congrArg Value.int ((pk_sub (by omega)).trans (by rw [show rs.length - many = i0 by omega]))) ?_
    refine v_iconst C 111 dXM_join_110 rfl (nI 1) (by decide) ?_
    refine v_iadd C 112 dXM_join_111 rfl ?_
    refine v_top _ (.int (nI (i0 + 1))) (congrArg Value.int (nI_add i0 1)) ?_
    refine pt_XM_88 C 115 dXM_join_112 rfl rfl rfl h'.1 (Nat.lt_of_lt_of_le (Nat.lt_succ_self _) (Nat.le_of_ble_eq_true rfl)) (ob_M A cap gr now mem logs safe el.length (i0 + 1) (marks + 1)) rfl ?_
    have h2 := ra_put h' (now' := now) (mem' := mem) (logs' := logs) (safe' := safe) (fl' := el.length) (runs' := i0 + 1) (marks' := marks + 1)
    have hB4 := h2.2.1 4 (by decide)
    rw [va_up_ne _ _ (by decide)] at hB4
    first | refine v_aload_n C 116 dXM_join_115 rfl rfl ?_ | refine v_aload_nN C 116 dXM_join_115 rfl rfl ?_ | refine v_aload_nQ C 116 dXM_join_115 rfl rfl ?_
    refine gt_XM_22 C 119 dXM_join_116 rfl h2.1 rfl ?_
    first | refine v_aload_n C 120 dXM_join_119 rfl rfl ?_ | refine v_aload_nN C 120 dXM_join_119 rfl rfl ?_ | refine v_aload_nQ C 120 dXM_join_119 rfl rfl ?_
    refine gt_XM_88 C 123 dXM_join_120 rfl h2.1 rfl ?_
    refine v_iconst C 124 dXM_join_123 rfl (nI 1) (by decide) ?_
    refine v_isub C 125 dXM_join_124 rfl ?_
    refine v_top _ (.int (nI i0)) (congrArg Value.int ((pk_sub (by omega)).trans (by rw [Nat.add_sub_cancel]))) ?_
    first | refine v_aload_n C 126 dXM_join_125 rfl rfl ?_ | refine v_aload_nN C 126 dXM_join_125 rfl rfl ?_ | refine v_aload_nQ C 126 dXM_join_125 rfl rfl ?_
    refine gt_XM_82 C 129 dXM_join_126 rfl h2.1 rfl ?_
    refine v_iast C 130 dXM_join_129 rfl hB4 i0 rfl (show i0 < 520 by omega) (ra_sz_lt 4) ?_
    have h3 := ra_up h2 4 (by decide) (upd (f 4) i0 (nI (marks + 1)))
    have hB5 := h3.2.1 5 (by decide)
    rw [va_up_ne _ _ (by decide), va_up_ne _ _ (by decide)] at hB5
    first | refine v_aload_n C 131 dXM_join_130 rfl rfl ?_ | refine v_aload_nN C 131 dXM_join_130 rfl rfl ?_ | refine v_aload_nQ C 131 dXM_join_130 rfl rfl ?_
    refine gt_XM_25 C 134 dXM_join_131 rfl h3.1 rfl ?_
    first | refine v_aload_n C 135 dXM_join_134 rfl rfl ?_ | refine v_aload_nN C 135 dXM_join_134 rfl rfl ?_ | refine v_aload_nQ C 135 dXM_join_134 rfl rfl ?_
    refine gt_XM_88 C 138 dXM_join_135 rfl h3.1 rfl ?_
    refine v_iconst C 139 dXM_join_138 rfl (nI 1) (by decide) ?_
    refine v_isub C 140 dXM_join_139 rfl ?_
    refine v_top _ (.int (nI i0)) (congrArg Value.int ((pk_sub (by omega)).trans (by rw [Nat.add_sub_cancel]))) ?_
    refine v_iload_n C 141 dXM_join_140 rfl rfl ?_
    refine v_iast C 142 dXM_join_141 rfl hB5 i0 rfl (show i0 < 520 by omega) (ra_sz_lt 5) ?_
    have h4 := ra_up h3 5 (by decide) (upd (f 5) i0 (nI tier))
    rw [va_cm f _ _ (show 3 ≠ 4 by decide), va_cm _ _ _ (show 3 ≠ 5 by decide)] at h4
    refine v_iconst C 143 dXM_join_142 rfl (nI 0) (by decide) ?_
    refine v_istore C 145 _ dXM_join_143 rfl (Nat.lt_of_lt_of_le (Nat.lt_succ_self _) (Nat.le_of_ble_eq_true rfl)) rfl ?_
    refine ph2 (j1 ow mk i0 rs.length (marks + 1)) (le1 _) (fun f3' z => ?_) el.length 0 _ f3 _ _ (by omega) rfl rfl (hk.tr (ra_kb.tr ((ra_ku (by decide)).tr (ra_ku (by decide))))) h4 (by rw [mixo_0]; exact ha) _ _ _
    unfold jall
    exact z
  have ph1 : ∀ (n K : Nat) (M' : mp_M) (f3 : Nat → Int32), K + n = rs.length → i0 ≤ K → mp_k (ra_P b A) M M' → ra_M g M' b A cap gr now mem logs safe el.length rs.length (marks + 1) (va_up f 3 f3) → ao f3 el.length (j1 ow mk i0 K (marks + 1)) → ∀ L5 L6 L7, VV g x M' 0 0 32 [some (.ref b), some (.int (nI many)), some (.int (nI tier)), some (.int (bI (decide (i0 = 0)))), some (.int (nI K)), L5, L6, L7] [] := by
    intro n
    induction n with
    | zero =>
      intro K M' f3 hK hi0 hk h' ha L5 L6 L7
      have hKl : K = rs.length := by omega
      subst hKl
      refine v_iload C 34 dXM_join_32 rfl rfl ?_
      first | refine v_aload_n C 35 dXM_join_34 rfl rfl ?_ | refine v_aload_nN C 35 dXM_join_34 rfl rfl ?_ | refine v_aload_nQ C 35 dXM_join_34 rfl rfl ?_
      refine gt_XM_88 C 38 dXM_join_35 rfl h'.1 rfl ?_
      refine v_icmp_ge C 41 103 dXM_join_38 rfl rfl (fun h9 => ?_) (fun h9 => False.elim (by first | exact h9 (nI_le (Nat.le_refl rs.length) (by omega)) | exact absurd h9 (nI_le (Nat.le_refl rs.length) (by omega))))
      exact mid M' f3 hk h' ha _ _ _ _
    | succ n ih =>
      intro K M' f3 hK hi0 hk h' ha L5 L6 L7
      obtain ⟨k1, k2, k3, k4⟩ := R3 K (by omega)
      have inner : ∀ (n' E : Nat) (M' : mp_M) (f3 : Nat → Int32), E + n' = el.length → mp_k (ra_P b A) M M' → ra_M g M' b A cap gr now mem logs safe el.length rs.length (marks + 1) (va_up f 3 f3) → ao f3 el.length (mixo (j1 ow mk i0 K (marks + 1)) (j1 ow mk i0 (K + 1) (marks + 1)) E) → ∀ L6 L7, VV g x M' 0 0 44 [some (.ref b), some (.int (nI many)), some (.int (nI tier)), some (.int (bI (decide (i0 = 0)))), some (.int (nI K)), some (.int (nI E)), L6, L7] [] := by
        intro n'
        induction n' with
        | zero =>
          intro E M' f3 hE hk h' ha L6 L7
          refine v_iload C 46 dXM_join_44 rfl rfl ?_
          first | refine v_aload_n C 47 dXM_join_46 rfl rfl ?_ | refine v_aload_nN C 47 dXM_join_46 rfl rfl ?_ | refine v_aload_nQ C 47 dXM_join_46 rfl rfl ?_
          refine gt_XM_85 C 50 dXM_join_47 rfl h'.1 rfl ?_
          refine v_icmp_ge C 53 97 dXM_join_50 rfl rfl (fun h9 => ?_) (fun h9 => False.elim (by first | exact h9 (nI_le (show el.length ≤ E by omega) (by omega)) | exact absurd h9 (nI_le (show el.length ≤ E by omega) (by omega))))
          refine v_iinc C 100 _ (nI (K + 1)) dXM_join_97 rfl rfl (nI_1 K) rfl ?_
          refine v_goto C 32 dXM_join_100 rfl ?_
          refine ih (K + 1) M' f3 (by omega) (by omega) hk h' (fun i hi => ?_) _ _ _
          rw [ha i hi]
          unfold mixo
          rw [if_pos (by omega)]
        | succ n' ih2 =>
          intro E M' f3 hE hk h' ha L6 L7
          have hA3 := h'.2.1 3 (by decide)
          have hA4 := h'.2.1 4 (by decide)
          rw [va_up_self] at hA3
          rw [va_up_ne _ _ (by decide)] at hA4
          have hfE : f3 E = nI (j1 ow mk i0 K (marks + 1) E) := by rw [ha E (by omega), mixo_E]
          have hle := le1 K E (by omega)
          have st : ∀ v : Nat, v = j1 ow mk i0 (K + 1) (marks + 1) E → ∀ L6 L7, VV g x M' 0 0 90 [some (.ref b), some (.int (nI many)), some (.int (nI tier)), some (.int (bI (decide (i0 = 0)))), some (.int (nI K)), some (.int (nI E)), L6, L7] [.int (nI v), .int (nI E), .ref (A 3)] := by
            intro v hv L6 L7
            refine v_iast C 91 dXM_join_90 rfl hA3 E rfl (show E < 520 by omega) (ra_sz_lt 3) ?_
            have h2 := ra_up h' 3 (by decide) (upd f3 E (nI v))
            rw [bx_uu] at h2
            refine v_iinc C 94 _ (nI (E + 1)) dXM_join_91 rfl rfl (nI_1 E) rfl ?_
            refine v_goto C 44 dXM_join_94 rfl ?_
            exact ih2 (E + 1) _ (upd f3 E (nI v)) (by omega) (hk.tr (ra_ku (by decide))) h2 (ao_up ha (by rw [mixo_s, hv]) (fun i hi hne => mixo_n hne)) _ _
          refine v_iload C 46 dXM_join_44 rfl rfl ?_
          first | refine v_aload_n C 47 dXM_join_46 rfl rfl ?_ | refine v_aload_nN C 47 dXM_join_46 rfl rfl ?_ | refine v_aload_nQ C 47 dXM_join_46 rfl rfl ?_
          refine gt_XM_85 C 50 dXM_join_47 rfl h'.1 rfl ?_
          refine v_icmp_ge C 53 97 dXM_join_50 rfl rfl (fun h9 => False.elim (by first | exact h9 (nI_ge (show E < el.length by omega) (by omega)) | exact absurd h9 (nI_ge (show E < el.length by omega) (by omega)))) (fun h9 => ?_)
          first | refine v_aload_n C 54 dXM_join_53 rfl rfl ?_ | refine v_aload_nN C 54 dXM_join_53 rfl rfl ?_ | refine v_aload_nQ C 54 dXM_join_53 rfl rfl ?_
          refine gt_XM_19 C 57 dXM_join_54 rfl h'.1 rfl ?_
          refine v_iload C 59 dXM_join_57 rfl rfl ?_
          first | refine v_aload_n C 60 dXM_join_59 rfl rfl ?_ | refine v_aload_nN C 60 dXM_join_59 rfl rfl ?_ | refine v_aload_nQ C 60 dXM_join_59 rfl rfl ?_
          refine gt_XM_19 C 63 dXM_join_60 rfl h'.1 rfl ?_
          refine v_iload C 65 dXM_join_63 rfl rfl ?_
          refine v_iald C 66 dXM_join_65 rfl hA3 E rfl (show E < 520 by omega) (ra_sz_lt 3) ?_
          rw [hfE]
          first | refine v_aload_n C 67 dXM_join_66 rfl rfl ?_ | refine v_aload_nN C 67 dXM_join_66 rfl rfl ?_ | refine v_aload_nQ C 67 dXM_join_66 rfl rfl ?_
          refine gt_XM_22 C 70 dXM_join_67 rfl h'.1 rfl ?_
          refine v_iload C 72 dXM_join_70 rfl rfl ?_
          refine v_iald C 73 dXM_join_72 rfl hA4 K rfl (show K < 520 by omega) (ra_sz_lt 4) ?_
          rw [k1]
          refine v_icmp_ne C 76 83 dXM_join_73 rfl rfl (fun hc => ?_) (fun hc => ?_)
          · first | refine v_aload_n C 84 dXM_join_83 rfl rfl ?_ | refine v_aload_nN C 84 dXM_join_83 rfl rfl ?_ | refine v_aload_nQ C 84 dXM_join_83 rfl rfl ?_
            refine gt_XM_19 C 87 dXM_join_84 rfl h'.1 rfl ?_
            refine v_iload C 89 dXM_join_87 rfl rfl ?_
            refine v_iald C 90 dXM_join_89 rfl hA3 E rfl (show E < 520 by omega) (ra_sz_lt 3) ?_
            rw [hfE]
            exact st _ (j1_miss (fun z => hc (by rw [z]))).symm _ _
          · rw [nI_eq (by omega) (by omega)] at hc
            first | refine v_aload_n C 77 dXM_join_76 rfl rfl ?_ | refine v_aload_nN C 77 dXM_join_76 rfl rfl ?_ | refine v_aload_nQ C 77 dXM_join_76 rfl rfl ?_
            refine gt_XM_82 C 80 dXM_join_77 rfl h'.1 rfl ?_
            refine v_goto C 90 dXM_join_80 rfl ?_
            exact st _ (j1_hit hc hi0 (by omega)).symm _ _
      refine v_iload C 34 dXM_join_32 rfl rfl ?_
      first | refine v_aload_n C 35 dXM_join_34 rfl rfl ?_ | refine v_aload_nN C 35 dXM_join_34 rfl rfl ?_ | refine v_aload_nQ C 35 dXM_join_34 rfl rfl ?_
      refine gt_XM_88 C 38 dXM_join_35 rfl h'.1 rfl ?_
      refine v_icmp_ge C 41 103 dXM_join_38 rfl rfl (fun h9 => False.elim (by first | exact h9 (nI_ge (show K < rs.length by omega) (by omega)) | exact absurd h9 (nI_ge (show K < rs.length by omega) (by omega)))) (fun h9 => ?_)
      refine v_iconst C 42 dXM_join_41 rfl (nI 0) (by decide) ?_
      refine v_istore C 44 _ dXM_join_42 rfl (Nat.lt_of_lt_of_le (Nat.lt_succ_self _) (Nat.le_of_ble_eq_true rfl)) rfl ?_
      exact inner el.length 0 M' f3 (by omega) hk h' (by rw [mixo_0]; exact ha) _ _
  have main : VV g x M 0 0 13 [some (.ref b), some (.int (nI many)), some (.int (nI tier)), none, none, none, none, none] [.int (bI (decide (i0 = 0)))] := by
    refine v_istore_n C 14 _ dXM_join_13 rfl (Nat.lt_of_lt_of_le (Nat.lt_succ_self _) (Nat.le_of_ble_eq_true rfl)) rfl ?_
    first | refine v_aload_n C 15 dXM_join_14 rfl rfl ?_ | refine v_aload_nN C 15 dXM_join_14 rfl rfl ?_ | refine v_aload_nQ C 15 dXM_join_14 rfl rfl ?_
    refine v_dup C 16 dXM_join_15 rfl rfl ?_
    refine gt_XM_82 C 19 dXM_join_16 rfl h.1 rfl ?_
    refine v_iconst C 20 dXM_join_19 rfl (nI 1) (by decide) ?_
    refine v_iadd C 21 dXM_join_20 rfl ?_
    refine v_top _ (.int (nI (marks + 1))) (congrArg Value.int (nI_add marks 1)) ?_
    refine pt_XM_82 C 24 dXM_join_21 rfl rfl rfl h.1 (Nat.lt_of_lt_of_le (Nat.lt_succ_self _) (Nat.le_of_ble_eq_true rfl)) (ob_M A cap gr now mem logs safe el.length rs.length (marks + 1)) rfl ?_
    have h2 := ra_put h (now' := now) (mem' := mem) (logs' := logs) (safe' := safe) (fl' := el.length) (runs' := rs.length) (marks' := marks + 1)
    first | refine v_aload_n C 25 dXM_join_24 rfl rfl ?_ | refine v_aload_nN C 25 dXM_join_24 rfl rfl ?_ | refine v_aload_nQ C 25 dXM_join_24 rfl rfl ?_
    refine gt_XM_88 C 28 dXM_join_25 rfl h2.1 rfl ?_
    refine v_iload_n C 29 dXM_join_28 rfl rfl ?_
    refine v_isub C 30 dXM_join_29 rfl ?_
    refine v_top _ (.int (nI i0)) (congrArg Value.int ((pk_sub (by omega)).trans (by rw [show rs.length - many = i0 by omega]))) ?_
    refine v_istore C 32 _ dXM_join_30 rfl (Nat.lt_of_lt_of_le (Nat.lt_succ_self _) (Nat.le_of_ble_eq_true rfl)) rfl ?_
    exact ph1 many i0 _ (f 3) (by omega) (Nat.le_refl _) ra_kb (by rw [va_up_id]; exact h2) (by rw [j1_0]; exact fun i hi => (R2 i hi).1) _ _ _
  refine v_iload_n C 1 dXM_join_0 rfl rfl ?_
  first | refine v_aload_n C 2 dXM_join_1 rfl rfl ?_ | refine v_aload_nN C 2 dXM_join_1 rfl rfl ?_ | refine v_aload_nQ C 2 dXM_join_1 rfl rfl ?_
  refine gt_XM_88 C 5 dXM_join_2 rfl h.1 rfl ?_
  refine v_icmp_ne C 8 12 dXM_join_5 rfl rfl (fun hall => ?_) (fun hall => ?_)
  · refine v_iconst C 13 dXM_join_12 rfl (nI 0) (by decide) ?_
    have : bI (decide (i0 = 0)) = nI 0 := bI_f (decide_eq_false (fun z => hall (by rw [show many = rs.length by omega])))
    rw [this] at main
    exact main
  · refine v_iconst C 9 dXM_join_8 rfl (nI 1) (by decide) ?_
    refine v_goto C 13 dXM_join_9 rfl ?_
    rw [nI_eq (by omega) (by omega)] at hall
    have : bI (decide (i0 = 0)) = nI 1 := bI_t (decide_eq_true (by omega))
    rw [this] at main
    exact main
end
section
theorem st_j_len {now gr : Nat} {rs : st_R} {i0 tier : Nat} (h : i0 ≤ rs.length) : (st_j now gr rs i0 tier).length = i0 + 1 := by
  unfold st_j
  rw [List.length_append, List.length_take, Nat.min_eq_left h]
  rfl
theorem st_j_lo {now gr : Nat} {rs : st_R} {i0 tier k : Nat} (h : i0 ≤ rs.length) (hk : k < i0) : (st_j now gr rs i0 tier).getD k (0, tb_0) = rs.getD k (0, tb_0) := by
  unfold st_j
  rw [List.getD_eq_getElem?_getD, List.getD_eq_getElem?_getD, List.getElem?_append_left (by rw [List.length_take, Nat.min_eq_left h]; exact hk), List.getElem?_take, if_pos hk]
theorem st_j_hi {now gr : Nat} {rs : st_R} {i0 tier : Nat} (h : i0 ≤ rs.length) : (st_j now gr rs i0 tier).getD i0 (0, tb_0) = (tier, tb_j now gr (decide (i0 = 0)) ((rs.drop i0).map Prod.snd)) := by
  unfold st_j
  rw [List.getD_eq_getElem?_getD, List.getElem?_append_right (by rw [List.length_take, Nat.min_eq_left h]; exact Nat.le_refl _), List.length_take, Nat.min_eq_left h, Nat.sub_self]
  rfl
theorem mem_dr {rs : st_R} {i0 : Nat} {t : tb_T} : t ∈ (rs.drop i0).map Prod.snd ↔ ∃ k, i0 ≤ k ∧ k < rs.length ∧ st_tb rs k = t := by
  constructor
  · intro h
    obtain ⟨r, h1, h2⟩ := List.mem_map.mp h
    obtain ⟨j, hj⟩ := List.getElem?_of_mem h1
    rw [List.getElem?_drop] at hj
    have hlt := (List.getElem?_eq_some_iff.mp hj).1
    refine ⟨i0 + j, by omega, hlt, ?_⟩
    unfold st_tb
    rw [List.getD_eq_getElem?_getD, hj]
    exact h2
  · rintro ⟨k, h1, h2, h3⟩
    refine List.mem_map.mpr ⟨rs.getD k (0, tb_0), ?_, h3⟩
    refine List.mem_of_getElem? (i := k - i0) ?_
    rw [List.getElem?_drop, show i0 + (k - i0) = k by omega, List.getD_eq_getElem?_getD, List.getElem?_eq_getElem h2]
    rfl
theorem rl_join {fe fo fk ft f3 : Nat → Int32} {el : List en_E} {ow mk : Nat → Nat} {marks now gr i0 tier : Nat} {rs : st_R} (R : rl_r fe fo fk ft el ow mk marks rs) (hi0 : i0 < rs.length) (hok : ∀ k, k < rs.length → tb_ok (st_tb rs k)) (ha : ao f3 el.length (jall el now gr (decide (i0 = 0)) ow mk i0 rs.length (marks + 1))) : rl_r fe f3 (upd fk i0 (nI (marks + 1))) (upd ft i0 (nI tier)) el (jall el now gr (decide (i0 = 0)) ow mk i0 rs.length (marks + 1)) (va_up mk i0 (marks + 1)) (marks + 1) (st_j now gr rs i0 tier) := by
  obtain ⟨R1, R2, R3, R4, R5, R6⟩ := R
  have h0 : marks + 1 ≠ 0 := by omega
  have one : ∀ i, i < el.length → (j1 ow mk i0 rs.length (marks + 1) i = marks + 1 ↔ jG ow mk i0 rs.length i) := fun i hi => j1_mx (by have := (R2 i hi).2; omega)
  have noG : ∀ i, i < el.length → ¬ jG ow mk i0 rs.length i → jall el now gr (decide (i0 = 0)) ow mk i0 rs.length (marks + 1) i = ow i := by
    intro i hi hG
    have e1 : j1 ow mk i0 rs.length (marks + 1) i = ow i := j1_no hG
    have n1 : j1 ow mk i0 rs.length (marks + 1) i ≠ marks + 1 := fun z => hG ((one i hi).mp z)
    have e2 : j2 el (j1 ow mk i0 rs.length (marks + 1)) (marks + 1) i = ow i := by rw [j2_no n1, e1]
    have n2 : j2 el (j1 ow mk i0 rs.length (marks + 1)) (marks + 1) i ≠ marks + 1 := by rw [e2, ← e1]; exact n1
    have e3 : j3 el (j2 el (j1 ow mk i0 rs.length (marks + 1)) (marks + 1)) (marks + 1) i = ow i := by rw [j3_no n2, e2]
    have n3 : j3 el (j2 el (j1 ow mk i0 rs.length (marks + 1)) (marks + 1)) (marks + 1) i ≠ marks + 1 := by rw [e3, ← e1]; exact n1
    unfold jall
    split
    · rw [j4_no n3, e3]
    · exact e3
  have yeG : ∀ i, i < el.length → jG ow mk i0 rs.length i → jall el now gr (decide (i0 = 0)) ow mk i0 rs.length (marks + 1) i = 0 ∨ jall el now gr (decide (i0 = 0)) ow mk i0 rs.length (marks + 1) i = marks + 1 := by
    intro i hi hG
    have e1 := (one i hi).mpr hG
    have e3 : j3 el (j2 el (j1 ow mk i0 rs.length (marks + 1)) (marks + 1)) (marks + 1) i = 0 ∨ j3 el (j2 el (j1 ow mk i0 rs.length (marks + 1)) (marks + 1)) (marks + 1) i = marks + 1 := by
      rcases j3_or (el := el) (o := j2 el (j1 ow mk i0 rs.length (marks + 1)) (marks + 1)) (mx := marks + 1) (i := i) with z | z
      · exact Or.inl z
      · rw [z]
        rcases j2_or (el := el) (o := j1 ow mk i0 rs.length (marks + 1)) (mx := marks + 1) (i := i) with y | y
        · exact Or.inl y
        · rw [y]
          exact Or.inr e1
    unfold jall
    split
    · rcases j4_or (el := el) (now := now) (gr := gr) (o := j3 el (j2 el (j1 ow mk i0 rs.length (marks + 1)) (marks + 1)) (marks + 1)) (mx := marks + 1) (i := i) with z | z
      · exact Or.inl z
      · rw [z]
        exact e3
    · exact e3
  have hlen : (st_j now gr rs i0 tier).length = i0 + 1 := st_j_len (Nat.le_of_lt hi0)
  have mlt : ∀ k, k < i0 → va_up mk i0 (marks + 1) k = mk k := fun k hk => va_up_ne _ _ (by omega)
  refine ⟨R1, fun i hi => ⟨ha i hi, ?_⟩, fun k hk => ?_, fun k k' hk hk' he => ?_, fun i hi => ?_, fun k hk => ?_⟩
  · by_cases hG : jG ow mk i0 rs.length i
    · rcases yeG i hi hG with z | z <;> omega
    · rw [noG i hi hG]
      have := (R2 i hi).2
      omega
  · rw [hlen] at hk
    by_cases hki : k = i0
    · subst hki
      unfold st_ti
      rw [pk_us, pk_us, va_up_self, st_j_hi (Nat.le_of_lt hi0)]
      exact ⟨rfl, by omega, Nat.le_refl _, rfl⟩
    · obtain ⟨a1, a2, a3, a4⟩ := R3 k (by omega)
      unfold st_ti
      rw [pk_un hki, pk_un hki, mlt k (by omega), st_j_lo (Nat.le_of_lt hi0) (by omega)]
      exact ⟨a1, a2, by omega, a4⟩
  · rw [hlen] at hk hk'
    by_cases hki : k = i0 <;> by_cases hki' : k' = i0
    · omega
    · rw [hki, va_up_self, mlt k' (by omega)] at he
      have := (R3 k' (by omega)).2.2.1
      omega
    · rw [hki', va_up_self, mlt k (by omega)] at he
      have := (R3 k (by omega)).2.2.1
      omega
    · rw [mlt k (by omega), mlt k' (by omega)] at he
      exact R4 k k' (by omega) (by omega) he
  · by_cases hG : jG ow mk i0 rs.length i
    · rcases yeG i hi hG with z | z
      · exact Or.inl z
      · exact Or.inr ⟨i0, by omega, by rw [va_up_self]; exact z⟩
    · rw [noG i hi hG]
      rcases R5 i hi with z | ⟨k, a1, a2⟩
      · exact Or.inl z
      · by_cases hk : k < i0
        · exact Or.inr ⟨k, by omega, by rw [mlt k hk]; exact a2⟩
        · exact absurd ⟨k, by omega, a1, a2⟩ hG
  · rw [hlen] at hk
    by_cases hki : k = i0
    · subst hki
      unfold st_tb
      rw [st_j_hi (Nat.le_of_lt hi0), va_up_self]
      have t2 : tr el (fun i => j2 el (j1 ow mk k rs.length (marks + 1)) (marks + 1) i = marks + 1) (((rs.drop k).map Prod.snd).foldl tb_m tb_0) := by
        refine tr_2 h0 (fun t ht => ?_) (fun i e he hi => ?_) (fun t ht s e hs => ?_)
        · obtain ⟨k', a1, a2, rfl⟩ := mem_dr.mp ht
          exact hok k' a2
        · obtain ⟨k', a1, a2, a3⟩ := (one i (List.getElem?_eq_some_iff.mp he).1).mp hi
          exact ⟨st_tb rs k', mem_dr.mpr ⟨k', a1, a2, rfl⟩, (R6 k' a2).1 i e he a3⟩
        · obtain ⟨k', a1, a2, rfl⟩ := mem_dr.mp ht
          obtain ⟨i, b1, b2⟩ := (R6 k' a2).2.1 s e hs
          exact ⟨i, b1, (one i (List.getElem?_eq_some_iff.mp b1).1).mpr ⟨k', a1, a2, b2⟩⟩
      have t3 := tr_3 h0 t2
      by_cases hk0 : k = 0
      · have hd : decide (k = 0) = true := decide_eq_true hk0
        have hj : jall el now gr (decide (k = 0)) ow mk k rs.length (marks + 1) = j4 el now gr (j3 el (j2 el (j1 ow mk k rs.length (marks + 1)) (marks + 1)) (marks + 1)) (marks + 1) := if_pos hd
        have ht : tb_j now gr (decide (k = 0)) ((rs.drop k).map Prod.snd) = tb_o now gr (tb_d (((rs.drop k).map Prod.snd).foldl tb_m tb_0)) := if_pos hd
        rw [hj]
        show tr el _ (tb_j now gr (decide (k = 0)) ((rs.drop k).map Prod.snd))
        rw [ht]
        exact tr_4 h0 t3
      · have hd : ¬ decide (k = 0) = true := by rw [decide_eq_true_eq]; exact hk0
        have hj : jall el now gr (decide (k = 0)) ow mk k rs.length (marks + 1) = j3 el (j2 el (j1 ow mk k rs.length (marks + 1)) (marks + 1)) (marks + 1) := if_neg hd
        have ht : tb_j now gr (decide (k = 0)) ((rs.drop k).map Prod.snd) = tb_d (((rs.drop k).map Prod.snd).foldl tb_m tb_0) := if_neg hd
        rw [hj]
        show tr el _ (tb_j now gr (decide (k = 0)) ((rs.drop k).map Prod.snd))
        rw [ht]
        exact t3
    · have hk2 : k < i0 := by omega
      obtain ⟨a1, a2, a3, a4⟩ := R3 k (by omega)
      unfold st_tb
      rw [st_j_lo (Nat.le_of_lt hi0) hk2, mlt k hk2]
      refine tr_cg (R6 k (by omega)) (fun i hi => ?_)
      by_cases hG : jG ow mk i0 rs.length i
      · obtain ⟨k', b1, b2, b3⟩ := id hG
        constructor
        · intro z
          have := R4 k k' (by omega) b2 (z.symm.trans b3)
          omega
        · intro z
          rcases yeG i hi hG with y | y <;> omega
      · rw [noG i hi hG]
end
section
def rw (g : gx_T) (M : mp_M) (b : Nat) (A : Nat → Nat) (S : st_S) (n1 n2 : Nat) : Prop := ∃ (ml el : List en_E) (ow mk : Nat → Nat) (marks : Nat) (f : Nat → Nat → Int32), ra_M g M b A (st_cap S) (st_gr S) (st_now S) ml.length (st_log S).length (st_safe S) el.length (st_runs S).length marks f ∧ lw (f 0) ml ∧ tr ml (fun _ => True) (st_mem S) ∧ ml.length = tb_n (st_mem S) ∧ lw (f 1) (st_log S) ∧ rl_r (f 2) (f 3) (f 4) (f 5) el ow mk marks (st_runs S) ∧ el.length + (st_log S).length ≤ n1 ∧ marks ≤ n2
theorem lw_nil {f : Nat → Int32} : lw f [] := fun i e h => by simp at h
theorem tr_nil : tr [] (fun _ => True) tb_0 := ⟨fun i e h => (by simp at h), fun s e h => (by cases h), fun i j e e' h => (by simp at h)⟩
theorem st_len_app {rs : st_R} {r : Nat × tb_T} : (rs ++ [r]).length = rs.length + 1 := by rw [List.length_append]; rfl
theorem st_app_lo {rs : st_R} {r : Nat × tb_T} {k : Nat} (h : k < rs.length) : (rs ++ [r]).getD k (0, tb_0) = rs.getD k (0, tb_0) := by
  rw [List.getD_eq_getElem?_getD, List.getD_eq_getElem?_getD, List.getElem?_append_left h]
theorem st_app_hi {rs : st_R} {r : Nat × tb_T} : (rs ++ [r]).getD rs.length (0, tb_0) = r := by
  rw [List.getD_eq_getElem?_getD, List.getElem?_append_right (Nat.le_refl _), Nat.sub_self]
  rfl
theorem rl_push {fe fo fk ft f2 f3 : Nat → Int32} {el ml : List en_E} {ow mk : Nat → Nat} {marks : Nat} {rs : st_R} {T : tb_T} (R : rl_r fe fo fk ft el ow mk marks rs) (hl : lw f2 (el ++ ml)) (ht : tr ml (fun _ => True) T) (h3 : ∀ i, i < el.length → f3 i = nI (ow i)) (h4 : ∀ i, el.length ≤ i → i < el.length + ml.length → f3 i = nI (marks + 1)) : rl_r f2 f3 (upd fk rs.length (nI (marks + 1))) (upd ft rs.length (nI 0)) (el ++ ml) (fun i => if i < el.length then ow i else marks + 1) (va_up mk rs.length (marks + 1)) (marks + 1) (rs ++ [(0, T)]) := by
  obtain ⟨R1, R2, R3, R4, R5, R6⟩ := R
  have mlt : ∀ k, k < rs.length → va_up mk rs.length (marks + 1) k = mk k := fun k hk => va_up_ne _ _ (by omega)
  have cas : ∀ (i : Nat) (e : en_E), (el ++ ml)[i]? = some e → (i < el.length ∧ el[i]? = some e) ∨ (el.length ≤ i ∧ ml[i - el.length]? = some e) := by
    intro i e h
    by_cases hi : i < el.length
    · rw [List.getElem?_append_left hi] at h
      exact Or.inl ⟨hi, h⟩
    · rw [List.getElem?_append_right (by omega)] at h
      exact Or.inr ⟨by omega, h⟩
  refine ⟨hl, fun i hi => ?_, fun k hk => ?_, fun k k' hk hk' he => ?_, fun i hi => ?_, fun k hk => ?_⟩
  · rw [List.length_append] at hi
    by_cases hil : i < el.length
    · simp only [hil, if_true]
      exact ⟨h3 i hil, by have := (R2 i hil).2; omega⟩
    · simp only [hil, if_false]
      exact ⟨h4 i (by omega) hi, Nat.le_refl _⟩
  · rw [st_len_app] at hk
    by_cases hki : k = rs.length
    · subst hki
      unfold st_ti
      rw [pk_us, pk_us, va_up_self, st_app_hi]
      exact ⟨rfl, by omega, Nat.le_refl _, rfl⟩
    · obtain ⟨a1, a2, a3, a4⟩ := R3 k (by omega)
      unfold st_ti
      rw [pk_un hki, pk_un hki, mlt k (by omega), st_app_lo (by omega)]
      exact ⟨a1, a2, by omega, a4⟩
  · rw [st_len_app] at hk hk'
    by_cases hki : k = rs.length <;> by_cases hki' : k' = rs.length
    · omega
    · rw [hki, va_up_self, mlt k' (by omega)] at he
      have := (R3 k' (by omega)).2.2.1
      omega
    · rw [hki', va_up_self, mlt k (by omega)] at he
      have := (R3 k (by omega)).2.2.1
      omega
    · rw [mlt k (by omega), mlt k' (by omega)] at he
      exact R4 k k' (by omega) (by omega) he
  · rw [st_len_app]
    by_cases hil : i < el.length
    · simp only [hil, if_true]
      rcases R5 i hil with z | ⟨k, a1, a2⟩
      · exact Or.inl z
      · exact Or.inr ⟨k, by omega, by rw [mlt k a1]; exact a2⟩
    · simp only [hil, if_false]
      exact Or.inr ⟨rs.length, by omega, by rw [va_up_self]⟩
  · rw [st_len_app] at hk
    by_cases hki : k = rs.length
    · subst hki
      unfold st_tb
      rw [st_app_hi, va_up_self]
      refine ⟨fun i e he hi => ?_, fun s e he => ?_, fun i j e e' he he' hi hj hs => ?_⟩
      · rcases cas i e he with ⟨a1, a2⟩ | ⟨a1, a2⟩
        · simp only [a1, if_true] at hi
          have := (R2 i a1).2
          omega
        · exact ht.1 _ e a2 trivial
      · obtain ⟨i, a1, -⟩ := ht.2.1 s e he
        refine ⟨el.length + i, ?_, ?_⟩
        · rw [List.getElem?_append_right (by omega), Nat.add_sub_cancel_left]
          exact a1
        · simp only
          rw [if_neg (by omega)]
      · rcases cas i e he with ⟨a1, a2⟩ | ⟨a1, a2⟩
        · simp only [a1, if_true] at hi
          have := (R2 i a1).2
          omega
        · rcases cas j e' he' with ⟨b1, b2⟩ | ⟨b1, b2⟩
          · simp only [b1, if_true] at hj
            have := (R2 j b1).2
            omega
          · have := ht.2.2 _ _ e e' a2 b2 trivial trivial hs
            omega
    · obtain ⟨a1, a2, a3, a4⟩ := R3 k (by omega)
      have h6 := R6 k (by omega)
      unfold st_tb
      rw [st_app_lo (by omega), mlt k (by omega)]
      refine ⟨fun i e he hi => ?_, fun s e he => ?_, fun i j e e' he he' hi hj hs => ?_⟩
      · rcases cas i e he with ⟨b1, b2⟩ | ⟨b1, b2⟩
        · simp only [b1, if_true] at hi
          exact h6.1 i e b2 hi
        · simp only at hi
          rw [if_neg (by omega)] at hi
          omega
      · obtain ⟨i, b1, b2⟩ := h6.2.1 s e he
        have hlt := (List.getElem?_eq_some_iff.mp b1).1
        refine ⟨i, by rw [List.getElem?_append_left hlt]; exact b1, ?_⟩
        simp only
        rw [if_pos hlt]
        exact b2
      · rcases cas i e he with ⟨b1, b2⟩ | ⟨b1, b2⟩
        · simp only [b1, if_true] at hi
          rcases cas j e' he' with ⟨c1, c2⟩ | ⟨c1, c2⟩
          · simp only [c1, if_true] at hj
            exact h6.2.2 i j e e' b2 c2 hi hj hs
          · simp only at hj
            rw [if_neg (by omega)] at hj
            omega
        · simp only at hi
          rw [if_neg (by omega)] at hi
          omega
set_option maxHeartbeats 4000000 in
set_option maxRecDepth 100000 in
theorem c_M_flushAll (g : gx_T) {M : mp_M} {b : Nat} {A : Nat → Nat} {S : st_S} {n1 n2 : Nat} (h0 : rw g M b A S n1 n2) (hn1 : n1 ≤ 520) (hrs : (st_runs S).length < 520) (hn2 : n2 + (st_runs S).length + 5 < 1000000) (hnow : st_now S ≤ 100000) (hgr : st_gr S ≤ 100) (hml : tb_n (st_mem S) ≤ (st_log S).length) (hok : tb_ok (st_mem S)) (hoks : ∀ k, k < (st_runs S).length → tb_ok (st_tb (st_runs S) k)) (hti : ∀ k, k < (st_runs S).length → st_ti (st_runs S) k < 1000000) (h24 : tb_n (st_mem S) < 24) (h3 : tb_n (st_mem S) = 0 → st_3 (st_runs S) = false) : Ct g yXM_flushAll cXM_flushAll 3 (some .int) 5 [.ref b] M (pi_ (fun r M' => r = nI (tb_n (st_mem S)) ∧ mp_k (ra_P b A) M M' ∧ rw g M' b A (st_f S) n1 (n2 + (st_runs S).length + 3))) 0 0 := by
  refine ct_intro (L0 := [some (.ref b), none, none]) (by decide) (Nat.le_of_ble_eq_true rfl) rfl rfl (fun x C Rx I => ?_)
  obtain ⟨ml, el, ow, mk, marks, f, h, hl0, ht, hn, hl1, R, hb1, hb2⟩ := h0
  have st_gn : ∀ (n : Nat) (rs' : st_R), st_3 rs' = false → st_g (st_now S) (st_gr S) n rs' = rs' := by
    intro n rs' hz
    cases n with
    | zero => rfl
    | succ n =>
      unfold st_g
      rw [if_neg (by rw [hz]; decide)]
  have loop : ∀ (n : Nat) (rs' : st_R) (M' : mp_M) (el' : List en_E) (ow' mk' : Nat → Nat) (marks' mem' logs' safe' : Nat) (f' : Nat → Nat → Int32), rs'.length ≤ n → rs'.length ≤ 520 → marks' + n < 1000000 → el'.length ≤ 520 → mp_k (ra_P b A) M M' → ra_M g M' b A (st_cap S) (st_gr S) (st_now S) mem' logs' safe' el'.length rs'.length marks' f' → rl_r (f' 2) (f' 3) (f' 4) (f' 5) el' ow' mk' marks' rs' → (∀ k, k < rs'.length → tb_ok (st_tb rs' k)) → (∀ k, k < rs'.length → st_ti rs' k + n < 2000000) → (∀ (M2 : mp_M) (ow2 mk2 : Nat → Nat) (marks2 : Nat) (f2 : Nat → Nat → Int32), mp_k (ra_P b A) M M2 → f2 0 = f' 0 → f2 1 = f' 1 → ra_M g M2 b A (st_cap S) (st_gr S) (st_now S) mem' logs' safe' el'.length (st_g (st_now S) (st_gr S) n rs').length marks2 f2 → rl_r (f2 2) (f2 3) (f2 4) (f2 5) el' ow2 mk2 marks2 (st_g (st_now S) (st_gr S) n rs') → marks2 ≤ marks' + n → ∀ L2, VV g x M2 0 0 204 [some (.ref b), some (.int (nI ml.length)), L2] []) → ∀ L2, VV g x M' 0 0 125 [some (.ref b), some (.int (nI ml.length)), L2] [] := by
    intro n
    induction n with
    | zero =>
      intro rs' M' el' ow' mk' marks' mem' logs' safe' f' h1 h2 h3 h4 hk h' R' hok' hti' fin L2
      first | refine v_aload_n C 126 dXM_flushAll_125 rfl rfl ?_ | refine v_aload_nN C 126 dXM_flushAll_125 rfl rfl ?_ | refine v_aload_nQ C 126 dXM_flushAll_125 rfl rfl ?_
      refine gt_XM_88 C 129 dXM_flushAll_126 rfl h'.1 rfl ?_
      refine v_iconst C 130 dXM_flushAll_129 rfl (nI 3) (by decide) ?_
      refine v_icmp_lt C 133 204 dXM_flushAll_130 rfl rfl (fun h9 => ?_) (fun h9 => False.elim (by first | exact h9 (nI_lt (show rs'.length < 3 by omega) (by decide)) | exact absurd h9 (nI_lt (show rs'.length < 3 by omega) (by decide))))
      exact fin M' ow' mk' marks' f' hk rfl rfl h' R' (by omega) _
    | succ n ih =>
      intro rs' M' el' ow' mk' marks' mem' logs' safe' f' h1 h2 h3 h4 hk h' R' hok' hti' fin L2
      have ext : st_3 rs' = false → ∀ L2, VV g x M' 0 0 204 [some (.ref b), some (.int (nI ml.length)), L2] [] := by
        intro hz L2
        rw [st_gn (n + 1) rs' hz] at fin
        exact fin M' ow' mk' marks' f' hk rfl rfl h' R' (by omega) _
      have hA5 := h'.2.1 5 (by decide)
      have tv : ∀ k, k < rs'.length → f' 5 k = nI (st_ti rs' k) := fun k hk => (R'.2.2.1 k hk).2.2.2
      first | refine v_aload_n C 126 dXM_flushAll_125 rfl rfl ?_ | refine v_aload_nN C 126 dXM_flushAll_125 rfl rfl ?_ | refine v_aload_nQ C 126 dXM_flushAll_125 rfl rfl ?_
      refine gt_XM_88 C 129 dXM_flushAll_126 rfl h'.1 rfl ?_
      refine v_iconst C 130 dXM_flushAll_129 rfl (nI 3) (by decide) ?_
      refine v_icmp_lt C 133 204 dXM_flushAll_130 rfl rfl (fun hlt => ?_) (fun hlt => ?_)
      · rw [nI_ltI (by omega) (by decide)] at hlt
        exact ext (decide_eq_false (fun z => by omega)) _
      · rw [nI_ltI (by omega) (by decide)] at hlt
        have b1 := hti' (rs'.length - 1) (by omega)
        have b2 := hti' (rs'.length - 2) (by omega)
        have b3 := hti' (rs'.length - 3) (by omega)
        first | refine v_aload_n C 134 dXM_flushAll_133 rfl rfl ?_ | refine v_aload_nN C 134 dXM_flushAll_133 rfl rfl ?_ | refine v_aload_nQ C 134 dXM_flushAll_133 rfl rfl ?_
        refine gt_XM_25 C 137 dXM_flushAll_134 rfl h'.1 rfl ?_
        first | refine v_aload_n C 138 dXM_flushAll_137 rfl rfl ?_ | refine v_aload_nN C 138 dXM_flushAll_137 rfl rfl ?_ | refine v_aload_nQ C 138 dXM_flushAll_137 rfl rfl ?_
        refine gt_XM_88 C 141 dXM_flushAll_138 rfl h'.1 rfl ?_
        refine v_iconst C 142 dXM_flushAll_141 rfl (nI 1) (by decide) ?_
        refine v_isub C 143 dXM_flushAll_142 rfl ?_
        refine v_iald C 144 dXM_flushAll_143 rfl hA5 (rs'.length - 1) (pk_sub (by omega)) (show rs'.length - 1 < 520 by omega) (ra_sz_lt 5) ?_
        rw [tv _ (by omega)]
        first | refine v_aload_n C 145 dXM_flushAll_144 rfl rfl ?_ | refine v_aload_nN C 145 dXM_flushAll_144 rfl rfl ?_ | refine v_aload_nQ C 145 dXM_flushAll_144 rfl rfl ?_
        refine gt_XM_25 C 148 dXM_flushAll_145 rfl h'.1 rfl ?_
        first | refine v_aload_n C 149 dXM_flushAll_148 rfl rfl ?_ | refine v_aload_nN C 149 dXM_flushAll_148 rfl rfl ?_ | refine v_aload_nQ C 149 dXM_flushAll_148 rfl rfl ?_
        refine gt_XM_88 C 152 dXM_flushAll_149 rfl h'.1 rfl ?_
        refine v_iconst C 153 dXM_flushAll_152 rfl (nI 2) (by decide) ?_
        refine v_isub C 154 dXM_flushAll_153 rfl ?_
        refine v_iald C 155 dXM_flushAll_154 rfl hA5 (rs'.length - 2) (pk_sub (by omega)) (show rs'.length - 2 < 520 by omega) (ra_sz_lt 5) ?_
        rw [tv _ (by omega)]
        refine v_icmp_ne C 158 204 dXM_flushAll_155 rfl rfl (fun ha => ?_) (fun ha => ?_)
        · exact ext (decide_eq_false (fun z => ha (by rw [z.2.1, z.2.2]))) _
        · rw [nI_eq (by omega) (by omega)] at ha
          first | refine v_aload_n C 159 dXM_flushAll_158 rfl rfl ?_ | refine v_aload_nN C 159 dXM_flushAll_158 rfl rfl ?_ | refine v_aload_nQ C 159 dXM_flushAll_158 rfl rfl ?_
          refine gt_XM_25 C 162 dXM_flushAll_159 rfl h'.1 rfl ?_
          first | refine v_aload_n C 163 dXM_flushAll_162 rfl rfl ?_ | refine v_aload_nN C 163 dXM_flushAll_162 rfl rfl ?_ | refine v_aload_nQ C 163 dXM_flushAll_162 rfl rfl ?_
          refine gt_XM_88 C 166 dXM_flushAll_163 rfl h'.1 rfl ?_
          refine v_iconst C 167 dXM_flushAll_166 rfl (nI 2) (by decide) ?_
          refine v_isub C 168 dXM_flushAll_167 rfl ?_
          refine v_iald C 169 dXM_flushAll_168 rfl hA5 (rs'.length - 2) (pk_sub (by omega)) (show rs'.length - 2 < 520 by omega) (ra_sz_lt 5) ?_
          rw [tv _ (by omega)]
          first | refine v_aload_n C 170 dXM_flushAll_169 rfl rfl ?_ | refine v_aload_nN C 170 dXM_flushAll_169 rfl rfl ?_ | refine v_aload_nQ C 170 dXM_flushAll_169 rfl rfl ?_
          refine gt_XM_25 C 173 dXM_flushAll_170 rfl h'.1 rfl ?_
          first | refine v_aload_n C 174 dXM_flushAll_173 rfl rfl ?_ | refine v_aload_nN C 174 dXM_flushAll_173 rfl rfl ?_ | refine v_aload_nQ C 174 dXM_flushAll_173 rfl rfl ?_
          refine gt_XM_88 C 177 dXM_flushAll_174 rfl h'.1 rfl ?_
          refine v_iconst C 178 dXM_flushAll_177 rfl (nI 3) (by decide) ?_
          refine v_isub C 179 dXM_flushAll_178 rfl ?_
          refine v_iald C 180 dXM_flushAll_179 rfl hA5 (rs'.length - 3) (pk_sub (by omega)) (show rs'.length - 3 < 520 by omega) (ra_sz_lt 5) ?_
          rw [tv _ (by omega)]
          refine v_icmp_ne C 183 204 dXM_flushAll_180 rfl rfl (fun hb => ?_) (fun hb => ?_)
          · exact ext (decide_eq_false (fun z => hb (by rw [z.2.1]))) _
          · rw [nI_eq (by omega) (by omega)] at hb
            have h33 : st_3 rs' = true := decide_eq_true ⟨by omega, hb, ha.trans hb⟩
            first | refine v_aload_n C 184 dXM_flushAll_183 rfl rfl ?_ | refine v_aload_nN C 184 dXM_flushAll_183 rfl rfl ?_ | refine v_aload_nQ C 184 dXM_flushAll_183 rfl rfl ?_
            refine v_iconst C 185 dXM_flushAll_184 rfl (nI 3) (by decide) ?_
            first | refine v_aload_n C 186 dXM_flushAll_185 rfl rfl ?_ | refine v_aload_nN C 186 dXM_flushAll_185 rfl rfl ?_ | refine v_aload_nQ C 186 dXM_flushAll_185 rfl rfl ?_
            refine gt_XM_25 C 189 dXM_flushAll_186 rfl h'.1 rfl ?_
            first | refine v_aload_n C 190 dXM_flushAll_189 rfl rfl ?_ | refine v_aload_nN C 190 dXM_flushAll_189 rfl rfl ?_ | refine v_aload_nQ C 190 dXM_flushAll_189 rfl rfl ?_
            refine gt_XM_88 C 193 dXM_flushAll_190 rfl h'.1 rfl ?_
            refine v_iconst C 194 dXM_flushAll_193 rfl (nI 1) (by decide) ?_
            refine v_isub C 195 dXM_flushAll_194 rfl ?_
            refine v_iald C 196 dXM_flushAll_195 rfl hA5 (rs'.length - 1) (pk_sub (by omega)) (show rs'.length - 1 < 520 by omega) (ra_sz_lt 5) ?_
            rw [tv _ (by omega), ha, hb]
            refine v_iconst C 197 dXM_flushAll_196 rfl (nI 1) (by decide) ?_
            refine v_iadd C 198 dXM_flushAll_197 rfl ?_
            refine v_top _ (.int (nI (st_ti rs' (rs'.length - 3) + 1))) (congrArg Value.int (nI_add _ 1)) ?_
            refine v_rv 201 (cl_XM_94 C ((c_M_join g h' R' (rs'.length - 3) 3 (st_ti rs' (rs'.length - 3) + 1) (by omega) (by omega) h4 h2 (by omega) hnow hgr)) h'.1 dXM_flushAll_198 rfl rfl (Nat.le_of_ble_eq_true rfl) (Nat.le_of_ble_eq_true rfl) (Nat.le_of_ble_eq_true rfl) (by omega) (by omega)) rfl (fun M2 hM2 => ?_)
            obtain ⟨f3, f4, f5, hk2, h2', e4, e5, hao⟩ := hM2
            refine v_goto C 125 dXM_flushAll_201 rfl ?_
            have hR2 := rl_join (tier := st_ti rs' (rs'.length - 3) + 1) R' (show rs'.length - 3 < rs'.length by omega) hok' hao
            have hlen : (st_j (st_now S) (st_gr S) rs' (rs'.length - 3) (st_ti rs' (rs'.length - 3) + 1)).length = rs'.length - 3 + 1 := st_j_len (by omega)
            have hst : st_g (st_now S) (st_gr S) (n + 1) rs' = st_g (st_now S) (st_gr S) n (st_j (st_now S) (st_gr S) rs' (rs'.length - 3) (st_ti rs' (rs'.length - 3) + 1)) := by
              rw [st_g, if_pos h33]
            rw [hst] at fin
            subst e4 e5
            refine ih (st_j (st_now S) (st_gr S) rs' (rs'.length - 3) (st_ti rs' (rs'.length - 3) + 1)) M2 el' _ _ (marks' + 1) mem' logs' safe' (va_up (va_up (va_up f' 4 (upd (f' 4) (rs'.length - 3) (nI (marks' + 1)))) 5 (upd (f' 5) (rs'.length - 3) (nI (st_ti rs' (rs'.length - 3) + 1)))) 3 f3) (by omega) (by omega) (by omega) h4 (hk.tr hk2) (by rw [hlen]; exact h2') hR2 (fun k hk9 => ?_) (fun k hk9 => ?_) (fun M3 ow3 mk3 marks3 f9 a1 a2 a3 a4 a5 a6 => fin M3 ow3 mk3 marks3 f9 a1 a2 a3 a4 a5 (by omega)) _
            · rw [hlen] at hk9
              by_cases hki : k = rs'.length - 3
              · subst hki
                unfold st_tb
                rw [st_j_hi (by omega)]
                refine tb_ok_j (fun t ht => ?_)
                obtain ⟨k', c1, c2, rfl⟩ := mem_dr.mp ht
                exact hok' k' c2
              · unfold st_tb
                rw [st_j_lo (by omega) (by omega)]
                exact hok' k (by omega)
            · rw [hlen] at hk9
              by_cases hki : k = rs'.length - 3
              · subst hki
                unfold st_ti
                rw [st_j_hi (by omega)]
                show st_ti rs' (rs'.length - 3) + 1 + n < 2000000
                omega
              · have := hti' k (by omega)
                unfold st_ti
                rw [st_j_lo (by omega) (by omega)]
                unfold st_ti at this
                omega
  have rets : ∀ (M2 : mp_M) (n3 : Nat), mp_k (ra_P b A) M M2 → rw g M2 b A (st_f S) n1 n3 → n3 ≤ n2 + (st_runs S).length + 3 → ∀ L2, VV g x M2 0 0 204 [some (.ref b), some (.int (nI ml.length)), L2] [] := by
    intro M2 n3 hk2 hr hle L2
    refine v_iload_n C 205 dXM_flushAll_204 rfl rfl ?_
    obtain ⟨ml9, el9, ow9, mk9, marks9, f9, q1, q2, q3, q4, q5, q6, q7, q8⟩ := hr
    refine v_iret C Rx dXM_flushAll_205 (by omega) (by omega) ⟨_, rfl, by rw [hn], hk2, ml9, el9, ow9, mk9, marks9, f9, q1, q2, q3, q4, q5, q6, q7, by omega⟩
  have hmlen : ml.length < 24 := by rw [hn]; exact h24
  first | refine v_aload_n C 1 dXM_flushAll_0 rfl rfl ?_ | refine v_aload_nN C 1 dXM_flushAll_0 rfl rfl ?_ | refine v_aload_nQ C 1 dXM_flushAll_0 rfl rfl ?_
  refine gt_XM_42 C 4 dXM_flushAll_1 rfl h.1 rfl ?_
  refine v_istore_n C 5 _ dXM_flushAll_4 rfl (Nat.lt_of_lt_of_le (Nat.lt_succ_self _) (Nat.le_of_ble_eq_true rfl)) rfl ?_
  refine v_iload_n C 6 dXM_flushAll_5 rfl rfl ?_
  refine v_if_le C 9 125 dXM_flushAll_6 rfl rfl (fun hz => ?_) (fun hz => ?_)
  · have hm0 : ml.length = 0 := (nI_eq (a := ml.length) (b := 0) (by omega) (by decide)).mp (Int32.le_antisymm hz (nI_pos' (by omega)))
    have hs0 : st_f S = S := if_pos (by rw [← hn]; exact hm0)
    have h30 := h3 (by rw [← hn]; exact hm0)
    refine loop (st_runs S).length (st_runs S) M el ow mk marks _ _ _ f (Nat.le_refl _) (by omega) (by omega) (by omega) mp_k.rf h R hoks (fun k hk => by have := hti k hk; omega) (fun M2 ow2 mk2 marks2 f2 a1 a2 a3 a4 a5 a6 L2 => ?_) _
    rw [st_gn _ _ h30] at a4 a5
    refine rets M2 (n2 + (st_runs S).length) a1 ?_ (by omega) _
    rw [hs0]
    exact ⟨ml, el, ow2, mk2, marks2, f2, a4, by rw [a2]; exact hl0, ht, hn, by rw [a3]; exact hl1, a5, hb1, by omega⟩
  · have hm1 : 0 < ml.length := by
      rcases Nat.eq_zero_or_pos ml.length with z | z
      · rw [z] at hz
        exact absurd (Int32.le_refl _) hz
      · exact z
    have hsf : st_f S = (st_cap S, st_gr S, st_now S, tb_0, [], 0, st_g (st_now S) (st_gr S) ((st_runs S).length + 1) (st_runs S ++ [(0, st_mem S)])) := if_neg (by rw [← hn]; omega)
    have cp : ∀ (n m : Nat) (M' : mp_M) (f2 f3 : Nat → Int32), m + n = ml.length → mp_k (ra_P b A) M M' → ra_M g M' b A (st_cap S) (st_gr S) (st_now S) ml.length (st_log S).length (st_safe S) (el.length + m) (st_runs S).length (marks + 1) (va_up (va_up f 2 f2) 3 f3) → lw f2 (el ++ ml.take m) → (∀ i, i < el.length → f3 i = nI (ow i)) → (∀ i, el.length ≤ i → i < el.length + m → f3 i = nI (marks + 1)) → (∀ (M' : mp_M) (f2 f3 : Nat → Int32), mp_k (ra_P b A) M M' → ra_M g M' b A (st_cap S) (st_gr S) (st_now S) ml.length (st_log S).length (st_safe S) (el.length + ml.length) (st_runs S).length (marks + 1) (va_up (va_up f 2 f2) 3 f3) → lw f2 (el ++ ml) → (∀ i, i < el.length → f3 i = nI (ow i)) → (∀ i, el.length ≤ i → i < el.length + ml.length → f3 i = nI (marks + 1)) → ∀ L2, VV g x M' 0 0 77 [some (.ref b), some (.int (nI ml.length)), L2] []) → VV g x M' 0 0 21 [some (.ref b), some (.int (nI ml.length)), some (.int (nI m))] [] := by
      intro n
      induction n with
      | zero =>
        intro m M' f2 f3 hm hk h' q1 q2 q3 fin
        have hml9 : m = ml.length := by omega
        subst hml9
        refine v_iload_n C 22 dXM_flushAll_21 rfl rfl ?_
        refine v_iload_n C 23 dXM_flushAll_22 rfl rfl ?_
        refine v_icmp_ge C 26 77 dXM_flushAll_23 rfl rfl (fun h9 => ?_) (fun h9 => False.elim (by first | exact h9 (nI_le (Nat.le_refl ml.length) (by omega)) | exact absurd h9 (nI_le (Nat.le_refl ml.length) (by omega))))
        rw [List.take_length] at q1
        exact fin M' f2 f3 hk h' q1 q2 q3 _
      | succ n ih =>
        intro m M' f2 f3 hm hk h' q1 q2 q3 fin
        obtain ⟨e, he⟩ : ∃ e, ml[m]? = some e := ⟨_, List.getElem?_eq_getElem (show m < ml.length by omega)⟩
        obtain ⟨hwe, ok⟩ := hl0 m e he
        have hA0 := h'.2.1 0 (by decide)
        have hA2 := h'.2.1 2 (by decide)
        rw [va_up_ne _ _ (by decide), va_up_ne _ _ (by decide)] at hA0
        rw [va_up_ne _ _ (by decide), va_up_self] at hA2
        have hne : A 0 ≠ A 2 := fun z => by have := h'.2.2 0 2 (by decide) (by decide) z; omega
        refine v_iload_n C 22 dXM_flushAll_21 rfl rfl ?_
        refine v_iload_n C 23 dXM_flushAll_22 rfl rfl ?_
        refine v_icmp_ge C 26 77 dXM_flushAll_23 rfl rfl (fun h9 => False.elim (by first | exact h9 (nI_ge (show m < ml.length by omega) (by omega)) | exact absurd h9 (nI_ge (show m < ml.length by omega) (by omega)))) (fun h9 => ?_)
        first | refine v_aload_n C 27 dXM_flushAll_26 rfl rfl ?_ | refine v_aload_nN C 27 dXM_flushAll_26 rfl rfl ?_ | refine v_aload_nQ C 27 dXM_flushAll_26 rfl rfl ?_
        refine gt_XM_7 C 30 dXM_flushAll_27 rfl h'.1 rfl ?_
        refine v_bipush C 32 dXM_flushAll_30 rfl (nI 7) (by decide) ?_
        refine v_iload_n C 33 dXM_flushAll_32 rfl rfl ?_
        refine v_imul C 34 dXM_flushAll_33 rfl ?_
        refine v_top _ (.int (nI (7 * m))) (congrArg Value.int (pk_mul 7 m)) ?_
        first | refine v_aload_n C 35 dXM_flushAll_34 rfl rfl ?_ | refine v_aload_nN C 35 dXM_flushAll_34 rfl rfl ?_ | refine v_aload_nQ C 35 dXM_flushAll_34 rfl rfl ?_
        refine gt_XM_16 C 38 dXM_flushAll_35 rfl h'.1 rfl ?_
        refine v_bipush C 40 dXM_flushAll_38 rfl (nI 7) (by decide) ?_
        first | refine v_aload_n C 41 dXM_flushAll_40 rfl rfl ?_ | refine v_aload_nN C 41 dXM_flushAll_40 rfl rfl ?_ | refine v_aload_nQ C 41 dXM_flushAll_40 rfl rfl ?_
        refine gt_XM_85 C 44 dXM_flushAll_41 rfl h'.1 rfl ?_
        refine v_imul C 45 dXM_flushAll_44 rfl ?_
        refine v_top _ (.int (nI (7 * (el.length + m)))) (congrArg Value.int (pk_mul 7 _)) ?_
        refine v_rv 48 (cl_XM_52 C ((c_M_copy g hA0 hA2 hne (ra_sz_lt 0) (ra_sz_lt 2) (show 7 * m + 6 < 168 by omega) (show 7 * (el.length + m) + 6 < 3640 by omega))) dXM_flushAll_45 rfl rfl (Nat.le_of_ble_eq_true rfl) (Nat.le_of_ble_eq_true rfl) (Nat.le_of_ble_eq_true rfl) (by omega) (by omega)) rfl (fun M1 hM1 => ?_)
        subst hM1
        have h2 := ra_up h' 2 (by decide) (cp7 (f 0) f2 (7 * m) (7 * (el.length + m)) 7)
        rw [va_cm _ _ _ (show 3 ≠ 2 by decide), bx_uu] at h2
        have hB3 := h2.2.1 3 (by decide)
        rw [va_up_self] at hB3
        first | refine v_aload_n C 49 dXM_flushAll_48 rfl rfl ?_ | refine v_aload_nN C 49 dXM_flushAll_48 rfl rfl ?_ | refine v_aload_nQ C 49 dXM_flushAll_48 rfl rfl ?_
        refine gt_XM_19 C 52 dXM_flushAll_49 rfl h2.1 rfl ?_
        first | refine v_aload_n C 53 dXM_flushAll_52 rfl rfl ?_ | refine v_aload_nN C 53 dXM_flushAll_52 rfl rfl ?_ | refine v_aload_nQ C 53 dXM_flushAll_52 rfl rfl ?_
        refine gt_XM_85 C 56 dXM_flushAll_53 rfl h2.1 rfl ?_
        first | refine v_aload_n C 57 dXM_flushAll_56 rfl rfl ?_ | refine v_aload_nN C 57 dXM_flushAll_56 rfl rfl ?_ | refine v_aload_nQ C 57 dXM_flushAll_56 rfl rfl ?_
        refine gt_XM_82 C 60 dXM_flushAll_57 rfl h2.1 rfl ?_
        refine v_iast C 61 dXM_flushAll_60 rfl hB3 (el.length + m) rfl (show el.length + m < 520 by omega) (ra_sz_lt 3) ?_
        have h4 := ra_up h2 3 (by decide) (upd f3 (el.length + m) (nI (marks + 1)))
        rw [bx_uu] at h4
        first | refine v_aload_n C 62 dXM_flushAll_61 rfl rfl ?_ | refine v_aload_nN C 62 dXM_flushAll_61 rfl rfl ?_ | refine v_aload_nQ C 62 dXM_flushAll_61 rfl rfl ?_
        refine v_dup C 63 dXM_flushAll_62 rfl rfl ?_
        refine gt_XM_85 C 66 dXM_flushAll_63 rfl h4.1 rfl ?_
        refine v_iconst C 67 dXM_flushAll_66 rfl (nI 1) (by decide) ?_
        refine v_iadd C 68 dXM_flushAll_67 rfl ?_
        refine v_top _ (.int (nI (el.length + m + 1))) (congrArg Value.int (nI_add _ 1)) ?_
        refine pt_XM_85 C 71 dXM_flushAll_68 rfl rfl rfl h4.1 (Nat.lt_of_lt_of_le (Nat.lt_succ_self _) (Nat.le_of_ble_eq_true rfl)) (ob_M A (st_cap S) (st_gr S) (st_now S) ml.length (st_log S).length (st_safe S) (el.length + m + 1) (st_runs S).length (marks + 1)) rfl ?_
        have h5 := ra_put h4 (now' := st_now S) (mem' := ml.length) (logs' := (st_log S).length) (safe' := st_safe S) (fl' := el.length + m + 1) (runs' := (st_runs S).length) (marks' := marks + 1)
        refine v_iinc C 74 _ (nI (m + 1)) dXM_flushAll_71 rfl rfl (nI_1 m) rfl ?_
        refine v_goto C 21 dXM_flushAll_74 rfl ?_
        have hlt2 : (el ++ ml.take m).length = el.length + m := by
          rw [List.length_append, List.length_take, Nat.min_eq_left (by omega)]
        have hq1 := lw_app (f := f 0) (p := 7 * m) q1 hwe ok
        rw [hlt2] at hq1
        have htk : el ++ ml.take m ++ [e] = el ++ ml.take (m + 1) := by
          rw [List.append_assoc, List.take_add_one, he]
          rfl
        rw [htk] at hq1
        refine ih (m + 1) _ _ _ (by omega) (hk.tr ((ra_ku (by decide)).tr ((ra_ku (by decide)).tr ra_kb))) h5 hq1 (fun i hi => ?_) (fun i hi1 hi2 => ?_) fin
        · rw [pk_un (by omega)]
          exact q2 i hi
        · by_cases hie : i = el.length + m
          · rw [hie, pk_us]
          · rw [pk_un hie]
            exact q3 i hi1 (by omega)
    first | refine v_aload_n C 10 dXM_flushAll_9 rfl rfl ?_ | refine v_aload_nN C 10 dXM_flushAll_9 rfl rfl ?_ | refine v_aload_nQ C 10 dXM_flushAll_9 rfl rfl ?_
    refine v_dup C 11 dXM_flushAll_10 rfl rfl ?_
    refine gt_XM_82 C 14 dXM_flushAll_11 rfl h.1 rfl ?_
    refine v_iconst C 15 dXM_flushAll_14 rfl (nI 1) (by decide) ?_
    refine v_iadd C 16 dXM_flushAll_15 rfl ?_
    refine v_top _ (.int (nI (marks + 1))) (congrArg Value.int (nI_add marks 1)) ?_
    refine pt_XM_82 C 19 dXM_flushAll_16 rfl rfl rfl h.1 (Nat.lt_of_lt_of_le (Nat.lt_succ_self _) (Nat.le_of_ble_eq_true rfl)) (ob_M A (st_cap S) (st_gr S) (st_now S) ml.length (st_log S).length (st_safe S) el.length (st_runs S).length (marks + 1)) rfl ?_
    have hp := ra_put h (now' := st_now S) (mem' := ml.length) (logs' := (st_log S).length) (safe' := st_safe S) (fl' := el.length) (runs' := (st_runs S).length) (marks' := marks + 1)
    refine v_iconst C 20 dXM_flushAll_19 rfl (nI 0) (by decide) ?_
    refine v_istore_n C 21 _ dXM_flushAll_20 rfl (Nat.lt_of_lt_of_le (Nat.lt_succ_self _) (Nat.le_of_ble_eq_true rfl)) rfl ?_
    refine cp ml.length 0 _ (f 2) (f 3) (by omega) ra_kb ?_ ?_ (fun i hi => (R.2.1 i hi).1) (fun i hi1 hi2 => by omega) (fun M' f2 f3 hk h' q1 q2 q3 L2 => ?_)
    · rw [va_up_id, va_up_id]
      exact hp
    · rw [List.take_zero, List.append_nil]
      exact R.1
    · have hA4 := h'.2.1 4 (by decide)
      rw [va_up_ne _ _ (by decide), va_up_ne _ _ (by decide)] at hA4
      first | refine v_aload_n C 78 dXM_flushAll_77 rfl rfl ?_ | refine v_aload_nN C 78 dXM_flushAll_77 rfl rfl ?_ | refine v_aload_nQ C 78 dXM_flushAll_77 rfl rfl ?_
      refine gt_XM_22 C 81 dXM_flushAll_78 rfl h'.1 rfl ?_
      first | refine v_aload_n C 82 dXM_flushAll_81 rfl rfl ?_ | refine v_aload_nN C 82 dXM_flushAll_81 rfl rfl ?_ | refine v_aload_nQ C 82 dXM_flushAll_81 rfl rfl ?_
      refine gt_XM_88 C 85 dXM_flushAll_82 rfl h'.1 rfl ?_
      first | refine v_aload_n C 86 dXM_flushAll_85 rfl rfl ?_ | refine v_aload_nN C 86 dXM_flushAll_85 rfl rfl ?_ | refine v_aload_nQ C 86 dXM_flushAll_85 rfl rfl ?_
      refine gt_XM_82 C 89 dXM_flushAll_86 rfl h'.1 rfl ?_
      refine v_iast C 90 dXM_flushAll_89 rfl hA4 (st_runs S).length rfl (show (st_runs S).length < 520 by omega) (ra_sz_lt 4) ?_
      have h2 := ra_up h' 4 (by decide) (upd (f 4) (st_runs S).length (nI (marks + 1)))
      have hA5 := h2.2.1 5 (by decide)
      rw [va_up_ne _ _ (by decide), va_up_ne _ _ (by decide), va_up_ne _ _ (by decide)] at hA5
      first | refine v_aload_n C 91 dXM_flushAll_90 rfl rfl ?_ | refine v_aload_nN C 91 dXM_flushAll_90 rfl rfl ?_ | refine v_aload_nQ C 91 dXM_flushAll_90 rfl rfl ?_
      refine gt_XM_25 C 94 dXM_flushAll_91 rfl h2.1 rfl ?_
      first | refine v_aload_n C 95 dXM_flushAll_94 rfl rfl ?_ | refine v_aload_nN C 95 dXM_flushAll_94 rfl rfl ?_ | refine v_aload_nQ C 95 dXM_flushAll_94 rfl rfl ?_
      refine gt_XM_88 C 98 dXM_flushAll_95 rfl h2.1 rfl ?_
      refine v_iconst C 99 dXM_flushAll_98 rfl (nI 0) (by decide) ?_
      refine v_iast C 100 dXM_flushAll_99 rfl hA5 (st_runs S).length rfl (show (st_runs S).length < 520 by omega) (ra_sz_lt 5) ?_
      have h5 := ra_up h2 5 (by decide) (upd (f 5) (st_runs S).length (nI 0))
      first | refine v_aload_n C 101 dXM_flushAll_100 rfl rfl ?_ | refine v_aload_nN C 101 dXM_flushAll_100 rfl rfl ?_ | refine v_aload_nQ C 101 dXM_flushAll_100 rfl rfl ?_
      refine v_dup C 102 dXM_flushAll_101 rfl rfl ?_
      refine gt_XM_88 C 105 dXM_flushAll_102 rfl h5.1 rfl ?_
      refine v_iconst C 106 dXM_flushAll_105 rfl (nI 1) (by decide) ?_
      refine v_iadd C 107 dXM_flushAll_106 rfl ?_
      refine v_top _ (.int (nI ((st_runs S).length + 1))) (congrArg Value.int (nI_add _ 1)) ?_
      refine pt_XM_88 C 110 dXM_flushAll_107 rfl rfl rfl h5.1 (Nat.lt_of_lt_of_le (Nat.lt_succ_self _) (Nat.le_of_ble_eq_true rfl)) (ob_M A (st_cap S) (st_gr S) (st_now S) ml.length (st_log S).length (st_safe S) (el.length + ml.length) ((st_runs S).length + 1) (marks + 1)) rfl ?_
      first | refine v_aload_n C 111 dXM_flushAll_110 rfl rfl ?_ | refine v_aload_nN C 111 dXM_flushAll_110 rfl rfl ?_ | refine v_aload_nQ C 111 dXM_flushAll_110 rfl rfl ?_
      refine v_iconst C 112 dXM_flushAll_111 rfl (nI 0) (by decide) ?_
      refine pt_XM_42 C 115 dXM_flushAll_112 rfl rfl rfl mp_us (Nat.lt_of_lt_of_le (Nat.lt_succ_self _) (Nat.le_of_ble_eq_true rfl)) (ob_M A (st_cap S) (st_gr S) (st_now S) 0 (st_log S).length (st_safe S) (el.length + ml.length) ((st_runs S).length + 1) (marks + 1)) rfl ?_
      first | refine v_aload_n C 116 dXM_flushAll_115 rfl rfl ?_ | refine v_aload_nN C 116 dXM_flushAll_115 rfl rfl ?_ | refine v_aload_nQ C 116 dXM_flushAll_115 rfl rfl ?_
      refine v_iconst C 117 dXM_flushAll_116 rfl (nI 0) (by decide) ?_
      refine pt_XM_56 C 120 dXM_flushAll_117 rfl rfl rfl mp_us (Nat.lt_of_lt_of_le (Nat.lt_succ_self _) (Nat.le_of_ble_eq_true rfl)) (ob_M A (st_cap S) (st_gr S) (st_now S) 0 0 (st_safe S) (el.length + ml.length) ((st_runs S).length + 1) (marks + 1)) rfl ?_
      first | refine v_aload_n C 121 dXM_flushAll_120 rfl rfl ?_ | refine v_aload_nN C 121 dXM_flushAll_120 rfl rfl ?_ | refine v_aload_nQ C 121 dXM_flushAll_120 rfl rfl ?_
      refine v_iconst C 122 dXM_flushAll_121 rfl (nI 0) (by decide) ?_
      refine pt_XM_91 C 125 dXM_flushAll_122 rfl rfl rfl mp_us (Nat.lt_of_lt_of_le (Nat.lt_succ_self _) (Nat.le_of_ble_eq_true rfl)) (ob_M A (st_cap S) (st_gr S) (st_now S) 0 0 0 (el.length + ml.length) ((st_runs S).length + 1) (marks + 1)) rfl ?_
      rw [mp_uu, mp_uu, mp_uu]
      have h6 := ra_put h5 (now' := st_now S) (mem' := 0) (logs' := 0) (safe' := 0) (fl' := el.length + ml.length) (runs' := (st_runs S).length + 1) (marks' := marks + 1)
      have hkk := hk.tr ((ra_ku (b := b) (A := A) (i := 4) (by decide) (e := ar_i (gx_I g) (ra_sz 4) (upd (f 4) (st_runs S).length (nI (marks + 1))))).tr ((ra_ku (b := b) (A := A) (i := 5) (by decide) (e := ar_i (gx_I g) (ra_sz 5) (upd (f 5) (st_runs S).length (nI 0)))).tr (ra_kb (b := b) (A := A) (e := .inr (ci_M, ob_M A (st_cap S) (st_gr S) (st_now S) 0 0 0 (el.length + ml.length) ((st_runs S).length + 1) (marks + 1))))))
      have hR := rl_push (f3 := f3) R q1 ht q2 q3
      have hlen := st_len_app (rs := st_runs S) (r := (0, st_mem S))
      refine loop ((st_runs S).length + 1) (st_runs S ++ [(0, st_mem S)]) _ (el ++ ml) (fun i => if i < el.length then ow i else marks + 1) (va_up mk (st_runs S).length (marks + 1)) (marks + 1) 0 0 0 (va_up (va_up (va_up (va_up f 2 f2) 3 f3) 4 (upd (f 4) (st_runs S).length (nI (marks + 1)))) 5 (upd (f 5) (st_runs S).length (nI 0))) (by omega) (by omega) (by omega) (by rw [List.length_append]; omega) hkk (by rw [List.length_append, hlen]; exact h6) hR (fun k hk9 => ?_) (fun k hk9 => ?_) (fun M2 ow2 mk2 marks2 f9 a1 a2 a3 a4 a5 a6 L2 => ?_) _
      · rw [hlen] at hk9
        unfold st_tb
        by_cases hki : k = (st_runs S).length
        · rw [hki, st_app_hi]
          exact hok
        · rw [st_app_lo (by omega)]
          exact hoks k (by omega)
      · rw [hlen] at hk9
        unfold st_ti
        by_cases hki : k = (st_runs S).length
        · rw [hki, st_app_hi]
          show 0 + _ < 2000000
          omega
        · have := hti k (by omega)
          rw [st_app_lo (by omega)]
          unfold st_ti at this
          omega
      · refine rets M2 (marks + 1 + ((st_runs S).length + 1)) a1 ?_ (by omega) _
        rw [hsf]
        exact ⟨[], el ++ ml, ow2, mk2, marks2, f9, a4, lw_nil, tr_nil, tb_n_0.symm, lw_nil, a5, by rw [List.length_append]; show el.length + ml.length + 0 ≤ n1; omega, a6⟩
end
section
theorem tb_n_a {T : tb_T} {e : en_E} (ok : en_ok e) : tb_n T ≤ tb_n (tb_a T e) ∧ tb_n (tb_a T e) ≤ tb_n T + 1 ∧ 0 < tb_n (tb_a T e) := by
  cases h : T (en_s e) with
  | none =>
    rw [tb_a_n h, tb_n_new (en_s_lt ok) h]
    omega
  | some f =>
    have hp : 0 < tb_n T := cn_pos (P := fun s => (T s).isSome) 704 (en_s_lt ok) (by show (T (en_s e)).isSome = true; rw [h]; rfl)
    cases hw : en_w e f with
    | true =>
      rw [tb_a_w h hw, tb_n_old h]
      omega
    | false =>
      rw [tb_a_l h hw]
      omega
theorem lw_new {f : Nat → Int32} {log : List en_E} {e : en_E} {f' : Nat → Int32} (h : lw f log) (ok : en_ok e) (he : rw_e f' (7 * log.length) e) (ho : ∀ j, j < 7 * log.length → f' j = f j) : lw f' (log ++ [e]) := by
  intro i e' h1
  by_cases hi : i < log.length
  · rw [List.getElem?_append_left hi] at h1
    obtain ⟨⟨a0, a1, a2, a3, a4, a5, a6⟩, b⟩ := h i e' h1
    exact ⟨⟨(ho _ (by omega)).trans a0, (ho _ (by omega)).trans a1, (ho _ (by omega)).trans a2, (ho _ (by omega)).trans a3, (ho _ (by omega)).trans a4, (ho _ (by omega)).trans a5, (ho _ (by omega)).trans a6⟩, b⟩
  · rw [List.getElem?_append_right (by omega)] at h1
    have hz : i - log.length < 1 := (List.getElem?_eq_some_iff.mp h1).1
    rw [show i - log.length = 0 by omega] at h1
    cases h1
    rw [show i = log.length by omega]
    exact ⟨he, ok⟩
def wr7 (f : Nat → Int32) (p : Nat) (a0 a1 a2 a3 a4 a5 a6 : Int32) : Nat → Int32 := upd (upd (upd (upd (upd (upd (upd f p a0) (p + 1) a1) (p + 2) a2) (p + 3) a3) (p + 4) a4) (p + 5) a5) (p + 6) a6
theorem wr7_e {f : Nat → Int32} {p : Nat} {e : en_E} : rw_e (wr7 f p (nI (en_k e)) (nI (en_r e)) (nI (en_c e)) (nI (en_l e)) (nI (en_p e)) (en_v e) (tw (en_t e))) p e := by
  unfold wr7
  refine ⟨?_, ?_, ?_, ?_, ?_, ?_, ?_⟩
  · rw [pk_un (by omega), pk_un (by omega), pk_un (by omega), pk_un (by omega), pk_un (by omega), pk_un (by omega), pk_us]
  · rw [pk_un (by omega), pk_un (by omega), pk_un (by omega), pk_un (by omega), pk_un (by omega), pk_us]
  · rw [pk_un (by omega), pk_un (by omega), pk_un (by omega), pk_un (by omega), pk_us]
  · rw [pk_un (by omega), pk_un (by omega), pk_un (by omega), pk_us]
  · rw [pk_un (by omega), pk_un (by omega), pk_us]
  · rw [pk_un (by omega), pk_us]
  · rw [pk_us]
theorem wr7_o {f : Nat → Int32} {p j : Nat} {a0 a1 a2 a3 a4 a5 a6 : Int32} (h : j < p) : wr7 f p a0 a1 a2 a3 a4 a5 a6 j = f j := by
  unfold wr7
  rw [pk_un (by omega), pk_un (by omega), pk_un (by omega), pk_un (by omega), pk_un (by omega), pk_un (by omega), pk_un (by omega)]
set_option maxHeartbeats 4000000 in
set_option maxRecDepth 100000 in
theorem c_M_add (g : gx_T) {M : mp_M} {b : Nat} {A : Nat → Nat} {S : st_S} {n1 n2 : Nat} (h0 : rw g M b A S n1 n2) (e : en_E) (ok : en_ok e) (hn1 : n1 < 520) (hrs : (st_runs S).length < 520) (hn2 : n2 + (st_runs S).length + 5 < 1000000) (hnow : st_now S ≤ 100000) (hgr : st_gr S ≤ 100) (hml : tb_n (st_mem S) ≤ (st_log S).length) (hok : tb_ok (st_mem S)) (hoks : ∀ k, k < (st_runs S).length → tb_ok (st_tb (st_runs S) k)) (hti : ∀ k, k < (st_runs S).length → st_ti (st_runs S) k < 1000000) (hcap : st_cap S ≤ 20) (hmc : tb_n (st_mem S) ≤ st_cap S) : Ct g yXM_add cXM_add 10 (some .boolean) 6 [.ref b, .int (nI (en_k e)), .int (nI (en_r e)), .int (nI (en_c e)), .int (nI (en_l e)), .int (nI (en_p e)), .int (en_v e), .int (tw (en_t e))] M (pi_ (fun r M' => r = nI 1 ∧ mp_k (ra_P b A) M M' ∧ rw g M' b A (st_a S e) (n1 + 1) (n2 + (st_runs S).length + 3))) 0 0 := by
  refine ct_intro (L0 := [some (.ref b), some (.int (nI (en_k e))), some (.int (nI (en_r e))), some (.int (nI (en_c e))), some (.int (nI (en_l e))), some (.int (nI (en_p e))), some (.int (en_v e)), some (.int (tw (en_t e))), none, none]) (by decide) (Nat.le_of_ble_eq_true rfl) rfl rfl (fun x C Rx I => ?_)
  obtain ⟨ml, el, ow, mk, marks, f, h, hl0, ht, hn, hl1, R, hb1, hb2⟩ := h0
  obtain ⟨na1, na2, na3⟩ := tb_n_a (T := st_mem S) ok
  have hA1 := h.2.1 1 (by decide)
  refine v_bipush C 2 dXM_add_0 rfl (nI 7) (by decide) ?_
  first | refine v_aload_n C 3 dXM_add_2 rfl rfl ?_ | refine v_aload_nN C 3 dXM_add_2 rfl rfl ?_ | refine v_aload_nQ C 3 dXM_add_2 rfl rfl ?_
  refine gt_XM_56 C 6 dXM_add_3 rfl h.1 rfl ?_
  refine v_imul C 7 dXM_add_6 rfl ?_
  refine v_top _ (.int (nI (7 * (st_log S).length))) (congrArg Value.int (pk_mul 7 _)) ?_
  refine v_istore C 9 _ dXM_add_7 rfl (Nat.lt_of_lt_of_le (Nat.lt_succ_self _) (Nat.le_of_ble_eq_true rfl)) rfl ?_
  first | refine v_aload_n C 10 dXM_add_9 rfl rfl ?_ | refine v_aload_nN C 10 dXM_add_9 rfl rfl ?_ | refine v_aload_nQ C 10 dXM_add_9 rfl rfl ?_
  refine gt_XM_13 C 13 dXM_add_10 rfl h.1 rfl ?_
  refine v_iload C 15 dXM_add_13 rfl rfl ?_
  refine v_iload_n C 16 dXM_add_15 rfl rfl ?_
  refine v_iast C 17 dXM_add_16 rfl hA1 (7 * (st_log S).length) rfl (show 7 * (st_log S).length < 3640 by omega) (ra_sz_lt 1) ?_
  have i1 := ra_up h 1 (by decide) (upd (f 1) (7 * (st_log S).length) (nI (en_k e)))
  first | refine v_aload_n C 18 dXM_add_17 rfl rfl ?_ | refine v_aload_nN C 18 dXM_add_17 rfl rfl ?_ | refine v_aload_nQ C 18 dXM_add_17 rfl rfl ?_
  refine gt_XM_13 C 21 dXM_add_18 rfl i1.1 rfl ?_
  refine v_iload C 23 dXM_add_21 rfl rfl ?_
  refine v_iconst C 24 dXM_add_23 rfl (nI 1) (by decide) ?_
  refine v_iadd C 25 dXM_add_24 rfl ?_
  refine v_iload_n C 26 dXM_add_25 rfl rfl ?_
  refine v_iast C 27 dXM_add_26 rfl mp_us (7 * (st_log S).length + 1) (nI_add _ 1) (show 7 * (st_log S).length + 1 < 3640 by omega) (ra_sz_lt 1) ?_
  rw [mp_uu]
  have i2 := ra_up h 1 (by decide) (upd (upd (f 1) (7 * (st_log S).length) (nI (en_k e))) (7 * (st_log S).length + 1) (nI (en_r e)))
  first | refine v_aload_n C 28 dXM_add_27 rfl rfl ?_ | refine v_aload_nN C 28 dXM_add_27 rfl rfl ?_ | refine v_aload_nQ C 28 dXM_add_27 rfl rfl ?_
  refine gt_XM_13 C 31 dXM_add_28 rfl i2.1 rfl ?_
  refine v_iload C 33 dXM_add_31 rfl rfl ?_
  refine v_iconst C 34 dXM_add_33 rfl (nI 2) (by decide) ?_
  refine v_iadd C 35 dXM_add_34 rfl ?_
  refine v_iload_n C 36 dXM_add_35 rfl rfl ?_
  refine v_iast C 37 dXM_add_36 rfl mp_us (7 * (st_log S).length + 2) (nI_add _ 2) (show 7 * (st_log S).length + 2 < 3640 by omega) (ra_sz_lt 1) ?_
  rw [mp_uu]
  have i3 := ra_up h 1 (by decide) (upd (upd (upd (f 1) (7 * (st_log S).length) (nI (en_k e))) (7 * (st_log S).length + 1) (nI (en_r e))) (7 * (st_log S).length + 2) (nI (en_c e)))
  first | refine v_aload_n C 38 dXM_add_37 rfl rfl ?_ | refine v_aload_nN C 38 dXM_add_37 rfl rfl ?_ | refine v_aload_nQ C 38 dXM_add_37 rfl rfl ?_
  refine gt_XM_13 C 41 dXM_add_38 rfl i3.1 rfl ?_
  refine v_iload C 43 dXM_add_41 rfl rfl ?_
  refine v_iconst C 44 dXM_add_43 rfl (nI 3) (by decide) ?_
  refine v_iadd C 45 dXM_add_44 rfl ?_
  refine v_iload C 47 dXM_add_45 rfl rfl ?_
  refine v_iast C 48 dXM_add_47 rfl mp_us (7 * (st_log S).length + 3) (nI_add _ 3) (show 7 * (st_log S).length + 3 < 3640 by omega) (ra_sz_lt 1) ?_
  rw [mp_uu]
  have i4 := ra_up h 1 (by decide) (upd (upd (upd (upd (f 1) (7 * (st_log S).length) (nI (en_k e))) (7 * (st_log S).length + 1) (nI (en_r e))) (7 * (st_log S).length + 2) (nI (en_c e))) (7 * (st_log S).length + 3) (nI (en_l e)))
  first | refine v_aload_n C 49 dXM_add_48 rfl rfl ?_ | refine v_aload_nN C 49 dXM_add_48 rfl rfl ?_ | refine v_aload_nQ C 49 dXM_add_48 rfl rfl ?_
  refine gt_XM_13 C 52 dXM_add_49 rfl i4.1 rfl ?_
  refine v_iload C 54 dXM_add_52 rfl rfl ?_
  refine v_iconst C 55 dXM_add_54 rfl (nI 4) (by decide) ?_
  refine v_iadd C 56 dXM_add_55 rfl ?_
  refine v_iload C 58 dXM_add_56 rfl rfl ?_
  refine v_iast C 59 dXM_add_58 rfl mp_us (7 * (st_log S).length + 4) (nI_add _ 4) (show 7 * (st_log S).length + 4 < 3640 by omega) (ra_sz_lt 1) ?_
  rw [mp_uu]
  have i5 := ra_up h 1 (by decide) (upd (upd (upd (upd (upd (f 1) (7 * (st_log S).length) (nI (en_k e))) (7 * (st_log S).length + 1) (nI (en_r e))) (7 * (st_log S).length + 2) (nI (en_c e))) (7 * (st_log S).length + 3) (nI (en_l e))) (7 * (st_log S).length + 4) (nI (en_p e)))
  first | refine v_aload_n C 60 dXM_add_59 rfl rfl ?_ | refine v_aload_nN C 60 dXM_add_59 rfl rfl ?_ | refine v_aload_nQ C 60 dXM_add_59 rfl rfl ?_
  refine gt_XM_13 C 63 dXM_add_60 rfl i5.1 rfl ?_
  refine v_iload C 65 dXM_add_63 rfl rfl ?_
  refine v_iconst C 66 dXM_add_65 rfl (nI 5) (by decide) ?_
  refine v_iadd C 67 dXM_add_66 rfl ?_
  refine v_iload C 69 dXM_add_67 rfl rfl ?_
  refine v_iast C 70 dXM_add_69 rfl mp_us (7 * (st_log S).length + 5) (nI_add _ 5) (show 7 * (st_log S).length + 5 < 3640 by omega) (ra_sz_lt 1) ?_
  rw [mp_uu]
  have i6 := ra_up h 1 (by decide) (upd (upd (upd (upd (upd (upd (f 1) (7 * (st_log S).length) (nI (en_k e))) (7 * (st_log S).length + 1) (nI (en_r e))) (7 * (st_log S).length + 2) (nI (en_c e))) (7 * (st_log S).length + 3) (nI (en_l e))) (7 * (st_log S).length + 4) (nI (en_p e))) (7 * (st_log S).length + 5) (en_v e))
  first | refine v_aload_n C 71 dXM_add_70 rfl rfl ?_ | refine v_aload_nN C 71 dXM_add_70 rfl rfl ?_ | refine v_aload_nQ C 71 dXM_add_70 rfl rfl ?_
  refine gt_XM_13 C 74 dXM_add_71 rfl i6.1 rfl ?_
  refine v_iload C 76 dXM_add_74 rfl rfl ?_
  refine v_bipush C 78 dXM_add_76 rfl (nI 6) (by decide) ?_
  refine v_iadd C 79 dXM_add_78 rfl ?_
  refine v_iload C 81 dXM_add_79 rfl rfl ?_
  refine v_iast C 82 dXM_add_81 rfl mp_us (7 * (st_log S).length + 6) (nI_add _ 6) (show 7 * (st_log S).length + 6 < 3640 by omega) (ra_sz_lt 1) ?_
  rw [mp_uu]
  have i7 := ra_up h 1 (by decide) (wr7 (f 1) (7 * (st_log S).length) (nI (en_k e)) (nI (en_r e)) (nI (en_c e)) (nI (en_l e)) (nI (en_p e)) (en_v e) (tw (en_t e)))
  first | refine v_aload_n C 83 dXM_add_82 rfl rfl ?_ | refine v_aload_nN C 83 dXM_add_82 rfl rfl ?_ | refine v_aload_nQ C 83 dXM_add_82 rfl rfl ?_
  refine v_dup C 84 dXM_add_83 rfl rfl ?_
  refine gt_XM_56 C 87 dXM_add_84 rfl i7.1 rfl ?_
  refine v_iconst C 88 dXM_add_87 rfl (nI 1) (by decide) ?_
  refine v_iadd C 89 dXM_add_88 rfl ?_
  refine v_top _ (.int (nI ((st_log S).length + 1))) (congrArg Value.int (nI_add _ 1)) ?_
  refine pt_XM_56 C 92 dXM_add_89 rfl rfl rfl i7.1 (Nat.lt_of_lt_of_le (Nat.lt_succ_self _) (Nat.le_of_ble_eq_true rfl)) (ob_M A (st_cap S) (st_gr S) (st_now S) ml.length ((st_log S).length + 1) (st_safe S) el.length (st_runs S).length marks) rfl ?_
  have i8 := ra_put i7 (now' := st_now S) (mem' := ml.length) (logs' := (st_log S).length + 1) (safe' := st_safe S) (fl' := el.length) (runs' := (st_runs S).length) (marks' := marks)
  first | refine v_aload_n C 93 dXM_add_92 rfl rfl ?_ | refine v_aload_nN C 93 dXM_add_92 rfl rfl ?_ | refine v_aload_nQ C 93 dXM_add_92 rfl rfl ?_
  refine v_iload C 95 dXM_add_93 rfl rfl ?_
  refine v_rv 98 (cl_XM_59 C ((c_M_remember g i8 (by rw [va_up_ne _ _ (by decide)]; exact hl0) ht hok hn (st_log S).length (by omega) (by rw [va_up_self]; exact wr7_e) ok (by omega))) i8.1 dXM_add_95 rfl rfl (Nat.le_of_ble_eq_true rfl) (Nat.le_of_ble_eq_true rfl) (Nat.le_of_ble_eq_true rfl) (by omega) (by omega)) rfl (fun M2 hM2 => ?_)
  obtain ⟨ml', f0, hk2, h2, hl2, ht2, hn2'⟩ := hM2
  have hkk := (ra_ku (b := b) (A := A) (M := M) (i := 1) (by decide) (e := ar_i (gx_I g) (ra_sz 1) (wr7 (f 1) (7 * (st_log S).length) (nI (en_k e)) (nI (en_r e)) (nI (en_c e)) (nI (en_l e)) (nI (en_p e)) (en_v e) (tw (en_t e))))).tr (ra_kb.tr hk2)
  have hS1 : rw g M2 b A (st_cap S, st_gr S, st_now S, tb_a (st_mem S) e, st_log S ++ [e], st_safe S, st_runs S) (n1 + 1) n2 := by
    refine ⟨ml', el, ow, mk, marks, (va_up (va_up f 1 (wr7 (f 1) (7 * (st_log S).length) (nI (en_k e)) (nI (en_r e)) (nI (en_c e)) (nI (en_l e)) (nI (en_p e)) (en_v e) (tw (en_t e)))) 0 f0), ?_, ?_, ht2, hn2', ?_, ?_, ?_, hb2⟩
    · show ra_M g M2 b A (st_cap S) (st_gr S) (st_now S) ml'.length (st_log S ++ [e]).length (st_safe S) el.length (st_runs S).length marks _
      rw [List.length_append]
      exact h2
    · rw [va_up_self]
      exact hl2
    · rw [va_up_ne _ _ (by decide), va_up_self]
      exact lw_new hl1 ok wr7_e (fun j hj => wr7_o hj)
    · exact R
    · show el.length + (st_log S ++ [e]).length ≤ n1 + 1
      rw [List.length_append]
      show el.length + ((st_log S).length + 1) ≤ n1 + 1
      omega
  first | refine v_aload_n C 99 dXM_add_98 rfl rfl ?_ | refine v_aload_nN C 99 dXM_add_98 rfl rfl ?_ | refine v_aload_nQ C 99 dXM_add_98 rfl rfl ?_
  refine gt_XM_42 C 102 dXM_add_99 rfl h2.1 rfl ?_
  first | refine v_aload_n C 103 dXM_add_102 rfl rfl ?_ | refine v_aload_nN C 103 dXM_add_102 rfl rfl ?_ | refine v_aload_nQ C 103 dXM_add_102 rfl rfl ?_
  refine gt_XM_31 C 106 dXM_add_103 rfl h2.1 rfl ?_
  rw [hn2']
  refine v_icmp_le C 109 115 dXM_add_106 rfl rfl (fun hc => ?_) (fun hc => ?_)
  · rw [nI_leI (by omega) (by omega)] at hc
    refine v_iconst C 116 dXM_add_115 rfl (nI 1) (by decide) ?_
    have hs : st_a S e = (st_cap S, st_gr S, st_now S, tb_a (st_mem S) e, st_log S ++ [e], st_safe S, st_runs S) := if_neg (by omega)
    obtain ⟨ml9, el9, ow9, mk9, marks9, f9, q1, q2, q3, q4, q5, q6, q7, q8⟩ := hS1
    refine v_zret C Rx dXM_add_116 (by omega) (by omega) (Or.inr rfl) ⟨_, rfl, rfl, hkk, by rw [hs]; exact ⟨ml9, el9, ow9, mk9, marks9, f9, q1, q2, q3, q4, q5, q6, q7, by omega⟩⟩
  · rw [nI_leI (by omega) (by omega)] at hc
    have hs : st_a S e = st_f (st_cap S, st_gr S, st_now S, tb_a (st_mem S) e, st_log S ++ [e], st_safe S, st_runs S) := if_pos (by omega)
    first | refine v_aload_n C 110 dXM_add_109 rfl rfl ?_ | refine v_aload_nN C 110 dXM_add_109 rfl rfl ?_ | refine v_aload_nQ C 110 dXM_add_109 rfl rfl ?_
    refine v_ri 113 (cl_XM_63 C ((c_M_flushAll g hS1 (by omega) hrs hn2 hnow hgr (by show tb_n (tb_a (st_mem S) e) ≤ (st_log S ++ [e]).length; rw [List.length_append]; show _ ≤ (st_log S).length + 1; omega) (tb_ok_a hok ok) hoks hti (by show tb_n (tb_a (st_mem S) e) < 24; omega) (fun z => absurd z (by show tb_n (tb_a (st_mem S) e) ≠ 0; omega)))) h2.1 dXM_add_110 rfl rfl (Nat.le_of_ble_eq_true rfl) (Nat.le_of_ble_eq_true rfl) (Nat.le_of_ble_eq_true rfl) (by omega) (by omega)) rfl (fun v M3 hv => ?_)
    obtain ⟨rfl, hk3, hr3⟩ := hv
    refine v_istore C 115 _ dXM_add_113 rfl (Nat.lt_of_lt_of_le (Nat.lt_succ_self _) (Nat.le_of_ble_eq_true rfl)) rfl ?_
    refine v_iconst C 116 dXM_add_115 rfl (nI 1) (by decide) ?_
    refine v_zret C Rx dXM_add_116 (by omega) (by omega) (Or.inr rfl) ⟨_, rfl, rfl, hkk.tr hk3, by rw [hs]; exact hr3⟩
end
section
theorem st_w_X (S : st_S) (s : Nat) : en_X (fun e => st_mem S s = some e ∨ ∃ t, t ∈ st_runs S ∧ t.2 s = some e) (st_w S s) := by
  have key : ∀ (rs : st_R) (o : Option en_E) (P : en_E → Prop), en_X P o → en_X (fun e => P e ∨ ∃ t, t ∈ rs ∧ t.2 s = some e) (rs.foldl (fun o r => en_m o (r.2 s)) o) := by
    intro rs
    induction rs with
    | nil => exact fun o P h => en_X_cg (fun e => ⟨fun z => Or.inl z, fun z => z.elim id (fun ⟨t, h1, _⟩ => by cases h1)⟩) h
    | cons r rs ih =>
      intro o P h
      refine en_X_cg (fun e => ⟨fun z => ?_, fun z => ?_⟩) (ih (en_m o (r.2 s)) (fun e => P e ∨ r.2 s = some e) (en_X_m h))
      · rcases z with (z | z) | ⟨t, h1, h2⟩
        · exact Or.inl z
        · exact Or.inr ⟨r, List.mem_cons_self, z⟩
        · exact Or.inr ⟨t, List.mem_cons_of_mem _ h1, h2⟩
      · rcases z with z | ⟨t, h1, h2⟩
        · exact Or.inl (Or.inl z)
        · rcases List.mem_cons.mp h1 with h3 | h3
          · subst h3
            exact Or.inl (Or.inr h2)
          · exact Or.inr ⟨t, h3, h2⟩
  refine key (st_runs S) (st_mem S s) (fun e => st_mem S s = some e) ?_
  cases h : st_mem S s with
  | none => exact fun e z => by cases z
  | some e => exact ⟨rfl, fun f z => by cases z; exact en_w_self e⟩
theorem rl_mem {fe fo fk ft : Nat → Int32} {el : List en_E} {ow mk : Nat → Nat} {marks : Nat} {rs : st_R} (R : rl_r fe fo fk ft el ow mk marks rs) {s : Nat} {e : en_E} (hok : ∀ k, k < rs.length → tb_ok (st_tb rs k)) : (∃ i, el[i]? = some e ∧ 0 < ow i ∧ en_s e = s) ↔ ∃ t, t ∈ rs ∧ t.2 s = some e := by
  obtain ⟨R1, R2, R3, R4, R5, R6⟩ := R
  constructor
  · rintro ⟨i, h1, h2, h3⟩
    rcases R5 i (List.getElem?_eq_some_iff.mp h1).1 with z | ⟨k, a1, a2⟩
    · omega
    · refine ⟨rs.getD k (0, tb_0), ?_, ?_⟩
      · rw [List.getD_eq_getElem?_getD, List.getElem?_eq_getElem a1]
        exact List.getElem_mem a1
      · rw [← h3]
        exact (R6 k a1).1 i e h1 a2
  · rintro ⟨t, h1, h2⟩
    obtain ⟨k, hk⟩ := List.getElem?_of_mem h1
    have hlt := (List.getElem?_eq_some_iff.mp hk).1
    have htb : st_tb rs k = t.2 := by
      unfold st_tb
      rw [List.getD_eq_getElem?_getD, hk]
      rfl
    rw [← htb] at h2
    obtain ⟨i, a1, a2⟩ := (R6 k hlt).2.1 s e h2
    exact ⟨i, a1, by rw [a2]; exact (R3 k hlt).2.1, (hok k hlt s e h2).2⟩
def wn (ml el : List en_E) (w : Option en_E) (v : Int32) : Prop := (v = -1000000 ∧ w = none) ∨ (∃ (i : Nat) (e : en_E), el[i]? = some e ∧ w = some e ∧ v = nI (7 * i)) ∨ (∃ (m : Nat) (e : en_E), ml[m]? = some e ∧ w = some e ∧ v = -1 - nI (7 * m))
def wb (el : List en_E) (w : Option en_E) (v : Int32) : Prop := (v = -1000000 ∧ w = none) ∨ (∃ (i : Nat) (e : en_E), el[i]? = some e ∧ w = some e ∧ v = nI (7 * i))
set_option maxHeartbeats 4000000 in
set_option maxRecDepth 100000 in
theorem c_M_winner (g : gx_T) {M : mp_M} {b : Nat} {A : Nat → Nat} {S : st_S} {ml el : List en_E} {ow mk : Nat → Nat} {marks : Nat} {f : Nat → Nat → Int32} (h : ra_M g M b A (st_cap S) (st_gr S) (st_now S) ml.length (st_log S).length (st_safe S) el.length (st_runs S).length marks f) (hl0 : lw (f 0) ml) (ht : tr ml (fun _ => True) (st_mem S)) (R : rl_r (f 2) (f 3) (f 4) (f 5) el ow mk marks (st_runs S)) (hel : el.length ≤ 520) (hml : ml.length < 24) (hmk : marks < 1000000) (hok : tb_ok (st_mem S)) (hoks : ∀ k, k < (st_runs S).length → tb_ok (st_tb (st_runs S) k)) (r c : Nat) (hr : r < 16) (hc : c < 8) : Ct g yXM_winner cXM_winner 6 (some .int) 3 [.ref b, .int (nI r), .int (nI c)] M (pi_ (fun v M' => M = M' ∧ wn ml el (st_w S (r * 8 + c)) v)) 0 0 := by
  refine ct_intro (L0 := [some (.ref b), some (.int (nI r)), some (.int (nI c)), none, none, none]) (by decide) (Nat.le_of_ble_eq_true rfl) rfl rfl (fun x C Rx I => ?_)
  obtain ⟨R1, R2, R3, R4, R5, R6⟩ := id R
  have hA0 := h.2.1 0 (by decide)
  have hA2 := h.2.1 2 (by decide)
  have hA3 := h.2.1 3 (by decide)
  have slot : ∀ e, en_ok e → (en_s e = r * 8 + c ↔ (en_k e ≠ 2 ∧ en_r e = r ∧ en_c e = c)) := by
    intro e ok
    constructor
    · intro z
      have hk := (en_s_128 ok).mp (by omega)
      rw [en_s_p hk] at z
      have a1 := ok.2.2.2.1
      have a2 := ok.2.2.1
      exact ⟨hk, by omega, by omega⟩
    · rintro ⟨z1, z2, z3⟩
      rw [en_s_p z1, z2, z3]
  have hXr : ∀ o, en_X (fun e => ∃ i, el[i]? = some e ∧ 0 < ow i ∧ en_s e = r * 8 + c) o → en_m o (st_mem S (r * 8 + c)) = st_w S (r * 8 + c) := by
    intro o ho
    refine en_X_u (S := fun e => st_mem S (r * 8 + c) = some e ∨ ∃ t, t ∈ st_runs S ∧ t.2 (r * 8 + c) = some e) (s := r * 8 + c) (fun e z => ?_) (en_X_cg (fun e => ⟨fun z => ?_, fun z => ?_⟩) (en_X_m (b := st_mem S (r * 8 + c)) ho)) (st_w_X S _)
    · rcases z with z | ⟨t, z1, z2⟩
      · exact hok _ _ z
      · obtain ⟨i, a1, a2, a3⟩ := (rl_mem R hoks).mpr ⟨t, z1, z2⟩
        exact ⟨(R1 i e a1).2, a3⟩
    · rcases z with z | z
      · exact Or.inr ((rl_mem R hoks).mp z)
      · exact Or.inl z
    · rcases z with z | z
      · exact Or.inr z
      · exact Or.inl ((rl_mem R hoks).mpr z)
  have l2 : ∀ (o : Option en_E) (v : Int32), wb el o v → en_X (fun e => ∃ i, el[i]? = some e ∧ 0 < ow i ∧ en_s e = r * 8 + c) o → ∀ (n m : Nat), m + n = ml.length → (∀ (i : Nat) (e : en_E), i < m → ml[i]? = some e → en_s e = r * 8 + c → en_m o (some e) = o) → ∀ L5, VV g x M 0 0 103 [some (.ref b), some (.int (nI r)), some (.int (nI c)), some (.int v), some (.int (nI m)), L5] [] := by
    intro o v hv ho n
    have hoS : ∀ e, o = some e → en_s e = r * 8 + c ∧ en_ok e := by
      intro e z
      subst z
      obtain ⟨i, a1, a2, a3⟩ := ho.1
      exact ⟨a3, (R1 i e a1).2⟩
    induction n with
    | zero =>
      intro m hm hno L5
      refine v_iload C 105 dXM_winner_103 rfl rfl ?_
      first | refine v_aload_n C 106 dXM_winner_105 rfl rfl ?_ | refine v_aload_nN C 106 dXM_winner_105 rfl rfl ?_ | refine v_aload_nQ C 106 dXM_winner_105 rfl rfl ?_
      refine gt_XM_42 C 109 dXM_winner_106 rfl h.1 rfl ?_
      refine v_icmp_ge C 112 189 dXM_winner_109 rfl rfl (fun h9 => ?_) (fun h9 => False.elim (by first | exact h9 (nI_le (show ml.length ≤ m by omega) (by omega)) | exact absurd h9 (nI_le (show ml.length ≤ m by omega) (by omega))))
      refine v_iload_n C 190 dXM_winner_189 rfl rfl ?_
      have hw : st_w S (r * 8 + c) = o := by
        rw [← hXr o ho]
        cases hz : st_mem S (r * 8 + c) with
        | none => cases o <;> rfl
        | some e =>
          obtain ⟨i, a1, -⟩ := ht.2.1 _ _ hz
          exact hno i e (by have := (List.getElem?_eq_some_iff.mp a1).1; omega) a1 (hok _ _ hz).2
      refine v_iret C Rx dXM_winner_190 (by omega) (by omega) ⟨_, rfl, rfl, ?_⟩
      rw [hw]
      rcases hv with z | z
      · exact Or.inl z
      · exact Or.inr (Or.inl z)
    | succ n ih =>
      intro m hm hno L5
      obtain ⟨e, he⟩ : ∃ e, ml[m]? = some e := ⟨_, List.getElem?_eq_getElem (show m < ml.length by omega)⟩
      obtain ⟨hwe, ok⟩ := hl0 m e he
      have o1 := ok.2.1
      have o2 := ok.2.2.1
      have o3 := ok.2.2.2.1
      have nxt : (en_s e = r * 8 + c → en_m o (some e) = o) → ∀ L5, VV g x M 0 0 183 [some (.ref b), some (.int (nI r)), some (.int (nI c)), some (.int v), some (.int (nI m)), L5] [] := by
        intro hz L5
        refine v_iinc C 186 _ (nI (m + 1)) dXM_winner_183 rfl rfl (nI_1 m) rfl ?_
        refine v_goto C 103 dXM_winner_186 rfl ?_
        refine ih (m + 1) (by omega) (fun i e' hi a1 a2 => ?_) _
        by_cases him : i = m
        · subst him
          cases he.symm.trans a1
          exact hz a2
        · exact hno i e' (by omega) a1 a2
      refine v_iload C 105 dXM_winner_103 rfl rfl ?_
      first | refine v_aload_n C 106 dXM_winner_105 rfl rfl ?_ | refine v_aload_nN C 106 dXM_winner_105 rfl rfl ?_ | refine v_aload_nQ C 106 dXM_winner_105 rfl rfl ?_
      refine gt_XM_42 C 109 dXM_winner_106 rfl h.1 rfl ?_
      refine v_icmp_ge C 112 189 dXM_winner_109 rfl rfl (fun h9 => False.elim (by first | exact h9 (nI_ge (show m < ml.length by omega) (by omega)) | exact absurd h9 (nI_ge (show m < ml.length by omega) (by omega)))) (fun h9 => ?_)
      refine v_bipush C 114 dXM_winner_112 rfl (nI 7) (by decide) ?_
      refine v_iload C 116 dXM_winner_114 rfl rfl ?_
      refine v_imul C 117 dXM_winner_116 rfl ?_
      refine v_top _ (.int (nI (7 * m))) (congrArg Value.int (pk_mul 7 m)) ?_
      refine v_istore C 119 _ dXM_winner_117 rfl (Nat.lt_of_lt_of_le (Nat.lt_succ_self _) (Nat.le_of_ble_eq_true rfl)) rfl ?_
      first | refine v_aload_n C 120 dXM_winner_119 rfl rfl ?_ | refine v_aload_nN C 120 dXM_winner_119 rfl rfl ?_ | refine v_aload_nQ C 120 dXM_winner_119 rfl rfl ?_
      refine gt_XM_7 C 123 dXM_winner_120 rfl h.1 rfl ?_
      refine v_iload C 125 dXM_winner_123 rfl rfl ?_
      refine v_ri 128 (cl_XM_38 C ((c_M_point g hA0 (ra_sz_lt 0) (show 7 * m < 168 by omega) hwe ok)) dXM_winner_125 rfl rfl (Nat.le_of_ble_eq_true rfl) (Nat.le_of_ble_eq_true rfl) (Nat.le_of_ble_eq_true rfl) (by omega) (by omega)) rfl (fun w M1 hv1 => ?_)
      obtain ⟨rfl, rfl⟩ := hv1
      refine v_if_eq C 131 183 dXM_winner_128 rfl rfl (fun q1 => ?_) (fun q1 => ?_)
      · rw [bI_0] at q1
        exact nxt (fun z => absurd ((slot e ok).mp z).1 (of_decide_eq_false q1)) _
      · have q1' : en_k e ≠ 2 := fun z => q1 (bI_0.mpr (decide_eq_false (fun y => y z)))
        first | refine v_aload_n C 132 dXM_winner_131 rfl rfl ?_ | refine v_aload_nN C 132 dXM_winner_131 rfl rfl ?_ | refine v_aload_nQ C 132 dXM_winner_131 rfl rfl ?_
        refine gt_XM_7 C 135 dXM_winner_132 rfl h.1 rfl ?_
        refine v_iload C 137 dXM_winner_135 rfl rfl ?_
        refine v_iconst C 138 dXM_winner_137 rfl (nI 1) (by decide) ?_
        refine v_iadd C 139 dXM_winner_138 rfl ?_
        refine v_iald C 140 dXM_winner_139 rfl hA0 (7 * m + 1) (nI_add (7 * m) 1) (show 7 * m + 1 < 168 by omega) (ra_sz_lt 0) ?_
        rw [hwe.2.1]
        refine v_iload_n C 141 dXM_winner_140 rfl rfl ?_
        refine v_icmp_ne C 144 183 dXM_winner_141 rfl rfl (fun q2 => ?_) (fun q2 => ?_)
        · exact nxt (fun z => absurd (by rw [((slot e ok).mp z).2.1]) q2) _
        · rw [nI_eq (by omega) (by omega)] at q2
          first | refine v_aload_n C 145 dXM_winner_144 rfl rfl ?_ | refine v_aload_nN C 145 dXM_winner_144 rfl rfl ?_ | refine v_aload_nQ C 145 dXM_winner_144 rfl rfl ?_
          refine gt_XM_7 C 148 dXM_winner_145 rfl h.1 rfl ?_
          refine v_iload C 150 dXM_winner_148 rfl rfl ?_
          refine v_iconst C 151 dXM_winner_150 rfl (nI 2) (by decide) ?_
          refine v_iadd C 152 dXM_winner_151 rfl ?_
          refine v_iald C 153 dXM_winner_152 rfl hA0 (7 * m + 2) (nI_add (7 * m) 2) (show 7 * m + 2 < 168 by omega) (ra_sz_lt 0) ?_
          rw [hwe.2.2.1]
          refine v_iload_n C 154 dXM_winner_153 rfl rfl ?_
          refine v_icmp_ne C 157 183 dXM_winner_154 rfl rfl (fun q3 => ?_) (fun q3 => ?_)
          · exact nxt (fun z => absurd (by rw [((slot e ok).mp z).2.2]) q3) _
          · rw [nI_eq (by omega) (by omega)] at q3
            have hse : en_s e = r * 8 + c := (slot e ok).mpr ⟨q1', q2, q3⟩
            have hme : st_mem S (r * 8 + c) = some e := by
              rw [← hse]
              exact ht.1 m e he trivial
            have yes : en_m o (some e) = some e → ∀ L5, L5 = some (.int (nI (7 * m))) → VV g x M 0 0 178 [some (.ref b), some (.int (nI r)), some (.int (nI c)), some (.int v), some (.int (nI m)), L5] [] := by
              intro hz L5 hL5
              subst hL5
              refine v_iconst C 179 dXM_winner_178 rfl (-1) (by decide) ?_
              refine v_iload C 181 dXM_winner_179 rfl rfl ?_
              refine v_isub C 182 dXM_winner_181 rfl ?_
              refine v_iret C Rx dXM_winner_182 (by omega) (by omega) ⟨_, rfl, rfl, Or.inr (Or.inr ⟨m, e, he, ?_, rfl⟩)⟩
              rw [← hXr o ho, hme]
              exact hz
            refine v_iload_n C 158 dXM_winner_157 rfl rfl ?_
            rcases hv with ⟨rfl, rfl⟩ | ⟨i, e2, a1, rfl, rfl⟩
            · refine v_if_lt C 161 178 dXM_winner_158 rfl rfl (fun h9 => ?_) (fun h9 => False.elim (by first | exact h9 ((by decide)) | exact absurd h9 ((by decide))))
              exact yes rfl _ rfl
            · have hi := (List.getElem?_eq_some_iff.mp a1).1
              obtain ⟨hw2, ok2⟩ := R1 i e2 a1
              refine v_if_lt C 161 178 dXM_winner_158 rfl rfl (fun h9 => False.elim (by first | exact h9 (nI_pos (show 7 * i < 2 ^ 31 by omega)) | exact absurd h9 (nI_pos (show 7 * i < 2 ^ 31 by omega)))) (fun h9 => ?_)
              first | refine v_aload_n C 162 dXM_winner_161 rfl rfl ?_ | refine v_aload_nN C 162 dXM_winner_161 rfl rfl ?_ | refine v_aload_nQ C 162 dXM_winner_161 rfl rfl ?_
              refine gt_XM_7 C 165 dXM_winner_162 rfl h.1 rfl ?_
              refine v_iload C 167 dXM_winner_165 rfl rfl ?_
              first | refine v_aload_n C 168 dXM_winner_167 rfl rfl ?_ | refine v_aload_nN C 168 dXM_winner_167 rfl rfl ?_ | refine v_aload_nQ C 168 dXM_winner_167 rfl rfl ?_
              refine gt_XM_16 C 171 dXM_winner_168 rfl h.1 rfl ?_
              refine v_iload_n C 172 dXM_winner_171 rfl rfl ?_
              refine v_ri 175 (cl_XM_49 C ((c_M_wins g hA0 hA2 (ra_sz_lt 0) (ra_sz_lt 2) (show 7 * m + 6 < 168 by omega) (show 7 * i + 6 < 3640 by omega) hwe hw2 ok ok2 (hse.trans (hoS e2 rfl).1.symm))) dXM_winner_172 rfl rfl (Nat.le_of_ble_eq_true rfl) (Nat.le_of_ble_eq_true rfl) (Nat.le_of_ble_eq_true rfl) (by omega) (by omega)) rfl (fun w M1 hv1 => ?_)
              obtain ⟨rfl, rfl⟩ := hv1
              refine v_if_eq C 178 183 dXM_winner_175 rfl rfl (fun q4 => ?_) (fun q4 => ?_)
              · rw [bI_0] at q4
                refine nxt (fun _ => ?_) _
                simp only [en_m, q4]
                rfl
              · have q5 : en_w e e2 = true := by
                  cases hz : en_w e e2 with
                  | true => rfl
                  | false => exact absurd (bI_0.mpr hz) q4
                exact yes (by simp only [en_m, q5, if_true]) _ rfl
  have l1 : ∀ (n E : Nat) (o : Option en_E) (v : Int32), E + n = el.length → wb el o v → en_X (fun e => ∃ i, i < E ∧ el[i]? = some e ∧ 0 < ow i ∧ en_s e = r * 8 + c) o → ∀ L5, VV g x M 0 0 6 [some (.ref b), some (.int (nI r)), some (.int (nI c)), some (.int v), some (.int (nI E)), L5] [] := by
    intro n
    induction n with
    | zero =>
      intro E o v hE hv ho L5
      refine v_iload C 8 dXM_winner_6 rfl rfl ?_
      first | refine v_aload_n C 9 dXM_winner_8 rfl rfl ?_ | refine v_aload_nN C 9 dXM_winner_8 rfl rfl ?_ | refine v_aload_nQ C 9 dXM_winner_8 rfl rfl ?_
      refine gt_XM_85 C 12 dXM_winner_9 rfl h.1 rfl ?_
      refine v_icmp_ge C 15 100 dXM_winner_12 rfl rfl (fun h9 => ?_) (fun h9 => False.elim (by first | exact h9 (nI_le (show el.length ≤ E by omega) (by omega)) | exact absurd h9 (nI_le (show el.length ≤ E by omega) (by omega))))
      refine v_iconst C 101 dXM_winner_100 rfl (nI 0) (by decide) ?_
      refine v_istore C 103 _ dXM_winner_101 rfl (Nat.lt_of_lt_of_le (Nat.lt_succ_self _) (Nat.le_of_ble_eq_true rfl)) rfl ?_
      refine l2 o v hv (en_X_cg (fun e => ⟨fun ⟨i, _, a⟩ => ⟨i, a⟩, fun ⟨i, a⟩ => ⟨i, by have := (List.getElem?_eq_some_iff.mp a.1).1; omega, a⟩⟩) ho) ml.length 0 (by omega) (fun i e hi => absurd hi (Nat.not_lt_zero i)) _
    | succ n ih =>
      intro E o v hE hv ho L5
      obtain ⟨e, he⟩ : ∃ e, el[E]? = some e := ⟨_, List.getElem?_eq_getElem (show E < el.length by omega)⟩
      obtain ⟨hwe, ok⟩ := R1 E e he
      obtain ⟨w1, w2⟩ := R2 E (by omega)
      have o1 := ok.2.1
      have o2 := ok.2.2.1
      have o3 := ok.2.2.2.1
      have hoS : ∀ e, o = some e → en_s e = r * 8 + c ∧ en_ok e := by
        intro e z
        subst z
        obtain ⟨i, _, a1, a2, a3⟩ := ho.1
        exact ⟨a3, (R1 i e a1).2⟩
      have nxt : ∀ (o' : Option en_E) (v' : Int32), wb el o' v' → en_X (fun e => ∃ i, i < E + 1 ∧ el[i]? = some e ∧ 0 < ow i ∧ en_s e = r * 8 + c) o' → ∀ L5, VV g x M 0 0 94 [some (.ref b), some (.int (nI r)), some (.int (nI c)), some (.int v'), some (.int (nI E)), L5] [] := by
        intro o' v' hv' ho' L5
        refine v_iinc C 97 _ (nI (E + 1)) dXM_winner_94 rfl rfl (nI_1 E) rfl ?_
        refine v_goto C 6 dXM_winner_97 rfl ?_
        exact ih (E + 1) o' v' (by omega) hv' ho' _
      have skip : ¬ (0 < ow E ∧ en_s e = r * 8 + c) → ∀ L5, VV g x M 0 0 94 [some (.ref b), some (.int (nI r)), some (.int (nI c)), some (.int v), some (.int (nI E)), L5] [] := by
        intro hz L5
        refine nxt o v hv (en_X_cg (fun e' => ⟨fun ⟨i, a0, a⟩ => ⟨i, by omega, a⟩, fun ⟨i, a0, a1, a2⟩ => ⟨i, ?_, a1, a2⟩⟩) ho) _
        by_cases hi : i = E
        · subst hi
          cases he.symm.trans a1
          exact absurd a2 hz
        · omega
      refine v_iload C 8 dXM_winner_6 rfl rfl ?_
      first | refine v_aload_n C 9 dXM_winner_8 rfl rfl ?_ | refine v_aload_nN C 9 dXM_winner_8 rfl rfl ?_ | refine v_aload_nQ C 9 dXM_winner_8 rfl rfl ?_
      refine gt_XM_85 C 12 dXM_winner_9 rfl h.1 rfl ?_
      refine v_icmp_ge C 15 100 dXM_winner_12 rfl rfl (fun h9 => False.elim (by first | exact h9 (nI_ge (show E < el.length by omega) (by omega)) | exact absurd h9 (nI_ge (show E < el.length by omega) (by omega)))) (fun h9 => ?_)
      refine v_bipush C 17 dXM_winner_15 rfl (nI 7) (by decide) ?_
      refine v_iload C 19 dXM_winner_17 rfl rfl ?_
      refine v_imul C 20 dXM_winner_19 rfl ?_
      refine v_top _ (.int (nI (7 * E))) (congrArg Value.int (pk_mul 7 E)) ?_
      refine v_istore C 22 _ dXM_winner_20 rfl (Nat.lt_of_lt_of_le (Nat.lt_succ_self _) (Nat.le_of_ble_eq_true rfl)) rfl ?_
      first | refine v_aload_n C 23 dXM_winner_22 rfl rfl ?_ | refine v_aload_nN C 23 dXM_winner_22 rfl rfl ?_ | refine v_aload_nQ C 23 dXM_winner_22 rfl rfl ?_
      refine gt_XM_19 C 26 dXM_winner_23 rfl h.1 rfl ?_
      refine v_iload C 28 dXM_winner_26 rfl rfl ?_
      refine v_iald C 29 dXM_winner_28 rfl hA3 E rfl (show E < 520 by omega) (ra_sz_lt 3) ?_
      rw [w1]
      refine v_if_le C 32 94 dXM_winner_29 rfl rfl (fun q0 => ?_) (fun q0 => ?_)
      · refine skip (fun z => ?_) _
        exact absurd q0 (nI_nle z.1 (by omega))
      · have q0' : 0 < ow E := by
          rcases Nat.eq_zero_or_pos (ow E) with z | z
          · rw [z] at q0
            exact absurd (Int32.le_refl _) q0
          · exact z
        first | refine v_aload_n C 33 dXM_winner_32 rfl rfl ?_ | refine v_aload_nN C 33 dXM_winner_32 rfl rfl ?_ | refine v_aload_nQ C 33 dXM_winner_32 rfl rfl ?_
        refine gt_XM_16 C 36 dXM_winner_33 rfl h.1 rfl ?_
        refine v_iload C 38 dXM_winner_36 rfl rfl ?_
        refine v_ri 41 (cl_XM_38 C ((c_M_point g hA2 (ra_sz_lt 2) (show 7 * E < 3640 by omega) hwe ok)) dXM_winner_38 rfl rfl (Nat.le_of_ble_eq_true rfl) (Nat.le_of_ble_eq_true rfl) (Nat.le_of_ble_eq_true rfl) (by omega) (by omega)) rfl (fun w M1 hv1 => ?_)
        obtain ⟨rfl, rfl⟩ := hv1
        refine v_if_eq C 44 94 dXM_winner_41 rfl rfl (fun q1 => ?_) (fun q1 => ?_)
        · rw [bI_0] at q1
          exact skip (fun z => absurd ((slot e ok).mp z.2).1 (of_decide_eq_false q1)) _
        · have q1' : en_k e ≠ 2 := fun z => q1 (bI_0.mpr (decide_eq_false (fun y => y z)))
          first | refine v_aload_n C 45 dXM_winner_44 rfl rfl ?_ | refine v_aload_nN C 45 dXM_winner_44 rfl rfl ?_ | refine v_aload_nQ C 45 dXM_winner_44 rfl rfl ?_
          refine gt_XM_16 C 48 dXM_winner_45 rfl h.1 rfl ?_
          refine v_iload C 50 dXM_winner_48 rfl rfl ?_
          refine v_iconst C 51 dXM_winner_50 rfl (nI 1) (by decide) ?_
          refine v_iadd C 52 dXM_winner_51 rfl ?_
          refine v_iald C 53 dXM_winner_52 rfl hA2 (7 * E + 1) (nI_add (7 * E) 1) (show 7 * E + 1 < 3640 by omega) (ra_sz_lt 2) ?_
          rw [hwe.2.1]
          refine v_iload_n C 54 dXM_winner_53 rfl rfl ?_
          refine v_icmp_ne C 57 94 dXM_winner_54 rfl rfl (fun q2 => ?_) (fun q2 => ?_)
          · exact skip (fun z => absurd (by rw [((slot e ok).mp z.2).2.1]) q2) _
          · rw [nI_eq (by omega) (by omega)] at q2
            first | refine v_aload_n C 58 dXM_winner_57 rfl rfl ?_ | refine v_aload_nN C 58 dXM_winner_57 rfl rfl ?_ | refine v_aload_nQ C 58 dXM_winner_57 rfl rfl ?_
            refine gt_XM_16 C 61 dXM_winner_58 rfl h.1 rfl ?_
            refine v_iload C 63 dXM_winner_61 rfl rfl ?_
            refine v_iconst C 64 dXM_winner_63 rfl (nI 2) (by decide) ?_
            refine v_iadd C 65 dXM_winner_64 rfl ?_
            refine v_iald C 66 dXM_winner_65 rfl hA2 (7 * E + 2) (nI_add (7 * E) 2) (show 7 * E + 2 < 3640 by omega) (ra_sz_lt 2) ?_
            rw [hwe.2.2.1]
            refine v_iload_n C 67 dXM_winner_66 rfl rfl ?_
            refine v_icmp_ne C 70 94 dXM_winner_67 rfl rfl (fun q3 => ?_) (fun q3 => ?_)
            · exact skip (fun z => absurd (by rw [((slot e ok).mp z.2).2.2]) q3) _
            · rw [nI_eq (by omega) (by omega)] at q3
              have hse : en_s e = r * 8 + c := (slot e ok).mpr ⟨q1', q2, q3⟩
              have hX : en_X (fun e => ∃ i, i < E + 1 ∧ el[i]? = some e ∧ 0 < ow i ∧ en_s e = r * 8 + c) (en_m o (some e)) := by
                refine en_X_cg (fun e' => ⟨fun z => ?_, fun ⟨i, a0, a1, a2⟩ => ?_⟩) (en_X_m (b := some e) ho)
                · rcases z with ⟨i, a0, a⟩ | z
                  · exact ⟨i, by omega, a⟩
                  · cases z
                    exact ⟨E, by omega, he, q0', hse⟩
                · by_cases hi : i = E
                  · subst hi
                    exact Or.inr (he.symm.trans a1)
                  · exact Or.inl ⟨i, by omega, a1, a2⟩
              have yes : en_m o (some e) = some e → ∀ L5, L5 = some (.int (nI (7 * E))) → VV g x M 0 0 91 [some (.ref b), some (.int (nI r)), some (.int (nI c)), some (.int v), some (.int (nI E)), L5] [] := by
                intro hz L5 hL5
                subst hL5
                refine v_iload C 93 dXM_winner_91 rfl rfl ?_
                refine v_istore_n C 94 _ dXM_winner_93 rfl (Nat.lt_of_lt_of_le (Nat.lt_succ_self _) (Nat.le_of_ble_eq_true rfl)) rfl ?_
                exact nxt (some e) _ (Or.inr ⟨E, e, he, rfl, rfl⟩) (hz ▸ hX) _
              refine v_iload_n C 71 dXM_winner_70 rfl rfl ?_
              rcases hv with ⟨rfl, rfl⟩ | ⟨i, e2, a1, rfl, rfl⟩
              · refine v_if_lt C 74 91 dXM_winner_71 rfl rfl (fun h9 => ?_) (fun h9 => False.elim (by first | exact h9 ((by decide)) | exact absurd h9 ((by decide))))
                exact yes rfl _ rfl
              · have hi := (List.getElem?_eq_some_iff.mp a1).1
                obtain ⟨hw2, ok2⟩ := R1 i e2 a1
                refine v_if_lt C 74 91 dXM_winner_71 rfl rfl (fun h9 => False.elim (by first | exact h9 (nI_pos (show 7 * i < 2 ^ 31 by omega)) | exact absurd h9 (nI_pos (show 7 * i < 2 ^ 31 by omega)))) (fun h9 => ?_)
                first | refine v_aload_n C 75 dXM_winner_74 rfl rfl ?_ | refine v_aload_nN C 75 dXM_winner_74 rfl rfl ?_ | refine v_aload_nQ C 75 dXM_winner_74 rfl rfl ?_
                refine gt_XM_16 C 78 dXM_winner_75 rfl h.1 rfl ?_
                refine v_iload C 80 dXM_winner_78 rfl rfl ?_
                first | refine v_aload_n C 81 dXM_winner_80 rfl rfl ?_ | refine v_aload_nN C 81 dXM_winner_80 rfl rfl ?_ | refine v_aload_nQ C 81 dXM_winner_80 rfl rfl ?_
                refine gt_XM_16 C 84 dXM_winner_81 rfl h.1 rfl ?_
                refine v_iload_n C 85 dXM_winner_84 rfl rfl ?_
                refine v_ri 88 (cl_XM_49 C ((c_M_wins g hA2 hA2 (ra_sz_lt 2) (ra_sz_lt 2) (show 7 * E + 6 < 3640 by omega) (show 7 * i + 6 < 3640 by omega) hwe hw2 ok ok2 (hse.trans (hoS e2 rfl).1.symm))) dXM_winner_85 rfl rfl (Nat.le_of_ble_eq_true rfl) (Nat.le_of_ble_eq_true rfl) (Nat.le_of_ble_eq_true rfl) (by omega) (by omega)) rfl (fun w M1 hv1 => ?_)
                obtain ⟨rfl, rfl⟩ := hv1
                refine v_if_eq C 91 94 dXM_winner_88 rfl rfl (fun q4 => ?_) (fun q4 => ?_)
                · rw [bI_0] at q4
                  have hz : en_m (some e2) (some e) = some e2 := by
                    simp only [en_m, q4]
                    rfl
                  exact nxt (some e2) _ (Or.inr ⟨i, e2, a1, rfl, rfl⟩) (hz ▸ hX) _
                · have q5 : en_w e e2 = true := by
                    cases hz : en_w e e2 with
                    | true => rfl
                    | false => exact absurd (bI_0.mpr hz) q4
                  exact yes (by simp only [en_m, q5, if_true]) _ rfl
  refine ld_XM_106 C 2 dXM_winner_0 rfl ?_
  refine v_istore_n C 3 _ dXM_winner_2 rfl (Nat.lt_of_lt_of_le (Nat.lt_succ_self _) (Nat.le_of_ble_eq_true rfl)) rfl ?_
  refine v_iconst C 4 dXM_winner_3 rfl (nI 0) (by decide) ?_
  refine v_istore C 6 _ dXM_winner_4 rfl (Nat.lt_of_lt_of_le (Nat.lt_succ_self _) (Nat.le_of_ble_eq_true rfl)) rfl ?_
  exact l1 el.length 0 none (-1000000) (by omega) (Or.inl ⟨rfl, rfl⟩) (fun e z => by obtain ⟨i, a, -⟩ := z; omega) _
end
section
theorem st_v_np {S : st_S} {r c : Int32} (h : pl r c = false) : st_v S r c = none := if_neg (of_decide_eq_false h)
theorem st_v_pl {S : st_S} {i j : Nat} (hi : i < 16) (hj : j < 8) : st_v S (nI i) (nI j) = (match st_w S (i * 8 + j) with
    | none => none
    | some e => if en_k e = 0 ∧ st_now S < en_t e ∧ bo (st_cov S i j (en_p e)) = false then some e else none) := by
  unfold st_v
  rw [nI_toInt (by omega), nI_toInt (by omega), if_pos ⟨by omega, by omega, by omega, by omega⟩]
  rfl
theorem st_v_no {S : st_S} {i j : Nat} {e : en_E} (hi : i < 16) (hj : j < 8) (hw : st_w S (i * 8 + j) = some e) (hn : ¬ (en_k e = 0 ∧ st_now S < en_t e ∧ bo (st_cov S i j (en_p e)) = false)) : st_v S (nI i) (nI j) = none := by
  rw [st_v_pl hi hj, hw]
  exact if_neg hn
theorem st_v_ye {S : st_S} {i j : Nat} {e : en_E} (hi : i < 16) (hj : j < 8) (hw : st_w S (i * 8 + j) = some e) (hn : en_k e = 0 ∧ st_now S < en_t e ∧ bo (st_cov S i j (en_p e)) = false) : st_v S (nI i) (nI j) = some e := by
  rw [st_v_pl hi hj, hw]
  exact if_pos hn
theorem cov_iff {fe fo fk ft : Nat → Int32} {ml el : List en_E} {ow mk : Nat → Nat} {marks : Nat} {S : st_S} (ht : tr ml (fun _ => True) (st_mem S)) (R : rl_r fe fo fk ft el ow mk marks (st_runs S)) (hoks : ∀ k, k < (st_runs S).length → tb_ok (st_tb (st_runs S) k)) {i j p : Nat} : st_cov S i j p ↔ ((∃ (q : Nat) (e : en_E), el[q]? = some e ∧ 0 < ow q ∧ en_cv e i j p) ∨ ∃ (m : Nat) (e : en_E), ml[m]? = some e ∧ en_cv e i j p) := by
  constructor
  · rintro (⟨s, e, h1, h2⟩ | ⟨t, h1, s, e, h2, h3⟩)
    · obtain ⟨m, a1, -⟩ := ht.2.1 s e h1
      exact Or.inr ⟨m, e, a1, h2⟩
    · obtain ⟨q, a1, a2, a3⟩ := (rl_mem R hoks).mpr ⟨t, h1, h2⟩
      exact Or.inl ⟨q, e, a1, a2, h3⟩
  · rintro (⟨q, e, h1, h2, h3⟩ | ⟨m, e, h1, h2⟩)
    · obtain ⟨t, a1, a2⟩ := (rl_mem R hoks).mp ⟨q, h1, h2, rfl⟩
      exact Or.inr ⟨t, a1, en_s e, e, a2, h3⟩
    · exact Or.inl ⟨en_s e, e, ht.1 m e h1 trivial, h2⟩
set_option maxHeartbeats 4000000 in
set_option maxRecDepth 100000 in
theorem c_M_isPlace (g : gx_T) {M : mp_M} (r c : Int32) : Ct g yXM_isPlace cXM_isPlace 2 (some .boolean) 1 [.int r, .int c] M (pi_ (fun v M' => M = M' ∧ v = bI (pl r c))) 0 0 := by
  refine ct_intro (L0 := [some (.int r), some (.int c)]) (by decide) (Nat.le_of_ble_eq_true rfl) rfl rfl (fun x C Rx I => ?_)
  have k15 : (nI 15).toInt = 15 := by decide
  have k7 : (nI 7).toInt = 7 := by decide
  have z : pl r c = false → VV g x M 0 0 24 [some (.int r), some (.int c)] [] := fun h => by
    refine v_iconst C 25 dXM_isPlace_24 rfl (nI 0) (by decide) ?_
    refine v_zret C Rx dXM_isPlace_25 (by omega) (by omega) (Or.inl rfl) ⟨_, rfl, rfl, (bI_f h).symm⟩
  refine v_iload_n C 1 dXM_isPlace_0 rfl rfl ?_
  refine v_if_lt C 4 24 dXM_isPlace_1 rfl rfl (fun h1 => ?_) (fun h1 => ?_)
  · exact z (decide_eq_false (fun q => by rw [Int32.lt_iff_toInt_lt, i0] at h1; omega))
  · refine v_iload_n C 5 dXM_isPlace_4 rfl rfl ?_
    refine v_bipush C 7 dXM_isPlace_5 rfl (nI 15) (by decide) ?_
    refine v_icmp_gt C 10 24 dXM_isPlace_7 rfl rfl (fun h2 => ?_) (fun h2 => ?_)
    · exact z (decide_eq_false (fun q => by rw [Int32.lt_iff_toInt_lt, k15] at h2; omega))
    · refine v_iload_n C 11 dXM_isPlace_10 rfl rfl ?_
      refine v_if_lt C 14 24 dXM_isPlace_11 rfl rfl (fun h3 => ?_) (fun h3 => ?_)
      · exact z (decide_eq_false (fun q => by rw [Int32.lt_iff_toInt_lt, i0] at h3; omega))
      · refine v_iload_n C 15 dXM_isPlace_14 rfl rfl ?_
        refine v_bipush C 17 dXM_isPlace_15 rfl (nI 7) (by decide) ?_
        refine v_icmp_gt C 20 24 dXM_isPlace_17 rfl rfl (fun h4 => ?_) (fun h4 => ?_)
        · exact z (decide_eq_false (fun q => by rw [Int32.lt_iff_toInt_lt, k7] at h4; omega))
        · refine v_iconst C 21 dXM_isPlace_20 rfl (nI 1) (by decide) ?_
          refine v_goto C 25 dXM_isPlace_21 rfl ?_
          rw [Int32.lt_iff_toInt_lt, i0] at h1 h3
          rw [Int32.lt_iff_toInt_lt, k15] at h2
          rw [Int32.lt_iff_toInt_lt, k7] at h4
          refine v_zret C Rx dXM_isPlace_25 (by omega) (by omega) (Or.inr rfl) ⟨_, rfl, rfl, (bI_t (decide_eq_true ⟨by omega, by omega, by omega, by omega⟩)).symm⟩
set_option maxHeartbeats 4000000 in
set_option maxRecDepth 100000 in
theorem c_M_isStamp (g : gx_T) {M : mp_M} (p : Int32) : Ct g yXM_isStamp cXM_isStamp 1 (some .boolean) 1 [.int p] M (pi_ (fun v M' => M = M' ∧ v = bI (sp_ok p))) 0 0 := by
  refine ct_intro (L0 := [some (.int p)]) (by decide) (Nat.le_of_ble_eq_true rfl) rfl rfl (fun x C Rx I => ?_)
  have k9 : (nI 9999).toInt = 9999 := by decide
  have z : sp_ok p = false → VV g x M 0 0 15 [some (.int p)] [] := fun h => by
    refine v_iconst C 16 dXM_isStamp_15 rfl (nI 0) (by decide) ?_
    refine v_zret C Rx dXM_isStamp_16 (by omega) (by omega) (Or.inl rfl) ⟨_, rfl, rfl, (bI_f h).symm⟩
  refine v_iload_n C 1 dXM_isStamp_0 rfl rfl ?_
  refine v_if_lt C 4 15 dXM_isStamp_1 rfl rfl (fun h1 => ?_) (fun h1 => ?_)
  · exact z (decide_eq_false (fun q => by rw [Int32.lt_iff_toInt_lt, i0] at h1; omega))
  · refine v_iload_n C 5 dXM_isStamp_4 rfl rfl ?_
    refine v_sipush C 8 dXM_isStamp_5 rfl (nI 9999) (by decide) ?_
    refine v_icmp_gt C 11 15 dXM_isStamp_8 rfl rfl (fun h2 => ?_) (fun h2 => ?_)
    · exact z (decide_eq_false (fun q => by rw [Int32.lt_iff_toInt_lt, k9] at h2; omega))
    · refine v_iconst C 12 dXM_isStamp_11 rfl (nI 1) (by decide) ?_
      refine v_goto C 16 dXM_isStamp_12 rfl ?_
      rw [Int32.lt_iff_toInt_lt, i0] at h1
      rw [Int32.lt_iff_toInt_lt, k9] at h2
      refine v_zret C Rx dXM_isStamp_16 (by omega) (by omega) (Or.inr rfl) ⟨_, rfl, rfl, (bI_t (decide_eq_true ⟨by omega, by omega⟩)).symm⟩
set_option maxHeartbeats 4000000 in
set_option maxRecDepth 100000 in
theorem c_M_seen (g : gx_T) {M : mp_M} {b : Nat} {A : Nat → Nat} {S : st_S} {ml el : List en_E} {ow mk : Nat → Nat} {marks : Nat} {f : Nat → Nat → Int32} (h : ra_M g M b A (st_cap S) (st_gr S) (st_now S) ml.length (st_log S).length (st_safe S) el.length (st_runs S).length marks f) (hl0 : lw (f 0) ml) (ht : tr ml (fun _ => True) (st_mem S)) (R : rl_r (f 2) (f 3) (f 4) (f 5) el ow mk marks (st_runs S)) (hel : el.length ≤ 520) (hml : ml.length < 24) (hmk : marks < 1000000) (hok : tb_ok (st_mem S)) (hoks : ∀ k, k < (st_runs S).length → tb_ok (st_tb (st_runs S) k)) (hnow : st_now S ≤ 100000) (r c : Int32) : Ct g yXM_seen cXM_seen 5 (some .boolean) 4 [.ref b, .int r, .int c] M (pi_ (fun v M' => ∃ f6 : Nat → Int32, M' = mp_u M (A 6) (ar_i (gx_I g) 7 f6) ∧ v = bI (st_v S r c).isSome ∧ ∀ e, st_v S r c = some e → rw_e f6 0 e)) 0 0 := by
  refine ct_intro (L0 := [some (.ref b), some (.int r), some (.int c), none, none]) (by decide) (Nat.le_of_ble_eq_true rfl) rfl rfl (fun x C Rx I => ?_)
  obtain ⟨R1, R2, R3, R4, R5, R6⟩ := id R
  have hA0 := h.2.1 0 (by decide)
  have hA2 := h.2.1 2 (by decide)
  have hA3 := h.2.1 3 (by decide)
  have hA6 := h.2.1 6 (by decide)
  have hM6 : mp_u M (A 6) (ar_i (gx_I g) 7 (f 6)) = M := mp_same hA6
  have quit : ∀ L4, st_v S r c = none → VV g x M 0 0 26 [some (.ref b), some (.int r), some (.int c), some (.int (-1000000)), L4] [] := by
    intro L4 hz
    refine v_iconst C 27 dXM_seen_26 rfl (nI 0) (by decide) ?_
    refine v_zret C Rx dXM_seen_27 (by omega) (by omega) (Or.inl rfl) ⟨_, rfl, f 6, hM6.symm, by rw [hz]; rfl, fun e z => by rw [hz] at z; cases z⟩
  refine v_iload_n C 1 dXM_seen_0 rfl rfl ?_
  refine v_iload_n C 2 dXM_seen_1 rfl rfl ?_
  refine v_ri 5 (cl_XM_67 C ((c_M_isPlace g (M := M) r c)) dXM_seen_2 rfl rfl (Nat.le_of_ble_eq_true rfl) (Nat.le_of_ble_eq_true rfl) (Nat.le_of_ble_eq_true rfl) (by omega) (by omega)) rfl (fun v M1 hv => ?_)
  obtain ⟨rfl, rfl⟩ := hv
  refine v_if_eq C 8 17 dXM_seen_5 rfl rfl (fun hp => ?_) (fun hp => ?_)
  · rw [bI_0] at hp
    refine ld_XM_106 C 19 dXM_seen_17 rfl ?_
    refine v_istore_n C 20 _ dXM_seen_19 rfl (Nat.lt_of_lt_of_le (Nat.lt_succ_self _) (Nat.le_of_ble_eq_true rfl)) rfl ?_
    refine v_iload_n C 21 dXM_seen_20 rfl rfl ?_
    refine ld_XM_106 C 23 dXM_seen_21 rfl ?_
    refine v_icmp_ne C 26 28 dXM_seen_23 rfl rfl (fun h9 => False.elim (by first | exact h9 ((fun z => z rfl)) | exact absurd h9 ((fun z => z rfl)))) (fun h9 => ?_)
    exact quit _ (st_v_np hp)
  · obtain ⟨i, j, hi, hj, rfl, rfl⟩ := pl_of (r := r) (c := c) (by cases hz : pl r c with | true => rfl | false => exact absurd (bI_0.mpr hz) hp)
    first | refine v_aload_n C 9 dXM_seen_8 rfl rfl ?_ | refine v_aload_nN C 9 dXM_seen_8 rfl rfl ?_ | refine v_aload_nQ C 9 dXM_seen_8 rfl rfl ?_
    refine v_iload_n C 10 dXM_seen_9 rfl rfl ?_
    refine v_iload_n C 11 dXM_seen_10 rfl rfl ?_
    refine v_ri 14 (cl_XM_107 C ((c_M_winner g h hl0 ht R hel hml hmk hok hoks i j hi hj)) h.1 dXM_seen_11 rfl rfl (Nat.le_of_ble_eq_true rfl) (Nat.le_of_ble_eq_true rfl) (Nat.le_of_ble_eq_true rfl) (by omega) (by omega)) rfl (fun v M1 hv => ?_)
    obtain ⟨rfl, hwn⟩ := hv
    refine v_goto C 19 dXM_seen_14 rfl ?_
    refine v_istore_n C 20 _ dXM_seen_19 rfl (Nat.lt_of_lt_of_le (Nat.lt_succ_self _) (Nat.le_of_ble_eq_true rfl)) rfl ?_
    refine v_iload_n C 21 dXM_seen_20 rfl rfl ?_
    refine ld_XM_106 C 23 dXM_seen_21 rfl ?_
    have aft : ∀ (e : en_E), st_w S (i * 8 + j) = some e → ∀ (f6 : Nat → Int32), rw_e f6 0 e → ∀ L3 L4, VV g x (mp_u M (A 6) (ar_i (gx_I g) 7 f6)) 0 0 62 [some (.ref b), some (.int (nI i)), some (.int (nI j)), L3, L4] [] := by
      intro e hw f6 h6 L3 L4
      have h' := ra_up h 6 (by decide) f6
      have hB0 := h'.2.1 0 (by decide)
      have hB2 := h'.2.1 2 (by decide)
      have hB3 := h'.2.1 3 (by decide)
      rw [va_up_ne _ _ (by decide)] at hB0 hB2 hB3
      have ok : en_ok e := by
        have := st_w_X S (i * 8 + j)
        rw [hw] at this
        rcases this.1 with z | z
        · exact (hok _ _ z).1
        · obtain ⟨q, a1, -⟩ := (rl_mem R hoks).mpr z
          exact (R1 q e a1).2
      have o1 := ok.1
      have o2 := ok.2.2.2.2.2.1
      have o3 := ok.2.2.2.2.2.2.2
      have end0 : ∀ pc, pc = 95 ∨ pc = 142 ∨ pc = 185 → ¬ (en_k e = 0 ∧ st_now S < en_t e ∧ bo (st_cov S i j (en_p e)) = false) → ∀ L3 L4, VV g x (mp_u M (A 6) (ar_i (gx_I g) 7 f6)) 0 0 pc [some (.ref b), some (.int (nI i)), some (.int (nI j)), L3, L4] [] := by
        intro pc hpc hno L3 L4
        have hz := st_v_no hi hj hw hno
        rcases hpc with rfl | rfl | rfl
        · refine v_iconst C 96 dXM_seen_95 rfl (nI 0) (by decide) ?_
          refine v_zret C Rx dXM_seen_96 (by omega) (by omega) (Or.inl rfl) ⟨_, rfl, f6, rfl, by rw [hz]; rfl, fun e z => by rw [hz] at z; cases z⟩
        · refine v_iconst C 143 dXM_seen_142 rfl (nI 0) (by decide) ?_
          refine v_zret C Rx dXM_seen_143 (by omega) (by omega) (Or.inl rfl) ⟨_, rfl, f6, rfl, by rw [hz]; rfl, fun e z => by rw [hz] at z; cases z⟩
        · refine v_iconst C 186 dXM_seen_185 rfl (nI 0) (by decide) ?_
          refine v_zret C Rx dXM_seen_186 (by omega) (by omega) (Or.inl rfl) ⟨_, rfl, f6, rfl, by rw [hz]; rfl, fun e z => by rw [hz] at z; cases z⟩
      have cov := cov_iff (i := i) (j := j) (p := en_p e) ht R hoks
      have l2 : en_k e = 0 → st_now S < en_t e → (∀ (q : Nat) (e' : en_E), el[q]? = some e' → 0 < ow q → ¬ en_cv e' i j (en_p e)) → ∀ (n m : Nat), m + n = ml.length → (∀ (q : Nat) (e' : en_E), q < m → ml[q]? = some e' → ¬ en_cv e' i j (en_p e)) → ∀ L3, VV g x (mp_u M (A 6) (ar_i (gx_I g) 7 f6)) 0 0 153 [some (.ref b), some (.int (nI i)), some (.int (nI j)), L3, some (.int (nI m))] [] := by
        intro hk0 hnw hel0 n
        induction n with
        | zero =>
          intro m hm hno L3
          refine v_iload C 155 dXM_seen_153 rfl rfl ?_
          first | refine v_aload_n C 156 dXM_seen_155 rfl rfl ?_ | refine v_aload_nN C 156 dXM_seen_155 rfl rfl ?_ | refine v_aload_nQ C 156 dXM_seen_155 rfl rfl ?_
          refine gt_XM_42 C 159 dXM_seen_156 rfl h'.1 rfl ?_
          refine v_icmp_ge C 162 193 dXM_seen_159 rfl rfl (fun h9 => ?_) (fun h9 => False.elim (by first | exact h9 (nI_le (show ml.length ≤ m by omega) (by omega)) | exact absurd h9 (nI_le (show ml.length ≤ m by omega) (by omega))))
          refine v_iconst C 194 dXM_seen_193 rfl (nI 1) (by decide) ?_
          have hz : st_v S (nI i) (nI j) = some e := st_v_ye hi hj hw ⟨hk0, hnw, bo_f.mpr (fun z => by
            rcases cov.mp z with ⟨q, e', a1, a2, a3⟩ | ⟨q, e', a1, a2⟩
            · exact hel0 q e' a1 a2 a3
            · exact hno q e' (by have := (List.getElem?_eq_some_iff.mp a1).1; omega) a1 a2)⟩
          refine v_zret C Rx dXM_seen_194 (by omega) (by omega) (Or.inr rfl) ⟨_, rfl, f6, rfl, by rw [hz]; rfl, fun e9 z => by rw [hz] at z; cases z; exact h6⟩
        | succ n ih =>
          intro m hm hno L3
          obtain ⟨e2, he2⟩ : ∃ e2, ml[m]? = some e2 := ⟨_, List.getElem?_eq_getElem (show m < ml.length by omega)⟩
          obtain ⟨hwe, oke⟩ := hl0 m e2 he2
          refine v_iload C 155 dXM_seen_153 rfl rfl ?_
          first | refine v_aload_n C 156 dXM_seen_155 rfl rfl ?_ | refine v_aload_nN C 156 dXM_seen_155 rfl rfl ?_ | refine v_aload_nQ C 156 dXM_seen_155 rfl rfl ?_
          refine gt_XM_42 C 159 dXM_seen_156 rfl h'.1 rfl ?_
          refine v_icmp_ge C 162 193 dXM_seen_159 rfl rfl (fun h9 => False.elim (by first | exact h9 (nI_ge (show m < ml.length by omega) (by omega)) | exact absurd h9 (nI_ge (show m < ml.length by omega) (by omega)))) (fun h9 => ?_)
          first | refine v_aload_n C 163 dXM_seen_162 rfl rfl ?_ | refine v_aload_nN C 163 dXM_seen_162 rfl rfl ?_ | refine v_aload_nQ C 163 dXM_seen_162 rfl rfl ?_
          refine gt_XM_7 C 166 dXM_seen_163 rfl h'.1 rfl ?_
          refine v_bipush C 168 dXM_seen_166 rfl (nI 7) (by decide) ?_
          refine v_iload C 170 dXM_seen_168 rfl rfl ?_
          refine v_imul C 171 dXM_seen_170 rfl ?_
          refine v_top _ (.int (nI (7 * m))) (congrArg Value.int (pk_mul 7 m)) ?_
          refine v_iload_n C 172 dXM_seen_171 rfl rfl ?_
          refine v_iload_n C 173 dXM_seen_172 rfl rfl ?_
          first | refine v_aload_n C 174 dXM_seen_173 rfl rfl ?_ | refine v_aload_nN C 174 dXM_seen_173 rfl rfl ?_ | refine v_aload_nQ C 174 dXM_seen_173 rfl rfl ?_
          refine gt_XM_28 C 177 dXM_seen_174 rfl h'.1 rfl ?_
          refine v_iconst C 178 dXM_seen_177 rfl (nI 4) (by decide) ?_
          refine v_iald C 179 dXM_seen_178 rfl mp_us 4 rfl (by decide) (by decide) ?_
          rw [show f6 4 = nI (en_p e) from h6.2.2.2.2.1]
          refine v_ri 182 (cl_XM_98 C ((c_M_covers g hB0 (ra_sz_lt 0) (show 7 * m + 6 < 168 by omega) hwe oke i j (en_p e) hi hj o2)) dXM_seen_179 rfl rfl (Nat.le_of_ble_eq_true rfl) (Nat.le_of_ble_eq_true rfl) (Nat.le_of_ble_eq_true rfl) (by omega) (by omega)) rfl (fun v M1 hv => ?_)
          obtain ⟨e1, rfl⟩ := hv
          subst e1
          refine v_if_eq C 185 187 dXM_seen_182 rfl rfl (fun hc => ?_) (fun hc => ?_)
          · rw [bI_0, bo_f] at hc
            refine v_iinc C 190 _ (nI (m + 1)) dXM_seen_187 rfl rfl (nI_1 m) rfl ?_
            refine v_goto C 153 dXM_seen_190 rfl ?_
            refine ih (m + 1) (by omega) (fun q e' hq a1 => ?_) _
            by_cases hqm : q = m
            · subst hqm
              cases he2.symm.trans a1
              exact hc
            · exact hno q e' (by omega) a1
          · have hc2 : en_cv e2 i j (en_p e) := Classical.byContradiction fun z => hc (bI_0.mpr (bo_f.mpr z))
            exact end0 185 (Or.inr (Or.inr rfl)) (fun z => by rw [bo_f] at z; exact z.2.2 (cov.mpr (Or.inr ⟨m, e2, he2, hc2⟩))) _ _
      have l1 : en_k e = 0 → st_now S < en_t e → ∀ (n E : Nat), E + n = el.length → (∀ (q : Nat) (e' : en_E), q < E → el[q]? = some e' → 0 < ow q → ¬ en_cv e' i j (en_p e)) → ∀ L3, VV g x (mp_u M (A 6) (ar_i (gx_I g) 7 f6)) 0 0 100 [some (.ref b), some (.int (nI i)), some (.int (nI j)), L3, some (.int (nI E))] [] := by
        intro hk0 hnw n
        induction n with
        | zero =>
          intro E hE hno L3
          refine v_iload C 102 dXM_seen_100 rfl rfl ?_
          first | refine v_aload_n C 103 dXM_seen_102 rfl rfl ?_ | refine v_aload_nN C 103 dXM_seen_102 rfl rfl ?_ | refine v_aload_nQ C 103 dXM_seen_102 rfl rfl ?_
          refine gt_XM_85 C 106 dXM_seen_103 rfl h'.1 rfl ?_
          refine v_icmp_ge C 109 150 dXM_seen_106 rfl rfl (fun h9 => ?_) (fun h9 => False.elim (by first | exact h9 (nI_le (show el.length ≤ E by omega) (by omega)) | exact absurd h9 (nI_le (show el.length ≤ E by omega) (by omega))))
          refine v_iconst C 151 dXM_seen_150 rfl (nI 0) (by decide) ?_
          refine v_istore C 153 _ dXM_seen_151 rfl (Nat.lt_of_lt_of_le (Nat.lt_succ_self _) (Nat.le_of_ble_eq_true rfl)) rfl ?_
          exact l2 hk0 hnw (fun q e' a1 a2 => hno q e' (by have := (List.getElem?_eq_some_iff.mp a1).1; omega) a1 a2) ml.length 0 (by omega) (fun q e' hq => absurd hq (Nat.not_lt_zero q)) _
        | succ n ih =>
          intro E hE hno L3
          obtain ⟨e2, he2⟩ : ∃ e2, el[E]? = some e2 := ⟨_, List.getElem?_eq_getElem (show E < el.length by omega)⟩
          obtain ⟨hwe, oke⟩ := R1 E e2 he2
          obtain ⟨w1, w2⟩ := R2 E (by omega)
          have nxt : (0 < ow E → ¬ en_cv e2 i j (en_p e)) → ∀ L3, VV g x (mp_u M (A 6) (ar_i (gx_I g) 7 f6)) 0 0 144 [some (.ref b), some (.int (nI i)), some (.int (nI j)), L3, some (.int (nI E))] [] := by
            intro hz L3
            refine v_iinc C 147 _ (nI (E + 1)) dXM_seen_144 rfl rfl (nI_1 E) rfl ?_
            refine v_goto C 100 dXM_seen_147 rfl ?_
            refine ih (E + 1) (by omega) (fun q e' hq a1 a2 => ?_) _
            by_cases hqE : q = E
            · subst hqE
              cases he2.symm.trans a1
              exact hz a2
            · exact hno q e' (by omega) a1 a2
          refine v_iload C 102 dXM_seen_100 rfl rfl ?_
          first | refine v_aload_n C 103 dXM_seen_102 rfl rfl ?_ | refine v_aload_nN C 103 dXM_seen_102 rfl rfl ?_ | refine v_aload_nQ C 103 dXM_seen_102 rfl rfl ?_
          refine gt_XM_85 C 106 dXM_seen_103 rfl h'.1 rfl ?_
          refine v_icmp_ge C 109 150 dXM_seen_106 rfl rfl (fun h9 => False.elim (by first | exact h9 (nI_ge (show E < el.length by omega) (by omega)) | exact absurd h9 (nI_ge (show E < el.length by omega) (by omega)))) (fun h9 => ?_)
          first | refine v_aload_n C 110 dXM_seen_109 rfl rfl ?_ | refine v_aload_nN C 110 dXM_seen_109 rfl rfl ?_ | refine v_aload_nQ C 110 dXM_seen_109 rfl rfl ?_
          refine gt_XM_19 C 113 dXM_seen_110 rfl h'.1 rfl ?_
          refine v_iload C 115 dXM_seen_113 rfl rfl ?_
          refine v_iald C 116 dXM_seen_115 rfl hB3 E rfl (show E < 520 by omega) (ra_sz_lt 3) ?_
          rw [w1]
          refine v_if_le C 119 144 dXM_seen_116 rfl rfl (fun q0 => ?_) (fun q0 => ?_)
          · exact nxt (fun z => absurd q0 (nI_nle z (by omega))) _
          · have q0' : 0 < ow E := by
              rcases Nat.eq_zero_or_pos (ow E) with z | z
              · rw [z] at q0
                exact absurd (Int32.le_refl _) q0
              · exact z
            first | refine v_aload_n C 120 dXM_seen_119 rfl rfl ?_ | refine v_aload_nN C 120 dXM_seen_119 rfl rfl ?_ | refine v_aload_nQ C 120 dXM_seen_119 rfl rfl ?_
            refine gt_XM_16 C 123 dXM_seen_120 rfl h'.1 rfl ?_
            refine v_bipush C 125 dXM_seen_123 rfl (nI 7) (by decide) ?_
            refine v_iload C 127 dXM_seen_125 rfl rfl ?_
            refine v_imul C 128 dXM_seen_127 rfl ?_
            refine v_top _ (.int (nI (7 * E))) (congrArg Value.int (pk_mul 7 E)) ?_
            refine v_iload_n C 129 dXM_seen_128 rfl rfl ?_
            refine v_iload_n C 130 dXM_seen_129 rfl rfl ?_
            first | refine v_aload_n C 131 dXM_seen_130 rfl rfl ?_ | refine v_aload_nN C 131 dXM_seen_130 rfl rfl ?_ | refine v_aload_nQ C 131 dXM_seen_130 rfl rfl ?_
            refine gt_XM_28 C 134 dXM_seen_131 rfl h'.1 rfl ?_
            refine v_iconst C 135 dXM_seen_134 rfl (nI 4) (by decide) ?_
            refine v_iald C 136 dXM_seen_135 rfl mp_us 4 rfl (by decide) (by decide) ?_
            rw [show f6 4 = nI (en_p e) from h6.2.2.2.2.1]
            refine v_ri 139 (cl_XM_98 C ((c_M_covers g hB2 (ra_sz_lt 2) (show 7 * E + 6 < 3640 by omega) hwe oke i j (en_p e) hi hj o2)) dXM_seen_136 rfl rfl (Nat.le_of_ble_eq_true rfl) (Nat.le_of_ble_eq_true rfl) (Nat.le_of_ble_eq_true rfl) (by omega) (by omega)) rfl (fun v M1 hv => ?_)
            obtain ⟨e1, rfl⟩ := hv
            subst e1
            refine v_if_eq C 142 144 dXM_seen_139 rfl rfl (fun hc => ?_) (fun hc => ?_)
            · rw [bI_0, bo_f] at hc
              exact nxt (fun _ => hc) _
            · have hc2 : en_cv e2 i j (en_p e) := Classical.byContradiction fun z => hc (bI_0.mpr (bo_f.mpr z))
              exact end0 142 (Or.inr (Or.inl rfl)) (fun z => by rw [bo_f] at z; exact z.2.2 (cov.mpr (Or.inl ⟨E, e2, he2, q0', hc2⟩))) _ _
      have go : en_k e = 0 → st_now S < en_t e → ∀ L3 L4, VV g x (mp_u M (A 6) (ar_i (gx_I g) 7 f6)) 0 0 97 [some (.ref b), some (.int (nI i)), some (.int (nI j)), L3, L4] [] := by
        intro hk0 hnw L3 L4
        refine v_iconst C 98 dXM_seen_97 rfl (nI 0) (by decide) ?_
        refine v_istore C 100 _ dXM_seen_98 rfl (Nat.lt_of_lt_of_le (Nat.lt_succ_self _) (Nat.le_of_ble_eq_true rfl)) rfl ?_
        exact l1 hk0 hnw el.length 0 (by omega) (fun q e' hq => absurd hq (Nat.not_lt_zero q)) _
      first | refine v_aload_n C 63 dXM_seen_62 rfl rfl ?_ | refine v_aload_nN C 63 dXM_seen_62 rfl rfl ?_ | refine v_aload_nQ C 63 dXM_seen_62 rfl rfl ?_
      refine gt_XM_28 C 66 dXM_seen_63 rfl h'.1 rfl ?_
      refine v_iconst C 67 dXM_seen_66 rfl (nI 0) (by decide) ?_
      refine v_iald C 68 dXM_seen_67 rfl mp_us 0 rfl (by decide) (by decide) ?_
      rw [show f6 0 = nI (en_k e) from h6.1]
      refine v_if_ne C 71 95 dXM_seen_68 rfl rfl (fun hk => ?_) (fun hk => ?_)
      · exact end0 95 (Or.inl rfl) (fun z => hk (by rw [z.1]; rfl)) _ _
      · have hk0 : en_k e = 0 := (nI_eq (a := en_k e) (b := 0) (by omega) (by decide)).mp hk
        first | refine v_aload_n C 72 dXM_seen_71 rfl rfl ?_ | refine v_aload_nN C 72 dXM_seen_71 rfl rfl ?_ | refine v_aload_nQ C 72 dXM_seen_71 rfl rfl ?_
        refine gt_XM_28 C 75 dXM_seen_72 rfl h'.1 rfl ?_
        refine v_bipush C 77 dXM_seen_75 rfl (nI 6) (by decide) ?_
        refine v_iald C 78 dXM_seen_77 rfl mp_us 6 rfl (by decide) (by decide) ?_
        rw [show f6 6 = tw (en_t e) from h6.2.2.2.2.2.2]
        refine v_if_lt C 81 97 dXM_seen_78 rfl rfl (fun ht1 => ?_) (fun ht1 => ?_)
        · have := (tw_n ok).mp ht1
          exact go hk0 (by omega) _ _
        · have htn : en_t e ≠ 2147483647 := fun z => ht1 ((tw_n ok).mpr z)
          first | refine v_aload_n C 82 dXM_seen_81 rfl rfl ?_ | refine v_aload_nN C 82 dXM_seen_81 rfl rfl ?_ | refine v_aload_nQ C 82 dXM_seen_81 rfl rfl ?_
          refine gt_XM_28 C 85 dXM_seen_82 rfl h'.1 rfl ?_
          refine v_bipush C 87 dXM_seen_85 rfl (nI 6) (by decide) ?_
          refine v_iald C 88 dXM_seen_87 rfl mp_us 6 rfl (by decide) (by decide) ?_
          rw [show f6 6 = tw (en_t e) from h6.2.2.2.2.2.2, show tw (en_t e) = nI (en_t e) from if_neg htn]
          first | refine v_aload_n C 89 dXM_seen_88 rfl rfl ?_ | refine v_aload_nN C 89 dXM_seen_88 rfl rfl ?_ | refine v_aload_nQ C 89 dXM_seen_88 rfl rfl ?_
          refine gt_XM_75 C 92 dXM_seen_89 rfl h'.1 rfl ?_
          refine v_icmp_gt C 95 97 dXM_seen_92 rfl rfl (fun ht2 => ?_) (fun ht2 => ?_)
          · rw [nI_ltI (by omega) (by omega)] at ht2
            exact go hk0 ht2 _ _
          · rw [nI_ltI (by omega) (by omega)] at ht2
            exact end0 95 (Or.inl rfl) (fun z => ht2 z.2.1) _ _
    rcases hwn with ⟨rfl, hw⟩ | ⟨q, e, he, hw, rfl⟩ | ⟨m, e, he, hw, rfl⟩
    · refine v_icmp_ne C 26 28 dXM_seen_23 rfl rfl (fun h9 => False.elim (by first | exact h9 ((fun z => z rfl)) | exact absurd h9 ((fun z => z rfl)))) (fun h9 => ?_)
      exact quit _ (by rw [st_v_pl hi hj, hw])
    · have hq := (List.getElem?_eq_some_iff.mp he).1
      obtain ⟨hwe, ok⟩ := R1 q e he
      have hneg : ¬ nI (7 * q) = (-1000000 : Int32) := fun z => absurd (show nI (7 * q) < 0 by rw [z]; decide) (nI_pos (by omega))
      have hne : A 2 ≠ A 6 := fun z => by have := h.2.2 2 6 (by decide) (by decide) z; omega
      refine v_icmp_ne C 26 28 dXM_seen_23 rfl rfl (fun h9 => ?_) (fun h9 => False.elim (by first | exact h9 (hneg) | exact absurd h9 (hneg)))
      refine v_iload_n C 29 dXM_seen_28 rfl rfl ?_
      refine v_if_ge C 32 39 dXM_seen_29 rfl rfl (fun h9 => ?_) (fun h9 => False.elim (by first | exact h9 (nI_pos' (show 7 * q < 2 ^ 31 by omega)) | exact absurd h9 (nI_pos' (show 7 * q < 2 ^ 31 by omega))))
      first | refine v_aload_n C 40 dXM_seen_39 rfl rfl ?_ | refine v_aload_nN C 40 dXM_seen_39 rfl rfl ?_ | refine v_aload_nQ C 40 dXM_seen_39 rfl rfl ?_
      refine gt_XM_16 C 43 dXM_seen_40 rfl h.1 rfl ?_
      refine v_iload_n C 44 dXM_seen_43 rfl rfl ?_
      refine v_if_ge C 47 53 dXM_seen_44 rfl rfl (fun h9 => ?_) (fun h9 => False.elim (by first | exact h9 (nI_pos' (show 7 * q < 2 ^ 31 by omega)) | exact absurd h9 (nI_pos' (show 7 * q < 2 ^ 31 by omega))))
      refine v_iload_n C 54 dXM_seen_53 rfl rfl ?_
      first | refine v_aload_n C 55 dXM_seen_54 rfl rfl ?_ | refine v_aload_nN C 55 dXM_seen_54 rfl rfl ?_ | refine v_aload_nQ C 55 dXM_seen_54 rfl rfl ?_
      refine gt_XM_28 C 58 dXM_seen_55 rfl h.1 rfl ?_
      refine v_iconst C 59 dXM_seen_58 rfl (nI 0) (by decide) ?_
      refine v_rv 62 (cl_XM_52 C ((c_M_copy g (q := 0) hA2 hA6 hne (ra_sz_lt 2) (ra_sz_lt 6) (show 7 * q + 6 < 3640 by omega) (by decide))) dXM_seen_59 rfl rfl (Nat.le_of_ble_eq_true rfl) (Nat.le_of_ble_eq_true rfl) (Nat.le_of_ble_eq_true rfl) (by omega) (by omega)) rfl (fun M1 hM1 => ?_)
      subst hM1
      exact aft e hw _ (cp7_e hwe) _ _
    · have hm := (List.getElem?_eq_some_iff.mp he).1
      obtain ⟨hwe, ok⟩ := hl0 m e he
      have hlt : (-1 - nI (7 * m) : Int32).toInt = -1 - (7 * m : Nat) := by
        rw [Int32.toInt_sub, nI_toInt (by omega), show (-1 : Int32).toInt = -1 by decide]
        rw [Int.bmod_eq_of_le_mul_two (by omega) (by omega)]
      have hneg : ¬ (-1 - nI (7 * m)) = (-1000000 : Int32) := fun z => by
        rw [z, show (-1000000 : Int32).toInt = -1000000 by decide] at hlt
        omega
      have hnn : ¬ 0 ≤ (-1 - nI (7 * m)) := fun z => by
        rw [Int32.le_iff_toInt_le, i0, hlt] at z
        omega
      have hne : A 0 ≠ A 6 := fun z => by have := h.2.2 0 6 (by decide) (by decide) z; omega
      have hback : -1 - (-1 - nI (7 * m)) = nI (7 * m) := by
        apply Int32.toInt_inj.mp
        rw [Int32.toInt_sub, hlt, nI_toInt (by omega), show (-1 : Int32).toInt = -1 by decide]
        rw [Int.bmod_eq_of_le_mul_two (by omega) (by omega)]
        omega
      refine v_icmp_ne C 26 28 dXM_seen_23 rfl rfl (fun h9 => ?_) (fun h9 => False.elim (by first | exact h9 (hneg) | exact absurd h9 (hneg)))
      refine v_iload_n C 29 dXM_seen_28 rfl rfl ?_
      refine v_if_ge C 32 39 dXM_seen_29 rfl rfl (fun h9 => False.elim (by first | exact h9 (hnn) | exact absurd h9 (hnn))) (fun h9 => ?_)
      first | refine v_aload_n C 33 dXM_seen_32 rfl rfl ?_ | refine v_aload_nN C 33 dXM_seen_32 rfl rfl ?_ | refine v_aload_nQ C 33 dXM_seen_32 rfl rfl ?_
      refine gt_XM_7 C 36 dXM_seen_33 rfl h.1 rfl ?_
      refine v_goto C 43 dXM_seen_36 rfl ?_
      refine v_iload_n C 44 dXM_seen_43 rfl rfl ?_
      refine v_if_ge C 47 53 dXM_seen_44 rfl rfl (fun h9 => False.elim (by first | exact h9 (hnn) | exact absurd h9 (hnn))) (fun h9 => ?_)
      refine v_iconst C 48 dXM_seen_47 rfl (-1) (by decide) ?_
      refine v_iload_n C 49 dXM_seen_48 rfl rfl ?_
      refine v_isub C 50 dXM_seen_49 rfl ?_
      refine v_top _ (.int (nI (7 * m))) (congrArg Value.int hback) ?_
      refine v_goto C 54 dXM_seen_50 rfl ?_
      first | refine v_aload_n C 55 dXM_seen_54 rfl rfl ?_ | refine v_aload_nN C 55 dXM_seen_54 rfl rfl ?_ | refine v_aload_nQ C 55 dXM_seen_54 rfl rfl ?_
      refine gt_XM_28 C 58 dXM_seen_55 rfl h.1 rfl ?_
      refine v_iconst C 59 dXM_seen_58 rfl (nI 0) (by decide) ?_
      refine v_rv 62 (cl_XM_52 C ((c_M_copy g (q := 0) hA0 hA6 hne (ra_sz_lt 0) (ra_sz_lt 6) (show 7 * m + 6 < 168 by omega) (by decide))) dXM_seen_59 rfl rfl (Nat.le_of_ble_eq_true rfl) (Nat.le_of_ble_eq_true rfl) (Nat.le_of_ble_eq_true rfl) (by omega) (by omega)) rfl (fun M1 hM1 => ?_)
      subst hM1
      exact aft e hw _ (cp7_e hwe) _ _
end
section
def st_b (S : st_S) (c : Nat) : Prop := c ≤ 512 ∧ tb_ok (st_mem S) ∧ (∀ e, e ∈ st_log S → en_ok e) ∧ (∀ k, k < (st_runs S).length → tb_ok (st_tb (st_runs S) k)) ∧ st_safe S ≤ (st_log S).length ∧ (st_log S).length ≤ c ∧ (st_runs S).length ≤ c ∧ st_now S ≤ 100 * c ∧ 2 ≤ st_cap S ∧ st_cap S ≤ 20 ∧ st_gr S ≤ 50 ∧ st_mem S = (st_log S).foldl tb_a tb_0 ∧ tb_n (st_mem S) ≤ st_cap S ∧ st_3 (st_runs S) = false ∧ (∀ k, k < (st_runs S).length → st_ti (st_runs S) k ≤ 600 * c)
theorem fold_n : ∀ (l : List en_E) (T : tb_T), (∀ e, e ∈ l → en_ok e) → tb_n T ≤ tb_n (l.foldl tb_a T) ∧ tb_n (l.foldl tb_a T) ≤ tb_n T + l.length
  | [], T, _ => by
    rw [List.foldl_nil]
    exact ⟨Nat.le_refl _, Nat.le_add_right _ _⟩
  | e :: l, T, h => by
    obtain ⟨a1, a2⟩ := fold_n l (tb_a T e) (fun e' he' => h e' (List.mem_cons_of_mem _ he'))
    obtain ⟨b1, b2, -⟩ := tb_n_a (T := T) (h e List.mem_cons_self)
    simp only [List.foldl_cons, List.length_cons]
    omega
theorem fold_ok : ∀ (l : List en_E) (T : tb_T), tb_ok T → (∀ e, e ∈ l → en_ok e) → tb_ok (l.foldl tb_a T)
  | [], _, h, _ => h
  | e :: l, T, h, he => fold_ok l (tb_a T e) (tb_ok_a h (he e List.mem_cons_self)) (fun e' h' => he e' (List.mem_cons_of_mem _ h'))
theorem st_b_ml {S : st_S} {c : Nat} (h : st_b S c) : tb_n (st_mem S) ≤ (st_log S).length := by
  obtain ⟨h1, h2, h3, h4, h5, h6, h7, h8, h9, h10, h11, h12, h13, h14, h15⟩ := h
  have := (fold_n (st_log S) tb_0 h3).2
  rw [← h12, tb_n_0] at this
  omega
theorem st_g_b (now gr : Nat) : ∀ (n : Nat) (rs : st_R) (B : Nat), (∀ k, k < rs.length → tb_ok (st_tb rs k)) → (∀ k, k < rs.length → st_ti rs k ≤ B) → (∀ k, k < (st_g now gr n rs).length → tb_ok (st_tb (st_g now gr n rs) k)) ∧ (∀ k, k < (st_g now gr n rs).length → st_ti (st_g now gr n rs) k ≤ B + n) ∧ (st_g now gr n rs).length ≤ rs.length
  | 0, rs, B, h1, h2 => ⟨h1, h2, Nat.le_refl _⟩
  | n + 1, rs, B, h1, h2 => by
    unfold st_g
    split
    · next h3 =>
      have h4 := of_decide_eq_true h3
      have hlen : (st_j now gr rs (rs.length - 3) (st_ti rs (rs.length - 3) + 1)).length = rs.length - 3 + 1 := st_j_len (by omega)
      have q1 : ∀ k, k < (st_j now gr rs (rs.length - 3) (st_ti rs (rs.length - 3) + 1)).length → tb_ok (st_tb (st_j now gr rs (rs.length - 3) (st_ti rs (rs.length - 3) + 1)) k) := by
        intro k hk
        rw [hlen] at hk
        by_cases hki : k = rs.length - 3
        · rw [hki]
          unfold st_tb
          rw [st_j_hi (by omega)]
          refine tb_ok_j (fun t ht => ?_)
          obtain ⟨k', c1, c2, rfl⟩ := mem_dr.mp ht
          exact h1 k' c2
        · unfold st_tb
          rw [st_j_lo (by omega) (by omega)]
          exact h1 k (by omega)
      have q2 : ∀ k, k < (st_j now gr rs (rs.length - 3) (st_ti rs (rs.length - 3) + 1)).length → st_ti (st_j now gr rs (rs.length - 3) (st_ti rs (rs.length - 3) + 1)) k ≤ B + 1 := by
        intro k hk
        rw [hlen] at hk
        by_cases hki : k = rs.length - 3
        · have := h2 (rs.length - 3) (by omega)
          rw [hki]
          unfold st_ti
          rw [st_j_hi (by omega)]
          show st_ti rs (rs.length - 3) + 1 ≤ B + 1
          omega
        · have := h2 k (by omega)
          unfold st_ti
          rw [st_j_lo (by omega) (by omega)]
          unfold st_ti at this
          omega
      obtain ⟨a1, a2, a3⟩ := st_g_b now gr n (st_j now gr rs (rs.length - 3) (st_ti rs (rs.length - 3) + 1)) (B + 1) q1 q2
      exact ⟨a1, fun k hk => by have := a2 k hk; omega, by omega⟩
    · exact ⟨h1, fun k hk => by have := h2 k hk; omega, Nat.le_refl _⟩
theorem st_b_up {S : st_S} {c : Nat} (h : st_b S c) (hc : c < 512) : st_b S (c + 1) := by
  obtain ⟨h1, h2, h3, h4, h5, h6, h7, h8, h9, h10, h11, h12, h13, h14, h15⟩ := h
  exact ⟨by omega, h2, h3, h4, h5, by omega, by omega, by omega, h9, h10, h11, h12, h13, h14, fun k hk => by have := h15 k hk; omega⟩

theorem st_b_f {S : st_S} {c : Nat} (hc : c < 512) (h2 : tb_ok (st_mem S)) (h4 : ∀ k, k < (st_runs S).length → tb_ok (st_tb (st_runs S) k)) (h7 : (st_runs S).length ≤ c) (h8 : st_now S ≤ 100 * c) (h9 : 2 ≤ st_cap S) (h10 : st_cap S ≤ 20) (h11 : st_gr S ≤ 50) (h15 : ∀ k, k < (st_runs S).length → st_ti (st_runs S) k ≤ 600 * c) (hn : tb_n (st_mem S) ≠ 0) : st_b (st_f S) (c + 1) := by
  have hsf : st_f S = (st_cap S, st_gr S, st_now S, tb_0, [], 0, st_g (st_now S) (st_gr S) ((st_runs S).length + 1) (st_runs S ++ [(0, st_mem S)])) := if_neg hn
  have hlen := st_len_app (rs := st_runs S) (r := (0, st_mem S))
  have q1 : ∀ k, k < (st_runs S ++ [(0, st_mem S)]).length → tb_ok (st_tb (st_runs S ++ [(0, st_mem S)]) k) := by
    intro k hk
    rw [hlen] at hk
    unfold st_tb
    by_cases hki : k = (st_runs S).length
    · rw [hki, st_app_hi]
      exact h2
    · rw [st_app_lo (by omega)]
      exact h4 k (by omega)
  have q2 : ∀ k, k < (st_runs S ++ [(0, st_mem S)]).length → st_ti (st_runs S ++ [(0, st_mem S)]) k ≤ 600 * c := by
    intro k hk
    rw [hlen] at hk
    unfold st_ti
    by_cases hki : k = (st_runs S).length
    · rw [hki, st_app_hi]
      exact Nat.zero_le _
    · have := h15 k (by omega)
      rw [st_app_lo (by omega)]
      exact this
  obtain ⟨a1, a2, a3⟩ := st_g_b (st_now S) (st_gr S) ((st_runs S).length + 1) (st_runs S ++ [(0, st_mem S)]) (600 * c) q1 q2
  rw [hsf]
  refine ⟨by omega, tb_ok_0, fun e he => (by cases he), a1, Nat.le_refl _, Nat.zero_le _, ?_, ?_, h9, h10, h11, rfl, ?_, st_g_fix _ _ _ _ (by omega), fun k hk => ?_⟩
  · show (st_g (st_now S) (st_gr S) ((st_runs S).length + 1) (st_runs S ++ [(0, st_mem S)])).length ≤ c + 1
    omega
  · show st_now S ≤ 100 * (c + 1)
    omega
  · show tb_n tb_0 ≤ st_cap S
    rw [tb_n_0]
    omega
  · have := a2 k hk
    show st_ti (st_g (st_now S) (st_gr S) ((st_runs S).length + 1) (st_runs S ++ [(0, st_mem S)])) k ≤ 600 * (c + 1)
    omega
theorem st_b_flush {S : st_S} {c : Nat} (h : st_b S c) (hc : c < 512) : st_b (st_f S) (c + 1) := by
  by_cases hn : tb_n (st_mem S) = 0
  · have hs0 : st_f S = S := if_pos hn
    rw [hs0]
    exact st_b_up h hc
  · obtain ⟨h1, h2, h3, h4, h5, h6, h7, h8, h9, h10, h11, h12, h13, h14, h15⟩ := h
    exact st_b_f hc h2 h4 h7 h8 h9 h10 h11 h15 hn
theorem st_b_a {S : st_S} {c : Nat} {e : en_E} (h : st_b S c) (hc : c < 512) (ok : en_ok e) : st_b (st_a S e) (c + 1) := by
  obtain ⟨h1, h2, h3, h4, h5, h6, h7, h8, h9, h10, h11, h12, h13, h14, h15⟩ := h
  obtain ⟨na1, na2, na3⟩ := tb_n_a (T := st_mem S) ok
  unfold st_a
  split
  · exact st_b_f (S := (st_cap S, st_gr S, st_now S, tb_a (st_mem S) e, st_log S ++ [e], st_safe S, st_runs S)) hc (tb_ok_a h2 ok) h4 h7 h8 h9 h10 h11 h15 (by show tb_n (tb_a (st_mem S) e) ≠ 0; omega)
  · next hcap =>
    refine ⟨by omega, tb_ok_a h2 ok, fun e' he' => ?_, h4, ?_, ?_, ?_, ?_, h9, h10, h11, ?_, ?_, h14, fun k hk => ?_⟩
    · rcases List.mem_append.mp he' with z | z
      · exact h3 e' z
      · rw [List.mem_singleton.mp z]
        exact ok
    · show st_safe S ≤ (st_log S ++ [e]).length
      rw [List.length_append]
      omega
    · show (st_log S ++ [e]).length ≤ c + 1
      rw [List.length_append]
      show (st_log S).length + 1 ≤ c + 1
      omega
    · show (st_runs S).length ≤ c + 1
      omega
    · show st_now S ≤ 100 * (c + 1)
      omega
    · show tb_a (st_mem S) e = (st_log S ++ [e]).foldl tb_a tb_0
      rw [List.foldl_append, ← h12]
      rfl
    · show tb_n (tb_a (st_mem S) e) ≤ st_cap S
      omega
    · have := h15 k hk
      show st_ti (st_runs S) k ≤ 600 * (c + 1)
      omega
theorem st_b_cr {S : st_S} {c : Nat} (h : st_b S c) (hc : c < 512) : st_b (st_cr S) (c + 1) := by
  obtain ⟨h1, h2, h3, h4, h5, h6, h7, h8, h9, h10, h11, h12, h13, h14, h15⟩ := h
  have okt : ∀ e, e ∈ (st_log S).take (st_safe S) → en_ok e := fun e he => h3 e (List.mem_of_mem_take he)
  refine ⟨by omega, fold_ok _ _ tb_ok_0 okt, okt, h4, ?_, ?_, ?_, ?_, h9, h10, h11, rfl, ?_, h14, fun k hk => ?_⟩
  · show st_safe S ≤ ((st_log S).take (st_safe S)).length
    rw [List.length_take, Nat.min_eq_left h5]
    exact Nat.le_refl _
  · show ((st_log S).take (st_safe S)).length ≤ c + 1
    rw [List.length_take]
    omega
  · show (st_runs S).length ≤ c + 1
    omega
  · show st_now S ≤ 100 * (c + 1)
    omega
  · show tb_n (((st_log S).take (st_safe S)).foldl tb_a tb_0) ≤ st_cap S
    have := (fold_n ((st_log S).drop (st_safe S)) (((st_log S).take (st_safe S)).foldl tb_a tb_0) (fun e he => h3 e (List.mem_of_mem_drop he))).1
    rw [← List.foldl_append, List.take_append_drop, ← h12] at this
    omega
  · have := h15 k hk
    show st_ti (st_runs S) k ≤ 600 * (c + 1)
    omega
theorem st_top_le : ∀ (rs : st_R) (m B : Nat), m ≤ B → (∀ r, r ∈ rs → r.1 ≤ B) → rs.foldl (fun m r => max m r.1) m ≤ B
  | [], m, B, h, _ => h
  | r :: rs, m, B, h, hr => st_top_le rs (max m r.1) B (Nat.max_le.mpr ⟨h, hr r List.mem_cons_self⟩) (fun r' h' => hr r' (List.mem_cons_of_mem _ h'))
noncomputable def st_me (S : st_S) : st_S := if (st_runs S).length = 0 then S else (st_cap S, st_gr S, st_now S, st_mem S, st_log S, st_safe S, st_j (st_now S) (st_gr S) (st_runs S) 0 (st_top (st_runs S)))
theorem st_b_me {S : st_S} {c : Nat} (h : st_b S c) (hc : c < 512) : st_b (st_me S) (c + 1) := by
  unfold st_me
  split
  · exact st_b_up h hc
  · next hne =>
    obtain ⟨h1, h2, h3, h4, h5, h6, h7, h8, h9, h10, h11, h12, h13, h14, h15⟩ := h
    have hlen : (st_j (st_now S) (st_gr S) (st_runs S) 0 (st_top (st_runs S))).length = 1 := st_j_len (Nat.zero_le _)
    have hk0 : ∀ k, k < (st_j (st_now S) (st_gr S) (st_runs S) 0 (st_top (st_runs S))).length → k = 0 := fun k hk => by rw [hlen] at hk; omega
    refine ⟨by omega, h2, h3, fun k hk => ?_, h5, ?_, ?_, ?_, h9, h10, h11, h12, h13, ?_, fun k hk => ?_⟩
    · rw [hk0 k hk]
      unfold st_tb
      show tb_ok ((st_j (st_now S) (st_gr S) (st_runs S) 0 (st_top (st_runs S))).getD 0 (0, tb_0)).2
      rw [st_j_hi (Nat.zero_le _)]
      show tb_ok (tb_j (st_now S) (st_gr S) (decide (0 = 0)) (((st_runs S).drop 0).map Prod.snd))
      refine tb_ok_j (fun t ht => ?_)
      obtain ⟨k', c1, c2, rfl⟩ := mem_dr.mp ht
      exact h4 k' c2
    · show (st_log S).length ≤ c + 1
      omega
    · show (st_j (st_now S) (st_gr S) (st_runs S) 0 (st_top (st_runs S))).length ≤ c + 1
      omega
    · show st_now S ≤ 100 * (c + 1)
      omega
    · exact decide_eq_false (fun z => by
        have z1 := z.1
        rw [show (st_runs (st_cap S, st_gr S, st_now S, st_mem S, st_log S, st_safe S, st_j (st_now S) (st_gr S) (st_runs S) 0 (st_top (st_runs S)))).length = 1 from hlen] at z1
        omega)
    · rw [hk0 k hk]
      unfold st_ti
      show ((st_j (st_now S) (st_gr S) (st_runs S) 0 (st_top (st_runs S))).getD 0 (0, tb_0)).1 ≤ 600 * (c + 1)
      rw [st_j_hi (Nat.zero_le _)]
      show st_top (st_runs S) ≤ 600 * (c + 1)
      refine st_top_le (st_runs S) 0 _ (Nat.zero_le _) (fun r hr => ?_)
      obtain ⟨k', hk'⟩ := List.getElem?_of_mem hr
      have hlt := (List.getElem?_eq_some_iff.mp hk').1
      have := h15 k' hlt
      unfold st_ti at this
      rw [List.getD_eq_getElem?_getD, hk'] at this
      have h9 : r.1 ≤ 600 * c := this
      omega
def e_put (S : st_S) (r c p v l : Int32) : en_E := (0, r.toInt.toNat, c.toInt.toNat, c.toInt.toNat, p.toInt.toNat, v, if l = 0 then 2147483647 else st_now S + l.toInt.toNat)
def e_del (S : st_S) (r c p : Int32) : en_E := (1, r.toInt.toNat, c.toInt.toNat, c.toInt.toNat, p.toInt.toNat, 0, st_now S)
def e_wip (S : st_S) (r c l p : Int32) : en_E := (2, r.toInt.toNat, c.toInt.toNat, l.toInt.toNat, p.toInt.toNat, 0, st_now S)
def li_ok (l : Int32) : Bool := decide (0 ≤ l.toInt ∧ l.toInt ≤ 100)
noncomputable def sx_put (S : st_S) (r c p v l : Int32) : st_S := if (pl r c && (sp_ok p && li_ok l)) = true then st_a S (e_put S r c p v l) else S
noncomputable def sx_del (S : st_S) (r c p : Int32) : st_S := if (pl r c && sp_ok p) = true then st_a S (e_del S r c p) else S
noncomputable def sx_wip (S : st_S) (r c l p : Int32) : st_S := if (pl r c && (pl r l && (decide (c.toInt ≤ l.toInt) && sp_ok p))) = true then st_a S (e_wip S r c l p) else S
theorem li_of {l : Int32} (h : li_ok l = true) : ∃ i : Nat, i ≤ 100 ∧ l = nI i := by
  obtain ⟨h1, h2⟩ := of_decide_eq_true h
  obtain ⟨i, a1, rfl⟩ := nI_of (x := l) (by rw [Int32.lt_iff_toInt_lt, i0]; omega)
  rw [nI_toInt a1] at h1 h2
  exact ⟨i, by omega, rfl⟩
theorem nI_tn {i : Nat} (h : i < 2 ^ 31) : (nI i).toInt.toNat = i := by
  rw [nI_toInt h]
  rfl
theorem ok_put {S : st_S} {n r c p : Nat} {v : Int32} {l : Nat} (h : st_b S n) (hr : r < 16) (hc : c < 8) (hp : p ≤ 9999) (hl : l ≤ 100) : en_ok (e_put S (nI r) (nI c) (nI p) v (nI l)) := by
  have h8 := h.2.2.2.2.2.2.2.1
  have h1 := h.1
  unfold e_put
  rw [nI_tn (by omega), nI_tn (by omega), nI_tn (by omega), nI_tn (by omega)]
  refine ⟨Nat.zero_le _, hr, Nat.le_refl _, hc, fun _ => rfl, hp, fun z => absurd rfl z, ?_⟩
  show (if nI l = 0 then 2147483647 else st_now S + l) ≤ 100000 ∨ ((0 : Nat) = 0 ∧ (if nI l = 0 then 2147483647 else st_now S + l) = 2147483647)
  split
  · exact Or.inr ⟨rfl, rfl⟩
  · left
    omega
theorem ok_del {S : st_S} {n r c p : Nat} (h : st_b S n) (hr : r < 16) (hc : c < 8) (hp : p ≤ 9999) : en_ok (e_del S (nI r) (nI c) (nI p)) := by
  have h8 := h.2.2.2.2.2.2.2.1
  have h1 := h.1
  unfold e_del
  rw [nI_tn (by omega), nI_tn (by omega), nI_tn (by omega)]
  exact ⟨by show 1 ≤ 2; decide, hr, Nat.le_refl _, hc, fun _ => rfl, hp, fun _ => rfl, Or.inl (by show st_now S ≤ 100000; omega)⟩
theorem ok_wip {S : st_S} {n r c l p : Nat} (h : st_b S n) (hr : r < 16) (hc : c ≤ l) (hl : l < 8) (hp : p ≤ 9999) : en_ok (e_wip S (nI r) (nI c) (nI l) (nI p)) := by
  have h8 := h.2.2.2.2.2.2.2.1
  have h1 := h.1
  unfold e_wip
  rw [nI_tn (by omega), nI_tn (by omega), nI_tn (by omega), nI_tn (by omega)]
  exact ⟨by show 2 ≤ 2; decide, hr, hc, hl, fun z => absurd rfl z, hp, fun _ => rfl, Or.inl (by show st_now S ≤ 100000; omega)⟩
end
section
theorem rw.mono {g : gx_T} {M : mp_M} {b : Nat} {A : Nat → Nat} {S : st_S} {n1 n2 m1 m2 : Nat} (h : rw g M b A S n1 n2) (h1 : n1 ≤ m1) (h2 : n2 ≤ m2) : rw g M b A S m1 m2 := by
  obtain ⟨ml, el, ow, mk, marks, f, q1, q2, q3, q4, q5, q6, q7, q8⟩ := h
  exact ⟨ml, el, ow, mk, marks, f, q1, q2, q3, q4, q5, q6, by omega, by omega⟩
def rp (g : gx_T) (M : mp_M) (b : Nat) (A : Nat → Nat) (S : st_S) (c : Nat) : Prop := rw g M b A S c (600 * c)
set_option maxHeartbeats 4000000 in
set_option maxRecDepth 100000 in
theorem c_M_put (g : gx_T) {M : mp_M} {b : Nat} {A : Nat → Nat} {S : st_S} {n : Nat} (h : rp g M b A S n) (B : st_b S n) (hn : n < 512) (r c p v l : Int32) : Ct g yXM_put cXM_put 6 (some .boolean) 7 [.ref b, .int r, .int c, .int p, .int v, .int l] M (pi_ (fun w M' => w = bI (pl r c && (sp_ok p && li_ok l)) ∧ mp_k (ra_P b A) M M' ∧ rp g M' b A (sx_put S r c p v l) (n + 1))) 0 0 := by
  refine ct_intro (L0 := [some (.ref b), some (.int r), some (.int c), some (.int p), some (.int v), some (.int l)]) (by decide) (Nat.le_of_ble_eq_true rfl) rfl rfl (fun x C Rx I => ?_)
  have hml := st_b_ml B
  obtain ⟨h1, h2, h3, h4, h5, h6, h7, h8, h9, h10, h11, h12, h13, h14, h15⟩ := id B
  have k100 : (nI 100).toInt = 100 := by decide
  have no : (pl r c && (sp_ok p && li_ok l)) = false → VV g x M 0 0 27 [some (.ref b), some (.int r), some (.int c), some (.int p), some (.int v), some (.int l)] [] := by
    intro hz
    have hs : sx_put S r c p v l = S := if_neg (by rw [hz]; decide)
    refine v_iconst C 28 dXM_put_27 rfl (nI 0) (by decide) ?_
    refine v_zret C Rx dXM_put_28 (by omega) (by omega) (Or.inl rfl) ⟨_, rfl, (bI_f hz).symm, mp_k.rf, by rw [hs]; exact h.mono (by omega) (by omega)⟩
  refine v_iload_n C 1 dXM_put_0 rfl rfl ?_
  refine v_iload_n C 2 dXM_put_1 rfl rfl ?_
  refine v_ri 5 (cl_XM_67 C ((c_M_isPlace g (M := M) r c)) dXM_put_2 rfl rfl (Nat.le_of_ble_eq_true rfl) (Nat.le_of_ble_eq_true rfl) (Nat.le_of_ble_eq_true rfl) (by omega) (by omega)) rfl (fun w M1 hv => ?_)
  obtain ⟨rfl, rfl⟩ := hv
  refine v_if_eq C 8 27 dXM_put_5 rfl rfl (fun q1 => ?_) (fun q1 => ?_)
  · rw [bI_0] at q1
    exact no (by rw [q1]; rfl)
  · have q1' : pl r c = true := by cases hz : pl r c with | true => rfl | false => exact absurd (bI_0.mpr hz) q1
    refine v_iload_n C 9 dXM_put_8 rfl rfl ?_
    refine v_ri 12 (cl_XM_71 C ((c_M_isStamp g (M := M) p)) dXM_put_9 rfl rfl (Nat.le_of_ble_eq_true rfl) (Nat.le_of_ble_eq_true rfl) (Nat.le_of_ble_eq_true rfl) (by omega) (by omega)) rfl (fun w M1 hv => ?_)
    obtain ⟨rfl, rfl⟩ := hv
    refine v_if_eq C 15 27 dXM_put_12 rfl rfl (fun q2 => ?_) (fun q2 => ?_)
    · rw [bI_0] at q2
      exact no (by rw [q1', q2]; rfl)
    · have q2' : sp_ok p = true := by cases hz : sp_ok p with | true => rfl | false => exact absurd (bI_0.mpr hz) q2
      refine v_iload C 17 dXM_put_15 rfl rfl ?_
      refine v_if_lt C 20 27 dXM_put_17 rfl rfl (fun q3 => ?_) (fun q3 => ?_)
      · exact no (by rw [q1', q2', show li_ok l = false from decide_eq_false (fun z => by rw [Int32.lt_iff_toInt_lt, i0] at q3; omega)]; rfl)
      · refine v_iload C 22 dXM_put_20 rfl rfl ?_
        refine v_bipush C 24 dXM_put_22 rfl (nI 100) (by decide) ?_
        refine v_icmp_le C 27 29 dXM_put_24 rfl rfl (fun q4 => ?_) (fun q4 => ?_)
        · have q5 : li_ok l = true := decide_eq_true (by
            rw [Int32.lt_iff_toInt_lt, i0] at q3
            rw [Int32.le_iff_toInt_le, k100] at q4
            omega)
          have hs : sx_put S r c p v l = st_a S (e_put S r c p v l) := if_pos (by rw [q1', q2', q5]; rfl)
          obtain ⟨i, j, hi, hj, rfl, rfl⟩ := pl_of q1'
          obtain ⟨pp, hp, rfl⟩ := sp_of q2'
          obtain ⟨ll, hl, rfl⟩ := li_of q5
          have ok := ok_put (v := v) B hi hj hp hl
          have et : tw (en_t (e_put S (nI i) (nI j) (nI pp) v (nI ll))) = if nI ll = 0 then (-1) else nI (st_now S + ll) := by
            show tw (if nI ll = 0 then 2147483647 else st_now S + (nI ll).toInt.toNat) = _
            by_cases hz : nI ll = 0
            · rw [if_pos hz, if_pos hz]
              rfl
            · rw [if_neg hz, if_neg hz, nI_tn (by omega)]
              exact if_neg (by omega)
          have key := c_M_add g h (e_put S (nI i) (nI j) (nI pp) v (nI ll)) ok (by omega) (by omega) (by omega) (by omega) (by omega) hml h2 h4 (fun k hk => by have := h15 k hk; omega) h10 h13
          rw [et] at key
          obtain ⟨ml, el, ow, mk, marks, f, hra, -⟩ := id h
          have tail : ∀ t : Int32, t = (if nI ll = 0 then (-1) else nI (st_now S + ll)) → VV g x M 0 0 53 [some (.ref b), some (.int (nI i)), some (.int (nI j)), some (.int (nI pp)), some (.int v), some (.int (nI ll))] [.int t, .int v, .int (nI pp), .int (nI j), .int (nI j), .int (nI i), .int (nI 0), .ref b] := by
            intro t htt
            subst htt
            have ek : nI (en_k (e_put S (nI i) (nI j) (nI pp) v (nI ll))) = nI 0 := rfl
            have er : nI (en_r (e_put S (nI i) (nI j) (nI pp) v (nI ll))) = nI i := congrArg nI (nI_tn (by omega))
            have ec : nI (en_c (e_put S (nI i) (nI j) (nI pp) v (nI ll))) = nI j := congrArg nI (nI_tn (by omega))
            have el' : nI (en_l (e_put S (nI i) (nI j) (nI pp) v (nI ll))) = nI j := congrArg nI (nI_tn (by omega))
            have ep : nI (en_p (e_put S (nI i) (nI j) (nI pp) v (nI ll))) = nI pp := congrArg nI (nI_tn (by omega))
            have ev : en_v (e_put S (nI i) (nI j) (nI pp) v (nI ll)) = v := rfl
            rw [ek, er, ec, el', ep, ev] at key
            refine v_ri 56 (cl_XM_78 C (key) hra.1 dXM_put_53 rfl rfl (Nat.le_of_ble_eq_true rfl) (Nat.le_of_ble_eq_true rfl) (Nat.le_of_ble_eq_true rfl) (by omega) (by omega)) rfl (fun w M2 hv => ?_)
            obtain ⟨rfl, hk2, hr2⟩ := hv
            refine v_zret C Rx dXM_put_56 (by omega) (by omega) (Or.inr rfl) ⟨_, rfl, by rw [q1', q2', q5]; rfl, hk2, by rw [hs]; exact hr2.mono (by omega) (by omega)⟩
          first | refine v_aload_n C 30 dXM_put_29 rfl rfl ?_ | refine v_aload_nN C 30 dXM_put_29 rfl rfl ?_ | refine v_aload_nQ C 30 dXM_put_29 rfl rfl ?_
          refine v_iconst C 31 dXM_put_30 rfl (nI 0) (by decide) ?_
          refine v_iload_n C 32 dXM_put_31 rfl rfl ?_
          refine v_iload_n C 33 dXM_put_32 rfl rfl ?_
          refine v_iload_n C 34 dXM_put_33 rfl rfl ?_
          refine v_iload_n C 35 dXM_put_34 rfl rfl ?_
          refine v_iload C 37 dXM_put_35 rfl rfl ?_
          refine v_iload C 39 dXM_put_37 rfl rfl ?_
          refine v_if_ne C 42 46 dXM_put_39 rfl rfl (fun q6 => ?_) (fun q6 => ?_)
          · first | refine v_aload_n C 47 dXM_put_46 rfl rfl ?_ | refine v_aload_nN C 47 dXM_put_46 rfl rfl ?_ | refine v_aload_nQ C 47 dXM_put_46 rfl rfl ?_
            refine gt_XM_75 C 50 dXM_put_47 rfl hra.1 rfl ?_
            refine v_iload C 52 dXM_put_50 rfl rfl ?_
            refine v_iadd C 53 dXM_put_52 rfl ?_
            refine v_top _ (.int (nI (st_now S + ll))) (congrArg Value.int (nI_add _ _)) ?_
            exact tail _ (if_neg q6).symm
          · refine v_iconst C 43 dXM_put_42 rfl (-1) (by decide) ?_
            refine v_goto C 53 dXM_put_43 rfl ?_
            exact tail _ (if_pos q6).symm
        · exact no (by rw [q1', q2', show li_ok l = false from decide_eq_false (fun z => by rw [Int32.le_iff_toInt_le, k100] at q4; omega)]; rfl)
set_option maxHeartbeats 4000000 in
set_option maxRecDepth 100000 in
theorem c_M_delete (g : gx_T) {M : mp_M} {b : Nat} {A : Nat → Nat} {S : st_S} {n : Nat} (h : rp g M b A S n) (B : st_b S n) (hn : n < 512) (r c p : Int32) : Ct g yXM_delete cXM_delete 4 (some .boolean) 7 [.ref b, .int r, .int c, .int p] M (pi_ (fun w M' => w = bI (pl r c && sp_ok p) ∧ mp_k (ra_P b A) M M' ∧ rp g M' b A (sx_del S r c p) (n + 1))) 0 0 := by
  refine ct_intro (L0 := [some (.ref b), some (.int r), some (.int c), some (.int p)]) (by decide) (Nat.le_of_ble_eq_true rfl) rfl rfl (fun x C Rx I => ?_)
  have hml := st_b_ml B
  obtain ⟨h1, h2, h3, h4, h5, h6, h7, h8, h9, h10, h11, h12, h13, h14, h15⟩ := id B
  have no : (pl r c && sp_ok p) = false → VV g x M 0 0 36 [some (.ref b), some (.int r), some (.int c), some (.int p)] [] := by
    intro hz
    have hs : sx_del S r c p = S := if_neg (by rw [hz]; decide)
    refine v_iconst C 37 dXM_delete_36 rfl (nI 0) (by decide) ?_
    refine v_zret C Rx dXM_delete_37 (by omega) (by omega) (Or.inl rfl) ⟨_, rfl, (bI_f hz).symm, mp_k.rf, by rw [hs]; exact h.mono (by omega) (by omega)⟩
  refine v_iload_n C 1 dXM_delete_0 rfl rfl ?_
  refine v_iload_n C 2 dXM_delete_1 rfl rfl ?_
  refine v_ri 5 (cl_XM_67 C ((c_M_isPlace g (M := M) r c)) dXM_delete_2 rfl rfl (Nat.le_of_ble_eq_true rfl) (Nat.le_of_ble_eq_true rfl) (Nat.le_of_ble_eq_true rfl) (by omega) (by omega)) rfl (fun w M1 hv => ?_)
  obtain ⟨rfl, rfl⟩ := hv
  refine v_if_eq C 8 36 dXM_delete_5 rfl rfl (fun q1 => ?_) (fun q1 => ?_)
  · rw [bI_0] at q1
    exact no (by rw [q1]; rfl)
  · have q1' : pl r c = true := by cases hz : pl r c with | true => rfl | false => exact absurd (bI_0.mpr hz) q1
    refine v_iload_n C 9 dXM_delete_8 rfl rfl ?_
    refine v_ri 12 (cl_XM_71 C ((c_M_isStamp g (M := M) p)) dXM_delete_9 rfl rfl (Nat.le_of_ble_eq_true rfl) (Nat.le_of_ble_eq_true rfl) (Nat.le_of_ble_eq_true rfl) (by omega) (by omega)) rfl (fun w M1 hv => ?_)
    obtain ⟨rfl, rfl⟩ := hv
    refine v_if_eq C 15 36 dXM_delete_12 rfl rfl (fun q2 => ?_) (fun q2 => ?_)
    · rw [bI_0] at q2
      exact no (by rw [q1', q2]; rfl)
    · have q2' : sp_ok p = true := by cases hz : sp_ok p with | true => rfl | false => exact absurd (bI_0.mpr hz) q2
      have hs : sx_del S r c p = st_a S (e_del S r c p) := if_pos (by rw [q1', q2']; rfl)
      obtain ⟨i, j, hi, hj, rfl, rfl⟩ := pl_of q1'
      obtain ⟨pp, hp, rfl⟩ := sp_of q2'
      have ok := ok_del B hi hj hp
      have key := c_M_add g h (e_del S (nI i) (nI j) (nI pp)) ok (by omega) (by omega) (by omega) (by omega) (by omega) hml h2 h4 (fun k hk => by have := h15 k hk; omega) h10 h13
      have et : tw (en_t (e_del S (nI i) (nI j) (nI pp))) = nI (st_now S) := if_neg (by show st_now S ≠ 2147483647; omega)
      have ek : nI (en_k (e_del S (nI i) (nI j) (nI pp))) = nI 1 := rfl
      have er : nI (en_r (e_del S (nI i) (nI j) (nI pp))) = nI i := congrArg nI (nI_tn (by omega))
      have ec : nI (en_c (e_del S (nI i) (nI j) (nI pp))) = nI j := congrArg nI (nI_tn (by omega))
      have el' : nI (en_l (e_del S (nI i) (nI j) (nI pp))) = nI j := congrArg nI (nI_tn (by omega))
      have ep : nI (en_p (e_del S (nI i) (nI j) (nI pp))) = nI pp := congrArg nI (nI_tn (by omega))
      have ev : en_v (e_del S (nI i) (nI j) (nI pp)) = nI 0 := rfl
      rw [et, ek, er, ec, el', ep, ev] at key
      obtain ⟨ml, el, ow, mk, marks, f, hra, -⟩ := id h
      first | refine v_aload_n C 16 dXM_delete_15 rfl rfl ?_ | refine v_aload_nN C 16 dXM_delete_15 rfl rfl ?_ | refine v_aload_nQ C 16 dXM_delete_15 rfl rfl ?_
      refine v_iconst C 17 dXM_delete_16 rfl (nI 1) (by decide) ?_
      refine v_iload_n C 18 dXM_delete_17 rfl rfl ?_
      refine v_iload_n C 19 dXM_delete_18 rfl rfl ?_
      refine v_iload_n C 20 dXM_delete_19 rfl rfl ?_
      refine v_iload_n C 21 dXM_delete_20 rfl rfl ?_
      refine v_iconst C 22 dXM_delete_21 rfl (nI 0) (by decide) ?_
      first | refine v_aload_n C 23 dXM_delete_22 rfl rfl ?_ | refine v_aload_nN C 23 dXM_delete_22 rfl rfl ?_ | refine v_aload_nQ C 23 dXM_delete_22 rfl rfl ?_
      refine gt_XM_75 C 26 dXM_delete_23 rfl hra.1 rfl ?_
      refine v_ri 29 (cl_XM_78 C (key) hra.1 dXM_delete_26 rfl rfl (Nat.le_of_ble_eq_true rfl) (Nat.le_of_ble_eq_true rfl) (Nat.le_of_ble_eq_true rfl) (by omega) (by omega)) rfl (fun w M2 hv => ?_)
      obtain ⟨rfl, hk2, hr2⟩ := hv
      refine v_if_eq C 32 36 dXM_delete_29 rfl rfl (fun h9 => False.elim (by first | exact h9 ((by decide)) | exact absurd h9 ((by decide)))) (fun h9 => ?_)
      refine v_iconst C 33 dXM_delete_32 rfl (nI 1) (by decide) ?_
      refine v_goto C 37 dXM_delete_33 rfl ?_
      refine v_zret C Rx dXM_delete_37 (by omega) (by omega) (Or.inr rfl) ⟨_, rfl, by rw [q1', q2']; rfl, hk2, by rw [hs]; exact hr2.mono (by omega) (by omega)⟩
set_option maxHeartbeats 4000000 in
set_option maxRecDepth 100000 in
theorem c_M_wipe (g : gx_T) {M : mp_M} {b : Nat} {A : Nat → Nat} {S : st_S} {n : Nat} (h : rp g M b A S n) (B : st_b S n) (hn : n < 512) (r c l p : Int32) : Ct g yXM_wipe cXM_wipe 5 (some .boolean) 7 [.ref b, .int r, .int c, .int l, .int p] M (pi_ (fun w M' => w = bI (pl r c && (pl r l && (decide (c.toInt ≤ l.toInt) && sp_ok p))) ∧ mp_k (ra_P b A) M M' ∧ rp g M' b A (sx_wip S r c l p) (n + 1))) 0 0 := by
  refine ct_intro (L0 := [some (.ref b), some (.int r), some (.int c), some (.int l), some (.int p)]) (by decide) (Nat.le_of_ble_eq_true rfl) rfl rfl (fun x C Rx I => ?_)
  have hml := st_b_ml B
  obtain ⟨h1, h2, h3, h4, h5, h6, h7, h8, h9, h10, h11, h12, h13, h14, h15⟩ := id B
  have no : (pl r c && (pl r l && (decide (c.toInt ≤ l.toInt) && sp_ok p))) = false → VV g x M 0 0 51 [some (.ref b), some (.int r), some (.int c), some (.int l), some (.int p)] [] := by
    intro hz
    have hs : sx_wip S r c l p = S := if_neg (by rw [hz]; decide)
    refine v_iconst C 52 dXM_wipe_51 rfl (nI 0) (by decide) ?_
    refine v_zret C Rx dXM_wipe_52 (by omega) (by omega) (Or.inl rfl) ⟨_, rfl, (bI_f hz).symm, mp_k.rf, by rw [hs]; exact h.mono (by omega) (by omega)⟩
  refine v_iload_n C 1 dXM_wipe_0 rfl rfl ?_
  refine v_iload_n C 2 dXM_wipe_1 rfl rfl ?_
  refine v_ri 5 (cl_XM_67 C ((c_M_isPlace g (M := M) r c)) dXM_wipe_2 rfl rfl (Nat.le_of_ble_eq_true rfl) (Nat.le_of_ble_eq_true rfl) (Nat.le_of_ble_eq_true rfl) (by omega) (by omega)) rfl (fun w M1 hv => ?_)
  obtain ⟨rfl, rfl⟩ := hv
  refine v_if_eq C 8 51 dXM_wipe_5 rfl rfl (fun q1 => ?_) (fun q1 => ?_)
  · rw [bI_0] at q1
    exact no (by rw [q1]; rfl)
  · have q1' : pl r c = true := by cases hz : pl r c with | true => rfl | false => exact absurd (bI_0.mpr hz) q1
    refine v_iload_n C 9 dXM_wipe_8 rfl rfl ?_
    refine v_iload_n C 10 dXM_wipe_9 rfl rfl ?_
    refine v_ri 13 (cl_XM_67 C ((c_M_isPlace g (M := M) r l)) dXM_wipe_10 rfl rfl (Nat.le_of_ble_eq_true rfl) (Nat.le_of_ble_eq_true rfl) (Nat.le_of_ble_eq_true rfl) (by omega) (by omega)) rfl (fun w M1 hv => ?_)
    obtain ⟨rfl, rfl⟩ := hv
    refine v_if_eq C 16 51 dXM_wipe_13 rfl rfl (fun q2 => ?_) (fun q2 => ?_)
    · rw [bI_0] at q2
      exact no (by rw [q1', q2]; rfl)
    · have q2' : pl r l = true := by cases hz : pl r l with | true => rfl | false => exact absurd (bI_0.mpr hz) q2
      refine v_iload_n C 17 dXM_wipe_16 rfl rfl ?_
      refine v_iload_n C 18 dXM_wipe_17 rfl rfl ?_
      refine v_icmp_gt C 21 51 dXM_wipe_18 rfl rfl (fun q3 => ?_) (fun q3 => ?_)
      · exact no (by rw [q1', q2', show decide (c.toInt ≤ l.toInt) = false from decide_eq_false (fun z => by rw [Int32.lt_iff_toInt_lt] at q3; omega)]; rfl)
      · have q3' : decide (c.toInt ≤ l.toInt) = true := decide_eq_true (by rw [Int32.lt_iff_toInt_lt] at q3; omega)
        refine v_iload C 23 dXM_wipe_21 rfl rfl ?_
        refine v_ri 26 (cl_XM_71 C ((c_M_isStamp g (M := M) p)) dXM_wipe_23 rfl rfl (Nat.le_of_ble_eq_true rfl) (Nat.le_of_ble_eq_true rfl) (Nat.le_of_ble_eq_true rfl) (by omega) (by omega)) rfl (fun w M1 hv => ?_)
        obtain ⟨rfl, rfl⟩ := hv
        refine v_if_eq C 29 51 dXM_wipe_26 rfl rfl (fun q4 => ?_) (fun q4 => ?_)
        · rw [bI_0] at q4
          exact no (by rw [q1', q2', q3', q4]; rfl)
        · have q4' : sp_ok p = true := by cases hz : sp_ok p with | true => rfl | false => exact absurd (bI_0.mpr hz) q4
          have hs : sx_wip S r c l p = st_a S (e_wip S r c l p) := if_pos (by rw [q1', q2', q3', q4']; rfl)
          obtain ⟨i, j, hi, hj, rfl, rfl⟩ := pl_of q1'
          obtain ⟨i', jl, hi', hjl, ei, rfl⟩ := pl_of q2'
          obtain ⟨pp, hp, rfl⟩ := sp_of q4'
          have hjj : j ≤ jl := by
            have := of_decide_eq_true q3'
            rw [nI_toInt (by omega), nI_toInt (by omega)] at this
            omega
          have ok := ok_wip B hi hjj hjl hp
          have key := c_M_add g h (e_wip S (nI i) (nI j) (nI jl) (nI pp)) ok (by omega) (by omega) (by omega) (by omega) (by omega) hml h2 h4 (fun k hk => by have := h15 k hk; omega) h10 h13
          have et : tw (en_t (e_wip S (nI i) (nI j) (nI jl) (nI pp))) = nI (st_now S) := if_neg (by show st_now S ≠ 2147483647; omega)
          have ek : nI (en_k (e_wip S (nI i) (nI j) (nI jl) (nI pp))) = nI 2 := rfl
          have er : nI (en_r (e_wip S (nI i) (nI j) (nI jl) (nI pp))) = nI i := congrArg nI (nI_tn (by omega))
          have ec : nI (en_c (e_wip S (nI i) (nI j) (nI jl) (nI pp))) = nI j := congrArg nI (nI_tn (by omega))
          have el' : nI (en_l (e_wip S (nI i) (nI j) (nI jl) (nI pp))) = nI jl := congrArg nI (nI_tn (by omega))
          have ep : nI (en_p (e_wip S (nI i) (nI j) (nI jl) (nI pp))) = nI pp := congrArg nI (nI_tn (by omega))
          have ev : en_v (e_wip S (nI i) (nI j) (nI jl) (nI pp)) = nI 0 := rfl
          rw [et, ek, er, ec, el', ep, ev] at key
          obtain ⟨ml, el, ow, mk, marks, f, hra, -⟩ := id h
          first | refine v_aload_n C 30 dXM_wipe_29 rfl rfl ?_ | refine v_aload_nN C 30 dXM_wipe_29 rfl rfl ?_ | refine v_aload_nQ C 30 dXM_wipe_29 rfl rfl ?_
          refine v_iconst C 31 dXM_wipe_30 rfl (nI 2) (by decide) ?_
          refine v_iload_n C 32 dXM_wipe_31 rfl rfl ?_
          refine v_iload_n C 33 dXM_wipe_32 rfl rfl ?_
          refine v_iload_n C 34 dXM_wipe_33 rfl rfl ?_
          refine v_iload C 36 dXM_wipe_34 rfl rfl ?_
          refine v_iconst C 37 dXM_wipe_36 rfl (nI 0) (by decide) ?_
          first | refine v_aload_n C 38 dXM_wipe_37 rfl rfl ?_ | refine v_aload_nN C 38 dXM_wipe_37 rfl rfl ?_ | refine v_aload_nQ C 38 dXM_wipe_37 rfl rfl ?_
          refine gt_XM_75 C 41 dXM_wipe_38 rfl hra.1 rfl ?_
          refine v_ri 44 (cl_XM_78 C (key) hra.1 dXM_wipe_41 rfl rfl (Nat.le_of_ble_eq_true rfl) (Nat.le_of_ble_eq_true rfl) (Nat.le_of_ble_eq_true rfl) (by omega) (by omega)) rfl (fun w M2 hv => ?_)
          obtain ⟨rfl, hk2, hr2⟩ := hv
          refine v_if_eq C 47 51 dXM_wipe_44 rfl rfl (fun h9 => False.elim (by first | exact h9 ((by decide)) | exact absurd h9 ((by decide)))) (fun h9 => ?_)
          refine v_iconst C 48 dXM_wipe_47 rfl (nI 1) (by decide) ?_
          refine v_goto C 52 dXM_wipe_48 rfl ?_
          refine v_zret C Rx dXM_wipe_52 (by omega) (by omega) (Or.inr rfl) ⟨_, rfl, by rw [q1', q2', q3', q4']; rfl, hk2, by rw [hs]; exact hr2.mono (by omega) (by omega)⟩
set_option maxHeartbeats 4000000 in
set_option maxRecDepth 100000 in
theorem c_M_flush (g : gx_T) {M : mp_M} {b : Nat} {A : Nat → Nat} {S : st_S} {n : Nat} (h : rp g M b A S n) (B : st_b S n) (hn : n < 512) : Ct g yXM_flush cXM_flush 1 (some .int) 6 [.ref b] M (pi_ (fun w M' => w = nI (tb_n (st_mem S)) ∧ mp_k (ra_P b A) M M' ∧ rp g M' b A (st_f S) (n + 1))) 0 0 := by
  refine ct_intro (L0 := [some (.ref b)]) (by decide) (Nat.le_of_ble_eq_true rfl) rfl rfl (fun x C Rx I => ?_)
  have hml := st_b_ml B
  obtain ⟨h1, h2, h3, h4, h5, h6, h7, h8, h9, h10, h11, h12, h13, h14, h15⟩ := id B
  obtain ⟨ml, el, ow, mk, marks, f, hra, -⟩ := id h
  first | refine v_aload_n C 1 dXM_flush_0 rfl rfl ?_ | refine v_aload_nN C 1 dXM_flush_0 rfl rfl ?_ | refine v_aload_nQ C 1 dXM_flush_0 rfl rfl ?_
  refine v_ri 4 (cl_XM_63 C ((c_M_flushAll g h (by omega) (by omega) (by omega) (by omega) (by omega) hml h2 h4 (fun k hk => by have := h15 k hk; omega) (by omega) (fun _ => h14))) hra.1 dXM_flush_1 rfl rfl (Nat.le_of_ble_eq_true rfl) (Nat.le_of_ble_eq_true rfl) (Nat.le_of_ble_eq_true rfl) (by omega) (by omega)) rfl (fun w M2 hv => ?_)
  obtain ⟨rfl, hk2, hr2⟩ := hv
  refine v_iret C Rx dXM_flush_4 (by omega) (by omega) ⟨_, rfl, rfl, hk2, hr2.mono (by omega) (by omega)⟩
end
