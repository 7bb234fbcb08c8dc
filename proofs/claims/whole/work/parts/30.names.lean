def ir_Tb : List Cond := lw_tbl.filter goodWord
def ir_nk : Cond → Bool
  | .methodLinkNest .. => true
  | .declares _ => true
  | .castable .. => true
  | _ => false
def ir_NL : List Cond := tables_1.filter ir_nk
theorem ir_Tm {w : Cond} (h : w ∈ tables_1) (g : goodWord w = true) : w ∈ ir_Tb := List.mem_filter.mpr ⟨List.mem_append_right _ h, g⟩
theorem ir_Nm {w : Cond} (h : w ∈ tables_1) (g : ir_nk w = true) : w ∈ ir_NL := List.mem_filter.mpr ⟨h, g⟩
theorem ir_k1 {w : Cond} (i : Nat) (h : tables_1_1[i]? = some w) : w ∈ tables_1 := List.mem_append_left _ (List.mem_of_getElem? h)
theorem ir_k2 {w : Cond} (i : Nat) (h : tables_1_2[i]? = some w) : w ∈ tables_1 := List.mem_append_right _ (List.mem_append_left _ (List.mem_of_getElem? h))
theorem ir_k3 {w : Cond} (i : Nat) (h : tables_1_3[i]? = some w) : w ∈ tables_1 := List.mem_append_right _ (List.mem_append_right _ (List.mem_append_left _ (List.mem_of_getElem? h)))
theorem ir_k4 {w : Cond} (i : Nat) (h : tables_1_4[i]? = some w) : w ∈ tables_1 := List.mem_append_right _ (List.mem_append_right _ (List.mem_append_right _ (List.mem_append_left _ (List.mem_of_getElem? h))))
theorem ir_k5 {w : Cond} (i : Nat) (h : tables_1_5[i]? = some w) : w ∈ tables_1 := List.mem_append_right _ (List.mem_append_right _ (List.mem_append_right _ (List.mem_append_right _ (List.mem_append_left _ (List.mem_of_getElem? h)))))
theorem ir_k6 {w : Cond} (i : Nat) (h : tables_1_6[i]? = some w) : w ∈ tables_1 := List.mem_append_right _ (List.mem_append_right _ (List.mem_append_right _ (List.mem_append_right _ (List.mem_append_right _ (List.mem_append_left _ (List.mem_of_getElem? h))))))
theorem ir_k7 {w : Cond} (i : Nat) (h : tables_1_7[i]? = some w) : w ∈ tables_1 := List.mem_append_right _ (List.mem_append_right _ (List.mem_append_right _ (List.mem_append_right _ (List.mem_append_right _ (List.mem_append_right _ (List.mem_append_left _ (List.mem_of_getElem? h)))))))
theorem ir_k8 {w : Cond} (i : Nat) (h : tables_1_8[i]? = some w) : w ∈ tables_1 := List.mem_append_right _ (List.mem_append_right _ (List.mem_append_right _ (List.mem_append_right _ (List.mem_append_right _ (List.mem_append_right _ (List.mem_append_right _ (List.mem_append_left _ (List.mem_of_getElem? h))))))))
theorem ir_k9 {w : Cond} (i : Nat) (h : tables_1_9[i]? = some w) : w ∈ tables_1 := List.mem_append_right _ (List.mem_append_right _ (List.mem_append_right _ (List.mem_append_right _ (List.mem_append_right _ (List.mem_append_right _ (List.mem_append_right _ (List.mem_append_right _ (List.mem_append_left _ (List.mem_of_getElem? h)))))))))
theorem ir_k10 {w : Cond} (i : Nat) (h : tables_1_10[i]? = some w) : w ∈ tables_1 := List.mem_append_right _ (List.mem_append_right _ (List.mem_append_right _ (List.mem_append_right _ (List.mem_append_right _ (List.mem_append_right _ (List.mem_append_right _ (List.mem_append_right _ (List.mem_append_right _ (List.mem_append_left _ (List.mem_of_getElem? h))))))))))
theorem ir_k11 {w : Cond} (i : Nat) (h : tables_1_11[i]? = some w) : w ∈ tables_1 := List.mem_append_right _ (List.mem_append_right _ (List.mem_append_right _ (List.mem_append_right _ (List.mem_append_right _ (List.mem_append_right _ (List.mem_append_right _ (List.mem_append_right _ (List.mem_append_right _ (List.mem_append_right _ ((List.mem_of_getElem? h)))))))))))
theorem ir_v1 {q : MethodName × Nat} (i : Nat) (h : lw_privs_1[i]? = some q) : Cond.selects q.1.cls q.1 q.1 ∈ ir_Tb := List.mem_filter.mpr ⟨List.mem_append_left _ (List.mem_map.mpr ⟨q, List.mem_append_left _ (List.mem_of_getElem? h), rfl⟩), rfl⟩
theorem ir_v2 {q : MethodName × Nat} (i : Nat) (h : lw_privs_2[i]? = some q) : Cond.selects q.1.cls q.1 q.1 ∈ ir_Tb := List.mem_filter.mpr ⟨List.mem_append_left _ (List.mem_map.mpr ⟨q, List.mem_append_right _ (List.mem_append_left _ (List.mem_of_getElem? h)), rfl⟩), rfl⟩
theorem ir_v3 {q : MethodName × Nat} (i : Nat) (h : lw_privs_3[i]? = some q) : Cond.selects q.1.cls q.1 q.1 ∈ ir_Tb := List.mem_filter.mpr ⟨List.mem_append_left _ (List.mem_map.mpr ⟨q, List.mem_append_right _ (List.mem_append_right _ (List.mem_append_left _ (List.mem_of_getElem? h))), rfl⟩), rfl⟩
theorem ir_v4 {q : MethodName × Nat} (i : Nat) (h : lw_privs_4[i]? = some q) : Cond.selects q.1.cls q.1 q.1 ∈ ir_Tb := List.mem_filter.mpr ⟨List.mem_append_left _ (List.mem_map.mpr ⟨q, List.mem_append_right _ (List.mem_append_right _ (List.mem_append_right _ (List.mem_append_left _ (List.mem_of_getElem? h)))), rfl⟩), rfl⟩
theorem ir_v5 {q : MethodName × Nat} (i : Nat) (h : lw_privs_5[i]? = some q) : Cond.selects q.1.cls q.1 q.1 ∈ ir_Tb := List.mem_filter.mpr ⟨List.mem_append_left _ (List.mem_map.mpr ⟨q, List.mem_append_right _ (List.mem_append_right _ (List.mem_append_right _ (List.mem_append_right _ (List.mem_append_left _ (List.mem_of_getElem? h))))), rfl⟩), rfl⟩
theorem ir_v6 {q : MethodName × Nat} (i : Nat) (h : lw_privs_6[i]? = some q) : Cond.selects q.1.cls q.1 q.1 ∈ ir_Tb := List.mem_filter.mpr ⟨List.mem_append_left _ (List.mem_map.mpr ⟨q, List.mem_append_right _ (List.mem_append_right _ (List.mem_append_right _ (List.mem_append_right _ (List.mem_append_right _ (List.mem_append_left _ (List.mem_of_getElem? h)))))), rfl⟩), rfl⟩
theorem ir_v7 {q : MethodName × Nat} (i : Nat) (h : lw_privs_7[i]? = some q) : Cond.selects q.1.cls q.1 q.1 ∈ ir_Tb := List.mem_filter.mpr ⟨List.mem_append_left _ (List.mem_map.mpr ⟨q, List.mem_append_right _ (List.mem_append_right _ (List.mem_append_right _ (List.mem_append_right _ (List.mem_append_right _ (List.mem_append_right _ (List.mem_append_left _ (List.mem_of_getElem? h))))))), rfl⟩), rfl⟩
theorem ir_v8 {q : MethodName × Nat} (i : Nat) (h : lw_privs_8[i]? = some q) : Cond.selects q.1.cls q.1 q.1 ∈ ir_Tb := List.mem_filter.mpr ⟨List.mem_append_left _ (List.mem_map.mpr ⟨q, List.mem_append_right _ (List.mem_append_right _ (List.mem_append_right _ (List.mem_append_right _ (List.mem_append_right _ (List.mem_append_right _ (List.mem_append_right _ (List.mem_append_left _ (List.mem_of_getElem? h)))))))), rfl⟩), rfl⟩
theorem ir_v9 {q : MethodName × Nat} (i : Nat) (h : lw_privs_9[i]? = some q) : Cond.selects q.1.cls q.1 q.1 ∈ ir_Tb := List.mem_filter.mpr ⟨List.mem_append_left _ (List.mem_map.mpr ⟨q, List.mem_append_right _ (List.mem_append_right _ (List.mem_append_right _ (List.mem_append_right _ (List.mem_append_right _ (List.mem_append_right _ (List.mem_append_right _ (List.mem_append_right _ (List.mem_append_left _ (List.mem_of_getElem? h))))))))), rfl⟩), rfl⟩
theorem ir_v10 {q : MethodName × Nat} (i : Nat) (h : lw_privs_10[i]? = some q) : Cond.selects q.1.cls q.1 q.1 ∈ ir_Tb := List.mem_filter.mpr ⟨List.mem_append_left _ (List.mem_map.mpr ⟨q, List.mem_append_right _ (List.mem_append_right _ (List.mem_append_right _ (List.mem_append_right _ (List.mem_append_right _ (List.mem_append_right _ (List.mem_append_right _ (List.mem_append_right _ (List.mem_append_right _ ((List.mem_of_getElem? h)))))))))), rfl⟩), rfl⟩
def ir_on (o : Nat) : String := match ir_nth ["WellQueue$Flow", "WellQueue$Law", "WellQueue$Orders", "WellQueue$Plot", "WellQueue$Reader", "WellQueue$Scene", "WellQueue$Secrets", "WellQueue$Shares", "WellQueue$State", "WellQueue$Told", "WellQueue$Tray", "WellQueue", "WellQueueModel", "WellQueueLaw", "java/lang/String", "java/lang/StringLatin1", "jdk/internal/util/Preconditions", "java/lang/Integer", "java/util/Arrays"] o with
  | some s => s
  | none => ""
def ir_mt0 : List (Nat × MethodName × ByteArray × Nat × Option FieldType) := [(0, ({ cls := "WellQueue$Flow", name := "<init>", desc := "()V" } : MethodName), prog_2_method_1_code, 1, (Option.none : Option Jvm.ClassFile.FieldType)),
  (0, ({ cls := "WellQueue$Flow", name := "fallOf", desc := "(IIII)I" } : MethodName), prog_2_method_2_code, 4, (Option.some Jvm.ClassFile.FieldType.int)),
  (0, ({ cls := "WellQueue$Flow", name := "lawful", desc := "(LWellQueue$Told;LWellQueue$State;II)Z" } : MethodName), prog_2_method_3_code, 5, (Option.some Jvm.ClassFile.FieldType.boolean)),
  (0, ({ cls := "WellQueue$Flow", name := "lawfulFor", desc := "(LWellQueue$Told;LWellQueue$State;III)Z" } : MethodName), prog_2_method_4_code, 6, (Option.some Jvm.ClassFile.FieldType.boolean)),
  (0, ({ cls := "WellQueue$Flow", name := "layAsked", desc := "(LWellQueue$Told;LWellQueue$State;)V" } : MethodName), prog_2_method_5_code, 5, (Option.none : Option Jvm.ClassFile.FieldType)),
  (0, ({ cls := "WellQueue$Flow", name := "layLawful", desc := "(LWellQueue$Told;LWellQueue$State;)V" } : MethodName), prog_2_method_6_code, 5, (Option.none : Option Jvm.ClassFile.FieldType)),
  (0, ({ cls := "WellQueue$Flow", name := "mayAsk", desc := "(II)Z" } : MethodName), prog_2_method_7_code, 3, (Option.some Jvm.ClassFile.FieldType.boolean)),
  (0, ({ cls := "WellQueue$Flow", name := "mayAskAny", desc := "(I)Z" } : MethodName), prog_2_method_8_code, 2, (Option.some Jvm.ClassFile.FieldType.boolean)),
  (0, ({ cls := "WellQueue$Flow", name := "placeRound", desc := "(II)I" } : MethodName), prog_2_method_9_code, 2, (Option.some Jvm.ClassFile.FieldType.int)),
  (0, ({ cls := "WellQueue$Flow", name := "layAhead", desc := "(LWellQueue$Told;LWellQueue$State;)V" } : MethodName), prog_2_method_10_code, 5, (Option.none : Option Jvm.ClassFile.FieldType)),
  (0, ({ cls := "WellQueue$Flow", name := "fallBy", desc := "(LWellQueue$Told;LWellQueue$State;I)V" } : MethodName), prog_2_method_11_code, 5, (Option.none : Option Jvm.ClassFile.FieldType)),
  (0, ({ cls := "WellQueue$Flow", name := "fallAt", desc := "(II)I" } : MethodName), prog_2_method_12_code, 3, (Option.some Jvm.ClassFile.FieldType.int)),
  (0, ({ cls := "WellQueue$Flow", name := "run", desc := "(LWellQueue$Told;LWellQueue$State;)V" } : MethodName), prog_2_method_13_code, 3, (Option.none : Option Jvm.ClassFile.FieldType)),
  (0, ({ cls := "WellQueue$Flow", name := "worthAt", desc := "(LWellQueue$Told;LWellQueue$State;I)I" } : MethodName), prog_2_method_14_code, 4, (Option.some Jvm.ClassFile.FieldType.int)),
  (0, ({ cls := "WellQueue$Flow", name := "worthOfAll", desc := "(LWellQueue$Told;LWellQueue$State;)I" } : MethodName), prog_2_method_15_code, 5, (Option.some Jvm.ClassFile.FieldType.int)),
  (0, ({ cls := "WellQueue$Flow", name := "likingAt", desc := "(LWellQueue$Told;LWellQueue$State;I)I" } : MethodName), prog_2_method_16_code, 7, (Option.some Jvm.ClassFile.FieldType.int))]
def ir_mt1 : List (Nat × MethodName × ByteArray × Nat × Option FieldType) := [(0, ({ cls := "WellQueue$Flow", name := "passDay", desc := "(LWellQueue$Told;LWellQueue$State;)I" } : MethodName), prog_2_method_17_code, 5, (Option.some Jvm.ClassFile.FieldType.int)),
  (1, ({ cls := "WellQueue$Law", name := "<init>", desc := "()V" } : MethodName), prog_3_method_1_code, 1, (Option.none : Option Jvm.ClassFile.FieldType)),
  (1, ({ cls := "WellQueue$Law", name := "clear", desc := "()V" } : MethodName), prog_3_method_2_code, 1, (Option.none : Option Jvm.ClassFile.FieldType)),
  (1, ({ cls := "WellQueue$Law", name := "add", desc := "(I)V" } : MethodName), prog_3_method_3_code, 2, (Option.none : Option Jvm.ClassFile.FieldType)),
  (1, ({ cls := "WellQueue$Law", name := "take", desc := "(LWellQueue$Law;)V" } : MethodName), prog_3_method_4_code, 2, (Option.none : Option Jvm.ClassFile.FieldType)),
  (1, ({ cls := "WellQueue$Law", name := "holds", desc := "([I)Z" } : MethodName), prog_3_method_5_code, 5, (Option.some Jvm.ClassFile.FieldType.boolean)),
  (1, ({ cls := "WellQueue$Law", name := "joined", desc := "(III)I" } : MethodName), prog_3_method_6_code, 5, (Option.some Jvm.ClassFile.FieldType.int)),
  (2, ({ cls := "WellQueue$Orders", name := "<init>", desc := "()V" } : MethodName), prog_4_method_1_code, 1, (Option.none : Option Jvm.ClassFile.FieldType)),
  (2, ({ cls := "WellQueue$Orders", name := "search", desc := "(LWellQueue$Told;LWellQueue$State;LWellQueue$Flow;I)V" } : MethodName), prog_4_method_2_code, 5, (Option.none : Option Jvm.ClassFile.FieldType)),
  (2, ({ cls := "WellQueue$Orders", name := "layAskedByPlaces", desc := "()V" } : MethodName), prog_4_method_3_code, 6, (Option.none : Option Jvm.ClassFile.FieldType)),
  (2, ({ cls := "WellQueue$Orders", name := "stand", desc := "(III)V" } : MethodName), prog_4_method_4_code, 7, (Option.none : Option Jvm.ClassFile.FieldType)),
  (2, ({ cls := "WellQueue$Orders", name := "fallsLater", desc := "(I)Z" } : MethodName), prog_4_method_5_code, 2, (Option.some Jvm.ClassFile.FieldType.boolean)),
  (2, ({ cls := "WellQueue$Orders", name := "close", desc := "(I)V" } : MethodName), prog_4_method_6_code, 4, (Option.none : Option Jvm.ClassFile.FieldType)),
  (3, ({ cls := "WellQueue$Plot", name := "<init>", desc := "()V" } : MethodName), prog_5_method_1_code, 1, (Option.none : Option Jvm.ClassFile.FieldType)),
  (3, ({ cls := "WellQueue$Plot", name := "search", desc := "(LWellQueue$Told;LWellQueue$State;LWellQueue$Flow;II)V" } : MethodName), prog_5_method_2_code, 7, (Option.none : Option Jvm.ClassFile.FieldType)),
  (3, ({ cls := "WellQueue$Plot", name := "choose", desc := "(I)V" } : MethodName), prog_5_method_3_code, 4, (Option.none : Option Jvm.ClassFile.FieldType))]
def ir_mt2 : List (Nat × MethodName × ByteArray × Nat × Option FieldType) := [(3, ({ cls := "WellQueue$Plot", name := "weigh", desc := "()V" } : MethodName), prog_5_method_4_code, 2, (Option.none : Option Jvm.ClassFile.FieldType)),
  (4, ({ cls := "WellQueue$Reader", name := "<init>", desc := "()V" } : MethodName), prog_6_method_1_code, 1, (Option.none : Option Jvm.ClassFile.FieldType)),
  (4, ({ cls := "WellQueue$Reader", name := "read", desc := "([BI)V" } : MethodName), prog_6_method_2_code, 5, (Option.none : Option Jvm.ClassFile.FieldType)),
  (4, ({ cls := "WellQueue$Reader", name := "next", desc := "()V" } : MethodName), prog_6_method_3_code, 1, (Option.none : Option Jvm.ClassFile.FieldType)),
  (4, ({ cls := "WellQueue$Reader", name := "nextNumber", desc := "()V" } : MethodName), prog_6_method_4_code, 1, (Option.none : Option Jvm.ClassFile.FieldType)),
  (4, ({ cls := "WellQueue$Reader", name := "nextWord", desc := "()V" } : MethodName), prog_6_method_5_code, 5, (Option.none : Option Jvm.ClassFile.FieldType)),
  (4, ({ cls := "WellQueue$Reader", name := "refuse", desc := "(I)Z" } : MethodName), prog_6_method_6_code, 2, (Option.some Jvm.ClassFile.FieldType.boolean)),
  (4, ({ cls := "WellQueue$Reader", name := "take", desc := "(I)Z" } : MethodName), prog_6_method_7_code, 2, (Option.some Jvm.ClassFile.FieldType.boolean)),
  (4, ({ cls := "WellQueue$Reader", name := "takeNumber", desc := "(II)Z" } : MethodName), prog_6_method_8_code, 3, (Option.some Jvm.ClassFile.FieldType.boolean)),
  (4, ({ cls := "WellQueue$Reader", name := "readGoods", desc := "()Z" } : MethodName), prog_6_method_9_code, 1, (Option.some Jvm.ClassFile.FieldType.boolean)),
  (4, ({ cls := "WellQueue$Reader", name := "readLine", desc := "()Z" } : MethodName), prog_6_method_10_code, 1, (Option.some Jvm.ClassFile.FieldType.boolean)),
  (4, ({ cls := "WellQueue$Reader", name := "readPerson", desc := "()Z" } : MethodName), prog_6_method_11_code, 4, (Option.some Jvm.ClassFile.FieldType.boolean)),
  (4, ({ cls := "WellQueue$Reader", name := "takeSign", desc := "()Z" } : MethodName), prog_6_method_12_code, 2, (Option.some Jvm.ClassFile.FieldType.boolean)),
  (4, ({ cls := "WellQueue$Reader", name := "readApart", desc := "()Z" } : MethodName), prog_6_method_13_code, 2, (Option.some Jvm.ClassFile.FieldType.boolean)),
  (4, ({ cls := "WellQueue$Reader", name := "takeOther", desc := "(I)Z" } : MethodName), prog_6_method_14_code, 2, (Option.some Jvm.ClassFile.FieldType.boolean)),
  (4, ({ cls := "WellQueue$Reader", name := "readLikes", desc := "()Z" } : MethodName), prog_6_method_15_code, 4, (Option.some Jvm.ClassFile.FieldType.boolean))]
def ir_mt3 : List (Nat × MethodName × ByteArray × Nat × Option FieldType) := [(4, ({ cls := "WellQueue$Reader", name := "readBehind", desc := "()Z" } : MethodName), prog_6_method_16_code, 1, (Option.some Jvm.ClassFile.FieldType.boolean)),
  (4, ({ cls := "WellQueue$Reader", name := "readRuin", desc := "()Z" } : MethodName), prog_6_method_17_code, 1, (Option.some Jvm.ClassFile.FieldType.boolean)),
  (4, ({ cls := "WellQueue$Reader", name := "readTruth", desc := "(I)Z" } : MethodName), prog_6_method_18_code, 4, (Option.some Jvm.ClassFile.FieldType.boolean)),
  (4, ({ cls := "WellQueue$Reader", name := "readBoth", desc := "(I)Z" } : MethodName), prog_6_method_19_code, 4, (Option.some Jvm.ClassFile.FieldType.boolean)),
  (4, ({ cls := "WellQueue$Reader", name := "readUnit", desc := "(I)Z" } : MethodName), prog_6_method_20_code, 4, (Option.some Jvm.ClassFile.FieldType.boolean)),
  (4, ({ cls := "WellQueue$Reader", name := "readSum", desc := "(I)Z" } : MethodName), prog_6_method_21_code, 5, (Option.some Jvm.ClassFile.FieldType.boolean)),
  (4, ({ cls := "WellQueue$Reader", name := "readTerm", desc := "(I)Z" } : MethodName), prog_6_method_22_code, 4, (Option.some Jvm.ClassFile.FieldType.boolean)),
  (4, ({ cls := "WellQueue$Reader", name := "readAtom", desc := "(I)Z" } : MethodName), prog_6_method_23_code, 2, (Option.some Jvm.ClassFile.FieldType.boolean)),
  (5, ({ cls := "WellQueue$Scene", name := "<init>", desc := "()V" } : MethodName), prog_7_method_1_code, 2, (Option.none : Option Jvm.ClassFile.FieldType)),
  (5, ({ cls := "WellQueue$Scene", name := "begin", desc := "(LWellQueue$Told;LWellQueue$State;)V" } : MethodName), prog_7_method_2_code, 3, (Option.none : Option Jvm.ClassFile.FieldType)),
  (5, ({ cls := "WellQueue$Scene", name := "keep", desc := "()V" } : MethodName), prog_7_method_3_code, 1, (Option.none : Option Jvm.ClassFile.FieldType)),
  (5, ({ cls := "WellQueue$Scene", name := "giveBack", desc := "()V" } : MethodName), prog_7_method_4_code, 1, (Option.none : Option Jvm.ClassFile.FieldType)),
  (5, ({ cls := "WellQueue$Scene", name := "take", desc := "(LWellQueue$Scene;)V" } : MethodName), prog_7_method_5_code, 3, (Option.none : Option Jvm.ClassFile.FieldType)),
  (6, ({ cls := "WellQueue$Secrets", name := "<init>", desc := "()V" } : MethodName), prog_8_method_1_code, 1, (Option.none : Option Jvm.ClassFile.FieldType)),
  (6, ({ cls := "WellQueue$Secrets", name := "begin", desc := "(LWellQueue$Told;LWellQueue$State;LWellQueue$Flow;LWellQueue$Tray;)V" } : MethodName), prog_8_method_2_code, 7, (Option.none : Option Jvm.ClassFile.FieldType)),
  (6, ({ cls := "WellQueue$Secrets", name := "optionsAt", desc := "(I)I" } : MethodName), prog_8_method_3_code, 4, (Option.some Jvm.ClassFile.FieldType.int))]
def ir_mt4 : List (Nat × MethodName × ByteArray × Nat × Option FieldType) := [(6, ({ cls := "WellQueue$Secrets", name := "ways", desc := "()J" } : MethodName), prog_8_method_4_code, 1, (Option.some Jvm.ClassFile.FieldType.long)),
  (6, ({ cls := "WellQueue$Secrets", name := "onlyAsked", desc := "(I)I" } : MethodName), prog_8_method_5_code, 6, (Option.some Jvm.ClassFile.FieldType.int)),
  (6, ({ cls := "WellQueue$Secrets", name := "waysRound", desc := "()J" } : MethodName), prog_8_method_6_code, 4, (Option.some Jvm.ClassFile.FieldType.long)),
  (6, ({ cls := "WellQueue$Secrets", name := "takeGuess", desc := "(I)Z" } : MethodName), prog_8_method_7_code, 6, (Option.some Jvm.ClassFile.FieldType.boolean)),
  (6, ({ cls := "WellQueue$Secrets", name := "waysBehind", desc := "([I)J" } : MethodName), prog_8_method_8_code, 5, (Option.some Jvm.ClassFile.FieldType.long)),
  (6, ({ cls := "WellQueue$Secrets", name := "standNext", desc := "(II)V" } : MethodName), prog_8_method_9_code, 7, (Option.none : Option Jvm.ClassFile.FieldType)),
  (6, ({ cls := "WellQueue$Secrets", name := "fits", desc := "(II)Z" } : MethodName), prog_8_method_10_code, 3, (Option.some Jvm.ClassFile.FieldType.boolean)),
  (7, ({ cls := "WellQueue$Shares", name := "<init>", desc := "()V" } : MethodName), prog_9_method_1_code, 1, (Option.none : Option Jvm.ClassFile.FieldType)),
  (7, ({ cls := "WellQueue$Shares", name := "weigh", desc := "(LWellQueue$Told;LWellQueue$State;LWellQueue$Flow;I)V" } : MethodName), prog_9_method_2_code, 6, (Option.none : Option Jvm.ClassFile.FieldType)),
  (7, ({ cls := "WellQueue$Shares", name := "worthOfSet", desc := "(I)I" } : MethodName), prog_9_method_3_code, 2, (Option.some Jvm.ClassFile.FieldType.int)),
  (7, ({ cls := "WellQueue$Shares", name := "comeBehind", desc := "(III)V" } : MethodName), prog_9_method_4_code, 7, (Option.none : Option Jvm.ClassFile.FieldType)),
  (7, ({ cls := "WellQueue$Shares", name := "shareOf", desc := "(II)I" } : MethodName), prog_9_method_5_code, 9, (Option.some Jvm.ClassFile.FieldType.int)),
  (8, ({ cls := "WellQueue$State", name := "<init>", desc := "()V" } : MethodName), prog_10_method_1_code, 1, (Option.none : Option Jvm.ClassFile.FieldType)),
  (8, ({ cls := "WellQueue$State", name := "clear", desc := "()V" } : MethodName), prog_10_method_2_code, 1, (Option.none : Option Jvm.ClassFile.FieldType)),
  (8, ({ cls := "WellQueue$State", name := "take", desc := "(LWellQueue$State;)V" } : MethodName), prog_10_method_3_code, 2, (Option.none : Option Jvm.ClassFile.FieldType)),
  (8, ({ cls := "WellQueue$State", name := "placeOf", desc := "(I)I" } : MethodName), prog_10_method_4_code, 3, (Option.some Jvm.ClassFile.FieldType.int))]
def ir_mt5 : List (Nat × MethodName × ByteArray × Nat × Option FieldType) := [(8, ({ cls := "WellQueue$State", name := "members", desc := "()I" } : MethodName), prog_10_method_5_code, 3, (Option.some Jvm.ClassFile.FieldType.int)),
  (8, ({ cls := "WellQueue$State", name := "putLast", desc := "(I)I" } : MethodName), prog_10_method_6_code, 2, (Option.some Jvm.ClassFile.FieldType.int)),
  (8, ({ cls := "WellQueue$State", name := "takeOut", desc := "(I)V" } : MethodName), prog_10_method_7_code, 2, (Option.none : Option Jvm.ClassFile.FieldType)),
  (8, ({ cls := "WellQueue$State", name := "shift", desc := "(II)V" } : MethodName), prog_10_method_8_code, 5, (Option.none : Option Jvm.ClassFile.FieldType)),
  (8, ({ cls := "WellQueue$State", name := "pay", desc := "(III)V" } : MethodName), prog_10_method_9_code, 4, (Option.none : Option Jvm.ClassFile.FieldType)),
  (9, ({ cls := "WellQueue$Told", name := "<init>", desc := "()V" } : MethodName), prog_11_method_1_code, 1, (Option.none : Option Jvm.ClassFile.FieldType)),
  (9, ({ cls := "WellQueue$Told", name := "clear", desc := "()V" } : MethodName), prog_11_method_2_code, 1, (Option.none : Option Jvm.ClassFile.FieldType)),
  (9, ({ cls := "WellQueue$Told", name := "take", desc := "(LWellQueue$Told;)V" } : MethodName), prog_11_method_3_code, 2, (Option.none : Option Jvm.ClassFile.FieldType)),
  (9, ({ cls := "WellQueue$Told", name := "worthTo", desc := "(II)I" } : MethodName), prog_11_method_4_code, 3, (Option.some Jvm.ClassFile.FieldType.int)),
  (9, ({ cls := "WellQueue$Told", name := "setWorth", desc := "(III)V" } : MethodName), prog_11_method_5_code, 4, (Option.none : Option Jvm.ClassFile.FieldType)),
  (9, ({ cls := "WellQueue$Told", name := "likesOf", desc := "(II)I" } : MethodName), prog_11_method_6_code, 3, (Option.some Jvm.ClassFile.FieldType.int)),
  (9, ({ cls := "WellQueue$Told", name := "setLikes", desc := "(III)V" } : MethodName), prog_11_method_7_code, 4, (Option.none : Option Jvm.ClassFile.FieldType)),
  (10, ({ cls := "WellQueue$Tray", name := "<init>", desc := "()V" } : MethodName), prog_12_method_1_code, 1, (Option.none : Option Jvm.ClassFile.FieldType)),
  (10, ({ cls := "WellQueue$Tray", name := "lay", desc := "(II)V" } : MethodName), prog_12_method_2_code, 3, (Option.none : Option Jvm.ClassFile.FieldType)),
  (10, ({ cls := "WellQueue$Tray", name := "numberAt", desc := "(I)J" } : MethodName), prog_12_method_3_code, 2, (Option.some Jvm.ClassFile.FieldType.long)),
  (10, ({ cls := "WellQueue$Tray", name := "put", desc := "(IJ)J" } : MethodName), prog_12_method_4_code, 4, (Option.some Jvm.ClassFile.FieldType.long))]
def ir_mt6 : List (Nat × MethodName × ByteArray × Nat × Option FieldType) := [(10, ({ cls := "WellQueue$Tray", name := "cut", desc := "(J)J" } : MethodName), prog_12_method_5_code, 3, (Option.some Jvm.ClassFile.FieldType.long)),
  (11, ({ cls := "WellQueue", name := "<init>", desc := "()V" } : MethodName), prog_1_method_1_code, 2, (Option.none : Option Jvm.ClassFile.FieldType)),
  (11, ({ cls := "WellQueue", name := "feed", desc := "(IIIII)I" } : MethodName), prog_1_method_2_code, 6, (Option.some Jvm.ClassFile.FieldType.int)),
  (11, ({ cls := "WellQueue", name := "well", desc := "(I)I" } : MethodName), prog_1_method_3_code, 2, (Option.some Jvm.ClassFile.FieldType.int)),
  (11, ({ cls := "WellQueue", name := "fault", desc := "(I)I" } : MethodName), prog_1_method_4_code, 2, (Option.some Jvm.ClassFile.FieldType.int)),
  (11, ({ cls := "WellQueue", name := "person", desc := "(II)I" } : MethodName), prog_1_method_5_code, 4, (Option.some Jvm.ClassFile.FieldType.int)),
  (11, ({ cls := "WellQueue", name := "worth", desc := "(II)I" } : MethodName), prog_1_method_6_code, 3, (Option.some Jvm.ClassFile.FieldType.int)),
  (11, ({ cls := "WellQueue", name := "likes", desc := "(II)I" } : MethodName), prog_1_method_7_code, 3, (Option.some Jvm.ClassFile.FieldType.int)),
  (11, ({ cls := "WellQueue", name := "at", desc := "(I)I" } : MethodName), prog_1_method_8_code, 2, (Option.some Jvm.ClassFile.FieldType.int)),
  (11, ({ cls := "WellQueue", name := "allowed", desc := "(II)Z" } : MethodName), prog_1_method_9_code, 3, (Option.some Jvm.ClassFile.FieldType.boolean)),
  (11, ({ cls := "WellQueue", name := "today", desc := "()I" } : MethodName), prog_1_method_10_code, 1, (Option.some Jvm.ClassFile.FieldType.int)),
  (11, ({ cls := "WellQueue", name := "liking", desc := "(I)I" } : MethodName), prog_1_method_11_code, 3, (Option.some Jvm.ClassFile.FieldType.int)),
  (11, ({ cls := "WellQueue", name := "ask", desc := "(II)I" } : MethodName), prog_1_method_12_code, 4, (Option.some Jvm.ClassFile.FieldType.int)),
  (11, ({ cls := "WellQueue", name := "days", desc := "(I)I" } : MethodName), prog_1_method_13_code, 4, (Option.some Jvm.ClassFile.FieldType.int)),
  (11, ({ cls := "WellQueue", name := "leave", desc := "(I)I" } : MethodName), prog_1_method_14_code, 3, (Option.some Jvm.ClassFile.FieldType.int)),
  (11, ({ cls := "WellQueue", name := "join", desc := "(I)I" } : MethodName), prog_1_method_15_code, 2, (Option.some Jvm.ClassFile.FieldType.int))]
def ir_mt7 : List (Nat × MethodName × ByteArray × Nat × Option FieldType) := [(11, ({ cls := "WellQueue", name := "move", desc := "(II)I" } : MethodName), prog_1_method_16_code, 4, (Option.some Jvm.ClassFile.FieldType.int)),
  (11, ({ cls := "WellQueue", name := "trade", desc := "(I)I" } : MethodName), prog_1_method_17_code, 2, (Option.some Jvm.ClassFile.FieldType.int)),
  (11, ({ cls := "WellQueue", name := "trades", desc := "()I" } : MethodName), prog_1_method_18_code, 2, (Option.some Jvm.ClassFile.FieldType.int)),
  (11, ({ cls := "WellQueue", name := "auction", desc := "(II)I" } : MethodName), prog_1_method_19_code, 6, (Option.some Jvm.ClassFile.FieldType.int)),
  (11, ({ cls := "WellQueue", name := "ring", desc := "()I" } : MethodName), prog_1_method_20_code, 1, (Option.some Jvm.ClassFile.FieldType.int)),
  (11, ({ cls := "WellQueue", name := "undo", desc := "(I)I" } : MethodName), prog_1_method_21_code, 3, (Option.some Jvm.ClassFile.FieldType.int)),
  (11, ({ cls := "WellQueue", name := "judge", desc := "(II)I" } : MethodName), prog_1_method_22_code, 7, (Option.some Jvm.ClassFile.FieldType.int)),
  (11, ({ cls := "WellQueue", name := "perform", desc := "(I)I" } : MethodName), prog_1_method_23_code, 4, (Option.some Jvm.ClassFile.FieldType.int)),
  (11, ({ cls := "WellQueue", name := "season", desc := "(II)I" } : MethodName), prog_1_method_24_code, 6, (Option.some Jvm.ClassFile.FieldType.int)),
  (11, ({ cls := "WellQueue", name := "best", desc := "(I)I" } : MethodName), prog_1_method_25_code, 3, (Option.some Jvm.ClassFile.FieldType.int)),
  (11, ({ cls := "WellQueue", name := "orders", desc := "(I)I" } : MethodName), prog_1_method_26_code, 2, (Option.some Jvm.ClassFile.FieldType.int)),
  (11, ({ cls := "WellQueue", name := "standBest", desc := "()I" } : MethodName), prog_1_method_27_code, 2, (Option.some Jvm.ClassFile.FieldType.int)),
  (11, ({ cls := "WellQueue", name := "kindest", desc := "(IZ)I" } : MethodName), prog_1_method_28_code, 4, (Option.some Jvm.ClassFile.FieldType.int)),
  (11, ({ cls := "WellQueue", name := "settles", desc := "(I)I" } : MethodName), prog_1_method_29_code, 3, (Option.some Jvm.ClassFile.FieldType.int)),
  (11, ({ cls := "WellQueue", name := "plot", desc := "(III)I" } : MethodName), prog_1_method_30_code, 7, (Option.some Jvm.ClassFile.FieldType.int)),
  (11, ({ cls := "WellQueue", name := "promise", desc := "(II)I" } : MethodName), prog_1_method_31_code, 3, (Option.some Jvm.ClassFile.FieldType.int))]
def ir_mt8 : List (Nat × MethodName × ByteArray × Nat × Option FieldType) := [(11, ({ cls := "WellQueue", name := "guard", desc := "(II)I" } : MethodName), prog_1_method_32_code, 7, (Option.some Jvm.ClassFile.FieldType.int)),
  (11, ({ cls := "WellQueue", name := "price", desc := "(II)I" } : MethodName), prog_1_method_33_code, 4, (Option.some Jvm.ClassFile.FieldType.int)),
  (11, ({ cls := "WellQueue", name := "bestPlace", desc := "(I)I" } : MethodName), prog_1_method_34_code, 7, (Option.some Jvm.ClassFile.FieldType.int)),
  (11, ({ cls := "WellQueue", name := "worthOf", desc := "(I)I" } : MethodName), prog_1_method_35_code, 2, (Option.some Jvm.ClassFile.FieldType.int)),
  (11, ({ cls := "WellQueue", name := "share", desc := "(I)I" } : MethodName), prog_1_method_36_code, 3, (Option.some Jvm.ClassFile.FieldType.int)),
  (11, ({ cls := "WellQueue", name := "ruined", desc := "(I)I" } : MethodName), prog_1_method_37_code, 2, (Option.some Jvm.ClassFile.FieldType.int)),
  (11, ({ cls := "WellQueue", name := "firstRuined", desc := "()I" } : MethodName), prog_1_method_38_code, 4, (Option.some Jvm.ClassFile.FieldType.int)),
  (11, ({ cls := "WellQueue", name := "by", desc := "(I)I" } : MethodName), prog_1_method_39_code, 2, (Option.some Jvm.ClassFile.FieldType.int)),
  (11, ({ cls := "WellQueue", name := "bestWay", desc := "()I" } : MethodName), prog_1_method_40_code, 5, (Option.some Jvm.ClassFile.FieldType.int)),
  (11, ({ cls := "WellQueue", name := "secrets", desc := "(I)J" } : MethodName), prog_1_method_41_code, 3, (Option.some Jvm.ClassFile.FieldType.long)),
  (11, ({ cls := "WellQueue", name := "sure", desc := "(II)I" } : MethodName), prog_1_method_42_code, 4, (Option.some Jvm.ClassFile.FieldType.int)),
  (11, ({ cls := "WellQueue", name := "tray", desc := "(III)V" } : MethodName), prog_1_method_43_code, 4, (Option.none : Option Jvm.ClassFile.FieldType)),
  (11, ({ cls := "WellQueue", name := "write", desc := "(IIJ)J" } : MethodName), prog_1_method_44_code, 6, (Option.some Jvm.ClassFile.FieldType.long)),
  (11, ({ cls := "WellQueue", name := "pour", desc := "(I)I" } : MethodName), prog_1_method_45_code, 6, (Option.some Jvm.ClassFile.FieldType.int)),
  (11, ({ cls := "WellQueue", name := "image", desc := "(I)V" } : MethodName), prog_1_method_46_code, 2, (Option.none : Option Jvm.ClassFile.FieldType)),
  (11, ({ cls := "WellQueue", name := "restore", desc := "(I)V" } : MethodName), prog_1_method_47_code, 2, (Option.none : Option Jvm.ClassFile.FieldType))]
def ir_mt9 : List (Nat × MethodName × ByteArray × Nat × Option FieldType) := [(11, ({ cls := "WellQueue", name := "count", desc := "(I)I" } : MethodName), prog_1_method_48_code, 2, (Option.some Jvm.ClassFile.FieldType.int)),
  (11, ({ cls := "WellQueue", name := "needPerson", desc := "(I)V" } : MethodName), prog_1_method_49_code, 2, (Option.none : Option Jvm.ClassFile.FieldType)),
  (11, ({ cls := "WellQueue", name := "needGood", desc := "(I)V" } : MethodName), prog_1_method_50_code, 2, (Option.none : Option Jvm.ClassFile.FieldType)),
  (11, ({ cls := "WellQueue", name := "needStanding", desc := "(I)I" } : MethodName), prog_1_method_51_code, 3, (Option.some Jvm.ClassFile.FieldType.int)),
  (11, ({ cls := "WellQueue", name := "isPlace", desc := "(I)Z" } : MethodName), prog_1_method_52_code, 2, (Option.some Jvm.ClassFile.FieldType.boolean)),
  (11, ({ cls := "WellQueue", name := "needPlace", desc := "(I)V" } : MethodName), prog_1_method_53_code, 2, (Option.none : Option Jvm.ClassFile.FieldType)),
  (11, ({ cls := "WellQueue", name := "needSet", desc := "(III)V" } : MethodName), prog_1_method_54_code, 5, (Option.none : Option Jvm.ClassFile.FieldType)),
  (11, ({ cls := "WellQueue", name := "isTray", desc := "(I)Z" } : MethodName), prog_1_method_55_code, 1, (Option.some Jvm.ClassFile.FieldType.boolean)),
  (11, ({ cls := "WellQueue", name := "needTray", desc := "(I)LWellQueue$Tray;" } : MethodName), prog_1_method_56_code, 2, (Option.some (Jvm.ClassFile.FieldType.object "WellQueue$Tray"))),
  (11, ({ cls := "WellQueue", name := "needTold", desc := "(LWellQueue$Tray;)V" } : MethodName), prog_1_method_57_code, 6, (Option.none : Option Jvm.ClassFile.FieldType)),
  (11, ({ cls := "WellQueue", name := "needImage", desc := "(I)V" } : MethodName), prog_1_method_58_code, 1, (Option.none : Option Jvm.ClassFile.FieldType)),
  (11, ({ cls := "WellQueue", name := "putOnTape", desc := "(I)V" } : MethodName), prog_1_method_59_code, 3, (Option.none : Option Jvm.ClassFile.FieldType)),
  (11, ({ cls := "WellQueue", name := "goodFallingAt", desc := "(I)I" } : MethodName), prog_1_method_60_code, 2, (Option.some Jvm.ClassFile.FieldType.int)),
  (11, ({ cls := "WellQueue", name := "sumOver", desc := "([I)I" } : MethodName), prog_1_method_61_code, 4, (Option.some Jvm.ClassFile.FieldType.int)),
  (11, ({ cls := "WellQueue", name := "worthByWay", desc := "(I)I" } : MethodName), prog_1_method_62_code, 2, (Option.some Jvm.ClassFile.FieldType.int)),
  (11, ({ cls := "WellQueue", name := "keepDeed", desc := "()V" } : MethodName), prog_1_method_63_code, 1, (Option.none : Option Jvm.ClassFile.FieldType))]
def ir_mt10 : List (Nat × MethodName × ByteArray × Nat × Option FieldType) := [(11, ({ cls := "WellQueue", name := "tradeFirst", desc := "()Z" } : MethodName), prog_1_method_64_code, 2, (Option.some Jvm.ClassFile.FieldType.boolean)),
  (11, ({ cls := "WellQueue", name := "tradeAt", desc := "(I)I" } : MethodName), prog_1_method_65_code, 12, (Option.some Jvm.ClassFile.FieldType.int)),
  (11, ({ cls := "WellQueue", name := "counts", desc := "(LWellQueue$Tray;I)Z" } : MethodName), prog_1_method_66_code, 5, (Option.some Jvm.ClassFile.FieldType.boolean)),
  (11, ({ cls := "WellQueue", name := "outbids", desc := "(LWellQueue$Tray;II)Z" } : MethodName), prog_1_method_67_code, 8, (Option.some Jvm.ClassFile.FieldType.boolean)),
  (11, ({ cls := "WellQueue", name := "payForPlace", desc := "(LWellQueue$Tray;II)V" } : MethodName), prog_1_method_68_code, 7, (Option.none : Option Jvm.ClassFile.FieldType)),
  (11, ({ cls := "WellQueue", name := "whyNot", desc := "(JLWellQueue$State;)I" } : MethodName), prog_1_method_69_code, 7, (Option.some Jvm.ClassFile.FieldType.int)),
  (11, ({ cls := "WellQueue", name := "make", desc := "(ILWellQueue$State;)I" } : MethodName), prog_1_method_70_code, 4, (Option.some Jvm.ClassFile.FieldType.int)),
  (11, ({ cls := "WellQueue", name := "draw", desc := "()I" } : MethodName), prog_1_method_71_code, 1, (Option.some Jvm.ClassFile.FieldType.int)),
  (11, ({ cls := "WellQueue", name := "drawDeed", desc := "()I" } : MethodName), prog_1_method_72_code, 3, (Option.some Jvm.ClassFile.FieldType.int)),
  (11, ({ cls := "WellQueue", name := "findBest", desc := "()V" } : MethodName), prog_1_method_73_code, 1, (Option.none : Option Jvm.ClassFile.FieldType)),
  (11, ({ cls := "WellQueue", name := "layChoices", desc := "()V" } : MethodName), prog_1_method_74_code, 1, (Option.none : Option Jvm.ClassFile.FieldType)),
  (11, ({ cls := "WellQueue", name := "kindAt", desc := "(IZ)I" } : MethodName), prog_1_method_75_code, 9, (Option.some Jvm.ClassFile.FieldType.int)),
  (11, ({ cls := "WellQueue", name := "settle", desc := "()V" } : MethodName), prog_1_method_76_code, 1, (Option.none : Option Jvm.ClassFile.FieldType)),
  (11, ({ cls := "WellQueue", name := "settleRound", desc := "()Z" } : MethodName), prog_1_method_77_code, 4, (Option.some Jvm.ClassFile.FieldType.boolean)),
  (11, ({ cls := "WellQueue", name := "likedMore", desc := "(I)I" } : MethodName), prog_1_method_78_code, 7, (Option.some Jvm.ClassFile.FieldType.int)),
  (11, ({ cls := "WellQueue", name := "likingBy", desc := "(II)I" } : MethodName), prog_1_method_79_code, 3, (Option.some Jvm.ClassFile.FieldType.int))]
def ir_mt11 : List (Nat × MethodName × ByteArray × Nat × Option FieldType) := [(11, ({ cls := "WellQueue", name := "makePromise", desc := "(I)V" } : MethodName), prog_1_method_80_code, 5, (Option.none : Option Jvm.ClassFile.FieldType)),
  (11, ({ cls := "WellQueue", name := "promiseHolds", desc := "(I)Z" } : MethodName), prog_1_method_81_code, 4, (Option.some Jvm.ClassFile.FieldType.boolean)),
  (11, ({ cls := "WellQueue", name := "promiseGain", desc := "(I)I" } : MethodName), prog_1_method_82_code, 5, (Option.some Jvm.ClassFile.FieldType.int)),
  (11, ({ cls := "WellQueue", name := "promiseBreaker", desc := "(I)I" } : MethodName), prog_1_method_83_code, 4, (Option.some Jvm.ClassFile.FieldType.int)),
  (11, ({ cls := "WellQueue", name := "worthGuardedBy", desc := "(II)I" } : MethodName), prog_1_method_84_code, 5, (Option.some Jvm.ClassFile.FieldType.int)),
  (11, ({ cls := "WellQueue", name := "worthMoved", desc := "(II)I" } : MethodName), prog_1_method_85_code, 3, (Option.some Jvm.ClassFile.FieldType.int)),
  (11, ({ cls := "WellQueue", name := "awaitRuin", desc := "(I)Z" } : MethodName), prog_1_method_86_code, 3, (Option.some Jvm.ClassFile.FieldType.boolean)),
  (12, ({ cls := "WellQueueModel", name := "<init>", desc := "()V" } : MethodName), prog_14_method_1_code, 1, (Option.none : Option Jvm.ClassFile.FieldType)),
  (12, ({ cls := "WellQueueModel", name := "thrown", desc := "()I" } : MethodName), prog_14_method_2_code, 1, (Option.some Jvm.ClassFile.FieldType.int)),
  (12, ({ cls := "WellQueueModel", name := "fails", desc := "(I)I" } : MethodName), prog_14_method_3_code, 2, (Option.some Jvm.ClassFile.FieldType.int)),
  (12, ({ cls := "WellQueueModel", name := "within", desc := "(JJJ)Z" } : MethodName), prog_14_method_4_code, 6, (Option.some Jvm.ClassFile.FieldType.boolean)),
  (12, ({ cls := "WellQueueModel", name := "has", desc := "(II)Z" } : MethodName), prog_14_method_5_code, 2, (Option.some Jvm.ClassFile.FieldType.boolean)),
  (12, ({ cls := "WellQueueModel", name := "size", desc := "(I)I" } : MethodName), prog_14_method_6_code, 3, (Option.some Jvm.ClassFile.FieldType.int)),
  (12, ({ cls := "WellQueueModel", name := "feed", desc := "(IIIII)I" } : MethodName), prog_14_method_7_code, 8, (Option.some Jvm.ClassFile.FieldType.int)),
  (12, ({ cls := "WellQueueModel", name := "see", desc := "(I)I" } : MethodName), prog_14_method_8_code, 2, (Option.some Jvm.ClassFile.FieldType.int)),
  (12, ({ cls := "WellQueueModel", name := "isLetter", desc := "(I)Z" } : MethodName), prog_14_method_9_code, 1, (Option.some Jvm.ClassFile.FieldType.boolean))]
def ir_mt12 : List (Nat × MethodName × ByteArray × Nat × Option FieldType) := [(12, ({ cls := "WellQueueModel", name := "isDigit", desc := "(I)Z" } : MethodName), prog_14_method_10_code, 1, (Option.some Jvm.ClassFile.FieldType.boolean)),
  (12, ({ cls := "WellQueueModel", name := "isSignByte", desc := "(I)Z" } : MethodName), prog_14_method_11_code, 2, (Option.some Jvm.ClassFile.FieldType.boolean)),
  (12, ({ cls := "WellQueueModel", name := "readsOn", desc := "()V" } : MethodName), prog_14_method_12_code, 2, (Option.none : Option Jvm.ClassFile.FieldType)),
  (12, ({ cls := "WellQueueModel", name := "blames", desc := "(I)V" } : MethodName), prog_14_method_13_code, 2, (Option.none : Option Jvm.ClassFile.FieldType)),
  (12, ({ cls := "WellQueueModel", name := "isWord", desc := "(Ljava/lang/String;)Z" } : MethodName), prog_14_method_14_code, 4, (Option.some Jvm.ClassFile.FieldType.boolean)),
  (12, ({ cls := "WellQueueModel", name := "took", desc := "(Ljava/lang/String;)Z" } : MethodName), prog_14_method_15_code, 3, (Option.some Jvm.ClassFile.FieldType.boolean)),
  (12, ({ cls := "WellQueueModel", name := "mustWord", desc := "(Ljava/lang/String;)V" } : MethodName), prog_14_method_16_code, 2, (Option.none : Option Jvm.ClassFile.FieldType)),
  (12, ({ cls := "WellQueueModel", name := "isSign", desc := "(I)Z" } : MethodName), prog_14_method_17_code, 2, (Option.some Jvm.ClassFile.FieldType.boolean)),
  (12, ({ cls := "WellQueueModel", name := "mustSign", desc := "(I)V" } : MethodName), prog_14_method_18_code, 2, (Option.none : Option Jvm.ClassFile.FieldType)),
  (12, ({ cls := "WellQueueModel", name := "number", desc := "(II)I" } : MethodName), prog_14_method_19_code, 4, (Option.some Jvm.ClassFile.FieldType.int)),
  (12, ({ cls := "WellQueueModel", name := "signed", desc := "(I)I" } : MethodName), prog_14_method_20_code, 4, (Option.some Jvm.ClassFile.FieldType.int)),
  (12, ({ cls := "WellQueueModel", name := "laysStep", desc := "(I)V" } : MethodName), prog_14_method_21_code, 2, (Option.none : Option Jvm.ClassFile.FieldType)),
  (12, ({ cls := "WellQueueModel", name := "goesIn", desc := "()V" } : MethodName), prog_14_method_22_code, 1, (Option.none : Option Jvm.ClassFile.FieldType)),
  (12, ({ cls := "WellQueueModel", name := "readTruth", desc := "()V" } : MethodName), prog_14_method_23_code, 1, (Option.none : Option Jvm.ClassFile.FieldType)),
  (12, ({ cls := "WellQueueModel", name := "readBoth", desc := "()V" } : MethodName), prog_14_method_24_code, 1, (Option.none : Option Jvm.ClassFile.FieldType)),
  (12, ({ cls := "WellQueueModel", name := "readUnit", desc := "()V" } : MethodName), prog_14_method_25_code, 2, (Option.none : Option Jvm.ClassFile.FieldType))]
def ir_mt13 : List (Nat × MethodName × ByteArray × Nat × Option FieldType) := [(12, ({ cls := "WellQueueModel", name := "readSum", desc := "()V" } : MethodName), prog_14_method_26_code, 2, (Option.none : Option Jvm.ClassFile.FieldType)),
  (12, ({ cls := "WellQueueModel", name := "readTerm", desc := "()V" } : MethodName), prog_14_method_27_code, 1, (Option.none : Option Jvm.ClassFile.FieldType)),
  (12, ({ cls := "WellQueueModel", name := "lawWord", desc := "()I" } : MethodName), prog_14_method_28_code, 1, (Option.some Jvm.ClassFile.FieldType.int)),
  (12, ({ cls := "WellQueueModel", name := "readAtom", desc := "()V" } : MethodName), prog_14_method_29_code, 3, (Option.none : Option Jvm.ClassFile.FieldType)),
  (12, ({ cls := "WellQueueModel", name := "readPerson", desc := "()V" } : MethodName), prog_14_method_30_code, 3, (Option.none : Option Jvm.ClassFile.FieldType)),
  (12, ({ cls := "WellQueueModel", name := "readOther", desc := "(I)I" } : MethodName), prog_14_method_31_code, 2, (Option.some Jvm.ClassFile.FieldType.int)),
  (12, ({ cls := "WellQueueModel", name := "readApart", desc := "()V" } : MethodName), prog_14_method_32_code, 3, (Option.none : Option Jvm.ClassFile.FieldType)),
  (12, ({ cls := "WellQueueModel", name := "readLikes", desc := "()V" } : MethodName), prog_14_method_33_code, 4, (Option.none : Option Jvm.ClassFile.FieldType)),
  (12, ({ cls := "WellQueueModel", name := "readStop", desc := "()V" } : MethodName), prog_14_method_34_code, 1, (Option.none : Option Jvm.ClassFile.FieldType)),
  (12, ({ cls := "WellQueueModel", name := "readLine", desc := "()V" } : MethodName), prog_14_method_35_code, 1, (Option.none : Option Jvm.ClassFile.FieldType)),
  (12, ({ cls := "WellQueueModel", name := "well", desc := "(I)I" } : MethodName), prog_14_method_36_code, 3, (Option.some Jvm.ClassFile.FieldType.int)),
  (12, ({ cls := "WellQueueModel", name := "fault", desc := "(I)I" } : MethodName), prog_14_method_37_code, 2, (Option.some Jvm.ClassFile.FieldType.int)),
  (12, ({ cls := "WellQueueModel", name := "people", desc := "()I" } : MethodName), prog_14_method_38_code, 1, (Option.some Jvm.ClassFile.FieldType.int)),
  (12, ({ cls := "WellQueueModel", name := "goods", desc := "()I" } : MethodName), prog_14_method_39_code, 1, (Option.some Jvm.ClassFile.FieldType.int)),
  (12, ({ cls := "WellQueueModel", name := "queued", desc := "()I" } : MethodName), prog_14_method_40_code, 1, (Option.some Jvm.ClassFile.FieldType.int)),
  (12, ({ cls := "WellQueueModel", name := "who", desc := "(I)I" } : MethodName), prog_14_method_41_code, 2, (Option.some Jvm.ClassFile.FieldType.int))]
def ir_mt14 : List (Nat × MethodName × ByteArray × Nat × Option FieldType) := [(12, ({ cls := "WellQueueModel", name := "isBody", desc := "(J)Z" } : MethodName), prog_14_method_42_code, 3, (Option.some Jvm.ClassFile.FieldType.boolean)),
  (12, ({ cls := "WellQueueModel", name := "isGood", desc := "(J)Z" } : MethodName), prog_14_method_43_code, 3, (Option.some Jvm.ClassFile.FieldType.boolean)),
  (12, ({ cls := "WellQueueModel", name := "isStand", desc := "(J)Z" } : MethodName), prog_14_method_44_code, 3, (Option.some Jvm.ClassFile.FieldType.boolean)),
  (12, ({ cls := "WellQueueModel", name := "placeOf", desc := "(I)I" } : MethodName), prog_14_method_45_code, 3, (Option.some Jvm.ClassFile.FieldType.int)),
  (12, ({ cls := "WellQueueModel", name := "worthTo", desc := "(II)I" } : MethodName), prog_14_method_46_code, 3, (Option.some Jvm.ClassFile.FieldType.int)),
  (12, ({ cls := "WellQueueModel", name := "bound", desc := "(J)I" } : MethodName), prog_14_method_47_code, 2, (Option.some Jvm.ClassFile.FieldType.int)),
  (12, ({ cls := "WellQueueModel", name := "done", desc := "(IJJ)I" } : MethodName), prog_14_method_48_code, 5, (Option.some Jvm.ClassFile.FieldType.int)),
  (12, ({ cls := "WellQueueModel", name := "wordOf", desc := "(IIII)I" } : MethodName), prog_14_method_49_code, 5, (Option.some Jvm.ClassFile.FieldType.int)),
  (12, ({ cls := "WellQueueModel", name := "isAllowed", desc := "(III)Z" } : MethodName), prog_14_method_50_code, 7, (Option.some Jvm.ClassFile.FieldType.boolean)),
  (12, ({ cls := "WellQueueModel", name := "laysAsked", desc := "()V" } : MethodName), prog_14_method_51_code, 3, (Option.none : Option Jvm.ClassFile.FieldType)),
  (12, ({ cls := "WellQueueModel", name := "ahead", desc := "(IIIZ)I" } : MethodName), prog_14_method_52_code, 7, (Option.some Jvm.ClassFile.FieldType.int)),
  (12, ({ cls := "WellQueueModel", name := "middleOf", desc := "(III)I" } : MethodName), prog_14_method_53_code, 3, (Option.some Jvm.ClassFile.FieldType.int)),
  (12, ({ cls := "WellQueueModel", name := "laysFall", desc := "(IIZ)V" } : MethodName), prog_14_method_54_code, 9, (Option.none : Option Jvm.ClassFile.FieldType)),
  (12, ({ cls := "WellQueueModel", name := "laysToday", desc := "()V" } : MethodName), prog_14_method_55_code, 1, (Option.none : Option Jvm.ClassFile.FieldType)),
  (12, ({ cls := "WellQueueModel", name := "fellTo", desc := "(I)I" } : MethodName), prog_14_method_56_code, 2, (Option.some Jvm.ClassFile.FieldType.int)),
  (12, ({ cls := "WellQueueModel", name := "fellToAll", desc := "()I" } : MethodName), prog_14_method_57_code, 3, (Option.some Jvm.ClassFile.FieldType.int))]
def ir_mt15 : List (Nat × MethodName × ByteArray × Nat × Option FieldType) := [(12, ({ cls := "WellQueueModel", name := "sumToday", desc := "()I" } : MethodName), prog_14_method_58_code, 1, (Option.some Jvm.ClassFile.FieldType.int)),
  (12, ({ cls := "WellQueueModel", name := "todayTo", desc := "(I)I" } : MethodName), prog_14_method_59_code, 2, (Option.some Jvm.ClassFile.FieldType.int)),
  (12, ({ cls := "WellQueueModel", name := "likingOf", desc := "(I)I" } : MethodName), prog_14_method_60_code, 4, (Option.some Jvm.ClassFile.FieldType.int)),
  (12, ({ cls := "WellQueueModel", name := "person", desc := "(II)I" } : MethodName), prog_14_method_61_code, 4, (Option.some Jvm.ClassFile.FieldType.int)),
  (12, ({ cls := "WellQueueModel", name := "worth", desc := "(II)I" } : MethodName), prog_14_method_62_code, 3, (Option.some Jvm.ClassFile.FieldType.int)),
  (12, ({ cls := "WellQueueModel", name := "likes", desc := "(II)I" } : MethodName), prog_14_method_63_code, 3, (Option.some Jvm.ClassFile.FieldType.int)),
  (12, ({ cls := "WellQueueModel", name := "at", desc := "(I)I" } : MethodName), prog_14_method_64_code, 2, (Option.some Jvm.ClassFile.FieldType.int)),
  (12, ({ cls := "WellQueueModel", name := "bodyFault", desc := "(I)I" } : MethodName), prog_14_method_65_code, 2, (Option.some Jvm.ClassFile.FieldType.int)),
  (12, ({ cls := "WellQueueModel", name := "allowed", desc := "(II)Z" } : MethodName), prog_14_method_66_code, 3, (Option.some Jvm.ClassFile.FieldType.boolean)),
  (12, ({ cls := "WellQueueModel", name := "today", desc := "()I" } : MethodName), prog_14_method_67_code, 1, (Option.some Jvm.ClassFile.FieldType.int)),
  (12, ({ cls := "WellQueueModel", name := "liking", desc := "(I)I" } : MethodName), prog_14_method_68_code, 2, (Option.some Jvm.ClassFile.FieldType.int)),
  (12, ({ cls := "WellQueueModel", name := "keeps", desc := "()V" } : MethodName), prog_14_method_69_code, 2, (Option.none : Option Jvm.ClassFile.FieldType)),
  (12, ({ cls := "WellQueueModel", name := "aside", desc := "(I)V" } : MethodName), prog_14_method_70_code, 3, (Option.none : Option Jvm.ClassFile.FieldType)),
  (12, ({ cls := "WellQueueModel", name := "back", desc := "(I)V" } : MethodName), prog_14_method_71_code, 3, (Option.none : Option Jvm.ClassFile.FieldType)),
  (12, ({ cls := "WellQueueModel", name := "goesOut", desc := "(I)V" } : MethodName), prog_14_method_72_code, 3, (Option.none : Option Jvm.ClassFile.FieldType)),
  (12, ({ cls := "WellQueueModel", name := "comesIn", desc := "(II)V" } : MethodName), prog_14_method_73_code, 4, (Option.none : Option Jvm.ClassFile.FieldType))]
def ir_mt16 : List (Nat × MethodName × ByteArray × Nat × Option FieldType) := [(12, ({ cls := "WellQueueModel", name := "moves", desc := "(II)V" } : MethodName), prog_14_method_74_code, 3, (Option.none : Option Jvm.ClassFile.FieldType)),
  (12, ({ cls := "WellQueueModel", name := "day", desc := "()I" } : MethodName), prog_14_method_75_code, 3, (Option.some Jvm.ClassFile.FieldType.int)),
  (12, ({ cls := "WellQueueModel", name := "ask", desc := "(II)I" } : MethodName), prog_14_method_76_code, 3, (Option.some Jvm.ClassFile.FieldType.int)),
  (12, ({ cls := "WellQueueModel", name := "days", desc := "(I)I" } : MethodName), prog_14_method_77_code, 4, (Option.some Jvm.ClassFile.FieldType.int)),
  (12, ({ cls := "WellQueueModel", name := "leave", desc := "(I)I" } : MethodName), prog_14_method_78_code, 2, (Option.some Jvm.ClassFile.FieldType.int)),
  (12, ({ cls := "WellQueueModel", name := "join", desc := "(I)I" } : MethodName), prog_14_method_79_code, 2, (Option.some Jvm.ClassFile.FieldType.int)),
  (12, ({ cls := "WellQueueModel", name := "standFault", desc := "(II)I" } : MethodName), prog_14_method_80_code, 4, (Option.some Jvm.ClassFile.FieldType.int)),
  (12, ({ cls := "WellQueueModel", name := "move", desc := "(II)I" } : MethodName), prog_14_method_81_code, 3, (Option.some Jvm.ClassFile.FieldType.int)),
  (12, ({ cls := "WellQueueModel", name := "tradeAt", desc := "(I)I" } : MethodName), prog_14_method_82_code, 6, (Option.some Jvm.ClassFile.FieldType.int)),
  (12, ({ cls := "WellQueueModel", name := "tradesAt", desc := "(I)I" } : MethodName), prog_14_method_83_code, 4, (Option.some Jvm.ClassFile.FieldType.int)),
  (12, ({ cls := "WellQueueModel", name := "trade", desc := "(I)I" } : MethodName), prog_14_method_84_code, 2, (Option.some Jvm.ClassFile.FieldType.int)),
  (12, ({ cls := "WellQueueModel", name := "trades", desc := "()I" } : MethodName), prog_14_method_85_code, 4, (Option.some Jvm.ClassFile.FieldType.int)),
  (12, ({ cls := "WellQueueModel", name := "trayFault", desc := "(I)I" } : MethodName), prog_14_method_86_code, 2, (Option.some Jvm.ClassFile.FieldType.int)),
  (12, ({ cls := "WellQueueModel", name := "bid", desc := "(II)J" } : MethodName), prog_14_method_87_code, 3, (Option.some Jvm.ClassFile.FieldType.long)),
  (12, ({ cls := "WellQueueModel", name := "auction", desc := "(II)I" } : MethodName), prog_14_method_88_code, 7, (Option.some Jvm.ClassFile.FieldType.int)),
  (12, ({ cls := "WellQueueModel", name := "ring", desc := "()I" } : MethodName), prog_14_method_89_code, 1, (Option.some Jvm.ClassFile.FieldType.int))]
def ir_mt17 : List (Nat × MethodName × ByteArray × Nat × Option FieldType) := [(12, ({ cls := "WellQueueModel", name := "undo", desc := "(I)I" } : MethodName), prog_14_method_90_code, 3, (Option.some Jvm.ClassFile.FieldType.int)),
  (12, ({ cls := "WellQueueModel", name := "whyTold", desc := "(J)I" } : MethodName), prog_14_method_91_code, 3, (Option.some Jvm.ClassFile.FieldType.int)),
  (12, ({ cls := "WellQueueModel", name := "does", desc := "(I)I" } : MethodName), prog_14_method_92_code, 2, (Option.some Jvm.ClassFile.FieldType.int)),
  (12, ({ cls := "WellQueueModel", name := "judge", desc := "(II)I" } : MethodName), prog_14_method_93_code, 7, (Option.some Jvm.ClassFile.FieldType.int)),
  (12, ({ cls := "WellQueueModel", name := "perform", desc := "(I)I" } : MethodName), prog_14_method_94_code, 3, (Option.some Jvm.ClassFile.FieldType.int)),
  (12, ({ cls := "WellQueueModel", name := "draw", desc := "(I)I" } : MethodName), prog_14_method_95_code, 2, (Option.some Jvm.ClassFile.FieldType.int)),
  (12, ({ cls := "WellQueueModel", name := "season", desc := "(II)I" } : MethodName), prog_14_method_96_code, 7, (Option.some Jvm.ClassFile.FieldType.int)),
  (12, ({ cls := "WellQueueModel", name := "areApart", desc := "(II)Z" } : MethodName), prog_14_method_97_code, 6, (Option.some Jvm.ClassFile.FieldType.boolean)),
  (12, ({ cls := "WellQueueModel", name := "goesOrders", desc := "(II)V" } : MethodName), prog_14_method_98_code, 5, (Option.none : Option Jvm.ClassFile.FieldType)),
  (12, ({ cls := "WellQueueModel", name := "inQueue", desc := "()I" } : MethodName), prog_14_method_99_code, 3, (Option.some Jvm.ClassFile.FieldType.int)),
  (12, ({ cls := "WellQueueModel", name := "laysOrders", desc := "(I)V" } : MethodName), prog_14_method_100_code, 2, (Option.none : Option Jvm.ClassFile.FieldType)),
  (12, ({ cls := "WellQueueModel", name := "best", desc := "(I)I" } : MethodName), prog_14_method_101_code, 2, (Option.some Jvm.ClassFile.FieldType.int)),
  (12, ({ cls := "WellQueueModel", name := "orders", desc := "(I)I" } : MethodName), prog_14_method_102_code, 2, (Option.some Jvm.ClassFile.FieldType.int)),
  (12, ({ cls := "WellQueueModel", name := "standBest", desc := "()I" } : MethodName), prog_14_method_103_code, 2, (Option.some Jvm.ClassFile.FieldType.int)),
  (12, ({ cls := "WellQueueModel", name := "fallsToOthers", desc := "(I)I" } : MethodName), prog_14_method_104_code, 4, (Option.some Jvm.ClassFile.FieldType.int)),
  (12, ({ cls := "WellQueueModel", name := "kindestOf", desc := "(IZ)I" } : MethodName), prog_14_method_105_code, 8, (Option.some Jvm.ClassFile.FieldType.int))]
def ir_mt18 : List (Nat × MethodName × ByteArray × Nat × Option FieldType) := [(12, ({ cls := "WellQueueModel", name := "kindest", desc := "(IZ)I" } : MethodName), prog_14_method_106_code, 3, (Option.some Jvm.ClassFile.FieldType.int)),
  (12, ({ cls := "WellQueueModel", name := "betterFor", desc := "(I)I" } : MethodName), prog_14_method_107_code, 7, (Option.some Jvm.ClassFile.FieldType.int)),
  (12, ({ cls := "WellQueueModel", name := "settles", desc := "(I)I" } : MethodName), prog_14_method_108_code, 6, (Option.some Jvm.ClassFile.FieldType.int)),
  (12, ({ cls := "WellQueueModel", name := "goesPlot", desc := "(II)V" } : MethodName), prog_14_method_109_code, 7, (Option.none : Option Jvm.ClassFile.FieldType)),
  (12, ({ cls := "WellQueueModel", name := "plot", desc := "(III)I" } : MethodName), prog_14_method_110_code, 5, (Option.some Jvm.ClassFile.FieldType.int)),
  (12, ({ cls := "WellQueueModel", name := "promise", desc := "(II)I" } : MethodName), prog_14_method_111_code, 8, (Option.some Jvm.ClassFile.FieldType.int)),
  (12, ({ cls := "WellQueueModel", name := "fallsIf", desc := "(III)I" } : MethodName), prog_14_method_112_code, 5, (Option.some Jvm.ClassFile.FieldType.int)),
  (12, ({ cls := "WellQueueModel", name := "guardOf", desc := "(I)I" } : MethodName), prog_14_method_113_code, 6, (Option.some Jvm.ClassFile.FieldType.int)),
  (12, ({ cls := "WellQueueModel", name := "guard", desc := "(II)I" } : MethodName), prog_14_method_114_code, 4, (Option.some Jvm.ClassFile.FieldType.int)),
  (12, ({ cls := "WellQueueModel", name := "priceOf", desc := "(II)I" } : MethodName), prog_14_method_115_code, 3, (Option.some Jvm.ClassFile.FieldType.int)),
  (12, ({ cls := "WellQueueModel", name := "price", desc := "(II)I" } : MethodName), prog_14_method_116_code, 3, (Option.some Jvm.ClassFile.FieldType.int)),
  (12, ({ cls := "WellQueueModel", name := "bestPlace", desc := "(I)I" } : MethodName), prog_14_method_117_code, 4, (Option.some Jvm.ClassFile.FieldType.int)),
  (12, ({ cls := "WellQueueModel", name := "laysNow", desc := "()V" } : MethodName), prog_14_method_118_code, 2, (Option.none : Option Jvm.ClassFile.FieldType)),
  (12, ({ cls := "WellQueueModel", name := "goesRows", desc := "(II)V" } : MethodName), prog_14_method_119_code, 5, (Option.none : Option Jvm.ClassFile.FieldType)),
  (12, ({ cls := "WellQueueModel", name := "alone", desc := "(I)I" } : MethodName), prog_14_method_120_code, 2, (Option.some Jvm.ClassFile.FieldType.int)),
  (12, ({ cls := "WellQueueModel", name := "worthOf", desc := "(I)I" } : MethodName), prog_14_method_121_code, 2, (Option.some Jvm.ClassFile.FieldType.int))]
def ir_mt19 : List (Nat × MethodName × ByteArray × Nat × Option FieldType) := [(12, ({ cls := "WellQueueModel", name := "rows", desc := "(I)I" } : MethodName), prog_14_method_122_code, 1, (Option.some Jvm.ClassFile.FieldType.int)),
  (12, ({ cls := "WellQueueModel", name := "share", desc := "(I)I" } : MethodName), prog_14_method_123_code, 5, (Option.some Jvm.ClassFile.FieldType.int)),
  (12, ({ cls := "WellQueueModel", name := "laysRuins", desc := "()V" } : MethodName), prog_14_method_124_code, 5, (Option.none : Option Jvm.ClassFile.FieldType)),
  (12, ({ cls := "WellQueueModel", name := "ruined", desc := "(I)I" } : MethodName), prog_14_method_125_code, 2, (Option.some Jvm.ClassFile.FieldType.int)),
  (12, ({ cls := "WellQueueModel", name := "firstRuined", desc := "()I" } : MethodName), prog_14_method_126_code, 3, (Option.some Jvm.ClassFile.FieldType.int)),
  (12, ({ cls := "WellQueueModel", name := "byWay", desc := "(I)I" } : MethodName), prog_14_method_127_code, 2, (Option.some Jvm.ClassFile.FieldType.int)),
  (12, ({ cls := "WellQueueModel", name := "by", desc := "(I)I" } : MethodName), prog_14_method_128_code, 2, (Option.some Jvm.ClassFile.FieldType.int)),
  (12, ({ cls := "WellQueueModel", name := "bestWay", desc := "()I" } : MethodName), prog_14_method_129_code, 3, (Option.some Jvm.ClassFile.FieldType.int)),
  (12, ({ cls := "WellQueueModel", name := "secretFault", desc := "(I)I" } : MethodName), prog_14_method_130_code, 4, (Option.some Jvm.ClassFile.FieldType.int)),
  (12, ({ cls := "WellQueueModel", name := "goesSecrets", desc := "(II)V" } : MethodName), prog_14_method_131_code, 6, (Option.none : Option Jvm.ClassFile.FieldType)),
  (12, ({ cls := "WellQueueModel", name := "laysSecrets", desc := "(I)V" } : MethodName), prog_14_method_132_code, 3, (Option.none : Option Jvm.ClassFile.FieldType)),
  (12, ({ cls := "WellQueueModel", name := "secrets", desc := "(I)J" } : MethodName), prog_14_method_133_code, 2, (Option.some Jvm.ClassFile.FieldType.long)),
  (12, ({ cls := "WellQueueModel", name := "sure", desc := "(II)I" } : MethodName), prog_14_method_134_code, 4, (Option.some Jvm.ClassFile.FieldType.int)),
  (12, ({ cls := "WellQueueModel", name := "isTray", desc := "(I)Z" } : MethodName), prog_14_method_135_code, 1, (Option.some Jvm.ClassFile.FieldType.boolean)),
  (12, ({ cls := "WellQueueModel", name := "tray", desc := "(III)V" } : MethodName), prog_14_method_136_code, 5, (Option.none : Option Jvm.ClassFile.FieldType)),
  (12, ({ cls := "WellQueueModel", name := "cut", desc := "(IIJ)J" } : MethodName), prog_14_method_137_code, 6, (Option.some Jvm.ClassFile.FieldType.long))]
def ir_mt20 : List (Nat × MethodName × ByteArray × Nat × Option FieldType) := [(12, ({ cls := "WellQueueModel", name := "write", desc := "(IIJ)J" } : MethodName), prog_14_method_138_code, 5, (Option.some Jvm.ClassFile.FieldType.long)),
  (12, ({ cls := "WellQueueModel", name := "pour", desc := "(I)I" } : MethodName), prog_14_method_139_code, 4, (Option.some Jvm.ClassFile.FieldType.int)),
  (12, ({ cls := "WellQueueModel", name := "image", desc := "(I)V" } : MethodName), prog_14_method_140_code, 3, (Option.none : Option Jvm.ClassFile.FieldType)),
  (12, ({ cls := "WellQueueModel", name := "restore", desc := "(I)V" } : MethodName), prog_14_method_141_code, 3, (Option.none : Option Jvm.ClassFile.FieldType)),
  (12, ({ cls := "WellQueueModel", name := "sumOf", desc := "(I)I" } : MethodName), prog_14_method_142_code, 4, (Option.some Jvm.ClassFile.FieldType.int)),
  (12, ({ cls := "WellQueueModel", name := "count", desc := "(I)I" } : MethodName), prog_14_method_143_code, 2, (Option.some Jvm.ClassFile.FieldType.int)),
  (13, ({ cls := "WellQueueLaw", name := "well", desc := "(LWellQueue;I[J)I" } : MethodName), method_3_code, 4, (Option.some Jvm.ClassFile.FieldType.int)),
  (13, ({ cls := "WellQueueLaw", name := "person", desc := "(LWellQueue;II[J)I" } : MethodName), method_4_code, 5, (Option.some Jvm.ClassFile.FieldType.int)),
  (13, ({ cls := "WellQueueLaw", name := "worth", desc := "(LWellQueue;II[J)I" } : MethodName), method_5_code, 5, (Option.some Jvm.ClassFile.FieldType.int)),
  (13, ({ cls := "WellQueueLaw", name := "likes", desc := "(LWellQueue;II[J)I" } : MethodName), method_6_code, 5, (Option.some Jvm.ClassFile.FieldType.int)),
  (13, ({ cls := "WellQueueLaw", name := "at", desc := "(LWellQueue;I[J)I" } : MethodName), method_7_code, 4, (Option.some Jvm.ClassFile.FieldType.int)),
  (13, ({ cls := "WellQueueLaw", name := "allowed", desc := "(LWellQueue;II[J)I" } : MethodName), method_8_code, 5, (Option.some Jvm.ClassFile.FieldType.int)),
  (13, ({ cls := "WellQueueLaw", name := "liking", desc := "(LWellQueue;I[J)I" } : MethodName), method_9_code, 4, (Option.some Jvm.ClassFile.FieldType.int)),
  (13, ({ cls := "WellQueueLaw", name := "ask", desc := "(LWellQueue;II[J)I" } : MethodName), method_10_code, 5, (Option.some Jvm.ClassFile.FieldType.int)),
  (13, ({ cls := "WellQueueLaw", name := "days", desc := "(LWellQueue;I[J)I" } : MethodName), method_11_code, 4, (Option.some Jvm.ClassFile.FieldType.int)),
  (13, ({ cls := "WellQueueLaw", name := "leave", desc := "(LWellQueue;I[J)I" } : MethodName), method_12_code, 4, (Option.some Jvm.ClassFile.FieldType.int))]
def ir_mt21 : List (Nat × MethodName × ByteArray × Nat × Option FieldType) := [(13, ({ cls := "WellQueueLaw", name := "join", desc := "(LWellQueue;I[J)I" } : MethodName), method_13_code, 4, (Option.some Jvm.ClassFile.FieldType.int)),
  (13, ({ cls := "WellQueueLaw", name := "move", desc := "(LWellQueue;II[J)I" } : MethodName), method_14_code, 5, (Option.some Jvm.ClassFile.FieldType.int)),
  (13, ({ cls := "WellQueueLaw", name := "trade", desc := "(LWellQueue;I[J)I" } : MethodName), method_15_code, 4, (Option.some Jvm.ClassFile.FieldType.int)),
  (13, ({ cls := "WellQueueLaw", name := "auction", desc := "(LWellQueue;II[J)I" } : MethodName), method_16_code, 5, (Option.some Jvm.ClassFile.FieldType.int)),
  (13, ({ cls := "WellQueueLaw", name := "undo", desc := "(LWellQueue;I[J)I" } : MethodName), method_17_code, 4, (Option.some Jvm.ClassFile.FieldType.int)),
  (13, ({ cls := "WellQueueLaw", name := "judge", desc := "(LWellQueue;II[J)I" } : MethodName), method_18_code, 5, (Option.some Jvm.ClassFile.FieldType.int)),
  (13, ({ cls := "WellQueueLaw", name := "perform", desc := "(LWellQueue;I[J)I" } : MethodName), method_19_code, 4, (Option.some Jvm.ClassFile.FieldType.int)),
  (13, ({ cls := "WellQueueLaw", name := "season", desc := "(LWellQueue;II[J)I" } : MethodName), method_20_code, 5, (Option.some Jvm.ClassFile.FieldType.int)),
  (13, ({ cls := "WellQueueLaw", name := "best", desc := "(LWellQueue;I[J)I" } : MethodName), method_21_code, 4, (Option.some Jvm.ClassFile.FieldType.int)),
  (13, ({ cls := "WellQueueLaw", name := "standBest", desc := "(LWellQueue;[J)I" } : MethodName), method_22_code, 3, (Option.some Jvm.ClassFile.FieldType.int)),
  (13, ({ cls := "WellQueueLaw", name := "kindest", desc := "(LWellQueue;IZ[J)I" } : MethodName), method_23_code, 5, (Option.some Jvm.ClassFile.FieldType.int)),
  (13, ({ cls := "WellQueueLaw", name := "settles", desc := "(LWellQueue;I[J)I" } : MethodName), method_24_code, 4, (Option.some Jvm.ClassFile.FieldType.int)),
  (13, ({ cls := "WellQueueLaw", name := "plot", desc := "(LWellQueue;III[J)I" } : MethodName), method_25_code, 6, (Option.some Jvm.ClassFile.FieldType.int)),
  (13, ({ cls := "WellQueueLaw", name := "promise", desc := "(LWellQueue;II[J)I" } : MethodName), method_26_code, 5, (Option.some Jvm.ClassFile.FieldType.int)),
  (13, ({ cls := "WellQueueLaw", name := "guard", desc := "(LWellQueue;II[J)I" } : MethodName), method_27_code, 5, (Option.some Jvm.ClassFile.FieldType.int)),
  (13, ({ cls := "WellQueueLaw", name := "price", desc := "(LWellQueue;II[J)I" } : MethodName), method_28_code, 5, (Option.some Jvm.ClassFile.FieldType.int))]
def ir_mt22 : List (Nat × MethodName × ByteArray × Nat × Option FieldType) := [(13, ({ cls := "WellQueueLaw", name := "bestPlace", desc := "(LWellQueue;I[J)I" } : MethodName), method_29_code, 4, (Option.some Jvm.ClassFile.FieldType.int)),
  (13, ({ cls := "WellQueueLaw", name := "worthOf", desc := "(LWellQueue;I[J)I" } : MethodName), method_30_code, 4, (Option.some Jvm.ClassFile.FieldType.int)),
  (13, ({ cls := "WellQueueLaw", name := "share", desc := "(LWellQueue;I[J)I" } : MethodName), method_31_code, 4, (Option.some Jvm.ClassFile.FieldType.int)),
  (13, ({ cls := "WellQueueLaw", name := "ruined", desc := "(LWellQueue;I[J)I" } : MethodName), method_32_code, 4, (Option.some Jvm.ClassFile.FieldType.int)),
  (13, ({ cls := "WellQueueLaw", name := "by", desc := "(LWellQueue;I[J)I" } : MethodName), method_33_code, 4, (Option.some Jvm.ClassFile.FieldType.int)),
  (13, ({ cls := "WellQueueLaw", name := "secrets", desc := "(LWellQueue;I[J)I" } : MethodName), method_34_code, 4, (Option.some Jvm.ClassFile.FieldType.int)),
  (13, ({ cls := "WellQueueLaw", name := "sure", desc := "(LWellQueue;II[J)I" } : MethodName), method_35_code, 5, (Option.some Jvm.ClassFile.FieldType.int)),
  (13, ({ cls := "WellQueueLaw", name := "tray", desc := "(LWellQueue;III)I" } : MethodName), method_36_code, 5, (Option.some Jvm.ClassFile.FieldType.int)),
  (13, ({ cls := "WellQueueLaw", name := "write", desc := "(LWellQueue;IIJ[J)I" } : MethodName), method_37_code, 7, (Option.some Jvm.ClassFile.FieldType.int)),
  (13, ({ cls := "WellQueueLaw", name := "pour", desc := "(LWellQueue;I[J)I" } : MethodName), method_38_code, 4, (Option.some Jvm.ClassFile.FieldType.int)),
  (13, ({ cls := "WellQueueLaw", name := "image", desc := "(LWellQueue;I)I" } : MethodName), method_39_code, 3, (Option.some Jvm.ClassFile.FieldType.int)),
  (13, ({ cls := "WellQueueLaw", name := "restore", desc := "(LWellQueue;I)I" } : MethodName), method_40_code, 3, (Option.some Jvm.ClassFile.FieldType.int)),
  (13, x, code, 8, ret),
  (17, ({ cls := "java/lang/Integer", name := "bitCount", desc := "(I)I" } : MethodName), prog_23_method_49_code, 1, (Option.some Jvm.ClassFile.FieldType.int)),
  (14, ({ cls := "java/lang/String", name := "length", desc := "()I" } : MethodName), prog_26_method_54_code, 1, (Option.some Jvm.ClassFile.FieldType.int)),
  (14, ({ cls := "java/lang/String", name := "charAt", desc := "(I)C" } : MethodName), prog_26_method_56_code, 2, (Option.some Jvm.ClassFile.FieldType.char))]
def ir_mt23 : List (Nat × MethodName × ByteArray × Nat × Option FieldType) := [(14, ({ cls := "java/lang/String", name := "indexOf", desc := "(I)I" } : MethodName), prog_26_method_79_code, 2, (Option.some Jvm.ClassFile.FieldType.int)),
  (14, ({ cls := "java/lang/String", name := "indexOf", desc := "(II)I" } : MethodName), prog_26_method_80_code, 3, (Option.some Jvm.ClassFile.FieldType.int)),
  (14, ({ cls := "java/lang/String", name := "toCharArray", desc := "()[C" } : MethodName), prog_26_method_129_code, 1, (Option.some (Jvm.ClassFile.FieldType.array Jvm.ClassFile.FieldType.char))),
  (14, ({ cls := "java/lang/String", name := "coder", desc := "()B" } : MethodName), prog_26_method_152_code, 1, (Option.some Jvm.ClassFile.FieldType.byte)),
  (14, ({ cls := "java/lang/String", name := "isLatin1", desc := "()Z" } : MethodName), prog_26_method_154_code, 1, (Option.some Jvm.ClassFile.FieldType.boolean)),
  (14, ({ cls := "java/lang/String", name := "checkIndex", desc := "(II)V" } : MethodName), prog_26_method_155_code, 2, (Option.none : Option Jvm.ClassFile.FieldType)),
  (15, ({ cls := "java/lang/StringLatin1", name := "charAt", desc := "([BI)C" } : MethodName), prog_27_method_2_code, 2, (Option.some Jvm.ClassFile.FieldType.char)),
  (15, ({ cls := "java/lang/StringLatin1", name := "canEncode", desc := "(I)Z" } : MethodName), prog_27_method_4_code, 1, (Option.some Jvm.ClassFile.FieldType.boolean)),
  (15, ({ cls := "java/lang/StringLatin1", name := "toChars", desc := "([B)[C" } : MethodName), prog_27_method_9_code, 2, (Option.some (Jvm.ClassFile.FieldType.array Jvm.ClassFile.FieldType.char))),
  (15, ({ cls := "java/lang/StringLatin1", name := "indexOf", desc := "([BIII)I" } : MethodName), prog_27_method_22_code, 4, (Option.some Jvm.ClassFile.FieldType.int)),
  (15, ({ cls := "java/lang/StringLatin1", name := "indexOfChar", desc := "([BIII)I" } : MethodName), prog_27_method_23_code, 6, (Option.some Jvm.ClassFile.FieldType.int)),
  (15, ({ cls := "java/lang/StringLatin1", name := "inflate", desc := "([BI[CII)V" } : MethodName), prog_27_method_49_code, 6, (Option.none : Option Jvm.ClassFile.FieldType)),
  (18, ({ cls := "java/util/Arrays", name := "fill", desc := "([JJ)V" } : MethodName), prog_33_method_101_code, 5, (Option.none : Option Jvm.ClassFile.FieldType)),
  (18, ({ cls := "java/util/Arrays", name := "fill", desc := "([II)V" } : MethodName), prog_33_method_103_code, 4, (Option.none : Option Jvm.ClassFile.FieldType)),
  (16, ({ cls := "jdk/internal/util/Preconditions", name := "checkIndex", desc := "(IILjava/util/function/BiFunction;)I" } : MethodName), prog_35_method_11_code, 3, (Option.some Jvm.ClassFile.FieldType.int))]
def ir_mt : List (List (Nat × MethodName × ByteArray × Nat × Option FieldType)) := [ir_mt0, ir_mt1, ir_mt2, ir_mt3, ir_mt4, ir_mt5, ir_mt6, ir_mt7, ir_mt8, ir_mt9, ir_mt10, ir_mt11, ir_mt12, ir_mt13, ir_mt14, ir_mt15, ir_mt16, ir_mt17, ir_mt18, ir_mt19, ir_mt20, ir_mt21, ir_mt22, ir_mt23]
def ir_mo (y : Nat) : Nat × MethodName × ByteArray × Nat × Option FieldType := match ir_nth ir_mt (y / 16) with
  | none => (99, ⟨"", "", ""⟩, ⟨#[]⟩, 0, none)
  | some l => match ir_nth l (y % 16) with
    | none => (99, ⟨"", "", ""⟩, ⟨#[]⟩, 0, none)
    | some q => q
def ir_nm (y : Nat) : MethodName := (ir_mo y).2.1
def ir_co (y : Nat) : ByteArray := (ir_mo y).2.2.1
def ir_ow (y : Nat) : String := ir_on (ir_mo y).1
def ir_hhs : List (Nat × List (Nat × Nat × Nat × Nat)) := [(326, [(0, 9, 12, 13)]), (327, [(0, 10, 13, 19), (0, 10, 17, 13)]), (328, [(0, 10, 13, 19)]), (329, [(0, 10, 13, 19), (0, 10, 17, 13)]), (330, [(0, 9, 12, 19)]), (331, [(0, 17, 20, 19), (0, 17, 24, 34)]), (332, [(0, 9, 12, 19), (0, 9, 15, 34)]), (333, [(0, 10, 13, 19), (0, 10, 17, 34)]), (334, [(0, 9, 12, 13)]), (335, [(0, 9, 12, 19), (0, 9, 15, 34)]), (336, [(0, 9, 12, 19), (0, 9, 15, 34)]), (337, [(0, 10, 13, 19), (0, 10, 17, 34), (0, 10, 21, 13)]), (338, [(0, 9, 12, 13)]), (339, [(0, 10, 13, 19), (0, 10, 17, 34), (0, 10, 21, 13)]), (340, [(0, 9, 12, 13)]), (341, [(0, 10, 13, 19), (0, 10, 17, 34), (0, 10, 21, 13)]), (342, [(0, 9, 12, 19), (0, 9, 15, 34)]), (343, [(0, 10, 13, 13), (0, 10, 17, 34)]), (344, [(0, 9, 12, 13)]), (345, [(0, 8, 11, 34)]), (346, [(0, 10, 13, 19), (0, 10, 17, 34)]), (347, [(0, 9, 12, 13)]), (348, [(0, 12, 15, 19), (0, 12, 19, 34), (0, 12, 23, 13)]), (349, [(0, 10, 13, 13)]), (350, [(0, 10, 13, 19), (0, 10, 17, 34), (0, 10, 21, 13)]), (351, [(0, 10, 13, 19), (0, 10, 17, 34), (0, 10, 21, 13)]), (352, [(0, 9, 12, 19), (0, 9, 15, 34)]), (353, [(0, 9, 12, 34), (0, 9, 15, 13)]), (354, [(0, 9, 12, 19), (0, 9, 15, 34)]), (355, [(0, 9, 12, 19), (0, 9, 15, 34)]), (356, [(0, 9, 12, 13)]), (357, [(0, 8, 11, 19), (0, 8, 14, 34), (0, 8, 17, 13)]), (358, [(0, 10, 13, 19), (0, 10, 17, 34), (0, 10, 21, 13)]), (359, [(0, 7, 10, 19), (0, 7, 14, 13)]), (360, [(0, 11, 14, 19), (0, 11, 18, 34), (0, 11, 22, 129)]), (361, [(0, 9, 12, 19), (0, 9, 15, 34)]), (362, [(0, 5, 8, 19)]), (363, [(0, 5, 8, 19), (0, 5, 11, 34)])]
def ir_hh (y : Nat) : List (Nat × Nat × Nat × Nat) := match ir_lk ir_hhs y with
  | some h => h
  | none => []
def ir_cw (y : Nat) : Cond := match ir_hh y with
  | [] => .code (ir_mo y).2.1 (ir_mo y).2.2.1 (ir_mo y).2.2.2.1 (ir_mo y).2.2.2.2
  | h => .codeWith (ir_mo y).2.1 (ir_mo y).2.2.1 (ir_mo y).2.2.2.1 (ir_mo y).2.2.2.2 h
/-- what is asked of a method's own row -/
def ir_cwOK (y : Nat) : Prop := ir_cw y ∈ ir_Tb ∧ plainName (ir_mo y).2.1.cls = true ∧ (ir_mo y).2.1.cls = ir_on (ir_mo y).1 ∧ (ir_mo y).2.2.2.1 = ir_ml y ∧ ir_ml y ≤ 12
theorem ir_cw_0 : ir_cwOK 0 := ⟨(ir_Tm (ir_k2 85 rfl) rfl), by decide +kernel, rfl, rfl, by decide⟩
theorem ir_cw_1 : ir_cwOK 1 := ⟨(ir_Tm (ir_k3 144 rfl) rfl), by decide +kernel, rfl, rfl, by decide⟩
theorem ir_cw_2 : ir_cwOK 2 := ⟨(ir_Tm (ir_k5 115 rfl) rfl), by decide +kernel, rfl, rfl, by decide⟩
theorem ir_cw_3 : ir_cwOK 3 := ⟨(ir_Tm (ir_k3 115 rfl) rfl), by decide +kernel, rfl, rfl, by decide⟩
theorem ir_cw_4 : ir_cwOK 4 := ⟨(ir_Tm (ir_k3 111 rfl) rfl), by decide +kernel, rfl, rfl, by decide⟩
theorem ir_cw_5 : ir_cwOK 5 := ⟨(ir_Tm (ir_k6 128 rfl) rfl), by decide +kernel, rfl, rfl, by decide⟩
theorem ir_cw_6 : ir_cwOK 6 := ⟨(ir_Tm (ir_k6 136 rfl) rfl), by decide +kernel, rfl, rfl, by decide⟩
theorem ir_cw_7 : ir_cwOK 7 := ⟨(ir_Tm (ir_k6 199 rfl) rfl), by decide +kernel, rfl, rfl, by decide⟩
theorem ir_cw_8 : ir_cwOK 8 := ⟨(ir_Tm (ir_k3 141 rfl) rfl), by decide +kernel, rfl, rfl, by decide⟩
theorem ir_cw_9 : ir_cwOK 9 := ⟨(ir_Tm (ir_k3 138 rfl) rfl), by decide +kernel, rfl, rfl, by decide⟩
theorem ir_cw_10 : ir_cwOK 10 := ⟨(ir_Tm (ir_k3 134 rfl) rfl), by decide +kernel, rfl, rfl, by decide⟩
theorem ir_cw_11 : ir_cwOK 11 := ⟨(ir_Tm (ir_k3 236 rfl) rfl), by decide +kernel, rfl, rfl, by decide⟩
theorem ir_cw_12 : ir_cwOK 12 := ⟨(ir_Tm (ir_k3 107 rfl) rfl), by decide +kernel, rfl, rfl, by decide⟩
theorem ir_cw_13 : ir_cwOK 13 := ⟨(ir_Tm (ir_k3 158 rfl) rfl), by decide +kernel, rfl, rfl, by decide⟩
theorem ir_cw_14 : ir_cwOK 14 := ⟨(ir_Tm (ir_k3 154 rfl) rfl), by decide +kernel, rfl, rfl, by decide⟩
theorem ir_cw_15 : ir_cwOK 15 := ⟨(ir_Tm (ir_k5 188 rfl) rfl), by decide +kernel, rfl, rfl, by decide⟩
theorem ir_cw_16 : ir_cwOK 16 := ⟨(ir_Tm (ir_k4 11 rfl) rfl), by decide +kernel, rfl, rfl, by decide⟩
theorem ir_cw_17 : ir_cwOK 17 := ⟨(ir_Tm (ir_k1 54 rfl) rfl), by decide +kernel, rfl, rfl, by decide⟩
theorem ir_cw_18 : ir_cwOK 18 := ⟨(ir_Tm (ir_k4 128 rfl) rfl), by decide +kernel, rfl, rfl, by decide⟩
theorem ir_cw_19 : ir_cwOK 19 := ⟨(ir_Tm (ir_k5 45 rfl) rfl), by decide +kernel, rfl, rfl, by decide⟩
theorem ir_cw_20 : ir_cwOK 20 := ⟨(ir_Tm (ir_k5 70 rfl) rfl), by decide +kernel, rfl, rfl, by decide⟩
theorem ir_cw_21 : ir_cwOK 21 := ⟨(ir_Tm (ir_k3 123 rfl) rfl), by decide +kernel, rfl, rfl, by decide⟩
theorem ir_cw_22 : ir_cwOK 22 := ⟨(ir_Tm (ir_k3 126 rfl) rfl), by decide +kernel, rfl, rfl, by decide⟩
theorem ir_cw_23 : ir_cwOK 23 := ⟨(ir_Tm (ir_k2 110 rfl) rfl), by decide +kernel, rfl, rfl, by decide⟩
theorem ir_cw_24 : ir_cwOK 24 := ⟨(ir_Tm (ir_k3 210 rfl) rfl), by decide +kernel, rfl, rfl, by decide⟩
theorem ir_cw_25 : ir_cwOK 25 := ⟨(ir_Tm (ir_k3 214 rfl) rfl), by decide +kernel, rfl, rfl, by decide⟩
theorem ir_cw_26 : ir_cwOK 26 := ⟨(ir_Tm (ir_k3 224 rfl) rfl), by decide +kernel, rfl, rfl, by decide⟩
theorem ir_cw_27 : ir_cwOK 27 := ⟨(ir_Tm (ir_k3 232 rfl) rfl), by decide +kernel, rfl, rfl, by decide⟩
theorem ir_cw_28 : ir_cwOK 28 := ⟨(ir_Tm (ir_k3 228 rfl) rfl), by decide +kernel, rfl, rfl, by decide⟩
theorem ir_cw_29 : ir_cwOK 29 := ⟨(ir_Tm (ir_k2 155 rfl) rfl), by decide +kernel, rfl, rfl, by decide⟩
theorem ir_cw_30 : ir_cwOK 30 := ⟨(ir_Tm (ir_k6 183 rfl) rfl), by decide +kernel, rfl, rfl, by decide⟩
theorem ir_cw_31 : ir_cwOK 31 := ⟨(ir_Tm (ir_k6 188 rfl) rfl), by decide +kernel, rfl, rfl, by decide⟩
theorem ir_cw_32 : ir_cwOK 32 := ⟨(ir_Tm (ir_k6 192 rfl) rfl), by decide +kernel, rfl, rfl, by decide⟩
theorem ir_cw_33 : ir_cwOK 33 := ⟨(ir_Tm (ir_k1 229 rfl) rfl), by decide +kernel, rfl, rfl, by decide⟩
theorem ir_cw_34 : ir_cwOK 34 := ⟨(ir_Tm (ir_k4 115 rfl) rfl), by decide +kernel, rfl, rfl, by decide⟩
theorem ir_cw_35 : ir_cwOK 35 := ⟨(ir_Tm (ir_k4 137 rfl) rfl), by decide +kernel, rfl, rfl, by decide⟩
theorem ir_cw_36 : ir_cwOK 36 := ⟨(ir_Tm (ir_k4 141 rfl) rfl), by decide +kernel, rfl, rfl, by decide⟩
theorem ir_cw_37 : ir_cwOK 37 := ⟨(ir_Tm (ir_k4 145 rfl) rfl), by decide +kernel, rfl, rfl, by decide⟩
theorem ir_cw_38 : ir_cwOK 38 := ⟨(ir_Tm (ir_k4 220 rfl) rfl), by decide +kernel, rfl, rfl, by decide⟩
theorem ir_cw_39 : ir_cwOK 39 := ⟨(ir_Tm (ir_k4 216 rfl) rfl), by decide +kernel, rfl, rfl, by decide⟩
theorem ir_cw_40 : ir_cwOK 40 := ⟨(ir_Tm (ir_k4 224 rfl) rfl), by decide +kernel, rfl, rfl, by decide⟩
theorem ir_cw_41 : ir_cwOK 41 := ⟨(ir_Tm (ir_k4 212 rfl) rfl), by decide +kernel, rfl, rfl, by decide⟩
theorem ir_cw_42 : ir_cwOK 42 := ⟨(ir_Tm (ir_k4 228 rfl) rfl), by decide +kernel, rfl, rfl, by decide⟩
theorem ir_cw_43 : ir_cwOK 43 := ⟨(ir_Tm (ir_k4 232 rfl) rfl), by decide +kernel, rfl, rfl, by decide⟩
theorem ir_cw_44 : ir_cwOK 44 := ⟨(ir_Tm (ir_k4 236 rfl) rfl), by decide +kernel, rfl, rfl, by decide⟩
theorem ir_cw_45 : ir_cwOK 45 := ⟨(ir_Tm (ir_k5 8 rfl) rfl), by decide +kernel, rfl, rfl, by decide⟩
theorem ir_cw_46 : ir_cwOK 46 := ⟨(ir_Tm (ir_k5 12 rfl) rfl), by decide +kernel, rfl, rfl, by decide⟩
theorem ir_cw_47 : ir_cwOK 47 := ⟨(ir_Tm (ir_k5 16 rfl) rfl), by decide +kernel, rfl, rfl, by decide⟩
theorem ir_cw_48 : ir_cwOK 48 := ⟨(ir_Tm (ir_k5 24 rfl) rfl), by decide +kernel, rfl, rfl, by decide⟩
theorem ir_cw_49 : ir_cwOK 49 := ⟨(ir_Tm (ir_k5 28 rfl) rfl), by decide +kernel, rfl, rfl, by decide⟩
theorem ir_cw_50 : ir_cwOK 50 := ⟨(ir_Tm (ir_k5 33 rfl) rfl), by decide +kernel, rfl, rfl, by decide⟩
theorem ir_cw_51 : ir_cwOK 51 := ⟨(ir_Tm (ir_k5 37 rfl) rfl), by decide +kernel, rfl, rfl, by decide⟩
theorem ir_cw_52 : ir_cwOK 52 := ⟨(ir_Tm (ir_k5 41 rfl) rfl), by decide +kernel, rfl, rfl, by decide⟩
theorem ir_cw_53 : ir_cwOK 53 := ⟨(ir_Tm (ir_k5 49 rfl) rfl), by decide +kernel, rfl, rfl, by decide⟩
theorem ir_cw_54 : ir_cwOK 54 := ⟨(ir_Tm (ir_k5 53 rfl) rfl), by decide +kernel, rfl, rfl, by decide⟩
theorem ir_cw_55 : ir_cwOK 55 := ⟨(ir_Tm (ir_k5 57 rfl) rfl), by decide +kernel, rfl, rfl, by decide⟩
theorem ir_cw_56 : ir_cwOK 56 := ⟨(ir_Tm (ir_k1 42 rfl) rfl), by decide +kernel, rfl, rfl, by decide⟩
theorem ir_cw_57 : ir_cwOK 57 := ⟨(ir_Tm (ir_k5 61 rfl) rfl), by decide +kernel, rfl, rfl, by decide⟩
theorem ir_cw_58 : ir_cwOK 58 := ⟨(ir_Tm (ir_k3 193 rfl) rfl), by decide +kernel, rfl, rfl, by decide⟩
theorem ir_cw_59 : ir_cwOK 59 := ⟨(ir_Tm (ir_k6 48 rfl) rfl), by decide +kernel, rfl, rfl, by decide⟩
theorem ir_cw_60 : ir_cwOK 60 := ⟨(ir_Tm (ir_k7 204 rfl) rfl), by decide +kernel, rfl, rfl, by decide⟩
theorem ir_cw_61 : ir_cwOK 61 := ⟨(ir_Tm (ir_k2 216 rfl) rfl), by decide +kernel, rfl, rfl, by decide⟩
theorem ir_cw_62 : ir_cwOK 62 := ⟨(ir_Tm (ir_k7 86 rfl) rfl), by decide +kernel, rfl, rfl, by decide⟩
theorem ir_cw_63 : ir_cwOK 63 := ⟨(ir_Tm (ir_k7 92 rfl) rfl), by decide +kernel, rfl, rfl, by decide⟩
theorem ir_cw_64 : ir_cwOK 64 := ⟨(ir_Tm (ir_k7 98 rfl) rfl), by decide +kernel, rfl, rfl, by decide⟩
theorem ir_cw_65 : ir_cwOK 65 := ⟨(ir_Tm (ir_k7 135 rfl) rfl), by decide +kernel, rfl, rfl, by decide⟩
theorem ir_cw_66 : ir_cwOK 66 := ⟨(ir_Tm (ir_k7 102 rfl) rfl), by decide +kernel, rfl, rfl, by decide⟩
theorem ir_cw_67 : ir_cwOK 67 := ⟨(ir_Tm (ir_k7 106 rfl) rfl), by decide +kernel, rfl, rfl, by decide⟩
theorem ir_cw_68 : ir_cwOK 68 := ⟨(ir_Tm (ir_k7 112 rfl) rfl), by decide +kernel, rfl, rfl, by decide⟩
theorem ir_cw_69 : ir_cwOK 69 := ⟨(ir_Tm (ir_k7 124 rfl) rfl), by decide +kernel, rfl, rfl, by decide⟩
theorem ir_cw_70 : ir_cwOK 70 := ⟨(ir_Tm (ir_k7 117 rfl) rfl), by decide +kernel, rfl, rfl, by decide⟩
theorem ir_cw_71 : ir_cwOK 71 := ⟨(ir_Tm (ir_k2 194 rfl) rfl), by decide +kernel, rfl, rfl, by decide⟩
theorem ir_cw_72 : ir_cwOK 72 := ⟨(ir_Tm (ir_k7 26 rfl) rfl), by decide +kernel, rfl, rfl, by decide⟩
theorem ir_cw_73 : ir_cwOK 73 := ⟨(ir_Tm (ir_k7 40 rfl) rfl), by decide +kernel, rfl, rfl, by decide⟩
theorem ir_cw_74 : ir_cwOK 74 := ⟨(ir_Tm (ir_k7 33 rfl) rfl), by decide +kernel, rfl, rfl, by decide⟩
theorem ir_cw_75 : ir_cwOK 75 := ⟨(ir_Tm (ir_k7 51 rfl) rfl), by decide +kernel, rfl, rfl, by decide⟩
theorem ir_cw_76 : ir_cwOK 76 := ⟨(ir_Tm (ir_k1 142 rfl) rfl), by decide +kernel, rfl, rfl, by decide⟩
theorem ir_cw_77 : ir_cwOK 77 := ⟨(ir_Tm (ir_k4 132 rfl) rfl), by decide +kernel, rfl, rfl, by decide⟩
theorem ir_cw_78 : ir_cwOK 78 := ⟨(ir_Tm (ir_k3 175 rfl) rfl), by decide +kernel, rfl, rfl, by decide⟩
theorem ir_cw_79 : ir_cwOK 79 := ⟨(ir_Tm (ir_k5 103 rfl) rfl), by decide +kernel, rfl, rfl, by decide⟩
theorem ir_cw_80 : ir_cwOK 80 := ⟨(ir_Tm (ir_k3 220 rfl) rfl), by decide +kernel, rfl, rfl, by decide⟩
theorem ir_cw_81 : ir_cwOK 81 := ⟨(ir_Tm (ir_k5 4 rfl) rfl), by decide +kernel, rfl, rfl, by decide⟩
theorem ir_cw_82 : ir_cwOK 82 := ⟨(ir_Tm (ir_k4 16 rfl) rfl), by decide +kernel, rfl, rfl, by decide⟩
theorem ir_cw_83 : ir_cwOK 83 := ⟨(ir_Tm (ir_k3 182 rfl) rfl), by decide +kernel, rfl, rfl, by decide⟩
theorem ir_cw_84 : ir_cwOK 84 := ⟨(ir_Tm (ir_k3 198 rfl) rfl), by decide +kernel, rfl, rfl, by decide⟩
theorem ir_cw_85 : ir_cwOK 85 := ⟨(ir_Tm (ir_k1 48 rfl) rfl), by decide +kernel, rfl, rfl, by decide⟩
theorem ir_cw_86 : ir_cwOK 86 := ⟨(ir_Tm (ir_k4 121 rfl) rfl), by decide +kernel, rfl, rfl, by decide⟩
theorem ir_cw_87 : ir_cwOK 87 := ⟨(ir_Tm (ir_k5 65 rfl) rfl), by decide +kernel, rfl, rfl, by decide⟩
theorem ir_cw_88 : ir_cwOK 88 := ⟨(ir_Tm (ir_k3 119 rfl) rfl), by decide +kernel, rfl, rfl, by decide⟩
theorem ir_cw_89 : ir_cwOK 89 := ⟨(ir_Tm (ir_k5 0 rfl) rfl), by decide +kernel, rfl, rfl, by decide⟩
theorem ir_cw_90 : ir_cwOK 90 := ⟨(ir_Tm (ir_k5 141 rfl) rfl), by decide +kernel, rfl, rfl, by decide⟩
theorem ir_cw_91 : ir_cwOK 91 := ⟨(ir_Tm (ir_k5 20 rfl) rfl), by decide +kernel, rfl, rfl, by decide⟩
theorem ir_cw_92 : ir_cwOK 92 := ⟨(ir_Tm (ir_k3 10 rfl) rfl), by decide +kernel, rfl, rfl, by decide⟩
theorem ir_cw_93 : ir_cwOK 93 := ⟨(ir_Tm (ir_k7 148 rfl) rfl), by decide +kernel, rfl, rfl, by decide⟩
theorem ir_cw_94 : ir_cwOK 94 := ⟨(ir_Tm (ir_k6 25 rfl) rfl), by decide +kernel, rfl, rfl, by decide⟩
theorem ir_cw_95 : ir_cwOK 95 := ⟨(ir_Tm (ir_k7 177 rfl) rfl), by decide +kernel, rfl, rfl, by decide⟩
theorem ir_cw_96 : ir_cwOK 96 := ⟨(ir_Tm (ir_k7 181 rfl) rfl), by decide +kernel, rfl, rfl, by decide⟩
theorem ir_cw_97 : ir_cwOK 97 := ⟨(ir_Tm (ir_k1 34 rfl) rfl), by decide +kernel, rfl, rfl, by decide⟩
theorem ir_cw_98 : ir_cwOK 98 := ⟨(ir_Tm (ir_k3 91 rfl) rfl), by decide +kernel, rfl, rfl, by decide⟩
theorem ir_cw_99 : ir_cwOK 99 := ⟨(ir_Tm (ir_k4 43 rfl) rfl), by decide +kernel, rfl, rfl, by decide⟩
theorem ir_cw_100 : ir_cwOK 100 := ⟨(ir_Tm (ir_k3 99 rfl) rfl), by decide +kernel, rfl, rfl, by decide⟩
theorem ir_cw_101 : ir_cwOK 101 := ⟨(ir_Tm (ir_k5 79 rfl) rfl), by decide +kernel, rfl, rfl, by decide⟩
theorem ir_cw_102 : ir_cwOK 102 := ⟨(ir_Tm (ir_k5 123 rfl) rfl), by decide +kernel, rfl, rfl, by decide⟩
theorem ir_cw_103 : ir_cwOK 103 := ⟨(ir_Tm (ir_k5 136 rfl) rfl), by decide +kernel, rfl, rfl, by decide⟩
theorem ir_cw_104 : ir_cwOK 104 := ⟨(ir_Tm (ir_k5 148 rfl) rfl), by decide +kernel, rfl, rfl, by decide⟩
theorem ir_cw_105 : ir_cwOK 105 := ⟨(ir_Tm (ir_k5 157 rfl) rfl), by decide +kernel, rfl, rfl, by decide⟩
theorem ir_cw_106 : ir_cwOK 106 := ⟨(ir_Tm (ir_k3 103 rfl) rfl), by decide +kernel, rfl, rfl, by decide⟩
theorem ir_cw_107 : ir_cwOK 107 := ⟨(ir_Tm (ir_k5 184 rfl) rfl), by decide +kernel, rfl, rfl, by decide⟩
theorem ir_cw_108 : ir_cwOK 108 := ⟨(ir_Tm (ir_k5 196 rfl) rfl), by decide +kernel, rfl, rfl, by decide⟩
theorem ir_cw_109 : ir_cwOK 109 := ⟨(ir_Tm (ir_k5 203 rfl) rfl), by decide +kernel, rfl, rfl, by decide⟩
theorem ir_cw_110 : ir_cwOK 110 := ⟨(ir_Tm (ir_k5 211 rfl) rfl), by decide +kernel, rfl, rfl, by decide⟩
theorem ir_cw_111 : ir_cwOK 111 := ⟨(ir_Tm (ir_k5 219 rfl) rfl), by decide +kernel, rfl, rfl, by decide⟩
theorem ir_cw_112 : ir_cwOK 112 := ⟨(ir_Tm (ir_k5 228 rfl) rfl), by decide +kernel, rfl, rfl, by decide⟩
theorem ir_cw_113 : ir_cwOK 113 := ⟨(ir_Tm (ir_k6 0 rfl) rfl), by decide +kernel, rfl, rfl, by decide⟩
theorem ir_cw_114 : ir_cwOK 114 := ⟨(ir_Tm (ir_k3 162 rfl) rfl), by decide +kernel, rfl, rfl, by decide⟩
theorem ir_cw_115 : ir_cwOK 115 := ⟨(ir_Tm (ir_k6 8 rfl) rfl), by decide +kernel, rfl, rfl, by decide⟩
theorem ir_cw_116 : ir_cwOK 116 := ⟨(ir_Tm (ir_k3 202 rfl) rfl), by decide +kernel, rfl, rfl, by decide⟩
theorem ir_cw_117 : ir_cwOK 117 := ⟨(ir_Tm (ir_k6 43 rfl) rfl), by decide +kernel, rfl, rfl, by decide⟩
theorem ir_cw_118 : ir_cwOK 118 := ⟨(ir_Tm (ir_k6 55 rfl) rfl), by decide +kernel, rfl, rfl, by decide⟩
theorem ir_cw_119 : ir_cwOK 119 := ⟨(ir_Tm (ir_k6 75 rfl) rfl), by decide +kernel, rfl, rfl, by decide⟩
theorem ir_cw_120 : ir_cwOK 120 := ⟨(ir_Tm (ir_k6 82 rfl) rfl), by decide +kernel, rfl, rfl, by decide⟩
theorem ir_cw_121 : ir_cwOK 121 := ⟨(ir_Tm (ir_k6 100 rfl) rfl), by decide +kernel, rfl, rfl, by decide⟩
theorem ir_cw_122 : ir_cwOK 122 := ⟨(ir_Tm (ir_k3 206 rfl) rfl), by decide +kernel, rfl, rfl, by decide⟩
theorem ir_cw_123 : ir_cwOK 123 := ⟨(ir_Tm (ir_k6 112 rfl) rfl), by decide +kernel, rfl, rfl, by decide⟩
theorem ir_cw_124 : ir_cwOK 124 := ⟨(ir_Tm (ir_k6 120 rfl) rfl), by decide +kernel, rfl, rfl, by decide⟩
theorem ir_cw_125 : ir_cwOK 125 := ⟨(ir_Tm (ir_k6 143 rfl) rfl), by decide +kernel, rfl, rfl, by decide⟩
theorem ir_cw_126 : ir_cwOK 126 := ⟨(ir_Tm (ir_k6 167 rfl) rfl), by decide +kernel, rfl, rfl, by decide⟩
theorem ir_cw_127 : ir_cwOK 127 := ⟨(ir_Tm (ir_k6 207 rfl) rfl), by decide +kernel, rfl, rfl, by decide⟩
theorem ir_cw_128 : ir_cwOK 128 := ⟨(ir_Tm (ir_k6 231 rfl) rfl), by decide +kernel, rfl, rfl, by decide⟩
theorem ir_cw_129 : ir_cwOK 129 := ⟨(ir_Tm (ir_k7 3 rfl) rfl), by decide +kernel, rfl, rfl, by decide⟩
theorem ir_cw_130 : ir_cwOK 130 := ⟨(ir_Tm (ir_k7 14 rfl) rfl), by decide +kernel, rfl, rfl, by decide⟩
theorem ir_cw_131 : ir_cwOK 131 := ⟨(ir_Tm (ir_k7 21 rfl) rfl), by decide +kernel, rfl, rfl, by decide⟩
theorem ir_cw_132 : ir_cwOK 132 := ⟨(ir_Tm (ir_k7 47 rfl) rfl), by decide +kernel, rfl, rfl, by decide⟩
theorem ir_cw_133 : ir_cwOK 133 := ⟨(ir_Tm (ir_k7 61 rfl) rfl), by decide +kernel, rfl, rfl, by decide⟩
theorem ir_cw_134 : ir_cwOK 134 := ⟨(ir_Tm (ir_k4 2 rfl) rfl), by decide +kernel, rfl, rfl, by decide⟩
theorem ir_cw_135 : ir_cwOK 135 := ⟨(ir_Tm (ir_k7 68 rfl) rfl), by decide +kernel, rfl, rfl, by decide⟩
theorem ir_cw_136 : ir_cwOK 136 := ⟨(ir_Tm (ir_k4 21 rfl) rfl), by decide +kernel, rfl, rfl, by decide⟩
theorem ir_cw_137 : ir_cwOK 137 := ⟨(ir_Tm (ir_k7 76 rfl) rfl), by decide +kernel, rfl, rfl, by decide⟩
theorem ir_cw_138 : ir_cwOK 138 := ⟨(ir_Tm (ir_k7 131 rfl) rfl), by decide +kernel, rfl, rfl, by decide⟩
theorem ir_cw_139 : ir_cwOK 139 := ⟨(ir_Tm (ir_k7 143 rfl) rfl), by decide +kernel, rfl, rfl, by decide⟩
theorem ir_cw_140 : ir_cwOK 140 := ⟨(ir_Tm (ir_k7 157 rfl) rfl), by decide +kernel, rfl, rfl, by decide⟩
theorem ir_cw_141 : ir_cwOK 141 := ⟨(ir_Tm (ir_k7 188 rfl) rfl), by decide +kernel, rfl, rfl, by decide⟩
theorem ir_cw_142 : ir_cwOK 142 := ⟨(ir_Tm (ir_k7 196 rfl) rfl), by decide +kernel, rfl, rfl, by decide⟩
theorem ir_cw_143 : ir_cwOK 143 := ⟨(ir_Tm (ir_k7 211 rfl) rfl), by decide +kernel, rfl, rfl, by decide⟩
theorem ir_cw_144 : ir_cwOK 144 := ⟨(ir_Tm (ir_k4 31 rfl) rfl), by decide +kernel, rfl, rfl, by decide⟩
theorem ir_cw_145 : ir_cwOK 145 := ⟨(ir_Tm (ir_k5 83 rfl) rfl), by decide +kernel, rfl, rfl, by decide⟩
theorem ir_cw_146 : ir_cwOK 146 := ⟨(ir_Tm (ir_k5 127 rfl) rfl), by decide +kernel, rfl, rfl, by decide⟩
theorem ir_cw_147 : ir_cwOK 147 := ⟨(ir_Tm (ir_k5 161 rfl) rfl), by decide +kernel, rfl, rfl, by decide⟩
theorem ir_cw_148 : ir_cwOK 148 := ⟨(ir_Tm (ir_k5 111 rfl) rfl), by decide +kernel, rfl, rfl, by decide⟩
theorem ir_cw_149 : ir_cwOK 149 := ⟨(ir_Tm (ir_k5 232 rfl) rfl), by decide +kernel, rfl, rfl, by decide⟩
theorem ir_cw_150 : ir_cwOK 150 := ⟨(ir_Tm (ir_k6 177 rfl) rfl), by decide +kernel, rfl, rfl, by decide⟩
theorem ir_cw_151 : ir_cwOK 151 := ⟨(ir_Tm (ir_k6 15 rfl) rfl), by decide +kernel, rfl, rfl, by decide⟩
theorem ir_cw_152 : ir_cwOK 152 := ⟨(ir_Tm (ir_k6 12 rfl) rfl), by decide +kernel, rfl, rfl, by decide⟩
theorem ir_cw_153 : ir_cwOK 153 := ⟨(ir_Tm (ir_k7 80 rfl) rfl), by decide +kernel, rfl, rfl, by decide⟩
theorem ir_cw_154 : ir_cwOK 154 := ⟨(ir_Tm (ir_k7 199 rfl) rfl), by decide +kernel, rfl, rfl, by decide⟩
theorem ir_cw_155 : ir_cwOK 155 := ⟨(ir_Tm (ir_k3 95 rfl) rfl), by decide +kernel, rfl, rfl, by decide⟩
theorem ir_cw_156 : ir_cwOK 156 := ⟨(ir_Tm (ir_k5 107 rfl) rfl), by decide +kernel, rfl, rfl, by decide⟩
theorem ir_cw_157 : ir_cwOK 157 := ⟨(ir_Tm (ir_k4 35 rfl) rfl), by decide +kernel, rfl, rfl, by decide⟩
theorem ir_cw_158 : ir_cwOK 158 := ⟨(ir_Tm (ir_k4 25 rfl) rfl), by decide +kernel, rfl, rfl, by decide⟩
theorem ir_cw_159 : ir_cwOK 159 := ⟨(ir_Tm (ir_k3 189 rfl) rfl), by decide +kernel, rfl, rfl, by decide⟩
theorem ir_cw_160 : ir_cwOK 160 := ⟨(ir_Tm (ir_k3 166 rfl) rfl), by decide +kernel, rfl, rfl, by decide⟩
theorem ir_cw_161 : ir_cwOK 161 := ⟨(ir_Tm (ir_k3 170 rfl) rfl), by decide +kernel, rfl, rfl, by decide⟩
theorem ir_cw_162 : ir_cwOK 162 := ⟨(ir_Tm (ir_k6 21 rfl) rfl), by decide +kernel, rfl, rfl, by decide⟩
theorem ir_cw_163 : ir_cwOK 163 := ⟨(ir_Tm (ir_k6 29 rfl) rfl), by decide +kernel, rfl, rfl, by decide⟩
theorem ir_cw_164 : ir_cwOK 164 := ⟨(ir_Tm (ir_k6 33 rfl) rfl), by decide +kernel, rfl, rfl, by decide⟩
theorem ir_cw_165 : ir_cwOK 165 := ⟨(ir_Tm (ir_k6 60 rfl) rfl), by decide +kernel, rfl, rfl, by decide⟩
theorem ir_cw_166 : ir_cwOK 166 := ⟨(ir_Tm (ir_k6 68 rfl) rfl), by decide +kernel, rfl, rfl, by decide⟩
theorem ir_cw_167 : ir_cwOK 167 := ⟨(ir_Tm (ir_k6 92 rfl) rfl), by decide +kernel, rfl, rfl, by decide⟩
theorem ir_cw_168 : ir_cwOK 168 := ⟨(ir_Tm (ir_k6 88 rfl) rfl), by decide +kernel, rfl, rfl, by decide⟩
theorem ir_cw_169 : ir_cwOK 169 := ⟨(ir_Tm (ir_k6 105 rfl) rfl), by decide +kernel, rfl, rfl, by decide⟩
theorem ir_cw_170 : ir_cwOK 170 := ⟨(ir_Tm (ir_k6 124 rfl) rfl), by decide +kernel, rfl, rfl, by decide⟩
theorem ir_cw_171 : ir_cwOK 171 := ⟨(ir_Tm (ir_k6 132 rfl) rfl), by decide +kernel, rfl, rfl, by decide⟩
theorem ir_cw_172 : ir_cwOK 172 := ⟨(ir_Tm (ir_k6 148 rfl) rfl), by decide +kernel, rfl, rfl, by decide⟩
theorem ir_cw_173 : ir_cwOK 173 := ⟨(ir_Tm (ir_k6 152 rfl) rfl), by decide +kernel, rfl, rfl, by decide⟩
theorem ir_cw_174 : ir_cwOK 174 := ⟨(ir_Tm (ir_k6 156 rfl) rfl), by decide +kernel, rfl, rfl, by decide⟩
theorem ir_cw_175 : ir_cwOK 175 := ⟨(ir_Tm (ir_k6 160 rfl) rfl), by decide +kernel, rfl, rfl, by decide⟩
theorem ir_cw_176 : ir_cwOK 176 := ⟨(ir_Tm (ir_k6 212 rfl) rfl), by decide +kernel, rfl, rfl, by decide⟩
theorem ir_cw_177 : ir_cwOK 177 := ⟨(ir_Tm (ir_k6 216 rfl) rfl), by decide +kernel, rfl, rfl, by decide⟩
theorem ir_cw_178 : ir_cwOK 178 := ⟨(ir_Tm (ir_k6 220 rfl) rfl), by decide +kernel, rfl, rfl, by decide⟩
theorem ir_cw_179 : ir_cwOK 179 := ⟨(ir_Tm (ir_k6 224 rfl) rfl), by decide +kernel, rfl, rfl, by decide⟩
theorem ir_cw_180 : ir_cwOK 180 := ⟨(ir_Tm (ir_k6 236 rfl) rfl), by decide +kernel, rfl, rfl, by decide⟩
theorem ir_cw_181 : ir_cwOK 181 := ⟨(ir_Tm (ir_k7 7 rfl) rfl), by decide +kernel, rfl, rfl, by decide⟩
theorem ir_cw_182 : ir_cwOK 182 := ⟨(ir_Tm (ir_k4 7 rfl) rfl), by decide +kernel, rfl, rfl, by decide⟩
theorem ir_cw_183 : ir_cwOK 183 := ⟨(ir_Tm (ir_k7 217 rfl) rfl), by decide +kernel, rfl, rfl, by decide⟩
theorem ir_cw_184 : ir_cwOK 184 := ⟨(ir_Tm (ir_k8 133 rfl) rfl), by decide +kernel, rfl, rfl, by decide⟩
theorem ir_cw_185 : ir_cwOK 185 := ⟨(ir_Tm (ir_k8 148 rfl) rfl), by decide +kernel, rfl, rfl, by decide⟩
theorem ir_cw_186 : ir_cwOK 186 := ⟨(ir_Tm (ir_k8 144 rfl) rfl), by decide +kernel, rfl, rfl, by decide⟩
theorem ir_cw_187 : ir_cwOK 187 := ⟨(ir_Tm (ir_k10 99 rfl) rfl), by decide +kernel, rfl, rfl, by decide⟩
theorem ir_cw_188 : ir_cwOK 188 := ⟨(ir_Tm (ir_k10 139 rfl) rfl), by decide +kernel, rfl, rfl, by decide⟩
theorem ir_cw_189 : ir_cwOK 189 := ⟨(ir_Tm (ir_k8 137 rfl) rfl), by decide +kernel, rfl, rfl, by decide⟩
theorem ir_cw_190 : ir_cwOK 190 := ⟨(ir_Tm (ir_k8 159 rfl) rfl), by decide +kernel, rfl, rfl, by decide⟩
theorem ir_cw_191 : ir_cwOK 191 := ⟨(ir_Tm (ir_k8 155 rfl) rfl), by decide +kernel, rfl, rfl, by decide⟩
theorem ir_cw_192 : ir_cwOK 192 := ⟨(ir_Tm (ir_k8 162 rfl) rfl), by decide +kernel, rfl, rfl, by decide⟩
theorem ir_cw_193 : ir_cwOK 193 := ⟨(ir_Tm (ir_k8 165 rfl) rfl), by decide +kernel, rfl, rfl, by decide⟩
theorem ir_cw_194 : ir_cwOK 194 := ⟨(ir_Tm (ir_k8 152 rfl) rfl), by decide +kernel, rfl, rfl, by decide⟩
theorem ir_cw_195 : ir_cwOK 195 := ⟨(ir_Tm (ir_k8 203 rfl) rfl), by decide +kernel, rfl, rfl, by decide⟩
theorem ir_cw_196 : ir_cwOK 196 := ⟨(ir_Tm (ir_k8 178 rfl) rfl), by decide +kernel, rfl, rfl, by decide⟩
theorem ir_cw_197 : ir_cwOK 197 := ⟨(ir_Tm (ir_k8 174 rfl) rfl), by decide +kernel, rfl, rfl, by decide⟩
theorem ir_cw_198 : ir_cwOK 198 := ⟨(ir_Tm (ir_k8 170 rfl) rfl), by decide +kernel, rfl, rfl, by decide⟩
theorem ir_cw_199 : ir_cwOK 199 := ⟨(ir_Tm (ir_k8 236 rfl) rfl), by decide +kernel, rfl, rfl, by decide⟩
theorem ir_cw_200 : ir_cwOK 200 := ⟨(ir_Tm (ir_k8 215 rfl) rfl), by decide +kernel, rfl, rfl, by decide⟩
theorem ir_cw_201 : ir_cwOK 201 := ⟨(ir_Tm (ir_k8 207 rfl) rfl), by decide +kernel, rfl, rfl, by decide⟩
theorem ir_cw_202 : ir_cwOK 202 := ⟨(ir_Tm (ir_k8 232 rfl) rfl), by decide +kernel, rfl, rfl, by decide⟩
theorem ir_cw_203 : ir_cwOK 203 := ⟨(ir_Tm (ir_k9 37 rfl) rfl), by decide +kernel, rfl, rfl, by decide⟩
theorem ir_cw_204 : ir_cwOK 204 := ⟨(ir_Tm (ir_k9 33 rfl) rfl), by decide +kernel, rfl, rfl, by decide⟩
theorem ir_cw_205 : ir_cwOK 205 := ⟨(ir_Tm (ir_k9 20 rfl) rfl), by decide +kernel, rfl, rfl, by decide⟩
theorem ir_cw_206 : ir_cwOK 206 := ⟨(ir_Tm (ir_k9 24 rfl) rfl), by decide +kernel, rfl, rfl, by decide⟩
theorem ir_cw_207 : ir_cwOK 207 := ⟨(ir_Tm (ir_k9 28 rfl) rfl), by decide +kernel, rfl, rfl, by decide⟩
theorem ir_cw_208 : ir_cwOK 208 := ⟨(ir_Tm (ir_k9 41 rfl) rfl), by decide +kernel, rfl, rfl, by decide⟩
theorem ir_cw_209 : ir_cwOK 209 := ⟨(ir_Tm (ir_k9 45 rfl) rfl), by decide +kernel, rfl, rfl, by decide⟩
theorem ir_cw_210 : ir_cwOK 210 := ⟨(ir_Tm (ir_k9 53 rfl) rfl), by decide +kernel, rfl, rfl, by decide⟩
theorem ir_cw_211 : ir_cwOK 211 := ⟨(ir_Tm (ir_k9 49 rfl) rfl), by decide +kernel, rfl, rfl, by decide⟩
theorem ir_cw_212 : ir_cwOK 212 := ⟨(ir_Tm (ir_k8 224 rfl) rfl), by decide +kernel, rfl, rfl, by decide⟩
theorem ir_cw_213 : ir_cwOK 213 := ⟨(ir_Tm (ir_k9 5 rfl) rfl), by decide +kernel, rfl, rfl, by decide⟩
theorem ir_cw_214 : ir_cwOK 214 := ⟨(ir_Tm (ir_k9 1 rfl) rfl), by decide +kernel, rfl, rfl, by decide⟩
theorem ir_cw_215 : ir_cwOK 215 := ⟨(ir_Tm (ir_k9 10 rfl) rfl), by decide +kernel, rfl, rfl, by decide⟩
theorem ir_cw_216 : ir_cwOK 216 := ⟨(ir_Tm (ir_k8 211 rfl) rfl), by decide +kernel, rfl, rfl, by decide⟩
theorem ir_cw_217 : ir_cwOK 217 := ⟨(ir_Tm (ir_k8 219 rfl) rfl), by decide +kernel, rfl, rfl, by decide⟩
theorem ir_cw_218 : ir_cwOK 218 := ⟨(ir_Tm (ir_k8 141 rfl) rfl), by decide +kernel, rfl, rfl, by decide⟩
theorem ir_cw_219 : ir_cwOK 219 := ⟨(ir_Tm (ir_k9 64 rfl) rfl), by decide +kernel, rfl, rfl, by decide⟩
theorem ir_cw_220 : ir_cwOK 220 := ⟨(ir_Tm (ir_k9 76 rfl) rfl), by decide +kernel, rfl, rfl, by decide⟩
theorem ir_cw_221 : ir_cwOK 221 := ⟨(ir_Tm (ir_k9 146 rfl) rfl), by decide +kernel, rfl, rfl, by decide⟩
theorem ir_cw_222 : ir_cwOK 222 := ⟨(ir_Tm (ir_k9 85 rfl) rfl), by decide +kernel, rfl, rfl, by decide⟩
theorem ir_cw_223 : ir_cwOK 223 := ⟨(ir_Tm (ir_k9 89 rfl) rfl), by decide +kernel, rfl, rfl, by decide⟩
theorem ir_cw_224 : ir_cwOK 224 := ⟨(ir_Tm (ir_k9 72 rfl) rfl), by decide +kernel, rfl, rfl, by decide⟩
theorem ir_cw_225 : ir_cwOK 225 := ⟨(ir_Tm (ir_k9 142 rfl) rfl), by decide +kernel, rfl, rfl, by decide⟩
theorem ir_cw_226 : ir_cwOK 226 := ⟨(ir_Tm (ir_k9 158 rfl) rfl), by decide +kernel, rfl, rfl, by decide⟩
theorem ir_cw_227 : ir_cwOK 227 := ⟨(ir_Tm (ir_k9 81 rfl) rfl), by decide +kernel, rfl, rfl, by decide⟩
theorem ir_cw_228 : ir_cwOK 228 := ⟨(ir_Tm (ir_k9 109 rfl) rfl), by decide +kernel, rfl, rfl, by decide⟩
theorem ir_cw_229 : ir_cwOK 229 := ⟨(ir_Tm (ir_k9 115 rfl) rfl), by decide +kernel, rfl, rfl, by decide⟩
theorem ir_cw_230 : ir_cwOK 230 := ⟨(ir_Tm (ir_k9 112 rfl) rfl), by decide +kernel, rfl, rfl, by decide⟩
theorem ir_cw_231 : ir_cwOK 231 := ⟨(ir_Tm (ir_k9 105 rfl) rfl), by decide +kernel, rfl, rfl, by decide⟩
theorem ir_cw_232 : ir_cwOK 232 := ⟨(ir_Tm (ir_k9 101 rfl) rfl), by decide +kernel, rfl, rfl, by decide⟩
theorem ir_cw_233 : ir_cwOK 233 := ⟨(ir_Tm (ir_k9 97 rfl) rfl), by decide +kernel, rfl, rfl, by decide⟩
theorem ir_cw_234 : ir_cwOK 234 := ⟨(ir_Tm (ir_k9 129 rfl) rfl), by decide +kernel, rfl, rfl, by decide⟩
theorem ir_cw_235 : ir_cwOK 235 := ⟨(ir_Tm (ir_k9 132 rfl) rfl), by decide +kernel, rfl, rfl, by decide⟩
theorem ir_cw_236 : ir_cwOK 236 := ⟨(ir_Tm (ir_k9 125 rfl) rfl), by decide +kernel, rfl, rfl, by decide⟩
theorem ir_cw_237 : ir_cwOK 237 := ⟨(ir_Tm (ir_k9 93 rfl) rfl), by decide +kernel, rfl, rfl, by decide⟩
theorem ir_cw_238 : ir_cwOK 238 := ⟨(ir_Tm (ir_k9 182 rfl) rfl), by decide +kernel, rfl, rfl, by decide⟩
theorem ir_cw_239 : ir_cwOK 239 := ⟨(ir_Tm (ir_k9 178 rfl) rfl), by decide +kernel, rfl, rfl, by decide⟩
theorem ir_cw_240 : ir_cwOK 240 := ⟨(ir_Tm (ir_k9 174 rfl) rfl), by decide +kernel, rfl, rfl, by decide⟩
theorem ir_cw_241 : ir_cwOK 241 := ⟨(ir_Tm (ir_k9 239 rfl) rfl), by decide +kernel, rfl, rfl, by decide⟩
theorem ir_cw_242 : ir_cwOK 242 := ⟨(ir_Tm (ir_k9 190 rfl) rfl), by decide +kernel, rfl, rfl, by decide⟩
theorem ir_cw_243 : ir_cwOK 243 := ⟨(ir_Tm (ir_k9 68 rfl) rfl), by decide +kernel, rfl, rfl, by decide⟩
theorem ir_cw_244 : ir_cwOK 244 := ⟨(ir_Tm (ir_k9 138 rfl) rfl), by decide +kernel, rfl, rfl, by decide⟩
theorem ir_cw_245 : ir_cwOK 245 := ⟨(ir_Tm (ir_k9 150 rfl) rfl), by decide +kernel, rfl, rfl, by decide⟩
theorem ir_cw_246 : ir_cwOK 246 := ⟨(ir_Tm (ir_k9 154 rfl) rfl), by decide +kernel, rfl, rfl, by decide⟩
theorem ir_cw_247 : ir_cwOK 247 := ⟨(ir_Tm (ir_k9 166 rfl) rfl), by decide +kernel, rfl, rfl, by decide⟩
theorem ir_cw_248 : ir_cwOK 248 := ⟨(ir_Tm (ir_k9 162 rfl) rfl), by decide +kernel, rfl, rfl, by decide⟩
theorem ir_cw_249 : ir_cwOK 249 := ⟨(ir_Tm (ir_k9 170 rfl) rfl), by decide +kernel, rfl, rfl, by decide⟩
theorem ir_cw_250 : ir_cwOK 250 := ⟨(ir_Tm (ir_k9 186 rfl) rfl), by decide +kernel, rfl, rfl, by decide⟩
theorem ir_cw_251 : ir_cwOK 251 := ⟨(ir_Tm (ir_k9 198 rfl) rfl), by decide +kernel, rfl, rfl, by decide⟩
theorem ir_cw_252 : ir_cwOK 252 := ⟨(ir_Tm (ir_k10 49 rfl) rfl), by decide +kernel, rfl, rfl, by decide⟩
theorem ir_cw_253 : ir_cwOK 253 := ⟨(ir_Tm (ir_k10 65 rfl) rfl), by decide +kernel, rfl, rfl, by decide⟩
theorem ir_cw_254 : ir_cwOK 254 := ⟨(ir_Tm (ir_k9 211 rfl) rfl), by decide +kernel, rfl, rfl, by decide⟩
theorem ir_cw_255 : ir_cwOK 255 := ⟨(ir_Tm (ir_k9 223 rfl) rfl), by decide +kernel, rfl, rfl, by decide⟩
theorem ir_cw_256 : ir_cwOK 256 := ⟨(ir_Tm (ir_k9 235 rfl) rfl), by decide +kernel, rfl, rfl, by decide⟩
theorem ir_cw_257 : ir_cwOK 257 := ⟨(ir_Tm (ir_k9 207 rfl) rfl), by decide +kernel, rfl, rfl, by decide⟩
theorem ir_cw_258 : ir_cwOK 258 := ⟨(ir_Tm (ir_k9 194 rfl) rfl), by decide +kernel, rfl, rfl, by decide⟩
theorem ir_cw_259 : ir_cwOK 259 := ⟨(ir_Tm (ir_k9 202 rfl) rfl), by decide +kernel, rfl, rfl, by decide⟩
theorem ir_cw_260 : ir_cwOK 260 := ⟨(ir_Tm (ir_k9 215 rfl) rfl), by decide +kernel, rfl, rfl, by decide⟩
theorem ir_cw_261 : ir_cwOK 261 := ⟨(ir_Tm (ir_k9 219 rfl) rfl), by decide +kernel, rfl, rfl, by decide⟩
theorem ir_cw_262 : ir_cwOK 262 := ⟨(ir_Tm (ir_k9 231 rfl) rfl), by decide +kernel, rfl, rfl, by decide⟩
theorem ir_cw_263 : ir_cwOK 263 := ⟨(ir_Tm (ir_k9 227 rfl) rfl), by decide +kernel, rfl, rfl, by decide⟩
theorem ir_cw_264 : ir_cwOK 264 := ⟨(ir_Tm (ir_k10 11 rfl) rfl), by decide +kernel, rfl, rfl, by decide⟩
theorem ir_cw_265 : ir_cwOK 265 := ⟨(ir_Tm (ir_k10 7 rfl) rfl), by decide +kernel, rfl, rfl, by decide⟩
theorem ir_cw_266 : ir_cwOK 266 := ⟨(ir_Tm (ir_k10 3 rfl) rfl), by decide +kernel, rfl, rfl, by decide⟩
theorem ir_cw_267 : ir_cwOK 267 := ⟨(ir_Tm (ir_k10 16 rfl) rfl), by decide +kernel, rfl, rfl, by decide⟩
theorem ir_cw_268 : ir_cwOK 268 := ⟨(ir_Tm (ir_k10 24 rfl) rfl), by decide +kernel, rfl, rfl, by decide⟩
theorem ir_cw_269 : ir_cwOK 269 := ⟨(ir_Tm (ir_k10 32 rfl) rfl), by decide +kernel, rfl, rfl, by decide⟩
theorem ir_cw_270 : ir_cwOK 270 := ⟨(ir_Tm (ir_k10 20 rfl) rfl), by decide +kernel, rfl, rfl, by decide⟩
theorem ir_cw_271 : ir_cwOK 271 := ⟨(ir_Tm (ir_k10 36 rfl) rfl), by decide +kernel, rfl, rfl, by decide⟩
theorem ir_cw_272 : ir_cwOK 272 := ⟨(ir_Tm (ir_k10 40 rfl) rfl), by decide +kernel, rfl, rfl, by decide⟩
theorem ir_cw_273 : ir_cwOK 273 := ⟨(ir_Tm (ir_k10 53 rfl) rfl), by decide +kernel, rfl, rfl, by decide⟩
theorem ir_cw_274 : ir_cwOK 274 := ⟨(ir_Tm (ir_k10 61 rfl) rfl), by decide +kernel, rfl, rfl, by decide⟩
theorem ir_cw_275 : ir_cwOK 275 := ⟨(ir_Tm (ir_k10 45 rfl) rfl), by decide +kernel, rfl, rfl, by decide⟩
theorem ir_cw_276 : ir_cwOK 276 := ⟨(ir_Tm (ir_k10 69 rfl) rfl), by decide +kernel, rfl, rfl, by decide⟩
theorem ir_cw_277 : ir_cwOK 277 := ⟨(ir_Tm (ir_k10 78 rfl) rfl), by decide +kernel, rfl, rfl, by decide⟩
theorem ir_cw_278 : ir_cwOK 278 := ⟨(ir_Tm (ir_k10 73 rfl) rfl), by decide +kernel, rfl, rfl, by decide⟩
theorem ir_cw_279 : ir_cwOK 279 := ⟨(ir_Tm (ir_k10 103 rfl) rfl), by decide +kernel, rfl, rfl, by decide⟩
theorem ir_cw_280 : ir_cwOK 280 := ⟨(ir_Tm (ir_k10 96 rfl) rfl), by decide +kernel, rfl, rfl, by decide⟩
theorem ir_cw_281 : ir_cwOK 281 := ⟨(ir_Tm (ir_k10 92 rfl) rfl), by decide +kernel, rfl, rfl, by decide⟩
theorem ir_cw_282 : ir_cwOK 282 := ⟨(ir_Tm (ir_k10 88 rfl) rfl), by decide +kernel, rfl, rfl, by decide⟩
theorem ir_cw_283 : ir_cwOK 283 := ⟨(ir_Tm (ir_k10 83 rfl) rfl), by decide +kernel, rfl, rfl, by decide⟩
theorem ir_cw_284 : ir_cwOK 284 := ⟨(ir_Tm (ir_k10 107 rfl) rfl), by decide +kernel, rfl, rfl, by decide⟩
theorem ir_cw_285 : ir_cwOK 285 := ⟨(ir_Tm (ir_k10 111 rfl) rfl), by decide +kernel, rfl, rfl, by decide⟩
theorem ir_cw_286 : ir_cwOK 286 := ⟨(ir_Tm (ir_k10 123 rfl) rfl), by decide +kernel, rfl, rfl, by decide⟩
theorem ir_cw_287 : ir_cwOK 287 := ⟨(ir_Tm (ir_k10 119 rfl) rfl), by decide +kernel, rfl, rfl, by decide⟩
theorem ir_cw_288 : ir_cwOK 288 := ⟨(ir_Tm (ir_k10 115 rfl) rfl), by decide +kernel, rfl, rfl, by decide⟩
theorem ir_cw_289 : ir_cwOK 289 := ⟨(ir_Tm (ir_k10 132 rfl) rfl), by decide +kernel, rfl, rfl, by decide⟩
theorem ir_cw_290 : ir_cwOK 290 := ⟨(ir_Tm (ir_k10 127 rfl) rfl), by decide +kernel, rfl, rfl, by decide⟩
theorem ir_cw_291 : ir_cwOK 291 := ⟨(ir_Tm (ir_k10 143 rfl) rfl), by decide +kernel, rfl, rfl, by decide⟩
theorem ir_cw_292 : ir_cwOK 292 := ⟨(ir_Tm (ir_k10 136 rfl) rfl), by decide +kernel, rfl, rfl, by decide⟩
theorem ir_cw_293 : ir_cwOK 293 := ⟨(ir_Tm (ir_k10 147 rfl) rfl), by decide +kernel, rfl, rfl, by decide⟩
theorem ir_cw_294 : ir_cwOK 294 := ⟨(ir_Tm (ir_k10 159 rfl) rfl), by decide +kernel, rfl, rfl, by decide⟩
theorem ir_cw_295 : ir_cwOK 295 := ⟨(ir_Tm (ir_k10 155 rfl) rfl), by decide +kernel, rfl, rfl, by decide⟩
theorem ir_cw_296 : ir_cwOK 296 := ⟨(ir_Tm (ir_k10 151 rfl) rfl), by decide +kernel, rfl, rfl, by decide⟩
theorem ir_cw_297 : ir_cwOK 297 := ⟨(ir_Tm (ir_k10 167 rfl) rfl), by decide +kernel, rfl, rfl, by decide⟩
theorem ir_cw_298 : ir_cwOK 298 := ⟨(ir_Tm (ir_k10 163 rfl) rfl), by decide +kernel, rfl, rfl, by decide⟩
theorem ir_cw_299 : ir_cwOK 299 := ⟨(ir_Tm (ir_k10 171 rfl) rfl), by decide +kernel, rfl, rfl, by decide⟩
theorem ir_cw_300 : ir_cwOK 300 := ⟨(ir_Tm (ir_k10 179 rfl) rfl), by decide +kernel, rfl, rfl, by decide⟩
theorem ir_cw_301 : ir_cwOK 301 := ⟨(ir_Tm (ir_k10 187 rfl) rfl), by decide +kernel, rfl, rfl, by decide⟩
theorem ir_cw_302 : ir_cwOK 302 := ⟨(ir_Tm (ir_k10 183 rfl) rfl), by decide +kernel, rfl, rfl, by decide⟩
theorem ir_cw_303 : ir_cwOK 303 := ⟨(ir_Tm (ir_k10 175 rfl) rfl), by decide +kernel, rfl, rfl, by decide⟩
theorem ir_cw_304 : ir_cwOK 304 := ⟨(ir_Tm (ir_k10 194 rfl) rfl), by decide +kernel, rfl, rfl, by decide⟩
theorem ir_cw_305 : ir_cwOK 305 := ⟨(ir_Tm (ir_k10 191 rfl) rfl), by decide +kernel, rfl, rfl, by decide⟩
theorem ir_cw_306 : ir_cwOK 306 := ⟨(ir_Tm (ir_k10 202 rfl) rfl), by decide +kernel, rfl, rfl, by decide⟩
theorem ir_cw_307 : ir_cwOK 307 := ⟨(ir_Tm (ir_k10 198 rfl) rfl), by decide +kernel, rfl, rfl, by decide⟩
theorem ir_cw_308 : ir_cwOK 308 := ⟨(ir_Tm (ir_k10 206 rfl) rfl), by decide +kernel, rfl, rfl, by decide⟩
theorem ir_cw_309 : ir_cwOK 309 := ⟨(ir_Tm (ir_k10 214 rfl) rfl), by decide +kernel, rfl, rfl, by decide⟩
theorem ir_cw_310 : ir_cwOK 310 := ⟨(ir_Tm (ir_k10 210 rfl) rfl), by decide +kernel, rfl, rfl, by decide⟩
theorem ir_cw_311 : ir_cwOK 311 := ⟨(ir_Tm (ir_k10 218 rfl) rfl), by decide +kernel, rfl, rfl, by decide⟩
theorem ir_cw_312 : ir_cwOK 312 := ⟨(ir_Tm (ir_k10 226 rfl) rfl), by decide +kernel, rfl, rfl, by decide⟩
theorem ir_cw_313 : ir_cwOK 313 := ⟨(ir_Tm (ir_k10 235 rfl) rfl), by decide +kernel, rfl, rfl, by decide⟩
theorem ir_cw_314 : ir_cwOK 314 := ⟨(ir_Tm (ir_k10 231 rfl) rfl), by decide +kernel, rfl, rfl, by decide⟩
theorem ir_cw_315 : ir_cwOK 315 := ⟨(ir_Tm (ir_k10 222 rfl) rfl), by decide +kernel, rfl, rfl, by decide⟩
theorem ir_cw_316 : ir_cwOK 316 := ⟨(ir_Tm (ir_k10 239 rfl) rfl), by decide +kernel, rfl, rfl, by decide⟩
theorem ir_cw_317 : ir_cwOK 317 := ⟨(ir_Tm (ir_k10 27 rfl) rfl), by decide +kernel, rfl, rfl, by decide⟩
theorem ir_cw_318 : ir_cwOK 318 := ⟨(ir_Tm (ir_k11 3 rfl) rfl), by decide +kernel, rfl, rfl, by decide⟩
theorem ir_cw_319 : ir_cwOK 319 := ⟨(ir_Tm (ir_k11 11 rfl) rfl), by decide +kernel, rfl, rfl, by decide⟩
theorem ir_cw_320 : ir_cwOK 320 := ⟨(ir_Tm (ir_k11 7 rfl) rfl), by decide +kernel, rfl, rfl, by decide⟩
theorem ir_cw_321 : ir_cwOK 321 := ⟨(ir_Tm (ir_k11 15 rfl) rfl), by decide +kernel, rfl, rfl, by decide⟩
theorem ir_cw_322 : ir_cwOK 322 := ⟨(ir_Tm (ir_k11 19 rfl) rfl), by decide +kernel, rfl, rfl, by decide⟩
theorem ir_cw_323 : ir_cwOK 323 := ⟨(ir_Tm (ir_k11 23 rfl) rfl), by decide +kernel, rfl, rfl, by decide⟩
theorem ir_cw_324 : ir_cwOK 324 := ⟨(ir_Tm (ir_k11 31 rfl) rfl), by decide +kernel, rfl, rfl, by decide⟩
theorem ir_cw_325 : ir_cwOK 325 := ⟨(ir_Tm (ir_k11 27 rfl) rfl), by decide +kernel, rfl, rfl, by decide⟩
theorem ir_cw_326 : ir_cwOK 326 := ⟨(ir_Tm (ir_k4 38 rfl) rfl), by decide +kernel, rfl, rfl, by decide⟩
theorem ir_cw_327 : ir_cwOK 327 := ⟨(ir_Tm (ir_k5 74 rfl) rfl), by decide +kernel, rfl, rfl, by decide⟩
theorem ir_cw_328 : ir_cwOK 328 := ⟨(ir_Tm (ir_k5 119 rfl) rfl), by decide +kernel, rfl, rfl, by decide⟩
theorem ir_cw_329 : ir_cwOK 329 := ⟨(ir_Tm (ir_k5 132 rfl) rfl), by decide +kernel, rfl, rfl, by decide⟩
theorem ir_cw_330 : ir_cwOK 330 := ⟨(ir_Tm (ir_k5 144 rfl) rfl), by decide +kernel, rfl, rfl, by decide⟩
theorem ir_cw_331 : ir_cwOK 331 := ⟨(ir_Tm (ir_k5 152 rfl) rfl), by decide +kernel, rfl, rfl, by decide⟩
theorem ir_cw_332 : ir_cwOK 332 := ⟨(ir_Tm (ir_k5 180 rfl) rfl), by decide +kernel, rfl, rfl, by decide⟩
theorem ir_cw_333 : ir_cwOK 333 := ⟨(ir_Tm (ir_k5 192 rfl) rfl), by decide +kernel, rfl, rfl, by decide⟩
theorem ir_cw_334 : ir_cwOK 334 := ⟨(ir_Tm (ir_k5 199 rfl) rfl), by decide +kernel, rfl, rfl, by decide⟩
theorem ir_cw_335 : ir_cwOK 335 := ⟨(ir_Tm (ir_k5 207 rfl) rfl), by decide +kernel, rfl, rfl, by decide⟩
theorem ir_cw_336 : ir_cwOK 336 := ⟨(ir_Tm (ir_k5 215 rfl) rfl), by decide +kernel, rfl, rfl, by decide⟩
theorem ir_cw_337 : ir_cwOK 337 := ⟨(ir_Tm (ir_k5 224 rfl) rfl), by decide +kernel, rfl, rfl, by decide⟩
theorem ir_cw_338 : ir_cwOK 338 := ⟨(ir_Tm (ir_k5 236 rfl) rfl), by decide +kernel, rfl, rfl, by decide⟩
theorem ir_cw_339 : ir_cwOK 339 := ⟨(ir_Tm (ir_k6 4 rfl) rfl), by decide +kernel, rfl, rfl, by decide⟩
theorem ir_cw_340 : ir_cwOK 340 := ⟨(ir_Tm (ir_k6 39 rfl) rfl), by decide +kernel, rfl, rfl, by decide⟩
theorem ir_cw_341 : ir_cwOK 341 := ⟨(ir_Tm (ir_k6 51 rfl) rfl), by decide +kernel, rfl, rfl, by decide⟩
theorem ir_cw_342 : ir_cwOK 342 := ⟨(ir_Tm (ir_k6 71 rfl) rfl), by decide +kernel, rfl, rfl, by decide⟩
theorem ir_cw_343 : ir_cwOK 343 := ⟨(ir_Tm (ir_k6 78 rfl) rfl), by decide +kernel, rfl, rfl, by decide⟩
theorem ir_cw_344 : ir_cwOK 344 := ⟨(ir_Tm (ir_k6 96 rfl) rfl), by decide +kernel, rfl, rfl, by decide⟩
theorem ir_cw_345 : ir_cwOK 345 := ⟨(ir_Tm (ir_k6 108 rfl) rfl), by decide +kernel, rfl, rfl, by decide⟩
theorem ir_cw_346 : ir_cwOK 346 := ⟨(ir_Tm (ir_k6 116 rfl) rfl), by decide +kernel, rfl, rfl, by decide⟩
theorem ir_cw_347 : ir_cwOK 347 := ⟨(ir_Tm (ir_k6 139 rfl) rfl), by decide +kernel, rfl, rfl, by decide⟩
theorem ir_cw_348 : ir_cwOK 348 := ⟨(ir_Tm (ir_k6 163 rfl) rfl), by decide +kernel, rfl, rfl, by decide⟩
theorem ir_cw_349 : ir_cwOK 349 := ⟨(ir_Tm (ir_k6 203 rfl) rfl), by decide +kernel, rfl, rfl, by decide⟩
theorem ir_cw_350 : ir_cwOK 350 := ⟨(ir_Tm (ir_k6 227 rfl) rfl), by decide +kernel, rfl, rfl, by decide⟩
theorem ir_cw_351 : ir_cwOK 351 := ⟨(ir_Tm (ir_k6 239 rfl) rfl), by decide +kernel, rfl, rfl, by decide⟩
theorem ir_cw_352 : ir_cwOK 352 := ⟨(ir_Tm (ir_k7 10 rfl) rfl), by decide +kernel, rfl, rfl, by decide⟩
theorem ir_cw_353 : ir_cwOK 353 := ⟨(ir_Tm (ir_k7 17 rfl) rfl), by decide +kernel, rfl, rfl, by decide⟩
theorem ir_cw_354 : ir_cwOK 354 := ⟨(ir_Tm (ir_k7 43 rfl) rfl), by decide +kernel, rfl, rfl, by decide⟩
theorem ir_cw_355 : ir_cwOK 355 := ⟨(ir_Tm (ir_k7 57 rfl) rfl), by decide +kernel, rfl, rfl, by decide⟩
theorem ir_cw_356 : ir_cwOK 356 := ⟨(ir_Tm (ir_k7 64 rfl) rfl), by decide +kernel, rfl, rfl, by decide⟩
theorem ir_cw_357 : ir_cwOK 357 := ⟨(ir_Tm (ir_k7 72 rfl) rfl), by decide +kernel, rfl, rfl, by decide⟩
theorem ir_cw_358 : ir_cwOK 358 := ⟨(ir_Tm (ir_k7 127 rfl) rfl), by decide +kernel, rfl, rfl, by decide⟩
theorem ir_cw_359 : ir_cwOK 359 := ⟨(ir_Tm (ir_k7 139 rfl) rfl), by decide +kernel, rfl, rfl, by decide⟩
theorem ir_cw_360 : ir_cwOK 360 := ⟨(ir_Tm (ir_k7 152 rfl) rfl), by decide +kernel, rfl, rfl, by decide⟩
theorem ir_cw_361 : ir_cwOK 361 := ⟨(ir_Tm (ir_k7 184 rfl) rfl), by decide +kernel, rfl, rfl, by decide⟩
theorem ir_cw_362 : ir_cwOK 362 := ⟨(ir_Tm (ir_k7 192 rfl) rfl), by decide +kernel, rfl, rfl, by decide⟩
theorem ir_cw_363 : ir_cwOK 363 := ⟨(ir_Tm (ir_k7 207 rfl) rfl), by decide +kernel, rfl, rfl, by decide⟩
theorem ir_cw_365 : ir_cwOK 365 := ⟨(ir_Tm (ir_k6 170 rfl) rfl), by decide +kernel, rfl, rfl, by decide⟩
theorem ir_cw_366 : ir_cwOK 366 := ⟨(ir_Tm (ir_k4 158 rfl) rfl), by decide +kernel, rfl, rfl, by decide⟩
theorem ir_cw_367 : ir_cwOK 367 := ⟨(ir_Tm (ir_k8 183 rfl) rfl), by decide +kernel, rfl, rfl, by decide⟩
theorem ir_cw_368 : ir_cwOK 368 := ⟨(ir_Tm (ir_k4 150 rfl) rfl), by decide +kernel, rfl, rfl, by decide⟩
theorem ir_cw_369 : ir_cwOK 369 := ⟨(ir_Tm (ir_k4 154 rfl) rfl), by decide +kernel, rfl, rfl, by decide⟩
theorem ir_cw_370 : ir_cwOK 370 := ⟨(ir_Tm (ir_k1 239 rfl) rfl), by decide +kernel, rfl, rfl, by decide⟩
theorem ir_cw_371 : ir_cwOK 371 := ⟨(ir_Tm (ir_k4 162 rfl) rfl), by decide +kernel, rfl, rfl, by decide⟩
theorem ir_cw_372 : ir_cwOK 372 := ⟨(ir_Tm (ir_k2 3 rfl) rfl), by decide +kernel, rfl, rfl, by decide⟩
theorem ir_cw_373 : ir_cwOK 373 := ⟨(ir_Tm (ir_k8 189 rfl) rfl), by decide +kernel, rfl, rfl, by decide⟩
theorem ir_cw_374 : ir_cwOK 374 := ⟨(ir_Tm (ir_k8 186 rfl) rfl), by decide +kernel, rfl, rfl, by decide⟩
theorem ir_cw_375 : ir_cwOK 375 := ⟨(ir_Tm (ir_k4 168 rfl) rfl), by decide +kernel, rfl, rfl, by decide⟩
theorem ir_cw_376 : ir_cwOK 376 := ⟨(ir_Tm (ir_k2 8 rfl) rfl), by decide +kernel, rfl, rfl, by decide⟩
theorem ir_cw_377 : ir_cwOK 377 := ⟨(ir_Tm (ir_k4 165 rfl) rfl), by decide +kernel, rfl, rfl, by decide⟩
theorem ir_cw_378 : ir_cwOK 378 := ⟨(ir_Tm (ir_k4 173 rfl) rfl), by decide +kernel, rfl, rfl, by decide⟩
theorem ir_cw_379 : ir_cwOK 379 := ⟨(ir_Tm (ir_k2 11 rfl) rfl), by decide +kernel, rfl, rfl, by decide⟩
theorem ir_cw_380 : ir_cwOK 380 := ⟨(ir_Tm (ir_k7 120 rfl) rfl), by decide +kernel, rfl, rfl, by decide⟩
theorem ir_cw_381 : ir_cwOK 381 := ⟨(ir_Tm (ir_k4 124 rfl) rfl), by decide +kernel, rfl, rfl, by decide⟩
theorem ir_cw_382 : ir_cwOK 382 := ⟨(ir_Tm (ir_k8 192 rfl) rfl), by decide +kernel, rfl, rfl, by decide⟩
theorem ir_cwc_0 : ∀ i, i < 16 → 0 + i ≠ 364 → ir_cwOK (0 + i)
  | 0, _, _ => ir_cw_0
  | 1, _, _ => ir_cw_1
  | 2, _, _ => ir_cw_2
  | 3, _, _ => ir_cw_3
  | 4, _, _ => ir_cw_4
  | 5, _, _ => ir_cw_5
  | 6, _, _ => ir_cw_6
  | 7, _, _ => ir_cw_7
  | 8, _, _ => ir_cw_8
  | 9, _, _ => ir_cw_9
  | 10, _, _ => ir_cw_10
  | 11, _, _ => ir_cw_11
  | 12, _, _ => ir_cw_12
  | 13, _, _ => ir_cw_13
  | 14, _, _ => ir_cw_14
  | 15, _, _ => ir_cw_15
  | i + 16, h, _ => absurd h (by omega)
theorem ir_cwc_1 : ∀ i, i < 16 → 16 + i ≠ 364 → ir_cwOK (16 + i)
  | 0, _, _ => ir_cw_16
  | 1, _, _ => ir_cw_17
  | 2, _, _ => ir_cw_18
  | 3, _, _ => ir_cw_19
  | 4, _, _ => ir_cw_20
  | 5, _, _ => ir_cw_21
  | 6, _, _ => ir_cw_22
  | 7, _, _ => ir_cw_23
  | 8, _, _ => ir_cw_24
  | 9, _, _ => ir_cw_25
  | 10, _, _ => ir_cw_26
  | 11, _, _ => ir_cw_27
  | 12, _, _ => ir_cw_28
  | 13, _, _ => ir_cw_29
  | 14, _, _ => ir_cw_30
  | 15, _, _ => ir_cw_31
  | i + 16, h, _ => absurd h (by omega)
theorem ir_cwc_2 : ∀ i, i < 16 → 32 + i ≠ 364 → ir_cwOK (32 + i)
  | 0, _, _ => ir_cw_32
  | 1, _, _ => ir_cw_33
  | 2, _, _ => ir_cw_34
  | 3, _, _ => ir_cw_35
  | 4, _, _ => ir_cw_36
  | 5, _, _ => ir_cw_37
  | 6, _, _ => ir_cw_38
  | 7, _, _ => ir_cw_39
  | 8, _, _ => ir_cw_40
  | 9, _, _ => ir_cw_41
  | 10, _, _ => ir_cw_42
  | 11, _, _ => ir_cw_43
  | 12, _, _ => ir_cw_44
  | 13, _, _ => ir_cw_45
  | 14, _, _ => ir_cw_46
  | 15, _, _ => ir_cw_47
  | i + 16, h, _ => absurd h (by omega)
theorem ir_cwc_3 : ∀ i, i < 16 → 48 + i ≠ 364 → ir_cwOK (48 + i)
  | 0, _, _ => ir_cw_48
  | 1, _, _ => ir_cw_49
  | 2, _, _ => ir_cw_50
  | 3, _, _ => ir_cw_51
  | 4, _, _ => ir_cw_52
  | 5, _, _ => ir_cw_53
  | 6, _, _ => ir_cw_54
  | 7, _, _ => ir_cw_55
  | 8, _, _ => ir_cw_56
  | 9, _, _ => ir_cw_57
  | 10, _, _ => ir_cw_58
  | 11, _, _ => ir_cw_59
  | 12, _, _ => ir_cw_60
  | 13, _, _ => ir_cw_61
  | 14, _, _ => ir_cw_62
  | 15, _, _ => ir_cw_63
  | i + 16, h, _ => absurd h (by omega)
theorem ir_cwc_4 : ∀ i, i < 16 → 64 + i ≠ 364 → ir_cwOK (64 + i)
  | 0, _, _ => ir_cw_64
  | 1, _, _ => ir_cw_65
  | 2, _, _ => ir_cw_66
  | 3, _, _ => ir_cw_67
  | 4, _, _ => ir_cw_68
  | 5, _, _ => ir_cw_69
  | 6, _, _ => ir_cw_70
  | 7, _, _ => ir_cw_71
  | 8, _, _ => ir_cw_72
  | 9, _, _ => ir_cw_73
  | 10, _, _ => ir_cw_74
  | 11, _, _ => ir_cw_75
  | 12, _, _ => ir_cw_76
  | 13, _, _ => ir_cw_77
  | 14, _, _ => ir_cw_78
  | 15, _, _ => ir_cw_79
  | i + 16, h, _ => absurd h (by omega)
theorem ir_cwc_5 : ∀ i, i < 16 → 80 + i ≠ 364 → ir_cwOK (80 + i)
  | 0, _, _ => ir_cw_80
  | 1, _, _ => ir_cw_81
  | 2, _, _ => ir_cw_82
  | 3, _, _ => ir_cw_83
  | 4, _, _ => ir_cw_84
  | 5, _, _ => ir_cw_85
  | 6, _, _ => ir_cw_86
  | 7, _, _ => ir_cw_87
  | 8, _, _ => ir_cw_88
  | 9, _, _ => ir_cw_89
  | 10, _, _ => ir_cw_90
  | 11, _, _ => ir_cw_91
  | 12, _, _ => ir_cw_92
  | 13, _, _ => ir_cw_93
  | 14, _, _ => ir_cw_94
  | 15, _, _ => ir_cw_95
  | i + 16, h, _ => absurd h (by omega)
theorem ir_cwc_6 : ∀ i, i < 16 → 96 + i ≠ 364 → ir_cwOK (96 + i)
  | 0, _, _ => ir_cw_96
  | 1, _, _ => ir_cw_97
  | 2, _, _ => ir_cw_98
  | 3, _, _ => ir_cw_99
  | 4, _, _ => ir_cw_100
  | 5, _, _ => ir_cw_101
  | 6, _, _ => ir_cw_102
  | 7, _, _ => ir_cw_103
  | 8, _, _ => ir_cw_104
  | 9, _, _ => ir_cw_105
  | 10, _, _ => ir_cw_106
  | 11, _, _ => ir_cw_107
  | 12, _, _ => ir_cw_108
  | 13, _, _ => ir_cw_109
  | 14, _, _ => ir_cw_110
  | 15, _, _ => ir_cw_111
  | i + 16, h, _ => absurd h (by omega)
theorem ir_cwc_7 : ∀ i, i < 16 → 112 + i ≠ 364 → ir_cwOK (112 + i)
  | 0, _, _ => ir_cw_112
  | 1, _, _ => ir_cw_113
  | 2, _, _ => ir_cw_114
  | 3, _, _ => ir_cw_115
  | 4, _, _ => ir_cw_116
  | 5, _, _ => ir_cw_117
  | 6, _, _ => ir_cw_118
  | 7, _, _ => ir_cw_119
  | 8, _, _ => ir_cw_120
  | 9, _, _ => ir_cw_121
  | 10, _, _ => ir_cw_122
  | 11, _, _ => ir_cw_123
  | 12, _, _ => ir_cw_124
  | 13, _, _ => ir_cw_125
  | 14, _, _ => ir_cw_126
  | 15, _, _ => ir_cw_127
  | i + 16, h, _ => absurd h (by omega)
theorem ir_cwc_8 : ∀ i, i < 16 → 128 + i ≠ 364 → ir_cwOK (128 + i)
  | 0, _, _ => ir_cw_128
  | 1, _, _ => ir_cw_129
  | 2, _, _ => ir_cw_130
  | 3, _, _ => ir_cw_131
  | 4, _, _ => ir_cw_132
  | 5, _, _ => ir_cw_133
  | 6, _, _ => ir_cw_134
  | 7, _, _ => ir_cw_135
  | 8, _, _ => ir_cw_136
  | 9, _, _ => ir_cw_137
  | 10, _, _ => ir_cw_138
  | 11, _, _ => ir_cw_139
  | 12, _, _ => ir_cw_140
  | 13, _, _ => ir_cw_141
  | 14, _, _ => ir_cw_142
  | 15, _, _ => ir_cw_143
  | i + 16, h, _ => absurd h (by omega)
theorem ir_cwc_9 : ∀ i, i < 16 → 144 + i ≠ 364 → ir_cwOK (144 + i)
  | 0, _, _ => ir_cw_144
  | 1, _, _ => ir_cw_145
  | 2, _, _ => ir_cw_146
  | 3, _, _ => ir_cw_147
  | 4, _, _ => ir_cw_148
  | 5, _, _ => ir_cw_149
  | 6, _, _ => ir_cw_150
  | 7, _, _ => ir_cw_151
  | 8, _, _ => ir_cw_152
  | 9, _, _ => ir_cw_153
  | 10, _, _ => ir_cw_154
  | 11, _, _ => ir_cw_155
  | 12, _, _ => ir_cw_156
  | 13, _, _ => ir_cw_157
  | 14, _, _ => ir_cw_158
  | 15, _, _ => ir_cw_159
  | i + 16, h, _ => absurd h (by omega)
theorem ir_cwc_10 : ∀ i, i < 16 → 160 + i ≠ 364 → ir_cwOK (160 + i)
  | 0, _, _ => ir_cw_160
  | 1, _, _ => ir_cw_161
  | 2, _, _ => ir_cw_162
  | 3, _, _ => ir_cw_163
  | 4, _, _ => ir_cw_164
  | 5, _, _ => ir_cw_165
  | 6, _, _ => ir_cw_166
  | 7, _, _ => ir_cw_167
  | 8, _, _ => ir_cw_168
  | 9, _, _ => ir_cw_169
  | 10, _, _ => ir_cw_170
  | 11, _, _ => ir_cw_171
  | 12, _, _ => ir_cw_172
  | 13, _, _ => ir_cw_173
  | 14, _, _ => ir_cw_174
  | 15, _, _ => ir_cw_175
  | i + 16, h, _ => absurd h (by omega)
theorem ir_cwc_11 : ∀ i, i < 16 → 176 + i ≠ 364 → ir_cwOK (176 + i)
  | 0, _, _ => ir_cw_176
  | 1, _, _ => ir_cw_177
  | 2, _, _ => ir_cw_178
  | 3, _, _ => ir_cw_179
  | 4, _, _ => ir_cw_180
  | 5, _, _ => ir_cw_181
  | 6, _, _ => ir_cw_182
  | 7, _, _ => ir_cw_183
  | 8, _, _ => ir_cw_184
  | 9, _, _ => ir_cw_185
  | 10, _, _ => ir_cw_186
  | 11, _, _ => ir_cw_187
  | 12, _, _ => ir_cw_188
  | 13, _, _ => ir_cw_189
  | 14, _, _ => ir_cw_190
  | 15, _, _ => ir_cw_191
  | i + 16, h, _ => absurd h (by omega)
theorem ir_cwc_12 : ∀ i, i < 16 → 192 + i ≠ 364 → ir_cwOK (192 + i)
  | 0, _, _ => ir_cw_192
  | 1, _, _ => ir_cw_193
  | 2, _, _ => ir_cw_194
  | 3, _, _ => ir_cw_195
  | 4, _, _ => ir_cw_196
  | 5, _, _ => ir_cw_197
  | 6, _, _ => ir_cw_198
  | 7, _, _ => ir_cw_199
  | 8, _, _ => ir_cw_200
  | 9, _, _ => ir_cw_201
  | 10, _, _ => ir_cw_202
  | 11, _, _ => ir_cw_203
  | 12, _, _ => ir_cw_204
  | 13, _, _ => ir_cw_205
  | 14, _, _ => ir_cw_206
  | 15, _, _ => ir_cw_207
  | i + 16, h, _ => absurd h (by omega)
theorem ir_cwc_13 : ∀ i, i < 16 → 208 + i ≠ 364 → ir_cwOK (208 + i)
  | 0, _, _ => ir_cw_208
  | 1, _, _ => ir_cw_209
  | 2, _, _ => ir_cw_210
  | 3, _, _ => ir_cw_211
  | 4, _, _ => ir_cw_212
  | 5, _, _ => ir_cw_213
  | 6, _, _ => ir_cw_214
  | 7, _, _ => ir_cw_215
  | 8, _, _ => ir_cw_216
  | 9, _, _ => ir_cw_217
  | 10, _, _ => ir_cw_218
  | 11, _, _ => ir_cw_219
  | 12, _, _ => ir_cw_220
  | 13, _, _ => ir_cw_221
  | 14, _, _ => ir_cw_222
  | 15, _, _ => ir_cw_223
  | i + 16, h, _ => absurd h (by omega)
theorem ir_cwc_14 : ∀ i, i < 16 → 224 + i ≠ 364 → ir_cwOK (224 + i)
  | 0, _, _ => ir_cw_224
  | 1, _, _ => ir_cw_225
  | 2, _, _ => ir_cw_226
  | 3, _, _ => ir_cw_227
  | 4, _, _ => ir_cw_228
  | 5, _, _ => ir_cw_229
  | 6, _, _ => ir_cw_230
  | 7, _, _ => ir_cw_231
  | 8, _, _ => ir_cw_232
  | 9, _, _ => ir_cw_233
  | 10, _, _ => ir_cw_234
  | 11, _, _ => ir_cw_235
  | 12, _, _ => ir_cw_236
  | 13, _, _ => ir_cw_237
  | 14, _, _ => ir_cw_238
  | 15, _, _ => ir_cw_239
  | i + 16, h, _ => absurd h (by omega)
theorem ir_cwc_15 : ∀ i, i < 16 → 240 + i ≠ 364 → ir_cwOK (240 + i)
  | 0, _, _ => ir_cw_240
  | 1, _, _ => ir_cw_241
  | 2, _, _ => ir_cw_242
  | 3, _, _ => ir_cw_243
  | 4, _, _ => ir_cw_244
  | 5, _, _ => ir_cw_245
  | 6, _, _ => ir_cw_246
  | 7, _, _ => ir_cw_247
  | 8, _, _ => ir_cw_248
  | 9, _, _ => ir_cw_249
  | 10, _, _ => ir_cw_250
  | 11, _, _ => ir_cw_251
  | 12, _, _ => ir_cw_252
  | 13, _, _ => ir_cw_253
  | 14, _, _ => ir_cw_254
  | 15, _, _ => ir_cw_255
  | i + 16, h, _ => absurd h (by omega)
theorem ir_cwc_16 : ∀ i, i < 16 → 256 + i ≠ 364 → ir_cwOK (256 + i)
  | 0, _, _ => ir_cw_256
  | 1, _, _ => ir_cw_257
  | 2, _, _ => ir_cw_258
  | 3, _, _ => ir_cw_259
  | 4, _, _ => ir_cw_260
  | 5, _, _ => ir_cw_261
  | 6, _, _ => ir_cw_262
  | 7, _, _ => ir_cw_263
  | 8, _, _ => ir_cw_264
  | 9, _, _ => ir_cw_265
  | 10, _, _ => ir_cw_266
  | 11, _, _ => ir_cw_267
  | 12, _, _ => ir_cw_268
  | 13, _, _ => ir_cw_269
  | 14, _, _ => ir_cw_270
  | 15, _, _ => ir_cw_271
  | i + 16, h, _ => absurd h (by omega)
theorem ir_cwc_17 : ∀ i, i < 16 → 272 + i ≠ 364 → ir_cwOK (272 + i)
  | 0, _, _ => ir_cw_272
  | 1, _, _ => ir_cw_273
  | 2, _, _ => ir_cw_274
  | 3, _, _ => ir_cw_275
  | 4, _, _ => ir_cw_276
  | 5, _, _ => ir_cw_277
  | 6, _, _ => ir_cw_278
  | 7, _, _ => ir_cw_279
  | 8, _, _ => ir_cw_280
  | 9, _, _ => ir_cw_281
  | 10, _, _ => ir_cw_282
  | 11, _, _ => ir_cw_283
  | 12, _, _ => ir_cw_284
  | 13, _, _ => ir_cw_285
  | 14, _, _ => ir_cw_286
  | 15, _, _ => ir_cw_287
  | i + 16, h, _ => absurd h (by omega)
theorem ir_cwc_18 : ∀ i, i < 16 → 288 + i ≠ 364 → ir_cwOK (288 + i)
  | 0, _, _ => ir_cw_288
  | 1, _, _ => ir_cw_289
  | 2, _, _ => ir_cw_290
  | 3, _, _ => ir_cw_291
  | 4, _, _ => ir_cw_292
  | 5, _, _ => ir_cw_293
  | 6, _, _ => ir_cw_294
  | 7, _, _ => ir_cw_295
  | 8, _, _ => ir_cw_296
  | 9, _, _ => ir_cw_297
  | 10, _, _ => ir_cw_298
  | 11, _, _ => ir_cw_299
  | 12, _, _ => ir_cw_300
  | 13, _, _ => ir_cw_301
  | 14, _, _ => ir_cw_302
  | 15, _, _ => ir_cw_303
  | i + 16, h, _ => absurd h (by omega)
theorem ir_cwc_19 : ∀ i, i < 16 → 304 + i ≠ 364 → ir_cwOK (304 + i)
  | 0, _, _ => ir_cw_304
  | 1, _, _ => ir_cw_305
  | 2, _, _ => ir_cw_306
  | 3, _, _ => ir_cw_307
  | 4, _, _ => ir_cw_308
  | 5, _, _ => ir_cw_309
  | 6, _, _ => ir_cw_310
  | 7, _, _ => ir_cw_311
  | 8, _, _ => ir_cw_312
  | 9, _, _ => ir_cw_313
  | 10, _, _ => ir_cw_314
  | 11, _, _ => ir_cw_315
  | 12, _, _ => ir_cw_316
  | 13, _, _ => ir_cw_317
  | 14, _, _ => ir_cw_318
  | 15, _, _ => ir_cw_319
  | i + 16, h, _ => absurd h (by omega)
theorem ir_cwc_20 : ∀ i, i < 16 → 320 + i ≠ 364 → ir_cwOK (320 + i)
  | 0, _, _ => ir_cw_320
  | 1, _, _ => ir_cw_321
  | 2, _, _ => ir_cw_322
  | 3, _, _ => ir_cw_323
  | 4, _, _ => ir_cw_324
  | 5, _, _ => ir_cw_325
  | 6, _, _ => ir_cw_326
  | 7, _, _ => ir_cw_327
  | 8, _, _ => ir_cw_328
  | 9, _, _ => ir_cw_329
  | 10, _, _ => ir_cw_330
  | 11, _, _ => ir_cw_331
  | 12, _, _ => ir_cw_332
  | 13, _, _ => ir_cw_333
  | 14, _, _ => ir_cw_334
  | 15, _, _ => ir_cw_335
  | i + 16, h, _ => absurd h (by omega)
theorem ir_cwc_21 : ∀ i, i < 16 → 336 + i ≠ 364 → ir_cwOK (336 + i)
  | 0, _, _ => ir_cw_336
  | 1, _, _ => ir_cw_337
  | 2, _, _ => ir_cw_338
  | 3, _, _ => ir_cw_339
  | 4, _, _ => ir_cw_340
  | 5, _, _ => ir_cw_341
  | 6, _, _ => ir_cw_342
  | 7, _, _ => ir_cw_343
  | 8, _, _ => ir_cw_344
  | 9, _, _ => ir_cw_345
  | 10, _, _ => ir_cw_346
  | 11, _, _ => ir_cw_347
  | 12, _, _ => ir_cw_348
  | 13, _, _ => ir_cw_349
  | 14, _, _ => ir_cw_350
  | 15, _, _ => ir_cw_351
  | i + 16, h, _ => absurd h (by omega)
theorem ir_cwc_22 : ∀ i, i < 16 → 352 + i ≠ 364 → ir_cwOK (352 + i)
  | 0, _, _ => ir_cw_352
  | 1, _, _ => ir_cw_353
  | 2, _, _ => ir_cw_354
  | 3, _, _ => ir_cw_355
  | 4, _, _ => ir_cw_356
  | 5, _, _ => ir_cw_357
  | 6, _, _ => ir_cw_358
  | 7, _, _ => ir_cw_359
  | 8, _, _ => ir_cw_360
  | 9, _, _ => ir_cw_361
  | 10, _, _ => ir_cw_362
  | 11, _, _ => ir_cw_363
  | 12, _, h => absurd rfl h
  | 13, _, _ => ir_cw_365
  | 14, _, _ => ir_cw_366
  | 15, _, _ => ir_cw_367
  | i + 16, h, _ => absurd h (by omega)
theorem ir_cwc_23 : ∀ i, i < 15 → 368 + i ≠ 364 → ir_cwOK (368 + i)
  | 0, _, _ => ir_cw_368
  | 1, _, _ => ir_cw_369
  | 2, _, _ => ir_cw_370
  | 3, _, _ => ir_cw_371
  | 4, _, _ => ir_cw_372
  | 5, _, _ => ir_cw_373
  | 6, _, _ => ir_cw_374
  | 7, _, _ => ir_cw_375
  | 8, _, _ => ir_cw_376
  | 9, _, _ => ir_cw_377
  | 10, _, _ => ir_cw_378
  | 11, _, _ => ir_cw_379
  | 12, _, _ => ir_cw_380
  | 13, _, _ => ir_cw_381
  | 14, _, _ => ir_cw_382
  | i + 15, h, _ => absurd h (by omega)
def ir_lawN : Nat := 364
theorem ir_cw_ok (y : Nat) (h : y < 383) (hL : y ≠ 364) : ir_cwOK y := by
  have e : y = 16 * (y / 16) + y % 16 := by omega
  have hq : y / 16 < 24 := by omega
  have hr : y % 16 < 16 := by omega
  generalize y / 16 = a at *
  generalize y % 16 = b at *
  subst e
  match a, hq with
  | 0, _ => exact ir_cwc_0 b (by omega) (by omega)
  | 1, _ => exact ir_cwc_1 b (by omega) (by omega)
  | 2, _ => exact ir_cwc_2 b (by omega) (by omega)
  | 3, _ => exact ir_cwc_3 b (by omega) (by omega)
  | 4, _ => exact ir_cwc_4 b (by omega) (by omega)
  | 5, _ => exact ir_cwc_5 b (by omega) (by omega)
  | 6, _ => exact ir_cwc_6 b (by omega) (by omega)
  | 7, _ => exact ir_cwc_7 b (by omega) (by omega)
  | 8, _ => exact ir_cwc_8 b (by omega) (by omega)
  | 9, _ => exact ir_cwc_9 b (by omega) (by omega)
  | 10, _ => exact ir_cwc_10 b (by omega) (by omega)
  | 11, _ => exact ir_cwc_11 b (by omega) (by omega)
  | 12, _ => exact ir_cwc_12 b (by omega) (by omega)
  | 13, _ => exact ir_cwc_13 b (by omega) (by omega)
  | 14, _ => exact ir_cwc_14 b (by omega) (by omega)
  | 15, _ => exact ir_cwc_15 b (by omega) (by omega)
  | 16, _ => exact ir_cwc_16 b (by omega) (by omega)
  | 17, _ => exact ir_cwc_17 b (by omega) (by omega)
  | 18, _ => exact ir_cwc_18 b (by omega) (by omega)
  | 19, _ => exact ir_cwc_19 b (by omega) (by omega)
  | 20, _ => exact ir_cwc_20 b (by omega) (by omega)
  | 21, _ => exact ir_cwc_21 b (by omega) (by omega)
  | 22, _ => exact ir_cwc_22 b (by omega) (by omega)
  | 23, _ => exact ir_cwc_23 b (by omega) (by omega)
  | k + 24, hq => exact absurd hq (by omega)
def ir_ft (c : Nat) : List Nat := match ir_nth [[2, 2, 2, 2], [0, 2, 2], [3, 3, 0, 0, 2, 0, 2, 2, 2, 2, 2], [0, 2, 3, 0, 0, 2, 2, 2, 2, 2], [0, 0, 2, 2, 2, 2, 0, 0, 0, 0, 0], [2, 2, 0, 0, 2], [2, 2, 2, 2, 2, 2, 2, 2, 2], [2, 2, 2, 0, 2], [0, 0, 3, 0, 2, 2, 2, 2, 2], [0, 0, 0, 0, 0, 0, 3, 2, 2, 2, 2, 2], [3, 0, 0, 2], [2, 0, 0, 0, 2, 2, 2, 2, 2, 2, 2, 2, 2, 2, 2, 2, 2, 0, 3, 0], [2, 2, 2, 2, 0, 2, 0, 0, 0, 0, 0, 0, 0, 0, 0, 0, 0, 2, 2, 2, 2, 0, 0, 0, 0, 2, 0, 0, 0, 3, 2, 2, 2, 0, 0, 3, 2, 2, 0, 2, 2, 2, 0, 3, 2, 2, 1, 2, 2, 2]] c with
  | some l => l
  | none => []
def ir_tyc : FieldType → Nat
  | .int => 0
  | .long => 1
  | .boolean => 3
  | .object _ => 2
  | .array _ => 2
  | _ => 9
/-- a field's link: pool entry i of class o is field k of class c, of the kind t -/
def ir_FOK (o i c k t : Nat) : Prop := ∃ (q : vw_C) (ty : FieldType), vwCl[c]? = some q ∧ k < q.2.2 ∧ Cond.fieldLink (ir_on o) i (q.2.1 k).1 (q.2.1 k).2.1 (q.2.1 k).2.2.1 ∈ ir_Tb ∧ (ir_ft c)[k]? = some t ∧ parseFieldDescriptor (q.2.1 k).2.2.1 = some ty ∧ ir_tyc ty = t ∧ q.1 = ir_on c ∧ (q.2.1 k).1 = ir_on c
def ir_fP (e : Nat × Nat × Nat × Nat × Nat) : Prop := ir_FOK e.1 e.2.1 e.2.2.1 e.2.2.2.1 e.2.2.2.2
theorem ir_f_0 : ir_FOK 0 9 0 0 2 := ⟨(RX0, TX0, 4), (.array .int), rfl, by decide, (ir_Tm (ir_k2 87 rfl) rfl), rfl, by decide +kernel, rfl, rfl, rfl⟩
theorem ir_f_1 : ir_FOK 0 15 0 1 2 := ⟨(RX0, TX0, 4), (.array .int), rfl, by decide, (ir_Tm (ir_k2 93 rfl) rfl), rfl, by decide +kernel, rfl, rfl, rfl⟩
theorem ir_f_2 : ir_FOK 0 18 0 2 2 := ⟨(RX0, TX0, 4), (.array .int), rfl, by decide, (ir_Tm (ir_k2 95 rfl) rfl), rfl, by decide +kernel, rfl, rfl, rfl⟩
theorem ir_f_3 : ir_FOK 0 23 0 3 2 := ⟨(RX0, TX0, 4), (.array .int), rfl, by decide, (ir_Tm (ir_k2 96 rfl) rfl), rfl, by decide +kernel, rfl, rfl, rfl⟩
theorem ir_f_4 : ir_FOK 0 35 8 4 2 := ⟨(RX8, TX8, 9), (.array .int), rfl, by decide, (ir_Tm (ir_k1 163 rfl) rfl), rfl, by decide +kernel, rfl, rfl, rfl⟩
theorem ir_f_5 : ir_FOK 0 49 9 7 2 := ⟨(RX9, TX9, 12), (.array .int), rfl, by decide, (ir_Tm (ir_k1 102 rfl) rfl), rfl, by decide +kernel, rfl, rfl, rfl⟩
theorem ir_f_6 : ir_FOK 0 52 8 6 2 := ⟨(RX8, TX8, 9), (.array .int), rfl, by decide, (ir_Tm (ir_k1 173 rfl) rfl), rfl, by decide +kernel, rfl, rfl, rfl⟩
theorem ir_f_7 : ir_FOK 0 55 8 0 0 := ⟨(RX8, TX8, 9), .int, rfl, by decide, (ir_Tm (ir_k1 148 rfl) rfl), rfl, by decide +kernel, rfl, rfl, rfl⟩
theorem ir_f_8 : ir_FOK 0 59 8 7 2 := ⟨(RX8, TX8, 9), (.array .int), rfl, by decide, (ir_Tm (ir_k1 177 rfl) rfl), rfl, by decide +kernel, rfl, rfl, rfl⟩
theorem ir_f_9 : ir_FOK 0 62 8 1 0 := ⟨(RX8, TX8, 9), .int, rfl, by decide, (ir_Tm (ir_k1 151 rfl) rfl), rfl, by decide +kernel, rfl, rfl, rfl⟩
theorem ir_f_10 : ir_FOK 0 65 9 9 2 := ⟨(RX9, TX9, 12), (.object "WellQueue$Law"), rfl, by decide, (ir_Tm (ir_k1 109 rfl) rfl), rfl, by decide +kernel, rfl, rfl, rfl⟩
theorem ir_f_11 : ir_FOK 0 73 8 5 2 := ⟨(RX8, TX8, 9), (.array .int), rfl, by decide, (ir_Tm (ir_k1 169 rfl) rfl), rfl, by decide +kernel, rfl, rfl, rfl⟩
theorem ir_f_12 : ir_FOK 0 76 9 1 0 := ⟨(RX9, TX9, 12), .int, rfl, by decide, (ir_Tm (ir_k1 74 rfl) rfl), rfl, by decide +kernel, rfl, rfl, rfl⟩
theorem ir_f_13 : ir_FOK 0 79 8 2 3 := ⟨(RX8, TX8, 9), .boolean, rfl, by decide, (ir_Tm (ir_k1 156 rfl) rfl), rfl, by decide +kernel, rfl, rfl, rfl⟩
theorem ir_f_14 : ir_FOK 0 86 9 6 3 := ⟨(RX9, TX9, 12), .boolean, rfl, by decide, (ir_Tm (ir_k1 98 rfl) rfl), rfl, by decide +kernel, rfl, rfl, rfl⟩
theorem ir_f_15 : ir_FOK 0 89 8 3 0 := ⟨(RX8, TX8, 9), .int, rfl, by decide, (ir_Tm (ir_k1 160 rfl) rfl), rfl, by decide +kernel, rfl, rfl, rfl⟩
theorem ir_f_16 : ir_FOK 0 92 8 8 2 := ⟨(RX8, TX8, 9), (.array .int), rfl, by decide, (ir_Tm (ir_k1 180 rfl) rfl), rfl, by decide +kernel, rfl, rfl, rfl⟩
theorem ir_f_17 : ir_FOK 0 106 9 4 0 := ⟨(RX9, TX9, 12), .int, rfl, by decide, (ir_Tm (ir_k1 91 rfl) rfl), rfl, by decide +kernel, rfl, rfl, rfl⟩
theorem ir_f_18 : ir_FOK 0 124 9 5 0 := ⟨(RX9, TX9, 12), .int, rfl, by decide, (ir_Tm (ir_k1 95 rfl) rfl), rfl, by decide +kernel, rfl, rfl, rfl⟩
theorem ir_f_19 : ir_FOK 1 11 1 1 2 := ⟨(RX1, TX1, 3), (.array .int), rfl, by decide, (ir_Tm (ir_k1 57 rfl) rfl), rfl, by decide +kernel, rfl, rfl, rfl⟩
theorem ir_f_20 : ir_FOK 1 15 1 2 2 := ⟨(RX1, TX1, 3), (.array .int), rfl, by decide, (ir_Tm (ir_k1 58 rfl) rfl), rfl, by decide +kernel, rfl, rfl, rfl⟩
theorem ir_f_21 : ir_FOK 1 18 1 0 0 := ⟨(RX1, TX1, 3), .int, rfl, by decide, (ir_Tm (ir_k1 56 rfl) rfl), rfl, by decide +kernel, rfl, rfl, rfl⟩
theorem ir_f_22 : ir_FOK 2 9 2 4 2 := ⟨(RX2, TX2, 11), (.array .int), rfl, by decide, (ir_Tm (ir_k2 120 rfl) rfl), rfl, by decide +kernel, rfl, rfl, rfl⟩
theorem ir_f_23 : ir_FOK 2 15 2 6 2 := ⟨(RX2, TX2, 11), (.array .int), rfl, by decide, (ir_Tm (ir_k2 123 rfl) rfl), rfl, by decide +kernel, rfl, rfl, rfl⟩
theorem ir_f_24 : ir_FOK 2 18 2 7 2 := ⟨(RX2, TX2, 11), (.array .int), rfl, by decide, (ir_Tm (ir_k2 124 rfl) rfl), rfl, by decide +kernel, rfl, rfl, rfl⟩
theorem ir_f_25 : ir_FOK 2 21 2 8 2 := ⟨(RX2, TX2, 11), (.object "WellQueue$Told"), rfl, by decide, (ir_Tm (ir_k2 125 rfl) rfl), rfl, by decide +kernel, rfl, rfl, rfl⟩
theorem ir_f_26 : ir_FOK 2 25 2 9 2 := ⟨(RX2, TX2, 11), (.object "WellQueue$State"), rfl, by decide, (ir_Tm (ir_k2 126 rfl) rfl), rfl, by decide +kernel, rfl, rfl, rfl⟩
theorem ir_f_27 : ir_FOK 2 29 2 10 2 := ⟨(RX2, TX2, 11), (.object "WellQueue$Flow"), rfl, by decide, (ir_Tm (ir_k2 127 rfl) rfl), rfl, by decide +kernel, rfl, rfl, rfl⟩
theorem ir_f_28 : ir_FOK 2 33 2 5 0 := ⟨(RX2, TX2, 11), .int, rfl, by decide, (ir_Tm (ir_k2 122 rfl) rfl), rfl, by decide +kernel, rfl, rfl, rfl⟩
theorem ir_f_29 : ir_FOK 2 37 2 1 3 := ⟨(RX2, TX2, 11), .boolean, rfl, by decide, (ir_Tm (ir_k2 114 rfl) rfl), rfl, by decide +kernel, rfl, rfl, rfl⟩
theorem ir_f_30 : ir_FOK 2 41 2 3 0 := ⟨(RX2, TX2, 11), .int, rfl, by decide, (ir_Tm (ir_k2 118 rfl) rfl), rfl, by decide +kernel, rfl, rfl, rfl⟩
theorem ir_f_31 : ir_FOK 2 44 2 2 0 := ⟨(RX2, TX2, 11), .int, rfl, by decide, (ir_Tm (ir_k2 116 rfl) rfl), rfl, by decide +kernel, rfl, rfl, rfl⟩
theorem ir_f_32 : ir_FOK 2 66 2 0 3 := ⟨(RX2, TX2, 11), .boolean, rfl, by decide, (ir_Tm (ir_k2 112 rfl) rfl), rfl, by decide +kernel, rfl, rfl, rfl⟩
theorem ir_f_33 : ir_FOK 2 69 8 0 0 := ⟨(RX8, TX8, 9), .int, rfl, by decide, (ir_Tm (ir_k1 147 rfl) rfl), rfl, by decide +kernel, rfl, rfl, rfl⟩
theorem ir_f_34 : ir_FOK 2 72 8 4 2 := ⟨(RX8, TX8, 9), (.array .int), rfl, by decide, (ir_Tm (ir_k1 164 rfl) rfl), rfl, by decide +kernel, rfl, rfl, rfl⟩
theorem ir_f_35 : ir_FOK 2 75 8 5 2 := ⟨(RX8, TX8, 9), (.array .int), rfl, by decide, (ir_Tm (ir_k1 168 rfl) rfl), rfl, by decide +kernel, rfl, rfl, rfl⟩
theorem ir_f_36 : ir_FOK 2 86 9 8 2 := ⟨(RX9, TX9, 12), (.array .int), rfl, by decide, (ir_Tm (ir_k1 106 rfl) rfl), rfl, by decide +kernel, rfl, rfl, rfl⟩
theorem ir_f_37 : ir_FOK 2 95 9 4 0 := ⟨(RX9, TX9, 12), .int, rfl, by decide, (ir_Tm (ir_k1 88 rfl) rfl), rfl, by decide +kernel, rfl, rfl, rfl⟩
theorem ir_f_38 : ir_FOK 2 102 9 2 0 := ⟨(RX9, TX9, 12), .int, rfl, by decide, (ir_Tm (ir_k1 80 rfl) rfl), rfl, by decide +kernel, rfl, rfl, rfl⟩
theorem ir_f_39 : ir_FOK 2 105 0 0 2 := ⟨(RX0, TX0, 4), (.array .int), rfl, by decide, (ir_Tm (ir_k2 90 rfl) rfl), rfl, by decide +kernel, rfl, rfl, rfl⟩
theorem ir_f_40 : ir_FOK 2 111 8 2 3 := ⟨(RX8, TX8, 9), .boolean, rfl, by decide, (ir_Tm (ir_k1 155 rfl) rfl), rfl, by decide +kernel, rfl, rfl, rfl⟩
theorem ir_f_41 : ir_FOK 3 9 3 1 2 := ⟨(RX3, TX3, 10), (.array .int), rfl, by decide, (ir_Tm (ir_k2 159 rfl) rfl), rfl, by decide +kernel, rfl, rfl, rfl⟩
theorem ir_f_42 : ir_FOK 3 15 3 5 2 := ⟨(RX3, TX3, 10), (.array .int), rfl, by decide, (ir_Tm (ir_k2 164 rfl) rfl), rfl, by decide +kernel, rfl, rfl, rfl⟩
theorem ir_f_43 : ir_FOK 3 18 3 6 2 := ⟨(RX3, TX3, 10), (.array .int), rfl, by decide, (ir_Tm (ir_k2 165 rfl) rfl), rfl, by decide +kernel, rfl, rfl, rfl⟩
theorem ir_f_44 : ir_FOK 3 21 3 7 2 := ⟨(RX3, TX3, 10), (.object "WellQueue$Told"), rfl, by decide, (ir_Tm (ir_k2 166 rfl) rfl), rfl, by decide +kernel, rfl, rfl, rfl⟩
theorem ir_f_45 : ir_FOK 3 25 3 8 2 := ⟨(RX3, TX3, 10), (.object "WellQueue$State"), rfl, by decide, (ir_Tm (ir_k2 167 rfl) rfl), rfl, by decide +kernel, rfl, rfl, rfl⟩
theorem ir_f_46 : ir_FOK 3 29 3 9 2 := ⟨(RX3, TX3, 10), (.object "WellQueue$Flow"), rfl, by decide, (ir_Tm (ir_k2 168 rfl) rfl), rfl, by decide +kernel, rfl, rfl, rfl⟩
theorem ir_f_47 : ir_FOK 3 33 3 4 0 := ⟨(RX3, TX3, 10), .int, rfl, by decide, (ir_Tm (ir_k2 163 rfl) rfl), rfl, by decide +kernel, rfl, rfl, rfl⟩
theorem ir_f_48 : ir_FOK 3 37 3 2 3 := ⟨(RX3, TX3, 10), .boolean, rfl, by decide, (ir_Tm (ir_k2 161 rfl) rfl), rfl, by decide +kernel, rfl, rfl, rfl⟩
theorem ir_f_49 : ir_FOK 3 41 3 3 0 := ⟨(RX3, TX3, 10), .int, rfl, by decide, (ir_Tm (ir_k2 162 rfl) rfl), rfl, by decide +kernel, rfl, rfl, rfl⟩
theorem ir_f_50 : ir_FOK 3 44 9 2 0 := ⟨(RX9, TX9, 12), .int, rfl, by decide, (ir_Tm (ir_k1 78 rfl) rfl), rfl, by decide +kernel, rfl, rfl, rfl⟩
theorem ir_f_51 : ir_FOK 3 55 8 5 2 := ⟨(RX8, TX8, 9), (.array .int), rfl, by decide, (ir_Tm (ir_k1 167 rfl) rfl), rfl, by decide +kernel, rfl, rfl, rfl⟩
theorem ir_f_52 : ir_FOK 3 71 9 1 0 := ⟨(RX9, TX9, 12), .int, rfl, by decide, (ir_Tm (ir_k1 73 rfl) rfl), rfl, by decide +kernel, rfl, rfl, rfl⟩
theorem ir_f_53 : ir_FOK 3 77 0 0 2 := ⟨(RX0, TX0, 4), (.array .int), rfl, by decide, (ir_Tm (ir_k2 89 rfl) rfl), rfl, by decide +kernel, rfl, rfl, rfl⟩
theorem ir_f_54 : ir_FOK 3 80 9 4 0 := ⟨(RX9, TX9, 12), .int, rfl, by decide, (ir_Tm (ir_k1 86 rfl) rfl), rfl, by decide +kernel, rfl, rfl, rfl⟩
theorem ir_f_55 : ir_FOK 3 91 3 0 0 := ⟨(RX3, TX3, 10), .int, rfl, by decide, (ir_Tm (ir_k2 157 rfl) rfl), rfl, by decide +kernel, rfl, rfl, rfl⟩
theorem ir_f_56 : ir_FOK 4 16 4 2 2 := ⟨(RX4, TX4, 11), (.object "WellQueue$Told"), rfl, by decide, (ir_Tm (ir_k2 45 rfl) rfl), rfl, by decide +kernel, rfl, rfl, rfl⟩
theorem ir_f_57 : ir_FOK 4 23 4 3 2 := ⟨(RX4, TX4, 11), (.object "WellQueue$State"), rfl, by decide, (ir_Tm (ir_k2 47 rfl) rfl), rfl, by decide +kernel, rfl, rfl, rfl⟩
theorem ir_f_58 : ir_FOK 4 35 4 4 2 := ⟨(RX4, TX4, 11), (.array .char), rfl, by decide, (ir_Tm (ir_k2 49 rfl) rfl), rfl, by decide +kernel, rfl, rfl, rfl⟩
theorem ir_f_59 : ir_FOK 4 39 4 5 2 := ⟨(RX4, TX4, 11), (.array .byte), rfl, by decide, (ir_Tm (ir_k2 50 rfl) rfl), rfl, by decide +kernel, rfl, rfl, rfl⟩
theorem ir_f_60 : ir_FOK 4 52 4 6 0 := ⟨(RX4, TX4, 11), .int, rfl, by decide, (ir_Tm (ir_k2 51 rfl) rfl), rfl, by decide +kernel, rfl, rfl, rfl⟩
theorem ir_f_61 : ir_FOK 4 56 4 7 0 := ⟨(RX4, TX4, 11), .int, rfl, by decide, (ir_Tm (ir_k2 52 rfl) rfl), rfl, by decide +kernel, rfl, rfl, rfl⟩
theorem ir_f_62 : ir_FOK 4 59 4 0 0 := ⟨(RX4, TX4, 11), .int, rfl, by decide, (ir_Tm (ir_k2 41 rfl) rfl), rfl, by decide +kernel, rfl, rfl, rfl⟩
theorem ir_f_63 : ir_FOK 4 62 4 1 0 := ⟨(RX4, TX4, 11), .int, rfl, by decide, (ir_Tm (ir_k2 43 rfl) rfl), rfl, by decide +kernel, rfl, rfl, rfl⟩
theorem ir_f_64 : ir_FOK 4 76 4 8 0 := ⟨(RX4, TX4, 11), .int, rfl, by decide, (ir_Tm (ir_k2 53 rfl) rfl), rfl, by decide +kernel, rfl, rfl, rfl⟩
theorem ir_f_65 : ir_FOK 4 86 9 0 0 := ⟨(RX9, TX9, 12), .int, rfl, by decide, (ir_Tm (ir_k1 69 rfl) rfl), rfl, by decide +kernel, rfl, rfl, rfl⟩
theorem ir_f_66 : ir_FOK 4 89 4 9 0 := ⟨(RX4, TX4, 11), .int, rfl, by decide, (ir_Tm (ir_k2 54 rfl) rfl), rfl, by decide +kernel, rfl, rfl, rfl⟩
theorem ir_f_67 : ir_FOK 4 104 4 10 0 := ⟨(RX4, TX4, 11), .int, rfl, by decide, (ir_Tm (ir_k2 55 rfl) rfl), rfl, by decide +kernel, rfl, rfl, rfl⟩
theorem ir_f_68 : ir_FOK 4 114 9 1 0 := ⟨(RX9, TX9, 12), .int, rfl, by decide, (ir_Tm (ir_k1 75 rfl) rfl), rfl, by decide +kernel, rfl, rfl, rfl⟩
theorem ir_f_69 : ir_FOK 4 129 9 4 0 := ⟨(RX9, TX9, 12), .int, rfl, by decide, (ir_Tm (ir_k1 90 rfl) rfl), rfl, by decide +kernel, rfl, rfl, rfl⟩
theorem ir_f_70 : ir_FOK 4 132 8 2 3 := ⟨(RX8, TX8, 9), .boolean, rfl, by decide, (ir_Tm (ir_k1 157 rfl) rfl), rfl, by decide +kernel, rfl, rfl, rfl⟩
theorem ir_f_71 : ir_FOK 4 136 9 6 3 := ⟨(RX9, TX9, 12), .boolean, rfl, by decide, (ir_Tm (ir_k1 99 rfl) rfl), rfl, by decide +kernel, rfl, rfl, rfl⟩
theorem ir_f_72 : ir_FOK 4 142 9 9 2 := ⟨(RX9, TX9, 12), (.object "WellQueue$Law"), rfl, by decide, (ir_Tm (ir_k1 110 rfl) rfl), rfl, by decide +kernel, rfl, rfl, rfl⟩
theorem ir_f_73 : ir_FOK 4 150 9 2 0 := ⟨(RX9, TX9, 12), .int, rfl, by decide, (ir_Tm (ir_k1 81 rfl) rfl), rfl, by decide +kernel, rfl, rfl, rfl⟩
theorem ir_f_74 : ir_FOK 4 153 9 7 2 := ⟨(RX9, TX9, 12), (.array .int), rfl, by decide, (ir_Tm (ir_k1 104 rfl) rfl), rfl, by decide +kernel, rfl, rfl, rfl⟩
theorem ir_f_75 : ir_FOK 4 157 8 6 2 := ⟨(RX8, TX8, 9), (.array .int), rfl, by decide, (ir_Tm (ir_k1 175 rfl) rfl), rfl, by decide +kernel, rfl, rfl, rfl⟩
theorem ir_f_76 : ir_FOK 4 160 8 5 2 := ⟨(RX8, TX8, 9), (.array .int), rfl, by decide, (ir_Tm (ir_k1 171 rfl) rfl), rfl, by decide +kernel, rfl, rfl, rfl⟩
theorem ir_f_77 : ir_FOK 4 173 9 3 0 := ⟨(RX9, TX9, 12), .int, rfl, by decide, (ir_Tm (ir_k1 84 rfl) rfl), rfl, by decide +kernel, rfl, rfl, rfl⟩
theorem ir_f_78 : ir_FOK 4 179 9 8 2 := ⟨(RX9, TX9, 12), (.array .int), rfl, by decide, (ir_Tm (ir_k1 107 rfl) rfl), rfl, by decide +kernel, rfl, rfl, rfl⟩
theorem ir_f_79 : ir_FOK 4 185 9 5 0 := ⟨(RX9, TX9, 12), .int, rfl, by decide, (ir_Tm (ir_k1 94 rfl) rfl), rfl, by decide +kernel, rfl, rfl, rfl⟩
theorem ir_f_80 : ir_FOK 5 12 5 0 2 := ⟨(RX5, TX5, 5), (.object "WellQueue$Told"), rfl, by decide, (ir_Tm (ir_k1 201 rfl) rfl), rfl, by decide +kernel, rfl, rfl, rfl⟩
theorem ir_f_81 : ir_FOK 5 21 5 1 2 := ⟨(RX5, TX5, 5), (.object "WellQueue$State"), rfl, by decide, (ir_Tm (ir_k1 203 rfl) rfl), rfl, by decide +kernel, rfl, rfl, rfl⟩
theorem ir_f_82 : ir_FOK 5 25 5 4 2 := ⟨(RX5, TX5, 5), (.array (.object "WellQueue$State")), rfl, by decide, (ir_Tm (ir_k1 208 rfl) rfl), rfl, by decide +kernel, rfl, rfl, rfl⟩
theorem ir_f_83 : ir_FOK 5 36 5 2 0 := ⟨(RX5, TX5, 5), .int, rfl, by decide, (ir_Tm (ir_k1 205 rfl) rfl), rfl, by decide +kernel, rfl, rfl, rfl⟩
theorem ir_f_84 : ir_FOK 5 40 5 3 0 := ⟨(RX5, TX5, 5), .int, rfl, by decide, (ir_Tm (ir_k1 207 rfl) rfl), rfl, by decide +kernel, rfl, rfl, rfl⟩
theorem ir_f_85 : ir_FOK 6 9 6 0 2 := ⟨(RX6, TX6, 9), (.array .int), rfl, by decide, (ir_Tm (ir_k2 218 rfl) rfl), rfl, by decide +kernel, rfl, rfl, rfl⟩
theorem ir_f_86 : ir_FOK 6 15 6 1 2 := ⟨(RX6, TX6, 9), (.array .int), rfl, by decide, (ir_Tm (ir_k2 219 rfl) rfl), rfl, by decide +kernel, rfl, rfl, rfl⟩
theorem ir_f_87 : ir_FOK 6 18 6 2 2 := ⟨(RX6, TX6, 9), (.array .int), rfl, by decide, (ir_Tm (ir_k2 220 rfl) rfl), rfl, by decide +kernel, rfl, rfl, rfl⟩
theorem ir_f_88 : ir_FOK 6 21 6 3 2 := ⟨(RX6, TX6, 9), (.array .boolean), rfl, by decide, (ir_Tm (ir_k2 221 rfl) rfl), rfl, by decide +kernel, rfl, rfl, rfl⟩
theorem ir_f_89 : ir_FOK 6 25 6 4 2 := ⟨(RX6, TX6, 9), (.array .long), rfl, by decide, (ir_Tm (ir_k2 222 rfl) rfl), rfl, by decide +kernel, rfl, rfl, rfl⟩
theorem ir_f_90 : ir_FOK 6 29 6 5 2 := ⟨(RX6, TX6, 9), (.array .long), rfl, by decide, (ir_Tm (ir_k2 223 rfl) rfl), rfl, by decide +kernel, rfl, rfl, rfl⟩
theorem ir_f_91 : ir_FOK 6 32 6 6 2 := ⟨(RX6, TX6, 9), (.object "WellQueue$Told"), rfl, by decide, (ir_Tm (ir_k2 224 rfl) rfl), rfl, by decide +kernel, rfl, rfl, rfl⟩
theorem ir_f_92 : ir_FOK 6 36 6 7 2 := ⟨(RX6, TX6, 9), (.object "WellQueue$State"), rfl, by decide, (ir_Tm (ir_k2 225 rfl) rfl), rfl, by decide +kernel, rfl, rfl, rfl⟩
theorem ir_f_93 : ir_FOK 6 40 6 8 2 := ⟨(RX6, TX6, 9), (.object "WellQueue$Flow"), rfl, by decide, (ir_Tm (ir_k2 226 rfl) rfl), rfl, by decide +kernel, rfl, rfl, rfl⟩
theorem ir_f_94 : ir_FOK 6 53 8 0 0 := ⟨(RX8, TX8, 9), .int, rfl, by decide, (ir_Tm (ir_k1 146 rfl) rfl), rfl, by decide +kernel, rfl, rfl, rfl⟩
theorem ir_f_95 : ir_FOK 6 69 9 1 0 := ⟨(RX9, TX9, 12), .int, rfl, by decide, (ir_Tm (ir_k1 72 rfl) rfl), rfl, by decide +kernel, rfl, rfl, rfl⟩
theorem ir_f_96 : ir_FOK 6 78 8 2 3 := ⟨(RX8, TX8, 9), .boolean, rfl, by decide, (ir_Tm (ir_k1 154 rfl) rfl), rfl, by decide +kernel, rfl, rfl, rfl⟩
theorem ir_f_97 : ir_FOK 6 107 0 0 2 := ⟨(RX0, TX0, 4), (.array .int), rfl, by decide, (ir_Tm (ir_k2 91 rfl) rfl), rfl, by decide +kernel, rfl, rfl, rfl⟩
theorem ir_f_98 : ir_FOK 6 110 9 4 0 := ⟨(RX9, TX9, 12), .int, rfl, by decide, (ir_Tm (ir_k1 89 rfl) rfl), rfl, by decide +kernel, rfl, rfl, rfl⟩
theorem ir_f_99 : ir_FOK 7 9 7 0 2 := ⟨(RX7, TX7, 5), (.array .int), rfl, by decide, (ir_Tm (ir_k2 196 rfl) rfl), rfl, by decide +kernel, rfl, rfl, rfl⟩
theorem ir_f_100 : ir_FOK 7 15 7 1 2 := ⟨(RX7, TX7, 5), (.array .int), rfl, by decide, (ir_Tm (ir_k2 197 rfl) rfl), rfl, by decide +kernel, rfl, rfl, rfl⟩
theorem ir_f_101 : ir_FOK 7 18 7 2 2 := ⟨(RX7, TX7, 5), (.array .int), rfl, by decide, (ir_Tm (ir_k2 198 rfl) rfl), rfl, by decide +kernel, rfl, rfl, rfl⟩
theorem ir_f_102 : ir_FOK 7 21 7 4 2 := ⟨(RX7, TX7, 5), (.object "WellQueue$Told"), rfl, by decide, (ir_Tm (ir_k2 200 rfl) rfl), rfl, by decide +kernel, rfl, rfl, rfl⟩
theorem ir_f_103 : ir_FOK 7 25 7 3 0 := ⟨(RX7, TX7, 5), .int, rfl, by decide, (ir_Tm (ir_k2 199 rfl) rfl), rfl, by decide +kernel, rfl, rfl, rfl⟩
theorem ir_f_104 : ir_FOK 7 35 8 0 0 := ⟨(RX8, TX8, 9), .int, rfl, by decide, (ir_Tm (ir_k1 145 rfl) rfl), rfl, by decide +kernel, rfl, rfl, rfl⟩
theorem ir_f_105 : ir_FOK 7 40 8 4 2 := ⟨(RX8, TX8, 9), (.array .int), rfl, by decide, (ir_Tm (ir_k1 162 rfl) rfl), rfl, by decide +kernel, rfl, rfl, rfl⟩
theorem ir_f_106 : ir_FOK 7 43 0 0 2 := ⟨(RX0, TX0, 4), (.array .int), rfl, by decide, (ir_Tm (ir_k2 88 rfl) rfl), rfl, by decide +kernel, rfl, rfl, rfl⟩
theorem ir_f_107 : ir_FOK 7 63 9 4 0 := ⟨(RX9, TX9, 12), .int, rfl, by decide, (ir_Tm (ir_k1 87 rfl) rfl), rfl, by decide +kernel, rfl, rfl, rfl⟩
theorem ir_f_108 : ir_FOK 7 72 9 2 0 := ⟨(RX9, TX9, 12), .int, rfl, by decide, (ir_Tm (ir_k1 79 rfl) rfl), rfl, by decide +kernel, rfl, rfl, rfl⟩
theorem ir_f_109 : ir_FOK 8 9 8 4 2 := ⟨(RX8, TX8, 9), (.array .int), rfl, by decide, (ir_Tm (ir_k1 161 rfl) rfl), rfl, by decide +kernel, rfl, rfl, rfl⟩
theorem ir_f_110 : ir_FOK 8 15 8 5 2 := ⟨(RX8, TX8, 9), (.array .int), rfl, by decide, (ir_Tm (ir_k1 166 rfl) rfl), rfl, by decide +kernel, rfl, rfl, rfl⟩
theorem ir_f_111 : ir_FOK 8 18 8 6 2 := ⟨(RX8, TX8, 9), (.array .int), rfl, by decide, (ir_Tm (ir_k1 172 rfl) rfl), rfl, by decide +kernel, rfl, rfl, rfl⟩
theorem ir_f_112 : ir_FOK 8 21 8 7 2 := ⟨(RX8, TX8, 9), (.array .int), rfl, by decide, (ir_Tm (ir_k1 176 rfl) rfl), rfl, by decide +kernel, rfl, rfl, rfl⟩
theorem ir_f_113 : ir_FOK 8 24 8 8 2 := ⟨(RX8, TX8, 9), (.array .int), rfl, by decide, (ir_Tm (ir_k1 179 rfl) rfl), rfl, by decide +kernel, rfl, rfl, rfl⟩
theorem ir_f_114 : ir_FOK 8 27 8 0 0 := ⟨(RX8, TX8, 9), .int, rfl, by decide, (ir_Tm (ir_k1 144 rfl) rfl), rfl, by decide +kernel, rfl, rfl, rfl⟩
theorem ir_f_115 : ir_FOK 8 31 8 1 0 := ⟨(RX8, TX8, 9), .int, rfl, by decide, (ir_Tm (ir_k1 150 rfl) rfl), rfl, by decide +kernel, rfl, rfl, rfl⟩
theorem ir_f_116 : ir_FOK 8 34 8 2 3 := ⟨(RX8, TX8, 9), .boolean, rfl, by decide, (ir_Tm (ir_k1 153 rfl) rfl), rfl, by decide +kernel, rfl, rfl, rfl⟩
theorem ir_f_117 : ir_FOK 8 38 8 3 0 := ⟨(RX8, TX8, 9), .int, rfl, by decide, (ir_Tm (ir_k1 159 rfl) rfl), rfl, by decide +kernel, rfl, rfl, rfl⟩
theorem ir_f_118 : ir_FOK 9 9 9 4 0 := ⟨(RX9, TX9, 12), .int, rfl, by decide, (ir_Tm (ir_k1 85 rfl) rfl), rfl, by decide +kernel, rfl, rfl, rfl⟩
theorem ir_f_119 : ir_FOK 9 15 9 7 2 := ⟨(RX9, TX9, 12), (.array .int), rfl, by decide, (ir_Tm (ir_k1 101 rfl) rfl), rfl, by decide +kernel, rfl, rfl, rfl⟩
theorem ir_f_120 : ir_FOK 9 19 9 8 2 := ⟨(RX9, TX9, 12), (.array .int), rfl, by decide, (ir_Tm (ir_k1 105 rfl) rfl), rfl, by decide +kernel, rfl, rfl, rfl⟩
theorem ir_f_121 : ir_FOK 9 25 9 9 2 := ⟨(RX9, TX9, 12), (.object "WellQueue$Law"), rfl, by decide, (ir_Tm (ir_k1 108 rfl) rfl), rfl, by decide +kernel, rfl, rfl, rfl⟩
theorem ir_f_122 : ir_FOK 9 29 9 10 2 := ⟨(RX9, TX9, 12), (.array .int), rfl, by decide, (ir_Tm (ir_k1 111 rfl) rfl), rfl, by decide +kernel, rfl, rfl, rfl⟩
theorem ir_f_123 : ir_FOK 9 32 9 11 2 := ⟨(RX9, TX9, 12), (.array .int), rfl, by decide, (ir_Tm (ir_k1 112 rfl) rfl), rfl, by decide +kernel, rfl, rfl, rfl⟩
theorem ir_f_124 : ir_FOK 9 35 9 0 0 := ⟨(RX9, TX9, 12), .int, rfl, by decide, (ir_Tm (ir_k1 68 rfl) rfl), rfl, by decide +kernel, rfl, rfl, rfl⟩
theorem ir_f_125 : ir_FOK 9 38 9 1 0 := ⟨(RX9, TX9, 12), .int, rfl, by decide, (ir_Tm (ir_k1 71 rfl) rfl), rfl, by decide +kernel, rfl, rfl, rfl⟩
theorem ir_f_126 : ir_FOK 9 41 9 2 0 := ⟨(RX9, TX9, 12), .int, rfl, by decide, (ir_Tm (ir_k1 77 rfl) rfl), rfl, by decide +kernel, rfl, rfl, rfl⟩
theorem ir_f_127 : ir_FOK 9 44 9 3 0 := ⟨(RX9, TX9, 12), .int, rfl, by decide, (ir_Tm (ir_k1 83 rfl) rfl), rfl, by decide +kernel, rfl, rfl, rfl⟩
theorem ir_f_128 : ir_FOK 9 47 9 5 0 := ⟨(RX9, TX9, 12), .int, rfl, by decide, (ir_Tm (ir_k1 93 rfl) rfl), rfl, by decide +kernel, rfl, rfl, rfl⟩
theorem ir_f_129 : ir_FOK 9 50 9 6 3 := ⟨(RX9, TX9, 12), .boolean, rfl, by decide, (ir_Tm (ir_k1 97 rfl) rfl), rfl, by decide +kernel, rfl, rfl, rfl⟩
theorem ir_f_130 : ir_FOK 10 9 10 0 3 := ⟨(RX10, TX10, 4), .boolean, rfl, by decide, (ir_Tm (ir_k3 12 rfl) rfl), rfl, by decide +kernel, rfl, rfl, rfl⟩
theorem ir_f_131 : ir_FOK 10 15 10 3 2 := ⟨(RX10, TX10, 4), (.array .long), rfl, by decide, (ir_Tm (ir_k3 17 rfl) rfl), rfl, by decide +kernel, rfl, rfl, rfl⟩
theorem ir_f_132 : ir_FOK 10 19 10 2 0 := ⟨(RX10, TX10, 4), .int, rfl, by decide, (ir_Tm (ir_k3 16 rfl) rfl), rfl, by decide +kernel, rfl, rfl, rfl⟩
theorem ir_f_133 : ir_FOK 10 23 10 1 0 := ⟨(RX10, TX10, 4), .int, rfl, by decide, (ir_Tm (ir_k3 14 rfl) rfl), rfl, by decide +kernel, rfl, rfl, rfl⟩
theorem ir_f_134 : ir_FOK 11 9 11 0 2 := ⟨(RX11, TX11, 20), (.array .byte), rfl, by decide, (ir_Tm (ir_k3 27 rfl) rfl), rfl, by decide +kernel, rfl, rfl, rfl⟩
theorem ir_f_135 : ir_FOK 11 13 11 3 0 := ⟨(RX11, TX11, 20), .int, rfl, by decide, (ir_Tm (ir_k3 30 rfl) rfl), rfl, by decide +kernel, rfl, rfl, rfl⟩
theorem ir_f_136 : ir_FOK 11 20 11 4 2 := ⟨(RX11, TX11, 20), (.object "WellQueue$Scene"), rfl, by decide, (ir_Tm (ir_k3 31 rfl) rfl), rfl, by decide +kernel, rfl, rfl, rfl⟩
theorem ir_f_137 : ir_FOK 11 24 5 0 2 := ⟨(RX5, TX5, 5), (.object "WellQueue$Told"), rfl, by decide, (ir_Tm (ir_k1 202 rfl) rfl), rfl, by decide +kernel, rfl, rfl, rfl⟩
theorem ir_f_138 : ir_FOK 11 28 11 5 2 := ⟨(RX11, TX11, 20), (.object "WellQueue$Told"), rfl, by decide, (ir_Tm (ir_k3 32 rfl) rfl), rfl, by decide +kernel, rfl, rfl, rfl⟩
theorem ir_f_139 : ir_FOK 11 29 5 1 2 := ⟨(RX5, TX5, 5), (.object "WellQueue$State"), rfl, by decide, (ir_Tm (ir_k1 204 rfl) rfl), rfl, by decide +kernel, rfl, rfl, rfl⟩
theorem ir_f_140 : ir_FOK 11 33 11 6 2 := ⟨(RX11, TX11, 20), (.object "WellQueue$State"), rfl, by decide, (ir_Tm (ir_k3 33 rfl) rfl), rfl, by decide +kernel, rfl, rfl, rfl⟩
theorem ir_f_141 : ir_FOK 11 37 11 7 2 := ⟨(RX11, TX11, 20), (.object "WellQueue$State"), rfl, by decide, (ir_Tm (ir_k3 34 rfl) rfl), rfl, by decide +kernel, rfl, rfl, rfl⟩
theorem ir_f_142 : ir_FOK 11 40 11 8 2 := ⟨(RX11, TX11, 20), (.array (.object "WellQueue$Scene")), rfl, by decide, (ir_Tm (ir_k3 35 rfl) rfl), rfl, by decide +kernel, rfl, rfl, rfl⟩
theorem ir_f_143 : ir_FOK 11 44 11 9 2 := ⟨(RX11, TX11, 20), (.array .boolean), rfl, by decide, (ir_Tm (ir_k3 36 rfl) rfl), rfl, by decide +kernel, rfl, rfl, rfl⟩
theorem ir_f_144 : ir_FOK 11 50 11 10 2 := ⟨(RX11, TX11, 20), (.array (.object "WellQueue$Tray")), rfl, by decide, (ir_Tm (ir_k3 37 rfl) rfl), rfl, by decide +kernel, rfl, rfl, rfl⟩
theorem ir_f_145 : ir_FOK 11 57 11 11 2 := ⟨(RX11, TX11, 20), (.object "WellQueue$Reader"), rfl, by decide, (ir_Tm (ir_k3 38 rfl) rfl), rfl, by decide +kernel, rfl, rfl, rfl⟩
theorem ir_f_146 : ir_FOK 11 64 11 12 2 := ⟨(RX11, TX11, 20), (.object "WellQueue$Flow"), rfl, by decide, (ir_Tm (ir_k3 39 rfl) rfl), rfl, by decide +kernel, rfl, rfl, rfl⟩
theorem ir_f_147 : ir_FOK 11 71 11 13 2 := ⟨(RX11, TX11, 20), (.object "WellQueue$Orders"), rfl, by decide, (ir_Tm (ir_k3 40 rfl) rfl), rfl, by decide +kernel, rfl, rfl, rfl⟩
theorem ir_f_148 : ir_FOK 11 78 11 14 2 := ⟨(RX11, TX11, 20), (.object "WellQueue$Plot"), rfl, by decide, (ir_Tm (ir_k3 41 rfl) rfl), rfl, by decide +kernel, rfl, rfl, rfl⟩
theorem ir_f_149 : ir_FOK 11 85 11 15 2 := ⟨(RX11, TX11, 20), (.object "WellQueue$Shares"), rfl, by decide, (ir_Tm (ir_k3 42 rfl) rfl), rfl, by decide +kernel, rfl, rfl, rfl⟩
theorem ir_f_150 : ir_FOK 11 92 11 16 2 := ⟨(RX11, TX11, 20), (.object "WellQueue$Secrets"), rfl, by decide, (ir_Tm (ir_k3 43 rfl) rfl), rfl, by decide +kernel, rfl, rfl, rfl⟩
theorem ir_f_151 : ir_FOK 11 97 11 1 0 := ⟨(RX11, TX11, 20), .int, rfl, by decide, (ir_Tm (ir_k3 28 rfl) rfl), rfl, by decide +kernel, rfl, rfl, rfl⟩
theorem ir_f_152 : ir_FOK 11 115 4 0 0 := ⟨(RX4, TX4, 11), .int, rfl, by decide, (ir_Tm (ir_k2 42 rfl) rfl), rfl, by decide +kernel, rfl, rfl, rfl⟩
theorem ir_f_153 : ir_FOK 11 118 11 2 0 := ⟨(RX11, TX11, 20), .int, rfl, by decide, (ir_Tm (ir_k3 29 rfl) rfl), rfl, by decide +kernel, rfl, rfl, rfl⟩
theorem ir_f_154 : ir_FOK 11 119 4 1 0 := ⟨(RX4, TX4, 11), .int, rfl, by decide, (ir_Tm (ir_k2 44 rfl) rfl), rfl, by decide +kernel, rfl, rfl, rfl⟩
theorem ir_f_155 : ir_FOK 11 120 4 2 2 := ⟨(RX4, TX4, 11), (.object "WellQueue$Told"), rfl, by decide, (ir_Tm (ir_k2 46 rfl) rfl), rfl, by decide +kernel, rfl, rfl, rfl⟩
theorem ir_f_156 : ir_FOK 11 121 4 3 2 := ⟨(RX4, TX4, 11), (.object "WellQueue$State"), rfl, by decide, (ir_Tm (ir_k2 48 rfl) rfl), rfl, by decide +kernel, rfl, rfl, rfl⟩
theorem ir_f_157 : ir_FOK 11 126 2 0 3 := ⟨(RX2, TX2, 11), .boolean, rfl, by decide, (ir_Tm (ir_k2 113 rfl) rfl), rfl, by decide +kernel, rfl, rfl, rfl⟩
theorem ir_f_158 : ir_FOK 11 130 9 0 0 := ⟨(RX9, TX9, 12), .int, rfl, by decide, (ir_Tm (ir_k1 70 rfl) rfl), rfl, by decide +kernel, rfl, rfl, rfl⟩
theorem ir_f_159 : ir_FOK 11 142 8 5 2 := ⟨(RX8, TX8, 9), (.array .int), rfl, by decide, (ir_Tm (ir_k1 170 rfl) rfl), rfl, by decide +kernel, rfl, rfl, rfl⟩
theorem ir_f_160 : ir_FOK 11 146 9 7 2 := ⟨(RX9, TX9, 12), (.array .int), rfl, by decide, (ir_Tm (ir_k1 103 rfl) rfl), rfl, by decide +kernel, rfl, rfl, rfl⟩
theorem ir_f_161 : ir_FOK 11 149 8 6 2 := ⟨(RX8, TX8, 9), (.array .int), rfl, by decide, (ir_Tm (ir_k1 174 rfl) rfl), rfl, by decide +kernel, rfl, rfl, rfl⟩
theorem ir_f_162 : ir_FOK 11 152 8 7 2 := ⟨(RX8, TX8, 9), (.array .int), rfl, by decide, (ir_Tm (ir_k1 178 rfl) rfl), rfl, by decide +kernel, rfl, rfl, rfl⟩
theorem ir_f_163 : ir_FOK 11 185 8 4 2 := ⟨(RX8, TX8, 9), (.array .int), rfl, by decide, (ir_Tm (ir_k1 165 rfl) rfl), rfl, by decide +kernel, rfl, rfl, rfl⟩
theorem ir_f_164 : ir_FOK 11 213 8 0 0 := ⟨(RX8, TX8, 9), .int, rfl, by decide, (ir_Tm (ir_k1 149 rfl) rfl), rfl, by decide +kernel, rfl, rfl, rfl⟩
theorem ir_f_165 : ir_FOK 11 247 9 2 0 := ⟨(RX9, TX9, 12), .int, rfl, by decide, (ir_Tm (ir_k1 82 rfl) rfl), rfl, by decide +kernel, rfl, rfl, rfl⟩
theorem ir_f_166 : ir_FOK 11 262 8 2 3 := ⟨(RX8, TX8, 9), .boolean, rfl, by decide, (ir_Tm (ir_k1 158 rfl) rfl), rfl, by decide +kernel, rfl, rfl, rfl⟩
theorem ir_f_167 : ir_FOK 11 265 5 2 0 := ⟨(RX5, TX5, 5), .int, rfl, by decide, (ir_Tm (ir_k1 206 rfl) rfl), rfl, by decide +kernel, rfl, rfl, rfl⟩
theorem ir_f_168 : ir_FOK 11 279 10 1 0 := ⟨(RX10, TX10, 4), .int, rfl, by decide, (ir_Tm (ir_k3 15 rfl) rfl), rfl, by decide +kernel, rfl, rfl, rfl⟩
theorem ir_f_169 : ir_FOK 11 298 11 19 0 := ⟨(RX11, TX11, 20), .int, rfl, by decide, (ir_Tm (ir_k3 46 rfl) rfl), rfl, by decide +kernel, rfl, rfl, rfl⟩
theorem ir_f_170 : ir_FOK 11 310 2 1 3 := ⟨(RX2, TX2, 11), .boolean, rfl, by decide, (ir_Tm (ir_k2 115 rfl) rfl), rfl, by decide +kernel, rfl, rfl, rfl⟩
theorem ir_f_171 : ir_FOK 11 313 2 2 0 := ⟨(RX2, TX2, 11), .int, rfl, by decide, (ir_Tm (ir_k2 117 rfl) rfl), rfl, by decide +kernel, rfl, rfl, rfl⟩
theorem ir_f_172 : ir_FOK 11 316 2 4 2 := ⟨(RX2, TX2, 11), (.array .int), rfl, by decide, (ir_Tm (ir_k2 121 rfl) rfl), rfl, by decide +kernel, rfl, rfl, rfl⟩
theorem ir_f_173 : ir_FOK 11 323 2 3 0 := ⟨(RX2, TX2, 11), .int, rfl, by decide, (ir_Tm (ir_k2 119 rfl) rfl), rfl, by decide +kernel, rfl, rfl, rfl⟩
theorem ir_f_174 : ir_FOK 11 338 11 17 0 := ⟨(RX11, TX11, 20), .int, rfl, by decide, (ir_Tm (ir_k3 44 rfl) rfl), rfl, by decide +kernel, rfl, rfl, rfl⟩
theorem ir_f_175 : ir_FOK 11 341 11 18 3 := ⟨(RX11, TX11, 20), .boolean, rfl, by decide, (ir_Tm (ir_k3 45 rfl) rfl), rfl, by decide +kernel, rfl, rfl, rfl⟩
theorem ir_f_176 : ir_FOK 11 358 3 1 2 := ⟨(RX3, TX3, 10), (.array .int), rfl, by decide, (ir_Tm (ir_k2 160 rfl) rfl), rfl, by decide +kernel, rfl, rfl, rfl⟩
theorem ir_f_177 : ir_FOK 11 361 3 0 0 := ⟨(RX3, TX3, 10), .int, rfl, by decide, (ir_Tm (ir_k2 158 rfl) rfl), rfl, by decide +kernel, rfl, rfl, rfl⟩
theorem ir_f_178 : ir_FOK 11 403 8 1 0 := ⟨(RX8, TX8, 9), .int, rfl, by decide, (ir_Tm (ir_k1 152 rfl) rfl), rfl, by decide +kernel, rfl, rfl, rfl⟩
theorem ir_f_179 : ir_FOK 11 449 0 1 2 := ⟨(RX0, TX0, 4), (.array .int), rfl, by decide, (ir_Tm (ir_k2 94 rfl) rfl), rfl, by decide +kernel, rfl, rfl, rfl⟩
theorem ir_f_180 : ir_FOK 11 462 9 1 0 := ⟨(RX9, TX9, 12), .int, rfl, by decide, (ir_Tm (ir_k1 76 rfl) rfl), rfl, by decide +kernel, rfl, rfl, rfl⟩
theorem ir_f_181 : ir_FOK 11 465 9 4 0 := ⟨(RX9, TX9, 12), .int, rfl, by decide, (ir_Tm (ir_k1 92 rfl) rfl), rfl, by decide +kernel, rfl, rfl, rfl⟩
theorem ir_f_182 : ir_FOK 11 468 9 5 0 := ⟨(RX9, TX9, 12), .int, rfl, by decide, (ir_Tm (ir_k1 96 rfl) rfl), rfl, by decide +kernel, rfl, rfl, rfl⟩
theorem ir_f_183 : ir_FOK 11 475 9 6 3 := ⟨(RX9, TX9, 12), .boolean, rfl, by decide, (ir_Tm (ir_k1 100 rfl) rfl), rfl, by decide +kernel, rfl, rfl, rfl⟩
theorem ir_f_184 : ir_FOK 11 488 10 0 3 := ⟨(RX10, TX10, 4), .boolean, rfl, by decide, (ir_Tm (ir_k3 13 rfl) rfl), rfl, by decide +kernel, rfl, rfl, rfl⟩
theorem ir_f_185 : ir_FOK 11 532 0 0 2 := ⟨(RX0, TX0, 4), (.array .int), rfl, by decide, (ir_Tm (ir_k2 92 rfl) rfl), rfl, by decide +kernel, rfl, rfl, rfl⟩
theorem ir_f_186 : ir_FOK 12 9 12 0 2 := ⟨(RX12, TX12, 50), (.array .int), rfl, by decide, (ir_Tm (ir_k7 219 rfl) rfl), rfl, by decide +kernel, rfl, rfl, rfl⟩
theorem ir_f_187 : ir_FOK 12 13 12 1 2 := ⟨(RX12, TX12, 50), (.array .int), rfl, by decide, (ir_Tm (ir_k7 220 rfl) rfl), rfl, by decide +kernel, rfl, rfl, rfl⟩
theorem ir_f_188 : ir_FOK 12 16 12 2 2 := ⟨(RX12, TX12, 50), (.array .int), rfl, by decide, (ir_Tm (ir_k7 221 rfl) rfl), rfl, by decide +kernel, rfl, rfl, rfl⟩
theorem ir_f_189 : ir_FOK 12 19 12 3 2 := ⟨(RX12, TX12, 50), (.array .boolean), rfl, by decide, (ir_Tm (ir_k7 222 rfl) rfl), rfl, by decide +kernel, rfl, rfl, rfl⟩
theorem ir_f_190 : ir_FOK 12 23 12 5 2 := ⟨(RX12, TX12, 50), (.array .int), rfl, by decide, (ir_Tm (ir_k7 224 rfl) rfl), rfl, by decide +kernel, rfl, rfl, rfl⟩
theorem ir_f_191 : ir_FOK 12 26 12 15 0 := ⟨(RX12, TX12, 50), .int, rfl, by decide, (ir_Tm (ir_k7 234 rfl) rfl), rfl, by decide +kernel, rfl, rfl, rfl⟩
theorem ir_f_192 : ir_FOK 12 30 12 17 2 := ⟨(RX12, TX12, 50), (.array .int), rfl, by decide, (ir_Tm (ir_k7 236 rfl) rfl), rfl, by decide +kernel, rfl, rfl, rfl⟩
theorem ir_f_193 : ir_FOK 12 33 12 18 2 := ⟨(RX12, TX12, 50), (.array .int), rfl, by decide, (ir_Tm (ir_k7 237 rfl) rfl), rfl, by decide +kernel, rfl, rfl, rfl⟩
theorem ir_f_194 : ir_FOK 12 36 12 19 2 := ⟨(RX12, TX12, 50), (.array .int), rfl, by decide, (ir_Tm (ir_k7 238 rfl) rfl), rfl, by decide +kernel, rfl, rfl, rfl⟩
theorem ir_f_195 : ir_FOK 12 39 12 20 2 := ⟨(RX12, TX12, 50), (.array .int), rfl, by decide, (ir_Tm (ir_k7 239 rfl) rfl), rfl, by decide +kernel, rfl, rfl, rfl⟩
theorem ir_f_196 : ir_FOK 12 42 12 25 2 := ⟨(RX12, TX12, 50), (.array .int), rfl, by decide, (ir_Tm (ir_k8 4 rfl) rfl), rfl, by decide +kernel, rfl, rfl, rfl⟩
theorem ir_f_197 : ir_FOK 12 45 12 30 2 := ⟨(RX12, TX12, 50), (.array .int), rfl, by decide, (ir_Tm (ir_k8 9 rfl) rfl), rfl, by decide +kernel, rfl, rfl, rfl⟩
theorem ir_f_198 : ir_FOK 12 48 12 31 2 := ⟨(RX12, TX12, 50), (.array .int), rfl, by decide, (ir_Tm (ir_k8 10 rfl) rfl), rfl, by decide +kernel, rfl, rfl, rfl⟩
theorem ir_f_199 : ir_FOK 12 51 12 32 2 := ⟨(RX12, TX12, 50), (.array .int), rfl, by decide, (ir_Tm (ir_k8 11 rfl) rfl), rfl, by decide +kernel, rfl, rfl, rfl⟩
theorem ir_f_200 : ir_FOK 12 54 12 36 2 := ⟨(RX12, TX12, 50), (.array .int), rfl, by decide, (ir_Tm (ir_k8 15 rfl) rfl), rfl, by decide +kernel, rfl, rfl, rfl⟩
theorem ir_f_201 : ir_FOK 12 57 12 37 2 := ⟨(RX12, TX12, 50), (.array .int), rfl, by decide, (ir_Tm (ir_k8 16 rfl) rfl), rfl, by decide +kernel, rfl, rfl, rfl⟩
theorem ir_f_202 : ir_FOK 12 60 12 39 2 := ⟨(RX12, TX12, 50), (.array .int), rfl, by decide, (ir_Tm (ir_k8 18 rfl) rfl), rfl, by decide +kernel, rfl, rfl, rfl⟩
theorem ir_f_203 : ir_FOK 12 63 12 40 2 := ⟨(RX12, TX12, 50), (.array .int), rfl, by decide, (ir_Tm (ir_k8 19 rfl) rfl), rfl, by decide +kernel, rfl, rfl, rfl⟩
theorem ir_f_204 : ir_FOK 12 66 12 41 2 := ⟨(RX12, TX12, 50), (.array .int), rfl, by decide, (ir_Tm (ir_k8 20 rfl) rfl), rfl, by decide +kernel, rfl, rfl, rfl⟩
theorem ir_f_205 : ir_FOK 12 69 12 44 2 := ⟨(RX12, TX12, 50), (.array .int), rfl, by decide, (ir_Tm (ir_k8 23 rfl) rfl), rfl, by decide +kernel, rfl, rfl, rfl⟩
theorem ir_f_206 : ir_FOK 12 72 12 45 2 := ⟨(RX12, TX12, 50), (.array .int), rfl, by decide, (ir_Tm (ir_k8 24 rfl) rfl), rfl, by decide +kernel, rfl, rfl, rfl⟩
theorem ir_f_207 : ir_FOK 12 75 12 47 2 := ⟨(RX12, TX12, 50), (.array .int), rfl, by decide, (ir_Tm (ir_k8 26 rfl) rfl), rfl, by decide +kernel, rfl, rfl, rfl⟩
theorem ir_f_208 : ir_FOK 12 78 12 48 2 := ⟨(RX12, TX12, 50), (.array .int), rfl, by decide, (ir_Tm (ir_k8 27 rfl) rfl), rfl, by decide +kernel, rfl, rfl, rfl⟩
theorem ir_f_209 : ir_FOK 12 81 12 49 2 := ⟨(RX12, TX12, 50), (.array .long), rfl, by decide, (ir_Tm (ir_k8 28 rfl) rfl), rfl, by decide +kernel, rfl, rfl, rfl⟩
theorem ir_f_210 : ir_FOK 12 85 12 4 0 := ⟨(RX12, TX12, 50), .int, rfl, by decide, (ir_Tm (ir_k7 223 rfl) rfl), rfl, by decide +kernel, rfl, rfl, rfl⟩
theorem ir_f_211 : ir_FOK 12 88 12 6 0 := ⟨(RX12, TX12, 50), .int, rfl, by decide, (ir_Tm (ir_k7 225 rfl) rfl), rfl, by decide +kernel, rfl, rfl, rfl⟩
theorem ir_f_212 : ir_FOK 12 91 12 7 0 := ⟨(RX12, TX12, 50), .int, rfl, by decide, (ir_Tm (ir_k7 226 rfl) rfl), rfl, by decide +kernel, rfl, rfl, rfl⟩
theorem ir_f_213 : ir_FOK 12 94 12 8 0 := ⟨(RX12, TX12, 50), .int, rfl, by decide, (ir_Tm (ir_k7 227 rfl) rfl), rfl, by decide +kernel, rfl, rfl, rfl⟩
theorem ir_f_214 : ir_FOK 12 97 12 9 0 := ⟨(RX12, TX12, 50), .int, rfl, by decide, (ir_Tm (ir_k7 228 rfl) rfl), rfl, by decide +kernel, rfl, rfl, rfl⟩
theorem ir_f_215 : ir_FOK 12 100 12 10 0 := ⟨(RX12, TX12, 50), .int, rfl, by decide, (ir_Tm (ir_k7 229 rfl) rfl), rfl, by decide +kernel, rfl, rfl, rfl⟩
theorem ir_f_216 : ir_FOK 12 114 12 11 0 := ⟨(RX12, TX12, 50), .int, rfl, by decide, (ir_Tm (ir_k7 230 rfl) rfl), rfl, by decide +kernel, rfl, rfl, rfl⟩
theorem ir_f_217 : ir_FOK 12 120 12 12 0 := ⟨(RX12, TX12, 50), .int, rfl, by decide, (ir_Tm (ir_k7 231 rfl) rfl), rfl, by decide +kernel, rfl, rfl, rfl⟩
theorem ir_f_218 : ir_FOK 12 123 12 13 0 := ⟨(RX12, TX12, 50), .int, rfl, by decide, (ir_Tm (ir_k7 232 rfl) rfl), rfl, by decide +kernel, rfl, rfl, rfl⟩
theorem ir_f_219 : ir_FOK 12 160 12 16 0 := ⟨(RX12, TX12, 50), .int, rfl, by decide, (ir_Tm (ir_k7 235 rfl) rfl), rfl, by decide +kernel, rfl, rfl, rfl⟩
theorem ir_f_220 : ir_FOK 12 265 12 14 0 := ⟨(RX12, TX12, 50), .int, rfl, by decide, (ir_Tm (ir_k7 233 rfl) rfl), rfl, by decide +kernel, rfl, rfl, rfl⟩
theorem ir_f_221 : ir_FOK 12 386 12 22 0 := ⟨(RX12, TX12, 50), .int, rfl, by decide, (ir_Tm (ir_k8 1 rfl) rfl), rfl, by decide +kernel, rfl, rfl, rfl⟩
theorem ir_f_222 : ir_FOK 12 389 12 23 0 := ⟨(RX12, TX12, 50), .int, rfl, by decide, (ir_Tm (ir_k8 2 rfl) rfl), rfl, by decide +kernel, rfl, rfl, rfl⟩
theorem ir_f_223 : ir_FOK 12 395 12 21 0 := ⟨(RX12, TX12, 50), .int, rfl, by decide, (ir_Tm (ir_k8 0 rfl) rfl), rfl, by decide +kernel, rfl, rfl, rfl⟩
theorem ir_f_224 : ir_FOK 12 439 12 24 0 := ⟨(RX12, TX12, 50), .int, rfl, by decide, (ir_Tm (ir_k8 3 rfl) rfl), rfl, by decide +kernel, rfl, rfl, rfl⟩
theorem ir_f_225 : ir_FOK 12 447 12 27 0 := ⟨(RX12, TX12, 50), .int, rfl, by decide, (ir_Tm (ir_k8 6 rfl) rfl), rfl, by decide +kernel, rfl, rfl, rfl⟩
theorem ir_f_226 : ir_FOK 12 450 12 28 0 := ⟨(RX12, TX12, 50), .int, rfl, by decide, (ir_Tm (ir_k8 7 rfl) rfl), rfl, by decide +kernel, rfl, rfl, rfl⟩
theorem ir_f_227 : ir_FOK 12 453 12 29 3 := ⟨(RX12, TX12, 50), .boolean, rfl, by decide, (ir_Tm (ir_k8 8 rfl) rfl), rfl, by decide +kernel, rfl, rfl, rfl⟩
theorem ir_f_228 : ir_FOK 12 457 12 26 0 := ⟨(RX12, TX12, 50), .int, rfl, by decide, (ir_Tm (ir_k8 5 rfl) rfl), rfl, by decide +kernel, rfl, rfl, rfl⟩
theorem ir_f_229 : ir_FOK 12 490 12 33 0 := ⟨(RX12, TX12, 50), .int, rfl, by decide, (ir_Tm (ir_k8 12 rfl) rfl), rfl, by decide +kernel, rfl, rfl, rfl⟩
theorem ir_f_230 : ir_FOK 12 493 12 35 3 := ⟨(RX12, TX12, 50), .boolean, rfl, by decide, (ir_Tm (ir_k8 14 rfl) rfl), rfl, by decide +kernel, rfl, rfl, rfl⟩
theorem ir_f_231 : ir_FOK 12 496 12 34 0 := ⟨(RX12, TX12, 50), .int, rfl, by decide, (ir_Tm (ir_k8 13 rfl) rfl), rfl, by decide +kernel, rfl, rfl, rfl⟩
theorem ir_f_232 : ir_FOK 12 505 12 38 0 := ⟨(RX12, TX12, 50), .int, rfl, by decide, (ir_Tm (ir_k8 17 rfl) rfl), rfl, by decide +kernel, rfl, rfl, rfl⟩
theorem ir_f_233 : ir_FOK 12 517 12 43 3 := ⟨(RX12, TX12, 50), .boolean, rfl, by decide, (ir_Tm (ir_k8 22 rfl) rfl), rfl, by decide +kernel, rfl, rfl, rfl⟩
theorem ir_f_234 : ir_FOK 12 520 12 42 0 := ⟨(RX12, TX12, 50), .int, rfl, by decide, (ir_Tm (ir_k8 21 rfl) rfl), rfl, by decide +kernel, rfl, rfl, rfl⟩
theorem ir_f_235 : ir_FOK 12 543 12 46 1 := ⟨(RX12, TX12, 50), .long, rfl, by decide, (ir_Tm (ir_k8 25 rfl) rfl), rfl, by decide +kernel, rfl, rfl, rfl⟩
def ir_fc0 : List (Nat × Nat × Nat × Nat × Nat) := [(0, 9, 0, 0, 2), (0, 15, 0, 1, 2), (0, 18, 0, 2, 2), (0, 23, 0, 3, 2), (0, 35, 8, 4, 2), (0, 49, 9, 7, 2), (0, 52, 8, 6, 2), (0, 55, 8, 0, 0), (0, 59, 8, 7, 2), (0, 62, 8, 1, 0), (0, 65, 9, 9, 2), (0, 73, 8, 5, 2), (0, 76, 9, 1, 0), (0, 79, 8, 2, 3), (0, 86, 9, 6, 3), (0, 89, 8, 3, 0)]
theorem ir_fd0 : ∀ e ∈ ir_fc0, ir_fP e := List.forall_mem_cons.mpr ⟨ir_f_0, List.forall_mem_cons.mpr ⟨ir_f_1, List.forall_mem_cons.mpr ⟨ir_f_2, List.forall_mem_cons.mpr ⟨ir_f_3, List.forall_mem_cons.mpr ⟨ir_f_4, List.forall_mem_cons.mpr ⟨ir_f_5, List.forall_mem_cons.mpr ⟨ir_f_6, List.forall_mem_cons.mpr ⟨ir_f_7, List.forall_mem_cons.mpr ⟨ir_f_8, List.forall_mem_cons.mpr ⟨ir_f_9, List.forall_mem_cons.mpr ⟨ir_f_10, List.forall_mem_cons.mpr ⟨ir_f_11, List.forall_mem_cons.mpr ⟨ir_f_12, List.forall_mem_cons.mpr ⟨ir_f_13, List.forall_mem_cons.mpr ⟨ir_f_14, List.forall_mem_cons.mpr ⟨ir_f_15, fun _ h => absurd h List.not_mem_nil⟩⟩⟩⟩⟩⟩⟩⟩⟩⟩⟩⟩⟩⟩⟩⟩
def ir_fc1 : List (Nat × Nat × Nat × Nat × Nat) := [(0, 92, 8, 8, 2), (0, 106, 9, 4, 0), (0, 124, 9, 5, 0)]
theorem ir_fd1 : ∀ e ∈ ir_fc1, ir_fP e := List.forall_mem_cons.mpr ⟨ir_f_16, List.forall_mem_cons.mpr ⟨ir_f_17, List.forall_mem_cons.mpr ⟨ir_f_18, fun _ h => absurd h List.not_mem_nil⟩⟩⟩
def ir_fo0 : List (Nat × Nat × Nat × Nat × Nat) := ir_fc0 ++ (ir_fc1)
theorem ir_fq0 : ∀ e ∈ ir_fo0, ir_fP e := List.forall_mem_append.mpr ⟨ir_fd0, ir_fd1⟩
def ir_fc2 : List (Nat × Nat × Nat × Nat × Nat) := [(1, 11, 1, 1, 2), (1, 15, 1, 2, 2), (1, 18, 1, 0, 0)]
theorem ir_fd2 : ∀ e ∈ ir_fc2, ir_fP e := List.forall_mem_cons.mpr ⟨ir_f_19, List.forall_mem_cons.mpr ⟨ir_f_20, List.forall_mem_cons.mpr ⟨ir_f_21, fun _ h => absurd h List.not_mem_nil⟩⟩⟩
def ir_fo1 : List (Nat × Nat × Nat × Nat × Nat) := ir_fc2
theorem ir_fq1 : ∀ e ∈ ir_fo1, ir_fP e := ir_fd2
def ir_fc3 : List (Nat × Nat × Nat × Nat × Nat) := [(2, 9, 2, 4, 2), (2, 15, 2, 6, 2), (2, 18, 2, 7, 2), (2, 21, 2, 8, 2), (2, 25, 2, 9, 2), (2, 29, 2, 10, 2), (2, 33, 2, 5, 0), (2, 37, 2, 1, 3), (2, 41, 2, 3, 0), (2, 44, 2, 2, 0), (2, 66, 2, 0, 3), (2, 69, 8, 0, 0), (2, 72, 8, 4, 2), (2, 75, 8, 5, 2), (2, 86, 9, 8, 2), (2, 95, 9, 4, 0)]
theorem ir_fd3 : ∀ e ∈ ir_fc3, ir_fP e := List.forall_mem_cons.mpr ⟨ir_f_22, List.forall_mem_cons.mpr ⟨ir_f_23, List.forall_mem_cons.mpr ⟨ir_f_24, List.forall_mem_cons.mpr ⟨ir_f_25, List.forall_mem_cons.mpr ⟨ir_f_26, List.forall_mem_cons.mpr ⟨ir_f_27, List.forall_mem_cons.mpr ⟨ir_f_28, List.forall_mem_cons.mpr ⟨ir_f_29, List.forall_mem_cons.mpr ⟨ir_f_30, List.forall_mem_cons.mpr ⟨ir_f_31, List.forall_mem_cons.mpr ⟨ir_f_32, List.forall_mem_cons.mpr ⟨ir_f_33, List.forall_mem_cons.mpr ⟨ir_f_34, List.forall_mem_cons.mpr ⟨ir_f_35, List.forall_mem_cons.mpr ⟨ir_f_36, List.forall_mem_cons.mpr ⟨ir_f_37, fun _ h => absurd h List.not_mem_nil⟩⟩⟩⟩⟩⟩⟩⟩⟩⟩⟩⟩⟩⟩⟩⟩
def ir_fc4 : List (Nat × Nat × Nat × Nat × Nat) := [(2, 102, 9, 2, 0), (2, 105, 0, 0, 2), (2, 111, 8, 2, 3)]
theorem ir_fd4 : ∀ e ∈ ir_fc4, ir_fP e := List.forall_mem_cons.mpr ⟨ir_f_38, List.forall_mem_cons.mpr ⟨ir_f_39, List.forall_mem_cons.mpr ⟨ir_f_40, fun _ h => absurd h List.not_mem_nil⟩⟩⟩
def ir_fo2 : List (Nat × Nat × Nat × Nat × Nat) := ir_fc3 ++ (ir_fc4)
theorem ir_fq2 : ∀ e ∈ ir_fo2, ir_fP e := List.forall_mem_append.mpr ⟨ir_fd3, ir_fd4⟩
def ir_fc5 : List (Nat × Nat × Nat × Nat × Nat) := [(3, 9, 3, 1, 2), (3, 15, 3, 5, 2), (3, 18, 3, 6, 2), (3, 21, 3, 7, 2), (3, 25, 3, 8, 2), (3, 29, 3, 9, 2), (3, 33, 3, 4, 0), (3, 37, 3, 2, 3), (3, 41, 3, 3, 0), (3, 44, 9, 2, 0), (3, 55, 8, 5, 2), (3, 71, 9, 1, 0), (3, 77, 0, 0, 2), (3, 80, 9, 4, 0), (3, 91, 3, 0, 0)]
theorem ir_fd5 : ∀ e ∈ ir_fc5, ir_fP e := List.forall_mem_cons.mpr ⟨ir_f_41, List.forall_mem_cons.mpr ⟨ir_f_42, List.forall_mem_cons.mpr ⟨ir_f_43, List.forall_mem_cons.mpr ⟨ir_f_44, List.forall_mem_cons.mpr ⟨ir_f_45, List.forall_mem_cons.mpr ⟨ir_f_46, List.forall_mem_cons.mpr ⟨ir_f_47, List.forall_mem_cons.mpr ⟨ir_f_48, List.forall_mem_cons.mpr ⟨ir_f_49, List.forall_mem_cons.mpr ⟨ir_f_50, List.forall_mem_cons.mpr ⟨ir_f_51, List.forall_mem_cons.mpr ⟨ir_f_52, List.forall_mem_cons.mpr ⟨ir_f_53, List.forall_mem_cons.mpr ⟨ir_f_54, List.forall_mem_cons.mpr ⟨ir_f_55, fun _ h => absurd h List.not_mem_nil⟩⟩⟩⟩⟩⟩⟩⟩⟩⟩⟩⟩⟩⟩⟩
def ir_fo3 : List (Nat × Nat × Nat × Nat × Nat) := ir_fc5
theorem ir_fq3 : ∀ e ∈ ir_fo3, ir_fP e := ir_fd5
def ir_fc6 : List (Nat × Nat × Nat × Nat × Nat) := [(4, 16, 4, 2, 2), (4, 23, 4, 3, 2), (4, 35, 4, 4, 2), (4, 39, 4, 5, 2), (4, 52, 4, 6, 0), (4, 56, 4, 7, 0), (4, 59, 4, 0, 0), (4, 62, 4, 1, 0), (4, 76, 4, 8, 0), (4, 86, 9, 0, 0), (4, 89, 4, 9, 0), (4, 104, 4, 10, 0), (4, 114, 9, 1, 0), (4, 129, 9, 4, 0), (4, 132, 8, 2, 3), (4, 136, 9, 6, 3)]
theorem ir_fd6 : ∀ e ∈ ir_fc6, ir_fP e := List.forall_mem_cons.mpr ⟨ir_f_56, List.forall_mem_cons.mpr ⟨ir_f_57, List.forall_mem_cons.mpr ⟨ir_f_58, List.forall_mem_cons.mpr ⟨ir_f_59, List.forall_mem_cons.mpr ⟨ir_f_60, List.forall_mem_cons.mpr ⟨ir_f_61, List.forall_mem_cons.mpr ⟨ir_f_62, List.forall_mem_cons.mpr ⟨ir_f_63, List.forall_mem_cons.mpr ⟨ir_f_64, List.forall_mem_cons.mpr ⟨ir_f_65, List.forall_mem_cons.mpr ⟨ir_f_66, List.forall_mem_cons.mpr ⟨ir_f_67, List.forall_mem_cons.mpr ⟨ir_f_68, List.forall_mem_cons.mpr ⟨ir_f_69, List.forall_mem_cons.mpr ⟨ir_f_70, List.forall_mem_cons.mpr ⟨ir_f_71, fun _ h => absurd h List.not_mem_nil⟩⟩⟩⟩⟩⟩⟩⟩⟩⟩⟩⟩⟩⟩⟩⟩
def ir_fc7 : List (Nat × Nat × Nat × Nat × Nat) := [(4, 142, 9, 9, 2), (4, 150, 9, 2, 0), (4, 153, 9, 7, 2), (4, 157, 8, 6, 2), (4, 160, 8, 5, 2), (4, 173, 9, 3, 0), (4, 179, 9, 8, 2), (4, 185, 9, 5, 0)]
theorem ir_fd7 : ∀ e ∈ ir_fc7, ir_fP e := List.forall_mem_cons.mpr ⟨ir_f_72, List.forall_mem_cons.mpr ⟨ir_f_73, List.forall_mem_cons.mpr ⟨ir_f_74, List.forall_mem_cons.mpr ⟨ir_f_75, List.forall_mem_cons.mpr ⟨ir_f_76, List.forall_mem_cons.mpr ⟨ir_f_77, List.forall_mem_cons.mpr ⟨ir_f_78, List.forall_mem_cons.mpr ⟨ir_f_79, fun _ h => absurd h List.not_mem_nil⟩⟩⟩⟩⟩⟩⟩⟩
def ir_fo4 : List (Nat × Nat × Nat × Nat × Nat) := ir_fc6 ++ (ir_fc7)
theorem ir_fq4 : ∀ e ∈ ir_fo4, ir_fP e := List.forall_mem_append.mpr ⟨ir_fd6, ir_fd7⟩
def ir_fc8 : List (Nat × Nat × Nat × Nat × Nat) := [(5, 12, 5, 0, 2), (5, 21, 5, 1, 2), (5, 25, 5, 4, 2), (5, 36, 5, 2, 0), (5, 40, 5, 3, 0)]
theorem ir_fd8 : ∀ e ∈ ir_fc8, ir_fP e := List.forall_mem_cons.mpr ⟨ir_f_80, List.forall_mem_cons.mpr ⟨ir_f_81, List.forall_mem_cons.mpr ⟨ir_f_82, List.forall_mem_cons.mpr ⟨ir_f_83, List.forall_mem_cons.mpr ⟨ir_f_84, fun _ h => absurd h List.not_mem_nil⟩⟩⟩⟩⟩
def ir_fo5 : List (Nat × Nat × Nat × Nat × Nat) := ir_fc8
theorem ir_fq5 : ∀ e ∈ ir_fo5, ir_fP e := ir_fd8
def ir_fc9 : List (Nat × Nat × Nat × Nat × Nat) := [(6, 9, 6, 0, 2), (6, 15, 6, 1, 2), (6, 18, 6, 2, 2), (6, 21, 6, 3, 2), (6, 25, 6, 4, 2), (6, 29, 6, 5, 2), (6, 32, 6, 6, 2), (6, 36, 6, 7, 2), (6, 40, 6, 8, 2), (6, 53, 8, 0, 0), (6, 69, 9, 1, 0), (6, 78, 8, 2, 3), (6, 107, 0, 0, 2), (6, 110, 9, 4, 0)]
theorem ir_fd9 : ∀ e ∈ ir_fc9, ir_fP e := List.forall_mem_cons.mpr ⟨ir_f_85, List.forall_mem_cons.mpr ⟨ir_f_86, List.forall_mem_cons.mpr ⟨ir_f_87, List.forall_mem_cons.mpr ⟨ir_f_88, List.forall_mem_cons.mpr ⟨ir_f_89, List.forall_mem_cons.mpr ⟨ir_f_90, List.forall_mem_cons.mpr ⟨ir_f_91, List.forall_mem_cons.mpr ⟨ir_f_92, List.forall_mem_cons.mpr ⟨ir_f_93, List.forall_mem_cons.mpr ⟨ir_f_94, List.forall_mem_cons.mpr ⟨ir_f_95, List.forall_mem_cons.mpr ⟨ir_f_96, List.forall_mem_cons.mpr ⟨ir_f_97, List.forall_mem_cons.mpr ⟨ir_f_98, fun _ h => absurd h List.not_mem_nil⟩⟩⟩⟩⟩⟩⟩⟩⟩⟩⟩⟩⟩⟩
def ir_fo6 : List (Nat × Nat × Nat × Nat × Nat) := ir_fc9
theorem ir_fq6 : ∀ e ∈ ir_fo6, ir_fP e := ir_fd9
def ir_fc10 : List (Nat × Nat × Nat × Nat × Nat) := [(7, 9, 7, 0, 2), (7, 15, 7, 1, 2), (7, 18, 7, 2, 2), (7, 21, 7, 4, 2), (7, 25, 7, 3, 0), (7, 35, 8, 0, 0), (7, 40, 8, 4, 2), (7, 43, 0, 0, 2), (7, 63, 9, 4, 0), (7, 72, 9, 2, 0)]
theorem ir_fd10 : ∀ e ∈ ir_fc10, ir_fP e := List.forall_mem_cons.mpr ⟨ir_f_99, List.forall_mem_cons.mpr ⟨ir_f_100, List.forall_mem_cons.mpr ⟨ir_f_101, List.forall_mem_cons.mpr ⟨ir_f_102, List.forall_mem_cons.mpr ⟨ir_f_103, List.forall_mem_cons.mpr ⟨ir_f_104, List.forall_mem_cons.mpr ⟨ir_f_105, List.forall_mem_cons.mpr ⟨ir_f_106, List.forall_mem_cons.mpr ⟨ir_f_107, List.forall_mem_cons.mpr ⟨ir_f_108, fun _ h => absurd h List.not_mem_nil⟩⟩⟩⟩⟩⟩⟩⟩⟩⟩
def ir_fo7 : List (Nat × Nat × Nat × Nat × Nat) := ir_fc10
theorem ir_fq7 : ∀ e ∈ ir_fo7, ir_fP e := ir_fd10
def ir_fc11 : List (Nat × Nat × Nat × Nat × Nat) := [(8, 9, 8, 4, 2), (8, 15, 8, 5, 2), (8, 18, 8, 6, 2), (8, 21, 8, 7, 2), (8, 24, 8, 8, 2), (8, 27, 8, 0, 0), (8, 31, 8, 1, 0), (8, 34, 8, 2, 3), (8, 38, 8, 3, 0)]
theorem ir_fd11 : ∀ e ∈ ir_fc11, ir_fP e := List.forall_mem_cons.mpr ⟨ir_f_109, List.forall_mem_cons.mpr ⟨ir_f_110, List.forall_mem_cons.mpr ⟨ir_f_111, List.forall_mem_cons.mpr ⟨ir_f_112, List.forall_mem_cons.mpr ⟨ir_f_113, List.forall_mem_cons.mpr ⟨ir_f_114, List.forall_mem_cons.mpr ⟨ir_f_115, List.forall_mem_cons.mpr ⟨ir_f_116, List.forall_mem_cons.mpr ⟨ir_f_117, fun _ h => absurd h List.not_mem_nil⟩⟩⟩⟩⟩⟩⟩⟩⟩
def ir_fo8 : List (Nat × Nat × Nat × Nat × Nat) := ir_fc11
theorem ir_fq8 : ∀ e ∈ ir_fo8, ir_fP e := ir_fd11
def ir_fc12 : List (Nat × Nat × Nat × Nat × Nat) := [(9, 9, 9, 4, 0), (9, 15, 9, 7, 2), (9, 19, 9, 8, 2), (9, 25, 9, 9, 2), (9, 29, 9, 10, 2), (9, 32, 9, 11, 2), (9, 35, 9, 0, 0), (9, 38, 9, 1, 0), (9, 41, 9, 2, 0), (9, 44, 9, 3, 0), (9, 47, 9, 5, 0), (9, 50, 9, 6, 3)]
theorem ir_fd12 : ∀ e ∈ ir_fc12, ir_fP e := List.forall_mem_cons.mpr ⟨ir_f_118, List.forall_mem_cons.mpr ⟨ir_f_119, List.forall_mem_cons.mpr ⟨ir_f_120, List.forall_mem_cons.mpr ⟨ir_f_121, List.forall_mem_cons.mpr ⟨ir_f_122, List.forall_mem_cons.mpr ⟨ir_f_123, List.forall_mem_cons.mpr ⟨ir_f_124, List.forall_mem_cons.mpr ⟨ir_f_125, List.forall_mem_cons.mpr ⟨ir_f_126, List.forall_mem_cons.mpr ⟨ir_f_127, List.forall_mem_cons.mpr ⟨ir_f_128, List.forall_mem_cons.mpr ⟨ir_f_129, fun _ h => absurd h List.not_mem_nil⟩⟩⟩⟩⟩⟩⟩⟩⟩⟩⟩⟩
def ir_fo9 : List (Nat × Nat × Nat × Nat × Nat) := ir_fc12
theorem ir_fq9 : ∀ e ∈ ir_fo9, ir_fP e := ir_fd12
def ir_fc13 : List (Nat × Nat × Nat × Nat × Nat) := [(10, 9, 10, 0, 3), (10, 15, 10, 3, 2), (10, 19, 10, 2, 0), (10, 23, 10, 1, 0)]
theorem ir_fd13 : ∀ e ∈ ir_fc13, ir_fP e := List.forall_mem_cons.mpr ⟨ir_f_130, List.forall_mem_cons.mpr ⟨ir_f_131, List.forall_mem_cons.mpr ⟨ir_f_132, List.forall_mem_cons.mpr ⟨ir_f_133, fun _ h => absurd h List.not_mem_nil⟩⟩⟩⟩
def ir_fo10 : List (Nat × Nat × Nat × Nat × Nat) := ir_fc13
theorem ir_fq10 : ∀ e ∈ ir_fo10, ir_fP e := ir_fd13
def ir_fc14 : List (Nat × Nat × Nat × Nat × Nat) := [(11, 9, 11, 0, 2), (11, 13, 11, 3, 0), (11, 20, 11, 4, 2), (11, 24, 5, 0, 2), (11, 28, 11, 5, 2), (11, 29, 5, 1, 2), (11, 33, 11, 6, 2), (11, 37, 11, 7, 2), (11, 40, 11, 8, 2), (11, 44, 11, 9, 2), (11, 50, 11, 10, 2), (11, 57, 11, 11, 2), (11, 64, 11, 12, 2), (11, 71, 11, 13, 2), (11, 78, 11, 14, 2), (11, 85, 11, 15, 2)]
theorem ir_fd14 : ∀ e ∈ ir_fc14, ir_fP e := List.forall_mem_cons.mpr ⟨ir_f_134, List.forall_mem_cons.mpr ⟨ir_f_135, List.forall_mem_cons.mpr ⟨ir_f_136, List.forall_mem_cons.mpr ⟨ir_f_137, List.forall_mem_cons.mpr ⟨ir_f_138, List.forall_mem_cons.mpr ⟨ir_f_139, List.forall_mem_cons.mpr ⟨ir_f_140, List.forall_mem_cons.mpr ⟨ir_f_141, List.forall_mem_cons.mpr ⟨ir_f_142, List.forall_mem_cons.mpr ⟨ir_f_143, List.forall_mem_cons.mpr ⟨ir_f_144, List.forall_mem_cons.mpr ⟨ir_f_145, List.forall_mem_cons.mpr ⟨ir_f_146, List.forall_mem_cons.mpr ⟨ir_f_147, List.forall_mem_cons.mpr ⟨ir_f_148, List.forall_mem_cons.mpr ⟨ir_f_149, fun _ h => absurd h List.not_mem_nil⟩⟩⟩⟩⟩⟩⟩⟩⟩⟩⟩⟩⟩⟩⟩⟩
def ir_fc15 : List (Nat × Nat × Nat × Nat × Nat) := [(11, 92, 11, 16, 2), (11, 97, 11, 1, 0), (11, 115, 4, 0, 0), (11, 118, 11, 2, 0), (11, 119, 4, 1, 0), (11, 120, 4, 2, 2), (11, 121, 4, 3, 2), (11, 126, 2, 0, 3), (11, 130, 9, 0, 0), (11, 142, 8, 5, 2), (11, 146, 9, 7, 2), (11, 149, 8, 6, 2), (11, 152, 8, 7, 2), (11, 185, 8, 4, 2), (11, 213, 8, 0, 0), (11, 247, 9, 2, 0)]
theorem ir_fd15 : ∀ e ∈ ir_fc15, ir_fP e := List.forall_mem_cons.mpr ⟨ir_f_150, List.forall_mem_cons.mpr ⟨ir_f_151, List.forall_mem_cons.mpr ⟨ir_f_152, List.forall_mem_cons.mpr ⟨ir_f_153, List.forall_mem_cons.mpr ⟨ir_f_154, List.forall_mem_cons.mpr ⟨ir_f_155, List.forall_mem_cons.mpr ⟨ir_f_156, List.forall_mem_cons.mpr ⟨ir_f_157, List.forall_mem_cons.mpr ⟨ir_f_158, List.forall_mem_cons.mpr ⟨ir_f_159, List.forall_mem_cons.mpr ⟨ir_f_160, List.forall_mem_cons.mpr ⟨ir_f_161, List.forall_mem_cons.mpr ⟨ir_f_162, List.forall_mem_cons.mpr ⟨ir_f_163, List.forall_mem_cons.mpr ⟨ir_f_164, List.forall_mem_cons.mpr ⟨ir_f_165, fun _ h => absurd h List.not_mem_nil⟩⟩⟩⟩⟩⟩⟩⟩⟩⟩⟩⟩⟩⟩⟩⟩
def ir_fc16 : List (Nat × Nat × Nat × Nat × Nat) := [(11, 262, 8, 2, 3), (11, 265, 5, 2, 0), (11, 279, 10, 1, 0), (11, 298, 11, 19, 0), (11, 310, 2, 1, 3), (11, 313, 2, 2, 0), (11, 316, 2, 4, 2), (11, 323, 2, 3, 0), (11, 338, 11, 17, 0), (11, 341, 11, 18, 3), (11, 358, 3, 1, 2), (11, 361, 3, 0, 0), (11, 403, 8, 1, 0), (11, 449, 0, 1, 2), (11, 462, 9, 1, 0), (11, 465, 9, 4, 0)]
theorem ir_fd16 : ∀ e ∈ ir_fc16, ir_fP e := List.forall_mem_cons.mpr ⟨ir_f_166, List.forall_mem_cons.mpr ⟨ir_f_167, List.forall_mem_cons.mpr ⟨ir_f_168, List.forall_mem_cons.mpr ⟨ir_f_169, List.forall_mem_cons.mpr ⟨ir_f_170, List.forall_mem_cons.mpr ⟨ir_f_171, List.forall_mem_cons.mpr ⟨ir_f_172, List.forall_mem_cons.mpr ⟨ir_f_173, List.forall_mem_cons.mpr ⟨ir_f_174, List.forall_mem_cons.mpr ⟨ir_f_175, List.forall_mem_cons.mpr ⟨ir_f_176, List.forall_mem_cons.mpr ⟨ir_f_177, List.forall_mem_cons.mpr ⟨ir_f_178, List.forall_mem_cons.mpr ⟨ir_f_179, List.forall_mem_cons.mpr ⟨ir_f_180, List.forall_mem_cons.mpr ⟨ir_f_181, fun _ h => absurd h List.not_mem_nil⟩⟩⟩⟩⟩⟩⟩⟩⟩⟩⟩⟩⟩⟩⟩⟩
def ir_fc17 : List (Nat × Nat × Nat × Nat × Nat) := [(11, 468, 9, 5, 0), (11, 475, 9, 6, 3), (11, 488, 10, 0, 3), (11, 532, 0, 0, 2)]
theorem ir_fd17 : ∀ e ∈ ir_fc17, ir_fP e := List.forall_mem_cons.mpr ⟨ir_f_182, List.forall_mem_cons.mpr ⟨ir_f_183, List.forall_mem_cons.mpr ⟨ir_f_184, List.forall_mem_cons.mpr ⟨ir_f_185, fun _ h => absurd h List.not_mem_nil⟩⟩⟩⟩
def ir_fo11 : List (Nat × Nat × Nat × Nat × Nat) := ir_fc14 ++ (ir_fc15 ++ (ir_fc16 ++ (ir_fc17)))
theorem ir_fq11 : ∀ e ∈ ir_fo11, ir_fP e := List.forall_mem_append.mpr ⟨ir_fd14, List.forall_mem_append.mpr ⟨ir_fd15, List.forall_mem_append.mpr ⟨ir_fd16, ir_fd17⟩⟩⟩
def ir_fc18 : List (Nat × Nat × Nat × Nat × Nat) := [(12, 9, 12, 0, 2), (12, 13, 12, 1, 2), (12, 16, 12, 2, 2), (12, 19, 12, 3, 2), (12, 23, 12, 5, 2), (12, 26, 12, 15, 0), (12, 30, 12, 17, 2), (12, 33, 12, 18, 2), (12, 36, 12, 19, 2), (12, 39, 12, 20, 2), (12, 42, 12, 25, 2), (12, 45, 12, 30, 2), (12, 48, 12, 31, 2), (12, 51, 12, 32, 2), (12, 54, 12, 36, 2), (12, 57, 12, 37, 2)]
theorem ir_fd18 : ∀ e ∈ ir_fc18, ir_fP e := List.forall_mem_cons.mpr ⟨ir_f_186, List.forall_mem_cons.mpr ⟨ir_f_187, List.forall_mem_cons.mpr ⟨ir_f_188, List.forall_mem_cons.mpr ⟨ir_f_189, List.forall_mem_cons.mpr ⟨ir_f_190, List.forall_mem_cons.mpr ⟨ir_f_191, List.forall_mem_cons.mpr ⟨ir_f_192, List.forall_mem_cons.mpr ⟨ir_f_193, List.forall_mem_cons.mpr ⟨ir_f_194, List.forall_mem_cons.mpr ⟨ir_f_195, List.forall_mem_cons.mpr ⟨ir_f_196, List.forall_mem_cons.mpr ⟨ir_f_197, List.forall_mem_cons.mpr ⟨ir_f_198, List.forall_mem_cons.mpr ⟨ir_f_199, List.forall_mem_cons.mpr ⟨ir_f_200, List.forall_mem_cons.mpr ⟨ir_f_201, fun _ h => absurd h List.not_mem_nil⟩⟩⟩⟩⟩⟩⟩⟩⟩⟩⟩⟩⟩⟩⟩⟩
def ir_fc19 : List (Nat × Nat × Nat × Nat × Nat) := [(12, 60, 12, 39, 2), (12, 63, 12, 40, 2), (12, 66, 12, 41, 2), (12, 69, 12, 44, 2), (12, 72, 12, 45, 2), (12, 75, 12, 47, 2), (12, 78, 12, 48, 2), (12, 81, 12, 49, 2), (12, 85, 12, 4, 0), (12, 88, 12, 6, 0), (12, 91, 12, 7, 0), (12, 94, 12, 8, 0), (12, 97, 12, 9, 0), (12, 100, 12, 10, 0), (12, 114, 12, 11, 0), (12, 120, 12, 12, 0)]
theorem ir_fd19 : ∀ e ∈ ir_fc19, ir_fP e := List.forall_mem_cons.mpr ⟨ir_f_202, List.forall_mem_cons.mpr ⟨ir_f_203, List.forall_mem_cons.mpr ⟨ir_f_204, List.forall_mem_cons.mpr ⟨ir_f_205, List.forall_mem_cons.mpr ⟨ir_f_206, List.forall_mem_cons.mpr ⟨ir_f_207, List.forall_mem_cons.mpr ⟨ir_f_208, List.forall_mem_cons.mpr ⟨ir_f_209, List.forall_mem_cons.mpr ⟨ir_f_210, List.forall_mem_cons.mpr ⟨ir_f_211, List.forall_mem_cons.mpr ⟨ir_f_212, List.forall_mem_cons.mpr ⟨ir_f_213, List.forall_mem_cons.mpr ⟨ir_f_214, List.forall_mem_cons.mpr ⟨ir_f_215, List.forall_mem_cons.mpr ⟨ir_f_216, List.forall_mem_cons.mpr ⟨ir_f_217, fun _ h => absurd h List.not_mem_nil⟩⟩⟩⟩⟩⟩⟩⟩⟩⟩⟩⟩⟩⟩⟩⟩
def ir_fc20 : List (Nat × Nat × Nat × Nat × Nat) := [(12, 123, 12, 13, 0), (12, 160, 12, 16, 0), (12, 265, 12, 14, 0), (12, 386, 12, 22, 0), (12, 389, 12, 23, 0), (12, 395, 12, 21, 0), (12, 439, 12, 24, 0), (12, 447, 12, 27, 0), (12, 450, 12, 28, 0), (12, 453, 12, 29, 3), (12, 457, 12, 26, 0), (12, 490, 12, 33, 0), (12, 493, 12, 35, 3), (12, 496, 12, 34, 0), (12, 505, 12, 38, 0), (12, 517, 12, 43, 3)]
theorem ir_fd20 : ∀ e ∈ ir_fc20, ir_fP e := List.forall_mem_cons.mpr ⟨ir_f_218, List.forall_mem_cons.mpr ⟨ir_f_219, List.forall_mem_cons.mpr ⟨ir_f_220, List.forall_mem_cons.mpr ⟨ir_f_221, List.forall_mem_cons.mpr ⟨ir_f_222, List.forall_mem_cons.mpr ⟨ir_f_223, List.forall_mem_cons.mpr ⟨ir_f_224, List.forall_mem_cons.mpr ⟨ir_f_225, List.forall_mem_cons.mpr ⟨ir_f_226, List.forall_mem_cons.mpr ⟨ir_f_227, List.forall_mem_cons.mpr ⟨ir_f_228, List.forall_mem_cons.mpr ⟨ir_f_229, List.forall_mem_cons.mpr ⟨ir_f_230, List.forall_mem_cons.mpr ⟨ir_f_231, List.forall_mem_cons.mpr ⟨ir_f_232, List.forall_mem_cons.mpr ⟨ir_f_233, fun _ h => absurd h List.not_mem_nil⟩⟩⟩⟩⟩⟩⟩⟩⟩⟩⟩⟩⟩⟩⟩⟩
def ir_fc21 : List (Nat × Nat × Nat × Nat × Nat) := [(12, 520, 12, 42, 0), (12, 543, 12, 46, 1)]
theorem ir_fd21 : ∀ e ∈ ir_fc21, ir_fP e := List.forall_mem_cons.mpr ⟨ir_f_234, List.forall_mem_cons.mpr ⟨ir_f_235, fun _ h => absurd h List.not_mem_nil⟩⟩
def ir_fo12 : List (Nat × Nat × Nat × Nat × Nat) := ir_fc18 ++ (ir_fc19 ++ (ir_fc20 ++ (ir_fc21)))
theorem ir_fq12 : ∀ e ∈ ir_fo12, ir_fP e := List.forall_mem_append.mpr ⟨ir_fd18, List.forall_mem_append.mpr ⟨ir_fd19, List.forall_mem_append.mpr ⟨ir_fd20, ir_fd21⟩⟩⟩
def ir_fo13 : List (Nat × Nat × Nat × Nat × Nat) := []
theorem ir_fq13 : ∀ e ∈ ir_fo13, ir_fP e := fun _ h => absurd h List.not_mem_nil
def ir_fo14 : List (Nat × Nat × Nat × Nat × Nat) := []
theorem ir_fq14 : ∀ e ∈ ir_fo14, ir_fP e := fun _ h => absurd h List.not_mem_nil
def ir_fo15 : List (Nat × Nat × Nat × Nat × Nat) := []
theorem ir_fq15 : ∀ e ∈ ir_fo15, ir_fP e := fun _ h => absurd h List.not_mem_nil
def ir_fo16 : List (Nat × Nat × Nat × Nat × Nat) := []
theorem ir_fq16 : ∀ e ∈ ir_fo16, ir_fP e := fun _ h => absurd h List.not_mem_nil
def ir_fo17 : List (Nat × Nat × Nat × Nat × Nat) := []
theorem ir_fq17 : ∀ e ∈ ir_fo17, ir_fP e := fun _ h => absurd h List.not_mem_nil
def ir_fo18 : List (Nat × Nat × Nat × Nat × Nat) := []
theorem ir_fq18 : ∀ e ∈ ir_fo18, ir_fP e := fun _ h => absurd h List.not_mem_nil
def ir_fO : List (List (Nat × Nat × Nat × Nat × Nat)) := [ir_fo0, ir_fo1, ir_fo2, ir_fo3, ir_fo4, ir_fo5, ir_fo6, ir_fo7, ir_fo8, ir_fo9, ir_fo10, ir_fo11, ir_fo12, ir_fo13, ir_fo14, ir_fo15, ir_fo16, ir_fo17, ir_fo18]
theorem ir_f_ok : ∀ l ∈ ir_fO, ∀ e ∈ l, ir_fP e := List.forall_mem_cons.mpr ⟨ir_fq0, List.forall_mem_cons.mpr ⟨ir_fq1, List.forall_mem_cons.mpr ⟨ir_fq2, List.forall_mem_cons.mpr ⟨ir_fq3, List.forall_mem_cons.mpr ⟨ir_fq4, List.forall_mem_cons.mpr ⟨ir_fq5, List.forall_mem_cons.mpr ⟨ir_fq6, List.forall_mem_cons.mpr ⟨ir_fq7, List.forall_mem_cons.mpr ⟨ir_fq8, List.forall_mem_cons.mpr ⟨ir_fq9, List.forall_mem_cons.mpr ⟨ir_fq10, List.forall_mem_cons.mpr ⟨ir_fq11, List.forall_mem_cons.mpr ⟨ir_fq12, List.forall_mem_cons.mpr ⟨ir_fq13, List.forall_mem_cons.mpr ⟨ir_fq14, List.forall_mem_cons.mpr ⟨ir_fq15, List.forall_mem_cons.mpr ⟨ir_fq16, List.forall_mem_cons.mpr ⟨ir_fq17, List.forall_mem_cons.mpr ⟨ir_fq18, fun _ h => absurd h List.not_mem_nil⟩⟩⟩⟩⟩⟩⟩⟩⟩⟩⟩⟩⟩⟩⟩⟩⟩⟩⟩
def ir_pn (y n : Nat) : Prop := (ir_nm y).cls ≠ "java/lang/invoke/MethodHandle" ∧ (ir_nm y).cls ≠ "java/lang/invoke/VarHandle" ∧ (parseMethodDescriptor (ir_nm y).desc).map (fun d => d.parameters.length) = some n
def ir_VOK (o i y n rc : Nat) : Prop := Cond.methodLink (ir_on o) i (ir_nm y) ∈ ir_Tb ∧ Cond.instanceMethod (ir_nm y) ∈ ir_Tb ∧ Cond.selects (ir_nm y).cls (ir_nm y) (ir_nm y) ∈ ir_Tb ∧ Cond.initialized (ir_nm y).cls ∈ ir_Tb ∧ (∃ k, n = k + 1 ∧ ir_pn y k) ∧ ((∃ q : vw_C, vwCl[rc]? = some q ∧ q.1 = (ir_nm y).cls) ∨ (rc = 50 ∧ (ir_nm y).cls = "java/lang/String"))
def ir_SOK (o i y n : Nat) : Prop := Cond.methodLink (ir_on o) i (ir_nm y) ∈ ir_Tb ∧ Cond.static (ir_nm y) ∈ ir_Tb ∧ Cond.initialized (ir_nm y).cls ∈ ir_Tb ∧ ir_pn y n
def ir_IOK (o i y n : Nat) : Prop := (Cond.methodLink (ir_on o) i (ir_nm y) ∈ ir_Tb ∨ ∃ h, Cond.methodLinkNest (ir_on o) i (ir_nm y) h ∈ ir_NL) ∧ Cond.instanceMethod (ir_nm y) ∈ ir_Tb ∧ Cond.initialized (ir_nm y).cls ∈ ir_Tb ∧ (ir_nm y).name = "<init>" ∧ (∃ k, n = k + 1 ∧ ir_pn y k)
def ir_mP (e : Nat × Nat × Nat × Nat × Nat × Nat) : Prop := match e.2.2.1 with
  | 0 => ir_VOK e.1 e.2.1 e.2.2.2.1 e.2.2.2.2.1 e.2.2.2.2.2
  | 2 => ir_SOK e.1 e.2.1 e.2.2.2.1 e.2.2.2.2.1
  | _ => ir_IOK e.1 e.2.1 e.2.2.2.1 e.2.2.2.2.1
theorem ir_m_0 : ir_mP (0, 40, 0, 3, 6, 0) := ⟨(ir_Tm (ir_k3 112 rfl) rfl), (ir_Tm (ir_k3 113 rfl) rfl), (ir_Tm (ir_k3 114 rfl) rfl), (ir_Tm (ir_k1 11 rfl) rfl), ⟨5, rfl, ⟨by decide, by decide, by decide +kernel⟩⟩, Or.inl ⟨(RX0, TX0, 4), rfl, rfl⟩⟩
theorem ir_m_1 : ir_mP (0, 44, 0, 88, 3, 9) := ⟨(ir_Tm (ir_k3 116 rfl) rfl), (ir_Tm (ir_k3 117 rfl) rfl), (ir_Tm (ir_k3 118 rfl) rfl), (ir_Tm (ir_k1 3 rfl) rfl), ⟨2, rfl, ⟨by decide, by decide, by decide +kernel⟩⟩, Or.inl ⟨(RX9, TX9, 12), rfl, rfl⟩⟩
theorem ir_m_2 : ir_mP (0, 69, 0, 21, 2, 1) := ⟨(ir_Tm (ir_k3 120 rfl) rfl), (ir_Tm (ir_k3 121 rfl) rfl), (ir_Tm (ir_k3 122 rfl) rfl), (ir_Tm (ir_k1 4 rfl) rfl), ⟨1, rfl, ⟨by decide, by decide, by decide +kernel⟩⟩, Or.inl ⟨(RX1, TX1, 3), rfl, rfl⟩⟩
theorem ir_m_3 : ir_mP (0, 83, 2, 8, 2, 0) := ⟨(ir_Tm (ir_k3 139 rfl) rfl), (ir_Tm (ir_k3 140 rfl) rfl), (ir_Tm (ir_k1 11 rfl) rfl), ⟨by decide, by decide, by decide +kernel⟩⟩
theorem ir_m_4 : ir_mP (0, 95, 0, 9, 3, 0) := ⟨(ir_Tm (ir_k3 135 rfl) rfl), (ir_Tm (ir_k3 136 rfl) rfl), (ir_Tm (ir_k3 137 rfl) rfl), (ir_Tm (ir_k1 11 rfl) rfl), ⟨2, rfl, ⟨by decide, by decide, by decide +kernel⟩⟩, Or.inl ⟨(RX0, TX0, 4), rfl, rfl⟩⟩
theorem ir_m_5 : ir_mP (0, 99, 2, 1, 4, 0) := ⟨(ir_Tm (ir_k3 142 rfl) rfl), (ir_Tm (ir_k3 143 rfl) rfl), (ir_Tm (ir_k1 11 rfl) rfl), ⟨by decide, by decide, by decide +kernel⟩⟩
theorem ir_m_6 : ir_mP (0, 103, 0, 4, 3, 0) := ⟨(ir_Tm (ir_k3 108 rfl) rfl), (ir_Tm (ir_k3 109 rfl) rfl), (ir_Tm (ir_k3 110 rfl) rfl), (ir_Tm (ir_k1 11 rfl) rfl), ⟨2, rfl, ⟨by decide, by decide, by decide +kernel⟩⟩, Or.inl ⟨(RX0, TX0, 4), rfl, rfl⟩⟩
theorem ir_m_7 : ir_mP (0, 109, 0, 10, 4, 0) := ⟨(ir_Tm (ir_k3 131 rfl) rfl), (ir_Tm (ir_k3 132 rfl) rfl), (ir_Tm (ir_k3 133 rfl) rfl), (ir_Tm (ir_k1 11 rfl) rfl), ⟨3, rfl, ⟨by decide, by decide, by decide +kernel⟩⟩, Or.inl ⟨(RX0, TX0, 4), rfl, rfl⟩⟩
theorem ir_m_8 : ir_mP (0, 113, 0, 13, 4, 0) := ⟨(ir_Tm (ir_k3 155 rfl) rfl), (ir_Tm (ir_k3 156 rfl) rfl), (ir_Tm (ir_k3 157 rfl) rfl), (ir_Tm (ir_k1 11 rfl) rfl), ⟨3, rfl, ⟨by decide, by decide, by decide +kernel⟩⟩, Or.inl ⟨(RX0, TX0, 4), rfl, rfl⟩⟩
theorem ir_m_9 : ir_mP (0, 117, 0, 90, 3, 9) := ⟨(ir_Tm (ir_k5 189 rfl) rfl), (ir_Tm (ir_k5 139 rfl) rfl), (ir_Tm (ir_k5 140 rfl) rfl), (ir_Tm (ir_k1 3 rfl) rfl), ⟨2, rfl, ⟨by decide, by decide, by decide +kernel⟩⟩, Or.inl ⟨(RX9, TX9, 12), rfl, rfl⟩⟩
theorem ir_m_10 : ir_mP (0, 120, 0, 14, 3, 0) := ⟨(ir_Tm (ir_k4 12 rfl) rfl), (ir_Tm (ir_k3 152 rfl) rfl), (ir_Tm (ir_k3 153 rfl) rfl), (ir_Tm (ir_k1 11 rfl) rfl), ⟨2, rfl, ⟨by decide, by decide, by decide +kernel⟩⟩, Or.inl ⟨(RX0, TX0, 4), rfl, rfl⟩⟩
theorem ir_m_11 : ir_mP (0, 127, 0, 82, 2, 8) := ⟨(ir_Tm (ir_k4 13 rfl) rfl), (ir_Tm (ir_k4 14 rfl) rfl), (ir_Tm (ir_k4 15 rfl) rfl), (ir_Tm (ir_k1 5 rfl) rfl), ⟨1, rfl, ⟨by decide, by decide, by decide +kernel⟩⟩, Or.inl ⟨(RX8, TX8, 9), rfl, rfl⟩⟩
theorem ir_m_12 : ir_mP (1, 28, 2, 22, 3, 1) := ⟨(ir_Tm (ir_k3 124 rfl) rfl), (ir_Tm (ir_k3 125 rfl) rfl), (ir_Tm (ir_k1 4 rfl) rfl), ⟨by decide, by decide, by decide +kernel⟩⟩
theorem ir_m_13 : ir_mP (2, 47, 0, 25, 1, 2) := ⟨(ir_Tm (ir_k3 211 rfl) rfl), (ir_Tm (ir_k3 213 rfl) rfl), (ir_v1 4 rfl), (ir_Tm (ir_k1 12 rfl) rfl), ⟨0, rfl, ⟨by decide, by decide, by decide +kernel⟩⟩, Or.inl ⟨(RX2, TX2, 11), rfl, rfl⟩⟩
theorem ir_m_14 : ir_mP (2, 50, 0, 9, 3, 0) := ⟨(ir_Tm (ir_k3 216 rfl) rfl), (ir_Tm (ir_k3 136 rfl) rfl), (ir_Tm (ir_k3 137 rfl) rfl), (ir_Tm (ir_k1 11 rfl) rfl), ⟨2, rfl, ⟨by decide, by decide, by decide +kernel⟩⟩, Or.inl ⟨(RX0, TX0, 4), rfl, rfl⟩⟩
theorem ir_m_15 : ir_mP (2, 56, 0, 80, 1, 8) := ⟨(ir_Tm (ir_k3 217 rfl) rfl), (ir_Tm (ir_k3 218 rfl) rfl), (ir_Tm (ir_k3 219 rfl) rfl), (ir_Tm (ir_k1 5 rfl) rfl), ⟨0, rfl, ⟨by decide, by decide, by decide +kernel⟩⟩, Or.inl ⟨(RX8, TX8, 9), rfl, rfl⟩⟩
theorem ir_m_16 : ir_mP (2, 62, 0, 26, 4, 2) := ⟨(ir_Tm (ir_k3 221 rfl) rfl), (ir_Tm (ir_k3 223 rfl) rfl), (ir_v1 5 rfl), (ir_Tm (ir_k1 12 rfl) rfl), ⟨3, rfl, ⟨by decide, by decide, by decide +kernel⟩⟩, Or.inl ⟨(RX2, TX2, 11), rfl, rfl⟩⟩
theorem ir_m_17 : ir_mP (2, 78, 0, 3, 6, 0) := ⟨(ir_Tm (ir_k3 215 rfl) rfl), (ir_Tm (ir_k3 113 rfl) rfl), (ir_Tm (ir_k3 114 rfl) rfl), (ir_Tm (ir_k1 11 rfl) rfl), ⟨5, rfl, ⟨by decide, by decide, by decide +kernel⟩⟩, Or.inl ⟨(RX0, TX0, 4), rfl, rfl⟩⟩
theorem ir_m_18 : ir_mP (2, 82, 0, 28, 2, 2) := ⟨(ir_Tm (ir_k3 225 rfl) rfl), (ir_Tm (ir_k3 227 rfl) rfl), (ir_v1 6 rfl), (ir_Tm (ir_k1 12 rfl) rfl), ⟨1, rfl, ⟨by decide, by decide, by decide +kernel⟩⟩, Or.inl ⟨(RX2, TX2, 11), rfl, rfl⟩⟩
theorem ir_m_19 : ir_mP (2, 91, 0, 27, 2, 2) := ⟨(ir_Tm (ir_k3 229 rfl) rfl), (ir_Tm (ir_k3 231 rfl) rfl), (ir_v1 7 rfl), (ir_Tm (ir_k1 12 rfl) rfl), ⟨1, rfl, ⟨by decide, by decide, by decide +kernel⟩⟩, Or.inl ⟨(RX2, TX2, 11), rfl, rfl⟩⟩
theorem ir_m_20 : ir_mP (2, 98, 0, 11, 3, 0) := ⟨(ir_Tm (ir_k3 233 rfl) rfl), (ir_Tm (ir_k3 234 rfl) rfl), (ir_Tm (ir_k3 235 rfl) rfl), (ir_Tm (ir_k1 11 rfl) rfl), ⟨2, rfl, ⟨by decide, by decide, by decide +kernel⟩⟩, Or.inl ⟨(RX0, TX0, 4), rfl, rfl⟩⟩
theorem ir_m_21 : ir_mP (2, 108, 0, 88, 3, 9) := ⟨(ir_Tm (ir_k3 237 rfl) rfl), (ir_Tm (ir_k3 117 rfl) rfl), (ir_Tm (ir_k3 118 rfl) rfl), (ir_Tm (ir_k1 3 rfl) rfl), ⟨2, rfl, ⟨by decide, by decide, by decide +kernel⟩⟩, Or.inl ⟨(RX9, TX9, 12), rfl, rfl⟩⟩
theorem ir_m_22 : ir_mP (3, 49, 0, 79, 2, 8) := ⟨(ir_Tm (ir_k6 184 rfl) rfl), (ir_Tm (ir_k5 101 rfl) rfl), (ir_Tm (ir_k5 102 rfl) rfl), (ir_Tm (ir_k1 5 rfl) rfl), ⟨1, rfl, ⟨by decide, by decide, by decide +kernel⟩⟩, Or.inl ⟨(RX8, TX8, 9), rfl, rfl⟩⟩
theorem ir_m_23 : ir_mP (3, 58, 0, 31, 2, 3) := ⟨(ir_Tm (ir_k6 185 rfl) rfl), (ir_Tm (ir_k6 187 rfl) rfl), (ir_v4 7 rfl), (ir_Tm (ir_k1 13 rfl) rfl), ⟨1, rfl, ⟨by decide, by decide, by decide +kernel⟩⟩, Or.inl ⟨(RX3, TX3, 10), rfl, rfl⟩⟩
theorem ir_m_24 : ir_mP (3, 62, 0, 32, 1, 3) := ⟨(ir_Tm (ir_k6 189 rfl) rfl), (ir_Tm (ir_k6 191 rfl) rfl), (ir_v4 8 rfl), (ir_Tm (ir_k1 13 rfl) rfl), ⟨0, rfl, ⟨by decide, by decide, by decide +kernel⟩⟩, Or.inl ⟨(RX3, TX3, 10), rfl, rfl⟩⟩
theorem ir_m_25 : ir_mP (3, 65, 0, 7, 2, 0) := ⟨(ir_Tm (ir_k6 196 rfl) rfl), (ir_Tm (ir_k6 197 rfl) rfl), (ir_Tm (ir_k6 198 rfl) rfl), (ir_Tm (ir_k1 11 rfl) rfl), ⟨1, rfl, ⟨by decide, by decide, by decide +kernel⟩⟩, Or.inl ⟨(RX0, TX0, 4), rfl, rfl⟩⟩
theorem ir_m_26 : ir_mP (3, 73, 0, 6, 3, 0) := ⟨(ir_Tm (ir_k6 200 rfl) rfl), (ir_Tm (ir_k6 134 rfl) rfl), (ir_Tm (ir_k6 135 rfl) rfl), (ir_Tm (ir_k1 11 rfl) rfl), ⟨2, rfl, ⟨by decide, by decide, by decide +kernel⟩⟩, Or.inl ⟨(RX0, TX0, 4), rfl, rfl⟩⟩
theorem ir_m_27 : ir_mP (3, 83, 0, 10, 4, 0) := ⟨(ir_Tm (ir_k6 193 rfl) rfl), (ir_Tm (ir_k3 132 rfl) rfl), (ir_Tm (ir_k3 133 rfl) rfl), (ir_Tm (ir_k1 11 rfl) rfl), ⟨3, rfl, ⟨by decide, by decide, by decide +kernel⟩⟩, Or.inl ⟨(RX0, TX0, 4), rfl, rfl⟩⟩
theorem ir_m_28 : ir_mP (3, 87, 0, 13, 4, 0) := ⟨(ir_Tm (ir_k6 194 rfl) rfl), (ir_Tm (ir_k3 156 rfl) rfl), (ir_Tm (ir_k3 157 rfl) rfl), (ir_Tm (ir_k1 11 rfl) rfl), ⟨3, rfl, ⟨by decide, by decide, by decide +kernel⟩⟩, Or.inl ⟨(RX0, TX0, 4), rfl, rfl⟩⟩
theorem ir_m_29 : ir_mP (4, 15, 1, 85, 1, 9) := ⟨Or.inr ⟨_, (ir_Nm (ir_k1 232 rfl) rfl)⟩, (ir_Tm (ir_k1 47 rfl) rfl), (ir_Tm (ir_k1 3 rfl) rfl), rfl, ⟨0, rfl, ⟨by decide, by decide, by decide +kernel⟩⟩⟩
theorem ir_m_30 : ir_mP (4, 22, 1, 76, 1, 8) := ⟨Or.inr ⟨_, (ir_Nm (ir_k1 234 rfl) rfl)⟩, (ir_Tm (ir_k1 141 rfl) rfl), (ir_Tm (ir_k1 5 rfl) rfl), rfl, ⟨0, rfl, ⟨by decide, by decide, by decide +kernel⟩⟩⟩
theorem ir_m_31 : ir_mP (4, 29, 0, 370, 1, 50) := ⟨(ir_Tm (ir_k1 236 rfl) rfl), (ir_Tm (ir_k1 237 rfl) rfl), (ir_Tm (ir_k1 238 rfl) rfl), (ir_Tm (ir_k1 7 rfl) rfl), ⟨0, rfl, ⟨by decide, by decide, by decide +kernel⟩⟩, Or.inr ⟨rfl, rfl⟩⟩
theorem ir_m_32 : ir_mP (4, 65, 0, 86, 1, 9) := ⟨(ir_Tm (ir_k4 118 rfl) rfl), (ir_Tm (ir_k4 119 rfl) rfl), (ir_Tm (ir_k4 120 rfl) rfl), (ir_Tm (ir_k1 3 rfl) rfl), ⟨0, rfl, ⟨by decide, by decide, by decide +kernel⟩⟩, Or.inl ⟨(RX9, TX9, 12), rfl, rfl⟩⟩
theorem ir_m_33 : ir_mP (4, 68, 0, 77, 1, 8) := ⟨(ir_Tm (ir_k4 129 rfl) rfl), (ir_Tm (ir_k4 130 rfl) rfl), (ir_Tm (ir_k4 131 rfl) rfl), (ir_Tm (ir_k1 5 rfl) rfl), ⟨0, rfl, ⟨by decide, by decide, by decide +kernel⟩⟩, Or.inl ⟨(RX8, TX8, 9), rfl, rfl⟩⟩
theorem ir_m_34 : ir_mP (4, 69, 0, 35, 1, 4) := ⟨(ir_Tm (ir_k4 134 rfl) rfl), (ir_Tm (ir_k4 136 rfl) rfl), (ir_v1 12 rfl), (ir_Tm (ir_k1 6 rfl) rfl), ⟨0, rfl, ⟨by decide, by decide, by decide +kernel⟩⟩, Or.inl ⟨(RX4, TX4, 11), rfl, rfl⟩⟩
theorem ir_m_35 : ir_mP (4, 72, 0, 41, 1, 4) := ⟨(ir_Tm (ir_k4 209 rfl) rfl), (ir_Tm (ir_k4 211 rfl) rfl), (ir_v1 15 rfl), (ir_Tm (ir_k1 6 rfl) rfl), ⟨0, rfl, ⟨by decide, by decide, by decide +kernel⟩⟩, Or.inl ⟨(RX4, TX4, 11), rfl, rfl⟩⟩
theorem ir_m_36 : ir_mP (4, 79, 0, 42, 1, 4) := ⟨(ir_Tm (ir_k4 225 rfl) rfl), (ir_Tm (ir_k4 227 rfl) rfl), (ir_v2 3 rfl), (ir_Tm (ir_k1 6 rfl) rfl), ⟨0, rfl, ⟨by decide, by decide, by decide +kernel⟩⟩, Or.inl ⟨(RX4, TX4, 11), rfl, rfl⟩⟩
theorem ir_m_37 : ir_mP (4, 82, 0, 39, 2, 4) := ⟨(ir_Tm (ir_k4 213 rfl) rfl), (ir_Tm (ir_k4 215 rfl) rfl), (ir_v2 0 rfl), (ir_Tm (ir_k1 6 rfl) rfl), ⟨1, rfl, ⟨by decide, by decide, by decide +kernel⟩⟩, Or.inl ⟨(RX4, TX4, 11), rfl, rfl⟩⟩
theorem ir_m_38 : ir_mP (4, 92, 0, 36, 1, 4) := ⟨(ir_Tm (ir_k4 138 rfl) rfl), (ir_Tm (ir_k4 140 rfl) rfl), (ir_v1 13 rfl), (ir_Tm (ir_k1 6 rfl) rfl), ⟨0, rfl, ⟨by decide, by decide, by decide +kernel⟩⟩, Or.inl ⟨(RX4, TX4, 11), rfl, rfl⟩⟩
theorem ir_m_39 : ir_mP (4, 95, 0, 37, 1, 4) := ⟨(ir_Tm (ir_k4 142 rfl) rfl), (ir_Tm (ir_k4 144 rfl) rfl), (ir_v1 14 rfl), (ir_Tm (ir_k1 6 rfl) rfl), ⟨0, rfl, ⟨by decide, by decide, by decide +kernel⟩⟩, Or.inl ⟨(RX4, TX4, 11), rfl, rfl⟩⟩
theorem ir_m_40 : ir_mP (4, 100, 0, 368, 2, 50) := ⟨(ir_Tm (ir_k4 147 rfl) rfl), (ir_Tm (ir_k4 148 rfl) rfl), (ir_Tm (ir_k4 149 rfl) rfl), (ir_Tm (ir_k1 7 rfl) rfl), ⟨1, rfl, ⟨by decide, by decide, by decide +kernel⟩⟩, Or.inr ⟨rfl, rfl⟩⟩
theorem ir_m_41 : ir_mP (4, 107, 0, 38, 2, 4) := ⟨(ir_Tm (ir_k4 217 rfl) rfl), (ir_Tm (ir_k4 219 rfl) rfl), (ir_v2 1 rfl), (ir_Tm (ir_k1 6 rfl) rfl), ⟨1, rfl, ⟨by decide, by decide, by decide +kernel⟩⟩, Or.inl ⟨(RX4, TX4, 11), rfl, rfl⟩⟩
theorem ir_m_42 : ir_mP (4, 110, 0, 40, 3, 4) := ⟨(ir_Tm (ir_k4 221 rfl) rfl), (ir_Tm (ir_k4 223 rfl) rfl), (ir_v2 2 rfl), (ir_Tm (ir_k1 6 rfl) rfl), ⟨2, rfl, ⟨by decide, by decide, by decide +kernel⟩⟩, Or.inl ⟨(RX4, TX4, 11), rfl, rfl⟩⟩
theorem ir_m_43 : ir_mP (4, 117, 0, 43, 1, 4) := ⟨(ir_Tm (ir_k4 229 rfl) rfl), (ir_Tm (ir_k4 231 rfl) rfl), (ir_v2 4 rfl), (ir_Tm (ir_k1 6 rfl) rfl), ⟨0, rfl, ⟨by decide, by decide, by decide +kernel⟩⟩, Or.inl ⟨(RX4, TX4, 11), rfl, rfl⟩⟩
theorem ir_m_44 : ir_mP (4, 120, 0, 45, 1, 4) := ⟨(ir_Tm (ir_k5 5 rfl) rfl), (ir_Tm (ir_k5 7 rfl) rfl), (ir_v2 6 rfl), (ir_Tm (ir_k1 6 rfl) rfl), ⟨0, rfl, ⟨by decide, by decide, by decide +kernel⟩⟩, Or.inl ⟨(RX4, TX4, 11), rfl, rfl⟩⟩
theorem ir_m_45 : ir_mP (4, 123, 0, 47, 1, 4) := ⟨(ir_Tm (ir_k5 13 rfl) rfl), (ir_Tm (ir_k5 15 rfl) rfl), (ir_v2 8 rfl), (ir_Tm (ir_k1 6 rfl) rfl), ⟨0, rfl, ⟨by decide, by decide, by decide +kernel⟩⟩, Or.inl ⟨(RX4, TX4, 11), rfl, rfl⟩⟩
theorem ir_m_46 : ir_mP (4, 126, 0, 48, 1, 4) := ⟨(ir_Tm (ir_k5 21 rfl) rfl), (ir_Tm (ir_k5 23 rfl) rfl), (ir_v2 9 rfl), (ir_Tm (ir_k1 6 rfl) rfl), ⟨0, rfl, ⟨by decide, by decide, by decide +kernel⟩⟩, Or.inl ⟨(RX4, TX4, 11), rfl, rfl⟩⟩
theorem ir_m_47 : ir_mP (4, 139, 0, 49, 1, 4) := ⟨(ir_Tm (ir_k5 25 rfl) rfl), (ir_Tm (ir_k5 27 rfl) rfl), (ir_v2 10 rfl), (ir_Tm (ir_k1 6 rfl) rfl), ⟨0, rfl, ⟨by decide, by decide, by decide +kernel⟩⟩, Or.inl ⟨(RX4, TX4, 11), rfl, rfl⟩⟩
theorem ir_m_48 : ir_mP (4, 146, 0, 18, 1, 1) := ⟨(ir_Tm (ir_k5 29 rfl) rfl), (ir_Tm (ir_k4 126 rfl) rfl), (ir_Tm (ir_k4 127 rfl) rfl), (ir_Tm (ir_k1 4 rfl) rfl), ⟨0, rfl, ⟨by decide, by decide, by decide +kernel⟩⟩, Or.inl ⟨(RX1, TX1, 3), rfl, rfl⟩⟩
theorem ir_m_49 : ir_mP (4, 147, 0, 50, 2, 4) := ⟨(ir_Tm (ir_k5 30 rfl) rfl), (ir_Tm (ir_k5 32 rfl) rfl), (ir_v2 11 rfl), (ir_Tm (ir_k1 6 rfl) rfl), ⟨1, rfl, ⟨by decide, by decide, by decide +kernel⟩⟩, Or.inl ⟨(RX4, TX4, 11), rfl, rfl⟩⟩
theorem ir_m_50 : ir_mP (4, 163, 0, 44, 1, 4) := ⟨(ir_Tm (ir_k4 233 rfl) rfl), (ir_Tm (ir_k4 235 rfl) rfl), (ir_v2 5 rfl), (ir_Tm (ir_k1 6 rfl) rfl), ⟨0, rfl, ⟨by decide, by decide, by decide +kernel⟩⟩, Or.inl ⟨(RX4, TX4, 11), rfl, rfl⟩⟩
theorem ir_m_51 : ir_mP (4, 166, 0, 89, 4, 9) := ⟨(ir_Tm (ir_k4 237 rfl) rfl), (ir_Tm (ir_k4 238 rfl) rfl), (ir_Tm (ir_k4 239 rfl) rfl), (ir_Tm (ir_k1 3 rfl) rfl), ⟨3, rfl, ⟨by decide, by decide, by decide +kernel⟩⟩, Or.inl ⟨(RX9, TX9, 12), rfl, rfl⟩⟩
theorem ir_m_52 : ir_mP (4, 170, 0, 81, 2, 8) := ⟨(ir_Tm (ir_k5 1 rfl) rfl), (ir_Tm (ir_k5 2 rfl) rfl), (ir_Tm (ir_k5 3 rfl) rfl), (ir_Tm (ir_k1 5 rfl) rfl), ⟨1, rfl, ⟨by decide, by decide, by decide +kernel⟩⟩, Or.inl ⟨(RX8, TX8, 9), rfl, rfl⟩⟩
theorem ir_m_53 : ir_mP (4, 176, 0, 46, 2, 4) := ⟨(ir_Tm (ir_k5 9 rfl) rfl), (ir_Tm (ir_k5 11 rfl) rfl), (ir_v2 7 rfl), (ir_Tm (ir_k1 6 rfl) rfl), ⟨1, rfl, ⟨by decide, by decide, by decide +kernel⟩⟩, Or.inl ⟨(RX4, TX4, 11), rfl, rfl⟩⟩
theorem ir_m_54 : ir_mP (4, 182, 0, 91, 4, 9) := ⟨(ir_Tm (ir_k5 17 rfl) rfl), (ir_Tm (ir_k5 18 rfl) rfl), (ir_Tm (ir_k5 19 rfl) rfl), (ir_Tm (ir_k1 3 rfl) rfl), ⟨3, rfl, ⟨by decide, by decide, by decide +kernel⟩⟩, Or.inl ⟨(RX9, TX9, 12), rfl, rfl⟩⟩
theorem ir_m_55 : ir_mP (4, 188, 0, 51, 2, 4) := ⟨(ir_Tm (ir_k5 34 rfl) rfl), (ir_Tm (ir_k5 36 rfl) rfl), (ir_v2 12 rfl), (ir_Tm (ir_k1 6 rfl) rfl), ⟨1, rfl, ⟨by decide, by decide, by decide +kernel⟩⟩, Or.inl ⟨(RX4, TX4, 11), rfl, rfl⟩⟩
theorem ir_m_56 : ir_mP (4, 191, 0, 19, 2, 1) := ⟨(ir_Tm (ir_k5 42 rfl) rfl), (ir_Tm (ir_k5 43 rfl) rfl), (ir_Tm (ir_k5 44 rfl) rfl), (ir_Tm (ir_k1 4 rfl) rfl), ⟨1, rfl, ⟨by decide, by decide, by decide +kernel⟩⟩, Or.inl ⟨(RX1, TX1, 3), rfl, rfl⟩⟩
theorem ir_m_57 : ir_mP (4, 195, 0, 52, 2, 4) := ⟨(ir_Tm (ir_k5 38 rfl) rfl), (ir_Tm (ir_k5 40 rfl) rfl), (ir_v2 13 rfl), (ir_Tm (ir_k1 6 rfl) rfl), ⟨1, rfl, ⟨by decide, by decide, by decide +kernel⟩⟩, Or.inl ⟨(RX4, TX4, 11), rfl, rfl⟩⟩
theorem ir_m_58 : ir_mP (4, 198, 0, 53, 2, 4) := ⟨(ir_Tm (ir_k5 46 rfl) rfl), (ir_Tm (ir_k5 48 rfl) rfl), (ir_v2 14 rfl), (ir_Tm (ir_k1 6 rfl) rfl), ⟨1, rfl, ⟨by decide, by decide, by decide +kernel⟩⟩, Or.inl ⟨(RX4, TX4, 11), rfl, rfl⟩⟩
theorem ir_m_59 : ir_mP (4, 201, 0, 54, 2, 4) := ⟨(ir_Tm (ir_k5 50 rfl) rfl), (ir_Tm (ir_k5 52 rfl) rfl), (ir_v2 15 rfl), (ir_Tm (ir_k1 6 rfl) rfl), ⟨1, rfl, ⟨by decide, by decide, by decide +kernel⟩⟩, Or.inl ⟨(RX4, TX4, 11), rfl, rfl⟩⟩
theorem ir_m_60 : ir_mP (4, 204, 0, 55, 2, 4) := ⟨(ir_Tm (ir_k5 54 rfl) rfl), (ir_Tm (ir_k5 56 rfl) rfl), (ir_v3 0 rfl), (ir_Tm (ir_k1 6 rfl) rfl), ⟨1, rfl, ⟨by decide, by decide, by decide +kernel⟩⟩, Or.inl ⟨(RX4, TX4, 11), rfl, rfl⟩⟩
theorem ir_m_61 : ir_mP (5, 11, 1, 85, 1, 9) := ⟨Or.inr ⟨_, (ir_Nm (ir_k1 46 rfl) rfl)⟩, (ir_Tm (ir_k1 47 rfl) rfl), (ir_Tm (ir_k1 3 rfl) rfl), rfl, ⟨0, rfl, ⟨by decide, by decide, by decide +kernel⟩⟩⟩
theorem ir_m_62 : ir_mP (5, 20, 1, 76, 1, 8) := ⟨Or.inr ⟨_, (ir_Nm (ir_k1 140 rfl) rfl)⟩, (ir_Tm (ir_k1 141 rfl) rfl), (ir_Tm (ir_k1 5 rfl) rfl), rfl, ⟨0, rfl, ⟨by decide, by decide, by decide +kernel⟩⟩⟩
theorem ir_m_63 : ir_mP (5, 29, 0, 87, 2, 9) := ⟨(ir_Tm (ir_k5 62 rfl) rfl), (ir_Tm (ir_k5 63 rfl) rfl), (ir_Tm (ir_k5 64 rfl) rfl), (ir_Tm (ir_k1 3 rfl) rfl), ⟨1, rfl, ⟨by decide, by decide, by decide +kernel⟩⟩, Or.inl ⟨(RX9, TX9, 12), rfl, rfl⟩⟩
theorem ir_m_64 : ir_mP (5, 33, 0, 78, 2, 8) := ⟨(ir_Tm (ir_k3 194 rfl) rfl), (ir_Tm (ir_k3 173 rfl) rfl), (ir_Tm (ir_k3 174 rfl) rfl), (ir_Tm (ir_k1 5 rfl) rfl), ⟨1, rfl, ⟨by decide, by decide, by decide +kernel⟩⟩, Or.inl ⟨(RX8, TX8, 9), rfl, rfl⟩⟩
theorem ir_m_65 : ir_mP (6, 44, 0, 5, 3, 0) := ⟨(ir_Tm (ir_k7 87 rfl) rfl), (ir_Tm (ir_k6 126 rfl) rfl), (ir_Tm (ir_k6 127 rfl) rfl), (ir_Tm (ir_k1 11 rfl) rfl), ⟨2, rfl, ⟨by decide, by decide, by decide +kernel⟩⟩, Or.inl ⟨(RX0, TX0, 4), rfl, rfl⟩⟩
theorem ir_m_66 : ir_mP (6, 50, 0, 9, 3, 0) := ⟨(ir_Tm (ir_k7 88 rfl) rfl), (ir_Tm (ir_k3 136 rfl) rfl), (ir_Tm (ir_k3 137 rfl) rfl), (ir_Tm (ir_k1 11 rfl) rfl), ⟨2, rfl, ⟨by decide, by decide, by decide +kernel⟩⟩, Or.inl ⟨(RX0, TX0, 4), rfl, rfl⟩⟩
theorem ir_m_67 : ir_mP (6, 59, 0, 63, 2, 6) := ⟨(ir_Tm (ir_k7 89 rfl) rfl), (ir_Tm (ir_k7 91 rfl) rfl), (ir_v5 1 rfl), (ir_Tm (ir_k1 15 rfl) rfl), ⟨1, rfl, ⟨by decide, by decide, by decide +kernel⟩⟩, Or.inl ⟨(RX6, TX6, 9), rfl, rfl⟩⟩
theorem ir_m_68 : ir_mP (6, 63, 0, 94, 2, 10) := ⟨(ir_Tm (ir_k7 94 rfl) rfl), (ir_Tm (ir_k6 23 rfl) rfl), (ir_Tm (ir_k6 24 rfl) rfl), (ir_Tm (ir_k1 16 rfl) rfl), ⟨1, rfl, ⟨by decide, by decide, by decide +kernel⟩⟩, Or.inl ⟨(RX10, TX10, 4), rfl, rfl⟩⟩
theorem ir_m_69 : ir_mP (6, 74, 0, 6, 3, 0) := ⟨(ir_Tm (ir_k7 93 rfl) rfl), (ir_Tm (ir_k6 134 rfl) rfl), (ir_Tm (ir_k6 135 rfl) rfl), (ir_Tm (ir_k1 11 rfl) rfl), ⟨2, rfl, ⟨by decide, by decide, by decide +kernel⟩⟩, Or.inl ⟨(RX0, TX0, 4), rfl, rfl⟩⟩
theorem ir_m_70 : ir_mP (6, 82, 0, 66, 1, 6) := ⟨(ir_Tm (ir_k7 99 rfl) rfl), (ir_Tm (ir_k7 101 rfl) rfl), (ir_v5 2 rfl), (ir_Tm (ir_k1 15 rfl) rfl), ⟨0, rfl, ⟨by decide, by decide, by decide +kernel⟩⟩, Or.inl ⟨(RX6, TX6, 9), rfl, rfl⟩⟩
theorem ir_m_71 : ir_mP (6, 86, 0, 68, 2, 6) := ⟨(ir_Tm (ir_k7 109 rfl) rfl), (ir_Tm (ir_k7 111 rfl) rfl), (ir_v5 4 rfl), (ir_Tm (ir_k1 15 rfl) rfl), ⟨1, rfl, ⟨by decide, by decide, by decide +kernel⟩⟩, Or.inl ⟨(RX6, TX6, 9), rfl, rfl⟩⟩
theorem ir_m_72 : ir_mP (6, 90, 0, 64, 1, 6) := ⟨(ir_Tm (ir_k7 136 rfl) rfl), (ir_Tm (ir_k7 96 rfl) rfl), (ir_Tm (ir_k7 97 rfl) rfl), (ir_Tm (ir_k1 15 rfl) rfl), ⟨0, rfl, ⟨by decide, by decide, by decide +kernel⟩⟩, Or.inl ⟨(RX6, TX6, 9), rfl, rfl⟩⟩
theorem ir_m_73 : ir_mP (6, 93, 0, 67, 2, 6) := ⟨(ir_Tm (ir_k7 103 rfl) rfl), (ir_Tm (ir_k7 105 rfl) rfl), (ir_v5 3 rfl), (ir_Tm (ir_k1 15 rfl) rfl), ⟨1, rfl, ⟨by decide, by decide, by decide +kernel⟩⟩, Or.inl ⟨(RX6, TX6, 9), rfl, rfl⟩⟩
theorem ir_m_74 : ir_mP (6, 103, 2, 8, 2, 0) := ⟨(ir_Tm (ir_k7 108 rfl) rfl), (ir_Tm (ir_k3 140 rfl) rfl), (ir_Tm (ir_k1 11 rfl) rfl), ⟨by decide, by decide, by decide +kernel⟩⟩
theorem ir_m_75 : ir_mP (6, 113, 2, 1, 4, 0) := ⟨(ir_Tm (ir_k7 113 rfl) rfl), (ir_Tm (ir_k3 143 rfl) rfl), (ir_Tm (ir_k1 11 rfl) rfl), ⟨by decide, by decide, by decide +kernel⟩⟩
theorem ir_m_76 : ir_mP (6, 117, 0, 70, 3, 6) := ⟨(ir_Tm (ir_k7 114 rfl) rfl), (ir_Tm (ir_k7 116 rfl) rfl), (ir_v5 5 rfl), (ir_Tm (ir_k1 15 rfl) rfl), ⟨2, rfl, ⟨by decide, by decide, by decide +kernel⟩⟩, Or.inl ⟨(RX6, TX6, 9), rfl, rfl⟩⟩
theorem ir_m_77 : ir_mP (6, 120, 2, 380, 2, 99) := ⟨(ir_Tm (ir_k7 118 rfl) rfl), (ir_Tm (ir_k7 119 rfl) rfl), (ir_Tm (ir_k1 23 rfl) rfl), ⟨by decide, by decide, by decide +kernel⟩⟩
theorem ir_m_78 : ir_mP (6, 126, 0, 69, 3, 6) := ⟨(ir_Tm (ir_k7 121 rfl) rfl), (ir_Tm (ir_k7 123 rfl) rfl), (ir_v5 6 rfl), (ir_Tm (ir_k1 15 rfl) rfl), ⟨2, rfl, ⟨by decide, by decide, by decide +kernel⟩⟩, Or.inl ⟨(RX6, TX6, 9), rfl, rfl⟩⟩
theorem ir_m_79 : ir_mP (7, 29, 0, 4, 3, 0) := ⟨(ir_Tm (ir_k7 27 rfl) rfl), (ir_Tm (ir_k3 109 rfl) rfl), (ir_Tm (ir_k3 110 rfl) rfl), (ir_Tm (ir_k1 11 rfl) rfl), ⟨2, rfl, ⟨by decide, by decide, by decide +kernel⟩⟩, Or.inl ⟨(RX0, TX0, 4), rfl, rfl⟩⟩
theorem ir_m_80 : ir_mP (7, 47, 2, 381, 2, 99) := ⟨(ir_Tm (ir_k7 29 rfl) rfl), (ir_Tm (ir_k4 123 rfl) rfl), (ir_Tm (ir_k1 23 rfl) rfl), ⟨by decide, by decide, by decide +kernel⟩⟩
theorem ir_m_81 : ir_mP (7, 53, 0, 74, 4, 7) := ⟨(ir_Tm (ir_k7 30 rfl) rfl), (ir_Tm (ir_k7 32 rfl) rfl), (ir_v4 15 rfl), (ir_Tm (ir_k1 14 rfl) rfl), ⟨3, rfl, ⟨by decide, by decide, by decide +kernel⟩⟩, Or.inl ⟨(RX7, TX7, 5), rfl, rfl⟩⟩
theorem ir_m_82 : ir_mP (7, 68, 2, 1, 4, 0) := ⟨(ir_Tm (ir_k7 35 rfl) rfl), (ir_Tm (ir_k3 143 rfl) rfl), (ir_Tm (ir_k1 11 rfl) rfl), ⟨by decide, by decide, by decide +kernel⟩⟩
theorem ir_m_83 : ir_mP (7, 75, 0, 88, 3, 9) := ⟨(ir_Tm (ir_k7 36 rfl) rfl), (ir_Tm (ir_k3 117 rfl) rfl), (ir_Tm (ir_k3 118 rfl) rfl), (ir_Tm (ir_k1 3 rfl) rfl), ⟨2, rfl, ⟨by decide, by decide, by decide +kernel⟩⟩, Or.inl ⟨(RX9, TX9, 12), rfl, rfl⟩⟩
theorem ir_m_84 : ir_mP (7, 78, 2, 365, 1, 99) := ⟨(ir_Tm (ir_k7 52 rfl) rfl), (ir_Tm (ir_k6 169 rfl) rfl), (ir_Tm (ir_k1 28 rfl) rfl), ⟨by decide, by decide, by decide +kernel⟩⟩
theorem ir_m_85 : ir_mP (8, 41, 2, 381, 2, 99) := ⟨(ir_Tm (ir_k4 133 rfl) rfl), (ir_Tm (ir_k4 123 rfl) rfl), (ir_Tm (ir_k1 23 rfl) rfl), ⟨by decide, by decide, by decide +kernel⟩⟩
theorem ir_m_86 : ir_mP (8, 53, 0, 83, 3, 8) := ⟨(ir_Tm (ir_k4 17 rfl) rfl), (ir_Tm (ir_k3 180 rfl) rfl), (ir_Tm (ir_k3 181 rfl) rfl), (ir_Tm (ir_k1 5 rfl) rfl), ⟨2, rfl, ⟨by decide, by decide, by decide +kernel⟩⟩, Or.inl ⟨(RX8, TX8, 9), rfl, rfl⟩⟩
theorem ir_m_87 : ir_mP (9, 24, 1, 17, 1, 1) := ⟨Or.inr ⟨_, (ir_Nm (ir_k1 52 rfl) rfl)⟩, (ir_Tm (ir_k1 53 rfl) rfl), (ir_Tm (ir_k1 4 rfl) rfl), rfl, ⟨0, rfl, ⟨by decide, by decide, by decide +kernel⟩⟩⟩
theorem ir_m_88 : ir_mP (9, 54, 2, 381, 2, 99) := ⟨(ir_Tm (ir_k4 122 rfl) rfl), (ir_Tm (ir_k4 123 rfl) rfl), (ir_Tm (ir_k1 23 rfl) rfl), ⟨by decide, by decide, by decide +kernel⟩⟩
theorem ir_m_89 : ir_mP (9, 60, 0, 18, 1, 1) := ⟨(ir_Tm (ir_k4 125 rfl) rfl), (ir_Tm (ir_k4 126 rfl) rfl), (ir_Tm (ir_k4 127 rfl) rfl), (ir_Tm (ir_k1 4 rfl) rfl), ⟨0, rfl, ⟨by decide, by decide, by decide +kernel⟩⟩, Or.inl ⟨(RX1, TX1, 3), rfl, rfl⟩⟩
theorem ir_m_90 : ir_mP (9, 69, 0, 20, 2, 1) := ⟨(ir_Tm (ir_k5 67 rfl) rfl), (ir_Tm (ir_k5 68 rfl) rfl), (ir_Tm (ir_k5 69 rfl) rfl), (ir_Tm (ir_k1 4 rfl) rfl), ⟨1, rfl, ⟨by decide, by decide, by decide +kernel⟩⟩, Or.inl ⟨(RX1, TX1, 3), rfl, rfl⟩⟩
theorem ir_m_91 : ir_mP (10, 26, 2, 380, 2, 99) := ⟨(ir_Tm (ir_k7 149 rfl) rfl), (ir_Tm (ir_k7 119 rfl) rfl), (ir_Tm (ir_k1 23 rfl) rfl), ⟨by decide, by decide, by decide +kernel⟩⟩
theorem ir_m_92 : ir_mP (10, 32, 0, 96, 2, 10) := ⟨(ir_Tm (ir_k7 178 rfl) rfl), (ir_Tm (ir_k7 180 rfl) rfl), (ir_v5 7 rfl), (ir_Tm (ir_k1 16 rfl) rfl), ⟨1, rfl, ⟨by decide, by decide, by decide +kernel⟩⟩, Or.inl ⟨(RX10, TX10, 4), rfl, rfl⟩⟩
theorem ir_m_93 : ir_mP (11, 19, 1, 56, 1, 5) := ⟨Or.inl (ir_Tm (ir_k1 40 rfl) rfl), (ir_Tm (ir_k1 41 rfl) rfl), (ir_Tm (ir_k1 2 rfl) rfl), rfl, ⟨0, rfl, ⟨by decide, by decide, by decide +kernel⟩⟩⟩
theorem ir_m_94 : ir_mP (11, 36, 1, 76, 1, 8) := ⟨Or.inr ⟨_, (ir_Nm (ir_k1 221 rfl) rfl)⟩, (ir_Tm (ir_k1 141 rfl) rfl), (ir_Tm (ir_k1 5 rfl) rfl), rfl, ⟨0, rfl, ⟨by decide, by decide, by decide +kernel⟩⟩⟩
theorem ir_m_95 : ir_mP (11, 56, 1, 33, 1, 4) := ⟨Or.inr ⟨_, (ir_Nm (ir_k1 227 rfl) rfl)⟩, (ir_Tm (ir_k1 228 rfl) rfl), (ir_Tm (ir_k1 6 rfl) rfl), rfl, ⟨0, rfl, ⟨by decide, by decide, by decide +kernel⟩⟩⟩
theorem ir_m_96 : ir_mP (11, 63, 1, 0, 1, 0) := ⟨Or.inr ⟨_, (ir_Nm (ir_k2 83 rfl) rfl)⟩, (ir_Tm (ir_k2 84 rfl) rfl), (ir_Tm (ir_k1 11 rfl) rfl), rfl, ⟨0, rfl, ⟨by decide, by decide, by decide +kernel⟩⟩⟩
theorem ir_m_97 : ir_mP (11, 70, 1, 23, 1, 2) := ⟨Or.inr ⟨_, (ir_Nm (ir_k2 108 rfl) rfl)⟩, (ir_Tm (ir_k2 109 rfl) rfl), (ir_Tm (ir_k1 12 rfl) rfl), rfl, ⟨0, rfl, ⟨by decide, by decide, by decide +kernel⟩⟩⟩
theorem ir_m_98 : ir_mP (11, 77, 1, 29, 1, 3) := ⟨Or.inr ⟨_, (ir_Nm (ir_k2 153 rfl) rfl)⟩, (ir_Tm (ir_k2 154 rfl) rfl), (ir_Tm (ir_k1 13 rfl) rfl), rfl, ⟨0, rfl, ⟨by decide, by decide, by decide +kernel⟩⟩⟩
theorem ir_m_99 : ir_mP (11, 84, 1, 71, 1, 7) := ⟨Or.inr ⟨_, (ir_Nm (ir_k2 192 rfl) rfl)⟩, (ir_Tm (ir_k2 193 rfl) rfl), (ir_Tm (ir_k1 14 rfl) rfl), rfl, ⟨0, rfl, ⟨by decide, by decide, by decide +kernel⟩⟩⟩
theorem ir_m_100 : ir_mP (11, 91, 1, 61, 1, 6) := ⟨Or.inr ⟨_, (ir_Nm (ir_k2 214 rfl) rfl)⟩, (ir_Tm (ir_k2 215 rfl) rfl), (ir_Tm (ir_k1 15 rfl) rfl), rfl, ⟨0, rfl, ⟨by decide, by decide, by decide +kernel⟩⟩⟩
theorem ir_m_101 : ir_mP (11, 96, 1, 92, 1, 10) := ⟨Or.inr ⟨_, (ir_Nm (ir_k3 8 rfl) rfl)⟩, (ir_Tm (ir_k3 9 rfl) rfl), (ir_Tm (ir_k1 16 rfl) rfl), rfl, ⟨0, rfl, ⟨by decide, by decide, by decide +kernel⟩⟩⟩
theorem ir_m_102 : ir_mP (11, 100, 0, 155, 2, 11) := ⟨(ir_Tm (ir_k3 92 rfl) rfl), (ir_Tm (ir_k3 94 rfl) rfl), (ir_v1 0 rfl), (ir_Tm (ir_k1 1 rfl) rfl), ⟨1, rfl, ⟨by decide, by decide, by decide +kernel⟩⟩, Or.inl ⟨(RX11, TX11, 20), rfl, rfl⟩⟩
theorem ir_m_103 : ir_mP (11, 111, 0, 34, 3, 4) := ⟨(ir_Tm (ir_k4 112 rfl) rfl), (ir_Tm (ir_k4 113 rfl) rfl), (ir_Tm (ir_k4 114 rfl) rfl), (ir_Tm (ir_k1 6 rfl) rfl), ⟨2, rfl, ⟨by decide, by decide, by decide +kernel⟩⟩, Or.inl ⟨(RX4, TX4, 11), rfl, rfl⟩⟩
theorem ir_m_104 : ir_mP (11, 122, 0, 57, 3, 5) := ⟨(ir_Tm (ir_k5 58 rfl) rfl), (ir_Tm (ir_k5 59 rfl) rfl), (ir_Tm (ir_k5 60 rfl) rfl), (ir_Tm (ir_k1 2 rfl) rfl), ⟨2, rfl, ⟨by decide, by decide, by decide +kernel⟩⟩, Or.inl ⟨(RX5, TX5, 5), rfl, rfl⟩⟩
theorem ir_m_105 : ir_mP (11, 135, 0, 145, 2, 11) := ⟨(ir_Tm (ir_k5 80 rfl) rfl), (ir_Tm (ir_k5 82 rfl) rfl), (ir_v3 1 rfl), (ir_Tm (ir_k1 1 rfl) rfl), ⟨1, rfl, ⟨by decide, by decide, by decide +kernel⟩⟩, Or.inl ⟨(RX11, TX11, 20), rfl, rfl⟩⟩
theorem ir_m_106 : ir_mP (11, 138, 0, 79, 2, 8) := ⟨(ir_Tm (ir_k5 100 rfl) rfl), (ir_Tm (ir_k5 101 rfl) rfl), (ir_Tm (ir_k5 102 rfl) rfl), (ir_Tm (ir_k1 5 rfl) rfl), ⟨1, rfl, ⟨by decide, by decide, by decide +kernel⟩⟩, Or.inl ⟨(RX8, TX8, 9), rfl, rfl⟩⟩
theorem ir_m_107 : ir_mP (11, 155, 0, 156, 2, 11) := ⟨(ir_Tm (ir_k5 104 rfl) rfl), (ir_Tm (ir_k5 106 rfl) rfl), (ir_v3 2 rfl), (ir_Tm (ir_k1 1 rfl) rfl), ⟨1, rfl, ⟨by decide, by decide, by decide +kernel⟩⟩, Or.inl ⟨(RX11, TX11, 20), rfl, rfl⟩⟩
theorem ir_m_108 : ir_mP (11, 158, 0, 2, 5, 0) := ⟨(ir_Tm (ir_k5 112 rfl) rfl), (ir_Tm (ir_k5 113 rfl) rfl), (ir_Tm (ir_k5 114 rfl) rfl), (ir_Tm (ir_k1 11 rfl) rfl), ⟨4, rfl, ⟨by decide, by decide, by decide +kernel⟩⟩, Or.inl ⟨(RX0, TX0, 4), rfl, rfl⟩⟩
theorem ir_m_109 : ir_mP (11, 164, 0, 146, 2, 11) := ⟨(ir_Tm (ir_k5 124 rfl) rfl), (ir_Tm (ir_k5 126 rfl) rfl), (ir_v3 4 rfl), (ir_Tm (ir_k1 1 rfl) rfl), ⟨1, rfl, ⟨by decide, by decide, by decide +kernel⟩⟩, Or.inl ⟨(RX11, TX11, 20), rfl, rfl⟩⟩
theorem ir_m_110 : ir_mP (11, 167, 0, 88, 3, 9) := ⟨(ir_Tm (ir_k5 129 rfl) rfl), (ir_Tm (ir_k3 117 rfl) rfl), (ir_Tm (ir_k3 118 rfl) rfl), (ir_Tm (ir_k1 3 rfl) rfl), ⟨2, rfl, ⟨by decide, by decide, by decide +kernel⟩⟩, Or.inl ⟨(RX9, TX9, 12), rfl, rfl⟩⟩
theorem ir_m_111 : ir_mP (11, 173, 0, 90, 3, 9) := ⟨(ir_Tm (ir_k5 138 rfl) rfl), (ir_Tm (ir_k5 139 rfl) rfl), (ir_Tm (ir_k5 140 rfl) rfl), (ir_Tm (ir_k1 3 rfl) rfl), ⟨2, rfl, ⟨by decide, by decide, by decide +kernel⟩⟩, Or.inl ⟨(RX9, TX9, 12), rfl, rfl⟩⟩
theorem ir_m_112 : ir_mP (11, 176, 0, 148, 2, 11) := ⟨(ir_Tm (ir_k5 108 rfl) rfl), (ir_Tm (ir_k5 110 rfl) rfl), (ir_v3 3 rfl), (ir_Tm (ir_k1 1 rfl) rfl), ⟨1, rfl, ⟨by decide, by decide, by decide +kernel⟩⟩, Or.inl ⟨(RX11, TX11, 20), rfl, rfl⟩⟩
theorem ir_m_113 : ir_mP (11, 188, 0, 147, 2, 11) := ⟨(ir_Tm (ir_k5 158 rfl) rfl), (ir_Tm (ir_k5 160 rfl) rfl), (ir_v3 5 rfl), (ir_Tm (ir_k1 1 rfl) rfl), ⟨1, rfl, ⟨by decide, by decide, by decide +kernel⟩⟩, Or.inl ⟨(RX11, TX11, 20), rfl, rfl⟩⟩
theorem ir_m_114 : ir_mP (11, 191, 0, 12, 3, 0) := ⟨(ir_Tm (ir_k3 104 rfl) rfl), (ir_Tm (ir_k3 105 rfl) rfl), (ir_Tm (ir_k3 106 rfl) rfl), (ir_Tm (ir_k1 11 rfl) rfl), ⟨2, rfl, ⟨by decide, by decide, by decide +kernel⟩⟩, Or.inl ⟨(RX0, TX0, 4), rfl, rfl⟩⟩
theorem ir_m_115 : ir_mP (11, 194, 0, 14, 3, 0) := ⟨(ir_Tm (ir_k3 151 rfl) rfl), (ir_Tm (ir_k3 152 rfl) rfl), (ir_Tm (ir_k3 153 rfl) rfl), (ir_Tm (ir_k1 11 rfl) rfl), ⟨2, rfl, ⟨by decide, by decide, by decide +kernel⟩⟩, Or.inl ⟨(RX0, TX0, 4), rfl, rfl⟩⟩
theorem ir_m_116 : ir_mP (11, 198, 0, 15, 4, 0) := ⟨(ir_Tm (ir_k5 185 rfl) rfl), (ir_Tm (ir_k5 186 rfl) rfl), (ir_Tm (ir_k5 187 rfl) rfl), (ir_Tm (ir_k1 11 rfl) rfl), ⟨3, rfl, ⟨by decide, by decide, by decide +kernel⟩⟩, Or.inl ⟨(RX0, TX0, 4), rfl, rfl⟩⟩
theorem ir_m_117 : ir_mP (11, 202, 0, 159, 1, 11) := ⟨(ir_Tm (ir_k3 186 rfl) rfl), (ir_Tm (ir_k3 188 rfl) rfl), (ir_v1 3 rfl), (ir_Tm (ir_k1 1 rfl) rfl), ⟨0, rfl, ⟨by decide, by decide, by decide +kernel⟩⟩, Or.inl ⟨(RX11, TX11, 20), rfl, rfl⟩⟩
theorem ir_m_118 : ir_mP (11, 207, 0, 16, 3, 0) := ⟨(ir_Tm (ir_k4 8 rfl) rfl), (ir_Tm (ir_k4 9 rfl) rfl), (ir_Tm (ir_k4 10 rfl) rfl), (ir_Tm (ir_k1 11 rfl) rfl), ⟨2, rfl, ⟨by decide, by decide, by decide +kernel⟩⟩, Or.inl ⟨(RX0, TX0, 4), rfl, rfl⟩⟩
theorem ir_m_119 : ir_mP (11, 210, 0, 82, 2, 8) := ⟨(ir_Tm (ir_k5 212 rfl) rfl), (ir_Tm (ir_k4 14 rfl) rfl), (ir_Tm (ir_k4 15 rfl) rfl), (ir_Tm (ir_k1 5 rfl) rfl), ⟨1, rfl, ⟨by decide, by decide, by decide +kernel⟩⟩, Or.inl ⟨(RX8, TX8, 9), rfl, rfl⟩⟩
theorem ir_m_120 : ir_mP (11, 221, 0, 81, 2, 8) := ⟨(ir_Tm (ir_k5 221 rfl) rfl), (ir_Tm (ir_k5 2 rfl) rfl), (ir_Tm (ir_k5 3 rfl) rfl), (ir_Tm (ir_k1 5 rfl) rfl), ⟨1, rfl, ⟨by decide, by decide, by decide +kernel⟩⟩, Or.inl ⟨(RX8, TX8, 9), rfl, rfl⟩⟩
theorem ir_m_121 : ir_mP (11, 224, 0, 149, 2, 11) := ⟨(ir_Tm (ir_k5 229 rfl) rfl), (ir_Tm (ir_k5 231 rfl) rfl), (ir_v3 6 rfl), (ir_Tm (ir_k1 1 rfl) rfl), ⟨1, rfl, ⟨by decide, by decide, by decide +kernel⟩⟩, Or.inl ⟨(RX11, TX11, 20), rfl, rfl⟩⟩
theorem ir_m_122 : ir_mP (11, 227, 0, 83, 3, 8) := ⟨(ir_Tm (ir_k3 179 rfl) rfl), (ir_Tm (ir_k3 180 rfl) rfl), (ir_Tm (ir_k3 181 rfl) rfl), (ir_Tm (ir_k1 5 rfl) rfl), ⟨2, rfl, ⟨by decide, by decide, by decide +kernel⟩⟩, Or.inl ⟨(RX8, TX8, 9), rfl, rfl⟩⟩
theorem ir_m_123 : ir_mP (11, 231, 0, 13, 4, 0) := ⟨(ir_Tm (ir_k3 171 rfl) rfl), (ir_Tm (ir_k3 156 rfl) rfl), (ir_Tm (ir_k3 157 rfl) rfl), (ir_Tm (ir_k1 11 rfl) rfl), ⟨3, rfl, ⟨by decide, by decide, by decide +kernel⟩⟩, Or.inl ⟨(RX0, TX0, 4), rfl, rfl⟩⟩
theorem ir_m_124 : ir_mP (11, 236, 0, 161, 2, 11) := ⟨(ir_Tm (ir_k3 167 rfl) rfl), (ir_Tm (ir_k3 169 rfl) rfl), (ir_v1 2 rfl), (ir_Tm (ir_k1 1 rfl) rfl), ⟨1, rfl, ⟨by decide, by decide, by decide +kernel⟩⟩, Or.inl ⟨(RX11, TX11, 20), rfl, rfl⟩⟩
theorem ir_m_125 : ir_mP (11, 239, 0, 160, 1, 11) := ⟨(ir_Tm (ir_k3 163 rfl) rfl), (ir_Tm (ir_k3 165 rfl) rfl), (ir_v1 1 rfl), (ir_Tm (ir_k1 1 rfl) rfl), ⟨0, rfl, ⟨by decide, by decide, by decide +kernel⟩⟩, Or.inl ⟨(RX11, TX11, 20), rfl, rfl⟩⟩
theorem ir_m_126 : ir_mP (11, 243, 0, 152, 2, 11) := ⟨(ir_Tm (ir_k6 9 rfl) rfl), (ir_Tm (ir_k6 11 rfl) rfl), (ir_v3 7 rfl), (ir_Tm (ir_k1 1 rfl) rfl), ⟨1, rfl, ⟨by decide, by decide, by decide +kernel⟩⟩, Or.inl ⟨(RX11, TX11, 20), rfl, rfl⟩⟩
theorem ir_m_127 : ir_mP (11, 250, 0, 162, 3, 11) := ⟨(ir_Tm (ir_k6 18 rfl) rfl), (ir_Tm (ir_k6 20 rfl) rfl), (ir_v3 8 rfl), (ir_Tm (ir_k1 1 rfl) rfl), ⟨2, rfl, ⟨by decide, by decide, by decide +kernel⟩⟩, Or.inl ⟨(RX11, TX11, 20), rfl, rfl⟩⟩
theorem ir_m_128 : ir_mP (11, 254, 0, 163, 4, 11) := ⟨(ir_Tm (ir_k6 26 rfl) rfl), (ir_Tm (ir_k6 28 rfl) rfl), (ir_v3 9 rfl), (ir_Tm (ir_k1 1 rfl) rfl), ⟨3, rfl, ⟨by decide, by decide, by decide +kernel⟩⟩, Or.inl ⟨(RX11, TX11, 20), rfl, rfl⟩⟩
theorem ir_m_129 : ir_mP (11, 258, 0, 164, 4, 11) := ⟨(ir_Tm (ir_k6 30 rfl) rfl), (ir_Tm (ir_k6 32 rfl) rfl), (ir_v3 10 rfl), (ir_Tm (ir_k1 1 rfl) rfl), ⟨3, rfl, ⟨by decide, by decide, by decide +kernel⟩⟩, Or.inl ⟨(RX11, TX11, 20), rfl, rfl⟩⟩
theorem ir_m_130 : ir_mP (11, 270, 0, 59, 1, 5) := ⟨(ir_Tm (ir_k6 45 rfl) rfl), (ir_Tm (ir_k6 46 rfl) rfl), (ir_Tm (ir_k6 47 rfl) rfl), (ir_Tm (ir_k1 2 rfl) rfl), ⟨0, rfl, ⟨by decide, by decide, by decide +kernel⟩⟩, Or.inl ⟨(RX5, TX5, 5), rfl, rfl⟩⟩
theorem ir_m_131 : ir_mP (11, 275, 0, 78, 2, 8) := ⟨(ir_Tm (ir_k3 172 rfl) rfl), (ir_Tm (ir_k3 173 rfl) rfl), (ir_Tm (ir_k3 174 rfl) rfl), (ir_Tm (ir_k1 5 rfl) rfl), ⟨1, rfl, ⟨by decide, by decide, by decide +kernel⟩⟩, Or.inl ⟨(RX8, TX8, 9), rfl, rfl⟩⟩
theorem ir_m_132 : ir_mP (11, 282, 0, 94, 2, 10) := ⟨(ir_Tm (ir_k6 22 rfl) rfl), (ir_Tm (ir_k6 23 rfl) rfl), (ir_Tm (ir_k6 24 rfl) rfl), (ir_Tm (ir_k1 16 rfl) rfl), ⟨1, rfl, ⟨by decide, by decide, by decide +kernel⟩⟩, Or.inl ⟨(RX10, TX10, 4), rfl, rfl⟩⟩
theorem ir_m_133 : ir_mP (11, 286, 0, 165, 3, 11) := ⟨(ir_Tm (ir_k6 57 rfl) rfl), (ir_Tm (ir_k6 59 rfl) rfl), (ir_v3 11 rfl), (ir_Tm (ir_k1 1 rfl) rfl), ⟨2, rfl, ⟨by decide, by decide, by decide +kernel⟩⟩, Or.inl ⟨(RX11, TX11, 20), rfl, rfl⟩⟩
theorem ir_m_134 : ir_mP (11, 290, 0, 166, 3, 11) := ⟨(ir_Tm (ir_k6 65 rfl) rfl), (ir_Tm (ir_k6 67 rfl) rfl), (ir_v3 12 rfl), (ir_Tm (ir_k1 1 rfl) rfl), ⟨2, rfl, ⟨by decide, by decide, by decide +kernel⟩⟩, Or.inl ⟨(RX11, TX11, 20), rfl, rfl⟩⟩
theorem ir_m_135 : ir_mP (11, 301, 0, 168, 1, 11) := ⟨(ir_Tm (ir_k6 85 rfl) rfl), (ir_Tm (ir_k6 87 rfl) rfl), (ir_v3 13 rfl), (ir_Tm (ir_k1 1 rfl) rfl), ⟨0, rfl, ⟨by decide, by decide, by decide +kernel⟩⟩, Or.inl ⟨(RX11, TX11, 20), rfl, rfl⟩⟩
theorem ir_m_136 : ir_mP (11, 307, 0, 169, 1, 11) := ⟨(ir_Tm (ir_k6 102 rfl) rfl), (ir_Tm (ir_k6 104 rfl) rfl), (ir_v3 15 rfl), (ir_Tm (ir_k1 1 rfl) rfl), ⟨0, rfl, ⟨by decide, by decide, by decide +kernel⟩⟩, Or.inl ⟨(RX11, TX11, 20), rfl, rfl⟩⟩
theorem ir_m_137 : ir_mP (11, 319, 0, 24, 5, 2) := ⟨(ir_Tm (ir_k3 207 rfl) rfl), (ir_Tm (ir_k3 208 rfl) rfl), (ir_Tm (ir_k3 209 rfl) rfl), (ir_Tm (ir_k1 12 rfl) rfl), ⟨4, rfl, ⟨by decide, by decide, by decide +kernel⟩⟩, Or.inl ⟨(RX2, TX2, 11), rfl, rfl⟩⟩
theorem ir_m_138 : ir_mP (11, 326, 0, 170, 1, 11) := ⟨(ir_Tm (ir_k6 121 rfl) rfl), (ir_Tm (ir_k6 123 rfl) rfl), (ir_v4 0 rfl), (ir_Tm (ir_k1 1 rfl) rfl), ⟨0, rfl, ⟨by decide, by decide, by decide +kernel⟩⟩, Or.inl ⟨(RX11, TX11, 20), rfl, rfl⟩⟩
theorem ir_m_139 : ir_mP (11, 329, 0, 171, 3, 11) := ⟨(ir_Tm (ir_k6 129 rfl) rfl), (ir_Tm (ir_k6 131 rfl) rfl), (ir_v4 1 rfl), (ir_Tm (ir_k1 1 rfl) rfl), ⟨2, rfl, ⟨by decide, by decide, by decide +kernel⟩⟩, Or.inl ⟨(RX11, TX11, 20), rfl, rfl⟩⟩
theorem ir_m_140 : ir_mP (11, 335, 0, 172, 1, 11) := ⟨(ir_Tm (ir_k6 145 rfl) rfl), (ir_Tm (ir_k6 147 rfl) rfl), (ir_v4 2 rfl), (ir_Tm (ir_k1 1 rfl) rfl), ⟨0, rfl, ⟨by decide, by decide, by decide +kernel⟩⟩, Or.inl ⟨(RX11, TX11, 20), rfl, rfl⟩⟩
theorem ir_m_141 : ir_mP (11, 344, 2, 365, 1, 99) := ⟨(ir_Tm (ir_k6 168 rfl) rfl), (ir_Tm (ir_k6 169 rfl) rfl), (ir_Tm (ir_k1 28 rfl) rfl), ⟨by decide, by decide, by decide +kernel⟩⟩
theorem ir_m_142 : ir_mP (11, 349, 0, 150, 4, 11) := ⟨(ir_Tm (ir_k6 174 rfl) rfl), (ir_Tm (ir_k6 176 rfl) rfl), (ir_v4 6 rfl), (ir_Tm (ir_k1 1 rfl) rfl), ⟨3, rfl, ⟨by decide, by decide, by decide +kernel⟩⟩, Or.inl ⟨(RX11, TX11, 20), rfl, rfl⟩⟩
theorem ir_m_143 : ir_mP (11, 355, 0, 30, 6, 3) := ⟨(ir_Tm (ir_k6 180 rfl) rfl), (ir_Tm (ir_k6 181 rfl) rfl), (ir_Tm (ir_k6 182 rfl) rfl), (ir_Tm (ir_k1 13 rfl) rfl), ⟨5, rfl, ⟨by decide, by decide, by decide +kernel⟩⟩, Or.inl ⟨(RX3, TX3, 10), rfl, rfl⟩⟩
theorem ir_m_144 : ir_mP (11, 366, 0, 176, 2, 11) := ⟨(ir_Tm (ir_k6 209 rfl) rfl), (ir_Tm (ir_k6 211 rfl) rfl), (ir_v4 9 rfl), (ir_Tm (ir_k1 1 rfl) rfl), ⟨1, rfl, ⟨by decide, by decide, by decide +kernel⟩⟩, Or.inl ⟨(RX11, TX11, 20), rfl, rfl⟩⟩
theorem ir_m_145 : ir_mP (11, 369, 0, 177, 2, 11) := ⟨(ir_Tm (ir_k6 213 rfl) rfl), (ir_Tm (ir_k6 215 rfl) rfl), (ir_v4 10 rfl), (ir_Tm (ir_k1 1 rfl) rfl), ⟨1, rfl, ⟨by decide, by decide, by decide +kernel⟩⟩, Or.inl ⟨(RX11, TX11, 20), rfl, rfl⟩⟩
theorem ir_m_146 : ir_mP (11, 372, 0, 178, 2, 11) := ⟨(ir_Tm (ir_k6 217 rfl) rfl), (ir_Tm (ir_k6 219 rfl) rfl), (ir_v4 11 rfl), (ir_Tm (ir_k1 1 rfl) rfl), ⟨1, rfl, ⟨by decide, by decide, by decide +kernel⟩⟩, Or.inl ⟨(RX11, TX11, 20), rfl, rfl⟩⟩
theorem ir_m_147 : ir_mP (11, 375, 0, 179, 2, 11) := ⟨(ir_Tm (ir_k6 221 rfl) rfl), (ir_Tm (ir_k6 223 rfl) rfl), (ir_v4 12 rfl), (ir_Tm (ir_k1 1 rfl) rfl), ⟨1, rfl, ⟨by decide, by decide, by decide +kernel⟩⟩, Or.inl ⟨(RX11, TX11, 20), rfl, rfl⟩⟩
theorem ir_m_148 : ir_mP (11, 380, 0, 180, 3, 11) := ⟨(ir_Tm (ir_k6 233 rfl) rfl), (ir_Tm (ir_k6 235 rfl) rfl), (ir_v4 13 rfl), (ir_Tm (ir_k1 1 rfl) rfl), ⟨2, rfl, ⟨by decide, by decide, by decide +kernel⟩⟩, Or.inl ⟨(RX11, TX11, 20), rfl, rfl⟩⟩
theorem ir_m_149 : ir_mP (11, 383, 0, 181, 3, 11) := ⟨(ir_Tm (ir_k7 4 rfl) rfl), (ir_Tm (ir_k7 6 rfl) rfl), (ir_v4 14 rfl), (ir_Tm (ir_k1 1 rfl) rfl), ⟨2, rfl, ⟨by decide, by decide, by decide +kernel⟩⟩, Or.inl ⟨(RX11, TX11, 20), rfl, rfl⟩⟩
theorem ir_m_150 : ir_mP (11, 388, 0, 72, 5, 7) := ⟨(ir_Tm (ir_k7 23 rfl) rfl), (ir_Tm (ir_k7 24 rfl) rfl), (ir_Tm (ir_k7 25 rfl) rfl), (ir_Tm (ir_k1 14 rfl) rfl), ⟨4, rfl, ⟨by decide, by decide, by decide +kernel⟩⟩, Or.inl ⟨(RX7, TX7, 5), rfl, rfl⟩⟩
theorem ir_m_151 : ir_mP (11, 391, 0, 73, 2, 7) := ⟨(ir_Tm (ir_k7 37 rfl) rfl), (ir_Tm (ir_k7 38 rfl) rfl), (ir_Tm (ir_k7 39 rfl) rfl), (ir_Tm (ir_k1 14 rfl) rfl), ⟨1, rfl, ⟨by decide, by decide, by decide +kernel⟩⟩, Or.inl ⟨(RX7, TX7, 5), rfl, rfl⟩⟩
theorem ir_m_152 : ir_mP (11, 394, 0, 80, 1, 8) := ⟨(ir_Tm (ir_k4 3 rfl) rfl), (ir_Tm (ir_k3 218 rfl) rfl), (ir_Tm (ir_k3 219 rfl) rfl), (ir_Tm (ir_k1 5 rfl) rfl), ⟨0, rfl, ⟨by decide, by decide, by decide +kernel⟩⟩, Or.inl ⟨(RX8, TX8, 9), rfl, rfl⟩⟩
theorem ir_m_153 : ir_mP (11, 397, 0, 75, 3, 7) := ⟨(ir_Tm (ir_k7 48 rfl) rfl), (ir_Tm (ir_k7 49 rfl) rfl), (ir_Tm (ir_k7 50 rfl) rfl), (ir_Tm (ir_k1 14 rfl) rfl), ⟨2, rfl, ⟨by decide, by decide, by decide +kernel⟩⟩, Or.inl ⟨(RX7, TX7, 5), rfl, rfl⟩⟩
theorem ir_m_154 : ir_mP (11, 400, 0, 182, 2, 11) := ⟨(ir_Tm (ir_k4 4 rfl) rfl), (ir_Tm (ir_k4 6 rfl) rfl), (ir_v1 8 rfl), (ir_Tm (ir_k1 1 rfl) rfl), ⟨1, rfl, ⟨by decide, by decide, by decide +kernel⟩⟩, Or.inl ⟨(RX11, TX11, 20), rfl, rfl⟩⟩
theorem ir_m_155 : ir_mP (11, 408, 0, 158, 2, 11) := ⟨(ir_Tm (ir_k4 22 rfl) rfl), (ir_Tm (ir_k4 24 rfl) rfl), (ir_v1 9 rfl), (ir_Tm (ir_k1 1 rfl) rfl), ⟨1, rfl, ⟨by decide, by decide, by decide +kernel⟩⟩, Or.inl ⟨(RX11, TX11, 20), rfl, rfl⟩⟩
theorem ir_m_156 : ir_mP (11, 411, 0, 153, 2, 11) := ⟨(ir_Tm (ir_k7 77 rfl) rfl), (ir_Tm (ir_k7 79 rfl) rfl), (ir_v5 0 rfl), (ir_Tm (ir_k1 1 rfl) rfl), ⟨1, rfl, ⟨by decide, by decide, by decide +kernel⟩⟩, Or.inl ⟨(RX11, TX11, 20), rfl, rfl⟩⟩
theorem ir_m_157 : ir_mP (11, 415, 0, 62, 5, 6) := ⟨(ir_Tm (ir_k7 83 rfl) rfl), (ir_Tm (ir_k7 84 rfl) rfl), (ir_Tm (ir_k7 85 rfl) rfl), (ir_Tm (ir_k1 15 rfl) rfl), ⟨4, rfl, ⟨by decide, by decide, by decide +kernel⟩⟩, Or.inl ⟨(RX6, TX6, 9), rfl, rfl⟩⟩
theorem ir_m_158 : ir_mP (11, 418, 0, 64, 1, 6) := ⟨(ir_Tm (ir_k7 95 rfl) rfl), (ir_Tm (ir_k7 96 rfl) rfl), (ir_Tm (ir_k7 97 rfl) rfl), (ir_Tm (ir_k1 15 rfl) rfl), ⟨0, rfl, ⟨by decide, by decide, by decide +kernel⟩⟩, Or.inl ⟨(RX6, TX6, 9), rfl, rfl⟩⟩
theorem ir_m_159 : ir_mP (11, 422, 0, 65, 2, 6) := ⟨(ir_Tm (ir_k7 132 rfl) rfl), (ir_Tm (ir_k7 133 rfl) rfl), (ir_Tm (ir_k7 134 rfl) rfl), (ir_Tm (ir_k1 15 rfl) rfl), ⟨1, rfl, ⟨by decide, by decide, by decide +kernel⟩⟩, Or.inl ⟨(RX6, TX6, 9), rfl, rfl⟩⟩
theorem ir_m_160 : ir_mP (11, 425, 2, 151, 1, 11) := ⟨(ir_Tm (ir_k6 13 rfl) rfl), (ir_Tm (ir_k6 14 rfl) rfl), (ir_Tm (ir_k1 1 rfl) rfl), ⟨by decide, by decide, by decide +kernel⟩⟩
theorem ir_m_161 : ir_mP (11, 432, 0, 93, 3, 10) := ⟨(ir_Tm (ir_k7 145 rfl) rfl), (ir_Tm (ir_k7 146 rfl) rfl), (ir_Tm (ir_k7 147 rfl) rfl), (ir_Tm (ir_k1 16 rfl) rfl), ⟨2, rfl, ⟨by decide, by decide, by decide +kernel⟩⟩, Or.inl ⟨(RX10, TX10, 4), rfl, rfl⟩⟩
theorem ir_m_162 : ir_mP (11, 440, 0, 95, 3, 10) := ⟨(ir_Tm (ir_k7 174 rfl) rfl), (ir_Tm (ir_k7 175 rfl) rfl), (ir_Tm (ir_k7 176 rfl) rfl), (ir_Tm (ir_k1 16 rfl) rfl), ⟨2, rfl, ⟨by decide, by decide, by decide +kernel⟩⟩, Or.inl ⟨(RX10, TX10, 4), rfl, rfl⟩⟩
theorem ir_m_163 : ir_mP (11, 454, 2, 154, 1, 11) := ⟨(ir_Tm (ir_k7 197 rfl) rfl), (ir_Tm (ir_k7 198 rfl) rfl), (ir_Tm (ir_k1 1 rfl) rfl), ⟨by decide, by decide, by decide +kernel⟩⟩
theorem ir_m_164 : ir_mP (11, 457, 0, 60, 2, 5) := ⟨(ir_Tm (ir_k7 201 rfl) rfl), (ir_Tm (ir_k7 202 rfl) rfl), (ir_Tm (ir_k7 203 rfl) rfl), (ir_Tm (ir_k1 2 rfl) rfl), ⟨1, rfl, ⟨by decide, by decide, by decide +kernel⟩⟩, Or.inl ⟨(RX5, TX5, 5), rfl, rfl⟩⟩
theorem ir_m_165 : ir_mP (11, 471, 0, 157, 2, 11) := ⟨(ir_Tm (ir_k4 32 rfl) rfl), (ir_Tm (ir_k4 34 rfl) rfl), (ir_v1 10 rfl), (ir_Tm (ir_k1 1 rfl) rfl), ⟨1, rfl, ⟨by decide, by decide, by decide +kernel⟩⟩, Or.inl ⟨(RX11, TX11, 20), rfl, rfl⟩⟩
theorem ir_m_166 : ir_mP (11, 497, 0, 4, 3, 0) := ⟨(ir_Tm (ir_k4 26 rfl) rfl), (ir_Tm (ir_k3 109 rfl) rfl), (ir_Tm (ir_k3 110 rfl) rfl), (ir_Tm (ir_k1 11 rfl) rfl), ⟨2, rfl, ⟨by decide, by decide, by decide +kernel⟩⟩, Or.inl ⟨(RX0, TX0, 4), rfl, rfl⟩⟩
theorem ir_m_167 : ir_mP (11, 500, 0, 10, 4, 0) := ⟨(ir_Tm (ir_k4 27 rfl) rfl), (ir_Tm (ir_k3 132 rfl) rfl), (ir_Tm (ir_k3 133 rfl) rfl), (ir_Tm (ir_k1 11 rfl) rfl), ⟨3, rfl, ⟨by decide, by decide, by decide +kernel⟩⟩, Or.inl ⟨(RX0, TX0, 4), rfl, rfl⟩⟩
theorem ir_m_168 : ir_mP (11, 504, 0, 58, 1, 5) := ⟨(ir_Tm (ir_k3 190 rfl) rfl), (ir_Tm (ir_k3 191 rfl) rfl), (ir_Tm (ir_k3 192 rfl) rfl), (ir_Tm (ir_k1 2 rfl) rfl), ⟨0, rfl, ⟨by decide, by decide, by decide +kernel⟩⟩, Or.inl ⟨(RX5, TX5, 5), rfl, rfl⟩⟩
theorem ir_m_169 : ir_mP (11, 510, 0, 84, 4, 8) := ⟨(ir_Tm (ir_k3 195 rfl) rfl), (ir_Tm (ir_k3 196 rfl) rfl), (ir_Tm (ir_k3 197 rfl) rfl), (ir_Tm (ir_k1 5 rfl) rfl), ⟨3, rfl, ⟨by decide, by decide, by decide +kernel⟩⟩, Or.inl ⟨(RX8, TX8, 9), rfl, rfl⟩⟩
theorem ir_m_170 : ir_mP (11, 526, 0, 167, 1, 11) := ⟨(ir_Tm (ir_k6 89 rfl) rfl), (ir_Tm (ir_k6 91 rfl) rfl), (ir_v3 14 rfl), (ir_Tm (ir_k1 1 rfl) rfl), ⟨0, rfl, ⟨by decide, by decide, by decide +kernel⟩⟩, Or.inl ⟨(RX11, TX11, 20), rfl, rfl⟩⟩
theorem ir_m_171 : ir_mP (11, 529, 0, 5, 3, 0) := ⟨(ir_Tm (ir_k6 125 rfl) rfl), (ir_Tm (ir_k6 126 rfl) rfl), (ir_Tm (ir_k6 127 rfl) rfl), (ir_Tm (ir_k1 11 rfl) rfl), ⟨2, rfl, ⟨by decide, by decide, by decide +kernel⟩⟩, Or.inl ⟨(RX0, TX0, 4), rfl, rfl⟩⟩
theorem ir_m_172 : ir_mP (11, 535, 0, 6, 3, 0) := ⟨(ir_Tm (ir_k6 133 rfl) rfl), (ir_Tm (ir_k6 134 rfl) rfl), (ir_Tm (ir_k6 135 rfl) rfl), (ir_Tm (ir_k1 11 rfl) rfl), ⟨2, rfl, ⟨by decide, by decide, by decide +kernel⟩⟩, Or.inl ⟨(RX0, TX0, 4), rfl, rfl⟩⟩
theorem ir_m_173 : ir_mP (11, 539, 0, 173, 1, 11) := ⟨(ir_Tm (ir_k6 149 rfl) rfl), (ir_Tm (ir_k6 151 rfl) rfl), (ir_v4 3 rfl), (ir_Tm (ir_k1 1 rfl) rfl), ⟨0, rfl, ⟨by decide, by decide, by decide +kernel⟩⟩, Or.inl ⟨(RX11, TX11, 20), rfl, rfl⟩⟩
theorem ir_m_174 : ir_mP (11, 542, 0, 174, 2, 11) := ⟨(ir_Tm (ir_k6 153 rfl) rfl), (ir_Tm (ir_k6 155 rfl) rfl), (ir_v4 4 rfl), (ir_Tm (ir_k1 1 rfl) rfl), ⟨1, rfl, ⟨by decide, by decide, by decide +kernel⟩⟩, Or.inl ⟨(RX11, TX11, 20), rfl, rfl⟩⟩
theorem ir_m_175 : ir_mP (11, 545, 0, 175, 3, 11) := ⟨(ir_Tm (ir_k6 157 rfl) rfl), (ir_Tm (ir_k6 159 rfl) rfl), (ir_v4 5 rfl), (ir_Tm (ir_k1 1 rfl) rfl), ⟨2, rfl, ⟨by decide, by decide, by decide +kernel⟩⟩, Or.inl ⟨(RX11, TX11, 20), rfl, rfl⟩⟩
theorem ir_m_176 : ir_mP (12, 103, 2, 191, 1, 12) := ⟨(ir_Tm (ir_k8 153 rfl) rfl), (ir_Tm (ir_k8 154 rfl) rfl), (ir_Tm (ir_k1 17 rfl) rfl), ⟨by decide, by decide, by decide +kernel⟩⟩
theorem ir_m_177 : ir_mP (12, 107, 0, 190, 2, 12) := ⟨(ir_Tm (ir_k8 156 rfl) rfl), (ir_Tm (ir_k8 158 rfl) rfl), (ir_v5 10 rfl), (ir_Tm (ir_k1 17 rfl) rfl), ⟨1, rfl, ⟨by decide, by decide, by decide +kernel⟩⟩, Or.inl ⟨(RX12, TX12, 50), rfl, rfl⟩⟩
theorem ir_m_178 : ir_mP (12, 111, 2, 192, 1, 12) := ⟨(ir_Tm (ir_k8 160 rfl) rfl), (ir_Tm (ir_k8 161 rfl) rfl), (ir_Tm (ir_k1 17 rfl) rfl), ⟨by decide, by decide, by decide +kernel⟩⟩
theorem ir_m_179 : ir_mP (12, 117, 2, 193, 1, 12) := ⟨(ir_Tm (ir_k8 163 rfl) rfl), (ir_Tm (ir_k8 164 rfl) rfl), (ir_Tm (ir_k1 17 rfl) rfl), ⟨by decide, by decide, by decide +kernel⟩⟩
theorem ir_m_180 : ir_mP (12, 126, 0, 366, 1, 50) := ⟨(ir_Tm (ir_k8 179 rfl) rfl), (ir_Tm (ir_k4 156 rfl) rfl), (ir_Tm (ir_k4 157 rfl) rfl), (ir_Tm (ir_k1 7 rfl) rfl), ⟨0, rfl, ⟨by decide, by decide, by decide +kernel⟩⟩, Or.inr ⟨rfl, rfl⟩⟩
theorem ir_m_181 : ir_mP (12, 131, 0, 367, 2, 50) := ⟨(ir_Tm (ir_k8 180 rfl) rfl), (ir_Tm (ir_k8 181 rfl) rfl), (ir_Tm (ir_k8 182 rfl) rfl), (ir_Tm (ir_k1 7 rfl) rfl), ⟨1, rfl, ⟨by decide, by decide, by decide +kernel⟩⟩, Or.inr ⟨rfl, rfl⟩⟩
theorem ir_m_182 : ir_mP (12, 135, 0, 196, 2, 12) := ⟨(ir_Tm (ir_k8 175 rfl) rfl), (ir_Tm (ir_k8 177 rfl) rfl), (ir_v5 13 rfl), (ir_Tm (ir_k1 17 rfl) rfl), ⟨1, rfl, ⟨by decide, by decide, by decide +kernel⟩⟩, Or.inl ⟨(RX12, TX12, 50), rfl, rfl⟩⟩
theorem ir_m_183 : ir_mP (12, 139, 0, 194, 1, 12) := ⟨(ir_Tm (ir_k8 149 rfl) rfl), (ir_Tm (ir_k8 151 rfl) rfl), (ir_v5 9 rfl), (ir_Tm (ir_k1 17 rfl) rfl), ⟨0, rfl, ⟨by decide, by decide, by decide +kernel⟩⟩, Or.inl ⟨(RX12, TX12, 50), rfl, rfl⟩⟩
theorem ir_m_184 : ir_mP (12, 142, 0, 197, 2, 12) := ⟨(ir_Tm (ir_k8 171 rfl) rfl), (ir_Tm (ir_k8 173 rfl) rfl), (ir_v5 12 rfl), (ir_Tm (ir_k1 17 rfl) rfl), ⟨1, rfl, ⟨by decide, by decide, by decide +kernel⟩⟩, Or.inl ⟨(RX12, TX12, 50), rfl, rfl⟩⟩
theorem ir_m_185 : ir_mP (12, 145, 0, 195, 2, 12) := ⟨(ir_Tm (ir_k8 200 rfl) rfl), (ir_Tm (ir_k8 202 rfl) rfl), (ir_v5 14 rfl), (ir_Tm (ir_k1 17 rfl) rfl), ⟨1, rfl, ⟨by decide, by decide, by decide +kernel⟩⟩, Or.inl ⟨(RX12, TX12, 50), rfl, rfl⟩⟩
theorem ir_m_186 : ir_mP (12, 149, 2, 186, 3, 12) := ⟨(ir_Tm (ir_k8 142 rfl) rfl), (ir_Tm (ir_k8 143 rfl) rfl), (ir_Tm (ir_k1 17 rfl) rfl), ⟨by decide, by decide, by decide +kernel⟩⟩
theorem ir_m_187 : ir_mP (12, 153, 0, 199, 2, 12) := ⟨(ir_Tm (ir_k8 233 rfl) rfl), (ir_Tm (ir_k8 235 rfl) rfl), (ir_v6 5 rfl), (ir_Tm (ir_k1 17 rfl) rfl), ⟨1, rfl, ⟨by decide, by decide, by decide +kernel⟩⟩, Or.inl ⟨(RX12, TX12, 50), rfl, rfl⟩⟩
theorem ir_m_188 : ir_mP (12, 156, 0, 201, 3, 12) := ⟨(ir_Tm (ir_k8 204 rfl) rfl), (ir_Tm (ir_k8 206 rfl) rfl), (ir_v5 15 rfl), (ir_Tm (ir_k1 17 rfl) rfl), ⟨2, rfl, ⟨by decide, by decide, by decide +kernel⟩⟩, Or.inl ⟨(RX12, TX12, 50), rfl, rfl⟩⟩
theorem ir_m_189 : ir_mP (12, 163, 0, 206, 1, 12) := ⟨(ir_Tm (ir_k9 21 rfl) rfl), (ir_Tm (ir_k9 23 rfl) rfl), (ir_v6 10 rfl), (ir_Tm (ir_k1 17 rfl) rfl), ⟨0, rfl, ⟨by decide, by decide, by decide +kernel⟩⟩, Or.inl ⟨(RX12, TX12, 50), rfl, rfl⟩⟩
theorem ir_m_190 : ir_mP (12, 168, 0, 203, 2, 12) := ⟨(ir_Tm (ir_k9 34 rfl) rfl), (ir_Tm (ir_k9 36 rfl) rfl), (ir_v6 13 rfl), (ir_Tm (ir_k1 17 rfl) rfl), ⟨1, rfl, ⟨by decide, by decide, by decide +kernel⟩⟩, Or.inl ⟨(RX12, TX12, 50), rfl, rfl⟩⟩
theorem ir_m_191 : ir_mP (12, 171, 0, 207, 1, 12) := ⟨(ir_Tm (ir_k9 25 rfl) rfl), (ir_Tm (ir_k9 27 rfl) rfl), (ir_v6 11 rfl), (ir_Tm (ir_k1 17 rfl) rfl), ⟨0, rfl, ⟨by decide, by decide, by decide +kernel⟩⟩, Or.inl ⟨(RX12, TX12, 50), rfl, rfl⟩⟩
theorem ir_m_192 : ir_mP (12, 178, 0, 204, 1, 12) := ⟨(ir_Tm (ir_k9 30 rfl) rfl), (ir_Tm (ir_k9 32 rfl) rfl), (ir_v6 12 rfl), (ir_Tm (ir_k1 17 rfl) rfl), ⟨0, rfl, ⟨by decide, by decide, by decide +kernel⟩⟩, Or.inl ⟨(RX12, TX12, 50), rfl, rfl⟩⟩
theorem ir_m_193 : ir_mP (12, 181, 0, 205, 1, 12) := ⟨(ir_Tm (ir_k9 17 rfl) rfl), (ir_Tm (ir_k9 19 rfl) rfl), (ir_v6 9 rfl), (ir_Tm (ir_k1 17 rfl) rfl), ⟨0, rfl, ⟨by decide, by decide, by decide +kernel⟩⟩, Or.inl ⟨(RX12, TX12, 50), rfl, rfl⟩⟩
theorem ir_m_194 : ir_mP (12, 184, 0, 200, 2, 12) := ⟨(ir_Tm (ir_k8 212 rfl) rfl), (ir_Tm (ir_k8 214 rfl) rfl), (ir_v6 1 rfl), (ir_Tm (ir_k1 17 rfl) rfl), ⟨1, rfl, ⟨by decide, by decide, by decide +kernel⟩⟩, Or.inl ⟨(RX12, TX12, 50), rfl, rfl⟩⟩
theorem ir_m_195 : ir_mP (12, 187, 0, 208, 1, 12) := ⟨(ir_Tm (ir_k9 38 rfl) rfl), (ir_Tm (ir_k9 40 rfl) rfl), (ir_v6 14 rfl), (ir_Tm (ir_k1 17 rfl) rfl), ⟨0, rfl, ⟨by decide, by decide, by decide +kernel⟩⟩, Or.inl ⟨(RX12, TX12, 50), rfl, rfl⟩⟩
theorem ir_m_196 : ir_mP (12, 190, 0, 209, 1, 12) := ⟨(ir_Tm (ir_k9 42 rfl) rfl), (ir_Tm (ir_k9 44 rfl) rfl), (ir_v6 15 rfl), (ir_Tm (ir_k1 17 rfl) rfl), ⟨0, rfl, ⟨by decide, by decide, by decide +kernel⟩⟩, Or.inl ⟨(RX12, TX12, 50), rfl, rfl⟩⟩
theorem ir_m_197 : ir_mP (12, 193, 0, 211, 1, 12) := ⟨(ir_Tm (ir_k9 46 rfl) rfl), (ir_Tm (ir_k9 48 rfl) rfl), (ir_v7 0 rfl), (ir_Tm (ir_k1 17 rfl) rfl), ⟨0, rfl, ⟨by decide, by decide, by decide +kernel⟩⟩, Or.inl ⟨(RX12, TX12, 50), rfl, rfl⟩⟩
theorem ir_m_198 : ir_mP (12, 212, 0, 210, 1, 12) := ⟨(ir_Tm (ir_k9 50 rfl) rfl), (ir_Tm (ir_k9 52 rfl) rfl), (ir_v7 1 rfl), (ir_Tm (ir_k1 17 rfl) rfl), ⟨0, rfl, ⟨by decide, by decide, by decide +kernel⟩⟩, Or.inl ⟨(RX12, TX12, 50), rfl, rfl⟩⟩
theorem ir_m_199 : ir_mP (12, 215, 0, 198, 2, 12) := ⟨(ir_Tm (ir_k8 167 rfl) rfl), (ir_Tm (ir_k8 169 rfl) rfl), (ir_v5 11 rfl), (ir_Tm (ir_k1 17 rfl) rfl), ⟨1, rfl, ⟨by decide, by decide, by decide +kernel⟩⟩, Or.inl ⟨(RX12, TX12, 50), rfl, rfl⟩⟩
theorem ir_m_200 : ir_mP (12, 221, 0, 202, 2, 12) := ⟨(ir_Tm (ir_k8 229 rfl) rfl), (ir_Tm (ir_k8 231 rfl) rfl), (ir_v6 4 rfl), (ir_Tm (ir_k1 17 rfl) rfl), ⟨1, rfl, ⟨by decide, by decide, by decide +kernel⟩⟩, Or.inl ⟨(RX12, TX12, 50), rfl, rfl⟩⟩
theorem ir_m_201 : ir_mP (12, 224, 0, 213, 2, 12) := ⟨(ir_Tm (ir_k9 2 rfl) rfl), (ir_Tm (ir_k9 4 rfl) rfl), (ir_v6 7 rfl), (ir_Tm (ir_k1 17 rfl) rfl), ⟨1, rfl, ⟨by decide, by decide, by decide +kernel⟩⟩, Or.inl ⟨(RX12, TX12, 50), rfl, rfl⟩⟩
theorem ir_m_202 : ir_mP (12, 229, 0, 212, 1, 12) := ⟨(ir_Tm (ir_k8 221 rfl) rfl), (ir_Tm (ir_k8 223 rfl) rfl), (ir_v6 3 rfl), (ir_Tm (ir_k1 17 rfl) rfl), ⟨0, rfl, ⟨by decide, by decide, by decide +kernel⟩⟩, Or.inl ⟨(RX12, TX12, 50), rfl, rfl⟩⟩
theorem ir_m_203 : ir_mP (12, 234, 0, 214, 1, 12) := ⟨(ir_Tm (ir_k8 238 rfl) rfl), (ir_Tm (ir_k9 0 rfl) rfl), (ir_v6 6 rfl), (ir_Tm (ir_k1 17 rfl) rfl), ⟨0, rfl, ⟨by decide, by decide, by decide +kernel⟩⟩, Or.inl ⟨(RX12, TX12, 50), rfl, rfl⟩⟩
theorem ir_m_204 : ir_mP (12, 239, 0, 215, 1, 12) := ⟨(ir_Tm (ir_k9 7 rfl) rfl), (ir_Tm (ir_k9 9 rfl) rfl), (ir_v6 8 rfl), (ir_Tm (ir_k1 17 rfl) rfl), ⟨0, rfl, ⟨by decide, by decide, by decide +kernel⟩⟩, Or.inl ⟨(RX12, TX12, 50), rfl, rfl⟩⟩
theorem ir_m_205 : ir_mP (12, 254, 0, 216, 1, 12) := ⟨(ir_Tm (ir_k8 208 rfl) rfl), (ir_Tm (ir_k8 210 rfl) rfl), (ir_v6 0 rfl), (ir_Tm (ir_k1 17 rfl) rfl), ⟨0, rfl, ⟨by decide, by decide, by decide +kernel⟩⟩, Or.inl ⟨(RX12, TX12, 50), rfl, rfl⟩⟩
theorem ir_m_206 : ir_mP (12, 257, 0, 185, 2, 12) := ⟨(ir_Tm (ir_k8 145 rfl) rfl), (ir_Tm (ir_k8 147 rfl) rfl), (ir_v5 8 rfl), (ir_Tm (ir_k1 17 rfl) rfl), ⟨1, rfl, ⟨by decide, by decide, by decide +kernel⟩⟩, Or.inl ⟨(RX12, TX12, 50), rfl, rfl⟩⟩
theorem ir_m_207 : ir_mP (12, 262, 0, 217, 1, 12) := ⟨(ir_Tm (ir_k8 216 rfl) rfl), (ir_Tm (ir_k8 218 rfl) rfl), (ir_v6 2 rfl), (ir_Tm (ir_k1 17 rfl) rfl), ⟨0, rfl, ⟨by decide, by decide, by decide +kernel⟩⟩, Or.inl ⟨(RX12, TX12, 50), rfl, rfl⟩⟩
theorem ir_m_208 : ir_mP (12, 268, 0, 220, 1, 12) := ⟨(ir_Tm (ir_k9 73 rfl) rfl), (ir_Tm (ir_k9 75 rfl) rfl), (ir_v7 3 rfl), (ir_Tm (ir_k1 17 rfl) rfl), ⟨0, rfl, ⟨by decide, by decide, by decide +kernel⟩⟩, Or.inl ⟨(RX12, TX12, 50), rfl, rfl⟩⟩
theorem ir_m_209 : ir_mP (12, 271, 0, 221, 1, 12) := ⟨(ir_Tm (ir_k9 143 rfl) rfl), (ir_Tm (ir_k9 145 rfl) rfl), (ir_v7 15 rfl), (ir_Tm (ir_k1 17 rfl) rfl), ⟨0, rfl, ⟨by decide, by decide, by decide +kernel⟩⟩, Or.inl ⟨(RX12, TX12, 50), rfl, rfl⟩⟩
theorem ir_m_210 : ir_mP (12, 273, 0, 222, 1, 12) := ⟨(ir_Tm (ir_k9 82 rfl) rfl), (ir_Tm (ir_k9 84 rfl) rfl), (ir_v7 5 rfl), (ir_Tm (ir_k1 17 rfl) rfl), ⟨0, rfl, ⟨by decide, by decide, by decide +kernel⟩⟩, Or.inl ⟨(RX12, TX12, 50), rfl, rfl⟩⟩
theorem ir_m_211 : ir_mP (12, 276, 0, 223, 2, 12) := ⟨(ir_Tm (ir_k9 86 rfl) rfl), (ir_Tm (ir_k9 88 rfl) rfl), (ir_v7 6 rfl), (ir_Tm (ir_k1 17 rfl) rfl), ⟨1, rfl, ⟨by decide, by decide, by decide +kernel⟩⟩, Or.inl ⟨(RX12, TX12, 50), rfl, rfl⟩⟩
theorem ir_m_212 : ir_mP (12, 292, 2, 229, 1, 12) := ⟨(ir_Tm (ir_k9 113 rfl) rfl), (ir_Tm (ir_k9 114 rfl) rfl), (ir_Tm (ir_k1 17 rfl) rfl), ⟨by decide, by decide, by decide +kernel⟩⟩
theorem ir_m_213 : ir_mP (12, 296, 0, 228, 3, 12) := ⟨(ir_Tm (ir_k9 106 rfl) rfl), (ir_Tm (ir_k9 108 rfl) rfl), (ir_v7 11 rfl), (ir_Tm (ir_k1 17 rfl) rfl), ⟨2, rfl, ⟨by decide, by decide, by decide +kernel⟩⟩, Or.inl ⟨(RX12, TX12, 50), rfl, rfl⟩⟩
theorem ir_m_214 : ir_mP (12, 299, 0, 231, 5, 12) := ⟨(ir_Tm (ir_k9 102 rfl) rfl), (ir_Tm (ir_k9 104 rfl) rfl), (ir_v7 10 rfl), (ir_Tm (ir_k1 17 rfl) rfl), ⟨4, rfl, ⟨by decide, by decide, by decide +kernel⟩⟩, Or.inl ⟨(RX12, TX12, 50), rfl, rfl⟩⟩
theorem ir_m_215 : ir_mP (12, 303, 2, 230, 3, 12) := ⟨(ir_Tm (ir_k9 110 rfl) rfl), (ir_Tm (ir_k9 111 rfl) rfl), (ir_Tm (ir_k1 17 rfl) rfl), ⟨by decide, by decide, by decide +kernel⟩⟩
theorem ir_m_216 : ir_mP (12, 307, 0, 232, 4, 12) := ⟨(ir_Tm (ir_k9 98 rfl) rfl), (ir_Tm (ir_k9 100 rfl) rfl), (ir_v7 9 rfl), (ir_Tm (ir_k1 17 rfl) rfl), ⟨3, rfl, ⟨by decide, by decide, by decide +kernel⟩⟩, Or.inl ⟨(RX12, TX12, 50), rfl, rfl⟩⟩
theorem ir_m_217 : ir_mP (12, 315, 0, 234, 5, 12) := ⟨(ir_Tm (ir_k9 126 rfl) rfl), (ir_Tm (ir_k9 128 rfl) rfl), (ir_v7 13 rfl), (ir_Tm (ir_k1 17 rfl) rfl), ⟨4, rfl, ⟨by decide, by decide, by decide +kernel⟩⟩, Or.inl ⟨(RX12, TX12, 50), rfl, rfl⟩⟩
theorem ir_m_218 : ir_mP (12, 319, 2, 235, 3, 12) := ⟨(ir_Tm (ir_k9 130 rfl) rfl), (ir_Tm (ir_k9 131 rfl) rfl), (ir_Tm (ir_k1 17 rfl) rfl), ⟨by decide, by decide, by decide +kernel⟩⟩
theorem ir_m_219 : ir_mP (12, 323, 0, 233, 1, 12) := ⟨(ir_Tm (ir_k9 94 rfl) rfl), (ir_Tm (ir_k9 96 rfl) rfl), (ir_v7 8 rfl), (ir_Tm (ir_k1 17 rfl) rfl), ⟨0, rfl, ⟨by decide, by decide, by decide +kernel⟩⟩, Or.inl ⟨(RX12, TX12, 50), rfl, rfl⟩⟩
theorem ir_m_220 : ir_mP (12, 326, 0, 236, 4, 12) := ⟨(ir_Tm (ir_k9 122 rfl) rfl), (ir_Tm (ir_k9 124 rfl) rfl), (ir_v7 12 rfl), (ir_Tm (ir_k1 17 rfl) rfl), ⟨3, rfl, ⟨by decide, by decide, by decide +kernel⟩⟩, Or.inl ⟨(RX12, TX12, 50), rfl, rfl⟩⟩
theorem ir_m_221 : ir_mP (12, 330, 0, 238, 2, 12) := ⟨(ir_Tm (ir_k9 179 rfl) rfl), (ir_Tm (ir_k9 181 rfl) rfl), (ir_v8 4 rfl), (ir_Tm (ir_k1 17 rfl) rfl), ⟨1, rfl, ⟨by decide, by decide, by decide +kernel⟩⟩, Or.inl ⟨(RX12, TX12, 50), rfl, rfl⟩⟩
theorem ir_m_222 : ir_mP (12, 333, 0, 237, 1, 12) := ⟨(ir_Tm (ir_k9 90 rfl) rfl), (ir_Tm (ir_k9 92 rfl) rfl), (ir_v7 7 rfl), (ir_Tm (ir_k1 17 rfl) rfl), ⟨0, rfl, ⟨by decide, by decide, by decide +kernel⟩⟩, Or.inl ⟨(RX12, TX12, 50), rfl, rfl⟩⟩
theorem ir_m_223 : ir_mP (12, 336, 0, 239, 1, 12) := ⟨(ir_Tm (ir_k9 175 rfl) rfl), (ir_Tm (ir_k9 177 rfl) rfl), (ir_v8 3 rfl), (ir_Tm (ir_k1 17 rfl) rfl), ⟨0, rfl, ⟨by decide, by decide, by decide +kernel⟩⟩, Or.inl ⟨(RX12, TX12, 50), rfl, rfl⟩⟩
theorem ir_m_224 : ir_mP (12, 339, 0, 227, 2, 12) := ⟨(ir_Tm (ir_k9 78 rfl) rfl), (ir_Tm (ir_k9 80 rfl) rfl), (ir_v7 4 rfl), (ir_Tm (ir_k1 17 rfl) rfl), ⟨1, rfl, ⟨by decide, by decide, by decide +kernel⟩⟩, Or.inl ⟨(RX12, TX12, 50), rfl, rfl⟩⟩
theorem ir_m_225 : ir_mP (12, 342, 0, 224, 2, 12) := ⟨(ir_Tm (ir_k9 69 rfl) rfl), (ir_Tm (ir_k9 71 rfl) rfl), (ir_v7 2 rfl), (ir_Tm (ir_k1 17 rfl) rfl), ⟨1, rfl, ⟨by decide, by decide, by decide +kernel⟩⟩, Or.inl ⟨(RX12, TX12, 50), rfl, rfl⟩⟩
theorem ir_m_226 : ir_mP (12, 348, 0, 225, 2, 12) := ⟨(ir_Tm (ir_k9 139 rfl) rfl), (ir_Tm (ir_k9 141 rfl) rfl), (ir_v7 14 rfl), (ir_Tm (ir_k1 17 rfl) rfl), ⟨1, rfl, ⟨by decide, by decide, by decide +kernel⟩⟩, Or.inl ⟨(RX12, TX12, 50), rfl, rfl⟩⟩
theorem ir_m_227 : ir_mP (12, 351, 0, 226, 2, 12) := ⟨(ir_Tm (ir_k9 155 rfl) rfl), (ir_Tm (ir_k9 157 rfl) rfl), (ir_v8 0 rfl), (ir_Tm (ir_k1 17 rfl) rfl), ⟨1, rfl, ⟨by decide, by decide, by decide +kernel⟩⟩, Or.inl ⟨(RX12, TX12, 50), rfl, rfl⟩⟩
theorem ir_m_228 : ir_mP (12, 354, 0, 247, 2, 12) := ⟨(ir_Tm (ir_k9 163 rfl) rfl), (ir_Tm (ir_k9 165 rfl) rfl), (ir_v8 1 rfl), (ir_Tm (ir_k1 17 rfl) rfl), ⟨1, rfl, ⟨by decide, by decide, by decide +kernel⟩⟩, Or.inl ⟨(RX12, TX12, 50), rfl, rfl⟩⟩
theorem ir_m_229 : ir_mP (12, 357, 0, 240, 1, 12) := ⟨(ir_Tm (ir_k9 171 rfl) rfl), (ir_Tm (ir_k9 173 rfl) rfl), (ir_v8 2 rfl), (ir_Tm (ir_k1 17 rfl) rfl), ⟨0, rfl, ⟨by decide, by decide, by decide +kernel⟩⟩, Or.inl ⟨(RX12, TX12, 50), rfl, rfl⟩⟩
theorem ir_m_230 : ir_mP (12, 360, 0, 242, 2, 12) := ⟨(ir_Tm (ir_k9 187 rfl) rfl), (ir_Tm (ir_k9 189 rfl) rfl), (ir_v8 5 rfl), (ir_Tm (ir_k1 17 rfl) rfl), ⟨1, rfl, ⟨by decide, by decide, by decide +kernel⟩⟩, Or.inl ⟨(RX12, TX12, 50), rfl, rfl⟩⟩
theorem ir_m_231 : ir_mP (12, 363, 0, 254, 2, 12) := ⟨(ir_Tm (ir_k9 208 rfl) rfl), (ir_Tm (ir_k9 210 rfl) rfl), (ir_v8 8 rfl), (ir_Tm (ir_k1 17 rfl) rfl), ⟨1, rfl, ⟨by decide, by decide, by decide +kernel⟩⟩, Or.inl ⟨(RX12, TX12, 50), rfl, rfl⟩⟩
theorem ir_m_232 : ir_mP (12, 366, 0, 255, 3, 12) := ⟨(ir_Tm (ir_k9 220 rfl) rfl), (ir_Tm (ir_k9 222 rfl) rfl), (ir_v8 9 rfl), (ir_Tm (ir_k1 17 rfl) rfl), ⟨2, rfl, ⟨by decide, by decide, by decide +kernel⟩⟩, Or.inl ⟨(RX12, TX12, 50), rfl, rfl⟩⟩
theorem ir_m_233 : ir_mP (12, 370, 0, 251, 1, 12) := ⟨(ir_Tm (ir_k9 195 rfl) rfl), (ir_Tm (ir_k9 197 rfl) rfl), (ir_v8 6 rfl), (ir_Tm (ir_k1 17 rfl) rfl), ⟨0, rfl, ⟨by decide, by decide, by decide +kernel⟩⟩, Or.inl ⟨(RX12, TX12, 50), rfl, rfl⟩⟩
theorem ir_m_234 : ir_mP (12, 375, 0, 257, 1, 12) := ⟨(ir_Tm (ir_k9 204 rfl) rfl), (ir_Tm (ir_k9 206 rfl) rfl), (ir_v8 7 rfl), (ir_Tm (ir_k1 17 rfl) rfl), ⟨0, rfl, ⟨by decide, by decide, by decide +kernel⟩⟩, Or.inl ⟨(RX12, TX12, 50), rfl, rfl⟩⟩
theorem ir_m_235 : ir_mP (12, 377, 0, 262, 3, 12) := ⟨(ir_Tm (ir_k9 228 rfl) rfl), (ir_Tm (ir_k9 230 rfl) rfl), (ir_v8 10 rfl), (ir_Tm (ir_k1 17 rfl) rfl), ⟨2, rfl, ⟨by decide, by decide, by decide +kernel⟩⟩, Or.inl ⟨(RX12, TX12, 50), rfl, rfl⟩⟩
theorem ir_m_236 : ir_mP (12, 380, 0, 256, 3, 12) := ⟨(ir_Tm (ir_k9 232 rfl) rfl), (ir_Tm (ir_k9 234 rfl) rfl), (ir_v8 11 rfl), (ir_Tm (ir_k1 17 rfl) rfl), ⟨2, rfl, ⟨by decide, by decide, by decide +kernel⟩⟩, Or.inl ⟨(RX12, TX12, 50), rfl, rfl⟩⟩
theorem ir_m_237 : ir_mP (12, 383, 0, 241, 2, 12) := ⟨(ir_Tm (ir_k9 236 rfl) rfl), (ir_Tm (ir_k9 238 rfl) rfl), (ir_v8 12 rfl), (ir_Tm (ir_k1 17 rfl) rfl), ⟨1, rfl, ⟨by decide, by decide, by decide +kernel⟩⟩, Or.inl ⟨(RX12, TX12, 50), rfl, rfl⟩⟩
theorem ir_m_238 : ir_mP (12, 398, 0, 264, 2, 12) := ⟨(ir_Tm (ir_k10 8 rfl) rfl), (ir_Tm (ir_k10 10 rfl) rfl), (ir_v8 14 rfl), (ir_Tm (ir_k1 17 rfl) rfl), ⟨1, rfl, ⟨by decide, by decide, by decide +kernel⟩⟩, Or.inl ⟨(RX12, TX12, 50), rfl, rfl⟩⟩
theorem ir_m_239 : ir_mP (12, 401, 0, 265, 2, 12) := ⟨(ir_Tm (ir_k10 4 rfl) rfl), (ir_Tm (ir_k10 6 rfl) rfl), (ir_v8 13 rfl), (ir_Tm (ir_k1 17 rfl) rfl), ⟨1, rfl, ⟨by decide, by decide, by decide +kernel⟩⟩, Or.inl ⟨(RX12, TX12, 50), rfl, rfl⟩⟩
theorem ir_m_240 : ir_mP (12, 404, 2, 317, 1, 12) := ⟨(ir_Tm (ir_k10 25 rfl) rfl), (ir_Tm (ir_k10 26 rfl) rfl), (ir_Tm (ir_k1 17 rfl) rfl), ⟨by decide, by decide, by decide +kernel⟩⟩
theorem ir_m_241 : ir_mP (12, 407, 0, 268, 2, 12) := ⟨(ir_Tm (ir_k10 21 rfl) rfl), (ir_Tm (ir_k10 23 rfl) rfl), (ir_v8 15 rfl), (ir_Tm (ir_k1 17 rfl) rfl), ⟨1, rfl, ⟨by decide, by decide, by decide +kernel⟩⟩, Or.inl ⟨(RX12, TX12, 50), rfl, rfl⟩⟩
theorem ir_m_242 : ir_mP (12, 410, 0, 269, 3, 12) := ⟨(ir_Tm (ir_k10 29 rfl) rfl), (ir_Tm (ir_k10 31 rfl) rfl), (ir_v9 0 rfl), (ir_Tm (ir_k1 17 rfl) rfl), ⟨2, rfl, ⟨by decide, by decide, by decide +kernel⟩⟩, Or.inl ⟨(RX12, TX12, 50), rfl, rfl⟩⟩
theorem ir_m_243 : ir_mP (12, 426, 0, 252, 2, 12) := ⟨(ir_Tm (ir_k10 46 rfl) rfl), (ir_Tm (ir_k10 48 rfl) rfl), (ir_v9 1 rfl), (ir_Tm (ir_k1 17 rfl) rfl), ⟨1, rfl, ⟨by decide, by decide, by decide +kernel⟩⟩, Or.inl ⟨(RX12, TX12, 50), rfl, rfl⟩⟩
theorem ir_m_244 : ir_mP (12, 429, 0, 273, 2, 12) := ⟨(ir_Tm (ir_k10 50 rfl) rfl), (ir_Tm (ir_k10 52 rfl) rfl), (ir_v9 2 rfl), (ir_Tm (ir_k1 17 rfl) rfl), ⟨1, rfl, ⟨by decide, by decide, by decide +kernel⟩⟩, Or.inl ⟨(RX12, TX12, 50), rfl, rfl⟩⟩
theorem ir_m_245 : ir_mP (12, 432, 0, 274, 2, 12) := ⟨(ir_Tm (ir_k10 58 rfl) rfl), (ir_Tm (ir_k10 60 rfl) rfl), (ir_v9 3 rfl), (ir_Tm (ir_k1 17 rfl) rfl), ⟨1, rfl, ⟨by decide, by decide, by decide +kernel⟩⟩, Or.inl ⟨(RX12, TX12, 50), rfl, rfl⟩⟩
theorem ir_m_246 : ir_mP (12, 435, 0, 253, 2, 12) := ⟨(ir_Tm (ir_k10 62 rfl) rfl), (ir_Tm (ir_k10 64 rfl) rfl), (ir_v9 4 rfl), (ir_Tm (ir_k1 17 rfl) rfl), ⟨1, rfl, ⟨by decide, by decide, by decide +kernel⟩⟩, Or.inl ⟨(RX12, TX12, 50), rfl, rfl⟩⟩
theorem ir_m_247 : ir_mP (12, 444, 0, 277, 2, 12) := ⟨(ir_Tm (ir_k10 75 rfl) rfl), (ir_Tm (ir_k10 77 rfl) rfl), (ir_v9 5 rfl), (ir_Tm (ir_k1 17 rfl) rfl), ⟨1, rfl, ⟨by decide, by decide, by decide +kernel⟩⟩, Or.inl ⟨(RX12, TX12, 50), rfl, rfl⟩⟩
theorem ir_m_248 : ir_mP (12, 460, 2, 187, 2, 12) := ⟨(ir_Tm (ir_k10 97 rfl) rfl), (ir_Tm (ir_k10 98 rfl) rfl), (ir_Tm (ir_k1 17 rfl) rfl), ⟨by decide, by decide, by decide +kernel⟩⟩
theorem ir_m_249 : ir_mP (12, 464, 0, 279, 3, 12) := ⟨(ir_Tm (ir_k10 100 rfl) rfl), (ir_Tm (ir_k10 102 rfl) rfl), (ir_v9 9 rfl), (ir_Tm (ir_k1 17 rfl) rfl), ⟨2, rfl, ⟨by decide, by decide, by decide +kernel⟩⟩, Or.inl ⟨(RX12, TX12, 50), rfl, rfl⟩⟩
theorem ir_m_250 : ir_mP (12, 467, 0, 280, 3, 12) := ⟨(ir_Tm (ir_k10 93 rfl) rfl), (ir_Tm (ir_k10 95 rfl) rfl), (ir_v9 8 rfl), (ir_Tm (ir_k1 17 rfl) rfl), ⟨2, rfl, ⟨by decide, by decide, by decide +kernel⟩⟩, Or.inl ⟨(RX12, TX12, 50), rfl, rfl⟩⟩
theorem ir_m_251 : ir_mP (12, 470, 0, 281, 1, 12) := ⟨(ir_Tm (ir_k10 89 rfl) rfl), (ir_Tm (ir_k10 91 rfl) rfl), (ir_v9 7 rfl), (ir_Tm (ir_k1 17 rfl) rfl), ⟨0, rfl, ⟨by decide, by decide, by decide +kernel⟩⟩, Or.inl ⟨(RX12, TX12, 50), rfl, rfl⟩⟩
theorem ir_m_252 : ir_mP (12, 475, 0, 282, 2, 12) := ⟨(ir_Tm (ir_k10 85 rfl) rfl), (ir_Tm (ir_k10 87 rfl) rfl), (ir_v9 6 rfl), (ir_Tm (ir_k1 17 rfl) rfl), ⟨1, rfl, ⟨by decide, by decide, by decide +kernel⟩⟩, Or.inl ⟨(RX12, TX12, 50), rfl, rfl⟩⟩
theorem ir_m_253 : ir_mP (12, 478, 0, 286, 2, 12) := ⟨(ir_Tm (ir_k10 120 rfl) rfl), (ir_Tm (ir_k10 122 rfl) rfl), (ir_v9 11 rfl), (ir_Tm (ir_k1 17 rfl) rfl), ⟨1, rfl, ⟨by decide, by decide, by decide +kernel⟩⟩, Or.inl ⟨(RX12, TX12, 50), rfl, rfl⟩⟩
theorem ir_m_254 : ir_mP (12, 481, 0, 287, 3, 12) := ⟨(ir_Tm (ir_k10 116 rfl) rfl), (ir_Tm (ir_k10 118 rfl) rfl), (ir_v9 10 rfl), (ir_Tm (ir_k1 17 rfl) rfl), ⟨2, rfl, ⟨by decide, by decide, by decide +kernel⟩⟩, Or.inl ⟨(RX12, TX12, 50), rfl, rfl⟩⟩
theorem ir_m_255 : ir_mP (12, 487, 0, 289, 2, 12) := ⟨(ir_Tm (ir_k10 129 rfl) rfl), (ir_Tm (ir_k10 131 rfl) rfl), (ir_v9 12 rfl), (ir_Tm (ir_k1 17 rfl) rfl), ⟨1, rfl, ⟨by decide, by decide, by decide +kernel⟩⟩, Or.inl ⟨(RX12, TX12, 50), rfl, rfl⟩⟩
theorem ir_m_256 : ir_mP (12, 499, 0, 291, 3, 12) := ⟨(ir_Tm (ir_k10 140 rfl) rfl), (ir_Tm (ir_k10 142 rfl) rfl), (ir_v9 13 rfl), (ir_Tm (ir_k1 17 rfl) rfl), ⟨2, rfl, ⟨by decide, by decide, by decide +kernel⟩⟩, Or.inl ⟨(RX12, TX12, 50), rfl, rfl⟩⟩
theorem ir_m_257 : ir_mP (12, 502, 2, 188, 1, 12) := ⟨(ir_Tm (ir_k10 137 rfl) rfl), (ir_Tm (ir_k10 138 rfl) rfl), (ir_Tm (ir_k1 17 rfl) rfl), ⟨by decide, by decide, by decide +kernel⟩⟩
theorem ir_m_258 : ir_mP (12, 508, 0, 294, 4, 12) := ⟨(ir_Tm (ir_k10 156 rfl) rfl), (ir_Tm (ir_k10 158 rfl) rfl), (ir_v9 15 rfl), (ir_Tm (ir_k1 17 rfl) rfl), ⟨3, rfl, ⟨by decide, by decide, by decide +kernel⟩⟩, Or.inl ⟨(RX12, TX12, 50), rfl, rfl⟩⟩
theorem ir_m_259 : ir_mP (12, 511, 0, 295, 2, 12) := ⟨(ir_Tm (ir_k10 152 rfl) rfl), (ir_Tm (ir_k10 154 rfl) rfl), (ir_v9 14 rfl), (ir_Tm (ir_k1 17 rfl) rfl), ⟨1, rfl, ⟨by decide, by decide, by decide +kernel⟩⟩, Or.inl ⟨(RX12, TX12, 50), rfl, rfl⟩⟩
theorem ir_m_260 : ir_mP (12, 514, 0, 297, 3, 12) := ⟨(ir_Tm (ir_k10 164 rfl) rfl), (ir_Tm (ir_k10 166 rfl) rfl), (ir_v10 0 rfl), (ir_Tm (ir_k1 17 rfl) rfl), ⟨2, rfl, ⟨by decide, by decide, by decide +kernel⟩⟩, Or.inl ⟨(RX12, TX12, 50), rfl, rfl⟩⟩
theorem ir_m_261 : ir_mP (12, 523, 0, 301, 3, 12) := ⟨(ir_Tm (ir_k10 184 rfl) rfl), (ir_Tm (ir_k10 186 rfl) rfl), (ir_v10 3 rfl), (ir_Tm (ir_k1 17 rfl) rfl), ⟨2, rfl, ⟨by decide, by decide, by decide +kernel⟩⟩, Or.inl ⟨(RX12, TX12, 50), rfl, rfl⟩⟩
theorem ir_m_262 : ir_mP (12, 526, 0, 300, 1, 12) := ⟨(ir_Tm (ir_k10 176 rfl) rfl), (ir_Tm (ir_k10 178 rfl) rfl), (ir_v10 1 rfl), (ir_Tm (ir_k1 17 rfl) rfl), ⟨0, rfl, ⟨by decide, by decide, by decide +kernel⟩⟩, Or.inl ⟨(RX12, TX12, 50), rfl, rfl⟩⟩
theorem ir_m_263 : ir_mP (12, 529, 0, 302, 2, 12) := ⟨(ir_Tm (ir_k10 180 rfl) rfl), (ir_Tm (ir_k10 182 rfl) rfl), (ir_v10 2 rfl), (ir_Tm (ir_k1 17 rfl) rfl), ⟨1, rfl, ⟨by decide, by decide, by decide +kernel⟩⟩, Or.inl ⟨(RX12, TX12, 50), rfl, rfl⟩⟩
theorem ir_m_264 : ir_mP (12, 532, 2, 304, 1, 12) := ⟨(ir_Tm (ir_k10 192 rfl) rfl), (ir_Tm (ir_k10 193 rfl) rfl), (ir_Tm (ir_k1 17 rfl) rfl), ⟨by decide, by decide, by decide +kernel⟩⟩
theorem ir_m_265 : ir_mP (12, 535, 0, 306, 1, 12) := ⟨(ir_Tm (ir_k10 199 rfl) rfl), (ir_Tm (ir_k10 201 rfl) rfl), (ir_v10 4 rfl), (ir_Tm (ir_k1 17 rfl) rfl), ⟨0, rfl, ⟨by decide, by decide, by decide +kernel⟩⟩, Or.inl ⟨(RX12, TX12, 50), rfl, rfl⟩⟩
theorem ir_m_266 : ir_mP (12, 538, 0, 309, 2, 12) := ⟨(ir_Tm (ir_k10 211 rfl) rfl), (ir_Tm (ir_k10 213 rfl) rfl), (ir_v10 5 rfl), (ir_Tm (ir_k1 17 rfl) rfl), ⟨1, rfl, ⟨by decide, by decide, by decide +kernel⟩⟩, Or.inl ⟨(RX12, TX12, 50), rfl, rfl⟩⟩
theorem ir_m_267 : ir_mP (12, 547, 0, 313, 3, 12) := ⟨(ir_Tm (ir_k10 232 rfl) rfl), (ir_Tm (ir_k10 234 rfl) rfl), (ir_v10 8 rfl), (ir_Tm (ir_k1 17 rfl) rfl), ⟨2, rfl, ⟨by decide, by decide, by decide +kernel⟩⟩, Or.inl ⟨(RX12, TX12, 50), rfl, rfl⟩⟩
theorem ir_m_268 : ir_mP (12, 550, 0, 312, 2, 12) := ⟨(ir_Tm (ir_k10 223 rfl) rfl), (ir_Tm (ir_k10 225 rfl) rfl), (ir_v10 6 rfl), (ir_Tm (ir_k1 17 rfl) rfl), ⟨1, rfl, ⟨by decide, by decide, by decide +kernel⟩⟩, Or.inl ⟨(RX12, TX12, 50), rfl, rfl⟩⟩
theorem ir_m_269 : ir_mP (12, 553, 0, 314, 2, 12) := ⟨(ir_Tm (ir_k10 228 rfl) rfl), (ir_Tm (ir_k10 230 rfl) rfl), (ir_v10 7 rfl), (ir_Tm (ir_k1 17 rfl) rfl), ⟨1, rfl, ⟨by decide, by decide, by decide +kernel⟩⟩, Or.inl ⟨(RX12, TX12, 50), rfl, rfl⟩⟩
theorem ir_m_270 : ir_mP (12, 556, 0, 319, 4, 12) := ⟨(ir_Tm (ir_k11 8 rfl) rfl), (ir_Tm (ir_k11 10 rfl) rfl), (ir_v10 9 rfl), (ir_Tm (ir_k1 17 rfl) rfl), ⟨3, rfl, ⟨by decide, by decide, by decide +kernel⟩⟩, Or.inl ⟨(RX12, TX12, 50), rfl, rfl⟩⟩
theorem ir_m_271 : ir_mP (12, 560, 0, 324, 2, 12) := ⟨(ir_Tm (ir_k11 28 rfl) rfl), (ir_Tm (ir_k11 30 rfl) rfl), (ir_v10 10 rfl), (ir_Tm (ir_k1 17 rfl) rfl), ⟨1, rfl, ⟨by decide, by decide, by decide +kernel⟩⟩, Or.inl ⟨(RX12, TX12, 50), rfl, rfl⟩⟩
theorem ir_m_272 : ir_mP (13, 7, 0, 99, 2, 11) := ⟨(ir_Tm (ir_k4 40 rfl) rfl), (ir_Tm (ir_k4 41 rfl) rfl), (ir_Tm (ir_k4 42 rfl) rfl), (ir_Tm (ir_k1 1 rfl) rfl), ⟨1, rfl, ⟨by decide, by decide, by decide +kernel⟩⟩, Or.inl ⟨(RX11, TX11, 20), rfl, rfl⟩⟩
theorem ir_m_273 : ir_mP (13, 15, 0, 101, 3, 11) := ⟨(ir_Tm (ir_k5 76 rfl) rfl), (ir_Tm (ir_k5 77 rfl) rfl), (ir_Tm (ir_k5 78 rfl) rfl), (ir_Tm (ir_k1 1 rfl) rfl), ⟨2, rfl, ⟨by decide, by decide, by decide +kernel⟩⟩, Or.inl ⟨(RX11, TX11, 20), rfl, rfl⟩⟩
theorem ir_m_274 : ir_mP (13, 21, 0, 102, 3, 11) := ⟨(ir_Tm (ir_k5 120 rfl) rfl), (ir_Tm (ir_k5 121 rfl) rfl), (ir_Tm (ir_k5 122 rfl) rfl), (ir_Tm (ir_k1 1 rfl) rfl), ⟨2, rfl, ⟨by decide, by decide, by decide +kernel⟩⟩, Or.inl ⟨(RX11, TX11, 20), rfl, rfl⟩⟩
theorem ir_m_275 : ir_mP (13, 24, 0, 103, 3, 11) := ⟨(ir_Tm (ir_k5 133 rfl) rfl), (ir_Tm (ir_k5 134 rfl) rfl), (ir_Tm (ir_k5 135 rfl) rfl), (ir_Tm (ir_k1 1 rfl) rfl), ⟨2, rfl, ⟨by decide, by decide, by decide +kernel⟩⟩, Or.inl ⟨(RX11, TX11, 20), rfl, rfl⟩⟩
theorem ir_m_276 : ir_mP (13, 27, 0, 104, 2, 11) := ⟨(ir_Tm (ir_k5 145 rfl) rfl), (ir_Tm (ir_k5 146 rfl) rfl), (ir_Tm (ir_k5 147 rfl) rfl), (ir_Tm (ir_k1 1 rfl) rfl), ⟨1, rfl, ⟨by decide, by decide, by decide +kernel⟩⟩, Or.inl ⟨(RX11, TX11, 20), rfl, rfl⟩⟩
theorem ir_m_277 : ir_mP (13, 30, 0, 105, 3, 11) := ⟨(ir_Tm (ir_k5 154 rfl) rfl), (ir_Tm (ir_k5 155 rfl) rfl), (ir_Tm (ir_k5 156 rfl) rfl), (ir_Tm (ir_k1 1 rfl) rfl), ⟨2, rfl, ⟨by decide, by decide, by decide +kernel⟩⟩, Or.inl ⟨(RX11, TX11, 20), rfl, rfl⟩⟩
theorem ir_m_278 : ir_mP (13, 36, 0, 107, 2, 11) := ⟨(ir_Tm (ir_k5 181 rfl) rfl), (ir_Tm (ir_k5 182 rfl) rfl), (ir_Tm (ir_k5 183 rfl) rfl), (ir_Tm (ir_k1 1 rfl) rfl), ⟨1, rfl, ⟨by decide, by decide, by decide +kernel⟩⟩, Or.inl ⟨(RX11, TX11, 20), rfl, rfl⟩⟩
theorem ir_m_279 : ir_mP (13, 39, 0, 108, 3, 11) := ⟨(ir_Tm (ir_k5 193 rfl) rfl), (ir_Tm (ir_k5 194 rfl) rfl), (ir_Tm (ir_k5 195 rfl) rfl), (ir_Tm (ir_k1 1 rfl) rfl), ⟨2, rfl, ⟨by decide, by decide, by decide +kernel⟩⟩, Or.inl ⟨(RX11, TX11, 20), rfl, rfl⟩⟩
theorem ir_m_280 : ir_mP (13, 42, 0, 109, 2, 11) := ⟨(ir_Tm (ir_k5 200 rfl) rfl), (ir_Tm (ir_k5 201 rfl) rfl), (ir_Tm (ir_k5 202 rfl) rfl), (ir_Tm (ir_k1 1 rfl) rfl), ⟨1, rfl, ⟨by decide, by decide, by decide +kernel⟩⟩, Or.inl ⟨(RX11, TX11, 20), rfl, rfl⟩⟩
theorem ir_m_281 : ir_mP (13, 45, 0, 110, 2, 11) := ⟨(ir_Tm (ir_k5 208 rfl) rfl), (ir_Tm (ir_k5 209 rfl) rfl), (ir_Tm (ir_k5 210 rfl) rfl), (ir_Tm (ir_k1 1 rfl) rfl), ⟨1, rfl, ⟨by decide, by decide, by decide +kernel⟩⟩, Or.inl ⟨(RX11, TX11, 20), rfl, rfl⟩⟩
theorem ir_m_282 : ir_mP (13, 48, 0, 111, 2, 11) := ⟨(ir_Tm (ir_k5 216 rfl) rfl), (ir_Tm (ir_k5 217 rfl) rfl), (ir_Tm (ir_k5 218 rfl) rfl), (ir_Tm (ir_k1 1 rfl) rfl), ⟨1, rfl, ⟨by decide, by decide, by decide +kernel⟩⟩, Or.inl ⟨(RX11, TX11, 20), rfl, rfl⟩⟩
theorem ir_m_283 : ir_mP (13, 51, 0, 112, 3, 11) := ⟨(ir_Tm (ir_k5 225 rfl) rfl), (ir_Tm (ir_k5 226 rfl) rfl), (ir_Tm (ir_k5 227 rfl) rfl), (ir_Tm (ir_k1 1 rfl) rfl), ⟨2, rfl, ⟨by decide, by decide, by decide +kernel⟩⟩, Or.inl ⟨(RX11, TX11, 20), rfl, rfl⟩⟩
theorem ir_m_284 : ir_mP (13, 54, 0, 113, 2, 11) := ⟨(ir_Tm (ir_k5 237 rfl) rfl), (ir_Tm (ir_k5 238 rfl) rfl), (ir_Tm (ir_k5 239 rfl) rfl), (ir_Tm (ir_k1 1 rfl) rfl), ⟨1, rfl, ⟨by decide, by decide, by decide +kernel⟩⟩, Or.inl ⟨(RX11, TX11, 20), rfl, rfl⟩⟩
theorem ir_m_285 : ir_mP (13, 57, 0, 115, 3, 11) := ⟨(ir_Tm (ir_k6 5 rfl) rfl), (ir_Tm (ir_k6 6 rfl) rfl), (ir_Tm (ir_k6 7 rfl) rfl), (ir_Tm (ir_k1 1 rfl) rfl), ⟨2, rfl, ⟨by decide, by decide, by decide +kernel⟩⟩, Or.inl ⟨(RX11, TX11, 20), rfl, rfl⟩⟩
theorem ir_m_286 : ir_mP (13, 60, 0, 117, 2, 11) := ⟨(ir_Tm (ir_k6 40 rfl) rfl), (ir_Tm (ir_k6 41 rfl) rfl), (ir_Tm (ir_k6 42 rfl) rfl), (ir_Tm (ir_k1 1 rfl) rfl), ⟨1, rfl, ⟨by decide, by decide, by decide +kernel⟩⟩, Or.inl ⟨(RX11, TX11, 20), rfl, rfl⟩⟩
theorem ir_m_287 : ir_mP (13, 63, 0, 118, 3, 11) := ⟨(ir_Tm (ir_k6 52 rfl) rfl), (ir_Tm (ir_k6 53 rfl) rfl), (ir_Tm (ir_k6 54 rfl) rfl), (ir_Tm (ir_k1 1 rfl) rfl), ⟨2, rfl, ⟨by decide, by decide, by decide +kernel⟩⟩, Or.inl ⟨(RX11, TX11, 20), rfl, rfl⟩⟩
theorem ir_m_288 : ir_mP (13, 66, 0, 119, 2, 11) := ⟨(ir_Tm (ir_k6 72 rfl) rfl), (ir_Tm (ir_k6 73 rfl) rfl), (ir_Tm (ir_k6 74 rfl) rfl), (ir_Tm (ir_k1 1 rfl) rfl), ⟨1, rfl, ⟨by decide, by decide, by decide +kernel⟩⟩, Or.inl ⟨(RX11, TX11, 20), rfl, rfl⟩⟩
theorem ir_m_289 : ir_mP (13, 69, 0, 120, 3, 11) := ⟨(ir_Tm (ir_k6 79 rfl) rfl), (ir_Tm (ir_k6 80 rfl) rfl), (ir_Tm (ir_k6 81 rfl) rfl), (ir_Tm (ir_k1 1 rfl) rfl), ⟨2, rfl, ⟨by decide, by decide, by decide +kernel⟩⟩, Or.inl ⟨(RX11, TX11, 20), rfl, rfl⟩⟩
theorem ir_m_290 : ir_mP (13, 72, 0, 121, 2, 11) := ⟨(ir_Tm (ir_k6 97 rfl) rfl), (ir_Tm (ir_k6 98 rfl) rfl), (ir_Tm (ir_k6 99 rfl) rfl), (ir_Tm (ir_k1 1 rfl) rfl), ⟨1, rfl, ⟨by decide, by decide, by decide +kernel⟩⟩, Or.inl ⟨(RX11, TX11, 20), rfl, rfl⟩⟩
theorem ir_m_291 : ir_mP (13, 75, 0, 123, 1, 11) := ⟨(ir_Tm (ir_k6 109 rfl) rfl), (ir_Tm (ir_k6 110 rfl) rfl), (ir_Tm (ir_k6 111 rfl) rfl), (ir_Tm (ir_k1 1 rfl) rfl), ⟨0, rfl, ⟨by decide, by decide, by decide +kernel⟩⟩, Or.inl ⟨(RX11, TX11, 20), rfl, rfl⟩⟩
theorem ir_m_292 : ir_mP (13, 79, 0, 124, 3, 11) := ⟨(ir_Tm (ir_k6 117 rfl) rfl), (ir_Tm (ir_k6 118 rfl) rfl), (ir_Tm (ir_k6 119 rfl) rfl), (ir_Tm (ir_k1 1 rfl) rfl), ⟨2, rfl, ⟨by decide, by decide, by decide +kernel⟩⟩, Or.inl ⟨(RX11, TX11, 20), rfl, rfl⟩⟩
theorem ir_m_293 : ir_mP (13, 83, 0, 125, 2, 11) := ⟨(ir_Tm (ir_k6 140 rfl) rfl), (ir_Tm (ir_k6 141 rfl) rfl), (ir_Tm (ir_k6 142 rfl) rfl), (ir_Tm (ir_k1 1 rfl) rfl), ⟨1, rfl, ⟨by decide, by decide, by decide +kernel⟩⟩, Or.inl ⟨(RX11, TX11, 20), rfl, rfl⟩⟩
theorem ir_m_294 : ir_mP (13, 86, 0, 126, 4, 11) := ⟨(ir_Tm (ir_k6 164 rfl) rfl), (ir_Tm (ir_k6 165 rfl) rfl), (ir_Tm (ir_k6 166 rfl) rfl), (ir_Tm (ir_k1 1 rfl) rfl), ⟨3, rfl, ⟨by decide, by decide, by decide +kernel⟩⟩, Or.inl ⟨(RX11, TX11, 20), rfl, rfl⟩⟩
theorem ir_m_295 : ir_mP (13, 90, 0, 127, 3, 11) := ⟨(ir_Tm (ir_k6 204 rfl) rfl), (ir_Tm (ir_k6 205 rfl) rfl), (ir_Tm (ir_k6 206 rfl) rfl), (ir_Tm (ir_k1 1 rfl) rfl), ⟨2, rfl, ⟨by decide, by decide, by decide +kernel⟩⟩, Or.inl ⟨(RX11, TX11, 20), rfl, rfl⟩⟩
theorem ir_m_296 : ir_mP (13, 93, 0, 128, 3, 11) := ⟨(ir_Tm (ir_k6 228 rfl) rfl), (ir_Tm (ir_k6 229 rfl) rfl), (ir_Tm (ir_k6 230 rfl) rfl), (ir_Tm (ir_k1 1 rfl) rfl), ⟨2, rfl, ⟨by decide, by decide, by decide +kernel⟩⟩, Or.inl ⟨(RX11, TX11, 20), rfl, rfl⟩⟩
theorem ir_m_297 : ir_mP (13, 96, 0, 129, 3, 11) := ⟨(ir_Tm (ir_k7 0 rfl) rfl), (ir_Tm (ir_k7 1 rfl) rfl), (ir_Tm (ir_k7 2 rfl) rfl), (ir_Tm (ir_k1 1 rfl) rfl), ⟨2, rfl, ⟨by decide, by decide, by decide +kernel⟩⟩, Or.inl ⟨(RX11, TX11, 20), rfl, rfl⟩⟩
theorem ir_m_298 : ir_mP (13, 99, 0, 130, 2, 11) := ⟨(ir_Tm (ir_k7 11 rfl) rfl), (ir_Tm (ir_k7 12 rfl) rfl), (ir_Tm (ir_k7 13 rfl) rfl), (ir_Tm (ir_k1 1 rfl) rfl), ⟨1, rfl, ⟨by decide, by decide, by decide +kernel⟩⟩, Or.inl ⟨(RX11, TX11, 20), rfl, rfl⟩⟩
theorem ir_m_299 : ir_mP (13, 102, 0, 131, 2, 11) := ⟨(ir_Tm (ir_k7 18 rfl) rfl), (ir_Tm (ir_k7 19 rfl) rfl), (ir_Tm (ir_k7 20 rfl) rfl), (ir_Tm (ir_k1 1 rfl) rfl), ⟨1, rfl, ⟨by decide, by decide, by decide +kernel⟩⟩, Or.inl ⟨(RX11, TX11, 20), rfl, rfl⟩⟩
theorem ir_m_300 : ir_mP (13, 105, 0, 132, 2, 11) := ⟨(ir_Tm (ir_k7 44 rfl) rfl), (ir_Tm (ir_k7 45 rfl) rfl), (ir_Tm (ir_k7 46 rfl) rfl), (ir_Tm (ir_k1 1 rfl) rfl), ⟨1, rfl, ⟨by decide, by decide, by decide +kernel⟩⟩, Or.inl ⟨(RX11, TX11, 20), rfl, rfl⟩⟩
theorem ir_m_301 : ir_mP (13, 108, 0, 133, 2, 11) := ⟨(ir_Tm (ir_k7 58 rfl) rfl), (ir_Tm (ir_k7 59 rfl) rfl), (ir_Tm (ir_k7 60 rfl) rfl), (ir_Tm (ir_k1 1 rfl) rfl), ⟨1, rfl, ⟨by decide, by decide, by decide +kernel⟩⟩, Or.inl ⟨(RX11, TX11, 20), rfl, rfl⟩⟩
theorem ir_m_302 : ir_mP (13, 111, 0, 135, 2, 11) := ⟨(ir_Tm (ir_k7 65 rfl) rfl), (ir_Tm (ir_k7 66 rfl) rfl), (ir_Tm (ir_k7 67 rfl) rfl), (ir_Tm (ir_k1 1 rfl) rfl), ⟨1, rfl, ⟨by decide, by decide, by decide +kernel⟩⟩, Or.inl ⟨(RX11, TX11, 20), rfl, rfl⟩⟩
theorem ir_m_303 : ir_mP (13, 114, 0, 137, 2, 11) := ⟨(ir_Tm (ir_k7 73 rfl) rfl), (ir_Tm (ir_k7 74 rfl) rfl), (ir_Tm (ir_k7 75 rfl) rfl), (ir_Tm (ir_k1 1 rfl) rfl), ⟨1, rfl, ⟨by decide, by decide, by decide +kernel⟩⟩, Or.inl ⟨(RX11, TX11, 20), rfl, rfl⟩⟩
theorem ir_m_304 : ir_mP (13, 118, 0, 138, 3, 11) := ⟨(ir_Tm (ir_k7 128 rfl) rfl), (ir_Tm (ir_k7 129 rfl) rfl), (ir_Tm (ir_k7 130 rfl) rfl), (ir_Tm (ir_k1 1 rfl) rfl), ⟨2, rfl, ⟨by decide, by decide, by decide +kernel⟩⟩, Or.inl ⟨(RX11, TX11, 20), rfl, rfl⟩⟩
theorem ir_m_305 : ir_mP (13, 121, 0, 139, 4, 11) := ⟨(ir_Tm (ir_k7 140 rfl) rfl), (ir_Tm (ir_k7 141 rfl) rfl), (ir_Tm (ir_k7 142 rfl) rfl), (ir_Tm (ir_k1 1 rfl) rfl), ⟨3, rfl, ⟨by decide, by decide, by decide +kernel⟩⟩, Or.inl ⟨(RX11, TX11, 20), rfl, rfl⟩⟩
theorem ir_m_306 : ir_mP (13, 125, 0, 140, 4, 11) := ⟨(ir_Tm (ir_k7 154 rfl) rfl), (ir_Tm (ir_k7 155 rfl) rfl), (ir_Tm (ir_k7 156 rfl) rfl), (ir_Tm (ir_k1 1 rfl) rfl), ⟨3, rfl, ⟨by decide, by decide, by decide +kernel⟩⟩, Or.inl ⟨(RX11, TX11, 20), rfl, rfl⟩⟩
theorem ir_m_307 : ir_mP (13, 131, 0, 141, 2, 11) := ⟨(ir_Tm (ir_k7 185 rfl) rfl), (ir_Tm (ir_k7 186 rfl) rfl), (ir_Tm (ir_k7 187 rfl) rfl), (ir_Tm (ir_k1 1 rfl) rfl), ⟨1, rfl, ⟨by decide, by decide, by decide +kernel⟩⟩, Or.inl ⟨(RX11, TX11, 20), rfl, rfl⟩⟩
theorem ir_m_308 : ir_mP (13, 134, 0, 142, 2, 11) := ⟨(ir_Tm (ir_k7 193 rfl) rfl), (ir_Tm (ir_k7 194 rfl) rfl), (ir_Tm (ir_k7 195 rfl) rfl), (ir_Tm (ir_k1 1 rfl) rfl), ⟨1, rfl, ⟨by decide, by decide, by decide +kernel⟩⟩, Or.inl ⟨(RX11, TX11, 20), rfl, rfl⟩⟩
theorem ir_m_309 : ir_mP (13, 138, 0, 143, 2, 11) := ⟨(ir_Tm (ir_k7 208 rfl) rfl), (ir_Tm (ir_k7 209 rfl) rfl), (ir_Tm (ir_k7 210 rfl) rfl), (ir_Tm (ir_k1 1 rfl) rfl), ⟨1, rfl, ⟨by decide, by decide, by decide +kernel⟩⟩, Or.inl ⟨(RX11, TX11, 20), rfl, rfl⟩⟩
theorem ir_m_310 : ir_mP (13, 141, 1, 97, 1, 11) := ⟨Or.inl (ir_Tm (ir_k1 32 rfl) rfl), (ir_Tm (ir_k1 33 rfl) rfl), (ir_Tm (ir_k1 1 rfl) rfl), rfl, ⟨0, rfl, ⟨by decide, by decide, by decide +kernel⟩⟩⟩
theorem ir_m_311 : ir_mP (13, 144, 1, 183, 1, 12) := ⟨Or.inl (ir_Tm (ir_k7 215 rfl) rfl), (ir_Tm (ir_k7 216 rfl) rfl), (ir_Tm (ir_k1 17 rfl) rfl), rfl, ⟨0, rfl, ⟨by decide, by decide, by decide +kernel⟩⟩⟩
theorem ir_m_312 : ir_mP (13, 145, 0, 98, 6, 11) := ⟨(ir_Tm (ir_k3 88 rfl) rfl), (ir_Tm (ir_k3 89 rfl) rfl), (ir_Tm (ir_k3 90 rfl) rfl), (ir_Tm (ir_k1 1 rfl) rfl), ⟨5, rfl, ⟨by decide, by decide, by decide +kernel⟩⟩, Or.inl ⟨(RX11, TX11, 20), rfl, rfl⟩⟩
theorem ir_m_313 : ir_mP (13, 149, 0, 189, 6, 12) := ⟨(ir_Tm (ir_k8 134 rfl) rfl), (ir_Tm (ir_k8 135 rfl) rfl), (ir_Tm (ir_k8 136 rfl) rfl), (ir_Tm (ir_k1 17 rfl) rfl), ⟨5, rfl, ⟨by decide, by decide, by decide +kernel⟩⟩, Or.inl ⟨(RX12, TX12, 50), rfl, rfl⟩⟩
theorem ir_m_314 : ir_mP (13, 150, 2, 326, 3, 99) := ⟨(ir_Tm (ir_k4 36 rfl) rfl), (ir_Tm (ir_k4 37 rfl) rfl), (ir_Tm (ir_k1 0 rfl) rfl), ⟨by decide, by decide, by decide +kernel⟩⟩
theorem ir_m_315 : ir_mP (13, 155, 0, 218, 2, 12) := ⟨(ir_Tm (ir_k8 138 rfl) rfl), (ir_Tm (ir_k8 139 rfl) rfl), (ir_Tm (ir_k8 140 rfl) rfl), (ir_Tm (ir_k1 17 rfl) rfl), ⟨1, rfl, ⟨by decide, by decide, by decide +kernel⟩⟩, Or.inl ⟨(RX12, TX12, 50), rfl, rfl⟩⟩
theorem ir_m_316 : ir_mP (13, 156, 0, 184, 1, 12) := ⟨(ir_Tm (ir_k8 130 rfl) rfl), (ir_Tm (ir_k8 131 rfl) rfl), (ir_Tm (ir_k8 132 rfl) rfl), (ir_Tm (ir_k1 17 rfl) rfl), ⟨0, rfl, ⟨by decide, by decide, by decide +kernel⟩⟩, Or.inl ⟨(RX12, TX12, 50), rfl, rfl⟩⟩
theorem ir_m_317 : ir_mP (13, 159, 0, 100, 2, 11) := ⟨(ir_Tm (ir_k3 96 rfl) rfl), (ir_Tm (ir_k3 97 rfl) rfl), (ir_Tm (ir_k3 98 rfl) rfl), (ir_Tm (ir_k1 1 rfl) rfl), ⟨1, rfl, ⟨by decide, by decide, by decide +kernel⟩⟩, Or.inl ⟨(RX11, TX11, 20), rfl, rfl⟩⟩
theorem ir_m_318 : ir_mP (13, 162, 0, 219, 2, 12) := ⟨(ir_Tm (ir_k9 61 rfl) rfl), (ir_Tm (ir_k9 62 rfl) rfl), (ir_Tm (ir_k9 63 rfl) rfl), (ir_Tm (ir_k1 17 rfl) rfl), ⟨1, rfl, ⟨by decide, by decide, by decide +kernel⟩⟩, Or.inl ⟨(RX12, TX12, 50), rfl, rfl⟩⟩
theorem ir_m_319 : ir_mP (13, 163, 2, 327, 4, 99) := ⟨(ir_Tm (ir_k5 72 rfl) rfl), (ir_Tm (ir_k5 73 rfl) rfl), (ir_Tm (ir_k1 0 rfl) rfl), ⟨by decide, by decide, by decide +kernel⟩⟩
theorem ir_m_320 : ir_mP (13, 166, 0, 243, 3, 12) := ⟨(ir_Tm (ir_k9 65 rfl) rfl), (ir_Tm (ir_k9 66 rfl) rfl), (ir_Tm (ir_k9 67 rfl) rfl), (ir_Tm (ir_k1 17 rfl) rfl), ⟨2, rfl, ⟨by decide, by decide, by decide +kernel⟩⟩, Or.inl ⟨(RX12, TX12, 50), rfl, rfl⟩⟩
theorem ir_m_321 : ir_mP (13, 167, 2, 328, 4, 99) := ⟨(ir_Tm (ir_k5 117 rfl) rfl), (ir_Tm (ir_k5 118 rfl) rfl), (ir_Tm (ir_k1 0 rfl) rfl), ⟨by decide, by decide, by decide +kernel⟩⟩
theorem ir_m_322 : ir_mP (13, 169, 0, 244, 3, 12) := ⟨(ir_Tm (ir_k9 135 rfl) rfl), (ir_Tm (ir_k9 136 rfl) rfl), (ir_Tm (ir_k9 137 rfl) rfl), (ir_Tm (ir_k1 17 rfl) rfl), ⟨2, rfl, ⟨by decide, by decide, by decide +kernel⟩⟩, Or.inl ⟨(RX12, TX12, 50), rfl, rfl⟩⟩
theorem ir_m_323 : ir_mP (13, 170, 2, 329, 4, 99) := ⟨(ir_Tm (ir_k5 130 rfl) rfl), (ir_Tm (ir_k5 131 rfl) rfl), (ir_Tm (ir_k1 0 rfl) rfl), ⟨by decide, by decide, by decide +kernel⟩⟩
theorem ir_m_324 : ir_mP (13, 172, 0, 245, 3, 12) := ⟨(ir_Tm (ir_k9 147 rfl) rfl), (ir_Tm (ir_k9 148 rfl) rfl), (ir_Tm (ir_k9 149 rfl) rfl), (ir_Tm (ir_k1 17 rfl) rfl), ⟨2, rfl, ⟨by decide, by decide, by decide +kernel⟩⟩, Or.inl ⟨(RX12, TX12, 50), rfl, rfl⟩⟩
theorem ir_m_325 : ir_mP (13, 173, 2, 330, 3, 99) := ⟨(ir_Tm (ir_k5 142 rfl) rfl), (ir_Tm (ir_k5 143 rfl) rfl), (ir_Tm (ir_k1 0 rfl) rfl), ⟨by decide, by decide, by decide +kernel⟩⟩
theorem ir_m_326 : ir_mP (13, 175, 0, 246, 2, 12) := ⟨(ir_Tm (ir_k9 151 rfl) rfl), (ir_Tm (ir_k9 152 rfl) rfl), (ir_Tm (ir_k9 153 rfl) rfl), (ir_Tm (ir_k1 17 rfl) rfl), ⟨1, rfl, ⟨by decide, by decide, by decide +kernel⟩⟩, Or.inl ⟨(RX12, TX12, 50), rfl, rfl⟩⟩
theorem ir_m_327 : ir_mP (13, 176, 2, 331, 4, 99) := ⟨(ir_Tm (ir_k5 150 rfl) rfl), (ir_Tm (ir_k5 151 rfl) rfl), (ir_Tm (ir_k1 0 rfl) rfl), ⟨by decide, by decide, by decide +kernel⟩⟩
theorem ir_m_328 : ir_mP (13, 178, 0, 248, 3, 12) := ⟨(ir_Tm (ir_k9 159 rfl) rfl), (ir_Tm (ir_k9 160 rfl) rfl), (ir_Tm (ir_k9 161 rfl) rfl), (ir_Tm (ir_k1 17 rfl) rfl), ⟨2, rfl, ⟨by decide, by decide, by decide +kernel⟩⟩, Or.inl ⟨(RX12, TX12, 50), rfl, rfl⟩⟩
theorem ir_m_329 : ir_mP (13, 179, 0, 106, 1, 11) := ⟨(ir_Tm (ir_k3 100 rfl) rfl), (ir_Tm (ir_k3 101 rfl) rfl), (ir_Tm (ir_k3 102 rfl) rfl), (ir_Tm (ir_k1 1 rfl) rfl), ⟨0, rfl, ⟨by decide, by decide, by decide +kernel⟩⟩, Or.inl ⟨(RX11, TX11, 20), rfl, rfl⟩⟩
theorem ir_m_330 : ir_mP (13, 182, 0, 249, 1, 12) := ⟨(ir_Tm (ir_k9 167 rfl) rfl), (ir_Tm (ir_k9 168 rfl) rfl), (ir_Tm (ir_k9 169 rfl) rfl), (ir_Tm (ir_k1 17 rfl) rfl), ⟨0, rfl, ⟨by decide, by decide, by decide +kernel⟩⟩, Or.inl ⟨(RX12, TX12, 50), rfl, rfl⟩⟩
theorem ir_m_331 : ir_mP (13, 183, 2, 332, 3, 99) := ⟨(ir_Tm (ir_k5 178 rfl) rfl), (ir_Tm (ir_k5 179 rfl) rfl), (ir_Tm (ir_k1 0 rfl) rfl), ⟨by decide, by decide, by decide +kernel⟩⟩
theorem ir_m_332 : ir_mP (13, 185, 0, 250, 2, 12) := ⟨(ir_Tm (ir_k9 183 rfl) rfl), (ir_Tm (ir_k9 184 rfl) rfl), (ir_Tm (ir_k9 185 rfl) rfl), (ir_Tm (ir_k1 17 rfl) rfl), ⟨1, rfl, ⟨by decide, by decide, by decide +kernel⟩⟩, Or.inl ⟨(RX12, TX12, 50), rfl, rfl⟩⟩
theorem ir_m_333 : ir_mP (13, 186, 2, 333, 4, 99) := ⟨(ir_Tm (ir_k5 190 rfl) rfl), (ir_Tm (ir_k5 191 rfl) rfl), (ir_Tm (ir_k1 0 rfl) rfl), ⟨by decide, by decide, by decide +kernel⟩⟩
theorem ir_m_334 : ir_mP (13, 188, 0, 258, 3, 12) := ⟨(ir_Tm (ir_k9 191 rfl) rfl), (ir_Tm (ir_k9 192 rfl) rfl), (ir_Tm (ir_k9 193 rfl) rfl), (ir_Tm (ir_k1 17 rfl) rfl), ⟨2, rfl, ⟨by decide, by decide, by decide +kernel⟩⟩, Or.inl ⟨(RX12, TX12, 50), rfl, rfl⟩⟩
theorem ir_m_335 : ir_mP (13, 189, 2, 334, 3, 99) := ⟨(ir_Tm (ir_k5 197 rfl) rfl), (ir_Tm (ir_k5 198 rfl) rfl), (ir_Tm (ir_k1 0 rfl) rfl), ⟨by decide, by decide, by decide +kernel⟩⟩
theorem ir_m_336 : ir_mP (13, 191, 0, 259, 2, 12) := ⟨(ir_Tm (ir_k9 199 rfl) rfl), (ir_Tm (ir_k9 200 rfl) rfl), (ir_Tm (ir_k9 201 rfl) rfl), (ir_Tm (ir_k1 17 rfl) rfl), ⟨1, rfl, ⟨by decide, by decide, by decide +kernel⟩⟩, Or.inl ⟨(RX12, TX12, 50), rfl, rfl⟩⟩
theorem ir_m_337 : ir_mP (13, 192, 2, 335, 3, 99) := ⟨(ir_Tm (ir_k5 205 rfl) rfl), (ir_Tm (ir_k5 206 rfl) rfl), (ir_Tm (ir_k1 0 rfl) rfl), ⟨by decide, by decide, by decide +kernel⟩⟩
theorem ir_m_338 : ir_mP (13, 194, 0, 260, 2, 12) := ⟨(ir_Tm (ir_k9 212 rfl) rfl), (ir_Tm (ir_k9 213 rfl) rfl), (ir_Tm (ir_k9 214 rfl) rfl), (ir_Tm (ir_k1 17 rfl) rfl), ⟨1, rfl, ⟨by decide, by decide, by decide +kernel⟩⟩, Or.inl ⟨(RX12, TX12, 50), rfl, rfl⟩⟩
theorem ir_m_339 : ir_mP (13, 195, 2, 336, 3, 99) := ⟨(ir_Tm (ir_k5 213 rfl) rfl), (ir_Tm (ir_k5 214 rfl) rfl), (ir_Tm (ir_k1 0 rfl) rfl), ⟨by decide, by decide, by decide +kernel⟩⟩
theorem ir_m_340 : ir_mP (13, 197, 0, 261, 2, 12) := ⟨(ir_Tm (ir_k9 216 rfl) rfl), (ir_Tm (ir_k9 217 rfl) rfl), (ir_Tm (ir_k9 218 rfl) rfl), (ir_Tm (ir_k1 17 rfl) rfl), ⟨1, rfl, ⟨by decide, by decide, by decide +kernel⟩⟩, Or.inl ⟨(RX12, TX12, 50), rfl, rfl⟩⟩
theorem ir_m_341 : ir_mP (13, 198, 2, 337, 4, 99) := ⟨(ir_Tm (ir_k5 222 rfl) rfl), (ir_Tm (ir_k5 223 rfl) rfl), (ir_Tm (ir_k1 0 rfl) rfl), ⟨by decide, by decide, by decide +kernel⟩⟩
theorem ir_m_342 : ir_mP (13, 200, 0, 263, 3, 12) := ⟨(ir_Tm (ir_k9 224 rfl) rfl), (ir_Tm (ir_k9 225 rfl) rfl), (ir_Tm (ir_k9 226 rfl) rfl), (ir_Tm (ir_k1 17 rfl) rfl), ⟨2, rfl, ⟨by decide, by decide, by decide +kernel⟩⟩, Or.inl ⟨(RX12, TX12, 50), rfl, rfl⟩⟩
theorem ir_m_343 : ir_mP (13, 201, 2, 338, 3, 99) := ⟨(ir_Tm (ir_k5 234 rfl) rfl), (ir_Tm (ir_k5 235 rfl) rfl), (ir_Tm (ir_k1 0 rfl) rfl), ⟨by decide, by decide, by decide +kernel⟩⟩
theorem ir_m_344 : ir_mP (13, 203, 0, 266, 2, 12) := ⟨(ir_Tm (ir_k10 0 rfl) rfl), (ir_Tm (ir_k10 1 rfl) rfl), (ir_Tm (ir_k10 2 rfl) rfl), (ir_Tm (ir_k1 17 rfl) rfl), ⟨1, rfl, ⟨by decide, by decide, by decide +kernel⟩⟩, Or.inl ⟨(RX12, TX12, 50), rfl, rfl⟩⟩
theorem ir_m_345 : ir_mP (13, 204, 0, 114, 1, 11) := ⟨(ir_Tm (ir_k3 159 rfl) rfl), (ir_Tm (ir_k3 160 rfl) rfl), (ir_Tm (ir_k3 161 rfl) rfl), (ir_Tm (ir_k1 1 rfl) rfl), ⟨0, rfl, ⟨by decide, by decide, by decide +kernel⟩⟩, Or.inl ⟨(RX11, TX11, 20), rfl, rfl⟩⟩
theorem ir_m_346 : ir_mP (13, 207, 0, 267, 1, 12) := ⟨(ir_Tm (ir_k10 13 rfl) rfl), (ir_Tm (ir_k10 14 rfl) rfl), (ir_Tm (ir_k10 15 rfl) rfl), (ir_Tm (ir_k1 17 rfl) rfl), ⟨0, rfl, ⟨by decide, by decide, by decide +kernel⟩⟩, Or.inl ⟨(RX12, TX12, 50), rfl, rfl⟩⟩
theorem ir_m_347 : ir_mP (13, 208, 2, 339, 4, 99) := ⟨(ir_Tm (ir_k6 2 rfl) rfl), (ir_Tm (ir_k6 3 rfl) rfl), (ir_Tm (ir_k1 0 rfl) rfl), ⟨by decide, by decide, by decide +kernel⟩⟩
theorem ir_m_348 : ir_mP (13, 210, 0, 270, 3, 12) := ⟨(ir_Tm (ir_k10 17 rfl) rfl), (ir_Tm (ir_k10 18 rfl) rfl), (ir_Tm (ir_k10 19 rfl) rfl), (ir_Tm (ir_k1 17 rfl) rfl), ⟨2, rfl, ⟨by decide, by decide, by decide +kernel⟩⟩, Or.inl ⟨(RX12, TX12, 50), rfl, rfl⟩⟩
theorem ir_m_349 : ir_mP (13, 211, 0, 116, 1, 11) := ⟨(ir_Tm (ir_k3 199 rfl) rfl), (ir_Tm (ir_k3 200 rfl) rfl), (ir_Tm (ir_k3 201 rfl) rfl), (ir_Tm (ir_k1 1 rfl) rfl), ⟨0, rfl, ⟨by decide, by decide, by decide +kernel⟩⟩, Or.inl ⟨(RX11, TX11, 20), rfl, rfl⟩⟩
theorem ir_m_350 : ir_mP (13, 214, 0, 271, 1, 12) := ⟨(ir_Tm (ir_k10 33 rfl) rfl), (ir_Tm (ir_k10 34 rfl) rfl), (ir_Tm (ir_k10 35 rfl) rfl), (ir_Tm (ir_k1 17 rfl) rfl), ⟨0, rfl, ⟨by decide, by decide, by decide +kernel⟩⟩, Or.inl ⟨(RX12, TX12, 50), rfl, rfl⟩⟩
theorem ir_m_351 : ir_mP (13, 215, 2, 340, 3, 99) := ⟨(ir_Tm (ir_k6 37 rfl) rfl), (ir_Tm (ir_k6 38 rfl) rfl), (ir_Tm (ir_k1 0 rfl) rfl), ⟨by decide, by decide, by decide +kernel⟩⟩
theorem ir_m_352 : ir_mP (13, 217, 0, 272, 2, 12) := ⟨(ir_Tm (ir_k10 37 rfl) rfl), (ir_Tm (ir_k10 38 rfl) rfl), (ir_Tm (ir_k10 39 rfl) rfl), (ir_Tm (ir_k1 17 rfl) rfl), ⟨1, rfl, ⟨by decide, by decide, by decide +kernel⟩⟩, Or.inl ⟨(RX12, TX12, 50), rfl, rfl⟩⟩
theorem ir_m_353 : ir_mP (13, 218, 2, 341, 4, 99) := ⟨(ir_Tm (ir_k6 49 rfl) rfl), (ir_Tm (ir_k6 50 rfl) rfl), (ir_Tm (ir_k1 0 rfl) rfl), ⟨by decide, by decide, by decide +kernel⟩⟩
theorem ir_m_354 : ir_mP (13, 220, 0, 275, 3, 12) := ⟨(ir_Tm (ir_k10 42 rfl) rfl), (ir_Tm (ir_k10 43 rfl) rfl), (ir_Tm (ir_k10 44 rfl) rfl), (ir_Tm (ir_k1 17 rfl) rfl), ⟨2, rfl, ⟨by decide, by decide, by decide +kernel⟩⟩, Or.inl ⟨(RX12, TX12, 50), rfl, rfl⟩⟩
theorem ir_m_355 : ir_mP (13, 221, 2, 342, 3, 99) := ⟨(ir_Tm (ir_k6 69 rfl) rfl), (ir_Tm (ir_k6 70 rfl) rfl), (ir_Tm (ir_k1 0 rfl) rfl), ⟨by decide, by decide, by decide +kernel⟩⟩
theorem ir_m_356 : ir_mP (13, 223, 0, 276, 2, 12) := ⟨(ir_Tm (ir_k10 66 rfl) rfl), (ir_Tm (ir_k10 67 rfl) rfl), (ir_Tm (ir_k10 68 rfl) rfl), (ir_Tm (ir_k1 17 rfl) rfl), ⟨1, rfl, ⟨by decide, by decide, by decide +kernel⟩⟩, Or.inl ⟨(RX12, TX12, 50), rfl, rfl⟩⟩
theorem ir_m_357 : ir_mP (13, 224, 2, 343, 4, 99) := ⟨(ir_Tm (ir_k6 76 rfl) rfl), (ir_Tm (ir_k6 77 rfl) rfl), (ir_Tm (ir_k1 0 rfl) rfl), ⟨by decide, by decide, by decide +kernel⟩⟩
theorem ir_m_358 : ir_mP (13, 226, 0, 278, 3, 12) := ⟨(ir_Tm (ir_k10 70 rfl) rfl), (ir_Tm (ir_k10 71 rfl) rfl), (ir_Tm (ir_k10 72 rfl) rfl), (ir_Tm (ir_k1 17 rfl) rfl), ⟨2, rfl, ⟨by decide, by decide, by decide +kernel⟩⟩, Or.inl ⟨(RX12, TX12, 50), rfl, rfl⟩⟩
theorem ir_m_359 : ir_mP (13, 227, 2, 344, 3, 99) := ⟨(ir_Tm (ir_k6 94 rfl) rfl), (ir_Tm (ir_k6 95 rfl) rfl), (ir_Tm (ir_k1 0 rfl) rfl), ⟨by decide, by decide, by decide +kernel⟩⟩
theorem ir_m_360 : ir_mP (13, 229, 0, 283, 2, 12) := ⟨(ir_Tm (ir_k10 80 rfl) rfl), (ir_Tm (ir_k10 81 rfl) rfl), (ir_Tm (ir_k10 82 rfl) rfl), (ir_Tm (ir_k1 17 rfl) rfl), ⟨1, rfl, ⟨by decide, by decide, by decide +kernel⟩⟩, Or.inl ⟨(RX12, TX12, 50), rfl, rfl⟩⟩
theorem ir_m_361 : ir_mP (13, 230, 0, 122, 2, 11) := ⟨(ir_Tm (ir_k3 203 rfl) rfl), (ir_Tm (ir_k3 204 rfl) rfl), (ir_Tm (ir_k3 205 rfl) rfl), (ir_Tm (ir_k1 1 rfl) rfl), ⟨1, rfl, ⟨by decide, by decide, by decide +kernel⟩⟩, Or.inl ⟨(RX11, TX11, 20), rfl, rfl⟩⟩
theorem ir_m_362 : ir_mP (13, 233, 0, 284, 2, 12) := ⟨(ir_Tm (ir_k10 104 rfl) rfl), (ir_Tm (ir_k10 105 rfl) rfl), (ir_Tm (ir_k10 106 rfl) rfl), (ir_Tm (ir_k1 17 rfl) rfl), ⟨1, rfl, ⟨by decide, by decide, by decide +kernel⟩⟩, Or.inl ⟨(RX12, TX12, 50), rfl, rfl⟩⟩
theorem ir_m_363 : ir_mP (13, 234, 2, 345, 2, 99) := ⟨(ir_Tm (ir_k6 106 rfl) rfl), (ir_Tm (ir_k6 107 rfl) rfl), (ir_Tm (ir_k1 0 rfl) rfl), ⟨by decide, by decide, by decide +kernel⟩⟩
theorem ir_m_364 : ir_mP (13, 237, 0, 285, 1, 12) := ⟨(ir_Tm (ir_k10 108 rfl) rfl), (ir_Tm (ir_k10 109 rfl) rfl), (ir_Tm (ir_k10 110 rfl) rfl), (ir_Tm (ir_k1 17 rfl) rfl), ⟨0, rfl, ⟨by decide, by decide, by decide +kernel⟩⟩, Or.inl ⟨(RX12, TX12, 50), rfl, rfl⟩⟩
theorem ir_m_365 : ir_mP (13, 238, 2, 346, 4, 99) := ⟨(ir_Tm (ir_k6 114 rfl) rfl), (ir_Tm (ir_k6 115 rfl) rfl), (ir_Tm (ir_k1 0 rfl) rfl), ⟨by decide, by decide, by decide +kernel⟩⟩
theorem ir_m_366 : ir_mP (13, 241, 0, 288, 3, 12) := ⟨(ir_Tm (ir_k10 112 rfl) rfl), (ir_Tm (ir_k10 113 rfl) rfl), (ir_Tm (ir_k10 114 rfl) rfl), (ir_Tm (ir_k1 17 rfl) rfl), ⟨2, rfl, ⟨by decide, by decide, by decide +kernel⟩⟩, Or.inl ⟨(RX12, TX12, 50), rfl, rfl⟩⟩
theorem ir_m_367 : ir_mP (13, 242, 2, 347, 3, 99) := ⟨(ir_Tm (ir_k6 137 rfl) rfl), (ir_Tm (ir_k6 138 rfl) rfl), (ir_Tm (ir_k1 0 rfl) rfl), ⟨by decide, by decide, by decide +kernel⟩⟩
theorem ir_m_368 : ir_mP (13, 244, 0, 290, 2, 12) := ⟨(ir_Tm (ir_k10 124 rfl) rfl), (ir_Tm (ir_k10 125 rfl) rfl), (ir_Tm (ir_k10 126 rfl) rfl), (ir_Tm (ir_k1 17 rfl) rfl), ⟨1, rfl, ⟨by decide, by decide, by decide +kernel⟩⟩, Or.inl ⟨(RX12, TX12, 50), rfl, rfl⟩⟩
theorem ir_m_369 : ir_mP (13, 245, 2, 348, 5, 99) := ⟨(ir_Tm (ir_k6 161 rfl) rfl), (ir_Tm (ir_k6 162 rfl) rfl), (ir_Tm (ir_k1 0 rfl) rfl), ⟨by decide, by decide, by decide +kernel⟩⟩
theorem ir_m_370 : ir_mP (13, 248, 0, 292, 4, 12) := ⟨(ir_Tm (ir_k10 133 rfl) rfl), (ir_Tm (ir_k10 134 rfl) rfl), (ir_Tm (ir_k10 135 rfl) rfl), (ir_Tm (ir_k1 17 rfl) rfl), ⟨3, rfl, ⟨by decide, by decide, by decide +kernel⟩⟩, Or.inl ⟨(RX12, TX12, 50), rfl, rfl⟩⟩
theorem ir_m_371 : ir_mP (13, 249, 2, 349, 4, 99) := ⟨(ir_Tm (ir_k6 201 rfl) rfl), (ir_Tm (ir_k6 202 rfl) rfl), (ir_Tm (ir_k1 0 rfl) rfl), ⟨by decide, by decide, by decide +kernel⟩⟩
theorem ir_m_372 : ir_mP (13, 251, 0, 293, 3, 12) := ⟨(ir_Tm (ir_k10 144 rfl) rfl), (ir_Tm (ir_k10 145 rfl) rfl), (ir_Tm (ir_k10 146 rfl) rfl), (ir_Tm (ir_k1 17 rfl) rfl), ⟨2, rfl, ⟨by decide, by decide, by decide +kernel⟩⟩, Or.inl ⟨(RX12, TX12, 50), rfl, rfl⟩⟩
theorem ir_m_373 : ir_mP (13, 252, 2, 350, 4, 99) := ⟨(ir_Tm (ir_k6 225 rfl) rfl), (ir_Tm (ir_k6 226 rfl) rfl), (ir_Tm (ir_k1 0 rfl) rfl), ⟨by decide, by decide, by decide +kernel⟩⟩
theorem ir_m_374 : ir_mP (13, 254, 0, 296, 3, 12) := ⟨(ir_Tm (ir_k10 148 rfl) rfl), (ir_Tm (ir_k10 149 rfl) rfl), (ir_Tm (ir_k10 150 rfl) rfl), (ir_Tm (ir_k1 17 rfl) rfl), ⟨2, rfl, ⟨by decide, by decide, by decide +kernel⟩⟩, Or.inl ⟨(RX12, TX12, 50), rfl, rfl⟩⟩
theorem ir_m_375 : ir_mP (13, 255, 2, 351, 4, 99) := ⟨(ir_Tm (ir_k6 237 rfl) rfl), (ir_Tm (ir_k6 238 rfl) rfl), (ir_Tm (ir_k1 0 rfl) rfl), ⟨by decide, by decide, by decide +kernel⟩⟩
theorem ir_m_376 : ir_mP (13, 257, 0, 298, 3, 12) := ⟨(ir_Tm (ir_k10 160 rfl) rfl), (ir_Tm (ir_k10 161 rfl) rfl), (ir_Tm (ir_k10 162 rfl) rfl), (ir_Tm (ir_k1 17 rfl) rfl), ⟨2, rfl, ⟨by decide, by decide, by decide +kernel⟩⟩, Or.inl ⟨(RX12, TX12, 50), rfl, rfl⟩⟩
theorem ir_m_377 : ir_mP (13, 258, 2, 352, 3, 99) := ⟨(ir_Tm (ir_k7 8 rfl) rfl), (ir_Tm (ir_k7 9 rfl) rfl), (ir_Tm (ir_k1 0 rfl) rfl), ⟨by decide, by decide, by decide +kernel⟩⟩
theorem ir_m_378 : ir_mP (13, 260, 0, 299, 2, 12) := ⟨(ir_Tm (ir_k10 168 rfl) rfl), (ir_Tm (ir_k10 169 rfl) rfl), (ir_Tm (ir_k10 170 rfl) rfl), (ir_Tm (ir_k1 17 rfl) rfl), ⟨1, rfl, ⟨by decide, by decide, by decide +kernel⟩⟩, Or.inl ⟨(RX12, TX12, 50), rfl, rfl⟩⟩
theorem ir_m_379 : ir_mP (13, 261, 2, 353, 3, 99) := ⟨(ir_Tm (ir_k7 15 rfl) rfl), (ir_Tm (ir_k7 16 rfl) rfl), (ir_Tm (ir_k1 0 rfl) rfl), ⟨by decide, by decide, by decide +kernel⟩⟩
theorem ir_m_380 : ir_mP (13, 263, 0, 303, 2, 12) := ⟨(ir_Tm (ir_k10 172 rfl) rfl), (ir_Tm (ir_k10 173 rfl) rfl), (ir_Tm (ir_k10 174 rfl) rfl), (ir_Tm (ir_k1 17 rfl) rfl), ⟨1, rfl, ⟨by decide, by decide, by decide +kernel⟩⟩, Or.inl ⟨(RX12, TX12, 50), rfl, rfl⟩⟩
theorem ir_m_381 : ir_mP (13, 264, 2, 354, 3, 99) := ⟨(ir_Tm (ir_k7 41 rfl) rfl), (ir_Tm (ir_k7 42 rfl) rfl), (ir_Tm (ir_k1 0 rfl) rfl), ⟨by decide, by decide, by decide +kernel⟩⟩
theorem ir_m_382 : ir_mP (13, 266, 0, 305, 2, 12) := ⟨(ir_Tm (ir_k10 188 rfl) rfl), (ir_Tm (ir_k10 189 rfl) rfl), (ir_Tm (ir_k10 190 rfl) rfl), (ir_Tm (ir_k1 17 rfl) rfl), ⟨1, rfl, ⟨by decide, by decide, by decide +kernel⟩⟩, Or.inl ⟨(RX12, TX12, 50), rfl, rfl⟩⟩
theorem ir_m_383 : ir_mP (13, 267, 2, 355, 3, 99) := ⟨(ir_Tm (ir_k7 55 rfl) rfl), (ir_Tm (ir_k7 56 rfl) rfl), (ir_Tm (ir_k1 0 rfl) rfl), ⟨by decide, by decide, by decide +kernel⟩⟩
theorem ir_m_384 : ir_mP (13, 269, 0, 307, 2, 12) := ⟨(ir_Tm (ir_k10 195 rfl) rfl), (ir_Tm (ir_k10 196 rfl) rfl), (ir_Tm (ir_k10 197 rfl) rfl), (ir_Tm (ir_k1 17 rfl) rfl), ⟨1, rfl, ⟨by decide, by decide, by decide +kernel⟩⟩, Or.inl ⟨(RX12, TX12, 50), rfl, rfl⟩⟩
theorem ir_m_385 : ir_mP (13, 270, 0, 134, 1, 11) := ⟨(ir_Tm (ir_k3 239 rfl) rfl), (ir_Tm (ir_k4 0 rfl) rfl), (ir_Tm (ir_k4 1 rfl) rfl), (ir_Tm (ir_k1 1 rfl) rfl), ⟨0, rfl, ⟨by decide, by decide, by decide +kernel⟩⟩, Or.inl ⟨(RX11, TX11, 20), rfl, rfl⟩⟩
theorem ir_m_386 : ir_mP (13, 273, 0, 308, 1, 12) := ⟨(ir_Tm (ir_k10 203 rfl) rfl), (ir_Tm (ir_k10 204 rfl) rfl), (ir_Tm (ir_k10 205 rfl) rfl), (ir_Tm (ir_k1 17 rfl) rfl), ⟨0, rfl, ⟨by decide, by decide, by decide +kernel⟩⟩, Or.inl ⟨(RX12, TX12, 50), rfl, rfl⟩⟩
theorem ir_m_387 : ir_mP (13, 274, 2, 356, 3, 99) := ⟨(ir_Tm (ir_k7 62 rfl) rfl), (ir_Tm (ir_k7 63 rfl) rfl), (ir_Tm (ir_k1 0 rfl) rfl), ⟨by decide, by decide, by decide +kernel⟩⟩
theorem ir_m_388 : ir_mP (13, 276, 0, 310, 2, 12) := ⟨(ir_Tm (ir_k10 207 rfl) rfl), (ir_Tm (ir_k10 208 rfl) rfl), (ir_Tm (ir_k10 209 rfl) rfl), (ir_Tm (ir_k1 17 rfl) rfl), ⟨1, rfl, ⟨by decide, by decide, by decide +kernel⟩⟩, Or.inl ⟨(RX12, TX12, 50), rfl, rfl⟩⟩
theorem ir_m_389 : ir_mP (13, 277, 0, 136, 1, 11) := ⟨(ir_Tm (ir_k4 18 rfl) rfl), (ir_Tm (ir_k4 19 rfl) rfl), (ir_Tm (ir_k4 20 rfl) rfl), (ir_Tm (ir_k1 1 rfl) rfl), ⟨0, rfl, ⟨by decide, by decide, by decide +kernel⟩⟩, Or.inl ⟨(RX11, TX11, 20), rfl, rfl⟩⟩
theorem ir_m_390 : ir_mP (13, 280, 0, 311, 1, 12) := ⟨(ir_Tm (ir_k10 215 rfl) rfl), (ir_Tm (ir_k10 216 rfl) rfl), (ir_Tm (ir_k10 217 rfl) rfl), (ir_Tm (ir_k1 17 rfl) rfl), ⟨0, rfl, ⟨by decide, by decide, by decide +kernel⟩⟩, Or.inl ⟨(RX12, TX12, 50), rfl, rfl⟩⟩
theorem ir_m_391 : ir_mP (13, 281, 2, 357, 3, 99) := ⟨(ir_Tm (ir_k7 70 rfl) rfl), (ir_Tm (ir_k7 71 rfl) rfl), (ir_Tm (ir_k1 0 rfl) rfl), ⟨by decide, by decide, by decide +kernel⟩⟩
theorem ir_m_392 : ir_mP (13, 283, 0, 315, 2, 12) := ⟨(ir_Tm (ir_k10 219 rfl) rfl), (ir_Tm (ir_k10 220 rfl) rfl), (ir_Tm (ir_k10 221 rfl) rfl), (ir_Tm (ir_k1 17 rfl) rfl), ⟨1, rfl, ⟨by decide, by decide, by decide +kernel⟩⟩, Or.inl ⟨(RX12, TX12, 50), rfl, rfl⟩⟩
theorem ir_m_393 : ir_mP (13, 284, 2, 358, 4, 99) := ⟨(ir_Tm (ir_k7 125 rfl) rfl), (ir_Tm (ir_k7 126 rfl) rfl), (ir_Tm (ir_k1 0 rfl) rfl), ⟨by decide, by decide, by decide +kernel⟩⟩
theorem ir_m_394 : ir_mP (13, 286, 0, 316, 3, 12) := ⟨(ir_Tm (ir_k10 236 rfl) rfl), (ir_Tm (ir_k10 237 rfl) rfl), (ir_Tm (ir_k10 238 rfl) rfl), (ir_Tm (ir_k1 17 rfl) rfl), ⟨2, rfl, ⟨by decide, by decide, by decide +kernel⟩⟩, Or.inl ⟨(RX12, TX12, 50), rfl, rfl⟩⟩
theorem ir_m_395 : ir_mP (13, 287, 2, 359, 4, 99) := ⟨(ir_Tm (ir_k7 137 rfl) rfl), (ir_Tm (ir_k7 138 rfl) rfl), (ir_Tm (ir_k1 0 rfl) rfl), ⟨by decide, by decide, by decide +kernel⟩⟩
theorem ir_m_396 : ir_mP (13, 290, 0, 318, 4, 12) := ⟨(ir_Tm (ir_k11 0 rfl) rfl), (ir_Tm (ir_k11 1 rfl) rfl), (ir_Tm (ir_k11 2 rfl) rfl), (ir_Tm (ir_k1 17 rfl) rfl), ⟨3, rfl, ⟨by decide, by decide, by decide +kernel⟩⟩, Or.inl ⟨(RX12, TX12, 50), rfl, rfl⟩⟩
theorem ir_m_397 : ir_mP (13, 293, 2, 360, 5, 99) := ⟨(ir_Tm (ir_k7 150 rfl) rfl), (ir_Tm (ir_k7 151 rfl) rfl), (ir_Tm (ir_k1 0 rfl) rfl), ⟨by decide, by decide, by decide +kernel⟩⟩
theorem ir_m_398 : ir_mP (13, 296, 0, 320, 4, 12) := ⟨(ir_Tm (ir_k11 4 rfl) rfl), (ir_Tm (ir_k11 5 rfl) rfl), (ir_Tm (ir_k11 6 rfl) rfl), (ir_Tm (ir_k1 17 rfl) rfl), ⟨3, rfl, ⟨by decide, by decide, by decide +kernel⟩⟩, Or.inl ⟨(RX12, TX12, 50), rfl, rfl⟩⟩
theorem ir_m_399 : ir_mP (13, 297, 2, 361, 3, 99) := ⟨(ir_Tm (ir_k7 182 rfl) rfl), (ir_Tm (ir_k7 183 rfl) rfl), (ir_Tm (ir_k1 0 rfl) rfl), ⟨by decide, by decide, by decide +kernel⟩⟩
theorem ir_m_400 : ir_mP (13, 299, 0, 321, 2, 12) := ⟨(ir_Tm (ir_k11 12 rfl) rfl), (ir_Tm (ir_k11 13 rfl) rfl), (ir_Tm (ir_k11 14 rfl) rfl), (ir_Tm (ir_k1 17 rfl) rfl), ⟨1, rfl, ⟨by decide, by decide, by decide +kernel⟩⟩, Or.inl ⟨(RX12, TX12, 50), rfl, rfl⟩⟩
theorem ir_m_401 : ir_mP (13, 300, 2, 362, 2, 99) := ⟨(ir_Tm (ir_k7 190 rfl) rfl), (ir_Tm (ir_k7 191 rfl) rfl), (ir_Tm (ir_k1 0 rfl) rfl), ⟨by decide, by decide, by decide +kernel⟩⟩
theorem ir_m_402 : ir_mP (13, 303, 0, 322, 2, 12) := ⟨(ir_Tm (ir_k11 16 rfl) rfl), (ir_Tm (ir_k11 17 rfl) rfl), (ir_Tm (ir_k11 18 rfl) rfl), (ir_Tm (ir_k1 17 rfl) rfl), ⟨1, rfl, ⟨by decide, by decide, by decide +kernel⟩⟩, Or.inl ⟨(RX12, TX12, 50), rfl, rfl⟩⟩
theorem ir_m_403 : ir_mP (13, 304, 2, 363, 2, 99) := ⟨(ir_Tm (ir_k7 205 rfl) rfl), (ir_Tm (ir_k7 206 rfl) rfl), (ir_Tm (ir_k1 0 rfl) rfl), ⟨by decide, by decide, by decide +kernel⟩⟩
theorem ir_m_404 : ir_mP (13, 306, 0, 323, 2, 12) := ⟨(ir_Tm (ir_k11 20 rfl) rfl), (ir_Tm (ir_k11 21 rfl) rfl), (ir_Tm (ir_k11 22 rfl) rfl), (ir_Tm (ir_k1 17 rfl) rfl), ⟨1, rfl, ⟨by decide, by decide, by decide +kernel⟩⟩, Or.inl ⟨(RX12, TX12, 50), rfl, rfl⟩⟩
theorem ir_m_405 : ir_mP (13, 307, 0, 144, 2, 11) := ⟨(ir_Tm (ir_k4 28 rfl) rfl), (ir_Tm (ir_k4 29 rfl) rfl), (ir_Tm (ir_k4 30 rfl) rfl), (ir_Tm (ir_k1 1 rfl) rfl), ⟨1, rfl, ⟨by decide, by decide, by decide +kernel⟩⟩, Or.inl ⟨(RX11, TX11, 20), rfl, rfl⟩⟩
theorem ir_m_406 : ir_mP (13, 310, 0, 325, 2, 12) := ⟨(ir_Tm (ir_k11 24 rfl) rfl), (ir_Tm (ir_k11 25 rfl) rfl), (ir_Tm (ir_k11 26 rfl) rfl), (ir_Tm (ir_k1 17 rfl) rfl), ⟨1, rfl, ⟨by decide, by decide, by decide +kernel⟩⟩, Or.inl ⟨(RX12, TX12, 50), rfl, rfl⟩⟩
theorem ir_m_407 : ir_mP (14, 299, 2, 376, 1, 99) := ⟨(ir_Tm (ir_k2 6 rfl) rfl), (ir_Tm (ir_k2 7 rfl) rfl), (ir_Tm (ir_k1 8 rfl) rfl), ⟨by decide, by decide, by decide +kernel⟩⟩
theorem ir_m_408 : ir_mP (14, 335, 0, 371, 1, 50) := ⟨(ir_Tm (ir_k4 159 rfl) rfl), (ir_Tm (ir_k4 160 rfl) rfl), (ir_Tm (ir_k4 161 rfl) rfl), (ir_Tm (ir_k1 7 rfl) rfl), ⟨0, rfl, ⟨by decide, by decide, by decide +kernel⟩⟩, Or.inr ⟨rfl, rfl⟩⟩
theorem ir_m_409 : ir_mP (14, 492, 0, 372, 1, 50) := ⟨(ir_Tm (ir_k2 0 rfl) rfl), (ir_Tm (ir_k2 1 rfl) rfl), (ir_Tm (ir_k2 2 rfl) rfl), (ir_Tm (ir_k1 7 rfl) rfl), ⟨0, rfl, ⟨by decide, by decide, by decide +kernel⟩⟩, Or.inr ⟨rfl, rfl⟩⟩
theorem ir_m_410 : ir_mP (14, 495, 2, 374, 2, 99) := ⟨(ir_Tm (ir_k8 184 rfl) rfl), (ir_Tm (ir_k8 185 rfl) rfl), (ir_Tm (ir_k1 8 rfl) rfl), ⟨by decide, by decide, by decide +kernel⟩⟩
theorem ir_m_411 : ir_mP (14, 505, 0, 366, 1, 50) := ⟨(ir_Tm (ir_k4 155 rfl) rfl), (ir_Tm (ir_k4 156 rfl) rfl), (ir_Tm (ir_k4 157 rfl) rfl), (ir_Tm (ir_k1 7 rfl) rfl), ⟨0, rfl, ⟨by decide, by decide, by decide +kernel⟩⟩, Or.inr ⟨rfl, rfl⟩⟩
theorem ir_m_412 : ir_mP (14, 633, 0, 369, 3, 50) := ⟨(ir_Tm (ir_k4 151 rfl) rfl), (ir_Tm (ir_k4 152 rfl) rfl), (ir_Tm (ir_k4 153 rfl) rfl), (ir_Tm (ir_k1 7 rfl) rfl), ⟨2, rfl, ⟨by decide, by decide, by decide +kernel⟩⟩, Or.inr ⟨rfl, rfl⟩⟩
theorem ir_m_413 : ir_mP (14, 637, 2, 377, 4, 99) := ⟨(ir_Tm (ir_k4 163 rfl) rfl), (ir_Tm (ir_k4 164 rfl) rfl), (ir_Tm (ir_k1 8 rfl) rfl), ⟨by decide, by decide, by decide +kernel⟩⟩
theorem ir_m_414 : ir_mP (14, 1059, 2, 382, 3, 99) := ⟨(ir_Tm (ir_k8 190 rfl) rfl), (ir_Tm (ir_k8 191 rfl) rfl), (ir_Tm (ir_k1 10 rfl) rfl), ⟨by decide, by decide, by decide +kernel⟩⟩
theorem ir_m_415 : ir_mP (15, 9, 2, 373, 2, 50) := ⟨(ir_Tm (ir_k8 187 rfl) rfl), (ir_Tm (ir_k8 188 rfl) rfl), (ir_Tm (ir_k1 7 rfl) rfl), ⟨by decide, by decide, by decide +kernel⟩⟩
theorem ir_m_416 : ir_mP (15, 13, 2, 379, 5, 99) := ⟨(ir_Tm (ir_k2 9 rfl) rfl), (ir_Tm (ir_k2 10 rfl) rfl), (ir_Tm (ir_k1 8 rfl) rfl), ⟨by decide, by decide, by decide +kernel⟩⟩
theorem ir_m_417 : ir_mP (15, 88, 2, 375, 1, 99) := ⟨(ir_Tm (ir_k4 166 rfl) rfl), (ir_Tm (ir_k4 167 rfl) rfl), (ir_Tm (ir_k1 8 rfl) rfl), ⟨by decide, by decide, by decide +kernel⟩⟩
theorem ir_m_418 : ir_mP (15, 95, 2, 378, 4, 99) := ⟨(ir_Tm (ir_k4 171 rfl) rfl), (ir_Tm (ir_k4 172 rfl) rfl), (ir_Tm (ir_k1 8 rfl) rfl), ⟨by decide, by decide, by decide +kernel⟩⟩
def ir_mc0 : List (Nat × Nat × Nat × Nat × Nat × Nat) := [(0, 40, 0, 3, 6, 0), (0, 44, 0, 88, 3, 9), (0, 69, 0, 21, 2, 1), (0, 83, 2, 8, 2, 0), (0, 95, 0, 9, 3, 0), (0, 99, 2, 1, 4, 0), (0, 103, 0, 4, 3, 0), (0, 109, 0, 10, 4, 0), (0, 113, 0, 13, 4, 0), (0, 117, 0, 90, 3, 9), (0, 120, 0, 14, 3, 0), (0, 127, 0, 82, 2, 8)]
theorem ir_md0 : ∀ e ∈ ir_mc0, ir_mP e := List.forall_mem_cons.mpr ⟨ir_m_0, List.forall_mem_cons.mpr ⟨ir_m_1, List.forall_mem_cons.mpr ⟨ir_m_2, List.forall_mem_cons.mpr ⟨ir_m_3, List.forall_mem_cons.mpr ⟨ir_m_4, List.forall_mem_cons.mpr ⟨ir_m_5, List.forall_mem_cons.mpr ⟨ir_m_6, List.forall_mem_cons.mpr ⟨ir_m_7, List.forall_mem_cons.mpr ⟨ir_m_8, List.forall_mem_cons.mpr ⟨ir_m_9, List.forall_mem_cons.mpr ⟨ir_m_10, List.forall_mem_cons.mpr ⟨ir_m_11, fun _ h => absurd h List.not_mem_nil⟩⟩⟩⟩⟩⟩⟩⟩⟩⟩⟩⟩
def ir_mo0 : List (Nat × Nat × Nat × Nat × Nat × Nat) := ir_mc0
theorem ir_mq0 : ∀ e ∈ ir_mo0, ir_mP e := ir_md0
def ir_mc1 : List (Nat × Nat × Nat × Nat × Nat × Nat) := [(1, 28, 2, 22, 3, 1)]
theorem ir_md1 : ∀ e ∈ ir_mc1, ir_mP e := List.forall_mem_cons.mpr ⟨ir_m_12, fun _ h => absurd h List.not_mem_nil⟩
def ir_mo1 : List (Nat × Nat × Nat × Nat × Nat × Nat) := ir_mc1
theorem ir_mq1 : ∀ e ∈ ir_mo1, ir_mP e := ir_md1
def ir_mc2 : List (Nat × Nat × Nat × Nat × Nat × Nat) := [(2, 47, 0, 25, 1, 2), (2, 50, 0, 9, 3, 0), (2, 56, 0, 80, 1, 8), (2, 62, 0, 26, 4, 2), (2, 78, 0, 3, 6, 0), (2, 82, 0, 28, 2, 2), (2, 91, 0, 27, 2, 2), (2, 98, 0, 11, 3, 0), (2, 108, 0, 88, 3, 9)]
theorem ir_md2 : ∀ e ∈ ir_mc2, ir_mP e := List.forall_mem_cons.mpr ⟨ir_m_13, List.forall_mem_cons.mpr ⟨ir_m_14, List.forall_mem_cons.mpr ⟨ir_m_15, List.forall_mem_cons.mpr ⟨ir_m_16, List.forall_mem_cons.mpr ⟨ir_m_17, List.forall_mem_cons.mpr ⟨ir_m_18, List.forall_mem_cons.mpr ⟨ir_m_19, List.forall_mem_cons.mpr ⟨ir_m_20, List.forall_mem_cons.mpr ⟨ir_m_21, fun _ h => absurd h List.not_mem_nil⟩⟩⟩⟩⟩⟩⟩⟩⟩
def ir_mo2 : List (Nat × Nat × Nat × Nat × Nat × Nat) := ir_mc2
theorem ir_mq2 : ∀ e ∈ ir_mo2, ir_mP e := ir_md2
def ir_mc3 : List (Nat × Nat × Nat × Nat × Nat × Nat) := [(3, 49, 0, 79, 2, 8), (3, 58, 0, 31, 2, 3), (3, 62, 0, 32, 1, 3), (3, 65, 0, 7, 2, 0), (3, 73, 0, 6, 3, 0), (3, 83, 0, 10, 4, 0), (3, 87, 0, 13, 4, 0)]
theorem ir_md3 : ∀ e ∈ ir_mc3, ir_mP e := List.forall_mem_cons.mpr ⟨ir_m_22, List.forall_mem_cons.mpr ⟨ir_m_23, List.forall_mem_cons.mpr ⟨ir_m_24, List.forall_mem_cons.mpr ⟨ir_m_25, List.forall_mem_cons.mpr ⟨ir_m_26, List.forall_mem_cons.mpr ⟨ir_m_27, List.forall_mem_cons.mpr ⟨ir_m_28, fun _ h => absurd h List.not_mem_nil⟩⟩⟩⟩⟩⟩⟩
def ir_mo3 : List (Nat × Nat × Nat × Nat × Nat × Nat) := ir_mc3
theorem ir_mq3 : ∀ e ∈ ir_mo3, ir_mP e := ir_md3
def ir_mc4 : List (Nat × Nat × Nat × Nat × Nat × Nat) := [(4, 15, 1, 85, 1, 9), (4, 22, 1, 76, 1, 8), (4, 29, 0, 370, 1, 50), (4, 65, 0, 86, 1, 9), (4, 68, 0, 77, 1, 8), (4, 69, 0, 35, 1, 4), (4, 72, 0, 41, 1, 4), (4, 79, 0, 42, 1, 4), (4, 82, 0, 39, 2, 4), (4, 92, 0, 36, 1, 4), (4, 95, 0, 37, 1, 4), (4, 100, 0, 368, 2, 50), (4, 107, 0, 38, 2, 4), (4, 110, 0, 40, 3, 4), (4, 117, 0, 43, 1, 4), (4, 120, 0, 45, 1, 4)]
theorem ir_md4 : ∀ e ∈ ir_mc4, ir_mP e := List.forall_mem_cons.mpr ⟨ir_m_29, List.forall_mem_cons.mpr ⟨ir_m_30, List.forall_mem_cons.mpr ⟨ir_m_31, List.forall_mem_cons.mpr ⟨ir_m_32, List.forall_mem_cons.mpr ⟨ir_m_33, List.forall_mem_cons.mpr ⟨ir_m_34, List.forall_mem_cons.mpr ⟨ir_m_35, List.forall_mem_cons.mpr ⟨ir_m_36, List.forall_mem_cons.mpr ⟨ir_m_37, List.forall_mem_cons.mpr ⟨ir_m_38, List.forall_mem_cons.mpr ⟨ir_m_39, List.forall_mem_cons.mpr ⟨ir_m_40, List.forall_mem_cons.mpr ⟨ir_m_41, List.forall_mem_cons.mpr ⟨ir_m_42, List.forall_mem_cons.mpr ⟨ir_m_43, List.forall_mem_cons.mpr ⟨ir_m_44, fun _ h => absurd h List.not_mem_nil⟩⟩⟩⟩⟩⟩⟩⟩⟩⟩⟩⟩⟩⟩⟩⟩
def ir_mc5 : List (Nat × Nat × Nat × Nat × Nat × Nat) := [(4, 123, 0, 47, 1, 4), (4, 126, 0, 48, 1, 4), (4, 139, 0, 49, 1, 4), (4, 146, 0, 18, 1, 1), (4, 147, 0, 50, 2, 4), (4, 163, 0, 44, 1, 4), (4, 166, 0, 89, 4, 9), (4, 170, 0, 81, 2, 8), (4, 176, 0, 46, 2, 4), (4, 182, 0, 91, 4, 9), (4, 188, 0, 51, 2, 4), (4, 191, 0, 19, 2, 1), (4, 195, 0, 52, 2, 4), (4, 198, 0, 53, 2, 4), (4, 201, 0, 54, 2, 4), (4, 204, 0, 55, 2, 4)]
theorem ir_md5 : ∀ e ∈ ir_mc5, ir_mP e := List.forall_mem_cons.mpr ⟨ir_m_45, List.forall_mem_cons.mpr ⟨ir_m_46, List.forall_mem_cons.mpr ⟨ir_m_47, List.forall_mem_cons.mpr ⟨ir_m_48, List.forall_mem_cons.mpr ⟨ir_m_49, List.forall_mem_cons.mpr ⟨ir_m_50, List.forall_mem_cons.mpr ⟨ir_m_51, List.forall_mem_cons.mpr ⟨ir_m_52, List.forall_mem_cons.mpr ⟨ir_m_53, List.forall_mem_cons.mpr ⟨ir_m_54, List.forall_mem_cons.mpr ⟨ir_m_55, List.forall_mem_cons.mpr ⟨ir_m_56, List.forall_mem_cons.mpr ⟨ir_m_57, List.forall_mem_cons.mpr ⟨ir_m_58, List.forall_mem_cons.mpr ⟨ir_m_59, List.forall_mem_cons.mpr ⟨ir_m_60, fun _ h => absurd h List.not_mem_nil⟩⟩⟩⟩⟩⟩⟩⟩⟩⟩⟩⟩⟩⟩⟩⟩
def ir_mo4 : List (Nat × Nat × Nat × Nat × Nat × Nat) := ir_mc4 ++ (ir_mc5)
theorem ir_mq4 : ∀ e ∈ ir_mo4, ir_mP e := List.forall_mem_append.mpr ⟨ir_md4, ir_md5⟩
def ir_mc6 : List (Nat × Nat × Nat × Nat × Nat × Nat) := [(5, 11, 1, 85, 1, 9), (5, 20, 1, 76, 1, 8), (5, 29, 0, 87, 2, 9), (5, 33, 0, 78, 2, 8)]
theorem ir_md6 : ∀ e ∈ ir_mc6, ir_mP e := List.forall_mem_cons.mpr ⟨ir_m_61, List.forall_mem_cons.mpr ⟨ir_m_62, List.forall_mem_cons.mpr ⟨ir_m_63, List.forall_mem_cons.mpr ⟨ir_m_64, fun _ h => absurd h List.not_mem_nil⟩⟩⟩⟩
def ir_mo5 : List (Nat × Nat × Nat × Nat × Nat × Nat) := ir_mc6
theorem ir_mq5 : ∀ e ∈ ir_mo5, ir_mP e := ir_md6
def ir_mc7 : List (Nat × Nat × Nat × Nat × Nat × Nat) := [(6, 44, 0, 5, 3, 0), (6, 50, 0, 9, 3, 0), (6, 59, 0, 63, 2, 6), (6, 63, 0, 94, 2, 10), (6, 74, 0, 6, 3, 0), (6, 82, 0, 66, 1, 6), (6, 86, 0, 68, 2, 6), (6, 90, 0, 64, 1, 6), (6, 93, 0, 67, 2, 6), (6, 103, 2, 8, 2, 0), (6, 113, 2, 1, 4, 0), (6, 117, 0, 70, 3, 6), (6, 120, 2, 380, 2, 99), (6, 126, 0, 69, 3, 6)]
theorem ir_md7 : ∀ e ∈ ir_mc7, ir_mP e := List.forall_mem_cons.mpr ⟨ir_m_65, List.forall_mem_cons.mpr ⟨ir_m_66, List.forall_mem_cons.mpr ⟨ir_m_67, List.forall_mem_cons.mpr ⟨ir_m_68, List.forall_mem_cons.mpr ⟨ir_m_69, List.forall_mem_cons.mpr ⟨ir_m_70, List.forall_mem_cons.mpr ⟨ir_m_71, List.forall_mem_cons.mpr ⟨ir_m_72, List.forall_mem_cons.mpr ⟨ir_m_73, List.forall_mem_cons.mpr ⟨ir_m_74, List.forall_mem_cons.mpr ⟨ir_m_75, List.forall_mem_cons.mpr ⟨ir_m_76, List.forall_mem_cons.mpr ⟨ir_m_77, List.forall_mem_cons.mpr ⟨ir_m_78, fun _ h => absurd h List.not_mem_nil⟩⟩⟩⟩⟩⟩⟩⟩⟩⟩⟩⟩⟩⟩
def ir_mo6 : List (Nat × Nat × Nat × Nat × Nat × Nat) := ir_mc7
theorem ir_mq6 : ∀ e ∈ ir_mo6, ir_mP e := ir_md7
def ir_mc8 : List (Nat × Nat × Nat × Nat × Nat × Nat) := [(7, 29, 0, 4, 3, 0), (7, 47, 2, 381, 2, 99), (7, 53, 0, 74, 4, 7), (7, 68, 2, 1, 4, 0), (7, 75, 0, 88, 3, 9), (7, 78, 2, 365, 1, 99)]
theorem ir_md8 : ∀ e ∈ ir_mc8, ir_mP e := List.forall_mem_cons.mpr ⟨ir_m_79, List.forall_mem_cons.mpr ⟨ir_m_80, List.forall_mem_cons.mpr ⟨ir_m_81, List.forall_mem_cons.mpr ⟨ir_m_82, List.forall_mem_cons.mpr ⟨ir_m_83, List.forall_mem_cons.mpr ⟨ir_m_84, fun _ h => absurd h List.not_mem_nil⟩⟩⟩⟩⟩⟩
def ir_mo7 : List (Nat × Nat × Nat × Nat × Nat × Nat) := ir_mc8
theorem ir_mq7 : ∀ e ∈ ir_mo7, ir_mP e := ir_md8
def ir_mc9 : List (Nat × Nat × Nat × Nat × Nat × Nat) := [(8, 41, 2, 381, 2, 99), (8, 53, 0, 83, 3, 8)]
theorem ir_md9 : ∀ e ∈ ir_mc9, ir_mP e := List.forall_mem_cons.mpr ⟨ir_m_85, List.forall_mem_cons.mpr ⟨ir_m_86, fun _ h => absurd h List.not_mem_nil⟩⟩
def ir_mo8 : List (Nat × Nat × Nat × Nat × Nat × Nat) := ir_mc9
theorem ir_mq8 : ∀ e ∈ ir_mo8, ir_mP e := ir_md9
def ir_mc10 : List (Nat × Nat × Nat × Nat × Nat × Nat) := [(9, 24, 1, 17, 1, 1), (9, 54, 2, 381, 2, 99), (9, 60, 0, 18, 1, 1), (9, 69, 0, 20, 2, 1)]
theorem ir_md10 : ∀ e ∈ ir_mc10, ir_mP e := List.forall_mem_cons.mpr ⟨ir_m_87, List.forall_mem_cons.mpr ⟨ir_m_88, List.forall_mem_cons.mpr ⟨ir_m_89, List.forall_mem_cons.mpr ⟨ir_m_90, fun _ h => absurd h List.not_mem_nil⟩⟩⟩⟩
def ir_mo9 : List (Nat × Nat × Nat × Nat × Nat × Nat) := ir_mc10
theorem ir_mq9 : ∀ e ∈ ir_mo9, ir_mP e := ir_md10
def ir_mc11 : List (Nat × Nat × Nat × Nat × Nat × Nat) := [(10, 26, 2, 380, 2, 99), (10, 32, 0, 96, 2, 10)]
theorem ir_md11 : ∀ e ∈ ir_mc11, ir_mP e := List.forall_mem_cons.mpr ⟨ir_m_91, List.forall_mem_cons.mpr ⟨ir_m_92, fun _ h => absurd h List.not_mem_nil⟩⟩
def ir_mo10 : List (Nat × Nat × Nat × Nat × Nat × Nat) := ir_mc11
theorem ir_mq10 : ∀ e ∈ ir_mo10, ir_mP e := ir_md11
def ir_mc12 : List (Nat × Nat × Nat × Nat × Nat × Nat) := [(11, 19, 1, 56, 1, 5), (11, 36, 1, 76, 1, 8), (11, 56, 1, 33, 1, 4), (11, 63, 1, 0, 1, 0), (11, 70, 1, 23, 1, 2), (11, 77, 1, 29, 1, 3), (11, 84, 1, 71, 1, 7), (11, 91, 1, 61, 1, 6), (11, 96, 1, 92, 1, 10), (11, 100, 0, 155, 2, 11), (11, 111, 0, 34, 3, 4), (11, 122, 0, 57, 3, 5), (11, 135, 0, 145, 2, 11), (11, 138, 0, 79, 2, 8), (11, 155, 0, 156, 2, 11), (11, 158, 0, 2, 5, 0)]
theorem ir_md12 : ∀ e ∈ ir_mc12, ir_mP e := List.forall_mem_cons.mpr ⟨ir_m_93, List.forall_mem_cons.mpr ⟨ir_m_94, List.forall_mem_cons.mpr ⟨ir_m_95, List.forall_mem_cons.mpr ⟨ir_m_96, List.forall_mem_cons.mpr ⟨ir_m_97, List.forall_mem_cons.mpr ⟨ir_m_98, List.forall_mem_cons.mpr ⟨ir_m_99, List.forall_mem_cons.mpr ⟨ir_m_100, List.forall_mem_cons.mpr ⟨ir_m_101, List.forall_mem_cons.mpr ⟨ir_m_102, List.forall_mem_cons.mpr ⟨ir_m_103, List.forall_mem_cons.mpr ⟨ir_m_104, List.forall_mem_cons.mpr ⟨ir_m_105, List.forall_mem_cons.mpr ⟨ir_m_106, List.forall_mem_cons.mpr ⟨ir_m_107, List.forall_mem_cons.mpr ⟨ir_m_108, fun _ h => absurd h List.not_mem_nil⟩⟩⟩⟩⟩⟩⟩⟩⟩⟩⟩⟩⟩⟩⟩⟩
def ir_mc13 : List (Nat × Nat × Nat × Nat × Nat × Nat) := [(11, 164, 0, 146, 2, 11), (11, 167, 0, 88, 3, 9), (11, 173, 0, 90, 3, 9), (11, 176, 0, 148, 2, 11), (11, 188, 0, 147, 2, 11), (11, 191, 0, 12, 3, 0), (11, 194, 0, 14, 3, 0), (11, 198, 0, 15, 4, 0), (11, 202, 0, 159, 1, 11), (11, 207, 0, 16, 3, 0), (11, 210, 0, 82, 2, 8), (11, 221, 0, 81, 2, 8), (11, 224, 0, 149, 2, 11), (11, 227, 0, 83, 3, 8), (11, 231, 0, 13, 4, 0), (11, 236, 0, 161, 2, 11)]
theorem ir_md13 : ∀ e ∈ ir_mc13, ir_mP e := List.forall_mem_cons.mpr ⟨ir_m_109, List.forall_mem_cons.mpr ⟨ir_m_110, List.forall_mem_cons.mpr ⟨ir_m_111, List.forall_mem_cons.mpr ⟨ir_m_112, List.forall_mem_cons.mpr ⟨ir_m_113, List.forall_mem_cons.mpr ⟨ir_m_114, List.forall_mem_cons.mpr ⟨ir_m_115, List.forall_mem_cons.mpr ⟨ir_m_116, List.forall_mem_cons.mpr ⟨ir_m_117, List.forall_mem_cons.mpr ⟨ir_m_118, List.forall_mem_cons.mpr ⟨ir_m_119, List.forall_mem_cons.mpr ⟨ir_m_120, List.forall_mem_cons.mpr ⟨ir_m_121, List.forall_mem_cons.mpr ⟨ir_m_122, List.forall_mem_cons.mpr ⟨ir_m_123, List.forall_mem_cons.mpr ⟨ir_m_124, fun _ h => absurd h List.not_mem_nil⟩⟩⟩⟩⟩⟩⟩⟩⟩⟩⟩⟩⟩⟩⟩⟩
def ir_mc14 : List (Nat × Nat × Nat × Nat × Nat × Nat) := [(11, 239, 0, 160, 1, 11), (11, 243, 0, 152, 2, 11), (11, 250, 0, 162, 3, 11), (11, 254, 0, 163, 4, 11), (11, 258, 0, 164, 4, 11), (11, 270, 0, 59, 1, 5), (11, 275, 0, 78, 2, 8), (11, 282, 0, 94, 2, 10), (11, 286, 0, 165, 3, 11), (11, 290, 0, 166, 3, 11), (11, 301, 0, 168, 1, 11), (11, 307, 0, 169, 1, 11), (11, 319, 0, 24, 5, 2), (11, 326, 0, 170, 1, 11), (11, 329, 0, 171, 3, 11), (11, 335, 0, 172, 1, 11)]
theorem ir_md14 : ∀ e ∈ ir_mc14, ir_mP e := List.forall_mem_cons.mpr ⟨ir_m_125, List.forall_mem_cons.mpr ⟨ir_m_126, List.forall_mem_cons.mpr ⟨ir_m_127, List.forall_mem_cons.mpr ⟨ir_m_128, List.forall_mem_cons.mpr ⟨ir_m_129, List.forall_mem_cons.mpr ⟨ir_m_130, List.forall_mem_cons.mpr ⟨ir_m_131, List.forall_mem_cons.mpr ⟨ir_m_132, List.forall_mem_cons.mpr ⟨ir_m_133, List.forall_mem_cons.mpr ⟨ir_m_134, List.forall_mem_cons.mpr ⟨ir_m_135, List.forall_mem_cons.mpr ⟨ir_m_136, List.forall_mem_cons.mpr ⟨ir_m_137, List.forall_mem_cons.mpr ⟨ir_m_138, List.forall_mem_cons.mpr ⟨ir_m_139, List.forall_mem_cons.mpr ⟨ir_m_140, fun _ h => absurd h List.not_mem_nil⟩⟩⟩⟩⟩⟩⟩⟩⟩⟩⟩⟩⟩⟩⟩⟩
def ir_mc15 : List (Nat × Nat × Nat × Nat × Nat × Nat) := [(11, 344, 2, 365, 1, 99), (11, 349, 0, 150, 4, 11), (11, 355, 0, 30, 6, 3), (11, 366, 0, 176, 2, 11), (11, 369, 0, 177, 2, 11), (11, 372, 0, 178, 2, 11), (11, 375, 0, 179, 2, 11), (11, 380, 0, 180, 3, 11), (11, 383, 0, 181, 3, 11), (11, 388, 0, 72, 5, 7), (11, 391, 0, 73, 2, 7), (11, 394, 0, 80, 1, 8), (11, 397, 0, 75, 3, 7), (11, 400, 0, 182, 2, 11), (11, 408, 0, 158, 2, 11), (11, 411, 0, 153, 2, 11)]
theorem ir_md15 : ∀ e ∈ ir_mc15, ir_mP e := List.forall_mem_cons.mpr ⟨ir_m_141, List.forall_mem_cons.mpr ⟨ir_m_142, List.forall_mem_cons.mpr ⟨ir_m_143, List.forall_mem_cons.mpr ⟨ir_m_144, List.forall_mem_cons.mpr ⟨ir_m_145, List.forall_mem_cons.mpr ⟨ir_m_146, List.forall_mem_cons.mpr ⟨ir_m_147, List.forall_mem_cons.mpr ⟨ir_m_148, List.forall_mem_cons.mpr ⟨ir_m_149, List.forall_mem_cons.mpr ⟨ir_m_150, List.forall_mem_cons.mpr ⟨ir_m_151, List.forall_mem_cons.mpr ⟨ir_m_152, List.forall_mem_cons.mpr ⟨ir_m_153, List.forall_mem_cons.mpr ⟨ir_m_154, List.forall_mem_cons.mpr ⟨ir_m_155, List.forall_mem_cons.mpr ⟨ir_m_156, fun _ h => absurd h List.not_mem_nil⟩⟩⟩⟩⟩⟩⟩⟩⟩⟩⟩⟩⟩⟩⟩⟩
def ir_mc16 : List (Nat × Nat × Nat × Nat × Nat × Nat) := [(11, 415, 0, 62, 5, 6), (11, 418, 0, 64, 1, 6), (11, 422, 0, 65, 2, 6), (11, 425, 2, 151, 1, 11), (11, 432, 0, 93, 3, 10), (11, 440, 0, 95, 3, 10), (11, 454, 2, 154, 1, 11), (11, 457, 0, 60, 2, 5), (11, 471, 0, 157, 2, 11), (11, 497, 0, 4, 3, 0), (11, 500, 0, 10, 4, 0), (11, 504, 0, 58, 1, 5), (11, 510, 0, 84, 4, 8), (11, 526, 0, 167, 1, 11), (11, 529, 0, 5, 3, 0), (11, 535, 0, 6, 3, 0)]
theorem ir_md16 : ∀ e ∈ ir_mc16, ir_mP e := List.forall_mem_cons.mpr ⟨ir_m_157, List.forall_mem_cons.mpr ⟨ir_m_158, List.forall_mem_cons.mpr ⟨ir_m_159, List.forall_mem_cons.mpr ⟨ir_m_160, List.forall_mem_cons.mpr ⟨ir_m_161, List.forall_mem_cons.mpr ⟨ir_m_162, List.forall_mem_cons.mpr ⟨ir_m_163, List.forall_mem_cons.mpr ⟨ir_m_164, List.forall_mem_cons.mpr ⟨ir_m_165, List.forall_mem_cons.mpr ⟨ir_m_166, List.forall_mem_cons.mpr ⟨ir_m_167, List.forall_mem_cons.mpr ⟨ir_m_168, List.forall_mem_cons.mpr ⟨ir_m_169, List.forall_mem_cons.mpr ⟨ir_m_170, List.forall_mem_cons.mpr ⟨ir_m_171, List.forall_mem_cons.mpr ⟨ir_m_172, fun _ h => absurd h List.not_mem_nil⟩⟩⟩⟩⟩⟩⟩⟩⟩⟩⟩⟩⟩⟩⟩⟩
def ir_mc17 : List (Nat × Nat × Nat × Nat × Nat × Nat) := [(11, 539, 0, 173, 1, 11), (11, 542, 0, 174, 2, 11), (11, 545, 0, 175, 3, 11)]
theorem ir_md17 : ∀ e ∈ ir_mc17, ir_mP e := List.forall_mem_cons.mpr ⟨ir_m_173, List.forall_mem_cons.mpr ⟨ir_m_174, List.forall_mem_cons.mpr ⟨ir_m_175, fun _ h => absurd h List.not_mem_nil⟩⟩⟩
def ir_mo11 : List (Nat × Nat × Nat × Nat × Nat × Nat) := ir_mc12 ++ (ir_mc13 ++ (ir_mc14 ++ (ir_mc15 ++ (ir_mc16 ++ (ir_mc17)))))
theorem ir_mq11 : ∀ e ∈ ir_mo11, ir_mP e := List.forall_mem_append.mpr ⟨ir_md12, List.forall_mem_append.mpr ⟨ir_md13, List.forall_mem_append.mpr ⟨ir_md14, List.forall_mem_append.mpr ⟨ir_md15, List.forall_mem_append.mpr ⟨ir_md16, ir_md17⟩⟩⟩⟩⟩
def ir_mc18 : List (Nat × Nat × Nat × Nat × Nat × Nat) := [(12, 103, 2, 191, 1, 12), (12, 107, 0, 190, 2, 12), (12, 111, 2, 192, 1, 12), (12, 117, 2, 193, 1, 12), (12, 126, 0, 366, 1, 50), (12, 131, 0, 367, 2, 50), (12, 135, 0, 196, 2, 12), (12, 139, 0, 194, 1, 12), (12, 142, 0, 197, 2, 12), (12, 145, 0, 195, 2, 12), (12, 149, 2, 186, 3, 12), (12, 153, 0, 199, 2, 12), (12, 156, 0, 201, 3, 12), (12, 163, 0, 206, 1, 12), (12, 168, 0, 203, 2, 12), (12, 171, 0, 207, 1, 12)]
theorem ir_md18 : ∀ e ∈ ir_mc18, ir_mP e := List.forall_mem_cons.mpr ⟨ir_m_176, List.forall_mem_cons.mpr ⟨ir_m_177, List.forall_mem_cons.mpr ⟨ir_m_178, List.forall_mem_cons.mpr ⟨ir_m_179, List.forall_mem_cons.mpr ⟨ir_m_180, List.forall_mem_cons.mpr ⟨ir_m_181, List.forall_mem_cons.mpr ⟨ir_m_182, List.forall_mem_cons.mpr ⟨ir_m_183, List.forall_mem_cons.mpr ⟨ir_m_184, List.forall_mem_cons.mpr ⟨ir_m_185, List.forall_mem_cons.mpr ⟨ir_m_186, List.forall_mem_cons.mpr ⟨ir_m_187, List.forall_mem_cons.mpr ⟨ir_m_188, List.forall_mem_cons.mpr ⟨ir_m_189, List.forall_mem_cons.mpr ⟨ir_m_190, List.forall_mem_cons.mpr ⟨ir_m_191, fun _ h => absurd h List.not_mem_nil⟩⟩⟩⟩⟩⟩⟩⟩⟩⟩⟩⟩⟩⟩⟩⟩
def ir_mc19 : List (Nat × Nat × Nat × Nat × Nat × Nat) := [(12, 178, 0, 204, 1, 12), (12, 181, 0, 205, 1, 12), (12, 184, 0, 200, 2, 12), (12, 187, 0, 208, 1, 12), (12, 190, 0, 209, 1, 12), (12, 193, 0, 211, 1, 12), (12, 212, 0, 210, 1, 12), (12, 215, 0, 198, 2, 12), (12, 221, 0, 202, 2, 12), (12, 224, 0, 213, 2, 12), (12, 229, 0, 212, 1, 12), (12, 234, 0, 214, 1, 12), (12, 239, 0, 215, 1, 12), (12, 254, 0, 216, 1, 12), (12, 257, 0, 185, 2, 12), (12, 262, 0, 217, 1, 12)]
theorem ir_md19 : ∀ e ∈ ir_mc19, ir_mP e := List.forall_mem_cons.mpr ⟨ir_m_192, List.forall_mem_cons.mpr ⟨ir_m_193, List.forall_mem_cons.mpr ⟨ir_m_194, List.forall_mem_cons.mpr ⟨ir_m_195, List.forall_mem_cons.mpr ⟨ir_m_196, List.forall_mem_cons.mpr ⟨ir_m_197, List.forall_mem_cons.mpr ⟨ir_m_198, List.forall_mem_cons.mpr ⟨ir_m_199, List.forall_mem_cons.mpr ⟨ir_m_200, List.forall_mem_cons.mpr ⟨ir_m_201, List.forall_mem_cons.mpr ⟨ir_m_202, List.forall_mem_cons.mpr ⟨ir_m_203, List.forall_mem_cons.mpr ⟨ir_m_204, List.forall_mem_cons.mpr ⟨ir_m_205, List.forall_mem_cons.mpr ⟨ir_m_206, List.forall_mem_cons.mpr ⟨ir_m_207, fun _ h => absurd h List.not_mem_nil⟩⟩⟩⟩⟩⟩⟩⟩⟩⟩⟩⟩⟩⟩⟩⟩
def ir_mc20 : List (Nat × Nat × Nat × Nat × Nat × Nat) := [(12, 268, 0, 220, 1, 12), (12, 271, 0, 221, 1, 12), (12, 273, 0, 222, 1, 12), (12, 276, 0, 223, 2, 12), (12, 292, 2, 229, 1, 12), (12, 296, 0, 228, 3, 12), (12, 299, 0, 231, 5, 12), (12, 303, 2, 230, 3, 12), (12, 307, 0, 232, 4, 12), (12, 315, 0, 234, 5, 12), (12, 319, 2, 235, 3, 12), (12, 323, 0, 233, 1, 12), (12, 326, 0, 236, 4, 12), (12, 330, 0, 238, 2, 12), (12, 333, 0, 237, 1, 12), (12, 336, 0, 239, 1, 12)]
theorem ir_md20 : ∀ e ∈ ir_mc20, ir_mP e := List.forall_mem_cons.mpr ⟨ir_m_208, List.forall_mem_cons.mpr ⟨ir_m_209, List.forall_mem_cons.mpr ⟨ir_m_210, List.forall_mem_cons.mpr ⟨ir_m_211, List.forall_mem_cons.mpr ⟨ir_m_212, List.forall_mem_cons.mpr ⟨ir_m_213, List.forall_mem_cons.mpr ⟨ir_m_214, List.forall_mem_cons.mpr ⟨ir_m_215, List.forall_mem_cons.mpr ⟨ir_m_216, List.forall_mem_cons.mpr ⟨ir_m_217, List.forall_mem_cons.mpr ⟨ir_m_218, List.forall_mem_cons.mpr ⟨ir_m_219, List.forall_mem_cons.mpr ⟨ir_m_220, List.forall_mem_cons.mpr ⟨ir_m_221, List.forall_mem_cons.mpr ⟨ir_m_222, List.forall_mem_cons.mpr ⟨ir_m_223, fun _ h => absurd h List.not_mem_nil⟩⟩⟩⟩⟩⟩⟩⟩⟩⟩⟩⟩⟩⟩⟩⟩
def ir_mc21 : List (Nat × Nat × Nat × Nat × Nat × Nat) := [(12, 339, 0, 227, 2, 12), (12, 342, 0, 224, 2, 12), (12, 348, 0, 225, 2, 12), (12, 351, 0, 226, 2, 12), (12, 354, 0, 247, 2, 12), (12, 357, 0, 240, 1, 12), (12, 360, 0, 242, 2, 12), (12, 363, 0, 254, 2, 12), (12, 366, 0, 255, 3, 12), (12, 370, 0, 251, 1, 12), (12, 375, 0, 257, 1, 12), (12, 377, 0, 262, 3, 12), (12, 380, 0, 256, 3, 12), (12, 383, 0, 241, 2, 12), (12, 398, 0, 264, 2, 12), (12, 401, 0, 265, 2, 12)]
theorem ir_md21 : ∀ e ∈ ir_mc21, ir_mP e := List.forall_mem_cons.mpr ⟨ir_m_224, List.forall_mem_cons.mpr ⟨ir_m_225, List.forall_mem_cons.mpr ⟨ir_m_226, List.forall_mem_cons.mpr ⟨ir_m_227, List.forall_mem_cons.mpr ⟨ir_m_228, List.forall_mem_cons.mpr ⟨ir_m_229, List.forall_mem_cons.mpr ⟨ir_m_230, List.forall_mem_cons.mpr ⟨ir_m_231, List.forall_mem_cons.mpr ⟨ir_m_232, List.forall_mem_cons.mpr ⟨ir_m_233, List.forall_mem_cons.mpr ⟨ir_m_234, List.forall_mem_cons.mpr ⟨ir_m_235, List.forall_mem_cons.mpr ⟨ir_m_236, List.forall_mem_cons.mpr ⟨ir_m_237, List.forall_mem_cons.mpr ⟨ir_m_238, List.forall_mem_cons.mpr ⟨ir_m_239, fun _ h => absurd h List.not_mem_nil⟩⟩⟩⟩⟩⟩⟩⟩⟩⟩⟩⟩⟩⟩⟩⟩
def ir_mc22 : List (Nat × Nat × Nat × Nat × Nat × Nat) := [(12, 404, 2, 317, 1, 12), (12, 407, 0, 268, 2, 12), (12, 410, 0, 269, 3, 12), (12, 426, 0, 252, 2, 12), (12, 429, 0, 273, 2, 12), (12, 432, 0, 274, 2, 12), (12, 435, 0, 253, 2, 12), (12, 444, 0, 277, 2, 12), (12, 460, 2, 187, 2, 12), (12, 464, 0, 279, 3, 12), (12, 467, 0, 280, 3, 12), (12, 470, 0, 281, 1, 12), (12, 475, 0, 282, 2, 12), (12, 478, 0, 286, 2, 12), (12, 481, 0, 287, 3, 12), (12, 487, 0, 289, 2, 12)]
theorem ir_md22 : ∀ e ∈ ir_mc22, ir_mP e := List.forall_mem_cons.mpr ⟨ir_m_240, List.forall_mem_cons.mpr ⟨ir_m_241, List.forall_mem_cons.mpr ⟨ir_m_242, List.forall_mem_cons.mpr ⟨ir_m_243, List.forall_mem_cons.mpr ⟨ir_m_244, List.forall_mem_cons.mpr ⟨ir_m_245, List.forall_mem_cons.mpr ⟨ir_m_246, List.forall_mem_cons.mpr ⟨ir_m_247, List.forall_mem_cons.mpr ⟨ir_m_248, List.forall_mem_cons.mpr ⟨ir_m_249, List.forall_mem_cons.mpr ⟨ir_m_250, List.forall_mem_cons.mpr ⟨ir_m_251, List.forall_mem_cons.mpr ⟨ir_m_252, List.forall_mem_cons.mpr ⟨ir_m_253, List.forall_mem_cons.mpr ⟨ir_m_254, List.forall_mem_cons.mpr ⟨ir_m_255, fun _ h => absurd h List.not_mem_nil⟩⟩⟩⟩⟩⟩⟩⟩⟩⟩⟩⟩⟩⟩⟩⟩
def ir_mc23 : List (Nat × Nat × Nat × Nat × Nat × Nat) := [(12, 499, 0, 291, 3, 12), (12, 502, 2, 188, 1, 12), (12, 508, 0, 294, 4, 12), (12, 511, 0, 295, 2, 12), (12, 514, 0, 297, 3, 12), (12, 523, 0, 301, 3, 12), (12, 526, 0, 300, 1, 12), (12, 529, 0, 302, 2, 12), (12, 532, 2, 304, 1, 12), (12, 535, 0, 306, 1, 12), (12, 538, 0, 309, 2, 12), (12, 547, 0, 313, 3, 12), (12, 550, 0, 312, 2, 12), (12, 553, 0, 314, 2, 12), (12, 556, 0, 319, 4, 12), (12, 560, 0, 324, 2, 12)]
theorem ir_md23 : ∀ e ∈ ir_mc23, ir_mP e := List.forall_mem_cons.mpr ⟨ir_m_256, List.forall_mem_cons.mpr ⟨ir_m_257, List.forall_mem_cons.mpr ⟨ir_m_258, List.forall_mem_cons.mpr ⟨ir_m_259, List.forall_mem_cons.mpr ⟨ir_m_260, List.forall_mem_cons.mpr ⟨ir_m_261, List.forall_mem_cons.mpr ⟨ir_m_262, List.forall_mem_cons.mpr ⟨ir_m_263, List.forall_mem_cons.mpr ⟨ir_m_264, List.forall_mem_cons.mpr ⟨ir_m_265, List.forall_mem_cons.mpr ⟨ir_m_266, List.forall_mem_cons.mpr ⟨ir_m_267, List.forall_mem_cons.mpr ⟨ir_m_268, List.forall_mem_cons.mpr ⟨ir_m_269, List.forall_mem_cons.mpr ⟨ir_m_270, List.forall_mem_cons.mpr ⟨ir_m_271, fun _ h => absurd h List.not_mem_nil⟩⟩⟩⟩⟩⟩⟩⟩⟩⟩⟩⟩⟩⟩⟩⟩
def ir_mo12 : List (Nat × Nat × Nat × Nat × Nat × Nat) := ir_mc18 ++ (ir_mc19 ++ (ir_mc20 ++ (ir_mc21 ++ (ir_mc22 ++ (ir_mc23)))))
theorem ir_mq12 : ∀ e ∈ ir_mo12, ir_mP e := List.forall_mem_append.mpr ⟨ir_md18, List.forall_mem_append.mpr ⟨ir_md19, List.forall_mem_append.mpr ⟨ir_md20, List.forall_mem_append.mpr ⟨ir_md21, List.forall_mem_append.mpr ⟨ir_md22, ir_md23⟩⟩⟩⟩⟩
def ir_mc24 : List (Nat × Nat × Nat × Nat × Nat × Nat) := [(13, 7, 0, 99, 2, 11), (13, 15, 0, 101, 3, 11), (13, 21, 0, 102, 3, 11), (13, 24, 0, 103, 3, 11), (13, 27, 0, 104, 2, 11), (13, 30, 0, 105, 3, 11), (13, 36, 0, 107, 2, 11), (13, 39, 0, 108, 3, 11), (13, 42, 0, 109, 2, 11), (13, 45, 0, 110, 2, 11), (13, 48, 0, 111, 2, 11), (13, 51, 0, 112, 3, 11), (13, 54, 0, 113, 2, 11), (13, 57, 0, 115, 3, 11), (13, 60, 0, 117, 2, 11), (13, 63, 0, 118, 3, 11)]
theorem ir_md24 : ∀ e ∈ ir_mc24, ir_mP e := List.forall_mem_cons.mpr ⟨ir_m_272, List.forall_mem_cons.mpr ⟨ir_m_273, List.forall_mem_cons.mpr ⟨ir_m_274, List.forall_mem_cons.mpr ⟨ir_m_275, List.forall_mem_cons.mpr ⟨ir_m_276, List.forall_mem_cons.mpr ⟨ir_m_277, List.forall_mem_cons.mpr ⟨ir_m_278, List.forall_mem_cons.mpr ⟨ir_m_279, List.forall_mem_cons.mpr ⟨ir_m_280, List.forall_mem_cons.mpr ⟨ir_m_281, List.forall_mem_cons.mpr ⟨ir_m_282, List.forall_mem_cons.mpr ⟨ir_m_283, List.forall_mem_cons.mpr ⟨ir_m_284, List.forall_mem_cons.mpr ⟨ir_m_285, List.forall_mem_cons.mpr ⟨ir_m_286, List.forall_mem_cons.mpr ⟨ir_m_287, fun _ h => absurd h List.not_mem_nil⟩⟩⟩⟩⟩⟩⟩⟩⟩⟩⟩⟩⟩⟩⟩⟩
def ir_mc25 : List (Nat × Nat × Nat × Nat × Nat × Nat) := [(13, 66, 0, 119, 2, 11), (13, 69, 0, 120, 3, 11), (13, 72, 0, 121, 2, 11), (13, 75, 0, 123, 1, 11), (13, 79, 0, 124, 3, 11), (13, 83, 0, 125, 2, 11), (13, 86, 0, 126, 4, 11), (13, 90, 0, 127, 3, 11), (13, 93, 0, 128, 3, 11), (13, 96, 0, 129, 3, 11), (13, 99, 0, 130, 2, 11), (13, 102, 0, 131, 2, 11), (13, 105, 0, 132, 2, 11), (13, 108, 0, 133, 2, 11), (13, 111, 0, 135, 2, 11), (13, 114, 0, 137, 2, 11)]
theorem ir_md25 : ∀ e ∈ ir_mc25, ir_mP e := List.forall_mem_cons.mpr ⟨ir_m_288, List.forall_mem_cons.mpr ⟨ir_m_289, List.forall_mem_cons.mpr ⟨ir_m_290, List.forall_mem_cons.mpr ⟨ir_m_291, List.forall_mem_cons.mpr ⟨ir_m_292, List.forall_mem_cons.mpr ⟨ir_m_293, List.forall_mem_cons.mpr ⟨ir_m_294, List.forall_mem_cons.mpr ⟨ir_m_295, List.forall_mem_cons.mpr ⟨ir_m_296, List.forall_mem_cons.mpr ⟨ir_m_297, List.forall_mem_cons.mpr ⟨ir_m_298, List.forall_mem_cons.mpr ⟨ir_m_299, List.forall_mem_cons.mpr ⟨ir_m_300, List.forall_mem_cons.mpr ⟨ir_m_301, List.forall_mem_cons.mpr ⟨ir_m_302, List.forall_mem_cons.mpr ⟨ir_m_303, fun _ h => absurd h List.not_mem_nil⟩⟩⟩⟩⟩⟩⟩⟩⟩⟩⟩⟩⟩⟩⟩⟩
def ir_mc26 : List (Nat × Nat × Nat × Nat × Nat × Nat) := [(13, 118, 0, 138, 3, 11), (13, 121, 0, 139, 4, 11), (13, 125, 0, 140, 4, 11), (13, 131, 0, 141, 2, 11), (13, 134, 0, 142, 2, 11), (13, 138, 0, 143, 2, 11), (13, 141, 1, 97, 1, 11), (13, 144, 1, 183, 1, 12), (13, 145, 0, 98, 6, 11), (13, 149, 0, 189, 6, 12), (13, 150, 2, 326, 3, 99), (13, 155, 0, 218, 2, 12), (13, 156, 0, 184, 1, 12), (13, 159, 0, 100, 2, 11), (13, 162, 0, 219, 2, 12), (13, 163, 2, 327, 4, 99)]
theorem ir_md26 : ∀ e ∈ ir_mc26, ir_mP e := List.forall_mem_cons.mpr ⟨ir_m_304, List.forall_mem_cons.mpr ⟨ir_m_305, List.forall_mem_cons.mpr ⟨ir_m_306, List.forall_mem_cons.mpr ⟨ir_m_307, List.forall_mem_cons.mpr ⟨ir_m_308, List.forall_mem_cons.mpr ⟨ir_m_309, List.forall_mem_cons.mpr ⟨ir_m_310, List.forall_mem_cons.mpr ⟨ir_m_311, List.forall_mem_cons.mpr ⟨ir_m_312, List.forall_mem_cons.mpr ⟨ir_m_313, List.forall_mem_cons.mpr ⟨ir_m_314, List.forall_mem_cons.mpr ⟨ir_m_315, List.forall_mem_cons.mpr ⟨ir_m_316, List.forall_mem_cons.mpr ⟨ir_m_317, List.forall_mem_cons.mpr ⟨ir_m_318, List.forall_mem_cons.mpr ⟨ir_m_319, fun _ h => absurd h List.not_mem_nil⟩⟩⟩⟩⟩⟩⟩⟩⟩⟩⟩⟩⟩⟩⟩⟩
def ir_mc27 : List (Nat × Nat × Nat × Nat × Nat × Nat) := [(13, 166, 0, 243, 3, 12), (13, 167, 2, 328, 4, 99), (13, 169, 0, 244, 3, 12), (13, 170, 2, 329, 4, 99), (13, 172, 0, 245, 3, 12), (13, 173, 2, 330, 3, 99), (13, 175, 0, 246, 2, 12), (13, 176, 2, 331, 4, 99), (13, 178, 0, 248, 3, 12), (13, 179, 0, 106, 1, 11), (13, 182, 0, 249, 1, 12), (13, 183, 2, 332, 3, 99), (13, 185, 0, 250, 2, 12), (13, 186, 2, 333, 4, 99), (13, 188, 0, 258, 3, 12), (13, 189, 2, 334, 3, 99)]
theorem ir_md27 : ∀ e ∈ ir_mc27, ir_mP e := List.forall_mem_cons.mpr ⟨ir_m_320, List.forall_mem_cons.mpr ⟨ir_m_321, List.forall_mem_cons.mpr ⟨ir_m_322, List.forall_mem_cons.mpr ⟨ir_m_323, List.forall_mem_cons.mpr ⟨ir_m_324, List.forall_mem_cons.mpr ⟨ir_m_325, List.forall_mem_cons.mpr ⟨ir_m_326, List.forall_mem_cons.mpr ⟨ir_m_327, List.forall_mem_cons.mpr ⟨ir_m_328, List.forall_mem_cons.mpr ⟨ir_m_329, List.forall_mem_cons.mpr ⟨ir_m_330, List.forall_mem_cons.mpr ⟨ir_m_331, List.forall_mem_cons.mpr ⟨ir_m_332, List.forall_mem_cons.mpr ⟨ir_m_333, List.forall_mem_cons.mpr ⟨ir_m_334, List.forall_mem_cons.mpr ⟨ir_m_335, fun _ h => absurd h List.not_mem_nil⟩⟩⟩⟩⟩⟩⟩⟩⟩⟩⟩⟩⟩⟩⟩⟩
def ir_mc28 : List (Nat × Nat × Nat × Nat × Nat × Nat) := [(13, 191, 0, 259, 2, 12), (13, 192, 2, 335, 3, 99), (13, 194, 0, 260, 2, 12), (13, 195, 2, 336, 3, 99), (13, 197, 0, 261, 2, 12), (13, 198, 2, 337, 4, 99), (13, 200, 0, 263, 3, 12), (13, 201, 2, 338, 3, 99), (13, 203, 0, 266, 2, 12), (13, 204, 0, 114, 1, 11), (13, 207, 0, 267, 1, 12), (13, 208, 2, 339, 4, 99), (13, 210, 0, 270, 3, 12), (13, 211, 0, 116, 1, 11), (13, 214, 0, 271, 1, 12), (13, 215, 2, 340, 3, 99)]
theorem ir_md28 : ∀ e ∈ ir_mc28, ir_mP e := List.forall_mem_cons.mpr ⟨ir_m_336, List.forall_mem_cons.mpr ⟨ir_m_337, List.forall_mem_cons.mpr ⟨ir_m_338, List.forall_mem_cons.mpr ⟨ir_m_339, List.forall_mem_cons.mpr ⟨ir_m_340, List.forall_mem_cons.mpr ⟨ir_m_341, List.forall_mem_cons.mpr ⟨ir_m_342, List.forall_mem_cons.mpr ⟨ir_m_343, List.forall_mem_cons.mpr ⟨ir_m_344, List.forall_mem_cons.mpr ⟨ir_m_345, List.forall_mem_cons.mpr ⟨ir_m_346, List.forall_mem_cons.mpr ⟨ir_m_347, List.forall_mem_cons.mpr ⟨ir_m_348, List.forall_mem_cons.mpr ⟨ir_m_349, List.forall_mem_cons.mpr ⟨ir_m_350, List.forall_mem_cons.mpr ⟨ir_m_351, fun _ h => absurd h List.not_mem_nil⟩⟩⟩⟩⟩⟩⟩⟩⟩⟩⟩⟩⟩⟩⟩⟩
def ir_mc29 : List (Nat × Nat × Nat × Nat × Nat × Nat) := [(13, 217, 0, 272, 2, 12), (13, 218, 2, 341, 4, 99), (13, 220, 0, 275, 3, 12), (13, 221, 2, 342, 3, 99), (13, 223, 0, 276, 2, 12), (13, 224, 2, 343, 4, 99), (13, 226, 0, 278, 3, 12), (13, 227, 2, 344, 3, 99), (13, 229, 0, 283, 2, 12), (13, 230, 0, 122, 2, 11), (13, 233, 0, 284, 2, 12), (13, 234, 2, 345, 2, 99), (13, 237, 0, 285, 1, 12), (13, 238, 2, 346, 4, 99), (13, 241, 0, 288, 3, 12), (13, 242, 2, 347, 3, 99)]
theorem ir_md29 : ∀ e ∈ ir_mc29, ir_mP e := List.forall_mem_cons.mpr ⟨ir_m_352, List.forall_mem_cons.mpr ⟨ir_m_353, List.forall_mem_cons.mpr ⟨ir_m_354, List.forall_mem_cons.mpr ⟨ir_m_355, List.forall_mem_cons.mpr ⟨ir_m_356, List.forall_mem_cons.mpr ⟨ir_m_357, List.forall_mem_cons.mpr ⟨ir_m_358, List.forall_mem_cons.mpr ⟨ir_m_359, List.forall_mem_cons.mpr ⟨ir_m_360, List.forall_mem_cons.mpr ⟨ir_m_361, List.forall_mem_cons.mpr ⟨ir_m_362, List.forall_mem_cons.mpr ⟨ir_m_363, List.forall_mem_cons.mpr ⟨ir_m_364, List.forall_mem_cons.mpr ⟨ir_m_365, List.forall_mem_cons.mpr ⟨ir_m_366, List.forall_mem_cons.mpr ⟨ir_m_367, fun _ h => absurd h List.not_mem_nil⟩⟩⟩⟩⟩⟩⟩⟩⟩⟩⟩⟩⟩⟩⟩⟩
def ir_mc30 : List (Nat × Nat × Nat × Nat × Nat × Nat) := [(13, 244, 0, 290, 2, 12), (13, 245, 2, 348, 5, 99), (13, 248, 0, 292, 4, 12), (13, 249, 2, 349, 4, 99), (13, 251, 0, 293, 3, 12), (13, 252, 2, 350, 4, 99), (13, 254, 0, 296, 3, 12), (13, 255, 2, 351, 4, 99), (13, 257, 0, 298, 3, 12), (13, 258, 2, 352, 3, 99), (13, 260, 0, 299, 2, 12), (13, 261, 2, 353, 3, 99), (13, 263, 0, 303, 2, 12), (13, 264, 2, 354, 3, 99), (13, 266, 0, 305, 2, 12), (13, 267, 2, 355, 3, 99)]
theorem ir_md30 : ∀ e ∈ ir_mc30, ir_mP e := List.forall_mem_cons.mpr ⟨ir_m_368, List.forall_mem_cons.mpr ⟨ir_m_369, List.forall_mem_cons.mpr ⟨ir_m_370, List.forall_mem_cons.mpr ⟨ir_m_371, List.forall_mem_cons.mpr ⟨ir_m_372, List.forall_mem_cons.mpr ⟨ir_m_373, List.forall_mem_cons.mpr ⟨ir_m_374, List.forall_mem_cons.mpr ⟨ir_m_375, List.forall_mem_cons.mpr ⟨ir_m_376, List.forall_mem_cons.mpr ⟨ir_m_377, List.forall_mem_cons.mpr ⟨ir_m_378, List.forall_mem_cons.mpr ⟨ir_m_379, List.forall_mem_cons.mpr ⟨ir_m_380, List.forall_mem_cons.mpr ⟨ir_m_381, List.forall_mem_cons.mpr ⟨ir_m_382, List.forall_mem_cons.mpr ⟨ir_m_383, fun _ h => absurd h List.not_mem_nil⟩⟩⟩⟩⟩⟩⟩⟩⟩⟩⟩⟩⟩⟩⟩⟩
def ir_mc31 : List (Nat × Nat × Nat × Nat × Nat × Nat) := [(13, 269, 0, 307, 2, 12), (13, 270, 0, 134, 1, 11), (13, 273, 0, 308, 1, 12), (13, 274, 2, 356, 3, 99), (13, 276, 0, 310, 2, 12), (13, 277, 0, 136, 1, 11), (13, 280, 0, 311, 1, 12), (13, 281, 2, 357, 3, 99), (13, 283, 0, 315, 2, 12), (13, 284, 2, 358, 4, 99), (13, 286, 0, 316, 3, 12), (13, 287, 2, 359, 4, 99), (13, 290, 0, 318, 4, 12), (13, 293, 2, 360, 5, 99), (13, 296, 0, 320, 4, 12), (13, 297, 2, 361, 3, 99)]
theorem ir_md31 : ∀ e ∈ ir_mc31, ir_mP e := List.forall_mem_cons.mpr ⟨ir_m_384, List.forall_mem_cons.mpr ⟨ir_m_385, List.forall_mem_cons.mpr ⟨ir_m_386, List.forall_mem_cons.mpr ⟨ir_m_387, List.forall_mem_cons.mpr ⟨ir_m_388, List.forall_mem_cons.mpr ⟨ir_m_389, List.forall_mem_cons.mpr ⟨ir_m_390, List.forall_mem_cons.mpr ⟨ir_m_391, List.forall_mem_cons.mpr ⟨ir_m_392, List.forall_mem_cons.mpr ⟨ir_m_393, List.forall_mem_cons.mpr ⟨ir_m_394, List.forall_mem_cons.mpr ⟨ir_m_395, List.forall_mem_cons.mpr ⟨ir_m_396, List.forall_mem_cons.mpr ⟨ir_m_397, List.forall_mem_cons.mpr ⟨ir_m_398, List.forall_mem_cons.mpr ⟨ir_m_399, fun _ h => absurd h List.not_mem_nil⟩⟩⟩⟩⟩⟩⟩⟩⟩⟩⟩⟩⟩⟩⟩⟩
def ir_mc32 : List (Nat × Nat × Nat × Nat × Nat × Nat) := [(13, 299, 0, 321, 2, 12), (13, 300, 2, 362, 2, 99), (13, 303, 0, 322, 2, 12), (13, 304, 2, 363, 2, 99), (13, 306, 0, 323, 2, 12), (13, 307, 0, 144, 2, 11), (13, 310, 0, 325, 2, 12)]
theorem ir_md32 : ∀ e ∈ ir_mc32, ir_mP e := List.forall_mem_cons.mpr ⟨ir_m_400, List.forall_mem_cons.mpr ⟨ir_m_401, List.forall_mem_cons.mpr ⟨ir_m_402, List.forall_mem_cons.mpr ⟨ir_m_403, List.forall_mem_cons.mpr ⟨ir_m_404, List.forall_mem_cons.mpr ⟨ir_m_405, List.forall_mem_cons.mpr ⟨ir_m_406, fun _ h => absurd h List.not_mem_nil⟩⟩⟩⟩⟩⟩⟩
def ir_mo13 : List (Nat × Nat × Nat × Nat × Nat × Nat) := ir_mc24 ++ (ir_mc25 ++ (ir_mc26 ++ (ir_mc27 ++ (ir_mc28 ++ (ir_mc29 ++ (ir_mc30 ++ (ir_mc31 ++ (ir_mc32))))))))
theorem ir_mq13 : ∀ e ∈ ir_mo13, ir_mP e := List.forall_mem_append.mpr ⟨ir_md24, List.forall_mem_append.mpr ⟨ir_md25, List.forall_mem_append.mpr ⟨ir_md26, List.forall_mem_append.mpr ⟨ir_md27, List.forall_mem_append.mpr ⟨ir_md28, List.forall_mem_append.mpr ⟨ir_md29, List.forall_mem_append.mpr ⟨ir_md30, List.forall_mem_append.mpr ⟨ir_md31, ir_md32⟩⟩⟩⟩⟩⟩⟩⟩
def ir_mc33 : List (Nat × Nat × Nat × Nat × Nat × Nat) := [(14, 299, 2, 376, 1, 99), (14, 335, 0, 371, 1, 50), (14, 492, 0, 372, 1, 50), (14, 495, 2, 374, 2, 99), (14, 505, 0, 366, 1, 50), (14, 633, 0, 369, 3, 50), (14, 637, 2, 377, 4, 99), (14, 1059, 2, 382, 3, 99)]
theorem ir_md33 : ∀ e ∈ ir_mc33, ir_mP e := List.forall_mem_cons.mpr ⟨ir_m_407, List.forall_mem_cons.mpr ⟨ir_m_408, List.forall_mem_cons.mpr ⟨ir_m_409, List.forall_mem_cons.mpr ⟨ir_m_410, List.forall_mem_cons.mpr ⟨ir_m_411, List.forall_mem_cons.mpr ⟨ir_m_412, List.forall_mem_cons.mpr ⟨ir_m_413, List.forall_mem_cons.mpr ⟨ir_m_414, fun _ h => absurd h List.not_mem_nil⟩⟩⟩⟩⟩⟩⟩⟩
def ir_mo14 : List (Nat × Nat × Nat × Nat × Nat × Nat) := ir_mc33
theorem ir_mq14 : ∀ e ∈ ir_mo14, ir_mP e := ir_md33
def ir_mc34 : List (Nat × Nat × Nat × Nat × Nat × Nat) := [(15, 9, 2, 373, 2, 50), (15, 13, 2, 379, 5, 99), (15, 88, 2, 375, 1, 99), (15, 95, 2, 378, 4, 99)]
theorem ir_md34 : ∀ e ∈ ir_mc34, ir_mP e := List.forall_mem_cons.mpr ⟨ir_m_415, List.forall_mem_cons.mpr ⟨ir_m_416, List.forall_mem_cons.mpr ⟨ir_m_417, List.forall_mem_cons.mpr ⟨ir_m_418, fun _ h => absurd h List.not_mem_nil⟩⟩⟩⟩
def ir_mo15 : List (Nat × Nat × Nat × Nat × Nat × Nat) := ir_mc34
theorem ir_mq15 : ∀ e ∈ ir_mo15, ir_mP e := ir_md34
def ir_mo16 : List (Nat × Nat × Nat × Nat × Nat × Nat) := []
theorem ir_mq16 : ∀ e ∈ ir_mo16, ir_mP e := fun _ h => absurd h List.not_mem_nil
def ir_mo17 : List (Nat × Nat × Nat × Nat × Nat × Nat) := []
theorem ir_mq17 : ∀ e ∈ ir_mo17, ir_mP e := fun _ h => absurd h List.not_mem_nil
def ir_mo18 : List (Nat × Nat × Nat × Nat × Nat × Nat) := []
theorem ir_mq18 : ∀ e ∈ ir_mo18, ir_mP e := fun _ h => absurd h List.not_mem_nil
def ir_mO : List (List (Nat × Nat × Nat × Nat × Nat × Nat)) := [ir_mo0, ir_mo1, ir_mo2, ir_mo3, ir_mo4, ir_mo5, ir_mo6, ir_mo7, ir_mo8, ir_mo9, ir_mo10, ir_mo11, ir_mo12, ir_mo13, ir_mo14, ir_mo15, ir_mo16, ir_mo17, ir_mo18]
theorem ir_m_ok : ∀ l ∈ ir_mO, ∀ e ∈ l, ir_mP e := List.forall_mem_cons.mpr ⟨ir_mq0, List.forall_mem_cons.mpr ⟨ir_mq1, List.forall_mem_cons.mpr ⟨ir_mq2, List.forall_mem_cons.mpr ⟨ir_mq3, List.forall_mem_cons.mpr ⟨ir_mq4, List.forall_mem_cons.mpr ⟨ir_mq5, List.forall_mem_cons.mpr ⟨ir_mq6, List.forall_mem_cons.mpr ⟨ir_mq7, List.forall_mem_cons.mpr ⟨ir_mq8, List.forall_mem_cons.mpr ⟨ir_mq9, List.forall_mem_cons.mpr ⟨ir_mq10, List.forall_mem_cons.mpr ⟨ir_mq11, List.forall_mem_cons.mpr ⟨ir_mq12, List.forall_mem_cons.mpr ⟨ir_mq13, List.forall_mem_cons.mpr ⟨ir_mq14, List.forall_mem_cons.mpr ⟨ir_mq15, List.forall_mem_cons.mpr ⟨ir_mq16, List.forall_mem_cons.mpr ⟨ir_mq17, List.forall_mem_cons.mpr ⟨ir_mq18, fun _ h => absurd h List.not_mem_nil⟩⟩⟩⟩⟩⟩⟩⟩⟩⟩⟩⟩⟩⟩⟩⟩⟩⟩⟩
def ir_strs : List (Nat × Nat × String) := [(4, 27, "goods person asks apart likes behind middle ring night ruin law not and or good worth age gold place others total day "), (11, 106, "not so many bytes are on the tape"), (4, 98, ";+-*()[]=<>"), (11, 478, "no such person"), (11, 162, "nothing such is known of a person"), (11, 480, "no such good"), (11, 171, "both are one person"), (11, 182, "nobody stands there"), (11, 482, "it isn't in the queue"), (11, 205, "1 to 60 days"), (11, 218, "it is in the queue"), (11, 484, "there is no such place"), (11, 234, "nobody stands there, or behind"), (11, 428, "no such tray"), (11, 491, "the tray is missing"), (11, 268, "not so many deeds can be undone"), (11, 273, "nothing such is judged"), (11, 294, "1 to 30 times"), (11, 296, "there are no people"), (11, 305, "nothing such is known of the best order"), (11, 324, "there is no order to stand in"), (11, 333, "nothing such is known of settling"), (11, 486, "no such set"), (11, 353, "no such plot"), (11, 364, "nothing such is known of a promise"), (11, 378, "nothing such is known of a guard"), (11, 386, "more than 6 are in the queue"), (11, 406, "no such way"), (11, 493, "that can't have come"), (11, 430, "no such sort, or not so many"), (11, 437, "it has no such place"), (11, 495, "no such image"), (11, 460, "no such image was made"), (12, 260, "goods"), (12, 227, "person"), (12, 200, "age"), (12, 202, "gold"), (12, 219, "asks"), (12, 198, "worth"), (12, 232, "apart"), (12, 237, "likes"), (12, 242, "behind"), (12, 244, "middle"), (12, 246, "ring"), (12, 248, "night"), (12, 250, "ruin"), (12, 252, "law"), (12, 176, "not"), (12, 196, "good"), (12, 204, "place"), (12, 206, "others"), (12, 208, "total"), (12, 210, "day"), (12, 174, "and"), (12, 166, "or")]
