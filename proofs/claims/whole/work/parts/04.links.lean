/-! the words that every method may lean on, and where each of them stands -/
def gtbl : List Cond := lw_tbl.filter goodWord
theorem gm {w : Cond} (i : Nat) (h : lw_tbl[i]? = some w) (hg : goodWord w = true) : w ∈ gtbl := List.mem_filter.mpr ⟨List.mem_of_getElem? h, hg⟩
theorem gtbl_in {w : Cond} (h : w ∈ gtbl) : w ∈ lw_tbl := (List.mem_filter.mp h).1
theorem gtbl_good {w : Cond} (h : w ∈ gtbl) : goodWord w = true := (List.mem_filter.mp h).2
theorem sp_0 : Cond.selects "Twinphase" ⟨"Twinphase", "closedStamp", "()I"⟩ ⟨"Twinphase", "closedStamp", "()I"⟩ ∈ gtbl := gm 0 (by decide +kernel) rfl
theorem sp_1 : Cond.selects "Twinphase" ⟨"Twinphase", "resolvedStamp", "()I"⟩ ⟨"Twinphase", "resolvedStamp", "()I"⟩ ∈ gtbl := gm 1 (by decide +kernel) rfl
theorem sp_2 : Cond.selects "java/lang/Throwable" ⟨"java/lang/Throwable", "fillInStackTrace", "(I)Ljava/lang/Throwable;"⟩ ⟨"java/lang/Throwable", "fillInStackTrace", "(I)Ljava/lang/Throwable;"⟩ ∈ gtbl := gm 2 (by decide +kernel) rfl
theorem sp_3 : Cond.selects "Twinphase" ⟨"Twinphase", "needNode", "(I)V"⟩ ⟨"Twinphase", "needNode", "(I)V"⟩ ∈ gtbl := gm 3 (by decide +kernel) rfl
theorem sp_4 : Cond.selects "Twinphase" ⟨"Twinphase", "needUp", "(I)V"⟩ ⟨"Twinphase", "needUp", "(I)V"⟩ ∈ gtbl := gm 4 (by decide +kernel) rfl
theorem sp_5 : Cond.selects "Twinphase" ⟨"Twinphase", "rangeOf", "(I)I"⟩ ⟨"Twinphase", "rangeOf", "(I)I"⟩ ∈ gtbl := gm 5 (by decide +kernel) rfl
theorem sp_6 : Cond.selects "Twinphase" ⟨"Twinphase", "firstKeyOf", "(I)I"⟩ ⟨"Twinphase", "firstKeyOf", "(I)I"⟩ ∈ gtbl := gm 6 (by decide +kernel) rfl
theorem sp_7 : Cond.selects "Twinphase" ⟨"Twinphase", "needTransaction", "(I)V"⟩ ⟨"Twinphase", "needTransaction", "(I)V"⟩ ∈ gtbl := gm 7 (by decide +kernel) rfl
theorem sp_8 : Cond.selects "Twinphase" ⟨"Twinphase", "needKey", "(I)V"⟩ ⟨"Twinphase", "needKey", "(I)V"⟩ ∈ gtbl := gm 8 (by decide +kernel) rfl
theorem sp_9 : Cond.selects "Twinphase" ⟨"Twinphase", "refusalAt", "(LTwinphase$Transaction;I)I"⟩ ⟨"Twinphase", "refusalAt", "(LTwinphase$Transaction;I)I"⟩ ∈ gtbl := gm 9 (by decide +kernel) rfl
theorem sp_10 : Cond.selects "Twinphase" ⟨"Twinphase", "askNode", "(LTwinphase$Transaction;I)V"⟩ ⟨"Twinphase", "askNode", "(LTwinphase$Transaction;I)V"⟩ ∈ gtbl := gm 10 (by decide +kernel) rfl
theorem sp_11 : Cond.selects "Twinphase" ⟨"Twinphase", "lookToRead", "(LTwinphase$Transaction;I)I"⟩ ⟨"Twinphase", "lookToRead", "(LTwinphase$Transaction;I)I"⟩ ∈ gtbl := gm 11 (by decide +kernel) rfl
theorem sp_12 : Cond.selects "Twinphase" ⟨"Twinphase", "meetIntent", "(LTwinphase$Transaction;I)LTwinphase$Transaction;"⟩ ⟨"Twinphase", "meetIntent", "(LTwinphase$Transaction;I)LTwinphase$Transaction;"⟩ ∈ gtbl := gm 12 (by decide +kernel) rfl
theorem sp_13 : Cond.selects "Twinphase" ⟨"Twinphase", "decideStaged", "(LTwinphase$Transaction;)V"⟩ ⟨"Twinphase", "decideStaged", "(LTwinphase$Transaction;)V"⟩ ∈ gtbl := gm 13 (by decide +kernel) rfl
theorem sp_14 : Cond.selects "Twinphase" ⟨"Twinphase", "hasAllIntents", "(LTwinphase$Transaction;)Z"⟩ ⟨"Twinphase", "hasAllIntents", "(LTwinphase$Transaction;)Z"⟩ ∈ gtbl := gm 14 (by decide +kernel) rfl
theorem sp_15 : Cond.selects "Twinphase" ⟨"Twinphase", "waitFor", "(LTwinphase$Transaction;LTwinphase$Transaction;)I"⟩ ⟨"Twinphase", "waitFor", "(LTwinphase$Transaction;LTwinphase$Transaction;)I"⟩ ∈ gtbl := gm 15 (by decide +kernel) rfl
theorem sp_16 : Cond.selects "Twinphase" ⟨"Twinphase", "victimOfRing", "(LTwinphase$Transaction;)LTwinphase$Transaction;"⟩ ⟨"Twinphase", "victimOfRing", "(LTwinphase$Transaction;)LTwinphase$Transaction;"⟩ ∈ gtbl := gm 16 (by decide +kernel) rfl
theorem sp_17 : Cond.selects "Twinphase" ⟨"Twinphase", "refreshReads", "(LTwinphase$Transaction;I)Z"⟩ ⟨"Twinphase", "refreshReads", "(LTwinphase$Transaction;I)Z"⟩ ∈ gtbl := gm 17 (by decide +kernel) rfl
theorem sp_18 : Cond.selects "Twinphase" ⟨"Twinphase", "restartAt", "(LTwinphase$Transaction;I)I"⟩ ⟨"Twinphase", "restartAt", "(LTwinphase$Transaction;I)I"⟩ ∈ gtbl := gm 18 (by decide +kernel) rfl
theorem sp_19 : Cond.selects "Twinphase" ⟨"Twinphase", "lookToWrite", "(LTwinphase$Transaction;II)I"⟩ ⟨"Twinphase", "lookToWrite", "(LTwinphase$Transaction;II)I"⟩ ∈ gtbl := gm 19 (by decide +kernel) rfl
theorem sp_20 : Cond.selects "Twinphase" ⟨"Twinphase", "writesOnDownNode", "(LTwinphase$Transaction;)Z"⟩ ⟨"Twinphase", "writesOnDownNode", "(LTwinphase$Transaction;)Z"⟩ ∈ gtbl := gm 20 (by decide +kernel) rfl
theorem sp_21 : Cond.selects "Twinphase" ⟨"Twinphase", "needWhat", "(I)V"⟩ ⟨"Twinphase", "needWhat", "(I)V"⟩ ∈ gtbl := gm 21 (by decide +kernel) rfl
theorem sp_22 : Cond.selects "Twinphase" ⟨"Twinphase", "needPlace", "(I)V"⟩ ⟨"Twinphase", "needPlace", "(I)V"⟩ ∈ gtbl := gm 22 (by decide +kernel) rfl
theorem sp_23 : Cond.selects "TwinphaseModel" ⟨"TwinphaseModel", "asks", "(I)I"⟩ ⟨"TwinphaseModel", "asks", "(I)I"⟩ ∈ gtbl := gm 23 (by decide +kernel) rfl
theorem sp_24 : Cond.selects "TwinphaseModel" ⟨"TwinphaseModel", "closedNow", "()I"⟩ ⟨"TwinphaseModel", "closedNow", "()I"⟩ ∈ gtbl := gm 24 (by decide +kernel) rfl
theorem sp_25 : Cond.selects "TwinphaseModel" ⟨"TwinphaseModel", "nodeOf", "(I)I"⟩ ⟨"TwinphaseModel", "nodeOf", "(I)I"⟩ ∈ gtbl := gm 25 (by decide +kernel) rfl
theorem sp_26 : Cond.selects "TwinphaseModel" ⟨"TwinphaseModel", "rangeOf", "(I)I"⟩ ⟨"TwinphaseModel", "rangeOf", "(I)I"⟩ ∈ gtbl := gm 26 (by decide +kernel) rfl
theorem sp_27 : Cond.selects "TwinphaseModel" ⟨"TwinphaseModel", "covers", "(II)V"⟩ ⟨"TwinphaseModel", "covers", "(II)V"⟩ ∈ gtbl := gm 27 (by decide +kernel) rfl
theorem sp_28 : Cond.selects "TwinphaseModel" ⟨"TwinphaseModel", "forgets", "(I)V"⟩ ⟨"TwinphaseModel", "forgets", "(I)V"⟩ ∈ gtbl := gm 28 (by decide +kernel) rfl
theorem sp_29 : Cond.selects "TwinphaseModel" ⟨"TwinphaseModel", "areThere", "(II)Z"⟩ ⟨"TwinphaseModel", "areThere", "(II)Z"⟩ ∈ gtbl := gm 29 (by decide +kernel) rfl
theorem sp_30 : Cond.selects "TwinphaseModel" ⟨"TwinphaseModel", "opens", "(II)I"⟩ ⟨"TwinphaseModel", "opens", "(II)I"⟩ ∈ gtbl := gm 30 (by decide +kernel) rfl
theorem sp_31 : Cond.selects "TwinphaseModel" ⟨"TwinphaseModel", "meets", "(II)I"⟩ ⟨"TwinphaseModel", "meets", "(II)I"⟩ ∈ gtbl := gm 31 (by decide +kernel) rfl
theorem sp_32 : Cond.selects "TwinphaseModel" ⟨"TwinphaseModel", "recovers", "(I)V"⟩ ⟨"TwinphaseModel", "recovers", "(I)V"⟩ ∈ gtbl := gm 32 (by decide +kernel) rfl
theorem sp_33 : Cond.selects "TwinphaseModel" ⟨"TwinphaseModel", "hasAllIntents", "(I)Z"⟩ ⟨"TwinphaseModel", "hasAllIntents", "(I)Z"⟩ ∈ gtbl := gm 33 (by decide +kernel) rfl
theorem sp_34 : Cond.selects "TwinphaseModel" ⟨"TwinphaseModel", "commits", "(I)V"⟩ ⟨"TwinphaseModel", "commits", "(I)V"⟩ ∈ gtbl := gm 34 (by decide +kernel) rfl
theorem sp_35 : Cond.selects "TwinphaseModel" ⟨"TwinphaseModel", "isVanished", "(I)Z"⟩ ⟨"TwinphaseModel", "isVanished", "(I)Z"⟩ ∈ gtbl := gm 35 (by decide +kernel) rfl
theorem sp_36 : Cond.selects "TwinphaseModel" ⟨"TwinphaseModel", "comesAnew", "(II)Z"⟩ ⟨"TwinphaseModel", "comesAnew", "(II)Z"⟩ ∈ gtbl := gm 36 (by decide +kernel) rfl
theorem sp_37 : Cond.selects "TwinphaseModel" ⟨"TwinphaseModel", "waitsFor", "(I)I"⟩ ⟨"TwinphaseModel", "waitsFor", "(I)I"⟩ ∈ gtbl := gm 37 (by decide +kernel) rfl
theorem sp_38 : Cond.selects "TwinphaseModel" ⟨"TwinphaseModel", "waitAnswer", "(I)I"⟩ ⟨"TwinphaseModel", "waitAnswer", "(I)I"⟩ ∈ gtbl := gm 38 (by decide +kernel) rfl
theorem sp_39 : Cond.selects "TwinphaseModel" ⟨"TwinphaseModel", "latest", "(II)I"⟩ ⟨"TwinphaseModel", "latest", "(II)I"⟩ ∈ gtbl := gm 39 (by decide +kernel) rfl
theorem sp_40 : Cond.selects "TwinphaseModel" ⟨"TwinphaseModel", "refreshes", "(II)Z"⟩ ⟨"TwinphaseModel", "refreshes", "(II)Z"⟩ ∈ gtbl := gm 40 (by decide +kernel) rfl
theorem sp_41 : Cond.selects "TwinphaseModel" ⟨"TwinphaseModel", "marks", "(III)V"⟩ ⟨"TwinphaseModel", "marks", "(III)V"⟩ ∈ gtbl := gm 41 (by decide +kernel) rfl
theorem sp_42 : Cond.selects "TwinphaseModel" ⟨"TwinphaseModel", "restarts", "(II)I"⟩ ⟨"TwinphaseModel", "restarts", "(II)I"⟩ ∈ gtbl := gm 42 (by decide +kernel) rfl
theorem sp_43 : Cond.selects "TwinphaseModel" ⟨"TwinphaseModel", "valueAt", "(II)I"⟩ ⟨"TwinphaseModel", "valueAt", "(II)I"⟩ ∈ gtbl := gm 43 (by decide +kernel) rfl
theorem sp_44 : Cond.selects "TwinphaseModel" ⟨"TwinphaseModel", "isTransaction", "(I)Z"⟩ ⟨"TwinphaseModel", "isTransaction", "(I)Z"⟩ ∈ gtbl := gm 44 (by decide +kernel) rfl
theorem sp_45 : Cond.selects "TwinphaseModel" ⟨"TwinphaseModel", "counts", "(I[I)I"⟩ ⟨"TwinphaseModel", "counts", "(I[I)I"⟩ ∈ gtbl := gm 45 (by decide +kernel) rfl
theorem sp_46 : Cond.selects "TwinphaseModel" ⟨"TwinphaseModel", "resolvedNow", "()I"⟩ ⟨"TwinphaseModel", "resolvedNow", "()I"⟩ ∈ gtbl := gm 46 (by decide +kernel) rfl
theorem sp_47 : Cond.selects "TwinphaseModel" ⟨"TwinphaseModel", "next", "(I)I"⟩ ⟨"TwinphaseModel", "next", "(I)I"⟩ ∈ gtbl := gm 47 (by decide +kernel) rfl
theorem sp_48 : Cond.selects "TwinphaseModel" ⟨"TwinphaseModel", "isAhead", "(II)Z"⟩ ⟨"TwinphaseModel", "isAhead", "(II)Z"⟩ ∈ gtbl := gm 48 (by decide +kernel) rfl
theorem w_0 : (Jvm.Cond.initialized "TwinphaseLaw") ∈ gtbl := gm 49 (by decide +kernel) rfl
theorem w_1 : (Jvm.Cond.initialized "Twinphase") ∈ gtbl := gm 50 (by decide +kernel) rfl
theorem w_2 : (Jvm.Cond.initialized "Twinphase$History") ∈ gtbl := gm 51 (by decide +kernel) rfl
theorem w_3 : (Jvm.Cond.initialized "Twinphase$Node") ∈ gtbl := gm 52 (by decide +kernel) rfl
theorem w_4 : (Jvm.Cond.initialized "Twinphase$Cell") ∈ gtbl := gm 53 (by decide +kernel) rfl
theorem w_5 : (Jvm.Cond.initialized "TwinphaseModel") ∈ gtbl := gm 54 (by decide +kernel) rfl
theorem w_6 : (Jvm.Cond.initialized "java/lang/Throwable") ∈ gtbl := gm 55 (by decide +kernel) rfl
theorem w_7 : (Jvm.Cond.initialized "java/lang/Exception") ∈ gtbl := gm 56 (by decide +kernel) rfl
theorem w_8 : (Jvm.Cond.initialized "java/lang/RuntimeException") ∈ gtbl := gm 57 (by decide +kernel) rfl
theorem w_9 : (Jvm.Cond.initialized "java/lang/IllegalArgumentException") ∈ gtbl := gm 58 (by decide +kernel) rfl
theorem w_10 : (Jvm.Cond.initialized "java/lang/IllegalStateException") ∈ gtbl := gm 59 (by decide +kernel) rfl
theorem w_11 : (Jvm.Cond.initialized "java/lang/IndexOutOfBoundsException") ∈ gtbl := gm 60 (by decide +kernel) rfl
theorem w_12 : (Jvm.Cond.initialized "java/lang/Math") ∈ gtbl := gm 61 (by decide +kernel) rfl
theorem w_13 : (Jvm.Cond.initialized "Twinphase$Transaction") ∈ gtbl := gm 62 (by decide +kernel) rfl
theorem w_14 : (Jvm.Cond.initialized "java/util/Arrays") ∈ gtbl := gm 63 (by decide +kernel) rfl
theorem w_15 : (Jvm.Cond.initialized "java/lang/System") ∈ gtbl := gm 64 (by decide +kernel) rfl
theorem w_16 : (Jvm.Cond.initialized "java/lang/Integer") ∈ gtbl := gm 65 (by decide +kernel) rfl
theorem w_17 : (Jvm.Cond.classLink "TwinphaseLaw" (8 : Nat) "Twinphase") ∈ gtbl := gm 66 (by decide +kernel) rfl
theorem w_18 : (Jvm.Cond.instantiable "Twinphase" (6 : Nat)) ∈ gtbl := gm 67 (by decide +kernel) rfl
theorem w_19 : (Jvm.Cond.methodLink "TwinphaseLaw" (82 : Nat) ({ cls := "Twinphase", name := "<init>", desc := "()V" } : Jvm.MethodName)) ∈ gtbl := gm 68 (by decide +kernel) rfl
theorem w_20 : (Jvm.Cond.instanceMethod ({ cls := "Twinphase", name := "<init>", desc := "()V" } : Jvm.MethodName)) ∈ gtbl := gm 69 (by decide +kernel) rfl
theorem w_21 : (Jvm.Cond.code ({ cls := "Twinphase", name := "<init>", desc := "()V" } : Jvm.MethodName) prog_1_method_1_code (2 : Nat) (Option.none : Option Jvm.ClassFile.FieldType)) ∈ gtbl := gm 70 (by decide +kernel) rfl
theorem w_22 : (Jvm.Cond.methodLink "Twinphase" (1 : Nat) ({ cls := "java/lang/Object", name := "<init>", desc := "()V" } : Jvm.MethodName)) ∈ gtbl := gm 71 (by decide +kernel) rfl
theorem w_23 : (Jvm.Cond.instanceMethod ({ cls := "java/lang/Object", name := "<init>", desc := "()V" } : Jvm.MethodName)) ∈ gtbl := gm 72 (by decide +kernel) rfl
theorem w_24 : (Jvm.Cond.code ({ cls := "java/lang/Object", name := "<init>", desc := "()V" } : Jvm.MethodName) object_method_1_code (1 : Nat) (Option.none : Option Jvm.ClassFile.FieldType)) ∈ gtbl := gm 73 (by decide +kernel) rfl
theorem w_25 : (Jvm.Cond.classLink "Twinphase" (9 : Nat) "Twinphase$Node") ∈ gtbl := gm 74 (by decide +kernel) rfl
theorem w_27 : (Jvm.Cond.classLink "Twinphase" (15 : Nat) "Twinphase$Cell") ∈ gtbl := gm 76 (by decide +kernel) rfl
theorem w_29 : (Jvm.Cond.classLink "Twinphase" (21 : Nat) "Twinphase$Transaction") ∈ gtbl := gm 78 (by decide +kernel) rfl
theorem w_31 : (Jvm.Cond.classLink "Twinphase" (27 : Nat) "Twinphase$History") ∈ gtbl := gm 80 (by decide +kernel) rfl
theorem w_32 : (Jvm.Cond.instantiable "Twinphase$History" (6 : Nat)) ∈ gtbl := gm 81 (by decide +kernel) rfl
theorem w_34 : (Jvm.Cond.instanceMethod ({ cls := "Twinphase$History", name := "<init>", desc := "()V" } : Jvm.MethodName)) ∈ gtbl := gm 83 (by decide +kernel) rfl
theorem w_35 : (Jvm.Cond.code ({ cls := "Twinphase$History", name := "<init>", desc := "()V" } : Jvm.MethodName) prog_3_method_1_code (1 : Nat) (Option.none : Option Jvm.ClassFile.FieldType)) ∈ gtbl := gm 84 (by decide +kernel) rfl
theorem w_36 : (Jvm.Cond.methodLink "Twinphase$History" (3 : Nat) ({ cls := "java/lang/Object", name := "<init>", desc := "()V" } : Jvm.MethodName)) ∈ gtbl := gm 85 (by decide +kernel) rfl
theorem w_37 : (Jvm.Cond.classLink "Twinphase$History" (18 : Nat) "Twinphase$Transaction") ∈ gtbl := gm 86 (by decide +kernel) rfl
theorem w_38 : (Jvm.Cond.fieldLink "Twinphase$History" (9 : Nat) "Twinphase$History" "changes" "[I") ∈ gtbl := gm 87 (by decide +kernel) rfl
theorem w_39 : (Jvm.Cond.fieldLink "Twinphase$History" (15 : Nat) "Twinphase$History" "values" "[I") ∈ gtbl := gm 88 (by decide +kernel) rfl
theorem w_40 : (Jvm.Cond.fieldLink "Twinphase$History" (27 : Nat) "Twinphase$History" "count" "I") ∈ gtbl := gm 89 (by decide +kernel) rfl
theorem w_41 : (Jvm.Cond.fieldLink "Twinphase$History" (20 : Nat) "Twinphase$History" "inOrder" "[LTwinphase$Transaction;") ∈ gtbl := gm 90 (by decide +kernel) rfl
theorem w_42 : (Jvm.Cond.fieldLink "Twinphase$History" (41 : Nat) "Twinphase$History" "committed" "I") ∈ gtbl := gm 91 (by decide +kernel) rfl
theorem w_43 : (Jvm.Cond.fieldLink "Twinphase$History" (24 : Nat) "Twinphase$History" "redone" "[I") ∈ gtbl := gm 92 (by decide +kernel) rfl
theorem w_56 : (Jvm.Cond.superclass "Twinphase$History" "java/lang/Object") ∈ gtbl := gm 105 (by decide +kernel) rfl
theorem w_57 : (Jvm.Cond.arrayClass Jvm.ClassFile.FieldType.int) ∈ gtbl := gm 106 (by decide +kernel) rfl
theorem w_58 : (Jvm.Cond.instantiable "Twinphase$Node" (3 : Nat)) ∈ gtbl := gm 107 (by decide +kernel) rfl
theorem w_60 : (Jvm.Cond.instanceMethod ({ cls := "Twinphase$Node", name := "<init>", desc := "()V" } : Jvm.MethodName)) ∈ gtbl := gm 109 (by decide +kernel) rfl
theorem w_61 : (Jvm.Cond.code ({ cls := "Twinphase$Node", name := "<init>", desc := "()V" } : Jvm.MethodName) prog_4_method_1_code (1 : Nat) (Option.none : Option Jvm.ClassFile.FieldType)) ∈ gtbl := gm 110 (by decide +kernel) rfl
theorem w_62 : (Jvm.Cond.methodLink "Twinphase$Node" (3 : Nat) ({ cls := "java/lang/Object", name := "<init>", desc := "()V" } : Jvm.MethodName)) ∈ gtbl := gm 111 (by decide +kernel) rfl
theorem w_63 : (Jvm.Cond.fieldLink "Twinphase$Node" (9 : Nat) "Twinphase$Node" "ahead" "I") ∈ gtbl := gm 112 (by decide +kernel) rfl
theorem w_64 : (Jvm.Cond.fieldLink "Twinphase" (62 : Nat) "Twinphase$Node" "ahead" "I") ∈ gtbl := gm 113 (by decide +kernel) rfl
theorem w_65 : (Jvm.Cond.fieldLink "Twinphase$Node" (15 : Nat) "Twinphase$Node" "greatestMet" "I") ∈ gtbl := gm 114 (by decide +kernel) rfl
theorem w_66 : (Jvm.Cond.fieldLink "Twinphase" (76 : Nat) "Twinphase$Node" "isDown" "Z") ∈ gtbl := gm 115 (by decide +kernel) rfl
theorem w_73 : (Jvm.Cond.superclass "Twinphase$Node" "java/lang/Object") ∈ gtbl := gm 122 (by decide +kernel) rfl
theorem w_74 : (Jvm.Cond.instantiable "Twinphase$Cell" (6 : Nat)) ∈ gtbl := gm 123 (by decide +kernel) rfl
theorem w_76 : (Jvm.Cond.instanceMethod ({ cls := "Twinphase$Cell", name := "<init>", desc := "()V" } : Jvm.MethodName)) ∈ gtbl := gm 125 (by decide +kernel) rfl
theorem w_77 : (Jvm.Cond.code ({ cls := "Twinphase$Cell", name := "<init>", desc := "()V" } : Jvm.MethodName) prog_2_method_1_code (1 : Nat) (Option.none : Option Jvm.ClassFile.FieldType)) ∈ gtbl := gm 126 (by decide +kernel) rfl
theorem w_78 : (Jvm.Cond.methodLink "Twinphase$Cell" (3 : Nat) ({ cls := "java/lang/Object", name := "<init>", desc := "()V" } : Jvm.MethodName)) ∈ gtbl := gm 127 (by decide +kernel) rfl
theorem w_79 : (Jvm.Cond.fieldLink "Twinphase" (79 : Nat) "Twinphase$Cell" "node" "I") ∈ gtbl := gm 128 (by decide +kernel) rfl
theorem w_80 : (Jvm.Cond.fieldLink "Twinphase" (36 : Nat) "Twinphase$Cell" "beginsRange" "Z") ∈ gtbl := gm 129 (by decide +kernel) rfl
theorem w_81 : (Jvm.Cond.fieldLink "Twinphase" (82 : Nat) "Twinphase$Cell" "owner" "LTwinphase$Transaction;") ∈ gtbl := gm 130 (by decide +kernel) rfl
theorem w_82 : (Jvm.Cond.fieldLink "Twinphase" (86 : Nat) "Twinphase$Cell" "isSure" "Z") ∈ gtbl := gm 131 (by decide +kernel) rfl
theorem w_83 : (Jvm.Cond.fieldLink "Twinphase$Cell" (15 : Nat) "Twinphase$Cell" "readStamp" "I") ∈ gtbl := gm 132 (by decide +kernel) rfl
theorem w_84 : (Jvm.Cond.fieldLink "Twinphase" (217 : Nat) "Twinphase$Cell" "readStamp" "I") ∈ gtbl := gm 133 (by decide +kernel) rfl
theorem w_85 : (Jvm.Cond.fieldLink "Twinphase$Cell" (9 : Nat) "Twinphase$Cell" "readBy" "I") ∈ gtbl := gm 134 (by decide +kernel) rfl
theorem w_86 : (Jvm.Cond.fieldLink "Twinphase" (218 : Nat) "Twinphase$Cell" "readBy" "I") ∈ gtbl := gm 135 (by decide +kernel) rfl
theorem w_99 : (Jvm.Cond.superclass "Twinphase$Cell" "java/lang/Object") ∈ gtbl := gm 148 (by decide +kernel) rfl
theorem w_100 : (Jvm.Cond.fieldLink "Twinphase" (47 : Nat) "Twinphase" "time" "I") ∈ gtbl := gm 149 (by decide +kernel) rfl
theorem w_101 : (Jvm.Cond.fieldLink "Twinphase" (11 : Nat) "Twinphase" "nodes" "[LTwinphase$Node;") ∈ gtbl := gm 150 (by decide +kernel) rfl
theorem w_102 : (Jvm.Cond.fieldLink "Twinphase" (17 : Nat) "Twinphase" "cells" "[LTwinphase$Cell;") ∈ gtbl := gm 151 (by decide +kernel) rfl
theorem w_103 : (Jvm.Cond.fieldLink "Twinphase" (23 : Nat) "Twinphase" "transactions" "[LTwinphase$Transaction;") ∈ gtbl := gm 152 (by decide +kernel) rfl
theorem w_104 : (Jvm.Cond.fieldLink "Twinphase" (115 : Nat) "Twinphase" "begun" "I") ∈ gtbl := gm 153 (by decide +kernel) rfl
theorem w_105 : (Jvm.Cond.fieldLink "Twinphase" (30 : Nat) "Twinphase" "history" "LTwinphase$History;") ∈ gtbl := gm 154 (by decide +kernel) rfl
theorem w_118 : (Jvm.Cond.superclass "Twinphase" "java/lang/Object") ∈ gtbl := gm 167 (by decide +kernel) rfl
theorem w_119 : (Jvm.Cond.methodLink "TwinphaseLaw" (103 : Nat) ({ cls := "Twinphase", name := "closed", desc := "()I" } : Jvm.MethodName)) ∈ gtbl := gm 168 (by decide +kernel) rfl
theorem w_120 : (Jvm.Cond.instanceMethod ({ cls := "Twinphase", name := "closed", desc := "()I" } : Jvm.MethodName)) ∈ gtbl := gm 169 (by decide +kernel) rfl
theorem w_121 : (Jvm.Cond.selects "Twinphase" ({ cls := "Twinphase", name := "closed", desc := "()I" } : Jvm.MethodName) ({ cls := "Twinphase", name := "closed", desc := "()I" } : Jvm.MethodName)) ∈ gtbl := gm 170 (by decide +kernel) rfl
theorem w_122 : (Jvm.Cond.code ({ cls := "Twinphase", name := "closed", desc := "()I" } : Jvm.MethodName) prog_1_method_5_code (1 : Nat) (Option.some Jvm.ClassFile.FieldType.int)) ∈ gtbl := gm 171 (by decide +kernel) rfl
theorem w_123 : (Jvm.Cond.methodLink "Twinphase" (72 : Nat) ({ cls := "Twinphase", name := "closedStamp", desc := "()I" } : Jvm.MethodName)) ∈ gtbl := gm 172 (by decide +kernel) rfl
theorem w_125 : (Jvm.Cond.instanceMethod ({ cls := "Twinphase", name := "closedStamp", desc := "()I" } : Jvm.MethodName)) ∈ gtbl := gm 174 (by decide +kernel) rfl
theorem w_126 : (Jvm.Cond.code ({ cls := "Twinphase", name := "closedStamp", desc := "()I" } : Jvm.MethodName) prog_1_method_32_code (1 : Nat) (Option.some Jvm.ClassFile.FieldType.int)) ∈ gtbl := gm 175 (by decide +kernel) rfl
theorem w_127 : (Jvm.Cond.methodLink "Twinphase" (166 : Nat) ({ cls := "java/lang/Math", name := "max", desc := "(II)I" } : Jvm.MethodName)) ∈ gtbl := gm 176 (by decide +kernel) rfl
theorem w_128 : (Jvm.Cond.static ({ cls := "java/lang/Math", name := "max", desc := "(II)I" } : Jvm.MethodName)) ∈ gtbl := gm 177 (by decide +kernel) rfl
theorem w_129 : (Jvm.Cond.code ({ cls := "java/lang/Math", name := "max", desc := "(II)I" } : Jvm.MethodName) prog_14_method_65_code (2 : Nat) (Option.some Jvm.ClassFile.FieldType.int)) ∈ gtbl := gm 178 (by decide +kernel) rfl
theorem w_130 : (Jvm.Cond.methodLink "TwinphaseLaw" (157 : Nat) ({ cls := "Twinphase", name := "resolved", desc := "()I" } : Jvm.MethodName)) ∈ gtbl := gm 179 (by decide +kernel) rfl
theorem w_131 : (Jvm.Cond.instanceMethod ({ cls := "Twinphase", name := "resolved", desc := "()I" } : Jvm.MethodName)) ∈ gtbl := gm 180 (by decide +kernel) rfl
theorem w_132 : (Jvm.Cond.selects "Twinphase" ({ cls := "Twinphase", name := "resolved", desc := "()I" } : Jvm.MethodName) ({ cls := "Twinphase", name := "resolved", desc := "()I" } : Jvm.MethodName)) ∈ gtbl := gm 181 (by decide +kernel) rfl
theorem w_133 : (Jvm.Cond.code ({ cls := "Twinphase", name := "resolved", desc := "()I" } : Jvm.MethodName) prog_1_method_22_code (1 : Nat) (Option.some Jvm.ClassFile.FieldType.int)) ∈ gtbl := gm 182 (by decide +kernel) rfl
theorem w_134 : (Jvm.Cond.methodLink "Twinphase" (226 : Nat) ({ cls := "Twinphase", name := "resolvedStamp", desc := "()I" } : Jvm.MethodName)) ∈ gtbl := gm 183 (by decide +kernel) rfl
theorem w_136 : (Jvm.Cond.instanceMethod ({ cls := "Twinphase", name := "resolvedStamp", desc := "()I" } : Jvm.MethodName)) ∈ gtbl := gm 185 (by decide +kernel) rfl
theorem w_137 : (Jvm.Cond.code ({ cls := "Twinphase", name := "resolvedStamp", desc := "()I" } : Jvm.MethodName) prog_1_method_33_code (3 : Nat) (Option.some Jvm.ClassFile.FieldType.int)) ∈ gtbl := gm 186 (by decide +kernel) rfl
theorem w_138 : (Jvm.Cond.methodLink "Twinphase" (254 : Nat) ({ cls := "java/lang/Math", name := "min", desc := "(II)I" } : Jvm.MethodName)) ∈ gtbl := gm 187 (by decide +kernel) rfl
theorem w_139 : (Jvm.Cond.static ({ cls := "java/lang/Math", name := "min", desc := "(II)I" } : Jvm.MethodName)) ∈ gtbl := gm 188 (by decide +kernel) rfl
theorem w_140 : (Jvm.Cond.code ({ cls := "java/lang/Math", name := "min", desc := "(II)I" } : Jvm.MethodName) prog_14_method_69_code (2 : Nat) (Option.some Jvm.ClassFile.FieldType.int)) ∈ gtbl := gm 189 (by decide +kernel) rfl
theorem w_141 : (Jvm.Cond.methodLink "TwinphaseLaw" (167 : Nat) ({ cls := "Twinphase", name := "judged", desc := "()I" } : Jvm.MethodName)) ∈ gtbl := gm 190 (by decide +kernel) rfl
theorem w_142 : (Jvm.Cond.instanceMethod ({ cls := "Twinphase", name := "judged", desc := "()I" } : Jvm.MethodName)) ∈ gtbl := gm 191 (by decide +kernel) rfl
theorem w_143 : (Jvm.Cond.selects "Twinphase" ({ cls := "Twinphase", name := "judged", desc := "()I" } : Jvm.MethodName) ({ cls := "Twinphase", name := "judged", desc := "()I" } : Jvm.MethodName)) ∈ gtbl := gm 192 (by decide +kernel) rfl
theorem w_144 : (Jvm.Cond.code ({ cls := "Twinphase", name := "judged", desc := "()I" } : Jvm.MethodName) prog_1_method_25_code (1 : Nat) (Option.some Jvm.ClassFile.FieldType.int)) ∈ gtbl := gm 193 (by decide +kernel) rfl
theorem w_145 : (Jvm.Cond.methodLink "Twinphase" (239 : Nat) ({ cls := "Twinphase$History", name := "countUnexplained", desc := "()I" } : Jvm.MethodName)) ∈ gtbl := gm 194 (by decide +kernel) rfl
theorem w_146 : (Jvm.Cond.instanceMethod ({ cls := "Twinphase$History", name := "countUnexplained", desc := "()I" } : Jvm.MethodName)) ∈ gtbl := gm 195 (by decide +kernel) rfl
theorem w_147 : (Jvm.Cond.selects "Twinphase$History" ({ cls := "Twinphase$History", name := "countUnexplained", desc := "()I" } : Jvm.MethodName) ({ cls := "Twinphase$History", name := "countUnexplained", desc := "()I" } : Jvm.MethodName)) ∈ gtbl := gm 196 (by decide +kernel) rfl
theorem w_148 : (Jvm.Cond.code ({ cls := "Twinphase$History", name := "countUnexplained", desc := "()I" } : Jvm.MethodName) prog_3_method_10_code (3 : Nat) (Option.some Jvm.ClassFile.FieldType.int)) ∈ gtbl := gm 197 (by decide +kernel) rfl
theorem w_149 : (Jvm.Cond.methodLink "Twinphase$History" (47 : Nat) ({ cls := "java/util/Arrays", name := "fill", desc := "([II)V" } : Jvm.MethodName)) ∈ gtbl := gm 198 (by decide +kernel) rfl
theorem w_150 : (Jvm.Cond.static ({ cls := "java/util/Arrays", name := "fill", desc := "([II)V" } : Jvm.MethodName)) ∈ gtbl := gm 199 (by decide +kernel) rfl
theorem w_151 : (Jvm.Cond.code ({ cls := "java/util/Arrays", name := "fill", desc := "([II)V" } : Jvm.MethodName) prog_19_method_103_code (4 : Nat) (Option.none : Option Jvm.ClassFile.FieldType)) ∈ gtbl := gm 200 (by decide +kernel) rfl
theorem w_152 : (Jvm.Cond.methodLink "Twinphase$History" (51 : Nat) ({ cls := "Twinphase$History", name := "redo", desc := "(LTwinphase$Transaction;)I" } : Jvm.MethodName)) ∈ gtbl := gm 201 (by decide +kernel) rfl
theorem w_153 : (Jvm.Cond.instanceMethod ({ cls := "Twinphase$History", name := "redo", desc := "(LTwinphase$Transaction;)I" } : Jvm.MethodName)) ∈ gtbl := gm 202 (by decide +kernel) rfl
theorem w_154 : (Jvm.Cond.selects "Twinphase$History" ({ cls := "Twinphase$History", name := "redo", desc := "(LTwinphase$Transaction;)I" } : Jvm.MethodName) ({ cls := "Twinphase$History", name := "redo", desc := "(LTwinphase$Transaction;)I" } : Jvm.MethodName)) ∈ gtbl := gm 203 (by decide +kernel) rfl
theorem w_155 : (Jvm.Cond.code ({ cls := "Twinphase$History", name := "redo", desc := "(LTwinphase$Transaction;)I" } : Jvm.MethodName) prog_3_method_11_code (4 : Nat) (Option.some Jvm.ClassFile.FieldType.int)) ∈ gtbl := gm 204 (by decide +kernel) rfl
theorem w_156 : (Jvm.Cond.methodLink "Twinphase$History" (55 : Nat) ({ cls := "Twinphase$Transaction", name := "hasRead", desc := "(I)Z" } : Jvm.MethodName)) ∈ gtbl := gm 205 (by decide +kernel) rfl
theorem w_157 : (Jvm.Cond.instanceMethod ({ cls := "Twinphase$Transaction", name := "hasRead", desc := "(I)Z" } : Jvm.MethodName)) ∈ gtbl := gm 206 (by decide +kernel) rfl
theorem w_158 : (Jvm.Cond.selects "Twinphase$Transaction" ({ cls := "Twinphase$Transaction", name := "hasRead", desc := "(I)Z" } : Jvm.MethodName) ({ cls := "Twinphase$Transaction", name := "hasRead", desc := "(I)Z" } : Jvm.MethodName)) ∈ gtbl := gm 207 (by decide +kernel) rfl
theorem w_159 : (Jvm.Cond.code ({ cls := "Twinphase$Transaction", name := "hasRead", desc := "(I)Z" } : Jvm.MethodName) prog_5_method_7_code (2 : Nat) (Option.some Jvm.ClassFile.FieldType.boolean)) ∈ gtbl := gm 208 (by decide +kernel) rfl
theorem w_160 : (Jvm.Cond.methodLink "Twinphase$History" (62 : Nat) ({ cls := "Twinphase$Transaction", name := "writes", desc := "(I)Z" } : Jvm.MethodName)) ∈ gtbl := gm 209 (by decide +kernel) rfl
theorem w_161 : (Jvm.Cond.instanceMethod ({ cls := "Twinphase$Transaction", name := "writes", desc := "(I)Z" } : Jvm.MethodName)) ∈ gtbl := gm 210 (by decide +kernel) rfl
theorem w_162 : (Jvm.Cond.selects "Twinphase$Transaction" ({ cls := "Twinphase$Transaction", name := "writes", desc := "(I)Z" } : Jvm.MethodName) ({ cls := "Twinphase$Transaction", name := "writes", desc := "(I)Z" } : Jvm.MethodName)) ∈ gtbl := gm 211 (by decide +kernel) rfl
theorem w_163 : (Jvm.Cond.code ({ cls := "Twinphase$Transaction", name := "writes", desc := "(I)Z" } : Jvm.MethodName) prog_5_method_9_code (2 : Nat) (Option.some Jvm.ClassFile.FieldType.boolean)) ∈ gtbl := gm 212 (by decide +kernel) rfl
theorem w_164 : (Jvm.Cond.methodLink "TwinphaseLaw" (86 : Nat) ({ cls := "TwinphaseLaw", name := "pass", desc := "(LTwinphase;I[J)I" } : Jvm.MethodName)) ∈ gtbl := gm 213 (by decide +kernel) rfl
theorem w_165 : (Jvm.Cond.static ({ cls := "TwinphaseLaw", name := "pass", desc := "(LTwinphase;I[J)I" } : Jvm.MethodName)) ∈ gtbl := gm 214 (by decide +kernel) rfl
theorem w_166 : (Jvm.Cond.codeWith ({ cls := "TwinphaseLaw", name := "pass", desc := "(LTwinphase;I[J)I" } : Jvm.MethodName) method_3_code (4 : Nat) (Option.some Jvm.ClassFile.FieldType.int) [((0 : Nat), (9 : Nat), (12 : Nat), (13 : Nat)), ((0 : Nat), (9 : Nat), (15 : Nat), (15 : Nat))]) ∈ gtbl := gm 215 (by decide +kernel) rfl
theorem w_167 : (Jvm.Cond.classLink "TwinphaseLaw" (13 : Nat) "java/lang/IllegalArgumentException") ∈ gtbl := gm 216 (by decide +kernel) rfl
theorem w_168 : (Jvm.Cond.classLink "TwinphaseLaw" (15 : Nat) "java/lang/IllegalStateException") ∈ gtbl := gm 217 (by decide +kernel) rfl
theorem w_169 : (Jvm.Cond.methodLink "TwinphaseLaw" (7 : Nat) ({ cls := "Twinphase", name := "pass", desc := "(I)I" } : Jvm.MethodName)) ∈ gtbl := gm 218 (by decide +kernel) rfl
theorem w_170 : (Jvm.Cond.instanceMethod ({ cls := "Twinphase", name := "pass", desc := "(I)I" } : Jvm.MethodName)) ∈ gtbl := gm 219 (by decide +kernel) rfl
theorem w_171 : (Jvm.Cond.selects "Twinphase" ({ cls := "Twinphase", name := "pass", desc := "(I)I" } : Jvm.MethodName) ({ cls := "Twinphase", name := "pass", desc := "(I)I" } : Jvm.MethodName)) ∈ gtbl := gm 220 (by decide +kernel) rfl
theorem w_172 : (Jvm.Cond.code ({ cls := "Twinphase", name := "pass", desc := "(I)I" } : Jvm.MethodName) prog_1_method_2_code (2 : Nat) (Option.some Jvm.ClassFile.FieldType.int)) ∈ gtbl := gm 221 (by decide +kernel) rfl
theorem w_173 : (Jvm.Cond.classLink "Twinphase" (40 : Nat) "java/lang/IllegalArgumentException") ∈ gtbl := gm 222 (by decide +kernel) rfl
theorem w_174 : (Jvm.Cond.instantiable "java/lang/IllegalArgumentException" (6 : Nat)) ∈ gtbl := gm 223 (by decide +kernel) rfl
theorem w_182 : (Jvm.Cond.selects "java/lang/IllegalArgumentException" ({ cls := "java/lang/Throwable", name := "fillInStackTrace", desc := "(I)Ljava/lang/Throwable;" } : Jvm.MethodName) ({ cls := "java/lang/Throwable", name := "fillInStackTrace", desc := "(I)Ljava/lang/Throwable;" } : Jvm.MethodName)) ∈ gtbl := gm 231 (by decide +kernel) rfl
theorem w_183 : (Jvm.Cond.selects "java/lang/IllegalArgumentException" ({ cls := "java/lang/Throwable", name := "fillInStackTrace", desc := "()Ljava/lang/Throwable;" } : Jvm.MethodName) ({ cls := "java/lang/Throwable", name := "fillInStackTrace", desc := "()Ljava/lang/Throwable;" } : Jvm.MethodName)) ∈ gtbl := gm 232 (by decide +kernel) rfl
theorem w_194 : (Jvm.Cond.fieldLink "java/lang/Throwable" (198 : Nat) "java/lang/Throwable" "backtrace" "Ljava/lang/Object;") ∈ gtbl := gm 243 (by decide +kernel) rfl
theorem w_195 : (Jvm.Cond.superclass "java/lang/Throwable" "java/lang/Object") ∈ gtbl := gm 244 (by decide +kernel) rfl
theorem w_196 : (Jvm.Cond.instanceMethod ({ cls := "java/lang/Throwable", name := "<init>", desc := "()V" } : Jvm.MethodName)) ∈ gtbl := gm 245 (by decide +kernel) rfl
theorem w_197 : (Jvm.Cond.code ({ cls := "java/lang/Throwable", name := "<init>", desc := "()V" } : Jvm.MethodName) prog_18_method_1_code (1 : Nat) (Option.none : Option Jvm.ClassFile.FieldType)) ∈ gtbl := gm 246 (by decide +kernel) rfl
theorem w_198 : (Jvm.Cond.methodLink "java/lang/Throwable" (1 : Nat) ({ cls := "java/lang/Object", name := "<init>", desc := "()V" } : Jvm.MethodName)) ∈ gtbl := gm 247 (by decide +kernel) rfl
theorem w_199 : (Jvm.Cond.fieldLink "java/lang/Throwable" (13 : Nat) "java/lang/Throwable" "UNASSIGNED_STACK" "[Ljava/lang/StackTraceElement;") ∈ gtbl := gm 248 (by decide +kernel) rfl
theorem w_201 : (Jvm.Cond.fieldLink "java/lang/Throwable" (20 : Nat) "java/lang/Throwable" "SUPPRESSED_SENTINEL" "Ljava/util/List;") ∈ gtbl := gm 250 (by decide +kernel) rfl
theorem w_203 : (Jvm.Cond.methodLink "java/lang/Throwable" (27 : Nat) ({ cls := "java/lang/Throwable", name := "fillInStackTrace", desc := "()Ljava/lang/Throwable;" } : Jvm.MethodName)) ∈ gtbl := gm 252 (by decide +kernel) rfl
theorem w_204 : (Jvm.Cond.instanceMethod ({ cls := "java/lang/Throwable", name := "fillInStackTrace", desc := "()Ljava/lang/Throwable;" } : Jvm.MethodName)) ∈ gtbl := gm 253 (by decide +kernel) rfl
theorem w_205 : (Jvm.Cond.sameMethod "java/lang/Throwable" "java/lang/Throwable" "fillInStackTrace" "()Ljava/lang/Throwable;") ∈ gtbl := gm 254 (by decide +kernel) rfl
theorem w_206 : (Jvm.Cond.selects "java/lang/IllegalStateException" ({ cls := "java/lang/Throwable", name := "fillInStackTrace", desc := "()Ljava/lang/Throwable;" } : Jvm.MethodName) ({ cls := "java/lang/Throwable", name := "fillInStackTrace", desc := "()Ljava/lang/Throwable;" } : Jvm.MethodName)) ∈ gtbl := gm 255 (by decide +kernel) rfl
theorem w_207 : (Jvm.Cond.selects "java/lang/IndexOutOfBoundsException" ({ cls := "java/lang/Throwable", name := "fillInStackTrace", desc := "()Ljava/lang/Throwable;" } : Jvm.MethodName) ({ cls := "java/lang/Throwable", name := "fillInStackTrace", desc := "()Ljava/lang/Throwable;" } : Jvm.MethodName)) ∈ gtbl := gm 256 (by decide +kernel) rfl
theorem w_209 : (Jvm.Cond.methodLink "java/lang/Throwable" (202 : Nat) ({ cls := "java/lang/Throwable", name := "fillInStackTrace", desc := "(I)Ljava/lang/Throwable;" } : Jvm.MethodName)) ∈ gtbl := gm 258 (by decide +kernel) rfl
theorem w_211 : (Jvm.Cond.instanceMethod ({ cls := "java/lang/Throwable", name := "fillInStackTrace", desc := "(I)Ljava/lang/Throwable;" } : Jvm.MethodName)) ∈ gtbl := gm 260 (by decide +kernel) rfl
theorem w_212 : (Jvm.Cond.instantiable "java/lang/Throwable" (6 : Nat)) ∈ gtbl := gm 261 (by decide +kernel) rfl
theorem w_213 : (Jvm.Cond.native ({ cls := "java/lang/Throwable", name := "fillInStackTrace", desc := "(I)Ljava/lang/Throwable;" } : Jvm.MethodName)) ∈ gtbl := gm 262 (by decide +kernel) rfl
theorem w_215 : (Jvm.Cond.methodLink "Twinphase" (44 : Nat) ({ cls := "java/lang/IllegalArgumentException", name := "<init>", desc := "(Ljava/lang/String;)V" } : Jvm.MethodName)) ∈ gtbl := gm 264 (by decide +kernel) rfl
theorem w_216 : (Jvm.Cond.instanceMethod ({ cls := "java/lang/IllegalArgumentException", name := "<init>", desc := "(Ljava/lang/String;)V" } : Jvm.MethodName)) ∈ gtbl := gm 265 (by decide +kernel) rfl
theorem w_217 : (Jvm.Cond.code ({ cls := "java/lang/IllegalArgumentException", name := "<init>", desc := "(Ljava/lang/String;)V" } : Jvm.MethodName) prog_10_method_2_code (2 : Nat) (Option.none : Option Jvm.ClassFile.FieldType)) ∈ gtbl := gm 266 (by decide +kernel) rfl
theorem w_218 : (Jvm.Cond.methodLink "java/lang/IllegalArgumentException" (7 : Nat) ({ cls := "java/lang/RuntimeException", name := "<init>", desc := "(Ljava/lang/String;)V" } : Jvm.MethodName)) ∈ gtbl := gm 267 (by decide +kernel) rfl
theorem w_219 : (Jvm.Cond.instanceMethod ({ cls := "java/lang/RuntimeException", name := "<init>", desc := "(Ljava/lang/String;)V" } : Jvm.MethodName)) ∈ gtbl := gm 268 (by decide +kernel) rfl
theorem w_220 : (Jvm.Cond.code ({ cls := "java/lang/RuntimeException", name := "<init>", desc := "(Ljava/lang/String;)V" } : Jvm.MethodName) prog_15_method_2_code (2 : Nat) (Option.none : Option Jvm.ClassFile.FieldType)) ∈ gtbl := gm 269 (by decide +kernel) rfl
theorem w_221 : (Jvm.Cond.methodLink "java/lang/RuntimeException" (7 : Nat) ({ cls := "java/lang/Exception", name := "<init>", desc := "(Ljava/lang/String;)V" } : Jvm.MethodName)) ∈ gtbl := gm 270 (by decide +kernel) rfl
theorem w_222 : (Jvm.Cond.instanceMethod ({ cls := "java/lang/Exception", name := "<init>", desc := "(Ljava/lang/String;)V" } : Jvm.MethodName)) ∈ gtbl := gm 271 (by decide +kernel) rfl
theorem w_223 : (Jvm.Cond.code ({ cls := "java/lang/Exception", name := "<init>", desc := "(Ljava/lang/String;)V" } : Jvm.MethodName) prog_9_method_2_code (2 : Nat) (Option.none : Option Jvm.ClassFile.FieldType)) ∈ gtbl := gm 272 (by decide +kernel) rfl
theorem w_224 : (Jvm.Cond.methodLink "java/lang/Exception" (7 : Nat) ({ cls := "java/lang/Throwable", name := "<init>", desc := "(Ljava/lang/String;)V" } : Jvm.MethodName)) ∈ gtbl := gm 273 (by decide +kernel) rfl
theorem w_225 : (Jvm.Cond.instanceMethod ({ cls := "java/lang/Throwable", name := "<init>", desc := "(Ljava/lang/String;)V" } : Jvm.MethodName)) ∈ gtbl := gm 274 (by decide +kernel) rfl
theorem w_226 : (Jvm.Cond.code ({ cls := "java/lang/Throwable", name := "<init>", desc := "(Ljava/lang/String;)V" } : Jvm.MethodName) prog_18_method_2_code (2 : Nat) (Option.none : Option Jvm.ClassFile.FieldType)) ∈ gtbl := gm 275 (by decide +kernel) rfl
theorem w_227 : (Jvm.Cond.fieldLink "java/lang/Throwable" (198 : Nat) "java/lang/Throwable" "backtrace" "Ljava/lang/Object;") ∈ gtbl := gm 276 (by decide +kernel) rfl
theorem w_228 : (Jvm.Cond.fieldLink "java/lang/Throwable" (31 : Nat) "java/lang/Throwable" "detailMessage" "Ljava/lang/String;") ∈ gtbl := gm 277 (by decide +kernel) rfl
theorem w_229 : (Jvm.Cond.fieldLink "java/lang/Throwable" (7 : Nat) "java/lang/Throwable" "cause" "Ljava/lang/Throwable;") ∈ gtbl := gm 278 (by decide +kernel) rfl
theorem w_230 : (Jvm.Cond.fieldLink "java/lang/Throwable" (17 : Nat) "java/lang/Throwable" "stackTrace" "[Ljava/lang/StackTraceElement;") ∈ gtbl := gm 279 (by decide +kernel) rfl
theorem w_231 : (Jvm.Cond.fieldLink "java/lang/Throwable" (24 : Nat) "java/lang/Throwable" "suppressedExceptions" "Ljava/util/List;") ∈ gtbl := gm 280 (by decide +kernel) rfl
theorem w_239 : (Jvm.Cond.superclass "java/lang/IllegalArgumentException" "java/lang/RuntimeException") ∈ gtbl := gm 288 (by decide +kernel) rfl
theorem w_240 : (Jvm.Cond.arrayClass Jvm.ClassFile.FieldType.byte) ∈ gtbl := gm 289 (by decide +kernel) rfl
theorem w_241 : (Jvm.Cond.classLink "Twinphase" (51 : Nat) "java/lang/IllegalStateException") ∈ gtbl := gm 290 (by decide +kernel) rfl
theorem w_242 : (Jvm.Cond.instantiable "java/lang/IllegalStateException" (6 : Nat)) ∈ gtbl := gm 291 (by decide +kernel) rfl
theorem w_244 : (Jvm.Cond.selects "java/lang/IllegalStateException" ({ cls := "java/lang/Throwable", name := "fillInStackTrace", desc := "(I)Ljava/lang/Throwable;" } : Jvm.MethodName) ({ cls := "java/lang/Throwable", name := "fillInStackTrace", desc := "(I)Ljava/lang/Throwable;" } : Jvm.MethodName)) ∈ gtbl := gm 293 (by decide +kernel) rfl
theorem w_251 : (Jvm.Cond.methodLink "Twinphase" (55 : Nat) ({ cls := "java/lang/IllegalStateException", name := "<init>", desc := "(Ljava/lang/String;)V" } : Jvm.MethodName)) ∈ gtbl := gm 300 (by decide +kernel) rfl
theorem w_252 : (Jvm.Cond.instanceMethod ({ cls := "java/lang/IllegalStateException", name := "<init>", desc := "(Ljava/lang/String;)V" } : Jvm.MethodName)) ∈ gtbl := gm 301 (by decide +kernel) rfl
theorem w_253 : (Jvm.Cond.code ({ cls := "java/lang/IllegalStateException", name := "<init>", desc := "(Ljava/lang/String;)V" } : Jvm.MethodName) prog_11_method_2_code (2 : Nat) (Option.none : Option Jvm.ClassFile.FieldType)) ∈ gtbl := gm 302 (by decide +kernel) rfl
theorem w_254 : (Jvm.Cond.methodLink "java/lang/IllegalStateException" (7 : Nat) ({ cls := "java/lang/RuntimeException", name := "<init>", desc := "(Ljava/lang/String;)V" } : Jvm.MethodName)) ∈ gtbl := gm 303 (by decide +kernel) rfl
theorem w_256 : (Jvm.Cond.superclass "java/lang/IllegalStateException" "java/lang/RuntimeException") ∈ gtbl := gm 305 (by decide +kernel) rfl
theorem w_257 : (Jvm.Cond.methodLink "TwinphaseLaw" (96 : Nat) ({ cls := "TwinphaseLaw", name := "skew", desc := "(LTwinphase;II[J)I" } : Jvm.MethodName)) ∈ gtbl := gm 306 (by decide +kernel) rfl
theorem w_258 : (Jvm.Cond.static ({ cls := "TwinphaseLaw", name := "skew", desc := "(LTwinphase;II[J)I" } : Jvm.MethodName)) ∈ gtbl := gm 307 (by decide +kernel) rfl
theorem w_259 : (Jvm.Cond.codeWith ({ cls := "TwinphaseLaw", name := "skew", desc := "(LTwinphase;II[J)I" } : Jvm.MethodName) method_4_code (5 : Nat) (Option.some Jvm.ClassFile.FieldType.int) [((0 : Nat), (10 : Nat), (13 : Nat), (21 : Nat)), ((0 : Nat), (10 : Nat), (17 : Nat), (13 : Nat))]) ∈ gtbl := gm 308 (by decide +kernel) rfl
theorem w_260 : (Jvm.Cond.classLink "TwinphaseLaw" (21 : Nat) "java/lang/IndexOutOfBoundsException") ∈ gtbl := gm 309 (by decide +kernel) rfl
theorem w_261 : (Jvm.Cond.methodLink "TwinphaseLaw" (17 : Nat) ({ cls := "Twinphase", name := "skew", desc := "(II)I" } : Jvm.MethodName)) ∈ gtbl := gm 310 (by decide +kernel) rfl
theorem w_262 : (Jvm.Cond.instanceMethod ({ cls := "Twinphase", name := "skew", desc := "(II)I" } : Jvm.MethodName)) ∈ gtbl := gm 311 (by decide +kernel) rfl
theorem w_263 : (Jvm.Cond.selects "Twinphase" ({ cls := "Twinphase", name := "skew", desc := "(II)I" } : Jvm.MethodName) ({ cls := "Twinphase", name := "skew", desc := "(II)I" } : Jvm.MethodName)) ∈ gtbl := gm 312 (by decide +kernel) rfl
theorem w_264 : (Jvm.Cond.code ({ cls := "Twinphase", name := "skew", desc := "(II)I" } : Jvm.MethodName) prog_1_method_3_code (4 : Nat) (Option.some Jvm.ClassFile.FieldType.int)) ∈ gtbl := gm 313 (by decide +kernel) rfl
theorem w_265 : (Jvm.Cond.methodLink "Twinphase" (56 : Nat) ({ cls := "Twinphase", name := "needNode", desc := "(I)V" } : Jvm.MethodName)) ∈ gtbl := gm 314 (by decide +kernel) rfl
theorem w_267 : (Jvm.Cond.instanceMethod ({ cls := "Twinphase", name := "needNode", desc := "(I)V" } : Jvm.MethodName)) ∈ gtbl := gm 316 (by decide +kernel) rfl
theorem w_268 : (Jvm.Cond.code ({ cls := "Twinphase", name := "needNode", desc := "(I)V" } : Jvm.MethodName) prog_1_method_26_code (2 : Nat) (Option.none : Option Jvm.ClassFile.FieldType)) ∈ gtbl := gm 317 (by decide +kernel) rfl
theorem w_269 : (Jvm.Cond.classLink "Twinphase" (94 : Nat) "java/lang/IndexOutOfBoundsException") ∈ gtbl := gm 318 (by decide +kernel) rfl
theorem w_270 : (Jvm.Cond.instantiable "java/lang/IndexOutOfBoundsException" (6 : Nat)) ∈ gtbl := gm 319 (by decide +kernel) rfl
theorem w_272 : (Jvm.Cond.selects "java/lang/IndexOutOfBoundsException" ({ cls := "java/lang/Throwable", name := "fillInStackTrace", desc := "(I)Ljava/lang/Throwable;" } : Jvm.MethodName) ({ cls := "java/lang/Throwable", name := "fillInStackTrace", desc := "(I)Ljava/lang/Throwable;" } : Jvm.MethodName)) ∈ gtbl := gm 321 (by decide +kernel) rfl
theorem w_279 : (Jvm.Cond.methodLink "Twinphase" (98 : Nat) ({ cls := "java/lang/IndexOutOfBoundsException", name := "<init>", desc := "(Ljava/lang/String;)V" } : Jvm.MethodName)) ∈ gtbl := gm 328 (by decide +kernel) rfl
theorem w_280 : (Jvm.Cond.instanceMethod ({ cls := "java/lang/IndexOutOfBoundsException", name := "<init>", desc := "(Ljava/lang/String;)V" } : Jvm.MethodName)) ∈ gtbl := gm 329 (by decide +kernel) rfl
theorem w_281 : (Jvm.Cond.code ({ cls := "java/lang/IndexOutOfBoundsException", name := "<init>", desc := "(Ljava/lang/String;)V" } : Jvm.MethodName) prog_12_method_2_code (2 : Nat) (Option.none : Option Jvm.ClassFile.FieldType)) ∈ gtbl := gm 330 (by decide +kernel) rfl
theorem w_282 : (Jvm.Cond.methodLink "java/lang/IndexOutOfBoundsException" (7 : Nat) ({ cls := "java/lang/RuntimeException", name := "<init>", desc := "(Ljava/lang/String;)V" } : Jvm.MethodName)) ∈ gtbl := gm 331 (by decide +kernel) rfl
theorem w_284 : (Jvm.Cond.superclass "java/lang/IndexOutOfBoundsException" "java/lang/RuntimeException") ∈ gtbl := gm 333 (by decide +kernel) rfl
theorem w_286 : (Jvm.Cond.methodLink "TwinphaseLaw" (100 : Nat) ({ cls := "TwinphaseLaw", name := "clock", desc := "(LTwinphase;I[J)I" } : Jvm.MethodName)) ∈ gtbl := gm 335 (by decide +kernel) rfl
theorem w_287 : (Jvm.Cond.static ({ cls := "TwinphaseLaw", name := "clock", desc := "(LTwinphase;I[J)I" } : Jvm.MethodName)) ∈ gtbl := gm 336 (by decide +kernel) rfl
theorem w_288 : (Jvm.Cond.codeWith ({ cls := "TwinphaseLaw", name := "clock", desc := "(LTwinphase;I[J)I" } : Jvm.MethodName) method_5_code (4 : Nat) (Option.some Jvm.ClassFile.FieldType.int) [((0 : Nat), (9 : Nat), (12 : Nat), (21 : Nat)), ((0 : Nat), (9 : Nat), (15 : Nat), (15 : Nat))]) ∈ gtbl := gm 337 (by decide +kernel) rfl
theorem w_289 : (Jvm.Cond.methodLink "TwinphaseLaw" (23 : Nat) ({ cls := "Twinphase", name := "clock", desc := "(I)I" } : Jvm.MethodName)) ∈ gtbl := gm 338 (by decide +kernel) rfl
theorem w_290 : (Jvm.Cond.instanceMethod ({ cls := "Twinphase", name := "clock", desc := "(I)I" } : Jvm.MethodName)) ∈ gtbl := gm 339 (by decide +kernel) rfl
theorem w_291 : (Jvm.Cond.selects "Twinphase" ({ cls := "Twinphase", name := "clock", desc := "(I)I" } : Jvm.MethodName) ({ cls := "Twinphase", name := "clock", desc := "(I)I" } : Jvm.MethodName)) ∈ gtbl := gm 340 (by decide +kernel) rfl
theorem w_292 : (Jvm.Cond.code ({ cls := "Twinphase", name := "clock", desc := "(I)I" } : Jvm.MethodName) prog_1_method_4_code (2 : Nat) (Option.some Jvm.ClassFile.FieldType.int)) ∈ gtbl := gm 341 (by decide +kernel) rfl
theorem w_293 : (Jvm.Cond.methodLink "Twinphase" (65 : Nat) ({ cls := "Twinphase", name := "needUp", desc := "(I)V" } : Jvm.MethodName)) ∈ gtbl := gm 342 (by decide +kernel) rfl
theorem w_295 : (Jvm.Cond.instanceMethod ({ cls := "Twinphase", name := "needUp", desc := "(I)V" } : Jvm.MethodName)) ∈ gtbl := gm 344 (by decide +kernel) rfl
theorem w_296 : (Jvm.Cond.code ({ cls := "Twinphase", name := "needUp", desc := "(I)V" } : Jvm.MethodName) prog_1_method_27_code (2 : Nat) (Option.none : Option Jvm.ClassFile.FieldType)) ∈ gtbl := gm 345 (by decide +kernel) rfl
theorem w_298 : (Jvm.Cond.methodLink "Twinphase" (68 : Nat) ({ cls := "Twinphase$Node", name := "tellStamp", desc := "(I)I" } : Jvm.MethodName)) ∈ gtbl := gm 347 (by decide +kernel) rfl
theorem w_299 : (Jvm.Cond.instanceMethod ({ cls := "Twinphase$Node", name := "tellStamp", desc := "(I)I" } : Jvm.MethodName)) ∈ gtbl := gm 348 (by decide +kernel) rfl
theorem w_300 : (Jvm.Cond.selects "Twinphase$Node" ({ cls := "Twinphase$Node", name := "tellStamp", desc := "(I)I" } : Jvm.MethodName) ({ cls := "Twinphase$Node", name := "tellStamp", desc := "(I)I" } : Jvm.MethodName)) ∈ gtbl := gm 349 (by decide +kernel) rfl
theorem w_301 : (Jvm.Cond.code ({ cls := "Twinphase$Node", name := "tellStamp", desc := "(I)I" } : Jvm.MethodName) prog_4_method_2_code (2 : Nat) (Option.some Jvm.ClassFile.FieldType.int)) ∈ gtbl := gm 350 (by decide +kernel) rfl
theorem w_302 : (Jvm.Cond.methodLink "Twinphase$Node" (18 : Nat) ({ cls := "java/lang/Math", name := "max", desc := "(II)I" } : Jvm.MethodName)) ∈ gtbl := gm 351 (by decide +kernel) rfl
theorem w_303 : (Jvm.Cond.methodLink "Twinphase$Node" (24 : Nat) ({ cls := "Twinphase$Node", name := "meetStamp", desc := "(I)V" } : Jvm.MethodName)) ∈ gtbl := gm 352 (by decide +kernel) rfl
theorem w_304 : (Jvm.Cond.instanceMethod ({ cls := "Twinphase$Node", name := "meetStamp", desc := "(I)V" } : Jvm.MethodName)) ∈ gtbl := gm 353 (by decide +kernel) rfl
theorem w_305 : (Jvm.Cond.selects "Twinphase$Node" ({ cls := "Twinphase$Node", name := "meetStamp", desc := "(I)V" } : Jvm.MethodName) ({ cls := "Twinphase$Node", name := "meetStamp", desc := "(I)V" } : Jvm.MethodName)) ∈ gtbl := gm 354 (by decide +kernel) rfl
theorem w_306 : (Jvm.Cond.code ({ cls := "Twinphase$Node", name := "meetStamp", desc := "(I)V" } : Jvm.MethodName) prog_4_method_3_code (2 : Nat) (Option.none : Option Jvm.ClassFile.FieldType)) ∈ gtbl := gm 355 (by decide +kernel) rfl
theorem w_307 : (Jvm.Cond.methodLink "TwinphaseLaw" (107 : Nat) ({ cls := "TwinphaseLaw", name := "down", desc := "(LTwinphase;I[J)I" } : Jvm.MethodName)) ∈ gtbl := gm 356 (by decide +kernel) rfl
theorem w_308 : (Jvm.Cond.static ({ cls := "TwinphaseLaw", name := "down", desc := "(LTwinphase;I[J)I" } : Jvm.MethodName)) ∈ gtbl := gm 357 (by decide +kernel) rfl
theorem w_309 : (Jvm.Cond.codeWith ({ cls := "TwinphaseLaw", name := "down", desc := "(LTwinphase;I[J)I" } : Jvm.MethodName) method_6_code (4 : Nat) (Option.some Jvm.ClassFile.FieldType.int) [((0 : Nat), (9 : Nat), (12 : Nat), (21 : Nat)), ((0 : Nat), (9 : Nat), (15 : Nat), (15 : Nat))]) ∈ gtbl := gm 358 (by decide +kernel) rfl
theorem w_310 : (Jvm.Cond.methodLink "TwinphaseLaw" (26 : Nat) ({ cls := "Twinphase", name := "down", desc := "(I)I" } : Jvm.MethodName)) ∈ gtbl := gm 359 (by decide +kernel) rfl
theorem w_311 : (Jvm.Cond.instanceMethod ({ cls := "Twinphase", name := "down", desc := "(I)I" } : Jvm.MethodName)) ∈ gtbl := gm 360 (by decide +kernel) rfl
theorem w_312 : (Jvm.Cond.selects "Twinphase" ({ cls := "Twinphase", name := "down", desc := "(I)I" } : Jvm.MethodName) ({ cls := "Twinphase", name := "down", desc := "(I)I" } : Jvm.MethodName)) ∈ gtbl := gm 361 (by decide +kernel) rfl
theorem w_313 : (Jvm.Cond.code ({ cls := "Twinphase", name := "down", desc := "(I)I" } : Jvm.MethodName) prog_1_method_6_code (7 : Nat) (Option.some Jvm.ClassFile.FieldType.int)) ∈ gtbl := gm 362 (by decide +kernel) rfl
theorem w_314 : (Jvm.Cond.methodLink "TwinphaseLaw" (110 : Nat) ({ cls := "TwinphaseLaw", name := "up", desc := "(LTwinphase;I[J)I" } : Jvm.MethodName)) ∈ gtbl := gm 363 (by decide +kernel) rfl
theorem w_315 : (Jvm.Cond.static ({ cls := "TwinphaseLaw", name := "up", desc := "(LTwinphase;I[J)I" } : Jvm.MethodName)) ∈ gtbl := gm 364 (by decide +kernel) rfl
theorem w_316 : (Jvm.Cond.codeWith ({ cls := "TwinphaseLaw", name := "up", desc := "(LTwinphase;I[J)I" } : Jvm.MethodName) method_7_code (4 : Nat) (Option.some Jvm.ClassFile.FieldType.int) [((0 : Nat), (9 : Nat), (12 : Nat), (21 : Nat)), ((0 : Nat), (9 : Nat), (15 : Nat), (15 : Nat))]) ∈ gtbl := gm 365 (by decide +kernel) rfl
theorem w_317 : (Jvm.Cond.methodLink "TwinphaseLaw" (29 : Nat) ({ cls := "Twinphase", name := "up", desc := "(I)I" } : Jvm.MethodName)) ∈ gtbl := gm 366 (by decide +kernel) rfl
theorem w_318 : (Jvm.Cond.instanceMethod ({ cls := "Twinphase", name := "up", desc := "(I)I" } : Jvm.MethodName)) ∈ gtbl := gm 367 (by decide +kernel) rfl
theorem w_319 : (Jvm.Cond.selects "Twinphase" ({ cls := "Twinphase", name := "up", desc := "(I)I" } : Jvm.MethodName) ({ cls := "Twinphase", name := "up", desc := "(I)I" } : Jvm.MethodName)) ∈ gtbl := gm 368 (by decide +kernel) rfl
theorem w_320 : (Jvm.Cond.code ({ cls := "Twinphase", name := "up", desc := "(I)I" } : Jvm.MethodName) prog_1_method_7_code (7 : Nat) (Option.some Jvm.ClassFile.FieldType.int)) ∈ gtbl := gm 369 (by decide +kernel) rfl
theorem w_322 : (Jvm.Cond.methodLink "Twinphase" (91 : Nat) ({ cls := "Twinphase$Cell", name := "noteSeveral", desc := "(I)V" } : Jvm.MethodName)) ∈ gtbl := gm 371 (by decide +kernel) rfl
theorem w_323 : (Jvm.Cond.instanceMethod ({ cls := "Twinphase$Cell", name := "noteSeveral", desc := "(I)V" } : Jvm.MethodName)) ∈ gtbl := gm 372 (by decide +kernel) rfl
theorem w_324 : (Jvm.Cond.selects "Twinphase$Cell" ({ cls := "Twinphase$Cell", name := "noteSeveral", desc := "(I)V" } : Jvm.MethodName) ({ cls := "Twinphase$Cell", name := "noteSeveral", desc := "(I)V" } : Jvm.MethodName)) ∈ gtbl := gm 373 (by decide +kernel) rfl
theorem w_325 : (Jvm.Cond.code ({ cls := "Twinphase$Cell", name := "noteSeveral", desc := "(I)V" } : Jvm.MethodName) prog_2_method_3_code (2 : Nat) (Option.none : Option Jvm.ClassFile.FieldType)) ∈ gtbl := gm 374 (by decide +kernel) rfl
theorem w_326 : (Jvm.Cond.methodLink "TwinphaseLaw" (113 : Nat) ({ cls := "TwinphaseLaw", name := "sync", desc := "(LTwinphase;I[J)I" } : Jvm.MethodName)) ∈ gtbl := gm 375 (by decide +kernel) rfl
theorem w_327 : (Jvm.Cond.static ({ cls := "TwinphaseLaw", name := "sync", desc := "(LTwinphase;I[J)I" } : Jvm.MethodName)) ∈ gtbl := gm 376 (by decide +kernel) rfl
theorem w_328 : (Jvm.Cond.codeWith ({ cls := "TwinphaseLaw", name := "sync", desc := "(LTwinphase;I[J)I" } : Jvm.MethodName) method_8_code (4 : Nat) (Option.some Jvm.ClassFile.FieldType.int) [((0 : Nat), (9 : Nat), (12 : Nat), (21 : Nat)), ((0 : Nat), (9 : Nat), (15 : Nat), (15 : Nat))]) ∈ gtbl := gm 377 (by decide +kernel) rfl
theorem w_329 : (Jvm.Cond.methodLink "TwinphaseLaw" (32 : Nat) ({ cls := "Twinphase", name := "sync", desc := "(I)I" } : Jvm.MethodName)) ∈ gtbl := gm 378 (by decide +kernel) rfl
theorem w_330 : (Jvm.Cond.instanceMethod ({ cls := "Twinphase", name := "sync", desc := "(I)I" } : Jvm.MethodName)) ∈ gtbl := gm 379 (by decide +kernel) rfl
theorem w_331 : (Jvm.Cond.selects "Twinphase" ({ cls := "Twinphase", name := "sync", desc := "(I)I" } : Jvm.MethodName) ({ cls := "Twinphase", name := "sync", desc := "(I)I" } : Jvm.MethodName)) ∈ gtbl := gm 380 (by decide +kernel) rfl
theorem w_332 : (Jvm.Cond.code ({ cls := "Twinphase", name := "sync", desc := "(I)I" } : Jvm.MethodName) prog_1_method_8_code (7 : Nat) (Option.some Jvm.ClassFile.FieldType.int)) ∈ gtbl := gm 381 (by decide +kernel) rfl
theorem w_333 : (Jvm.Cond.methodLink "TwinphaseLaw" (116 : Nat) ({ cls := "TwinphaseLaw", name := "split", desc := "(LTwinphase;I[J)I" } : Jvm.MethodName)) ∈ gtbl := gm 382 (by decide +kernel) rfl
theorem w_334 : (Jvm.Cond.static ({ cls := "TwinphaseLaw", name := "split", desc := "(LTwinphase;I[J)I" } : Jvm.MethodName)) ∈ gtbl := gm 383 (by decide +kernel) rfl
theorem w_335 : (Jvm.Cond.codeWith ({ cls := "TwinphaseLaw", name := "split", desc := "(LTwinphase;I[J)I" } : Jvm.MethodName) method_9_code (4 : Nat) (Option.some Jvm.ClassFile.FieldType.int) [((0 : Nat), (9 : Nat), (12 : Nat), (21 : Nat)), ((0 : Nat), (9 : Nat), (15 : Nat), (15 : Nat))]) ∈ gtbl := gm 384 (by decide +kernel) rfl
theorem w_336 : (Jvm.Cond.methodLink "TwinphaseLaw" (35 : Nat) ({ cls := "Twinphase", name := "split", desc := "(I)I" } : Jvm.MethodName)) ∈ gtbl := gm 385 (by decide +kernel) rfl
theorem w_337 : (Jvm.Cond.instanceMethod ({ cls := "Twinphase", name := "split", desc := "(I)I" } : Jvm.MethodName)) ∈ gtbl := gm 386 (by decide +kernel) rfl
theorem w_338 : (Jvm.Cond.selects "Twinphase" ({ cls := "Twinphase", name := "split", desc := "(I)I" } : Jvm.MethodName) ({ cls := "Twinphase", name := "split", desc := "(I)I" } : Jvm.MethodName)) ∈ gtbl := gm 387 (by decide +kernel) rfl
theorem w_339 : (Jvm.Cond.code ({ cls := "Twinphase", name := "split", desc := "(I)I" } : Jvm.MethodName) prog_1_method_9_code (2 : Nat) (Option.some Jvm.ClassFile.FieldType.int)) ∈ gtbl := gm 388 (by decide +kernel) rfl
theorem w_342 : (Jvm.Cond.methodLink "Twinphase" (101 : Nat) ({ cls := "Twinphase", name := "rangeOf", desc := "(I)I" } : Jvm.MethodName)) ∈ gtbl := gm 391 (by decide +kernel) rfl
theorem w_344 : (Jvm.Cond.instanceMethod ({ cls := "Twinphase", name := "rangeOf", desc := "(I)I" } : Jvm.MethodName)) ∈ gtbl := gm 393 (by decide +kernel) rfl
theorem w_345 : (Jvm.Cond.code ({ cls := "Twinphase", name := "rangeOf", desc := "(I)I" } : Jvm.MethodName) prog_1_method_34_code (4 : Nat) (Option.some Jvm.ClassFile.FieldType.int)) ∈ gtbl := gm 394 (by decide +kernel) rfl
theorem w_346 : (Jvm.Cond.methodLink "TwinphaseLaw" (119 : Nat) ({ cls := "TwinphaseLaw", name := "merge", desc := "(LTwinphase;I[J)I" } : Jvm.MethodName)) ∈ gtbl := gm 395 (by decide +kernel) rfl
theorem w_347 : (Jvm.Cond.static ({ cls := "TwinphaseLaw", name := "merge", desc := "(LTwinphase;I[J)I" } : Jvm.MethodName)) ∈ gtbl := gm 396 (by decide +kernel) rfl
theorem w_348 : (Jvm.Cond.codeWith ({ cls := "TwinphaseLaw", name := "merge", desc := "(LTwinphase;I[J)I" } : Jvm.MethodName) method_10_code (4 : Nat) (Option.some Jvm.ClassFile.FieldType.int) [((0 : Nat), (9 : Nat), (12 : Nat), (21 : Nat)), ((0 : Nat), (9 : Nat), (15 : Nat), (15 : Nat))]) ∈ gtbl := gm 397 (by decide +kernel) rfl
theorem w_349 : (Jvm.Cond.methodLink "TwinphaseLaw" (38 : Nat) ({ cls := "Twinphase", name := "merge", desc := "(I)I" } : Jvm.MethodName)) ∈ gtbl := gm 398 (by decide +kernel) rfl
theorem w_350 : (Jvm.Cond.instanceMethod ({ cls := "Twinphase", name := "merge", desc := "(I)I" } : Jvm.MethodName)) ∈ gtbl := gm 399 (by decide +kernel) rfl
theorem w_351 : (Jvm.Cond.selects "Twinphase" ({ cls := "Twinphase", name := "merge", desc := "(I)I" } : Jvm.MethodName) ({ cls := "Twinphase", name := "merge", desc := "(I)I" } : Jvm.MethodName)) ∈ gtbl := gm 400 (by decide +kernel) rfl
theorem w_352 : (Jvm.Cond.code ({ cls := "Twinphase", name := "merge", desc := "(I)I" } : Jvm.MethodName) prog_1_method_10_code (3 : Nat) (Option.some Jvm.ClassFile.FieldType.int)) ∈ gtbl := gm 401 (by decide +kernel) rfl
theorem w_353 : (Jvm.Cond.methodLink "Twinphase" (104 : Nat) ({ cls := "Twinphase", name := "firstKeyOf", desc := "(I)I" } : Jvm.MethodName)) ∈ gtbl := gm 402 (by decide +kernel) rfl
theorem w_355 : (Jvm.Cond.instanceMethod ({ cls := "Twinphase", name := "firstKeyOf", desc := "(I)I" } : Jvm.MethodName)) ∈ gtbl := gm 404 (by decide +kernel) rfl
theorem w_356 : (Jvm.Cond.code ({ cls := "Twinphase", name := "firstKeyOf", desc := "(I)I" } : Jvm.MethodName) prog_1_method_35_code (4 : Nat) (Option.some Jvm.ClassFile.FieldType.int)) ∈ gtbl := gm 405 (by decide +kernel) rfl
theorem w_359 : (Jvm.Cond.methodLink "TwinphaseLaw" (122 : Nat) ({ cls := "TwinphaseLaw", name := "move", desc := "(LTwinphase;II[J)I" } : Jvm.MethodName)) ∈ gtbl := gm 408 (by decide +kernel) rfl
theorem w_360 : (Jvm.Cond.static ({ cls := "TwinphaseLaw", name := "move", desc := "(LTwinphase;II[J)I" } : Jvm.MethodName)) ∈ gtbl := gm 409 (by decide +kernel) rfl
theorem w_361 : (Jvm.Cond.codeWith ({ cls := "TwinphaseLaw", name := "move", desc := "(LTwinphase;II[J)I" } : Jvm.MethodName) method_11_code (5 : Nat) (Option.some Jvm.ClassFile.FieldType.int) [((0 : Nat), (10 : Nat), (13 : Nat), (21 : Nat)), ((0 : Nat), (10 : Nat), (17 : Nat), (15 : Nat))]) ∈ gtbl := gm 410 (by decide +kernel) rfl
theorem w_362 : (Jvm.Cond.methodLink "TwinphaseLaw" (41 : Nat) ({ cls := "Twinphase", name := "move", desc := "(II)I" } : Jvm.MethodName)) ∈ gtbl := gm 411 (by decide +kernel) rfl
theorem w_363 : (Jvm.Cond.instanceMethod ({ cls := "Twinphase", name := "move", desc := "(II)I" } : Jvm.MethodName)) ∈ gtbl := gm 412 (by decide +kernel) rfl
theorem w_364 : (Jvm.Cond.selects "Twinphase" ({ cls := "Twinphase", name := "move", desc := "(II)I" } : Jvm.MethodName) ({ cls := "Twinphase", name := "move", desc := "(II)I" } : Jvm.MethodName)) ∈ gtbl := gm 413 (by decide +kernel) rfl
theorem w_365 : (Jvm.Cond.code ({ cls := "Twinphase", name := "move", desc := "(II)I" } : Jvm.MethodName) prog_1_method_11_code (8 : Nat) (Option.some Jvm.ClassFile.FieldType.int)) ∈ gtbl := gm 414 (by decide +kernel) rfl
theorem w_367 : (Jvm.Cond.methodLink "TwinphaseLaw" (125 : Nat) ({ cls := "TwinphaseLaw", name := "begin", desc := "(LTwinphase;II[J)I" } : Jvm.MethodName)) ∈ gtbl := gm 416 (by decide +kernel) rfl
theorem w_368 : (Jvm.Cond.static ({ cls := "TwinphaseLaw", name := "begin", desc := "(LTwinphase;II[J)I" } : Jvm.MethodName)) ∈ gtbl := gm 417 (by decide +kernel) rfl
theorem w_369 : (Jvm.Cond.codeWith ({ cls := "TwinphaseLaw", name := "begin", desc := "(LTwinphase;II[J)I" } : Jvm.MethodName) method_12_code (5 : Nat) (Option.some Jvm.ClassFile.FieldType.int) [((0 : Nat), (10 : Nat), (13 : Nat), (21 : Nat)), ((0 : Nat), (10 : Nat), (17 : Nat), (13 : Nat)), ((0 : Nat), (10 : Nat), (21 : Nat), (15 : Nat))]) ∈ gtbl := gm 418 (by decide +kernel) rfl
theorem w_370 : (Jvm.Cond.methodLink "TwinphaseLaw" (44 : Nat) ({ cls := "Twinphase", name := "begin", desc := "(II)I" } : Jvm.MethodName)) ∈ gtbl := gm 419 (by decide +kernel) rfl
theorem w_371 : (Jvm.Cond.instanceMethod ({ cls := "Twinphase", name := "begin", desc := "(II)I" } : Jvm.MethodName)) ∈ gtbl := gm 420 (by decide +kernel) rfl
theorem w_372 : (Jvm.Cond.selects "Twinphase" ({ cls := "Twinphase", name := "begin", desc := "(II)I" } : Jvm.MethodName) ({ cls := "Twinphase", name := "begin", desc := "(II)I" } : Jvm.MethodName)) ∈ gtbl := gm 421 (by decide +kernel) rfl
theorem w_373 : (Jvm.Cond.code ({ cls := "Twinphase", name := "begin", desc := "(II)I" } : Jvm.MethodName) prog_1_method_12_code (4 : Nat) (Option.some Jvm.ClassFile.FieldType.int)) ∈ gtbl := gm 422 (by decide +kernel) rfl
theorem w_376 : (Jvm.Cond.instantiable "Twinphase$Transaction" (15 : Nat)) ∈ gtbl := gm 425 (by decide +kernel) rfl
theorem w_377 : (Jvm.Cond.methodLink "Twinphase" (120 : Nat) ({ cls := "Twinphase$Transaction", name := "<init>", desc := "(IIIII)V" } : Jvm.MethodName)) ∈ gtbl := gm 426 (by decide +kernel) rfl
theorem w_378 : (Jvm.Cond.instanceMethod ({ cls := "Twinphase$Transaction", name := "<init>", desc := "(IIIII)V" } : Jvm.MethodName)) ∈ gtbl := gm 427 (by decide +kernel) rfl
theorem w_379 : (Jvm.Cond.code ({ cls := "Twinphase$Transaction", name := "<init>", desc := "(IIIII)V" } : Jvm.MethodName) prog_5_method_1_code (6 : Nat) (Option.none : Option Jvm.ClassFile.FieldType)) ∈ gtbl := gm 428 (by decide +kernel) rfl
theorem w_380 : (Jvm.Cond.methodLink "Twinphase$Transaction" (3 : Nat) ({ cls := "java/lang/Object", name := "<init>", desc := "()V" } : Jvm.MethodName)) ∈ gtbl := gm 429 (by decide +kernel) rfl
theorem w_381 : (Jvm.Cond.fieldLink "Twinphase$Transaction" (25 : Nat) "Twinphase$Transaction" "number" "I") ∈ gtbl := gm 430 (by decide +kernel) rfl
theorem w_382 : (Jvm.Cond.fieldLink "Twinphase" (199 : Nat) "Twinphase$Transaction" "number" "I") ∈ gtbl := gm 431 (by decide +kernel) rfl
theorem w_383 : (Jvm.Cond.fieldLink "Twinphase$Transaction" (28 : Nat) "Twinphase$Transaction" "home" "I") ∈ gtbl := gm 432 (by decide +kernel) rfl
theorem w_384 : (Jvm.Cond.fieldLink "Twinphase" (150 : Nat) "Twinphase$Transaction" "home" "I") ∈ gtbl := gm 433 (by decide +kernel) rfl
theorem w_385 : (Jvm.Cond.fieldLink "Twinphase$Transaction" (31 : Nat) "Twinphase$Transaction" "rank" "I") ∈ gtbl := gm 434 (by decide +kernel) rfl
theorem w_386 : (Jvm.Cond.fieldLink "Twinphase" (288 : Nat) "Twinphase$Transaction" "rank" "I") ∈ gtbl := gm 435 (by decide +kernel) rfl
theorem w_387 : (Jvm.Cond.fieldLink "Twinphase$Transaction" (34 : Nat) "Twinphase$Transaction" "doubt" "I") ∈ gtbl := gm 436 (by decide +kernel) rfl
theorem w_388 : (Jvm.Cond.fieldLink "Twinphase$Transaction" (9 : Nat) "Twinphase$Transaction" "state" "I") ∈ gtbl := gm 437 (by decide +kernel) rfl
theorem w_389 : (Jvm.Cond.fieldLink "Twinphase" (147 : Nat) "Twinphase$Transaction" "state" "I") ∈ gtbl := gm 438 (by decide +kernel) rfl
theorem w_390 : (Jvm.Cond.fieldLink "Twinphase$Transaction" (37 : Nat) "Twinphase$Transaction" "readStamp" "I") ∈ gtbl := gm 439 (by decide +kernel) rfl
theorem w_391 : (Jvm.Cond.fieldLink "Twinphase" (172 : Nat) "Twinphase$Transaction" "readStamp" "I") ∈ gtbl := gm 440 (by decide +kernel) rfl
theorem w_392 : (Jvm.Cond.fieldLink "Twinphase$Transaction" (40 : Nat) "Twinphase$Transaction" "writeStamp" "I") ∈ gtbl := gm 441 (by decide +kernel) rfl
theorem w_393 : (Jvm.Cond.fieldLink "Twinphase$History" (44 : Nat) "Twinphase$Transaction" "writeStamp" "I") ∈ gtbl := gm 442 (by decide +kernel) rfl
theorem w_394 : (Jvm.Cond.fieldLink "Twinphase" (163 : Nat) "Twinphase$Transaction" "writeStamp" "I") ∈ gtbl := gm 443 (by decide +kernel) rfl
theorem w_395 : (Jvm.Cond.fieldLink "Twinphase$Transaction" (43 : Nat) "Twinphase$Transaction" "lastBeat" "I") ∈ gtbl := gm 444 (by decide +kernel) rfl
theorem w_396 : (Jvm.Cond.fieldLink "Twinphase" (189 : Nat) "Twinphase$Transaction" "lastBeat" "I") ∈ gtbl := gm 445 (by decide +kernel) rfl
theorem w_397 : (Jvm.Cond.fieldLink "Twinphase$Transaction" (46 : Nat) "Twinphase$Transaction" "awaited" "LTwinphase$Transaction;") ∈ gtbl := gm 446 (by decide +kernel) rfl
theorem w_398 : (Jvm.Cond.fieldLink "Twinphase" (157 : Nat) "Twinphase$Transaction" "awaited" "LTwinphase$Transaction;") ∈ gtbl := gm 447 (by decide +kernel) rfl
theorem w_399 : (Jvm.Cond.fieldLink "Twinphase$Transaction" (59 : Nat) "Twinphase$Transaction" "readKeys" "I") ∈ gtbl := gm 448 (by decide +kernel) rfl
theorem w_400 : (Jvm.Cond.fieldLink "Twinphase" (202 : Nat) "Twinphase$Transaction" "readKeys" "I") ∈ gtbl := gm 449 (by decide +kernel) rfl
theorem w_401 : (Jvm.Cond.fieldLink "Twinphase$Transaction" (62 : Nat) "Twinphase$Transaction" "writtenKeys" "I") ∈ gtbl := gm 450 (by decide +kernel) rfl
theorem w_402 : (Jvm.Cond.fieldLink "Twinphase" (160 : Nat) "Twinphase$Transaction" "writtenKeys" "I") ∈ gtbl := gm 451 (by decide +kernel) rfl
theorem w_403 : (Jvm.Cond.fieldLink "Twinphase$Transaction" (50 : Nat) "Twinphase$Transaction" "askedNodes" "I") ∈ gtbl := gm 452 (by decide +kernel) rfl
theorem w_404 : (Jvm.Cond.fieldLink "Twinphase$Transaction" (15 : Nat) "Twinphase$Transaction" "readValues" "[I") ∈ gtbl := gm 453 (by decide +kernel) rfl
theorem w_405 : (Jvm.Cond.fieldLink "Twinphase$History" (59 : Nat) "Twinphase$Transaction" "readValues" "[I") ∈ gtbl := gm 454 (by decide +kernel) rfl
theorem w_406 : (Jvm.Cond.fieldLink "Twinphase$Transaction" (19 : Nat) "Twinphase$Transaction" "writtenValues" "[I") ∈ gtbl := gm 455 (by decide +kernel) rfl
theorem w_407 : (Jvm.Cond.fieldLink "Twinphase$History" (65 : Nat) "Twinphase$Transaction" "writtenValues" "[I") ∈ gtbl := gm 456 (by decide +kernel) rfl
theorem w_408 : (Jvm.Cond.fieldLink "Twinphase" (277 : Nat) "Twinphase$Transaction" "writtenValues" "[I") ∈ gtbl := gm 457 (by decide +kernel) rfl
theorem w_409 : (Jvm.Cond.fieldLink "Twinphase$Transaction" (22 : Nat) "Twinphase$Transaction" "doubts" "[I") ∈ gtbl := gm 458 (by decide +kernel) rfl
theorem w_410 : (Jvm.Cond.fieldLink "Twinphase" (285 : Nat) "Twinphase$Transaction" "doubts" "[I") ∈ gtbl := gm 459 (by decide +kernel) rfl
theorem w_441 : (Jvm.Cond.superclass "Twinphase$Transaction" "java/lang/Object") ∈ gtbl := gm 490 (by decide +kernel) rfl
theorem w_442 : (Jvm.Cond.methodLink "TwinphaseLaw" (128 : Nat) ({ cls := "TwinphaseLaw", name := "get", desc := "(LTwinphase;II[J)I" } : Jvm.MethodName)) ∈ gtbl := gm 491 (by decide +kernel) rfl
theorem w_443 : (Jvm.Cond.static ({ cls := "TwinphaseLaw", name := "get", desc := "(LTwinphase;II[J)I" } : Jvm.MethodName)) ∈ gtbl := gm 492 (by decide +kernel) rfl
theorem w_444 : (Jvm.Cond.codeWith ({ cls := "TwinphaseLaw", name := "get", desc := "(LTwinphase;II[J)I" } : Jvm.MethodName) method_13_code (5 : Nat) (Option.some Jvm.ClassFile.FieldType.int) [((0 : Nat), (10 : Nat), (13 : Nat), (21 : Nat))]) ∈ gtbl := gm 493 (by decide +kernel) rfl
theorem w_445 : (Jvm.Cond.methodLink "TwinphaseLaw" (47 : Nat) ({ cls := "Twinphase", name := "get", desc := "(II)I" } : Jvm.MethodName)) ∈ gtbl := gm 494 (by decide +kernel) rfl
theorem w_446 : (Jvm.Cond.instanceMethod ({ cls := "Twinphase", name := "get", desc := "(II)I" } : Jvm.MethodName)) ∈ gtbl := gm 495 (by decide +kernel) rfl
theorem w_447 : (Jvm.Cond.selects "Twinphase" ({ cls := "Twinphase", name := "get", desc := "(II)I" } : Jvm.MethodName) ({ cls := "Twinphase", name := "get", desc := "(II)I" } : Jvm.MethodName)) ∈ gtbl := gm 496 (by decide +kernel) rfl
theorem w_448 : (Jvm.Cond.code ({ cls := "Twinphase", name := "get", desc := "(II)I" } : Jvm.MethodName) prog_1_method_13_code (7 : Nat) (Option.some Jvm.ClassFile.FieldType.int)) ∈ gtbl := gm 497 (by decide +kernel) rfl
theorem w_449 : (Jvm.Cond.methodLink "Twinphase" (123 : Nat) ({ cls := "Twinphase", name := "needTransaction", desc := "(I)V" } : Jvm.MethodName)) ∈ gtbl := gm 498 (by decide +kernel) rfl
theorem w_451 : (Jvm.Cond.instanceMethod ({ cls := "Twinphase", name := "needTransaction", desc := "(I)V" } : Jvm.MethodName)) ∈ gtbl := gm 500 (by decide +kernel) rfl
theorem w_452 : (Jvm.Cond.code ({ cls := "Twinphase", name := "needTransaction", desc := "(I)V" } : Jvm.MethodName) prog_1_method_29_code (2 : Nat) (Option.none : Option Jvm.ClassFile.FieldType)) ∈ gtbl := gm 501 (by decide +kernel) rfl
theorem w_454 : (Jvm.Cond.methodLink "Twinphase" (126 : Nat) ({ cls := "Twinphase", name := "needKey", desc := "(I)V" } : Jvm.MethodName)) ∈ gtbl := gm 503 (by decide +kernel) rfl
theorem w_456 : (Jvm.Cond.instanceMethod ({ cls := "Twinphase", name := "needKey", desc := "(I)V" } : Jvm.MethodName)) ∈ gtbl := gm 505 (by decide +kernel) rfl
theorem w_457 : (Jvm.Cond.code ({ cls := "Twinphase", name := "needKey", desc := "(I)V" } : Jvm.MethodName) prog_1_method_28_code (2 : Nat) (Option.none : Option Jvm.ClassFile.FieldType)) ∈ gtbl := gm 506 (by decide +kernel) rfl
theorem w_459 : (Jvm.Cond.methodLink "Twinphase" (129 : Nat) ({ cls := "Twinphase", name := "refusalAt", desc := "(LTwinphase$Transaction;I)I" } : Jvm.MethodName)) ∈ gtbl := gm 508 (by decide +kernel) rfl
theorem w_461 : (Jvm.Cond.instanceMethod ({ cls := "Twinphase", name := "refusalAt", desc := "(LTwinphase$Transaction;I)I" } : Jvm.MethodName)) ∈ gtbl := gm 510 (by decide +kernel) rfl
theorem w_462 : (Jvm.Cond.code ({ cls := "Twinphase", name := "refusalAt", desc := "(LTwinphase$Transaction;I)I" } : Jvm.MethodName) prog_1_method_36_code (3 : Nat) (Option.some Jvm.ClassFile.FieldType.int)) ∈ gtbl := gm 511 (by decide +kernel) rfl
theorem w_463 : (Jvm.Cond.methodLink "Twinphase" (133 : Nat) ({ cls := "Twinphase", name := "askNode", desc := "(LTwinphase$Transaction;I)V" } : Jvm.MethodName)) ∈ gtbl := gm 512 (by decide +kernel) rfl
theorem w_465 : (Jvm.Cond.instanceMethod ({ cls := "Twinphase", name := "askNode", desc := "(LTwinphase$Transaction;I)V" } : Jvm.MethodName)) ∈ gtbl := gm 514 (by decide +kernel) rfl
theorem w_466 : (Jvm.Cond.code ({ cls := "Twinphase", name := "askNode", desc := "(LTwinphase$Transaction;I)V" } : Jvm.MethodName) prog_1_method_37_code (3 : Nat) (Option.none : Option Jvm.ClassFile.FieldType)) ∈ gtbl := gm 515 (by decide +kernel) rfl
theorem w_467 : (Jvm.Cond.methodLink "Twinphase" (257 : Nat) ({ cls := "Twinphase$Node", name := "meetStamp", desc := "(I)V" } : Jvm.MethodName)) ∈ gtbl := gm 516 (by decide +kernel) rfl
theorem w_468 : (Jvm.Cond.methodLink "Twinphase" (260 : Nat) ({ cls := "Twinphase$Transaction", name := "hasAsked", desc := "(I)Z" } : Jvm.MethodName)) ∈ gtbl := gm 517 (by decide +kernel) rfl
theorem w_469 : (Jvm.Cond.instanceMethod ({ cls := "Twinphase$Transaction", name := "hasAsked", desc := "(I)Z" } : Jvm.MethodName)) ∈ gtbl := gm 518 (by decide +kernel) rfl
theorem w_470 : (Jvm.Cond.selects "Twinphase$Transaction" ({ cls := "Twinphase$Transaction", name := "hasAsked", desc := "(I)Z" } : Jvm.MethodName) ({ cls := "Twinphase$Transaction", name := "hasAsked", desc := "(I)Z" } : Jvm.MethodName)) ∈ gtbl := gm 519 (by decide +kernel) rfl
theorem w_471 : (Jvm.Cond.code ({ cls := "Twinphase$Transaction", name := "hasAsked", desc := "(I)Z" } : Jvm.MethodName) prog_5_method_5_code (2 : Nat) (Option.some Jvm.ClassFile.FieldType.boolean)) ∈ gtbl := gm 520 (by decide +kernel) rfl
theorem w_472 : (Jvm.Cond.methodLink "Twinphase" (263 : Nat) ({ cls := "Twinphase$Transaction", name := "noteClock", desc := "(II)V" } : Jvm.MethodName)) ∈ gtbl := gm 521 (by decide +kernel) rfl
theorem w_473 : (Jvm.Cond.instanceMethod ({ cls := "Twinphase$Transaction", name := "noteClock", desc := "(II)V" } : Jvm.MethodName)) ∈ gtbl := gm 522 (by decide +kernel) rfl
theorem w_474 : (Jvm.Cond.selects "Twinphase$Transaction" ({ cls := "Twinphase$Transaction", name := "noteClock", desc := "(II)V" } : Jvm.MethodName) ({ cls := "Twinphase$Transaction", name := "noteClock", desc := "(II)V" } : Jvm.MethodName)) ∈ gtbl := gm 523 (by decide +kernel) rfl
theorem w_475 : (Jvm.Cond.code ({ cls := "Twinphase$Transaction", name := "noteClock", desc := "(II)V" } : Jvm.MethodName) prog_5_method_6_code (3 : Nat) (Option.none : Option Jvm.ClassFile.FieldType)) ∈ gtbl := gm 524 (by decide +kernel) rfl
theorem w_476 : (Jvm.Cond.methodLink "Twinphase$Transaction" (53 : Nat) ({ cls := "java/lang/Math", name := "min", desc := "(II)I" } : Jvm.MethodName)) ∈ gtbl := gm 525 (by decide +kernel) rfl
theorem w_477 : (Jvm.Cond.constant "Twinphase" (137 : Nat) (1000000 : Int32)) ∈ gtbl := gm 526 (by decide +kernel) rfl
theorem w_478 : (Jvm.Cond.methodLink "Twinphase" (138 : Nat) ({ cls := "Twinphase", name := "lookToRead", desc := "(LTwinphase$Transaction;I)I" } : Jvm.MethodName)) ∈ gtbl := gm 527 (by decide +kernel) rfl
theorem w_480 : (Jvm.Cond.instanceMethod ({ cls := "Twinphase", name := "lookToRead", desc := "(LTwinphase$Transaction;I)I" } : Jvm.MethodName)) ∈ gtbl := gm 529 (by decide +kernel) rfl
theorem w_481 : (Jvm.Cond.code ({ cls := "Twinphase", name := "lookToRead", desc := "(LTwinphase$Transaction;I)I" } : Jvm.MethodName) prog_1_method_41_code (6 : Nat) (Option.some Jvm.ClassFile.FieldType.int)) ∈ gtbl := gm 530 (by decide +kernel) rfl
theorem w_482 : (Jvm.Cond.methodLink "Twinphase" (274 : Nat) ({ cls := "Twinphase$Transaction", name := "writes", desc := "(I)Z" } : Jvm.MethodName)) ∈ gtbl := gm 531 (by decide +kernel) rfl
theorem w_483 : (Jvm.Cond.methodLink "Twinphase" (281 : Nat) ({ cls := "Twinphase", name := "meetIntent", desc := "(LTwinphase$Transaction;I)LTwinphase$Transaction;" } : Jvm.MethodName)) ∈ gtbl := gm 532 (by decide +kernel) rfl
theorem w_485 : (Jvm.Cond.instanceMethod ({ cls := "Twinphase", name := "meetIntent", desc := "(LTwinphase$Transaction;I)LTwinphase$Transaction;" } : Jvm.MethodName)) ∈ gtbl := gm 534 (by decide +kernel) rfl
theorem w_486 : (Jvm.Cond.code ({ cls := "Twinphase", name := "meetIntent", desc := "(LTwinphase$Transaction;I)LTwinphase$Transaction;" } : Jvm.MethodName) prog_1_method_38_code (4 : Nat) (Option.some (Jvm.ClassFile.FieldType.object "Twinphase$Transaction"))) ∈ gtbl := gm 535 (by decide +kernel) rfl
theorem w_487 : (Jvm.Cond.methodLink "Twinphase" (185 : Nat) ({ cls := "Twinphase", name := "decideStaged", desc := "(LTwinphase$Transaction;)V" } : Jvm.MethodName)) ∈ gtbl := gm 536 (by decide +kernel) rfl
theorem w_489 : (Jvm.Cond.instanceMethod ({ cls := "Twinphase", name := "decideStaged", desc := "(LTwinphase$Transaction;)V" } : Jvm.MethodName)) ∈ gtbl := gm 538 (by decide +kernel) rfl
theorem w_490 : (Jvm.Cond.code ({ cls := "Twinphase", name := "decideStaged", desc := "(LTwinphase$Transaction;)V" } : Jvm.MethodName) prog_1_method_47_code (3 : Nat) (Option.none : Option Jvm.ClassFile.FieldType)) ∈ gtbl := gm 539 (by decide +kernel) rfl
theorem w_491 : (Jvm.Cond.methodLink "Twinphase" (182 : Nat) ({ cls := "Twinphase", name := "hasAllIntents", desc := "(LTwinphase$Transaction;)Z" } : Jvm.MethodName)) ∈ gtbl := gm 540 (by decide +kernel) rfl
theorem w_493 : (Jvm.Cond.instanceMethod ({ cls := "Twinphase", name := "hasAllIntents", desc := "(LTwinphase$Transaction;)Z" } : Jvm.MethodName)) ∈ gtbl := gm 542 (by decide +kernel) rfl
theorem w_494 : (Jvm.Cond.code ({ cls := "Twinphase", name := "hasAllIntents", desc := "(LTwinphase$Transaction;)Z" } : Jvm.MethodName) prog_1_method_46_code (3 : Nat) (Option.some Jvm.ClassFile.FieldType.boolean)) ∈ gtbl := gm 543 (by decide +kernel) rfl
theorem w_495 : (Jvm.Cond.methodLink "Twinphase" (317 : Nat) ({ cls := "Twinphase$History", name := "addCommitted", desc := "(LTwinphase$Transaction;)V" } : Jvm.MethodName)) ∈ gtbl := gm 544 (by decide +kernel) rfl
theorem w_496 : (Jvm.Cond.instanceMethod ({ cls := "Twinphase$History", name := "addCommitted", desc := "(LTwinphase$Transaction;)V" } : Jvm.MethodName)) ∈ gtbl := gm 545 (by decide +kernel) rfl
theorem w_497 : (Jvm.Cond.selects "Twinphase$History" ({ cls := "Twinphase$History", name := "addCommitted", desc := "(LTwinphase$Transaction;)V" } : Jvm.MethodName) ({ cls := "Twinphase$History", name := "addCommitted", desc := "(LTwinphase$Transaction;)V" } : Jvm.MethodName)) ∈ gtbl := gm 546 (by decide +kernel) rfl
theorem w_498 : (Jvm.Cond.code ({ cls := "Twinphase$History", name := "addCommitted", desc := "(LTwinphase$Transaction;)V" } : Jvm.MethodName) prog_3_method_8_code (3 : Nat) (Option.none : Option Jvm.ClassFile.FieldType)) ∈ gtbl := gm 547 (by decide +kernel) rfl
theorem w_499 : (Jvm.Cond.methodLink "Twinphase" (320 : Nat) ({ cls := "Twinphase$History", name := "addChange", desc := "(III)V" } : Jvm.MethodName)) ∈ gtbl := gm 548 (by decide +kernel) rfl
theorem w_500 : (Jvm.Cond.instanceMethod ({ cls := "Twinphase$History", name := "addChange", desc := "(III)V" } : Jvm.MethodName)) ∈ gtbl := gm 549 (by decide +kernel) rfl
theorem w_501 : (Jvm.Cond.selects "Twinphase$History" ({ cls := "Twinphase$History", name := "addChange", desc := "(III)V" } : Jvm.MethodName) ({ cls := "Twinphase$History", name := "addChange", desc := "(III)V" } : Jvm.MethodName)) ∈ gtbl := gm 550 (by decide +kernel) rfl
theorem w_502 : (Jvm.Cond.code ({ cls := "Twinphase$History", name := "addChange", desc := "(III)V" } : Jvm.MethodName) prog_3_method_2_code (6 : Nat) (Option.none : Option Jvm.ClassFile.FieldType)) ∈ gtbl := gm 551 (by decide +kernel) rfl
theorem w_503 : (Jvm.Cond.methodLink "Twinphase$History" (31 : Nat) ({ cls := "java/util/Arrays", name := "copyOf", desc := "([II)[I" } : Jvm.MethodName)) ∈ gtbl := gm 552 (by decide +kernel) rfl
theorem w_504 : (Jvm.Cond.static ({ cls := "java/util/Arrays", name := "copyOf", desc := "([II)[I" } : Jvm.MethodName)) ∈ gtbl := gm 553 (by decide +kernel) rfl
theorem w_505 : (Jvm.Cond.code ({ cls := "java/util/Arrays", name := "copyOf", desc := "([II)[I" } : Jvm.MethodName) prog_19_method_123_code (3 : Nat) (Option.some (Jvm.ClassFile.FieldType.array Jvm.ClassFile.FieldType.int))) ∈ gtbl := gm 554 (by decide +kernel) rfl
theorem w_506 : (Jvm.Cond.methodLink "java/util/Arrays" (316 : Nat) ({ cls := "[I", name := "clone", desc := "()Ljava/lang/Object;" } : Jvm.MethodName)) ∈ gtbl := gm 555 (by decide +kernel) rfl
theorem w_507 : (Jvm.Cond.sameMethod "[I" "java/lang/Object" "clone" "()Ljava/lang/Object;") ∈ gtbl := gm 556 (by decide +kernel) rfl
theorem w_508 : (Jvm.Cond.native ({ cls := "java/lang/Object", name := "clone", desc := "()Ljava/lang/Object;" } : Jvm.MethodName)) ∈ gtbl := gm 557 (by decide +kernel) rfl
theorem w_509 : (Jvm.Cond.instanceMethod ({ cls := "java/lang/Object", name := "clone", desc := "()Ljava/lang/Object;" } : Jvm.MethodName)) ∈ gtbl := gm 558 (by decide +kernel) rfl
theorem w_510 : (Jvm.Cond.selects "[I" ({ cls := "[I", name := "clone", desc := "()Ljava/lang/Object;" } : Jvm.MethodName) ({ cls := "java/lang/Object", name := "clone", desc := "()Ljava/lang/Object;" } : Jvm.MethodName)) ∈ gtbl := gm 559 (by decide +kernel) rfl
theorem w_512 : (Jvm.Cond.classLink "java/util/Arrays" (317 : Nat) "[I") ∈ gtbl := gm 561 (by decide +kernel) rfl
theorem w_513 : (Jvm.Cond.methodLink "java/util/Arrays" (304 : Nat) ({ cls := "java/lang/Math", name := "min", desc := "(II)I" } : Jvm.MethodName)) ∈ gtbl := gm 562 (by decide +kernel) rfl
theorem w_514 : (Jvm.Cond.methodLink "java/util/Arrays" (150 : Nat) ({ cls := "java/lang/System", name := "arraycopy", desc := "(Ljava/lang/Object;ILjava/lang/Object;II)V" } : Jvm.MethodName)) ∈ gtbl := gm 563 (by decide +kernel) rfl
theorem w_515 : (Jvm.Cond.static ({ cls := "java/lang/System", name := "arraycopy", desc := "(Ljava/lang/Object;ILjava/lang/Object;II)V" } : Jvm.MethodName)) ∈ gtbl := gm 564 (by decide +kernel) rfl
theorem w_516 : (Jvm.Cond.native ({ cls := "java/lang/System", name := "arraycopy", desc := "(Ljava/lang/Object;ILjava/lang/Object;II)V" } : Jvm.MethodName)) ∈ gtbl := gm 565 (by decide +kernel) rfl
theorem w_517 : (Jvm.Cond.methodLink "Twinphase" (210 : Nat) ({ cls := "Twinphase$Transaction", name := "isVanished", desc := "(I)Z" } : Jvm.MethodName)) ∈ gtbl := gm 566 (by decide +kernel) rfl
theorem w_518 : (Jvm.Cond.instanceMethod ({ cls := "Twinphase$Transaction", name := "isVanished", desc := "(I)Z" } : Jvm.MethodName)) ∈ gtbl := gm 567 (by decide +kernel) rfl
theorem w_519 : (Jvm.Cond.selects "Twinphase$Transaction" ({ cls := "Twinphase$Transaction", name := "isVanished", desc := "(I)Z" } : Jvm.MethodName) ({ cls := "Twinphase$Transaction", name := "isVanished", desc := "(I)Z" } : Jvm.MethodName)) ∈ gtbl := gm 568 (by decide +kernel) rfl
theorem w_520 : (Jvm.Cond.code ({ cls := "Twinphase$Transaction", name := "isVanished", desc := "(I)Z" } : Jvm.MethodName) prog_5_method_2_code (2 : Nat) (Option.some Jvm.ClassFile.FieldType.boolean)) ∈ gtbl := gm 569 (by decide +kernel) rfl
theorem w_521 : (Jvm.Cond.methodLink "Twinphase" (291 : Nat) ({ cls := "Twinphase", name := "waitFor", desc := "(LTwinphase$Transaction;LTwinphase$Transaction;)I" } : Jvm.MethodName)) ∈ gtbl := gm 570 (by decide +kernel) rfl
theorem w_523 : (Jvm.Cond.instanceMethod ({ cls := "Twinphase", name := "waitFor", desc := "(LTwinphase$Transaction;LTwinphase$Transaction;)I" } : Jvm.MethodName)) ∈ gtbl := gm 572 (by decide +kernel) rfl
theorem w_524 : (Jvm.Cond.code ({ cls := "Twinphase", name := "waitFor", desc := "(LTwinphase$Transaction;LTwinphase$Transaction;)I" } : Jvm.MethodName) prog_1_method_39_code (4 : Nat) (Option.some Jvm.ClassFile.FieldType.int)) ∈ gtbl := gm 573 (by decide +kernel) rfl
theorem w_525 : (Jvm.Cond.methodLink "Twinphase" (267 : Nat) ({ cls := "Twinphase", name := "victimOfRing", desc := "(LTwinphase$Transaction;)LTwinphase$Transaction;" } : Jvm.MethodName)) ∈ gtbl := gm 574 (by decide +kernel) rfl
theorem w_527 : (Jvm.Cond.instanceMethod ({ cls := "Twinphase", name := "victimOfRing", desc := "(LTwinphase$Transaction;)LTwinphase$Transaction;" } : Jvm.MethodName)) ∈ gtbl := gm 576 (by decide +kernel) rfl
theorem w_528 : (Jvm.Cond.code ({ cls := "Twinphase", name := "victimOfRing", desc := "(LTwinphase$Transaction;)LTwinphase$Transaction;" } : Jvm.MethodName) prog_1_method_40_code (5 : Nat) (Option.some (Jvm.ClassFile.FieldType.object "Twinphase$Transaction"))) ∈ gtbl := gm 577 (by decide +kernel) rfl
theorem w_529 : (Jvm.Cond.methodLink "Twinphase" (195 : Nat) ({ cls := "Twinphase$Transaction", name := "waitsFor", desc := "()LTwinphase$Transaction;" } : Jvm.MethodName)) ∈ gtbl := gm 578 (by decide +kernel) rfl
theorem w_530 : (Jvm.Cond.instanceMethod ({ cls := "Twinphase$Transaction", name := "waitsFor", desc := "()LTwinphase$Transaction;" } : Jvm.MethodName)) ∈ gtbl := gm 579 (by decide +kernel) rfl
theorem w_531 : (Jvm.Cond.selects "Twinphase$Transaction" ({ cls := "Twinphase$Transaction", name := "waitsFor", desc := "()LTwinphase$Transaction;" } : Jvm.MethodName) ({ cls := "Twinphase$Transaction", name := "waitsFor", desc := "()LTwinphase$Transaction;" } : Jvm.MethodName)) ∈ gtbl := gm 580 (by decide +kernel) rfl
theorem w_532 : (Jvm.Cond.code ({ cls := "Twinphase$Transaction", name := "waitsFor", desc := "()LTwinphase$Transaction;" } : Jvm.MethodName) prog_5_method_3_code (1 : Nat) (Option.some (Jvm.ClassFile.FieldType.object "Twinphase$Transaction"))) ∈ gtbl := gm 581 (by decide +kernel) rfl
theorem w_533 : (Jvm.Cond.methodLink "Twinphase" (271 : Nat) ({ cls := "Twinphase$Transaction", name := "yieldsBefore", desc := "(LTwinphase$Transaction;)Z" } : Jvm.MethodName)) ∈ gtbl := gm 582 (by decide +kernel) rfl
theorem w_534 : (Jvm.Cond.instanceMethod ({ cls := "Twinphase$Transaction", name := "yieldsBefore", desc := "(LTwinphase$Transaction;)Z" } : Jvm.MethodName)) ∈ gtbl := gm 583 (by decide +kernel) rfl
theorem w_535 : (Jvm.Cond.selects "Twinphase$Transaction" ({ cls := "Twinphase$Transaction", name := "yieldsBefore", desc := "(LTwinphase$Transaction;)Z" } : Jvm.MethodName) ({ cls := "Twinphase$Transaction", name := "yieldsBefore", desc := "(LTwinphase$Transaction;)Z" } : Jvm.MethodName)) ∈ gtbl := gm 584 (by decide +kernel) rfl
theorem w_536 : (Jvm.Cond.code ({ cls := "Twinphase$Transaction", name := "yieldsBefore", desc := "(LTwinphase$Transaction;)Z" } : Jvm.MethodName) prog_5_method_4_code (2 : Nat) (Option.some Jvm.ClassFile.FieldType.boolean)) ∈ gtbl := gm 585 (by decide +kernel) rfl
theorem w_537 : (Jvm.Cond.methodLink "Twinphase" (295 : Nat) ({ cls := "Twinphase$History", name := "stampUpTo", desc := "(II)I" } : Jvm.MethodName)) ∈ gtbl := gm 586 (by decide +kernel) rfl
theorem w_538 : (Jvm.Cond.instanceMethod ({ cls := "Twinphase$History", name := "stampUpTo", desc := "(II)I" } : Jvm.MethodName)) ∈ gtbl := gm 587 (by decide +kernel) rfl
theorem w_539 : (Jvm.Cond.selects "Twinphase$History" ({ cls := "Twinphase$History", name := "stampUpTo", desc := "(II)I" } : Jvm.MethodName) ({ cls := "Twinphase$History", name := "stampUpTo", desc := "(II)I" } : Jvm.MethodName)) ∈ gtbl := gm 588 (by decide +kernel) rfl
theorem w_540 : (Jvm.Cond.code ({ cls := "Twinphase$History", name := "stampUpTo", desc := "(II)I" } : Jvm.MethodName) prog_3_method_4_code (4 : Nat) (Option.some Jvm.ClassFile.FieldType.int)) ∈ gtbl := gm 589 (by decide +kernel) rfl
theorem w_541 : (Jvm.Cond.methodLink "Twinphase$History" (37 : Nat) ({ cls := "Twinphase$History", name := "placeUpTo", desc := "(II)I" } : Jvm.MethodName)) ∈ gtbl := gm 590 (by decide +kernel) rfl
theorem w_542 : (Jvm.Cond.instanceMethod ({ cls := "Twinphase$History", name := "placeUpTo", desc := "(II)I" } : Jvm.MethodName)) ∈ gtbl := gm 591 (by decide +kernel) rfl
theorem w_543 : (Jvm.Cond.selects "Twinphase$History" ({ cls := "Twinphase$History", name := "placeUpTo", desc := "(II)I" } : Jvm.MethodName) ({ cls := "Twinphase$History", name := "placeUpTo", desc := "(II)I" } : Jvm.MethodName)) ∈ gtbl := gm 592 (by decide +kernel) rfl
theorem w_544 : (Jvm.Cond.code ({ cls := "Twinphase$History", name := "placeUpTo", desc := "(II)I" } : Jvm.MethodName) prog_3_method_3_code (4 : Nat) (Option.some Jvm.ClassFile.FieldType.int)) ∈ gtbl := gm 593 (by decide +kernel) rfl
theorem w_545 : (Jvm.Cond.methodLink "Twinphase" (175 : Nat) ({ cls := "Twinphase", name := "refreshReads", desc := "(LTwinphase$Transaction;I)Z" } : Jvm.MethodName)) ∈ gtbl := gm 594 (by decide +kernel) rfl
theorem w_547 : (Jvm.Cond.instanceMethod ({ cls := "Twinphase", name := "refreshReads", desc := "(LTwinphase$Transaction;I)Z" } : Jvm.MethodName)) ∈ gtbl := gm 596 (by decide +kernel) rfl
theorem w_548 : (Jvm.Cond.code ({ cls := "Twinphase", name := "refreshReads", desc := "(LTwinphase$Transaction;I)Z" } : Jvm.MethodName) prog_1_method_42_code (5 : Nat) (Option.some Jvm.ClassFile.FieldType.boolean)) ∈ gtbl := gm 597 (by decide +kernel) rfl
theorem w_549 : (Jvm.Cond.methodLink "Twinphase" (304 : Nat) ({ cls := "Twinphase$Transaction", name := "hasRead", desc := "(I)Z" } : Jvm.MethodName)) ∈ gtbl := gm 598 (by decide +kernel) rfl
theorem w_550 : (Jvm.Cond.methodLink "Twinphase" (298 : Nat) ({ cls := "Twinphase$Cell", name := "noteReader", desc := "(II)V" } : Jvm.MethodName)) ∈ gtbl := gm 599 (by decide +kernel) rfl
theorem w_551 : (Jvm.Cond.instanceMethod ({ cls := "Twinphase$Cell", name := "noteReader", desc := "(II)V" } : Jvm.MethodName)) ∈ gtbl := gm 600 (by decide +kernel) rfl
theorem w_552 : (Jvm.Cond.selects "Twinphase$Cell" ({ cls := "Twinphase$Cell", name := "noteReader", desc := "(II)V" } : Jvm.MethodName) ({ cls := "Twinphase$Cell", name := "noteReader", desc := "(II)V" } : Jvm.MethodName)) ∈ gtbl := gm 601 (by decide +kernel) rfl
theorem w_553 : (Jvm.Cond.code ({ cls := "Twinphase$Cell", name := "noteReader", desc := "(II)V" } : Jvm.MethodName) prog_2_method_2_code (3 : Nat) (Option.none : Option Jvm.ClassFile.FieldType)) ∈ gtbl := gm 602 (by decide +kernel) rfl
theorem w_554 : (Jvm.Cond.methodLink "Twinphase" (307 : Nat) ({ cls := "Twinphase$Transaction", name := "raiseStamps", desc := "(I)V" } : Jvm.MethodName)) ∈ gtbl := gm 603 (by decide +kernel) rfl
theorem w_555 : (Jvm.Cond.instanceMethod ({ cls := "Twinphase$Transaction", name := "raiseStamps", desc := "(I)V" } : Jvm.MethodName)) ∈ gtbl := gm 604 (by decide +kernel) rfl
theorem w_556 : (Jvm.Cond.selects "Twinphase$Transaction" ({ cls := "Twinphase$Transaction", name := "raiseStamps", desc := "(I)V" } : Jvm.MethodName) ({ cls := "Twinphase$Transaction", name := "raiseStamps", desc := "(I)V" } : Jvm.MethodName)) ∈ gtbl := gm 605 (by decide +kernel) rfl
theorem w_557 : (Jvm.Cond.code ({ cls := "Twinphase$Transaction", name := "raiseStamps", desc := "(I)V" } : Jvm.MethodName) prog_5_method_12_code (2 : Nat) (Option.none : Option Jvm.ClassFile.FieldType)) ∈ gtbl := gm 606 (by decide +kernel) rfl
theorem w_558 : (Jvm.Cond.methodLink "Twinphase$Transaction" (65 : Nat) ({ cls := "java/lang/Math", name := "max", desc := "(II)I" } : Jvm.MethodName)) ∈ gtbl := gm 607 (by decide +kernel) rfl
theorem w_559 : (Jvm.Cond.methodLink "Twinphase" (179 : Nat) ({ cls := "Twinphase", name := "restartAt", desc := "(LTwinphase$Transaction;I)I" } : Jvm.MethodName)) ∈ gtbl := gm 608 (by decide +kernel) rfl
theorem w_561 : (Jvm.Cond.instanceMethod ({ cls := "Twinphase", name := "restartAt", desc := "(LTwinphase$Transaction;I)I" } : Jvm.MethodName)) ∈ gtbl := gm 610 (by decide +kernel) rfl
theorem w_562 : (Jvm.Cond.code ({ cls := "Twinphase", name := "restartAt", desc := "(LTwinphase$Transaction;I)I" } : Jvm.MethodName) prog_1_method_43_code (7 : Nat) (Option.some Jvm.ClassFile.FieldType.int)) ∈ gtbl := gm 611 (by decide +kernel) rfl
theorem w_563 : (Jvm.Cond.methodLink "Twinphase" (310 : Nat) ({ cls := "Twinphase$Transaction", name := "forgetAll", desc := "(I)V" } : Jvm.MethodName)) ∈ gtbl := gm 612 (by decide +kernel) rfl
theorem w_564 : (Jvm.Cond.instanceMethod ({ cls := "Twinphase$Transaction", name := "forgetAll", desc := "(I)V" } : Jvm.MethodName)) ∈ gtbl := gm 613 (by decide +kernel) rfl
theorem w_565 : (Jvm.Cond.selects "Twinphase$Transaction" ({ cls := "Twinphase$Transaction", name := "forgetAll", desc := "(I)V" } : Jvm.MethodName) ({ cls := "Twinphase$Transaction", name := "forgetAll", desc := "(I)V" } : Jvm.MethodName)) ∈ gtbl := gm 614 (by decide +kernel) rfl
theorem w_566 : (Jvm.Cond.code ({ cls := "Twinphase$Transaction", name := "forgetAll", desc := "(I)V" } : Jvm.MethodName) prog_5_method_11_code (2 : Nat) (Option.none : Option Jvm.ClassFile.FieldType)) ∈ gtbl := gm 615 (by decide +kernel) rfl
theorem w_567 : (Jvm.Cond.methodLink "Twinphase" (223 : Nat) ({ cls := "Twinphase$History", name := "valueUpTo", desc := "(II)I" } : Jvm.MethodName)) ∈ gtbl := gm 616 (by decide +kernel) rfl
theorem w_568 : (Jvm.Cond.instanceMethod ({ cls := "Twinphase$History", name := "valueUpTo", desc := "(II)I" } : Jvm.MethodName)) ∈ gtbl := gm 617 (by decide +kernel) rfl
theorem w_569 : (Jvm.Cond.selects "Twinphase$History" ({ cls := "Twinphase$History", name := "valueUpTo", desc := "(II)I" } : Jvm.MethodName) ({ cls := "Twinphase$History", name := "valueUpTo", desc := "(II)I" } : Jvm.MethodName)) ∈ gtbl := gm 618 (by decide +kernel) rfl
theorem w_570 : (Jvm.Cond.code ({ cls := "Twinphase$History", name := "valueUpTo", desc := "(II)I" } : Jvm.MethodName) prog_3_method_5_code (4 : Nat) (Option.some Jvm.ClassFile.FieldType.int)) ∈ gtbl := gm 619 (by decide +kernel) rfl
theorem w_571 : (Jvm.Cond.methodLink "Twinphase" (301 : Nat) ({ cls := "Twinphase$Transaction", name := "noteRead", desc := "(II)I" } : Jvm.MethodName)) ∈ gtbl := gm 620 (by decide +kernel) rfl
theorem w_572 : (Jvm.Cond.instanceMethod ({ cls := "Twinphase$Transaction", name := "noteRead", desc := "(II)I" } : Jvm.MethodName)) ∈ gtbl := gm 621 (by decide +kernel) rfl
theorem w_573 : (Jvm.Cond.selects "Twinphase$Transaction" ({ cls := "Twinphase$Transaction", name := "noteRead", desc := "(II)I" } : Jvm.MethodName) ({ cls := "Twinphase$Transaction", name := "noteRead", desc := "(II)I" } : Jvm.MethodName)) ∈ gtbl := gm 622 (by decide +kernel) rfl
theorem w_574 : (Jvm.Cond.code ({ cls := "Twinphase$Transaction", name := "noteRead", desc := "(II)I" } : Jvm.MethodName) prog_5_method_8_code (3 : Nat) (Option.some Jvm.ClassFile.FieldType.int)) ∈ gtbl := gm 623 (by decide +kernel) rfl
theorem w_575 : (Jvm.Cond.methodLink "TwinphaseLaw" (131 : Nat) ({ cls := "TwinphaseLaw", name := "put", desc := "(LTwinphase;III[J)I" } : Jvm.MethodName)) ∈ gtbl := gm 624 (by decide +kernel) rfl
theorem w_576 : (Jvm.Cond.static ({ cls := "TwinphaseLaw", name := "put", desc := "(LTwinphase;III[J)I" } : Jvm.MethodName)) ∈ gtbl := gm 625 (by decide +kernel) rfl
theorem w_577 : (Jvm.Cond.codeWith ({ cls := "TwinphaseLaw", name := "put", desc := "(LTwinphase;III[J)I" } : Jvm.MethodName) method_14_code (6 : Nat) (Option.some Jvm.ClassFile.FieldType.int) [((0 : Nat), (12 : Nat), (15 : Nat), (21 : Nat)), ((0 : Nat), (12 : Nat), (19 : Nat), (13 : Nat))]) ∈ gtbl := gm 626 (by decide +kernel) rfl
theorem w_578 : (Jvm.Cond.methodLink "TwinphaseLaw" (50 : Nat) ({ cls := "Twinphase", name := "put", desc := "(III)I" } : Jvm.MethodName)) ∈ gtbl := gm 627 (by decide +kernel) rfl
theorem w_579 : (Jvm.Cond.instanceMethod ({ cls := "Twinphase", name := "put", desc := "(III)I" } : Jvm.MethodName)) ∈ gtbl := gm 628 (by decide +kernel) rfl
theorem w_580 : (Jvm.Cond.selects "Twinphase" ({ cls := "Twinphase", name := "put", desc := "(III)I" } : Jvm.MethodName) ({ cls := "Twinphase", name := "put", desc := "(III)I" } : Jvm.MethodName)) ∈ gtbl := gm 629 (by decide +kernel) rfl
theorem w_581 : (Jvm.Cond.code ({ cls := "Twinphase", name := "put", desc := "(III)I" } : Jvm.MethodName) prog_1_method_14_code (8 : Nat) (Option.some Jvm.ClassFile.FieldType.int)) ∈ gtbl := gm 630 (by decide +kernel) rfl
theorem w_583 : (Jvm.Cond.methodLink "Twinphase" (143 : Nat) ({ cls := "Twinphase", name := "lookToWrite", desc := "(LTwinphase$Transaction;II)I" } : Jvm.MethodName)) ∈ gtbl := gm 632 (by decide +kernel) rfl
theorem w_585 : (Jvm.Cond.instanceMethod ({ cls := "Twinphase", name := "lookToWrite", desc := "(LTwinphase$Transaction;II)I" } : Jvm.MethodName)) ∈ gtbl := gm 634 (by decide +kernel) rfl
theorem w_586 : (Jvm.Cond.code ({ cls := "Twinphase", name := "lookToWrite", desc := "(LTwinphase$Transaction;II)I" } : Jvm.MethodName) prog_1_method_44_code (7 : Nat) (Option.some Jvm.ClassFile.FieldType.int)) ∈ gtbl := gm 635 (by decide +kernel) rfl
theorem w_587 : (Jvm.Cond.constant "Twinphase" (313 : Nat) (2147483647 : Int32)) ∈ gtbl := gm 636 (by decide +kernel) rfl
theorem w_588 : (Jvm.Cond.methodLink "Twinphase" (314 : Nat) ({ cls := "Twinphase$Transaction", name := "noteWrite", desc := "(II)V" } : Jvm.MethodName)) ∈ gtbl := gm 637 (by decide +kernel) rfl
theorem w_589 : (Jvm.Cond.instanceMethod ({ cls := "Twinphase$Transaction", name := "noteWrite", desc := "(II)V" } : Jvm.MethodName)) ∈ gtbl := gm 638 (by decide +kernel) rfl
theorem w_590 : (Jvm.Cond.selects "Twinphase$Transaction" ({ cls := "Twinphase$Transaction", name := "noteWrite", desc := "(II)V" } : Jvm.MethodName) ({ cls := "Twinphase$Transaction", name := "noteWrite", desc := "(II)V" } : Jvm.MethodName)) ∈ gtbl := gm 639 (by decide +kernel) rfl
theorem w_591 : (Jvm.Cond.code ({ cls := "Twinphase$Transaction", name := "noteWrite", desc := "(II)V" } : Jvm.MethodName) prog_5_method_10_code (3 : Nat) (Option.none : Option Jvm.ClassFile.FieldType)) ∈ gtbl := gm 640 (by decide +kernel) rfl
theorem w_592 : (Jvm.Cond.methodLink "TwinphaseLaw" (135 : Nat) ({ cls := "TwinphaseLaw", name := "commit", desc := "(LTwinphase;IZ[J)I" } : Jvm.MethodName)) ∈ gtbl := gm 641 (by decide +kernel) rfl
theorem w_593 : (Jvm.Cond.static ({ cls := "TwinphaseLaw", name := "commit", desc := "(LTwinphase;IZ[J)I" } : Jvm.MethodName)) ∈ gtbl := gm 642 (by decide +kernel) rfl
theorem w_594 : (Jvm.Cond.codeWith ({ cls := "TwinphaseLaw", name := "commit", desc := "(LTwinphase;IZ[J)I" } : Jvm.MethodName) method_15_code (5 : Nat) (Option.some Jvm.ClassFile.FieldType.int) [((0 : Nat), (10 : Nat), (13 : Nat), (21 : Nat))]) ∈ gtbl := gm 643 (by decide +kernel) rfl
theorem w_595 : (Jvm.Cond.methodLink "TwinphaseLaw" (54 : Nat) ({ cls := "Twinphase", name := "commit", desc := "(IZ)I" } : Jvm.MethodName)) ∈ gtbl := gm 644 (by decide +kernel) rfl
theorem w_596 : (Jvm.Cond.instanceMethod ({ cls := "Twinphase", name := "commit", desc := "(IZ)I" } : Jvm.MethodName)) ∈ gtbl := gm 645 (by decide +kernel) rfl
theorem w_597 : (Jvm.Cond.selects "Twinphase" ({ cls := "Twinphase", name := "commit", desc := "(IZ)I" } : Jvm.MethodName) ({ cls := "Twinphase", name := "commit", desc := "(IZ)I" } : Jvm.MethodName)) ∈ gtbl := gm 646 (by decide +kernel) rfl
theorem w_598 : (Jvm.Cond.code ({ cls := "Twinphase", name := "commit", desc := "(IZ)I" } : Jvm.MethodName) prog_1_method_15_code (4 : Nat) (Option.some Jvm.ClassFile.FieldType.int)) ∈ gtbl := gm 647 (by decide +kernel) rfl
theorem w_599 : (Jvm.Cond.methodLink "Twinphase" (153 : Nat) ({ cls := "Twinphase", name := "writesOnDownNode", desc := "(LTwinphase$Transaction;)Z" } : Jvm.MethodName)) ∈ gtbl := gm 648 (by decide +kernel) rfl
theorem w_601 : (Jvm.Cond.instanceMethod ({ cls := "Twinphase", name := "writesOnDownNode", desc := "(LTwinphase$Transaction;)Z" } : Jvm.MethodName)) ∈ gtbl := gm 650 (by decide +kernel) rfl
theorem w_602 : (Jvm.Cond.code ({ cls := "Twinphase", name := "writesOnDownNode", desc := "(LTwinphase$Transaction;)Z" } : Jvm.MethodName) prog_1_method_45_code (3 : Nat) (Option.some Jvm.ClassFile.FieldType.boolean)) ∈ gtbl := gm 651 (by decide +kernel) rfl
theorem w_603 : (Jvm.Cond.methodLink "TwinphaseLaw" (139 : Nat) ({ cls := "TwinphaseLaw", name := "abort", desc := "(LTwinphase;I[J)I" } : Jvm.MethodName)) ∈ gtbl := gm 652 (by decide +kernel) rfl
theorem w_604 : (Jvm.Cond.static ({ cls := "TwinphaseLaw", name := "abort", desc := "(LTwinphase;I[J)I" } : Jvm.MethodName)) ∈ gtbl := gm 653 (by decide +kernel) rfl
theorem w_605 : (Jvm.Cond.codeWith ({ cls := "TwinphaseLaw", name := "abort", desc := "(LTwinphase;I[J)I" } : Jvm.MethodName) method_16_code (4 : Nat) (Option.some Jvm.ClassFile.FieldType.int) [((0 : Nat), (9 : Nat), (12 : Nat), (21 : Nat))]) ∈ gtbl := gm 654 (by decide +kernel) rfl
theorem w_606 : (Jvm.Cond.methodLink "TwinphaseLaw" (58 : Nat) ({ cls := "Twinphase", name := "abort", desc := "(I)I" } : Jvm.MethodName)) ∈ gtbl := gm 655 (by decide +kernel) rfl
theorem w_607 : (Jvm.Cond.instanceMethod ({ cls := "Twinphase", name := "abort", desc := "(I)I" } : Jvm.MethodName)) ∈ gtbl := gm 656 (by decide +kernel) rfl
theorem w_608 : (Jvm.Cond.selects "Twinphase" ({ cls := "Twinphase", name := "abort", desc := "(I)I" } : Jvm.MethodName) ({ cls := "Twinphase", name := "abort", desc := "(I)I" } : Jvm.MethodName)) ∈ gtbl := gm 657 (by decide +kernel) rfl
theorem w_609 : (Jvm.Cond.code ({ cls := "Twinphase", name := "abort", desc := "(I)I" } : Jvm.MethodName) prog_1_method_16_code (2 : Nat) (Option.some Jvm.ClassFile.FieldType.int)) ∈ gtbl := gm 658 (by decide +kernel) rfl
theorem w_610 : (Jvm.Cond.methodLink "TwinphaseLaw" (142 : Nat) ({ cls := "TwinphaseLaw", name := "recover", desc := "(LTwinphase;I[J)I" } : Jvm.MethodName)) ∈ gtbl := gm 659 (by decide +kernel) rfl
theorem w_611 : (Jvm.Cond.static ({ cls := "TwinphaseLaw", name := "recover", desc := "(LTwinphase;I[J)I" } : Jvm.MethodName)) ∈ gtbl := gm 660 (by decide +kernel) rfl
theorem w_612 : (Jvm.Cond.codeWith ({ cls := "TwinphaseLaw", name := "recover", desc := "(LTwinphase;I[J)I" } : Jvm.MethodName) method_17_code (4 : Nat) (Option.some Jvm.ClassFile.FieldType.int) [((0 : Nat), (9 : Nat), (12 : Nat), (21 : Nat))]) ∈ gtbl := gm 661 (by decide +kernel) rfl
theorem w_613 : (Jvm.Cond.methodLink "TwinphaseLaw" (61 : Nat) ({ cls := "Twinphase", name := "recover", desc := "(I)I" } : Jvm.MethodName)) ∈ gtbl := gm 662 (by decide +kernel) rfl
theorem w_614 : (Jvm.Cond.instanceMethod ({ cls := "Twinphase", name := "recover", desc := "(I)I" } : Jvm.MethodName)) ∈ gtbl := gm 663 (by decide +kernel) rfl
theorem w_615 : (Jvm.Cond.selects "Twinphase" ({ cls := "Twinphase", name := "recover", desc := "(I)I" } : Jvm.MethodName) ({ cls := "Twinphase", name := "recover", desc := "(I)I" } : Jvm.MethodName)) ∈ gtbl := gm 664 (by decide +kernel) rfl
theorem w_616 : (Jvm.Cond.code ({ cls := "Twinphase", name := "recover", desc := "(I)I" } : Jvm.MethodName) prog_1_method_17_code (3 : Nat) (Option.some Jvm.ClassFile.FieldType.int)) ∈ gtbl := gm 665 (by decide +kernel) rfl
theorem w_617 : (Jvm.Cond.methodLink "TwinphaseLaw" (145 : Nat) ({ cls := "TwinphaseLaw", name := "beat", desc := "(LTwinphase;I[J)I" } : Jvm.MethodName)) ∈ gtbl := gm 666 (by decide +kernel) rfl
theorem w_618 : (Jvm.Cond.static ({ cls := "TwinphaseLaw", name := "beat", desc := "(LTwinphase;I[J)I" } : Jvm.MethodName)) ∈ gtbl := gm 667 (by decide +kernel) rfl
theorem w_619 : (Jvm.Cond.codeWith ({ cls := "TwinphaseLaw", name := "beat", desc := "(LTwinphase;I[J)I" } : Jvm.MethodName) method_18_code (4 : Nat) (Option.some Jvm.ClassFile.FieldType.int) [((0 : Nat), (9 : Nat), (12 : Nat), (21 : Nat))]) ∈ gtbl := gm 668 (by decide +kernel) rfl
theorem w_620 : (Jvm.Cond.methodLink "TwinphaseLaw" (64 : Nat) ({ cls := "Twinphase", name := "beat", desc := "(I)I" } : Jvm.MethodName)) ∈ gtbl := gm 669 (by decide +kernel) rfl
theorem w_621 : (Jvm.Cond.instanceMethod ({ cls := "Twinphase", name := "beat", desc := "(I)I" } : Jvm.MethodName)) ∈ gtbl := gm 670 (by decide +kernel) rfl
theorem w_622 : (Jvm.Cond.selects "Twinphase" ({ cls := "Twinphase", name := "beat", desc := "(I)I" } : Jvm.MethodName) ({ cls := "Twinphase", name := "beat", desc := "(I)I" } : Jvm.MethodName)) ∈ gtbl := gm 671 (by decide +kernel) rfl
theorem w_623 : (Jvm.Cond.code ({ cls := "Twinphase", name := "beat", desc := "(I)I" } : Jvm.MethodName) prog_1_method_18_code (2 : Nat) (Option.some Jvm.ClassFile.FieldType.int)) ∈ gtbl := gm 672 (by decide +kernel) rfl
theorem w_624 : (Jvm.Cond.methodLink "TwinphaseLaw" (148 : Nat) ({ cls := "TwinphaseLaw", name := "told", desc := "(LTwinphase;II[J)I" } : Jvm.MethodName)) ∈ gtbl := gm 673 (by decide +kernel) rfl
theorem w_625 : (Jvm.Cond.static ({ cls := "TwinphaseLaw", name := "told", desc := "(LTwinphase;II[J)I" } : Jvm.MethodName)) ∈ gtbl := gm 674 (by decide +kernel) rfl
theorem w_626 : (Jvm.Cond.codeWith ({ cls := "TwinphaseLaw", name := "told", desc := "(LTwinphase;II[J)I" } : Jvm.MethodName) method_19_code (5 : Nat) (Option.some Jvm.ClassFile.FieldType.int) [((0 : Nat), (10 : Nat), (13 : Nat), (21 : Nat)), ((0 : Nat), (10 : Nat), (17 : Nat), (13 : Nat))]) ∈ gtbl := gm 675 (by decide +kernel) rfl
theorem w_627 : (Jvm.Cond.methodLink "TwinphaseLaw" (67 : Nat) ({ cls := "Twinphase", name := "told", desc := "(II)I" } : Jvm.MethodName)) ∈ gtbl := gm 676 (by decide +kernel) rfl
theorem w_628 : (Jvm.Cond.instanceMethod ({ cls := "Twinphase", name := "told", desc := "(II)I" } : Jvm.MethodName)) ∈ gtbl := gm 677 (by decide +kernel) rfl
theorem w_629 : (Jvm.Cond.selects "Twinphase" ({ cls := "Twinphase", name := "told", desc := "(II)I" } : Jvm.MethodName) ({ cls := "Twinphase", name := "told", desc := "(II)I" } : Jvm.MethodName)) ∈ gtbl := gm 678 (by decide +kernel) rfl
theorem w_630 : (Jvm.Cond.code ({ cls := "Twinphase", name := "told", desc := "(II)I" } : Jvm.MethodName) prog_1_method_19_code (4 : Nat) (Option.some Jvm.ClassFile.FieldType.int)) ∈ gtbl := gm 679 (by decide +kernel) rfl
theorem w_631 : (Jvm.Cond.methodLink "Twinphase" (192 : Nat) ({ cls := "Twinphase", name := "needWhat", desc := "(I)V" } : Jvm.MethodName)) ∈ gtbl := gm 680 (by decide +kernel) rfl
theorem w_633 : (Jvm.Cond.instanceMethod ({ cls := "Twinphase", name := "needWhat", desc := "(I)V" } : Jvm.MethodName)) ∈ gtbl := gm 682 (by decide +kernel) rfl
theorem w_634 : (Jvm.Cond.code ({ cls := "Twinphase", name := "needWhat", desc := "(I)V" } : Jvm.MethodName) prog_1_method_31_code (2 : Nat) (Option.none : Option Jvm.ClassFile.FieldType)) ∈ gtbl := gm 683 (by decide +kernel) rfl
theorem w_636 : (Jvm.Cond.methodLink "Twinphase" (205 : Nat) ({ cls := "java/lang/Integer", name := "bitCount", desc := "(I)I" } : Jvm.MethodName)) ∈ gtbl := gm 685 (by decide +kernel) rfl
theorem w_637 : (Jvm.Cond.static ({ cls := "java/lang/Integer", name := "bitCount", desc := "(I)I" } : Jvm.MethodName)) ∈ gtbl := gm 686 (by decide +kernel) rfl
theorem w_638 : (Jvm.Cond.code ({ cls := "java/lang/Integer", name := "bitCount", desc := "(I)I" } : Jvm.MethodName) prog_13_method_49_code (1 : Nat) (Option.some Jvm.ClassFile.FieldType.int)) ∈ gtbl := gm 687 (by decide +kernel) rfl
theorem w_639 : (Jvm.Cond.constant "java/lang/Integer" (265 : Nat) (1431655765 : Int32)) ∈ gtbl := gm 688 (by decide +kernel) rfl
theorem w_640 : (Jvm.Cond.constant "java/lang/Integer" (266 : Nat) (858993459 : Int32)) ∈ gtbl := gm 689 (by decide +kernel) rfl
theorem w_641 : (Jvm.Cond.constant "java/lang/Integer" (267 : Nat) (252645135 : Int32)) ∈ gtbl := gm 690 (by decide +kernel) rfl
theorem w_642 : (Jvm.Cond.methodLink "TwinphaseLaw" (151 : Nat) ({ cls := "TwinphaseLaw", name := "key", desc := "(LTwinphase;II[J)I" } : Jvm.MethodName)) ∈ gtbl := gm 691 (by decide +kernel) rfl
theorem w_643 : (Jvm.Cond.static ({ cls := "TwinphaseLaw", name := "key", desc := "(LTwinphase;II[J)I" } : Jvm.MethodName)) ∈ gtbl := gm 692 (by decide +kernel) rfl
theorem w_644 : (Jvm.Cond.codeWith ({ cls := "TwinphaseLaw", name := "key", desc := "(LTwinphase;II[J)I" } : Jvm.MethodName) method_20_code (5 : Nat) (Option.some Jvm.ClassFile.FieldType.int) [((0 : Nat), (10 : Nat), (13 : Nat), (21 : Nat)), ((0 : Nat), (10 : Nat), (17 : Nat), (13 : Nat))]) ∈ gtbl := gm 693 (by decide +kernel) rfl
theorem w_645 : (Jvm.Cond.methodLink "TwinphaseLaw" (70 : Nat) ({ cls := "Twinphase", name := "key", desc := "(II)I" } : Jvm.MethodName)) ∈ gtbl := gm 694 (by decide +kernel) rfl
theorem w_646 : (Jvm.Cond.instanceMethod ({ cls := "Twinphase", name := "key", desc := "(II)I" } : Jvm.MethodName)) ∈ gtbl := gm 695 (by decide +kernel) rfl
theorem w_647 : (Jvm.Cond.selects "Twinphase" ({ cls := "Twinphase", name := "key", desc := "(II)I" } : Jvm.MethodName) ({ cls := "Twinphase", name := "key", desc := "(II)I" } : Jvm.MethodName)) ∈ gtbl := gm 696 (by decide +kernel) rfl
theorem w_648 : (Jvm.Cond.code ({ cls := "Twinphase", name := "key", desc := "(II)I" } : Jvm.MethodName) prog_1_method_20_code (4 : Nat) (Option.some Jvm.ClassFile.FieldType.int)) ∈ gtbl := gm 697 (by decide +kernel) rfl
theorem w_649 : (Jvm.Cond.methodLink "Twinphase" (214 : Nat) ({ cls := "Twinphase$History", name := "countOf", desc := "(I)I" } : Jvm.MethodName)) ∈ gtbl := gm 698 (by decide +kernel) rfl
theorem w_650 : (Jvm.Cond.instanceMethod ({ cls := "Twinphase$History", name := "countOf", desc := "(I)I" } : Jvm.MethodName)) ∈ gtbl := gm 699 (by decide +kernel) rfl
theorem w_651 : (Jvm.Cond.selects "Twinphase$History" ({ cls := "Twinphase$History", name := "countOf", desc := "(I)I" } : Jvm.MethodName) ({ cls := "Twinphase$History", name := "countOf", desc := "(I)I" } : Jvm.MethodName)) ∈ gtbl := gm 700 (by decide +kernel) rfl
theorem w_652 : (Jvm.Cond.code ({ cls := "Twinphase$History", name := "countOf", desc := "(I)I" } : Jvm.MethodName) prog_3_method_6_code (4 : Nat) (Option.some Jvm.ClassFile.FieldType.int)) ∈ gtbl := gm 701 (by decide +kernel) rfl
theorem w_653 : (Jvm.Cond.methodLink "TwinphaseLaw" (154 : Nat) ({ cls := "TwinphaseLaw", name := "asOf", desc := "(LTwinphase;II[J)I" } : Jvm.MethodName)) ∈ gtbl := gm 702 (by decide +kernel) rfl
theorem w_654 : (Jvm.Cond.static ({ cls := "TwinphaseLaw", name := "asOf", desc := "(LTwinphase;II[J)I" } : Jvm.MethodName)) ∈ gtbl := gm 703 (by decide +kernel) rfl
theorem w_655 : (Jvm.Cond.codeWith ({ cls := "TwinphaseLaw", name := "asOf", desc := "(LTwinphase;II[J)I" } : Jvm.MethodName) method_21_code (5 : Nat) (Option.some Jvm.ClassFile.FieldType.int) [((0 : Nat), (10 : Nat), (13 : Nat), (21 : Nat)), ((0 : Nat), (10 : Nat), (17 : Nat), (13 : Nat))]) ∈ gtbl := gm 704 (by decide +kernel) rfl
theorem w_656 : (Jvm.Cond.methodLink "TwinphaseLaw" (73 : Nat) ({ cls := "Twinphase", name := "asOf", desc := "(II)I" } : Jvm.MethodName)) ∈ gtbl := gm 705 (by decide +kernel) rfl
theorem w_657 : (Jvm.Cond.instanceMethod ({ cls := "Twinphase", name := "asOf", desc := "(II)I" } : Jvm.MethodName)) ∈ gtbl := gm 706 (by decide +kernel) rfl
theorem w_658 : (Jvm.Cond.selects "Twinphase" ({ cls := "Twinphase", name := "asOf", desc := "(II)I" } : Jvm.MethodName) ({ cls := "Twinphase", name := "asOf", desc := "(II)I" } : Jvm.MethodName)) ∈ gtbl := gm 707 (by decide +kernel) rfl
theorem w_659 : (Jvm.Cond.code ({ cls := "Twinphase", name := "asOf", desc := "(II)I" } : Jvm.MethodName) prog_1_method_21_code (4 : Nat) (Option.some Jvm.ClassFile.FieldType.int)) ∈ gtbl := gm 708 (by decide +kernel) rfl
theorem w_661 : (Jvm.Cond.methodLink "TwinphaseLaw" (161 : Nat) ({ cls := "TwinphaseLaw", name := "feed", desc := "(LTwinphase;I[J)I" } : Jvm.MethodName)) ∈ gtbl := gm 710 (by decide +kernel) rfl
theorem w_662 : (Jvm.Cond.static ({ cls := "TwinphaseLaw", name := "feed", desc := "(LTwinphase;I[J)I" } : Jvm.MethodName)) ∈ gtbl := gm 711 (by decide +kernel) rfl
theorem w_663 : (Jvm.Cond.codeWith ({ cls := "TwinphaseLaw", name := "feed", desc := "(LTwinphase;I[J)I" } : Jvm.MethodName) method_22_code (4 : Nat) (Option.some Jvm.ClassFile.FieldType.int) [((0 : Nat), (9 : Nat), (12 : Nat), (21 : Nat))]) ∈ gtbl := gm 712 (by decide +kernel) rfl
theorem w_664 : (Jvm.Cond.methodLink "TwinphaseLaw" (76 : Nat) ({ cls := "Twinphase", name := "feed", desc := "(I)I" } : Jvm.MethodName)) ∈ gtbl := gm 713 (by decide +kernel) rfl
theorem w_665 : (Jvm.Cond.instanceMethod ({ cls := "Twinphase", name := "feed", desc := "(I)I" } : Jvm.MethodName)) ∈ gtbl := gm 714 (by decide +kernel) rfl
theorem w_666 : (Jvm.Cond.selects "Twinphase" ({ cls := "Twinphase", name := "feed", desc := "(I)I" } : Jvm.MethodName) ({ cls := "Twinphase", name := "feed", desc := "(I)I" } : Jvm.MethodName)) ∈ gtbl := gm 715 (by decide +kernel) rfl
theorem w_667 : (Jvm.Cond.code ({ cls := "Twinphase", name := "feed", desc := "(I)I" } : Jvm.MethodName) prog_1_method_23_code (2 : Nat) (Option.some Jvm.ClassFile.FieldType.int)) ∈ gtbl := gm 716 (by decide +kernel) rfl
theorem w_668 : (Jvm.Cond.methodLink "Twinphase" (229 : Nat) ({ cls := "Twinphase", name := "needPlace", desc := "(I)V" } : Jvm.MethodName)) ∈ gtbl := gm 717 (by decide +kernel) rfl
theorem w_670 : (Jvm.Cond.instanceMethod ({ cls := "Twinphase", name := "needPlace", desc := "(I)V" } : Jvm.MethodName)) ∈ gtbl := gm 719 (by decide +kernel) rfl
theorem w_671 : (Jvm.Cond.code ({ cls := "Twinphase", name := "needPlace", desc := "(I)V" } : Jvm.MethodName) prog_1_method_30_code (2 : Nat) (Option.none : Option Jvm.ClassFile.FieldType)) ∈ gtbl := gm 720 (by decide +kernel) rfl
theorem w_673 : (Jvm.Cond.methodLink "Twinphase" (232 : Nat) ({ cls := "Twinphase$History", name := "changeAt", desc := "(II)I" } : Jvm.MethodName)) ∈ gtbl := gm 722 (by decide +kernel) rfl
theorem w_674 : (Jvm.Cond.instanceMethod ({ cls := "Twinphase$History", name := "changeAt", desc := "(II)I" } : Jvm.MethodName)) ∈ gtbl := gm 723 (by decide +kernel) rfl
theorem w_675 : (Jvm.Cond.selects "Twinphase$History" ({ cls := "Twinphase$History", name := "changeAt", desc := "(II)I" } : Jvm.MethodName) ({ cls := "Twinphase$History", name := "changeAt", desc := "(II)I" } : Jvm.MethodName)) ∈ gtbl := gm 724 (by decide +kernel) rfl
theorem w_676 : (Jvm.Cond.code ({ cls := "Twinphase$History", name := "changeAt", desc := "(II)I" } : Jvm.MethodName) prog_3_method_7_code (3 : Nat) (Option.some Jvm.ClassFile.FieldType.int)) ∈ gtbl := gm 725 (by decide +kernel) rfl
theorem w_677 : (Jvm.Cond.methodLink "TwinphaseLaw" (164 : Nat) ({ cls := "TwinphaseLaw", name := "order", desc := "(LTwinphase;I[J)I" } : Jvm.MethodName)) ∈ gtbl := gm 726 (by decide +kernel) rfl
theorem w_678 : (Jvm.Cond.static ({ cls := "TwinphaseLaw", name := "order", desc := "(LTwinphase;I[J)I" } : Jvm.MethodName)) ∈ gtbl := gm 727 (by decide +kernel) rfl
theorem w_679 : (Jvm.Cond.codeWith ({ cls := "TwinphaseLaw", name := "order", desc := "(LTwinphase;I[J)I" } : Jvm.MethodName) method_23_code (4 : Nat) (Option.some Jvm.ClassFile.FieldType.int) [((0 : Nat), (9 : Nat), (12 : Nat), (21 : Nat))]) ∈ gtbl := gm 728 (by decide +kernel) rfl
theorem w_680 : (Jvm.Cond.methodLink "TwinphaseLaw" (79 : Nat) ({ cls := "Twinphase", name := "order", desc := "(I)I" } : Jvm.MethodName)) ∈ gtbl := gm 729 (by decide +kernel) rfl
theorem w_681 : (Jvm.Cond.instanceMethod ({ cls := "Twinphase", name := "order", desc := "(I)I" } : Jvm.MethodName)) ∈ gtbl := gm 730 (by decide +kernel) rfl
theorem w_682 : (Jvm.Cond.selects "Twinphase" ({ cls := "Twinphase", name := "order", desc := "(I)I" } : Jvm.MethodName) ({ cls := "Twinphase", name := "order", desc := "(I)I" } : Jvm.MethodName)) ∈ gtbl := gm 731 (by decide +kernel) rfl
theorem w_683 : (Jvm.Cond.code ({ cls := "Twinphase", name := "order", desc := "(I)I" } : Jvm.MethodName) prog_1_method_24_code (3 : Nat) (Option.some Jvm.ClassFile.FieldType.int)) ∈ gtbl := gm 732 (by decide +kernel) rfl
theorem w_684 : (Jvm.Cond.methodLink "Twinphase" (235 : Nat) ({ cls := "Twinphase$History", name := "committedAt", desc := "(I)LTwinphase$Transaction;" } : Jvm.MethodName)) ∈ gtbl := gm 733 (by decide +kernel) rfl
theorem w_685 : (Jvm.Cond.instanceMethod ({ cls := "Twinphase$History", name := "committedAt", desc := "(I)LTwinphase$Transaction;" } : Jvm.MethodName)) ∈ gtbl := gm 734 (by decide +kernel) rfl
theorem w_686 : (Jvm.Cond.selects "Twinphase$History" ({ cls := "Twinphase$History", name := "committedAt", desc := "(I)LTwinphase$Transaction;" } : Jvm.MethodName) ({ cls := "Twinphase$History", name := "committedAt", desc := "(I)LTwinphase$Transaction;" } : Jvm.MethodName)) ∈ gtbl := gm 735 (by decide +kernel) rfl
theorem w_687 : (Jvm.Cond.code ({ cls := "Twinphase$History", name := "committedAt", desc := "(I)LTwinphase$Transaction;" } : Jvm.MethodName) prog_3_method_9_code (2 : Nat) (Option.some (Jvm.ClassFile.FieldType.object "Twinphase$Transaction"))) ∈ gtbl := gm 736 (by decide +kernel) rfl
theorem w_688 : (Jvm.Cond.classLink "TwinphaseLaw" (83 : Nat) "TwinphaseModel") ∈ gtbl := gm 737 (by decide +kernel) rfl
theorem w_689 : (Jvm.Cond.instantiable "TwinphaseModel" (32 : Nat)) ∈ gtbl := gm 738 (by decide +kernel) rfl
theorem w_690 : (Jvm.Cond.methodLink "TwinphaseLaw" (85 : Nat) ({ cls := "TwinphaseModel", name := "<init>", desc := "()V" } : Jvm.MethodName)) ∈ gtbl := gm 739 (by decide +kernel) rfl
theorem w_691 : (Jvm.Cond.instanceMethod ({ cls := "TwinphaseModel", name := "<init>", desc := "()V" } : Jvm.MethodName)) ∈ gtbl := gm 740 (by decide +kernel) rfl
theorem w_692 : (Jvm.Cond.code ({ cls := "TwinphaseModel", name := "<init>", desc := "()V" } : Jvm.MethodName) prog_7_method_1_code (2 : Nat) (Option.none : Option Jvm.ClassFile.FieldType)) ∈ gtbl := gm 741 (by decide +kernel) rfl
theorem w_693 : (Jvm.Cond.methodLink "TwinphaseModel" (1 : Nat) ({ cls := "java/lang/Object", name := "<init>", desc := "()V" } : Jvm.MethodName)) ∈ gtbl := gm 742 (by decide +kernel) rfl
theorem w_694 : (Jvm.Cond.fieldLink "TwinphaseModel" (100 : Nat) "TwinphaseModel" "time" "I") ∈ gtbl := gm 743 (by decide +kernel) rfl
theorem w_695 : (Jvm.Cond.fieldLink "TwinphaseModel" (7 : Nat) "TwinphaseModel" "skews" "[I") ∈ gtbl := gm 744 (by decide +kernel) rfl
theorem w_696 : (Jvm.Cond.fieldLink "TwinphaseModel" (13 : Nat) "TwinphaseModel" "met" "[I") ∈ gtbl := gm 745 (by decide +kernel) rfl
theorem w_697 : (Jvm.Cond.fieldLink "TwinphaseModel" (16 : Nat) "TwinphaseModel" "isDown" "[Z") ∈ gtbl := gm 746 (by decide +kernel) rfl
theorem w_698 : (Jvm.Cond.fieldLink "TwinphaseModel" (20 : Nat) "TwinphaseModel" "ranges" "I") ∈ gtbl := gm 747 (by decide +kernel) rfl
theorem w_699 : (Jvm.Cond.fieldLink "TwinphaseModel" (24 : Nat) "TwinphaseModel" "begins" "[I") ∈ gtbl := gm 748 (by decide +kernel) rfl
theorem w_700 : (Jvm.Cond.fieldLink "TwinphaseModel" (27 : Nat) "TwinphaseModel" "nodes" "[I") ∈ gtbl := gm 749 (by decide +kernel) rfl
theorem w_701 : (Jvm.Cond.fieldLink "TwinphaseModel" (30 : Nat) "TwinphaseModel" "owner" "[I") ∈ gtbl := gm 750 (by decide +kernel) rfl
theorem w_702 : (Jvm.Cond.fieldLink "TwinphaseModel" (33 : Nat) "TwinphaseModel" "isSure" "[Z") ∈ gtbl := gm 751 (by decide +kernel) rfl
theorem w_703 : (Jvm.Cond.fieldLink "TwinphaseModel" (36 : Nat) "TwinphaseModel" "meant" "[I") ∈ gtbl := gm 752 (by decide +kernel) rfl
theorem w_704 : (Jvm.Cond.fieldLink "TwinphaseModel" (39 : Nat) "TwinphaseModel" "readAt" "[I") ∈ gtbl := gm 753 (by decide +kernel) rfl
theorem w_705 : (Jvm.Cond.fieldLink "TwinphaseModel" (42 : Nat) "TwinphaseModel" "readBy" "[I") ∈ gtbl := gm 754 (by decide +kernel) rfl
theorem w_706 : (Jvm.Cond.fieldLink "TwinphaseModel" (135 : Nat) "TwinphaseModel" "versions" "I") ∈ gtbl := gm 755 (by decide +kernel) rfl
theorem w_707 : (Jvm.Cond.fieldLink "TwinphaseModel" (45 : Nat) "TwinphaseModel" "vKey" "[I") ∈ gtbl := gm 756 (by decide +kernel) rfl
theorem w_708 : (Jvm.Cond.fieldLink "TwinphaseModel" (48 : Nat) "TwinphaseModel" "vStamp" "[I") ∈ gtbl := gm 757 (by decide +kernel) rfl
theorem w_709 : (Jvm.Cond.fieldLink "TwinphaseModel" (51 : Nat) "TwinphaseModel" "vValue" "[I") ∈ gtbl := gm 758 (by decide +kernel) rfl
theorem w_710 : (Jvm.Cond.fieldLink "TwinphaseModel" (125 : Nat) "TwinphaseModel" "many" "I") ∈ gtbl := gm 759 (by decide +kernel) rfl
theorem w_711 : (Jvm.Cond.fieldLink "TwinphaseModel" (54 : Nat) "TwinphaseModel" "home" "[I") ∈ gtbl := gm 760 (by decide +kernel) rfl
theorem w_712 : (Jvm.Cond.fieldLink "TwinphaseModel" (57 : Nat) "TwinphaseModel" "rank" "[I") ∈ gtbl := gm 761 (by decide +kernel) rfl
theorem w_713 : (Jvm.Cond.fieldLink "TwinphaseModel" (60 : Nat) "TwinphaseModel" "reads" "[I") ∈ gtbl := gm 762 (by decide +kernel) rfl
theorem w_714 : (Jvm.Cond.fieldLink "TwinphaseModel" (63 : Nat) "TwinphaseModel" "writes" "[I") ∈ gtbl := gm 763 (by decide +kernel) rfl
theorem w_715 : (Jvm.Cond.fieldLink "TwinphaseModel" (66 : Nat) "TwinphaseModel" "doubt" "[I") ∈ gtbl := gm 764 (by decide +kernel) rfl
theorem w_716 : (Jvm.Cond.fieldLink "TwinphaseModel" (69 : Nat) "TwinphaseModel" "beaten" "[I") ∈ gtbl := gm 765 (by decide +kernel) rfl
theorem w_717 : (Jvm.Cond.fieldLink "TwinphaseModel" (72 : Nat) "TwinphaseModel" "state" "[I") ∈ gtbl := gm 766 (by decide +kernel) rfl
theorem w_718 : (Jvm.Cond.fieldLink "TwinphaseModel" (75 : Nat) "TwinphaseModel" "waits" "[I") ∈ gtbl := gm 767 (by decide +kernel) rfl
theorem w_719 : (Jvm.Cond.fieldLink "TwinphaseModel" (78 : Nat) "TwinphaseModel" "committedAs" "[I") ∈ gtbl := gm 768 (by decide +kernel) rfl
theorem w_720 : (Jvm.Cond.fieldLink "TwinphaseModel" (132 : Nat) "TwinphaseModel" "commits" "I") ∈ gtbl := gm 769 (by decide +kernel) rfl
theorem w_721 : (Jvm.Cond.fieldLink "TwinphaseModel" (81 : Nat) "TwinphaseModel" "doubtAt" "[I") ∈ gtbl := gm 770 (by decide +kernel) rfl
theorem w_722 : (Jvm.Cond.fieldLink "TwinphaseModel" (84 : Nat) "TwinphaseModel" "valueRead" "[I") ∈ gtbl := gm 771 (by decide +kernel) rfl
theorem w_723 : (Jvm.Cond.fieldLink "TwinphaseModel" (87 : Nat) "TwinphaseModel" "valueWritten" "[I") ∈ gtbl := gm 772 (by decide +kernel) rfl
theorem w_724 : (Jvm.Cond.fieldLink "TwinphaseModel" (90 : Nat) "TwinphaseModel" "once" "[I") ∈ gtbl := gm 773 (by decide +kernel) rfl
theorem w_725 : (Jvm.Cond.fieldLink "TwinphaseModel" (93 : Nat) "TwinphaseModel" "thrown" "I") ∈ gtbl := gm 774 (by decide +kernel) rfl
theorem w_790 : (Jvm.Cond.superclass "TwinphaseModel" "java/lang/Object") ∈ gtbl := gm 839 (by decide +kernel) rfl
theorem w_791 : (Jvm.Cond.arrayClass Jvm.ClassFile.FieldType.boolean) ∈ gtbl := gm 840 (by decide +kernel) rfl
theorem w_792 : (Jvm.Cond.methodLink "TwinphaseLaw" (92 : Nat) ({ cls := "TwinphaseModel", name := "thrown", desc := "()I" } : Jvm.MethodName)) ∈ gtbl := gm 841 (by decide +kernel) rfl
theorem w_793 : (Jvm.Cond.instanceMethod ({ cls := "TwinphaseModel", name := "thrown", desc := "()I" } : Jvm.MethodName)) ∈ gtbl := gm 842 (by decide +kernel) rfl
theorem w_794 : (Jvm.Cond.selects "TwinphaseModel" ({ cls := "TwinphaseModel", name := "thrown", desc := "()I" } : Jvm.MethodName) ({ cls := "TwinphaseModel", name := "thrown", desc := "()I" } : Jvm.MethodName)) ∈ gtbl := gm 843 (by decide +kernel) rfl
theorem w_795 : (Jvm.Cond.code ({ cls := "TwinphaseModel", name := "thrown", desc := "()I" } : Jvm.MethodName) prog_7_method_2_code (1 : Nat) (Option.some Jvm.ClassFile.FieldType.int)) ∈ gtbl := gm 844 (by decide +kernel) rfl
theorem w_796 : (Jvm.Cond.methodLink "TwinphaseLaw" (91 : Nat) ({ cls := "TwinphaseModel", name := "pass", desc := "(I)I" } : Jvm.MethodName)) ∈ gtbl := gm 845 (by decide +kernel) rfl
theorem w_797 : (Jvm.Cond.instanceMethod ({ cls := "TwinphaseModel", name := "pass", desc := "(I)I" } : Jvm.MethodName)) ∈ gtbl := gm 846 (by decide +kernel) rfl
theorem w_798 : (Jvm.Cond.selects "TwinphaseModel" ({ cls := "TwinphaseModel", name := "pass", desc := "(I)I" } : Jvm.MethodName) ({ cls := "TwinphaseModel", name := "pass", desc := "(I)I" } : Jvm.MethodName)) ∈ gtbl := gm 847 (by decide +kernel) rfl
theorem w_799 : (Jvm.Cond.code ({ cls := "TwinphaseModel", name := "pass", desc := "(I)I" } : Jvm.MethodName) prog_7_method_5_code (2 : Nat) (Option.some Jvm.ClassFile.FieldType.int)) ∈ gtbl := gm 848 (by decide +kernel) rfl
theorem w_800 : (Jvm.Cond.methodLink "TwinphaseModel" (96 : Nat) ({ cls := "TwinphaseModel", name := "in", desc := "(III)Z" } : Jvm.MethodName)) ∈ gtbl := gm 849 (by decide +kernel) rfl
theorem w_801 : (Jvm.Cond.static ({ cls := "TwinphaseModel", name := "in", desc := "(III)Z" } : Jvm.MethodName)) ∈ gtbl := gm 850 (by decide +kernel) rfl
theorem w_802 : (Jvm.Cond.code ({ cls := "TwinphaseModel", name := "in", desc := "(III)Z" } : Jvm.MethodName) prog_7_method_3_code (3 : Nat) (Option.some Jvm.ClassFile.FieldType.boolean)) ∈ gtbl := gm 851 (by decide +kernel) rfl
theorem w_803 : (Jvm.Cond.methodLink "TwinphaseLaw" (99 : Nat) ({ cls := "TwinphaseModel", name := "skew", desc := "(II)I" } : Jvm.MethodName)) ∈ gtbl := gm 852 (by decide +kernel) rfl
theorem w_804 : (Jvm.Cond.instanceMethod ({ cls := "TwinphaseModel", name := "skew", desc := "(II)I" } : Jvm.MethodName)) ∈ gtbl := gm 853 (by decide +kernel) rfl
theorem w_805 : (Jvm.Cond.selects "TwinphaseModel" ({ cls := "TwinphaseModel", name := "skew", desc := "(II)I" } : Jvm.MethodName) ({ cls := "TwinphaseModel", name := "skew", desc := "(II)I" } : Jvm.MethodName)) ∈ gtbl := gm 854 (by decide +kernel) rfl
theorem w_806 : (Jvm.Cond.code ({ cls := "TwinphaseModel", name := "skew", desc := "(II)I" } : Jvm.MethodName) prog_7_method_6_code (4 : Nat) (Option.some Jvm.ClassFile.FieldType.int)) ∈ gtbl := gm 855 (by decide +kernel) rfl
theorem w_807 : (Jvm.Cond.methodLink "TwinphaseLaw" (102 : Nat) ({ cls := "TwinphaseModel", name := "clock", desc := "(I)I" } : Jvm.MethodName)) ∈ gtbl := gm 856 (by decide +kernel) rfl
theorem w_808 : (Jvm.Cond.instanceMethod ({ cls := "TwinphaseModel", name := "clock", desc := "(I)I" } : Jvm.MethodName)) ∈ gtbl := gm 857 (by decide +kernel) rfl
theorem w_809 : (Jvm.Cond.selects "TwinphaseModel" ({ cls := "TwinphaseModel", name := "clock", desc := "(I)I" } : Jvm.MethodName) ({ cls := "TwinphaseModel", name := "clock", desc := "(I)I" } : Jvm.MethodName)) ∈ gtbl := gm 858 (by decide +kernel) rfl
theorem w_810 : (Jvm.Cond.code ({ cls := "TwinphaseModel", name := "clock", desc := "(I)I" } : Jvm.MethodName) prog_7_method_8_code (2 : Nat) (Option.some Jvm.ClassFile.FieldType.int)) ∈ gtbl := gm 859 (by decide +kernel) rfl
theorem w_811 : (Jvm.Cond.methodLink "TwinphaseModel" (107 : Nat) ({ cls := "TwinphaseModel", name := "asks", desc := "(I)I" } : Jvm.MethodName)) ∈ gtbl := gm 860 (by decide +kernel) rfl
theorem w_813 : (Jvm.Cond.instanceMethod ({ cls := "TwinphaseModel", name := "asks", desc := "(I)I" } : Jvm.MethodName)) ∈ gtbl := gm 862 (by decide +kernel) rfl
theorem w_814 : (Jvm.Cond.code ({ cls := "TwinphaseModel", name := "asks", desc := "(I)I" } : Jvm.MethodName) prog_7_method_7_code (2 : Nat) (Option.some Jvm.ClassFile.FieldType.int)) ∈ gtbl := gm 863 (by decide +kernel) rfl
theorem w_815 : (Jvm.Cond.methodLink "TwinphaseModel" (103 : Nat) ({ cls := "TwinphaseModel", name := "greater", desc := "(II)I" } : Jvm.MethodName)) ∈ gtbl := gm 864 (by decide +kernel) rfl
theorem w_816 : (Jvm.Cond.static ({ cls := "TwinphaseModel", name := "greater", desc := "(II)I" } : Jvm.MethodName)) ∈ gtbl := gm 865 (by decide +kernel) rfl
theorem w_817 : (Jvm.Cond.code ({ cls := "TwinphaseModel", name := "greater", desc := "(II)I" } : Jvm.MethodName) prog_7_method_4_code (2 : Nat) (Option.some Jvm.ClassFile.FieldType.int)) ∈ gtbl := gm 866 (by decide +kernel) rfl
theorem w_818 : (Jvm.Cond.methodLink "TwinphaseLaw" (106 : Nat) ({ cls := "TwinphaseModel", name := "closed", desc := "()I" } : Jvm.MethodName)) ∈ gtbl := gm 867 (by decide +kernel) rfl
theorem w_819 : (Jvm.Cond.instanceMethod ({ cls := "TwinphaseModel", name := "closed", desc := "()I" } : Jvm.MethodName)) ∈ gtbl := gm 868 (by decide +kernel) rfl
theorem w_820 : (Jvm.Cond.selects "TwinphaseModel" ({ cls := "TwinphaseModel", name := "closed", desc := "()I" } : Jvm.MethodName) ({ cls := "TwinphaseModel", name := "closed", desc := "()I" } : Jvm.MethodName)) ∈ gtbl := gm 869 (by decide +kernel) rfl
theorem w_821 : (Jvm.Cond.code ({ cls := "TwinphaseModel", name := "closed", desc := "()I" } : Jvm.MethodName) prog_7_method_10_code (1 : Nat) (Option.some Jvm.ClassFile.FieldType.int)) ∈ gtbl := gm 870 (by decide +kernel) rfl
theorem w_822 : (Jvm.Cond.methodLink "TwinphaseModel" (111 : Nat) ({ cls := "TwinphaseModel", name := "closedNow", desc := "()I" } : Jvm.MethodName)) ∈ gtbl := gm 871 (by decide +kernel) rfl
theorem w_824 : (Jvm.Cond.instanceMethod ({ cls := "TwinphaseModel", name := "closedNow", desc := "()I" } : Jvm.MethodName)) ∈ gtbl := gm 873 (by decide +kernel) rfl
theorem w_825 : (Jvm.Cond.code ({ cls := "TwinphaseModel", name := "closedNow", desc := "()I" } : Jvm.MethodName) prog_7_method_9_code (1 : Nat) (Option.some Jvm.ClassFile.FieldType.int)) ∈ gtbl := gm 874 (by decide +kernel) rfl
theorem w_826 : (Jvm.Cond.methodLink "TwinphaseLaw" (109 : Nat) ({ cls := "TwinphaseModel", name := "down", desc := "(I)I" } : Jvm.MethodName)) ∈ gtbl := gm 875 (by decide +kernel) rfl
theorem w_827 : (Jvm.Cond.instanceMethod ({ cls := "TwinphaseModel", name := "down", desc := "(I)I" } : Jvm.MethodName)) ∈ gtbl := gm 876 (by decide +kernel) rfl
theorem w_828 : (Jvm.Cond.selects "TwinphaseModel" ({ cls := "TwinphaseModel", name := "down", desc := "(I)I" } : Jvm.MethodName) ({ cls := "TwinphaseModel", name := "down", desc := "(I)I" } : Jvm.MethodName)) ∈ gtbl := gm 877 (by decide +kernel) rfl
theorem w_829 : (Jvm.Cond.code ({ cls := "TwinphaseModel", name := "down", desc := "(I)I" } : Jvm.MethodName) prog_7_method_13_code (4 : Nat) (Option.some Jvm.ClassFile.FieldType.int)) ∈ gtbl := gm 878 (by decide +kernel) rfl
theorem w_830 : (Jvm.Cond.methodLink "TwinphaseModel" (118 : Nat) ({ cls := "TwinphaseModel", name := "nodeOf", desc := "(I)I" } : Jvm.MethodName)) ∈ gtbl := gm 879 (by decide +kernel) rfl
theorem w_832 : (Jvm.Cond.instanceMethod ({ cls := "TwinphaseModel", name := "nodeOf", desc := "(I)I" } : Jvm.MethodName)) ∈ gtbl := gm 881 (by decide +kernel) rfl
theorem w_833 : (Jvm.Cond.code ({ cls := "TwinphaseModel", name := "nodeOf", desc := "(I)I" } : Jvm.MethodName) prog_7_method_12_code (2 : Nat) (Option.some Jvm.ClassFile.FieldType.int)) ∈ gtbl := gm 882 (by decide +kernel) rfl
theorem w_834 : (Jvm.Cond.methodLink "TwinphaseModel" (115 : Nat) ({ cls := "TwinphaseModel", name := "rangeOf", desc := "(I)I" } : Jvm.MethodName)) ∈ gtbl := gm 883 (by decide +kernel) rfl
theorem w_836 : (Jvm.Cond.instanceMethod ({ cls := "TwinphaseModel", name := "rangeOf", desc := "(I)I" } : Jvm.MethodName)) ∈ gtbl := gm 885 (by decide +kernel) rfl
theorem w_837 : (Jvm.Cond.code ({ cls := "TwinphaseModel", name := "rangeOf", desc := "(I)I" } : Jvm.MethodName) prog_7_method_11_code (3 : Nat) (Option.some Jvm.ClassFile.FieldType.int)) ∈ gtbl := gm 886 (by decide +kernel) rfl
theorem w_838 : (Jvm.Cond.methodLink "TwinphaseLaw" (112 : Nat) ({ cls := "TwinphaseModel", name := "up", desc := "(I)I" } : Jvm.MethodName)) ∈ gtbl := gm 887 (by decide +kernel) rfl
theorem w_839 : (Jvm.Cond.instanceMethod ({ cls := "TwinphaseModel", name := "up", desc := "(I)I" } : Jvm.MethodName)) ∈ gtbl := gm 888 (by decide +kernel) rfl
theorem w_840 : (Jvm.Cond.selects "TwinphaseModel" ({ cls := "TwinphaseModel", name := "up", desc := "(I)I" } : Jvm.MethodName) ({ cls := "TwinphaseModel", name := "up", desc := "(I)I" } : Jvm.MethodName)) ∈ gtbl := gm 889 (by decide +kernel) rfl
theorem w_841 : (Jvm.Cond.code ({ cls := "TwinphaseModel", name := "up", desc := "(I)I" } : Jvm.MethodName) prog_7_method_15_code (4 : Nat) (Option.some Jvm.ClassFile.FieldType.int)) ∈ gtbl := gm 890 (by decide +kernel) rfl
theorem w_842 : (Jvm.Cond.methodLink "TwinphaseModel" (121 : Nat) ({ cls := "TwinphaseModel", name := "covers", desc := "(II)V" } : Jvm.MethodName)) ∈ gtbl := gm 891 (by decide +kernel) rfl
theorem w_844 : (Jvm.Cond.instanceMethod ({ cls := "TwinphaseModel", name := "covers", desc := "(II)V" } : Jvm.MethodName)) ∈ gtbl := gm 893 (by decide +kernel) rfl
theorem w_845 : (Jvm.Cond.code ({ cls := "TwinphaseModel", name := "covers", desc := "(II)V" } : Jvm.MethodName) prog_7_method_14_code (3 : Nat) (Option.none : Option Jvm.ClassFile.FieldType)) ∈ gtbl := gm 894 (by decide +kernel) rfl
theorem w_846 : (Jvm.Cond.methodLink "TwinphaseLaw" (115 : Nat) ({ cls := "TwinphaseModel", name := "sync", desc := "(I)I" } : Jvm.MethodName)) ∈ gtbl := gm 895 (by decide +kernel) rfl
theorem w_847 : (Jvm.Cond.instanceMethod ({ cls := "TwinphaseModel", name := "sync", desc := "(I)I" } : Jvm.MethodName)) ∈ gtbl := gm 896 (by decide +kernel) rfl
theorem w_848 : (Jvm.Cond.selects "TwinphaseModel" ({ cls := "TwinphaseModel", name := "sync", desc := "(I)I" } : Jvm.MethodName) ({ cls := "TwinphaseModel", name := "sync", desc := "(I)I" } : Jvm.MethodName)) ∈ gtbl := gm 897 (by decide +kernel) rfl
theorem w_849 : (Jvm.Cond.code ({ cls := "TwinphaseModel", name := "sync", desc := "(I)I" } : Jvm.MethodName) prog_7_method_16_code (4 : Nat) (Option.some Jvm.ClassFile.FieldType.int)) ∈ gtbl := gm 898 (by decide +kernel) rfl
theorem w_850 : (Jvm.Cond.methodLink "TwinphaseLaw" (118 : Nat) ({ cls := "TwinphaseModel", name := "split", desc := "(I)I" } : Jvm.MethodName)) ∈ gtbl := gm 899 (by decide +kernel) rfl
theorem w_851 : (Jvm.Cond.instanceMethod ({ cls := "TwinphaseModel", name := "split", desc := "(I)I" } : Jvm.MethodName)) ∈ gtbl := gm 900 (by decide +kernel) rfl
theorem w_852 : (Jvm.Cond.selects "TwinphaseModel" ({ cls := "TwinphaseModel", name := "split", desc := "(I)I" } : Jvm.MethodName) ({ cls := "TwinphaseModel", name := "split", desc := "(I)I" } : Jvm.MethodName)) ∈ gtbl := gm 901 (by decide +kernel) rfl
theorem w_853 : (Jvm.Cond.code ({ cls := "TwinphaseModel", name := "split", desc := "(I)I" } : Jvm.MethodName) prog_7_method_17_code (4 : Nat) (Option.some Jvm.ClassFile.FieldType.int)) ∈ gtbl := gm 902 (by decide +kernel) rfl
theorem w_854 : (Jvm.Cond.methodLink "TwinphaseLaw" (121 : Nat) ({ cls := "TwinphaseModel", name := "merge", desc := "(I)I" } : Jvm.MethodName)) ∈ gtbl := gm 903 (by decide +kernel) rfl
theorem w_855 : (Jvm.Cond.instanceMethod ({ cls := "TwinphaseModel", name := "merge", desc := "(I)I" } : Jvm.MethodName)) ∈ gtbl := gm 904 (by decide +kernel) rfl
theorem w_856 : (Jvm.Cond.selects "TwinphaseModel" ({ cls := "TwinphaseModel", name := "merge", desc := "(I)I" } : Jvm.MethodName) ({ cls := "TwinphaseModel", name := "merge", desc := "(I)I" } : Jvm.MethodName)) ∈ gtbl := gm 905 (by decide +kernel) rfl
theorem w_857 : (Jvm.Cond.code ({ cls := "TwinphaseModel", name := "merge", desc := "(I)I" } : Jvm.MethodName) prog_7_method_18_code (3 : Nat) (Option.some Jvm.ClassFile.FieldType.int)) ∈ gtbl := gm 906 (by decide +kernel) rfl
theorem w_858 : (Jvm.Cond.methodLink "TwinphaseLaw" (124 : Nat) ({ cls := "TwinphaseModel", name := "move", desc := "(II)I" } : Jvm.MethodName)) ∈ gtbl := gm 907 (by decide +kernel) rfl
theorem w_859 : (Jvm.Cond.instanceMethod ({ cls := "TwinphaseModel", name := "move", desc := "(II)I" } : Jvm.MethodName)) ∈ gtbl := gm 908 (by decide +kernel) rfl
theorem w_860 : (Jvm.Cond.selects "TwinphaseModel" ({ cls := "TwinphaseModel", name := "move", desc := "(II)I" } : Jvm.MethodName) ({ cls := "TwinphaseModel", name := "move", desc := "(II)I" } : Jvm.MethodName)) ∈ gtbl := gm 909 (by decide +kernel) rfl
theorem w_861 : (Jvm.Cond.code ({ cls := "TwinphaseModel", name := "move", desc := "(II)I" } : Jvm.MethodName) prog_7_method_19_code (6 : Nat) (Option.some Jvm.ClassFile.FieldType.int)) ∈ gtbl := gm 910 (by decide +kernel) rfl
theorem w_862 : (Jvm.Cond.methodLink "TwinphaseLaw" (127 : Nat) ({ cls := "TwinphaseModel", name := "begin", desc := "(II)I" } : Jvm.MethodName)) ∈ gtbl := gm 911 (by decide +kernel) rfl
theorem w_863 : (Jvm.Cond.instanceMethod ({ cls := "TwinphaseModel", name := "begin", desc := "(II)I" } : Jvm.MethodName)) ∈ gtbl := gm 912 (by decide +kernel) rfl
theorem w_864 : (Jvm.Cond.selects "TwinphaseModel" ({ cls := "TwinphaseModel", name := "begin", desc := "(II)I" } : Jvm.MethodName) ({ cls := "TwinphaseModel", name := "begin", desc := "(II)I" } : Jvm.MethodName)) ∈ gtbl := gm 913 (by decide +kernel) rfl
theorem w_865 : (Jvm.Cond.code ({ cls := "TwinphaseModel", name := "begin", desc := "(II)I" } : Jvm.MethodName) prog_7_method_20_code (5 : Nat) (Option.some Jvm.ClassFile.FieldType.int)) ∈ gtbl := gm 914 (by decide +kernel) rfl
theorem w_866 : (Jvm.Cond.methodLink "TwinphaseModel" (128 : Nat) ({ cls := "TwinphaseModel", name := "forgets", desc := "(I)V" } : Jvm.MethodName)) ∈ gtbl := gm 915 (by decide +kernel) rfl
theorem w_868 : (Jvm.Cond.instanceMethod ({ cls := "TwinphaseModel", name := "forgets", desc := "(I)V" } : Jvm.MethodName)) ∈ gtbl := gm 917 (by decide +kernel) rfl
theorem w_869 : (Jvm.Cond.code ({ cls := "TwinphaseModel", name := "forgets", desc := "(I)V" } : Jvm.MethodName) prog_7_method_21_code (3 : Nat) (Option.none : Option Jvm.ClassFile.FieldType)) ∈ gtbl := gm 918 (by decide +kernel) rfl
theorem w_870 : (Jvm.Cond.methodLink "TwinphaseLaw" (130 : Nat) ({ cls := "TwinphaseModel", name := "get", desc := "(II)I" } : Jvm.MethodName)) ∈ gtbl := gm 919 (by decide +kernel) rfl
theorem w_871 : (Jvm.Cond.instanceMethod ({ cls := "TwinphaseModel", name := "get", desc := "(II)I" } : Jvm.MethodName)) ∈ gtbl := gm 920 (by decide +kernel) rfl
theorem w_872 : (Jvm.Cond.selects "TwinphaseModel" ({ cls := "TwinphaseModel", name := "get", desc := "(II)I" } : Jvm.MethodName) ({ cls := "TwinphaseModel", name := "get", desc := "(II)I" } : Jvm.MethodName)) ∈ gtbl := gm 921 (by decide +kernel) rfl
theorem w_873 : (Jvm.Cond.code ({ cls := "TwinphaseModel", name := "get", desc := "(II)I" } : Jvm.MethodName) prog_7_method_37_code (10 : Nat) (Option.some Jvm.ClassFile.FieldType.int)) ∈ gtbl := gm 922 (by decide +kernel) rfl
theorem w_874 : (Jvm.Cond.methodLink "TwinphaseModel" (163 : Nat) ({ cls := "TwinphaseModel", name := "areThere", desc := "(II)Z" } : Jvm.MethodName)) ∈ gtbl := gm 923 (by decide +kernel) rfl
theorem w_876 : (Jvm.Cond.instanceMethod ({ cls := "TwinphaseModel", name := "areThere", desc := "(II)Z" } : Jvm.MethodName)) ∈ gtbl := gm 925 (by decide +kernel) rfl
theorem w_877 : (Jvm.Cond.code ({ cls := "TwinphaseModel", name := "areThere", desc := "(II)Z" } : Jvm.MethodName) prog_7_method_36_code (3 : Nat) (Option.some Jvm.ClassFile.FieldType.boolean)) ∈ gtbl := gm 926 (by decide +kernel) rfl
theorem w_878 : (Jvm.Cond.methodLink "TwinphaseModel" (167 : Nat) ({ cls := "TwinphaseModel", name := "opens", desc := "(II)I" } : Jvm.MethodName)) ∈ gtbl := gm 927 (by decide +kernel) rfl
theorem w_880 : (Jvm.Cond.instanceMethod ({ cls := "TwinphaseModel", name := "opens", desc := "(II)I" } : Jvm.MethodName)) ∈ gtbl := gm 929 (by decide +kernel) rfl
theorem w_881 : (Jvm.Cond.code ({ cls := "TwinphaseModel", name := "opens", desc := "(II)I" } : Jvm.MethodName) prog_7_method_35_code (5 : Nat) (Option.some Jvm.ClassFile.FieldType.int)) ∈ gtbl := gm 930 (by decide +kernel) rfl
theorem w_882 : (Jvm.Cond.methodLink "TwinphaseModel" (153 : Nat) ({ cls := "TwinphaseModel", name := "meets", desc := "(II)I" } : Jvm.MethodName)) ∈ gtbl := gm 931 (by decide +kernel) rfl
theorem w_884 : (Jvm.Cond.instanceMethod ({ cls := "TwinphaseModel", name := "meets", desc := "(II)I" } : Jvm.MethodName)) ∈ gtbl := gm 933 (by decide +kernel) rfl
theorem w_885 : (Jvm.Cond.code ({ cls := "TwinphaseModel", name := "meets", desc := "(II)I" } : Jvm.MethodName) prog_7_method_26_code (4 : Nat) (Option.some Jvm.ClassFile.FieldType.int)) ∈ gtbl := gm 934 (by decide +kernel) rfl
theorem w_886 : (Jvm.Cond.methodLink "TwinphaseModel" (144 : Nat) ({ cls := "TwinphaseModel", name := "recovers", desc := "(I)V" } : Jvm.MethodName)) ∈ gtbl := gm 935 (by decide +kernel) rfl
theorem w_888 : (Jvm.Cond.instanceMethod ({ cls := "TwinphaseModel", name := "recovers", desc := "(I)V" } : Jvm.MethodName)) ∈ gtbl := gm 937 (by decide +kernel) rfl
theorem w_889 : (Jvm.Cond.code ({ cls := "TwinphaseModel", name := "recovers", desc := "(I)V" } : Jvm.MethodName) prog_7_method_25_code (2 : Nat) (Option.none : Option Jvm.ClassFile.FieldType)) ∈ gtbl := gm 938 (by decide +kernel) rfl
theorem w_890 : (Jvm.Cond.methodLink "TwinphaseModel" (138 : Nat) ({ cls := "TwinphaseModel", name := "hasAllIntents", desc := "(I)Z" } : Jvm.MethodName)) ∈ gtbl := gm 939 (by decide +kernel) rfl
theorem w_892 : (Jvm.Cond.instanceMethod ({ cls := "TwinphaseModel", name := "hasAllIntents", desc := "(I)Z" } : Jvm.MethodName)) ∈ gtbl := gm 941 (by decide +kernel) rfl
theorem w_893 : (Jvm.Cond.code ({ cls := "TwinphaseModel", name := "hasAllIntents", desc := "(I)Z" } : Jvm.MethodName) prog_7_method_24_code (4 : Nat) (Option.some Jvm.ClassFile.FieldType.boolean)) ∈ gtbl := gm 942 (by decide +kernel) rfl
theorem w_894 : (Jvm.Cond.methodLink "TwinphaseModel" (142 : Nat) ({ cls := "TwinphaseModel", name := "commits", desc := "(I)V" } : Jvm.MethodName)) ∈ gtbl := gm 943 (by decide +kernel) rfl
theorem w_896 : (Jvm.Cond.instanceMethod ({ cls := "TwinphaseModel", name := "commits", desc := "(I)V" } : Jvm.MethodName)) ∈ gtbl := gm 945 (by decide +kernel) rfl
theorem w_897 : (Jvm.Cond.code ({ cls := "TwinphaseModel", name := "commits", desc := "(I)V" } : Jvm.MethodName) prog_7_method_23_code (3 : Nat) (Option.none : Option Jvm.ClassFile.FieldType)) ∈ gtbl := gm 946 (by decide +kernel) rfl
theorem w_898 : (Jvm.Cond.methodLink "TwinphaseModel" (147 : Nat) ({ cls := "TwinphaseModel", name := "isVanished", desc := "(I)Z" } : Jvm.MethodName)) ∈ gtbl := gm 947 (by decide +kernel) rfl
theorem w_900 : (Jvm.Cond.instanceMethod ({ cls := "TwinphaseModel", name := "isVanished", desc := "(I)Z" } : Jvm.MethodName)) ∈ gtbl := gm 949 (by decide +kernel) rfl
theorem w_901 : (Jvm.Cond.code ({ cls := "TwinphaseModel", name := "isVanished", desc := "(I)Z" } : Jvm.MethodName) prog_7_method_22_code (2 : Nat) (Option.some Jvm.ClassFile.FieldType.boolean)) ∈ gtbl := gm 950 (by decide +kernel) rfl
theorem w_902 : (Jvm.Cond.methodLink "TwinphaseModel" (170 : Nat) ({ cls := "TwinphaseModel", name := "comesAnew", desc := "(II)Z" } : Jvm.MethodName)) ∈ gtbl := gm 951 (by decide +kernel) rfl
theorem w_904 : (Jvm.Cond.instanceMethod ({ cls := "TwinphaseModel", name := "comesAnew", desc := "(II)Z" } : Jvm.MethodName)) ∈ gtbl := gm 953 (by decide +kernel) rfl
theorem w_905 : (Jvm.Cond.code ({ cls := "TwinphaseModel", name := "comesAnew", desc := "(II)Z" } : Jvm.MethodName) prog_7_method_33_code (6 : Nat) (Option.some Jvm.ClassFile.FieldType.boolean)) ∈ gtbl := gm 954 (by decide +kernel) rfl
theorem w_906 : (Jvm.Cond.methodLink "TwinphaseModel" (160 : Nat) ({ cls := "TwinphaseModel", name := "waitsFor", desc := "(I)I" } : Jvm.MethodName)) ∈ gtbl := gm 955 (by decide +kernel) rfl
theorem w_908 : (Jvm.Cond.instanceMethod ({ cls := "TwinphaseModel", name := "waitsFor", desc := "(I)I" } : Jvm.MethodName)) ∈ gtbl := gm 957 (by decide +kernel) rfl
theorem w_909 : (Jvm.Cond.code ({ cls := "TwinphaseModel", name := "waitsFor", desc := "(I)I" } : Jvm.MethodName) prog_7_method_32_code (2 : Nat) (Option.some Jvm.ClassFile.FieldType.int)) ∈ gtbl := gm 958 (by decide +kernel) rfl
theorem w_910 : (Jvm.Cond.methodLink "TwinphaseModel" (173 : Nat) ({ cls := "TwinphaseModel", name := "waitAnswer", desc := "(I)I" } : Jvm.MethodName)) ∈ gtbl := gm 959 (by decide +kernel) rfl
theorem w_912 : (Jvm.Cond.instanceMethod ({ cls := "TwinphaseModel", name := "waitAnswer", desc := "(I)I" } : Jvm.MethodName)) ∈ gtbl := gm 961 (by decide +kernel) rfl
theorem w_913 : (Jvm.Cond.code ({ cls := "TwinphaseModel", name := "waitAnswer", desc := "(I)I" } : Jvm.MethodName) prog_7_method_34_code (2 : Nat) (Option.some Jvm.ClassFile.FieldType.int)) ∈ gtbl := gm 962 (by decide +kernel) rfl
theorem w_914 : (Jvm.Cond.methodLink "TwinphaseModel" (150 : Nat) ({ cls := "TwinphaseModel", name := "latest", desc := "(II)I" } : Jvm.MethodName)) ∈ gtbl := gm 963 (by decide +kernel) rfl
theorem w_916 : (Jvm.Cond.instanceMethod ({ cls := "TwinphaseModel", name := "latest", desc := "(II)I" } : Jvm.MethodName)) ∈ gtbl := gm 965 (by decide +kernel) rfl
theorem w_917 : (Jvm.Cond.code ({ cls := "TwinphaseModel", name := "latest", desc := "(II)I" } : Jvm.MethodName) prog_7_method_27_code (5 : Nat) (Option.some Jvm.ClassFile.FieldType.int)) ∈ gtbl := gm 966 (by decide +kernel) rfl
theorem w_918 : (Jvm.Cond.methodLink "TwinphaseModel" (176 : Nat) ({ cls := "TwinphaseModel", name := "refreshes", desc := "(II)Z" } : Jvm.MethodName)) ∈ gtbl := gm 967 (by decide +kernel) rfl
theorem w_920 : (Jvm.Cond.instanceMethod ({ cls := "TwinphaseModel", name := "refreshes", desc := "(II)Z" } : Jvm.MethodName)) ∈ gtbl := gm 969 (by decide +kernel) rfl
theorem w_921 : (Jvm.Cond.code ({ cls := "TwinphaseModel", name := "refreshes", desc := "(II)Z" } : Jvm.MethodName) prog_7_method_30_code (5 : Nat) (Option.some Jvm.ClassFile.FieldType.boolean)) ∈ gtbl := gm 970 (by decide +kernel) rfl
theorem w_922 : (Jvm.Cond.methodLink "TwinphaseModel" (156 : Nat) ({ cls := "TwinphaseModel", name := "marks", desc := "(III)V" } : Jvm.MethodName)) ∈ gtbl := gm 971 (by decide +kernel) rfl
theorem w_924 : (Jvm.Cond.instanceMethod ({ cls := "TwinphaseModel", name := "marks", desc := "(III)V" } : Jvm.MethodName)) ∈ gtbl := gm 973 (by decide +kernel) rfl
theorem w_925 : (Jvm.Cond.code ({ cls := "TwinphaseModel", name := "marks", desc := "(III)V" } : Jvm.MethodName) prog_7_method_29_code (4 : Nat) (Option.none : Option Jvm.ClassFile.FieldType)) ∈ gtbl := gm 974 (by decide +kernel) rfl
theorem w_926 : (Jvm.Cond.methodLink "TwinphaseModel" (179 : Nat) ({ cls := "TwinphaseModel", name := "restarts", desc := "(II)I" } : Jvm.MethodName)) ∈ gtbl := gm 975 (by decide +kernel) rfl
theorem w_928 : (Jvm.Cond.instanceMethod ({ cls := "TwinphaseModel", name := "restarts", desc := "(II)I" } : Jvm.MethodName)) ∈ gtbl := gm 977 (by decide +kernel) rfl
theorem w_929 : (Jvm.Cond.code ({ cls := "TwinphaseModel", name := "restarts", desc := "(II)I" } : Jvm.MethodName) prog_7_method_31_code (4 : Nat) (Option.some Jvm.ClassFile.FieldType.int)) ∈ gtbl := gm 978 (by decide +kernel) rfl
theorem w_930 : (Jvm.Cond.methodLink "TwinphaseModel" (182 : Nat) ({ cls := "TwinphaseModel", name := "valueAt", desc := "(II)I" } : Jvm.MethodName)) ∈ gtbl := gm 979 (by decide +kernel) rfl
theorem w_932 : (Jvm.Cond.instanceMethod ({ cls := "TwinphaseModel", name := "valueAt", desc := "(II)I" } : Jvm.MethodName)) ∈ gtbl := gm 981 (by decide +kernel) rfl
theorem w_933 : (Jvm.Cond.code ({ cls := "TwinphaseModel", name := "valueAt", desc := "(II)I" } : Jvm.MethodName) prog_7_method_28_code (6 : Nat) (Option.some Jvm.ClassFile.FieldType.int)) ∈ gtbl := gm 982 (by decide +kernel) rfl
theorem w_934 : (Jvm.Cond.methodLink "TwinphaseLaw" (134 : Nat) ({ cls := "TwinphaseModel", name := "put", desc := "(III)I" } : Jvm.MethodName)) ∈ gtbl := gm 983 (by decide +kernel) rfl
theorem w_935 : (Jvm.Cond.instanceMethod ({ cls := "TwinphaseModel", name := "put", desc := "(III)I" } : Jvm.MethodName)) ∈ gtbl := gm 984 (by decide +kernel) rfl
theorem w_936 : (Jvm.Cond.selects "TwinphaseModel" ({ cls := "TwinphaseModel", name := "put", desc := "(III)I" } : Jvm.MethodName) ({ cls := "TwinphaseModel", name := "put", desc := "(III)I" } : Jvm.MethodName)) ∈ gtbl := gm 985 (by decide +kernel) rfl
theorem w_937 : (Jvm.Cond.code ({ cls := "TwinphaseModel", name := "put", desc := "(III)I" } : Jvm.MethodName) prog_7_method_38_code (7 : Nat) (Option.some Jvm.ClassFile.FieldType.int)) ∈ gtbl := gm 986 (by decide +kernel) rfl
theorem w_938 : (Jvm.Cond.constant "TwinphaseModel" (185 : Nat) (1000000 : Int32)) ∈ gtbl := gm 987 (by decide +kernel) rfl
theorem w_939 : (Jvm.Cond.methodLink "TwinphaseLaw" (138 : Nat) ({ cls := "TwinphaseModel", name := "commit", desc := "(IZ)I" } : Jvm.MethodName)) ∈ gtbl := gm 988 (by decide +kernel) rfl
theorem w_940 : (Jvm.Cond.instanceMethod ({ cls := "TwinphaseModel", name := "commit", desc := "(IZ)I" } : Jvm.MethodName)) ∈ gtbl := gm 989 (by decide +kernel) rfl
theorem w_941 : (Jvm.Cond.selects "TwinphaseModel" ({ cls := "TwinphaseModel", name := "commit", desc := "(IZ)I" } : Jvm.MethodName) ({ cls := "TwinphaseModel", name := "commit", desc := "(IZ)I" } : Jvm.MethodName)) ∈ gtbl := gm 990 (by decide +kernel) rfl
theorem w_942 : (Jvm.Cond.code ({ cls := "TwinphaseModel", name := "commit", desc := "(IZ)I" } : Jvm.MethodName) prog_7_method_41_code (6 : Nat) (Option.some Jvm.ClassFile.FieldType.int)) ∈ gtbl := gm 991 (by decide +kernel) rfl
theorem w_943 : (Jvm.Cond.methodLink "TwinphaseModel" (186 : Nat) ({ cls := "TwinphaseModel", name := "isTransaction", desc := "(I)Z" } : Jvm.MethodName)) ∈ gtbl := gm 992 (by decide +kernel) rfl
theorem w_945 : (Jvm.Cond.instanceMethod ({ cls := "TwinphaseModel", name := "isTransaction", desc := "(I)Z" } : Jvm.MethodName)) ∈ gtbl := gm 994 (by decide +kernel) rfl
theorem w_946 : (Jvm.Cond.code ({ cls := "TwinphaseModel", name := "isTransaction", desc := "(I)Z" } : Jvm.MethodName) prog_7_method_40_code (2 : Nat) (Option.some Jvm.ClassFile.FieldType.boolean)) ∈ gtbl := gm 995 (by decide +kernel) rfl
theorem w_947 : (Jvm.Cond.methodLink "TwinphaseModel" (189 : Nat) ({ cls := "TwinphaseModel", name := "counts", desc := "(I[I)I" } : Jvm.MethodName)) ∈ gtbl := gm 996 (by decide +kernel) rfl
theorem w_949 : (Jvm.Cond.instanceMethod ({ cls := "TwinphaseModel", name := "counts", desc := "(I[I)I" } : Jvm.MethodName)) ∈ gtbl := gm 998 (by decide +kernel) rfl
theorem w_950 : (Jvm.Cond.code ({ cls := "TwinphaseModel", name := "counts", desc := "(I[I)I" } : Jvm.MethodName) prog_7_method_39_code (5 : Nat) (Option.some Jvm.ClassFile.FieldType.int)) ∈ gtbl := gm 999 (by decide +kernel) rfl
theorem w_951 : (Jvm.Cond.methodLink "TwinphaseLaw" (141 : Nat) ({ cls := "TwinphaseModel", name := "abort", desc := "(I)I" } : Jvm.MethodName)) ∈ gtbl := gm 1000 (by decide +kernel) rfl
theorem w_952 : (Jvm.Cond.instanceMethod ({ cls := "TwinphaseModel", name := "abort", desc := "(I)I" } : Jvm.MethodName)) ∈ gtbl := gm 1001 (by decide +kernel) rfl
theorem w_953 : (Jvm.Cond.selects "TwinphaseModel" ({ cls := "TwinphaseModel", name := "abort", desc := "(I)I" } : Jvm.MethodName) ({ cls := "TwinphaseModel", name := "abort", desc := "(I)I" } : Jvm.MethodName)) ∈ gtbl := gm 1002 (by decide +kernel) rfl
theorem w_954 : (Jvm.Cond.code ({ cls := "TwinphaseModel", name := "abort", desc := "(I)I" } : Jvm.MethodName) prog_7_method_42_code (2 : Nat) (Option.some Jvm.ClassFile.FieldType.int)) ∈ gtbl := gm 1003 (by decide +kernel) rfl
theorem w_955 : (Jvm.Cond.methodLink "TwinphaseLaw" (144 : Nat) ({ cls := "TwinphaseModel", name := "recover", desc := "(I)I" } : Jvm.MethodName)) ∈ gtbl := gm 1004 (by decide +kernel) rfl
theorem w_956 : (Jvm.Cond.instanceMethod ({ cls := "TwinphaseModel", name := "recover", desc := "(I)I" } : Jvm.MethodName)) ∈ gtbl := gm 1005 (by decide +kernel) rfl
theorem w_957 : (Jvm.Cond.selects "TwinphaseModel" ({ cls := "TwinphaseModel", name := "recover", desc := "(I)I" } : Jvm.MethodName) ({ cls := "TwinphaseModel", name := "recover", desc := "(I)I" } : Jvm.MethodName)) ∈ gtbl := gm 1006 (by decide +kernel) rfl
theorem w_958 : (Jvm.Cond.code ({ cls := "TwinphaseModel", name := "recover", desc := "(I)I" } : Jvm.MethodName) prog_7_method_43_code (2 : Nat) (Option.some Jvm.ClassFile.FieldType.int)) ∈ gtbl := gm 1007 (by decide +kernel) rfl
theorem w_959 : (Jvm.Cond.methodLink "TwinphaseLaw" (147 : Nat) ({ cls := "TwinphaseModel", name := "beat", desc := "(I)I" } : Jvm.MethodName)) ∈ gtbl := gm 1008 (by decide +kernel) rfl
theorem w_960 : (Jvm.Cond.instanceMethod ({ cls := "TwinphaseModel", name := "beat", desc := "(I)I" } : Jvm.MethodName)) ∈ gtbl := gm 1009 (by decide +kernel) rfl
theorem w_961 : (Jvm.Cond.selects "TwinphaseModel" ({ cls := "TwinphaseModel", name := "beat", desc := "(I)I" } : Jvm.MethodName) ({ cls := "TwinphaseModel", name := "beat", desc := "(I)I" } : Jvm.MethodName)) ∈ gtbl := gm 1010 (by decide +kernel) rfl
theorem w_962 : (Jvm.Cond.code ({ cls := "TwinphaseModel", name := "beat", desc := "(I)I" } : Jvm.MethodName) prog_7_method_44_code (2 : Nat) (Option.some Jvm.ClassFile.FieldType.int)) ∈ gtbl := gm 1011 (by decide +kernel) rfl
theorem w_963 : (Jvm.Cond.methodLink "TwinphaseLaw" (150 : Nat) ({ cls := "TwinphaseModel", name := "told", desc := "(II)I" } : Jvm.MethodName)) ∈ gtbl := gm 1012 (by decide +kernel) rfl
theorem w_964 : (Jvm.Cond.instanceMethod ({ cls := "TwinphaseModel", name := "told", desc := "(II)I" } : Jvm.MethodName)) ∈ gtbl := gm 1013 (by decide +kernel) rfl
theorem w_965 : (Jvm.Cond.selects "TwinphaseModel" ({ cls := "TwinphaseModel", name := "told", desc := "(II)I" } : Jvm.MethodName) ({ cls := "TwinphaseModel", name := "told", desc := "(II)I" } : Jvm.MethodName)) ∈ gtbl := gm 1014 (by decide +kernel) rfl
theorem w_966 : (Jvm.Cond.code ({ cls := "TwinphaseModel", name := "told", desc := "(II)I" } : Jvm.MethodName) prog_7_method_45_code (4 : Nat) (Option.some Jvm.ClassFile.FieldType.int)) ∈ gtbl := gm 1015 (by decide +kernel) rfl
theorem w_967 : (Jvm.Cond.methodLink "TwinphaseLaw" (153 : Nat) ({ cls := "TwinphaseModel", name := "key", desc := "(II)I" } : Jvm.MethodName)) ∈ gtbl := gm 1016 (by decide +kernel) rfl
theorem w_968 : (Jvm.Cond.instanceMethod ({ cls := "TwinphaseModel", name := "key", desc := "(II)I" } : Jvm.MethodName)) ∈ gtbl := gm 1017 (by decide +kernel) rfl
theorem w_969 : (Jvm.Cond.selects "TwinphaseModel" ({ cls := "TwinphaseModel", name := "key", desc := "(II)I" } : Jvm.MethodName) ({ cls := "TwinphaseModel", name := "key", desc := "(II)I" } : Jvm.MethodName)) ∈ gtbl := gm 1018 (by decide +kernel) rfl
theorem w_970 : (Jvm.Cond.code ({ cls := "TwinphaseModel", name := "key", desc := "(II)I" } : Jvm.MethodName) prog_7_method_46_code (5 : Nat) (Option.some Jvm.ClassFile.FieldType.int)) ∈ gtbl := gm 1019 (by decide +kernel) rfl
theorem w_971 : (Jvm.Cond.methodLink "TwinphaseLaw" (156 : Nat) ({ cls := "TwinphaseModel", name := "asOf", desc := "(II)I" } : Jvm.MethodName)) ∈ gtbl := gm 1020 (by decide +kernel) rfl
theorem w_972 : (Jvm.Cond.instanceMethod ({ cls := "TwinphaseModel", name := "asOf", desc := "(II)I" } : Jvm.MethodName)) ∈ gtbl := gm 1021 (by decide +kernel) rfl
theorem w_973 : (Jvm.Cond.selects "TwinphaseModel" ({ cls := "TwinphaseModel", name := "asOf", desc := "(II)I" } : Jvm.MethodName) ({ cls := "TwinphaseModel", name := "asOf", desc := "(II)I" } : Jvm.MethodName)) ∈ gtbl := gm 1022 (by decide +kernel) rfl
theorem w_974 : (Jvm.Cond.code ({ cls := "TwinphaseModel", name := "asOf", desc := "(II)I" } : Jvm.MethodName) prog_7_method_47_code (4 : Nat) (Option.some Jvm.ClassFile.FieldType.int)) ∈ gtbl := gm 1023 (by decide +kernel) rfl
theorem w_975 : (Jvm.Cond.methodLink "TwinphaseLaw" (160 : Nat) ({ cls := "TwinphaseModel", name := "resolved", desc := "()I" } : Jvm.MethodName)) ∈ gtbl := gm 1024 (by decide +kernel) rfl
theorem w_976 : (Jvm.Cond.instanceMethod ({ cls := "TwinphaseModel", name := "resolved", desc := "()I" } : Jvm.MethodName)) ∈ gtbl := gm 1025 (by decide +kernel) rfl
theorem w_977 : (Jvm.Cond.selects "TwinphaseModel" ({ cls := "TwinphaseModel", name := "resolved", desc := "()I" } : Jvm.MethodName) ({ cls := "TwinphaseModel", name := "resolved", desc := "()I" } : Jvm.MethodName)) ∈ gtbl := gm 1026 (by decide +kernel) rfl
theorem w_978 : (Jvm.Cond.code ({ cls := "TwinphaseModel", name := "resolved", desc := "()I" } : Jvm.MethodName) prog_7_method_49_code (1 : Nat) (Option.some Jvm.ClassFile.FieldType.int)) ∈ gtbl := gm 1027 (by decide +kernel) rfl
theorem w_979 : (Jvm.Cond.methodLink "TwinphaseModel" (193 : Nat) ({ cls := "TwinphaseModel", name := "resolvedNow", desc := "()I" } : Jvm.MethodName)) ∈ gtbl := gm 1028 (by decide +kernel) rfl
theorem w_981 : (Jvm.Cond.instanceMethod ({ cls := "TwinphaseModel", name := "resolvedNow", desc := "()I" } : Jvm.MethodName)) ∈ gtbl := gm 1030 (by decide +kernel) rfl
theorem w_982 : (Jvm.Cond.code ({ cls := "TwinphaseModel", name := "resolvedNow", desc := "()I" } : Jvm.MethodName) prog_7_method_48_code (3 : Nat) (Option.some Jvm.ClassFile.FieldType.int)) ∈ gtbl := gm 1031 (by decide +kernel) rfl
theorem w_983 : (Jvm.Cond.methodLink "TwinphaseLaw" (163 : Nat) ({ cls := "TwinphaseModel", name := "feed", desc := "(I)I" } : Jvm.MethodName)) ∈ gtbl := gm 1032 (by decide +kernel) rfl
theorem w_984 : (Jvm.Cond.instanceMethod ({ cls := "TwinphaseModel", name := "feed", desc := "(I)I" } : Jvm.MethodName)) ∈ gtbl := gm 1033 (by decide +kernel) rfl
theorem w_985 : (Jvm.Cond.selects "TwinphaseModel" ({ cls := "TwinphaseModel", name := "feed", desc := "(I)I" } : Jvm.MethodName) ({ cls := "TwinphaseModel", name := "feed", desc := "(I)I" } : Jvm.MethodName)) ∈ gtbl := gm 1034 (by decide +kernel) rfl
theorem w_986 : (Jvm.Cond.code ({ cls := "TwinphaseModel", name := "feed", desc := "(I)I" } : Jvm.MethodName) prog_7_method_50_code (8 : Nat) (Option.some Jvm.ClassFile.FieldType.int)) ∈ gtbl := gm 1035 (by decide +kernel) rfl
theorem w_987 : (Jvm.Cond.methodLink "TwinphaseLaw" (166 : Nat) ({ cls := "TwinphaseModel", name := "order", desc := "(I)I" } : Jvm.MethodName)) ∈ gtbl := gm 1036 (by decide +kernel) rfl
theorem w_988 : (Jvm.Cond.instanceMethod ({ cls := "TwinphaseModel", name := "order", desc := "(I)I" } : Jvm.MethodName)) ∈ gtbl := gm 1037 (by decide +kernel) rfl
theorem w_989 : (Jvm.Cond.selects "TwinphaseModel" ({ cls := "TwinphaseModel", name := "order", desc := "(I)I" } : Jvm.MethodName) ({ cls := "TwinphaseModel", name := "order", desc := "(I)I" } : Jvm.MethodName)) ∈ gtbl := gm 1038 (by decide +kernel) rfl
theorem w_990 : (Jvm.Cond.code ({ cls := "TwinphaseModel", name := "order", desc := "(I)I" } : Jvm.MethodName) prog_7_method_53_code (4 : Nat) (Option.some Jvm.ClassFile.FieldType.int)) ∈ gtbl := gm 1039 (by decide +kernel) rfl
theorem w_991 : (Jvm.Cond.methodLink "TwinphaseModel" (199 : Nat) ({ cls := "TwinphaseModel", name := "next", desc := "(I)I" } : Jvm.MethodName)) ∈ gtbl := gm 1040 (by decide +kernel) rfl
theorem w_993 : (Jvm.Cond.instanceMethod ({ cls := "TwinphaseModel", name := "next", desc := "(I)I" } : Jvm.MethodName)) ∈ gtbl := gm 1042 (by decide +kernel) rfl
theorem w_994 : (Jvm.Cond.code ({ cls := "TwinphaseModel", name := "next", desc := "(I)I" } : Jvm.MethodName) prog_7_method_51_code (5 : Nat) (Option.some Jvm.ClassFile.FieldType.int)) ∈ gtbl := gm 1043 (by decide +kernel) rfl
theorem w_995 : (Jvm.Cond.methodLink "TwinphaseModel" (196 : Nat) ({ cls := "TwinphaseModel", name := "isAhead", desc := "(II)Z" } : Jvm.MethodName)) ∈ gtbl := gm 1044 (by decide +kernel) rfl
theorem w_997 : (Jvm.Cond.instanceMethod ({ cls := "TwinphaseModel", name := "isAhead", desc := "(II)Z" } : Jvm.MethodName)) ∈ gtbl := gm 1046 (by decide +kernel) rfl
theorem w_998 : (Jvm.Cond.code ({ cls := "TwinphaseModel", name := "isAhead", desc := "(II)Z" } : Jvm.MethodName) prog_7_method_52_code (3 : Nat) (Option.some Jvm.ClassFile.FieldType.boolean)) ∈ gtbl := gm 1047 (by decide +kernel) rfl
theorem w_999 : (Jvm.Cond.methodLink "TwinphaseLaw" (170 : Nat) ({ cls := "TwinphaseModel", name := "judged", desc := "()I" } : Jvm.MethodName)) ∈ gtbl := gm 1048 (by decide +kernel) rfl
theorem w_1000 : (Jvm.Cond.instanceMethod ({ cls := "TwinphaseModel", name := "judged", desc := "()I" } : Jvm.MethodName)) ∈ gtbl := gm 1049 (by decide +kernel) rfl
theorem w_1001 : (Jvm.Cond.selects "TwinphaseModel" ({ cls := "TwinphaseModel", name := "judged", desc := "()I" } : Jvm.MethodName) ({ cls := "TwinphaseModel", name := "judged", desc := "()I" } : Jvm.MethodName)) ∈ gtbl := gm 1050 (by decide +kernel) rfl
theorem w_1002 : (Jvm.Cond.code ({ cls := "TwinphaseModel", name := "judged", desc := "()I" } : Jvm.MethodName) prog_7_method_54_code (4 : Nat) (Option.some Jvm.ClassFile.FieldType.int)) ∈ gtbl := gm 1051 (by decide +kernel) rfl
theorem w_1003 : (Jvm.Cond.arrayClass Jvm.ClassFile.FieldType.long) ∈ gtbl := gm 1052 (by decide +kernel) rfl
theorem w_1004 : (Jvm.Cond.sameMethod "java/lang/Throwable" "java/lang/Throwable" "fillInStackTrace" "(I)Ljava/lang/Throwable;") ∈ gtbl := gm 1053 (by decide +kernel) rfl
