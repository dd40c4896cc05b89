section
-- ===== PART A: goes FIRST, ahead of the names: the tables' words, and 'selects' of the private methods out of them =====
/-- a private method of a class that the tables say can be made, by its rows of tables_1 -/
def lw_okq (q : MethodName × Nat) : Prop := (q.1.cls ≠ "java/lang/invoke/MethodHandle" ∧ q.1.cls ≠ "java/lang/invoke/VarHandle") ∧ Cond.instantiable q.1.cls q.2 ∈ tables_1 ∧ Cond.privateMethod q.1 ∈ tables_1 ∧ Cond.instanceMethod q.1 ∈ tables_1
theorem lw_p0 : lw_okq (⟨"Twinphase", "closedStamp", "()I"⟩, 6) := ⟨⟨by decide +kernel, by decide +kernel⟩, List.mem_of_getElem? (i := 18) (by decide +kernel), List.mem_of_getElem? (i := 124) (by decide +kernel), List.mem_of_getElem? (i := 125) (by decide +kernel)⟩
theorem lw_p1 : lw_okq (⟨"Twinphase", "resolvedStamp", "()I"⟩, 6) := ⟨⟨by decide +kernel, by decide +kernel⟩, List.mem_of_getElem? (i := 18) (by decide +kernel), List.mem_of_getElem? (i := 135) (by decide +kernel), List.mem_of_getElem? (i := 136) (by decide +kernel)⟩
theorem lw_p2 : lw_okq (⟨"java/lang/Throwable", "fillInStackTrace", "(I)Ljava/lang/Throwable;"⟩, 6) := ⟨⟨by decide +kernel, by decide +kernel⟩, List.mem_of_getElem? (i := 212) (by decide +kernel), List.mem_of_getElem? (i := 210) (by decide +kernel), List.mem_of_getElem? (i := 211) (by decide +kernel)⟩
theorem lw_p3 : lw_okq (⟨"Twinphase", "needNode", "(I)V"⟩, 6) := ⟨⟨by decide +kernel, by decide +kernel⟩, List.mem_of_getElem? (i := 18) (by decide +kernel), List.mem_of_getElem? (i := 266) (by decide +kernel), List.mem_of_getElem? (i := 267) (by decide +kernel)⟩
theorem lw_p4 : lw_okq (⟨"Twinphase", "needUp", "(I)V"⟩, 6) := ⟨⟨by decide +kernel, by decide +kernel⟩, List.mem_of_getElem? (i := 18) (by decide +kernel), List.mem_of_getElem? (i := 294) (by decide +kernel), List.mem_of_getElem? (i := 295) (by decide +kernel)⟩
theorem lw_p5 : lw_okq (⟨"Twinphase", "rangeOf", "(I)I"⟩, 6) := ⟨⟨by decide +kernel, by decide +kernel⟩, List.mem_of_getElem? (i := 18) (by decide +kernel), List.mem_of_getElem? (i := 343) (by decide +kernel), List.mem_of_getElem? (i := 344) (by decide +kernel)⟩
theorem lw_p6 : lw_okq (⟨"Twinphase", "firstKeyOf", "(I)I"⟩, 6) := ⟨⟨by decide +kernel, by decide +kernel⟩, List.mem_of_getElem? (i := 18) (by decide +kernel), List.mem_of_getElem? (i := 355) (by decide +kernel), List.mem_of_getElem? (i := 356) (by decide +kernel)⟩
theorem lw_p7 : lw_okq (⟨"Twinphase", "needTransaction", "(I)V"⟩, 6) := ⟨⟨by decide +kernel, by decide +kernel⟩, List.mem_of_getElem? (i := 18) (by decide +kernel), List.mem_of_getElem? (i := 450) (by decide +kernel), List.mem_of_getElem? (i := 451) (by decide +kernel)⟩
theorem lw_p8 : lw_okq (⟨"Twinphase", "needKey", "(I)V"⟩, 6) := ⟨⟨by decide +kernel, by decide +kernel⟩, List.mem_of_getElem? (i := 18) (by decide +kernel), List.mem_of_getElem? (i := 455) (by decide +kernel), List.mem_of_getElem? (i := 456) (by decide +kernel)⟩
theorem lw_p9 : lw_okq (⟨"Twinphase", "refusalAt", "(LTwinphase$Transaction;I)I"⟩, 6) := ⟨⟨by decide +kernel, by decide +kernel⟩, List.mem_of_getElem? (i := 18) (by decide +kernel), List.mem_of_getElem? (i := 460) (by decide +kernel), List.mem_of_getElem? (i := 461) (by decide +kernel)⟩
theorem lw_p10 : lw_okq (⟨"Twinphase", "askNode", "(LTwinphase$Transaction;I)V"⟩, 6) := ⟨⟨by decide +kernel, by decide +kernel⟩, List.mem_of_getElem? (i := 18) (by decide +kernel), List.mem_of_getElem? (i := 464) (by decide +kernel), List.mem_of_getElem? (i := 465) (by decide +kernel)⟩
theorem lw_p11 : lw_okq (⟨"Twinphase", "lookToRead", "(LTwinphase$Transaction;I)I"⟩, 6) := ⟨⟨by decide +kernel, by decide +kernel⟩, List.mem_of_getElem? (i := 18) (by decide +kernel), List.mem_of_getElem? (i := 479) (by decide +kernel), List.mem_of_getElem? (i := 480) (by decide +kernel)⟩
theorem lw_p12 : lw_okq (⟨"Twinphase", "meetIntent", "(LTwinphase$Transaction;I)LTwinphase$Transaction;"⟩, 6) := ⟨⟨by decide +kernel, by decide +kernel⟩, List.mem_of_getElem? (i := 18) (by decide +kernel), List.mem_of_getElem? (i := 484) (by decide +kernel), List.mem_of_getElem? (i := 485) (by decide +kernel)⟩
theorem lw_p13 : lw_okq (⟨"Twinphase", "decideStaged", "(LTwinphase$Transaction;)V"⟩, 6) := ⟨⟨by decide +kernel, by decide +kernel⟩, List.mem_of_getElem? (i := 18) (by decide +kernel), List.mem_of_getElem? (i := 488) (by decide +kernel), List.mem_of_getElem? (i := 489) (by decide +kernel)⟩
theorem lw_p14 : lw_okq (⟨"Twinphase", "hasAllIntents", "(LTwinphase$Transaction;)Z"⟩, 6) := ⟨⟨by decide +kernel, by decide +kernel⟩, List.mem_of_getElem? (i := 18) (by decide +kernel), List.mem_of_getElem? (i := 492) (by decide +kernel), List.mem_of_getElem? (i := 493) (by decide +kernel)⟩
theorem lw_p15 : lw_okq (⟨"Twinphase", "waitFor", "(LTwinphase$Transaction;LTwinphase$Transaction;)I"⟩, 6) := ⟨⟨by decide +kernel, by decide +kernel⟩, List.mem_of_getElem? (i := 18) (by decide +kernel), List.mem_of_getElem? (i := 522) (by decide +kernel), List.mem_of_getElem? (i := 523) (by decide +kernel)⟩
def lw_privs_1 : List (MethodName × Nat) := [(⟨"Twinphase", "closedStamp", "()I"⟩, 6), (⟨"Twinphase", "resolvedStamp", "()I"⟩, 6), (⟨"java/lang/Throwable", "fillInStackTrace", "(I)Ljava/lang/Throwable;"⟩, 6), (⟨"Twinphase", "needNode", "(I)V"⟩, 6), (⟨"Twinphase", "needUp", "(I)V"⟩, 6), (⟨"Twinphase", "rangeOf", "(I)I"⟩, 6), (⟨"Twinphase", "firstKeyOf", "(I)I"⟩, 6), (⟨"Twinphase", "needTransaction", "(I)V"⟩, 6), (⟨"Twinphase", "needKey", "(I)V"⟩, 6), (⟨"Twinphase", "refusalAt", "(LTwinphase$Transaction;I)I"⟩, 6), (⟨"Twinphase", "askNode", "(LTwinphase$Transaction;I)V"⟩, 6), (⟨"Twinphase", "lookToRead", "(LTwinphase$Transaction;I)I"⟩, 6), (⟨"Twinphase", "meetIntent", "(LTwinphase$Transaction;I)LTwinphase$Transaction;"⟩, 6), (⟨"Twinphase", "decideStaged", "(LTwinphase$Transaction;)V"⟩, 6), (⟨"Twinphase", "hasAllIntents", "(LTwinphase$Transaction;)Z"⟩, 6), (⟨"Twinphase", "waitFor", "(LTwinphase$Transaction;LTwinphase$Transaction;)I"⟩, 6)]
theorem lw_r1 : ∀ q ∈ lw_privs_1, lw_okq q := List.forall_mem_cons.mpr ⟨lw_p0, List.forall_mem_cons.mpr ⟨lw_p1, List.forall_mem_cons.mpr ⟨lw_p2, List.forall_mem_cons.mpr ⟨lw_p3, List.forall_mem_cons.mpr ⟨lw_p4, List.forall_mem_cons.mpr ⟨lw_p5, List.forall_mem_cons.mpr ⟨lw_p6, List.forall_mem_cons.mpr ⟨lw_p7, List.forall_mem_cons.mpr ⟨lw_p8, List.forall_mem_cons.mpr ⟨lw_p9, List.forall_mem_cons.mpr ⟨lw_p10, List.forall_mem_cons.mpr ⟨lw_p11, List.forall_mem_cons.mpr ⟨lw_p12, List.forall_mem_cons.mpr ⟨lw_p13, List.forall_mem_cons.mpr ⟨lw_p14, List.forall_mem_cons.mpr ⟨lw_p15, fun _ h => absurd h List.not_mem_nil⟩⟩⟩⟩⟩⟩⟩⟩⟩⟩⟩⟩⟩⟩⟩⟩
theorem lw_p16 : lw_okq (⟨"Twinphase", "victimOfRing", "(LTwinphase$Transaction;)LTwinphase$Transaction;"⟩, 6) := ⟨⟨by decide +kernel, by decide +kernel⟩, List.mem_of_getElem? (i := 18) (by decide +kernel), List.mem_of_getElem? (i := 526) (by decide +kernel), List.mem_of_getElem? (i := 527) (by decide +kernel)⟩
theorem lw_p17 : lw_okq (⟨"Twinphase", "refreshReads", "(LTwinphase$Transaction;I)Z"⟩, 6) := ⟨⟨by decide +kernel, by decide +kernel⟩, List.mem_of_getElem? (i := 18) (by decide +kernel), List.mem_of_getElem? (i := 546) (by decide +kernel), List.mem_of_getElem? (i := 547) (by decide +kernel)⟩
theorem lw_p18 : lw_okq (⟨"Twinphase", "restartAt", "(LTwinphase$Transaction;I)I"⟩, 6) := ⟨⟨by decide +kernel, by decide +kernel⟩, List.mem_of_getElem? (i := 18) (by decide +kernel), List.mem_of_getElem? (i := 560) (by decide +kernel), List.mem_of_getElem? (i := 561) (by decide +kernel)⟩
theorem lw_p19 : lw_okq (⟨"Twinphase", "lookToWrite", "(LTwinphase$Transaction;II)I"⟩, 6) := ⟨⟨by decide +kernel, by decide +kernel⟩, List.mem_of_getElem? (i := 18) (by decide +kernel), List.mem_of_getElem? (i := 584) (by decide +kernel), List.mem_of_getElem? (i := 585) (by decide +kernel)⟩
theorem lw_p20 : lw_okq (⟨"Twinphase", "writesOnDownNode", "(LTwinphase$Transaction;)Z"⟩, 6) := ⟨⟨by decide +kernel, by decide +kernel⟩, List.mem_of_getElem? (i := 18) (by decide +kernel), List.mem_of_getElem? (i := 600) (by decide +kernel), List.mem_of_getElem? (i := 601) (by decide +kernel)⟩
theorem lw_p21 : lw_okq (⟨"Twinphase", "needWhat", "(I)V"⟩, 6) := ⟨⟨by decide +kernel, by decide +kernel⟩, List.mem_of_getElem? (i := 18) (by decide +kernel), List.mem_of_getElem? (i := 632) (by decide +kernel), List.mem_of_getElem? (i := 633) (by decide +kernel)⟩
theorem lw_p22 : lw_okq (⟨"Twinphase", "needPlace", "(I)V"⟩, 6) := ⟨⟨by decide +kernel, by decide +kernel⟩, List.mem_of_getElem? (i := 18) (by decide +kernel), List.mem_of_getElem? (i := 669) (by decide +kernel), List.mem_of_getElem? (i := 670) (by decide +kernel)⟩
theorem lw_p23 : lw_okq (⟨"TwinphaseModel", "asks", "(I)I"⟩, 32) := ⟨⟨by decide +kernel, by decide +kernel⟩, List.mem_of_getElem? (i := 689) (by decide +kernel), List.mem_of_getElem? (i := 812) (by decide +kernel), List.mem_of_getElem? (i := 813) (by decide +kernel)⟩
theorem lw_p24 : lw_okq (⟨"TwinphaseModel", "closedNow", "()I"⟩, 32) := ⟨⟨by decide +kernel, by decide +kernel⟩, List.mem_of_getElem? (i := 689) (by decide +kernel), List.mem_of_getElem? (i := 823) (by decide +kernel), List.mem_of_getElem? (i := 824) (by decide +kernel)⟩
theorem lw_p25 : lw_okq (⟨"TwinphaseModel", "nodeOf", "(I)I"⟩, 32) := ⟨⟨by decide +kernel, by decide +kernel⟩, List.mem_of_getElem? (i := 689) (by decide +kernel), List.mem_of_getElem? (i := 831) (by decide +kernel), List.mem_of_getElem? (i := 832) (by decide +kernel)⟩
theorem lw_p26 : lw_okq (⟨"TwinphaseModel", "rangeOf", "(I)I"⟩, 32) := ⟨⟨by decide +kernel, by decide +kernel⟩, List.mem_of_getElem? (i := 689) (by decide +kernel), List.mem_of_getElem? (i := 835) (by decide +kernel), List.mem_of_getElem? (i := 836) (by decide +kernel)⟩
theorem lw_p27 : lw_okq (⟨"TwinphaseModel", "covers", "(II)V"⟩, 32) := ⟨⟨by decide +kernel, by decide +kernel⟩, List.mem_of_getElem? (i := 689) (by decide +kernel), List.mem_of_getElem? (i := 843) (by decide +kernel), List.mem_of_getElem? (i := 844) (by decide +kernel)⟩
theorem lw_p28 : lw_okq (⟨"TwinphaseModel", "forgets", "(I)V"⟩, 32) := ⟨⟨by decide +kernel, by decide +kernel⟩, List.mem_of_getElem? (i := 689) (by decide +kernel), List.mem_of_getElem? (i := 867) (by decide +kernel), List.mem_of_getElem? (i := 868) (by decide +kernel)⟩
theorem lw_p29 : lw_okq (⟨"TwinphaseModel", "areThere", "(II)Z"⟩, 32) := ⟨⟨by decide +kernel, by decide +kernel⟩, List.mem_of_getElem? (i := 689) (by decide +kernel), List.mem_of_getElem? (i := 875) (by decide +kernel), List.mem_of_getElem? (i := 876) (by decide +kernel)⟩
theorem lw_p30 : lw_okq (⟨"TwinphaseModel", "opens", "(II)I"⟩, 32) := ⟨⟨by decide +kernel, by decide +kernel⟩, List.mem_of_getElem? (i := 689) (by decide +kernel), List.mem_of_getElem? (i := 879) (by decide +kernel), List.mem_of_getElem? (i := 880) (by decide +kernel)⟩
theorem lw_p31 : lw_okq (⟨"TwinphaseModel", "meets", "(II)I"⟩, 32) := ⟨⟨by decide +kernel, by decide +kernel⟩, List.mem_of_getElem? (i := 689) (by decide +kernel), List.mem_of_getElem? (i := 883) (by decide +kernel), List.mem_of_getElem? (i := 884) (by decide +kernel)⟩
def lw_privs_2 : List (MethodName × Nat) := [(⟨"Twinphase", "victimOfRing", "(LTwinphase$Transaction;)LTwinphase$Transaction;"⟩, 6), (⟨"Twinphase", "refreshReads", "(LTwinphase$Transaction;I)Z"⟩, 6), (⟨"Twinphase", "restartAt", "(LTwinphase$Transaction;I)I"⟩, 6), (⟨"Twinphase", "lookToWrite", "(LTwinphase$Transaction;II)I"⟩, 6), (⟨"Twinphase", "writesOnDownNode", "(LTwinphase$Transaction;)Z"⟩, 6), (⟨"Twinphase", "needWhat", "(I)V"⟩, 6), (⟨"Twinphase", "needPlace", "(I)V"⟩, 6), (⟨"TwinphaseModel", "asks", "(I)I"⟩, 32), (⟨"TwinphaseModel", "closedNow", "()I"⟩, 32), (⟨"TwinphaseModel", "nodeOf", "(I)I"⟩, 32), (⟨"TwinphaseModel", "rangeOf", "(I)I"⟩, 32), (⟨"TwinphaseModel", "covers", "(II)V"⟩, 32), (⟨"TwinphaseModel", "forgets", "(I)V"⟩, 32), (⟨"TwinphaseModel", "areThere", "(II)Z"⟩, 32), (⟨"TwinphaseModel", "opens", "(II)I"⟩, 32), (⟨"TwinphaseModel", "meets", "(II)I"⟩, 32)]
theorem lw_r2 : ∀ q ∈ lw_privs_2, lw_okq q := List.forall_mem_cons.mpr ⟨lw_p16, List.forall_mem_cons.mpr ⟨lw_p17, List.forall_mem_cons.mpr ⟨lw_p18, List.forall_mem_cons.mpr ⟨lw_p19, List.forall_mem_cons.mpr ⟨lw_p20, List.forall_mem_cons.mpr ⟨lw_p21, List.forall_mem_cons.mpr ⟨lw_p22, List.forall_mem_cons.mpr ⟨lw_p23, List.forall_mem_cons.mpr ⟨lw_p24, List.forall_mem_cons.mpr ⟨lw_p25, List.forall_mem_cons.mpr ⟨lw_p26, List.forall_mem_cons.mpr ⟨lw_p27, List.forall_mem_cons.mpr ⟨lw_p28, List.forall_mem_cons.mpr ⟨lw_p29, List.forall_mem_cons.mpr ⟨lw_p30, List.forall_mem_cons.mpr ⟨lw_p31, fun _ h => absurd h List.not_mem_nil⟩⟩⟩⟩⟩⟩⟩⟩⟩⟩⟩⟩⟩⟩⟩⟩
theorem lw_p32 : lw_okq (⟨"TwinphaseModel", "recovers", "(I)V"⟩, 32) := ⟨⟨by decide +kernel, by decide +kernel⟩, List.mem_of_getElem? (i := 689) (by decide +kernel), List.mem_of_getElem? (i := 887) (by decide +kernel), List.mem_of_getElem? (i := 888) (by decide +kernel)⟩
theorem lw_p33 : lw_okq (⟨"TwinphaseModel", "hasAllIntents", "(I)Z"⟩, 32) := ⟨⟨by decide +kernel, by decide +kernel⟩, List.mem_of_getElem? (i := 689) (by decide +kernel), List.mem_of_getElem? (i := 891) (by decide +kernel), List.mem_of_getElem? (i := 892) (by decide +kernel)⟩
theorem lw_p34 : lw_okq (⟨"TwinphaseModel", "commits", "(I)V"⟩, 32) := ⟨⟨by decide +kernel, by decide +kernel⟩, List.mem_of_getElem? (i := 689) (by decide +kernel), List.mem_of_getElem? (i := 895) (by decide +kernel), List.mem_of_getElem? (i := 896) (by decide +kernel)⟩
theorem lw_p35 : lw_okq (⟨"TwinphaseModel", "isVanished", "(I)Z"⟩, 32) := ⟨⟨by decide +kernel, by decide +kernel⟩, List.mem_of_getElem? (i := 689) (by decide +kernel), List.mem_of_getElem? (i := 899) (by decide +kernel), List.mem_of_getElem? (i := 900) (by decide +kernel)⟩
theorem lw_p36 : lw_okq (⟨"TwinphaseModel", "comesAnew", "(II)Z"⟩, 32) := ⟨⟨by decide +kernel, by decide +kernel⟩, List.mem_of_getElem? (i := 689) (by decide +kernel), List.mem_of_getElem? (i := 903) (by decide +kernel), List.mem_of_getElem? (i := 904) (by decide +kernel)⟩
theorem lw_p37 : lw_okq (⟨"TwinphaseModel", "waitsFor", "(I)I"⟩, 32) := ⟨⟨by decide +kernel, by decide +kernel⟩, List.mem_of_getElem? (i := 689) (by decide +kernel), List.mem_of_getElem? (i := 907) (by decide +kernel), List.mem_of_getElem? (i := 908) (by decide +kernel)⟩
theorem lw_p38 : lw_okq (⟨"TwinphaseModel", "waitAnswer", "(I)I"⟩, 32) := ⟨⟨by decide +kernel, by decide +kernel⟩, List.mem_of_getElem? (i := 689) (by decide +kernel), List.mem_of_getElem? (i := 911) (by decide +kernel), List.mem_of_getElem? (i := 912) (by decide +kernel)⟩
theorem lw_p39 : lw_okq (⟨"TwinphaseModel", "latest", "(II)I"⟩, 32) := ⟨⟨by decide +kernel, by decide +kernel⟩, List.mem_of_getElem? (i := 689) (by decide +kernel), List.mem_of_getElem? (i := 915) (by decide +kernel), List.mem_of_getElem? (i := 916) (by decide +kernel)⟩
theorem lw_p40 : lw_okq (⟨"TwinphaseModel", "refreshes", "(II)Z"⟩, 32) := ⟨⟨by decide +kernel, by decide +kernel⟩, List.mem_of_getElem? (i := 689) (by decide +kernel), List.mem_of_getElem? (i := 919) (by decide +kernel), List.mem_of_getElem? (i := 920) (by decide +kernel)⟩
theorem lw_p41 : lw_okq (⟨"TwinphaseModel", "marks", "(III)V"⟩, 32) := ⟨⟨by decide +kernel, by decide +kernel⟩, List.mem_of_getElem? (i := 689) (by decide +kernel), List.mem_of_getElem? (i := 923) (by decide +kernel), List.mem_of_getElem? (i := 924) (by decide +kernel)⟩
theorem lw_p42 : lw_okq (⟨"TwinphaseModel", "restarts", "(II)I"⟩, 32) := ⟨⟨by decide +kernel, by decide +kernel⟩, List.mem_of_getElem? (i := 689) (by decide +kernel), List.mem_of_getElem? (i := 927) (by decide +kernel), List.mem_of_getElem? (i := 928) (by decide +kernel)⟩
theorem lw_p43 : lw_okq (⟨"TwinphaseModel", "valueAt", "(II)I"⟩, 32) := ⟨⟨by decide +kernel, by decide +kernel⟩, List.mem_of_getElem? (i := 689) (by decide +kernel), List.mem_of_getElem? (i := 931) (by decide +kernel), List.mem_of_getElem? (i := 932) (by decide +kernel)⟩
theorem lw_p44 : lw_okq (⟨"TwinphaseModel", "isTransaction", "(I)Z"⟩, 32) := ⟨⟨by decide +kernel, by decide +kernel⟩, List.mem_of_getElem? (i := 689) (by decide +kernel), List.mem_of_getElem? (i := 944) (by decide +kernel), List.mem_of_getElem? (i := 945) (by decide +kernel)⟩
theorem lw_p45 : lw_okq (⟨"TwinphaseModel", "counts", "(I[I)I"⟩, 32) := ⟨⟨by decide +kernel, by decide +kernel⟩, List.mem_of_getElem? (i := 689) (by decide +kernel), List.mem_of_getElem? (i := 948) (by decide +kernel), List.mem_of_getElem? (i := 949) (by decide +kernel)⟩
theorem lw_p46 : lw_okq (⟨"TwinphaseModel", "resolvedNow", "()I"⟩, 32) := ⟨⟨by decide +kernel, by decide +kernel⟩, List.mem_of_getElem? (i := 689) (by decide +kernel), List.mem_of_getElem? (i := 980) (by decide +kernel), List.mem_of_getElem? (i := 981) (by decide +kernel)⟩
theorem lw_p47 : lw_okq (⟨"TwinphaseModel", "next", "(I)I"⟩, 32) := ⟨⟨by decide +kernel, by decide +kernel⟩, List.mem_of_getElem? (i := 689) (by decide +kernel), List.mem_of_getElem? (i := 992) (by decide +kernel), List.mem_of_getElem? (i := 993) (by decide +kernel)⟩
def lw_privs_3 : List (MethodName × Nat) := [(⟨"TwinphaseModel", "recovers", "(I)V"⟩, 32), (⟨"TwinphaseModel", "hasAllIntents", "(I)Z"⟩, 32), (⟨"TwinphaseModel", "commits", "(I)V"⟩, 32), (⟨"TwinphaseModel", "isVanished", "(I)Z"⟩, 32), (⟨"TwinphaseModel", "comesAnew", "(II)Z"⟩, 32), (⟨"TwinphaseModel", "waitsFor", "(I)I"⟩, 32), (⟨"TwinphaseModel", "waitAnswer", "(I)I"⟩, 32), (⟨"TwinphaseModel", "latest", "(II)I"⟩, 32), (⟨"TwinphaseModel", "refreshes", "(II)Z"⟩, 32), (⟨"TwinphaseModel", "marks", "(III)V"⟩, 32), (⟨"TwinphaseModel", "restarts", "(II)I"⟩, 32), (⟨"TwinphaseModel", "valueAt", "(II)I"⟩, 32), (⟨"TwinphaseModel", "isTransaction", "(I)Z"⟩, 32), (⟨"TwinphaseModel", "counts", "(I[I)I"⟩, 32), (⟨"TwinphaseModel", "resolvedNow", "()I"⟩, 32), (⟨"TwinphaseModel", "next", "(I)I"⟩, 32)]
theorem lw_r3 : ∀ q ∈ lw_privs_3, lw_okq q := List.forall_mem_cons.mpr ⟨lw_p32, List.forall_mem_cons.mpr ⟨lw_p33, List.forall_mem_cons.mpr ⟨lw_p34, List.forall_mem_cons.mpr ⟨lw_p35, List.forall_mem_cons.mpr ⟨lw_p36, List.forall_mem_cons.mpr ⟨lw_p37, List.forall_mem_cons.mpr ⟨lw_p38, List.forall_mem_cons.mpr ⟨lw_p39, List.forall_mem_cons.mpr ⟨lw_p40, List.forall_mem_cons.mpr ⟨lw_p41, List.forall_mem_cons.mpr ⟨lw_p42, List.forall_mem_cons.mpr ⟨lw_p43, List.forall_mem_cons.mpr ⟨lw_p44, List.forall_mem_cons.mpr ⟨lw_p45, List.forall_mem_cons.mpr ⟨lw_p46, List.forall_mem_cons.mpr ⟨lw_p47, fun _ h => absurd h List.not_mem_nil⟩⟩⟩⟩⟩⟩⟩⟩⟩⟩⟩⟩⟩⟩⟩⟩
theorem lw_p48 : lw_okq (⟨"TwinphaseModel", "isAhead", "(II)Z"⟩, 32) := ⟨⟨by decide +kernel, by decide +kernel⟩, List.mem_of_getElem? (i := 689) (by decide +kernel), List.mem_of_getElem? (i := 996) (by decide +kernel), List.mem_of_getElem? (i := 997) (by decide +kernel)⟩
def lw_privs_4 : List (MethodName × Nat) := [(⟨"TwinphaseModel", "isAhead", "(II)Z"⟩, 32)]
theorem lw_r4 : ∀ q ∈ lw_privs_4, lw_okq q := List.forall_mem_cons.mpr ⟨lw_p48, fun _ h => absurd h List.not_mem_nil⟩
def lw_privs : List (MethodName × Nat) := lw_privs_1 ++ (lw_privs_2 ++ (lw_privs_3 ++ (lw_privs_4)))
def lw_tbl : List Cond := k2_sels lw_privs ++ tables_1
theorem lw_privs_ok : ∀ q ∈ lw_privs, lw_okq q := by
  show ∀ q ∈ lw_privs_1 ++ (lw_privs_2 ++ (lw_privs_3 ++ (lw_privs_4))), lw_okq q
  exact List.forall_mem_append.mpr ⟨lw_r1, List.forall_mem_append.mpr ⟨lw_r2, List.forall_mem_append.mpr ⟨lw_r3, lw_r4⟩⟩⟩
-- ===== end of PART A; then your names; then what follows =====
end
section
/-! ===== BEGIN words of one list among another's, by their places ===== -/
theorem goodIn_r {big : List Cond} (ws : List Cond) (ps : List Nat) (hp : ws = ps.filterMap (fun i => big[i]?)) (h : ws.all goodWord = true) : GoodIn big ws := by
  intro w hw
  have h1 := List.all_eq_true.mp h w hw
  rw [hp] at hw
  obtain ⟨i, -, hi⟩ := List.mem_filterMap.mp hw
  have hm : w ∈ big := by first | exact List.mem_of_getElem? hi | exact List.getElem?_mem hi
  exact ⟨hm, good_of_word h1⟩
theorem goodIn_app {big a b : List Cond} (ha : GoodIn big a) (hb : GoodIn big b) : GoodIn big (a ++ b) := fun w h => (List.mem_append.mp h).elim (ha w) (hb w)
theorem goodIn_ca {big a b : List Cond} {c : Cond} (ha : GoodIn big (c :: a)) (hb : GoodIn big b) : GoodIn big (c :: (a ++ b)) := fun w h => (List.mem_cons.mp h).elim (fun e => ha w (List.mem_cons.mpr (Or.inl e))) (fun h => (List.mem_append.mp h).elim (fun h => ha w (List.mem_cons.mpr (Or.inr h))) (hb w))
theorem goodIn_sub {big ws : List Cond} (hm : ∀ w ∈ ws, w ∈ big) (h : ws.all goodWord = true) : GoodIn big ws := fun w hw => ⟨hm w hw, good_of_word (List.all_eq_true.mp h w hw)⟩
/-! ===== END ===== -/

/-! ===== BEGIN exceptions that leave a method, and their catching by the caller (launches without stack traces) ===== -/
section VXA
/-! The laws vx_back, vx_callV, vx_callS, vx_callSW, vx_throw0, vx_throwS follow proofs of the library, with one case more: JvmDerived/Free/Laws.lean (Back.of_free), Shelf42/LK1.lean (callV, callS), Shelf/KitTraced.lean (throwNew0V, throwNewS). -/
/-- where a method has thrown q: the class by its name, the cell, what was written, the world -/
def vx_T (XC : String → State → State → Prop) (st : State) (q : Addr) (t : State) (mc ms : Nat) (free : Addr → Prop) : Prop :=
  ∃ (E : String) (ce : Cell) (L : List Loc), XC E st t ∧ t.heap[q]? = some ce ∧ ce.vm = .none ∧ st.vm.findClass E = some ce.cls ∧ st.WarmedH t.vm ∧ st.sameButNew ({ t with vm := st.vm } : State) L mc ms ∧ ∀ z ∈ L, free z.base
def vx_Q (Qc : Array Value → State → Outcome → State → Prop) (XC : String → State → State → Prop) (mc ms : Nat) (free : Addr → Prop) : Array Value → State → Outcome → State → Prop := fun a st o t =>
  (Qc a st o t ∧ ∃ L, FrameEnd st o t L mc ms ∧ ∀ q ∈ L, free q.base) ∨ ∃ q, o = .threw q ∧ vx_T XC st q t mc ms free
/-- a callee that returns or throws -/
def vx_Met (l : Launch) (y : MethodName) (ws : List Cond) (rm : Room) (Pc : Array Value → State → Prop) (Qc : Array Value → State → Outcome → State → Prop) (XC : String → State → State → Prop) (mc ms : Nat) (free : Addr → Prop) : Prop :=
  MetFree l y (headSpec ws rm) Pc (fun _ _ _ _ _ => True) (vx_Q Qc XC mc ms free)
def vx_Post (XC : String → State → State → Prop) (mc ms : Nat) (free : Addr → Prop) : Pt → Array Value → Addr → Pt → Prop := fun A a q B =>
  ∃ (g : JFrame) (mk : MethodId) (t : State) (L : List Loc) (E : String) (ce : Cell), B.U.heap = t.heap ∧ B.U.vm = t.vm ∧ XC E (A.U.calling g mk a) t ∧ t.heap[q]? = some ce ∧ ce.vm = .none ∧ A.U.vm.findClass E = some ce.cls ∧ B.locs = A.locs ++ L ∧ (∀ z ∈ L, free z.base) ∧ B.cells = A.cells + mc ∧ B.slots = A.slots + ms
def vx_Back (l : Launch) (R : Room) (p : Program) (e : Env) (below : List Frame) (s : State) (sargs : Array Value) (y : MethodName) (len W9 : Nat)
    (Pre : Pt → Array Value → Prop) (Post : Pt → Array Value → Option Value → Pt → Prop) (PostX : Pt → Array Value → Addr → Pt → Prop) : Prop :=
  ∀ (m : MethodId) (meth : Method) (c : Code) (A : Pt) (g : JFrame) (ig : Instr) (mk : MethodId) (a : Array Value),
    Stand p l e R s m sargs below meth c A.U A.locs A.cells A.slots → g.method = m → g.locals.size = c.maxLocals → decode c.code g.pc = .ok (ig, len) →
    2 * g.monitorRoom + (g.stack.map fun v => v.category).sum ≤ W9 → A.U.methodNamed? y = some mk → Pre A a →
    (∃ (v : Option Value) (B : Pt), Stand p l e R s m sargs below meth c B.U B.locs B.cells B.slots ∧ Post A a v B ∧
      Steps p.tables e below (doInvoke e (A.U.setTop g) [] mk a).1 (B.U.setTop { g with pc := g.pc + len, stack := v.toList ++ g.stack })) ∨
    (∃ (q : Addr) (B : Pt), Stand p l e R s m sargs below meth c B.U B.locs B.cells B.slots ∧ PostX A a q B ∧
      Steps p.tables e below (doInvoke e (A.U.setTop g) [] mk a).1 ((B.U.setTop g).pushFrame (.throwing q)))
section Payer
variable {l : Launch} {R : Room} {p : Program} {e : Env} {below : List Frame} {s : State} {sargs : Array Value} {y : MethodName} {len W9 : Nat}
theorem vx_back {ws : List Cond} {rm : Room} {Pc : Array Value → State → Prop} {Qc : Array Value → State → Outcome → State → Prop} {XC : String → State → State → Prop} {mc ms : Nat} {free : Addr → Prop} {bytes : ByteArray} {maxL : Nat} {ret : Option FieldType}
    (hM : vx_Met l y ws rm Pc Qc XC mc ms free) (hblind : FrameBlind Pc) (hrc : rm.cells = mc) (hrs : rm.slots = ms)
    (hframes : rm.frames + 1 ≤ R.frames) (hlocals : W9 + (maxL + 11) + rm.locals ≤ R.locals)
    (hws : ∀ w ∈ ws, ∀ a' U, s.WarmedH U.vm → w.before a' U = true) (hcode : Cond.code y bytes maxL ret ∈ ws) (hinit : ∀ a' U, s.WarmedH U.vm → (Cond.initialized y.cls).before a' U = true) :
    vx_Back l R p e below s sargs y len W9 (PreOf R mc ms Pc) (PostOf Qc mc ms free) (vx_Post XC mc ms free) := by
  intro m meth c A g ig mk a X hg hsize hdg hW hn hp
  have h1 : (headSpec ws rm).pre.before a A.U = true := atoms_intro fun w hw => hws w hw _ _ X.warmed
  have h2 : (Cond.code y bytes maxL ret).before a A.U = true := hws _ hcode _ _ X.warmed
  have h3 : (Cond.initialized y.cls).before a A.U = true := hinit _ _ X.warmed
  have h4 : A.cells + (headSpec ws rm).room.cells ≤ R.cells := by rw [show (headSpec ws rm).room.cells = mc from hrc]; exact hp.1
  have h5 : A.slots + (headSpec ws rm).room.slots ≤ R.slots := by rw [show (headSpec ws rm).room.slots = ms from hrs]; exact hp.2.1
  have hPc : Pc a (A.U.calling g mk a) := hblind _ _ _ _ hp.2.2
  obtain ⟨U, Ls, c0, s0⟩ := A
  dsimp only [Pt.U, Pt.locs, Pt.cells, Pt.slots] at h1 h2 h3 h4 h5 X hn hPc ⊢
  obtain ⟨methY, cY, hmY, hcY, -, hlY, -, -, -, -⟩ := Cond.code_spec hn h2
  obtain ⟨kY, hkY, -⟩ := className_of_methodNamed hn
  have hinitY : kY.init = .initialized := Cond.initialized_spec (findClass_of_methodNamed hn) hkY h3
  have h : At U g.method c below := by rw [hg]; exact X.here
  have hlocals9 : W9 + (maxL + 11) + (headSpec ws rm).room.locals ≤ R.locals := hlocals
  have happ : (headSpec ws rm).appliesLoose y e.platform (U.calling g mk a) = true :=
    Spec.appliesLoose_calling (g := g) h hdg hn hkY hinitY
      (X.room_calling (g := g) (R' := (headSpec ws rm).room) hsize hmY hcY hframes (by rw [hlY]; omega) h4 h5) h1
  obtain ⟨mid, hmid⟩ := h.above
  have hfr : (U.setTop g).frames = (.java g :: mid) ++ below := by rw [State.frames_setTop' g h.top, hmid]; rfl
  obtain ⟨o, s₂, hsteps, -, hend, hq⟩ := Steps.callFree hM p X.admits X.cas X.clock (acts := []) hfr happ hPc trivial
  have hq' : vx_Q Qc XC mc ms free a (U.calling g mk a) o s₂ := hq
  rw [State.frames_setTop' g h.top] at hend
  obtain ⟨g₀, hg0⟩ := Option.isSome_iff_exists.mp h.top
  obtain ⟨r, hr⟩ := State.topJava?_eq_some.mp hg0
  have hr' : (({ U with heap := s₂.heap, slotsUsed := s₂.slotsUsed } : State).setVm s₂.vm).frames = .java g₀ :: r := hr
  rcases hq' with ⟨hqc, L, hfe, hL⟩ | ⟨q, rfl, E, ce, L, hx, hce, hcv, hcl, hW₂, hsm, hL⟩
  · obtain ⟨⟨v, rfl⟩, hW₂, e2, q2, q3, q4, q5, q6⟩ := id hfe
    have e3 : s₂ = ({ (U.calling g mk a).setFrames s₂.frames with heap := s₂.heap, slotsUsed := s₂.slotsUsed } : State).setVm s₂.vm := by
      have : s₂ = ({ s₂ with vm := (U.calling g mk a).vm } : State).setVm s₂.vm := rfl
      rw [e2] at this
      exact this
    obtain ⟨c₂, i₂, len₂, hc₂, hd₂, hf₂⟩ := hend
    have hW' : U.WarmedH s₂.vm := hW₂
    have hcc : c₂ = c := by
      have h1 : s₂.code? g.method = U.code? g.method := by
        rw [State.code?_eq, State.code?_eq, hW'.alike.method?]
      exact Option.some.inj (hc₂.symm.trans (h1.trans h.code))
    subst hcc
    have hlen : len₂ = len := by rw [hdg] at hd₂; cases hd₂; rfl
    subst hlen
    have hs₂ : s₂ = (({ U with heap := s₂.heap, slotsUsed := s₂.slotsUsed } : State).setVm s₂.vm).setTop { g with pc := g.pc + len₂, stack := v.toList ++ g.stack } := by
      refine e3.trans ?_
      rw [hf₂, State.calling_eq h.top, State.setFrames_setFrames, State.setTop_of_frames _ hr', hr]
      rfl
    have hsame : U.sameButNew ({ U with heap := s₂.heap, slotsUsed := s₂.slotsUsed } : State) L mc ms := by
      refine ⟨?_, q2, q3, q4, q5, q6⟩
      obtain ⟨t, ht, -⟩ := State.frames_cons hr
      show ({ U with heap := s₂.heap, slotsUsed := s₂.slotsUsed } : State) = { U.setFrames U.frames with heap := s₂.heap, slotsUsed := s₂.slotsUsed }
      rw [State.setFrames_self ht]
    subst hg
    refine Or.inl ⟨v, ⟨(({ U with heap := s₂.heap, slotsUsed := s₂.slotsUsed } : State).setVm s₂.vm), Ls ++ L, c0 + mc, s0 + ms⟩,
      ⟨X.admits, X.cas, X.clock, X.frames, X.room, X.hears, X.method, X.code, (X.here.setHeapUsed s₂.heap s₂.slotsUsed).setVm hW'.alike, X.tail, State.WarmedH.trans X.warmed hW', X.limits, X.bytes, X.same.trans (hsame.setVm s.vm)⟩,
      ⟨g, mk, s₂, L, rfl, rfl, hqc, rfl, hL, rfl, rfl⟩, ?_⟩
    show Steps p.tables e below _ ((({ U with heap := s₂.heap, slotsUsed := s₂.slotsUsed } : State).setVm s₂.vm).setTop { g with pc := g.pc + len₂, stack := v.toList ++ g.stack })
    rw [← hs₂]
    exact hsteps
  · obtain ⟨e2, q2, q3, q4, q5, q6⟩ := id hsm
    have e3 : s₂ = ({ (U.calling g mk a).setFrames s₂.frames with heap := s₂.heap, slotsUsed := s₂.slotsUsed } : State).setVm s₂.vm := by
      have : s₂ = ({ s₂ with vm := (U.calling g mk a).vm } : State).setVm s₂.vm := rfl
      rw [e2] at this
      exact this
    have hf₂ : s₂.frames = .throwing q :: .java g :: U.frames.tail := hend
    have hW' : U.WarmedH s₂.vm := hW₂
    have hs₂ : s₂ = ((({ U with heap := s₂.heap, slotsUsed := s₂.slotsUsed } : State).setVm s₂.vm).setTop g).pushFrame (.throwing q) := by
      refine e3.trans ?_
      rw [hf₂, State.calling_eq h.top, State.setFrames_setFrames, State.pushFrame, State.frames_setTop _ hr', State.setTop_of_frames _ hr', State.setFrames_setFrames, hr]
      rfl
    have hsame : U.sameButNew ({ U with heap := s₂.heap, slotsUsed := s₂.slotsUsed } : State) L mc ms := by
      refine ⟨?_, q2, q3, q4, q5, q6⟩
      obtain ⟨t, ht, -⟩ := State.frames_cons hr
      show ({ U with heap := s₂.heap, slotsUsed := s₂.slotsUsed } : State) = { U.setFrames U.frames with heap := s₂.heap, slotsUsed := s₂.slotsUsed }
      rw [State.setFrames_self ht]
    subst hg
    refine Or.inr ⟨q, ⟨(({ U with heap := s₂.heap, slotsUsed := s₂.slotsUsed } : State).setVm s₂.vm), Ls ++ L, c0 + mc, s0 + ms⟩,
      ⟨X.admits, X.cas, X.clock, X.frames, X.room, X.hears, X.method, X.code, (X.here.setHeapUsed s₂.heap s₂.slotsUsed).setVm hW'.alike, X.tail, State.WarmedH.trans X.warmed hW', X.limits, X.bytes, X.same.trans (hsame.setVm s.vm)⟩,
      ⟨g, mk, s₂, L, E, ce, rfl, rfl, hx, hce, hcv, hcl, rfl, hL, rfl, rfl⟩, ?_⟩
    show Steps p.tables e below _ (((({ U with heap := s₂.heap, slotsUsed := s₂.slotsUsed } : State).setVm s₂.vm).setTop g).pushFrame (.throwing q))
    rw [← hs₂]
    exact hsteps
end Payer
section Calls
variable {p : Program} {l : Launch} {e : Env} {R : Room} {s : State} {m : MethodId} {args : Array Value} {below : List Frame} {meth : Method} {c : Code} {T : State} {locs : List Loc} {cells slots : Nat}
theorem vx_callV (X : Stand p l e R s m args below meth c T locs cells slots) (hexec : p.tables.exec = Jvm.exec) {own C : String} {index : Nat} {y : MethodName} {bytes : ByteArray} {maxL : Nat} {ret : Option FieldType}
    (hown : s.vm.findClass own = some m.cls) (hlink : (Cond.methodLink own index y).before args s = true) (hinst : (Cond.instanceMethod y).before args s = true) (hsel : (Cond.selects C y y).before args s = true)
    (hcode : (Cond.code y bytes maxL ret).before args s = true) (hy : y.cls ≠ "java/lang/invoke/MethodHandle" ∧ y.cls ≠ "java/lang/invoke/VarHandle")
    {W9 : Nat} {Pre : Pt → Array Value → Prop} {Post : Pt → Array Value → Option Value → Pt → Prop} {PostX : Pt → Array Value → Addr → Pt → Prop} (hK : vx_Back l R p e below s args y 3 W9 Pre Post PostX)
    {b : Addr} {cellB : Cell} (hcell : T.heap[b]? = some cellB) (hobj : cellB.vm.isStatics = false) (hcls : s.vm.findClass C = some cellB.cls)
    {g : JFrame} (hg : g.method = m) (hsize : g.locals.size = c.maxLocals) {argsL rest : List Value} (hlen : ∀ sig, parseMethodDescriptor y.desc = some sig → argsL.length = sig.parameters.length)
    (hstack : g.stack = argsL.reverse ++ .ref b :: rest) (hW : 2 * g.monitorRoom + (rest.map fun v => v.category).sum ≤ W9) (hdg : decode c.code g.pc = .ok (.invokevirtual index, 3))
    (hpre : ∀ vm₁, s.WarmedH vm₁ → Pre ⟨T.setVm vm₁, locs, cells, slots⟩ (Value.ref b :: argsL).toArray) :
    (∃ (v : Option Value) (vm₁ : Vm) (B : Pt), s.WarmedH vm₁ ∧ Stand p l e R s m args below meth c B.U B.locs B.cells B.slots ∧ Post ⟨T.setVm vm₁, locs, cells, slots⟩ (Value.ref b :: argsL).toArray v B ∧
      ∀ target, Steps p.tables e below (B.U.setTop { g with pc := g.pc + 3, stack := v.toList ++ rest }) target → Steps p.tables e below (T.setTop g) target) ∨
    (∃ (q : Addr) (vm₁ : Vm) (B : Pt), s.WarmedH vm₁ ∧ Stand p l e R s m args below meth c B.U B.locs B.cells B.slots ∧ PostX ⟨T.setVm vm₁, locs, cells, slots⟩ (Value.ref b :: argsL).toArray q B ∧
      Steps p.tables e below (T.setTop g) ((B.U.setTop { g with stack := rest }).pushFrame (.throwing q))) := by
  obtain ⟨mk, methM, hnamed, hmethM, hstM, habM⟩ := Cond.instanceMethod_spec hinst
  obtain ⟨methM', cM, hmethM', -, -, -, -, -, -, hsigM⟩ := Cond.code_spec hnamed hcode
  cases hmethM.symm.trans hmethM'
  obtain ⟨c2, r2, m2, q1, q2, q3, q4, kP, hkP, hkPi⟩ := Cond.selects_spec hsel
  cases hcls.symm.trans q1
  cases (State.methodFound?_of_named hnamed hy).symm.trans q2
  cases hnamed.symm.trans q3
  have hselP : selectMethod e.platform s.vm cellB.cls mk = .method mk := by rw [Launch.admits_selectMethod X.admits]; exact q4
  obtain ⟨vm₁, X₁, hstep₁⟩ := X.invokevirtual hexec hown hlink hnamed hmethM hstM hkP hkPi hy (a := b) (cell := cellB) hcell
    (fun z h => by rw [h] at hobj; cases hobj) hselP hmethM habM hkP hkPi (g := g) hg (argsL := argsL) (rest := rest) (hlen _ hsigM) hstack hdg
  rcases hK m meth c ⟨T.setVm vm₁, locs, cells, slots⟩ { g with stack := rest } (.invokevirtual index) mk (Value.ref b :: argsL).toArray X₁ hg hsize hdg hW (X₁.named hnamed) (hpre vm₁ X₁.warmed) with ⟨v, B, X', hpost, hsteps⟩ | ⟨q, B, X', hpost, hsteps⟩
  · exact Or.inl ⟨v, vm₁, B, X₁.warmed, X', hpost, fun target h => hstep₁ _ fun acts => by rw [doInvoke_state]; exact hsteps.trans h⟩
  · exact Or.inr ⟨q, vm₁, B, X₁.warmed, X', hpost, hstep₁ _ fun acts => by rw [doInvoke_state]; exact hsteps⟩
theorem vx_callS (X : Stand p l e R s m args below meth c T locs cells slots) (hexec : p.tables.exec = Jvm.exec) {own : String} {index : Nat} {y : MethodName} {bytes : ByteArray} {maxL : Nat} {ret : Option FieldType}
    (hown : s.vm.findClass own = some m.cls) (hlink : (Cond.methodLink own index y).before args s = true) (hstat : (Cond.static y).before args s = true) (hinit : (Cond.initialized y.cls).before args s = true)
    (hcode : (Cond.code y bytes maxL ret).before args s = true) (hy : y.cls ≠ "java/lang/invoke/MethodHandle" ∧ y.cls ≠ "java/lang/invoke/VarHandle")
    {W9 : Nat} {Pre : Pt → Array Value → Prop} {Post : Pt → Array Value → Option Value → Pt → Prop} {PostX : Pt → Array Value → Addr → Pt → Prop} (hK : vx_Back l R p e below s args y 3 W9 Pre Post PostX)
    {g : JFrame} (hg : g.method = m) (hsize : g.locals.size = c.maxLocals) {argsL rest : List Value} (hlen : ∀ sig, parseMethodDescriptor y.desc = some sig → argsL.length = sig.parameters.length)
    (hstack : g.stack = argsL.reverse ++ rest) (hW : 2 * g.monitorRoom + (rest.map fun v => v.category).sum ≤ W9) (hdg : decode c.code g.pc = .ok (.invokestatic index, 3))
    (hpre : ∀ vm₁, s.WarmedH vm₁ → Pre ⟨T.setVm vm₁, locs, cells, slots⟩ argsL.toArray) :
    (∃ (v : Option Value) (vm₁ : Vm) (B : Pt), s.WarmedH vm₁ ∧ Stand p l e R s m args below meth c B.U B.locs B.cells B.slots ∧ Post ⟨T.setVm vm₁, locs, cells, slots⟩ argsL.toArray v B ∧
      ∀ target, Steps p.tables e below (B.U.setTop { g with pc := g.pc + 3, stack := v.toList ++ rest }) target → Steps p.tables e below (T.setTop g) target) ∨
    (∃ (q : Addr) (vm₁ : Vm) (B : Pt), s.WarmedH vm₁ ∧ Stand p l e R s m args below meth c B.U B.locs B.cells B.slots ∧ PostX ⟨T.setVm vm₁, locs, cells, slots⟩ argsL.toArray q B ∧
      Steps p.tables e below (T.setTop g) ((B.U.setTop { g with stack := rest }).pushFrame (.throwing q))) := by
  obtain ⟨mk, hnamed⟩ := Cond.code_named hcode
  obtain ⟨methM, cM, hmethM, -, -, -, -, -, -, hsigM⟩ := Cond.code_spec hnamed hcode
  have hstatic : methM.isStatic = true := Cond.static_spec hnamed hmethM hstat
  obtain ⟨kP, hkP, -⟩ := className_of_methodNamed hnamed
  have hinitP : kP.init = .initialized := Cond.initialized_spec (findClass_of_methodNamed hnamed) hkP hinit
  obtain ⟨vm₁, X₁, hstep₁⟩ := X.invokestatic hexec hown hlink hnamed hmethM hstatic hkP hinitP hy (g := g) hg (argsL := argsL) (rest := rest) (hlen _ hsigM) hstack hdg
  rcases hK m meth c ⟨T.setVm vm₁, locs, cells, slots⟩ { g with stack := rest } (.invokestatic index) mk argsL.toArray X₁ hg hsize hdg hW (X₁.named hnamed) (hpre vm₁ X₁.warmed) with ⟨v, B, X', hpost, hsteps⟩ | ⟨q, B, X', hpost, hsteps⟩
  · exact Or.inl ⟨v, vm₁, B, X₁.warmed, X', hpost, fun target h => hstep₁ _ fun acts => by rw [doInvoke_state]; exact hsteps.trans h⟩
  · exact Or.inr ⟨q, vm₁, B, X₁.warmed, X', hpost, hstep₁ _ fun acts => by rw [doInvoke_state]; exact hsteps⟩
end Calls
theorem vx_cls {s : State} {T : State} {vm₁ : Vm} {E : String} {k : ClassId} (hW : s.WarmedH vm₁) (h : (T.setVm vm₁).vm.findClass E = some k) : s.vm.findClass E = some k := by
  have h1 : vm₁.findClass E = some k := h
  rw [hW.alike.findClass] at h1
  exact h1
/-- the method's frame g, with q thrown over it -/
def vx_W (p : Program) (l : Launch) (e : Env) (R : Room) (s : State) (m : MethodId) (args : Array Value) (below : List Frame) (meth : Method) (c : Code) (H : Heap) (locs : List Loc) (cells slots : Nat) (Q : State → Prop) (g : JFrame) (q : Addr) : Prop :=
  ∀ T : State, T.heap = H → Stand p l e R s m args below meth c T locs cells slots → ∃ t, Steps p.tables e below ((T.setTop g).pushFrame (.throwing q)) t ∧ Q t
def vx_Run (p : Program) (l : Launch) (e : Env) (R : Room) (s : State) (m : MethodId) (args : Array Value) (below : List Frame) (meth : Method) (c : Code) (H : Heap) (locs : List Loc) (cells slots mc ms : Nat) (g : JFrame) (rest : List Value) (Qa : State → Outcome → State → Prop) (XC : String → State → State → Prop) (free : Addr → Prop) : Prop :=
  ∀ T : State, T.heap = H → Stand p l e R s m args below meth c T locs cells slots →
    (∃ (v : Option Value) (st₀ t T' : State) (L : List Loc), st₀.heap = H ∧ Stand p l e R s m args below meth c T' (locs ++ L) (cells + mc) (slots + ms) ∧ (∀ q ∈ L, free q.base) ∧ T'.heap = t.heap ∧ T'.vm = t.vm ∧ Qa st₀ (.returned v) t ∧
      Goes p e below T g T' { g with pc := g.pc + 3, stack := v.toList ++ rest }) ∨
    (∃ (q : Addr) (st₀ t T' : State) (L : List Loc) (E : String) (ce : Cell), st₀.heap = H ∧ Stand p l e R s m args below meth c T' (locs ++ L) (cells + mc) (slots + ms) ∧ (∀ z ∈ L, free z.base) ∧ T'.heap = t.heap ∧ T'.vm = t.vm ∧ XC E st₀ t ∧ t.heap[q]? = some ce ∧ ce.vm = .none ∧ s.vm.findClass E = some ce.cls ∧
      Steps p.tables e below (T.setTop g) ((T'.setTop { g with stack := rest }).pushFrame (.throwing q)))
def vx_X {S : Type} (px : S → Prop) (B : String → S → State → Prop) (A : Nat → Prop) : String → State → State → Prop := fun E st t => ∃ u : S, px u ∧ B E u t ∧ va_F A st t
section Runs
variable {p : Program} {l : Launch} {e : Env} {R : Room} {s : State} {m : MethodId} {args : Array Value} {below : List Frame} {meth : Method} {c : Code} {H : Heap} {locs : List Loc} {cells slots : Nat}
variable {y : MethodName} {bytes cc : ByteArray} {maxL nL mc ms n index : Nat} {ret : Option FieldType} {ws : List Cond} {rm : Room} {Pc : Array Value → State → Prop} {Qc : Array Value → State → Outcome → State → Prop} {XC : String → State → State → Prop} {free : Addr → Prop} {Ts : List Cond} {own C : String} {b : Addr} {As rest : List Value} {g : JFrame}
theorem vx_callBack (cb : CallB R s args own index y bytes maxL ret ws rm mc ms n) (hM : vx_Met l y ws rm Pc Qc XC mc ms free) (hbl : FrameBlind Pc) : vx_Back l R p e below s args y 3 8 (PreOf R mc ms Pc) (PostOf Qc mc ms free) (vx_Post XC mc ms free) := by
  obtain ⟨hrc, hrs, hfr, hlo, hws, hcw, -, hini, -⟩ := cb
  exact vx_back (bytes := bytes) (maxL := maxL) (ret := ret) hM hbl hrc hrs hfr hlo hws hcw (fun a' U hW => word_at hW (Or.inl (by first | rfl | simp [Cond.onTables, Cond.keeps, Cond.steady])) hini)
theorem vx_runV (S : CallFix p m c cc nL s args Ts own) (hM : vx_Met l y ws rm Pc Qc XC mc ms free) (cw : CallW R s args own C index y bytes maxL ret ws rm mc ms n) (hp : PreV s H C b Pc As)
    (hg : g.method = m) (hn : As.length = n) (hsize : g.locals.size = nL) (hstack : g.stack = As.reverse ++ .ref b :: rest) (hW : 2 * g.monitorRoom + (rest.map fun v => v.category).sum ≤ 8) (hdg : decode cc g.pc = .ok (.invokevirtual index, 3)) (hf : cells + mc ≤ R.cells ∧ slots + ms ≤ R.slots) :
    vx_Run p l e R s m args below meth c H locs cells slots mc ms g rest (Qc (Value.ref b :: As).toArray) XC free := by
  have hK : vx_Back l R p e below s args y 3 8 (PreOf R mc ms Pc) (PostOf Qc mc ms free) (vx_Post XC mc ms free) := vx_callBack cw.1 hM hp.1
  obtain ⟨⟨-, -, -, -, -, -, hcode, -, hy, hlen, hl⟩, hin, hse⟩ := cw
  obtain ⟨hx, hb, hml, ho, -⟩ := S
  obtain ⟨-, ⟨cellB, hcB, hoB, hclB⟩, hPc⟩ := hp
  intro T hT X
  rcases vx_callV X hx (C := C) (bytes := bytes) (maxL := maxL) (ret := ret) ho hl hin hse hcode hy hK (by rw [hT]; exact hcB) hoB hclB hg (hsize.trans hml.symm) (argsL := As) (rest := rest) (fun sig h => hn.trans (hlen sig h)) hstack hW (by rw [hb]; exact hdg)
    (fun vm₁ hW₁ => ⟨hf.1, hf.2, hPc (T.setVm vm₁) hT hW₁⟩) with ⟨v, vm₁, ⟨U', l2, c2, s2⟩, hW₁, X', ⟨g', mk, t, L, e1, e2, hq, h1, hL, h2, h3⟩, st⟩ | ⟨q, vm₁, ⟨U', l2, c2, s2⟩, hW₁, X', ⟨g', mk, t, L, E, ce, e1, e2, hq, hce, hcv, hcl, h1, hL, h2, h3⟩, st⟩
  · dsimp only [Pt.U, Pt.locs, Pt.cells, Pt.slots] at X' e1 e2 h1 h2 h3 st
    subst h1; subst h2; subst h3
    exact Or.inl ⟨v, (T.setVm vm₁).calling g' mk (Value.ref b :: As).toArray, t, U', L, hT, X', hL, e1, e2, hq, st⟩
  · dsimp only [Pt.U, Pt.locs, Pt.cells, Pt.slots] at X' e1 e2 h1 h2 h3 st hcl
    subst h1; subst h2; subst h3
    exact Or.inr ⟨q, (T.setVm vm₁).calling g' mk (Value.ref b :: As).toArray, t, U', L, E, ce, hT, X', hL, e1, e2, hq, hce, hcv, vx_cls hW₁ hcl, st⟩
theorem vx_runS (S : CallFix p m c cc nL s args Ts own) (hM : vx_Met l y ws rm Pc Qc XC mc ms free) (cw : CallB R s args own index y bytes maxL ret ws rm mc ms n ∧ (Cond.static y).before args s = true) (hp : PreS s H Pc As)
    (hg : g.method = m) (hn : As.length = n) (hsize : g.locals.size = nL) (hstack : g.stack = As.reverse ++ rest) (hW : 2 * g.monitorRoom + (rest.map fun v => v.category).sum ≤ 8) (hdg : decode cc g.pc = .ok (.invokestatic index, 3)) (hf : cells + mc ≤ R.cells ∧ slots + ms ≤ R.slots) :
    vx_Run p l e R s m args below meth c H locs cells slots mc ms g rest (Qc As.toArray) XC free := by
  have hK : vx_Back l R p e below s args y 3 8 (PreOf R mc ms Pc) (PostOf Qc mc ms free) (vx_Post XC mc ms free) := vx_callBack cw.1 hM hp.1
  obtain ⟨⟨-, -, -, -, -, -, hcode, hini, hy, hlen, hl⟩, hstt⟩ := cw
  obtain ⟨hx, hb, hml, ho, -⟩ := S
  intro T hT X
  rcases vx_callS X hx (bytes := bytes) (maxL := maxL) (ret := ret) ho hl hstt hini hcode hy hK hg (hsize.trans hml.symm) (argsL := As) (rest := rest) (fun sig h => hn.trans (hlen sig h)) hstack hW (by rw [hb]; exact hdg)
    (fun vm₁ hW₁ => ⟨hf.1, hf.2, hp.2 (T.setVm vm₁) hT hW₁⟩) with ⟨v, vm₁, ⟨U', l2, c2, s2⟩, hW₁, X', ⟨g', mk, t, L, e1, e2, hq, h1, hL, h2, h3⟩, st⟩ | ⟨q, vm₁, ⟨U', l2, c2, s2⟩, hW₁, X', ⟨g', mk, t, L, E, ce, e1, e2, hq, hce, hcv, hcl, h1, hL, h2, h3⟩, st⟩
  · dsimp only [Pt.U, Pt.locs, Pt.cells, Pt.slots] at X' e1 e2 h1 h2 h3 st
    subst h1; subst h2; subst h3
    exact Or.inl ⟨v, (T.setVm vm₁).calling g' mk As.toArray, t, U', L, hT, X', hL, e1, e2, hq, st⟩
  · dsimp only [Pt.U, Pt.locs, Pt.cells, Pt.slots] at X' e1 e2 h1 h2 h3 st hcl
    subst h1; subst h2; subst h3
    exact Or.inr ⟨q, (T.setVm vm₁).calling g' mk As.toArray, t, U', L, E, ce, hT, X', hL, e1, e2, hq, hce, hcv, vx_cls hW₁ hcl, st⟩
end Runs
section Rows
variable {p : Program} {l : Launch} {e : Env} {R : Room} {s : State} {m : MethodId} {args : Array Value} {below : List Frame} {meth : Method} {c : Code} {H : Heap} {locs : List Loc} {cells slots : Nat} {Q : State → Prop}
variable {mc ms : Nat} {free : Addr → Prop} {A0 A1 : Nat → Prop} {H0 : Heap} {a : Array Value} {pc : Nat} {ls : Array Slot} {st0 rest : List Value}
theorem vx_keep {st₀ t T' : State} {L : List Loc} (h0 : st₀.heap = H) (e1 : T'.heap = t.heap) (hS : va_S A0 H0 H locs) (hA : ∀ q, q < H.size → A1 q → A0 q) (hf : ∀ q, free q → A0 q) (hL : ∀ q ∈ L, free q.base) (hF : va_F A1 st₀ t) :
    H.size ≤ T'.heap.size ∧ (∀ q : Nat, q < H.size → ¬ A1 q → T'.heap[q]? = H[q]?) ∧ va_S A0 H0 T'.heap (locs ++ L) := by
  obtain ⟨hz, hk⟩ := hF
  rw [h0] at hz hk
  exact ⟨by rw [e1]; exact hz, fun q h1 h2 => by rw [e1]; exact hk q h1 h2,
    ⟨Nat.le_trans hS.1 (by rw [e1]; exact hz), fun q h1 h2 => by rw [e1, hk q (Nat.lt_of_lt_of_le h1 hS.1) (fun z => h2 (hA q (Nat.lt_of_lt_of_le h1 hS.1) z))]; exact hS.2.1 q h1 h2, fun q hq => by
      rcases List.mem_append.mp hq with h | h
      · exact hS.2.2 q h
      · exact hf _ (hL q h)⟩⟩
theorem vx_calli {S SX : Type} {post : Int32 → S → Prop} {px : SX → Prop} {B : S → State → Prop} {BX : String → SX → State → Prop} {AX : Nat → Prop} (hr : vx_Run p l e R s m args below meth c H locs cells slots mc ms (F0 m pc ls st0) rest (va_Qi post B A1 a) (vx_X px BX AX) free) (hS : va_S A0 H0 H locs) (hA : ∀ q, q < H.size → A1 q → A0 q) (hf : ∀ q, free q → A0 q) (hAX : ∀ q, q < H.size → AX q → A0 q)
    (kx : ∀ (E : String) (ce : Cell) (q9 : Addr) (u : SX) (t : State) (H1 : Heap) (locs1 : List Loc), t.heap = H1 → s.vm.Alike t.vm → px u → BX E u t → H.size ≤ H1.size → (∀ q : Nat, q < H.size → ¬ AX q → H1[q]? = H[q]?) → va_S A0 H0 H1 locs1 → H1[q9]? = some ce → ce.vm = .none → s.vm.findClass E = some ce.cls → vx_W p l e R s m args below meth c H1 locs1 (cells + mc) (slots + ms) Q (F0 m pc ls rest) q9)
    (kk : ∀ (r : Int32) (u : S) (t : State) (H1 : Heap) (locs1 : List Loc), t.heap = H1 → s.vm.Alike t.vm → post r u → B u t → H.size ≤ H1.size → (∀ q : Nat, q < H.size → ¬ A1 q → H1[q]? = H[q]?) → va_S A0 H0 H1 locs1 → W p l e R s m args below meth c H1 locs1 (cells + mc) (slots + ms) Q (F0 m (pc + 3) ls (.int r :: rest))) : W p l e R s m args below meth c H locs cells slots Q (F0 m pc ls st0) := by
  intro T hT X
  rcases hr T hT X with ⟨v, st₀, t, T', L, h0, X', hL, e1, e2, ⟨⟨r, u, hv, hp, hb⟩, hF⟩, st⟩ | ⟨q, st₀, t, T', L, E, ce, h0, X', hL, e1, e2, ⟨u, hp, hb, hF⟩, hce, hcv, hcl, st⟩
  · cases hv
    obtain ⟨k1, k2, k3⟩ := vx_keep h0 e1 hS hA hf hL hF
    obtain ⟨t2, a1, b1⟩ := kk r u t T'.heap (locs ++ L) e1.symm (by rw [← e2]; exact X'.warmed.alike) hp hb k1 k2 k3 T' rfl X'
    exact ⟨t2, st t2 a1, b1⟩
  · obtain ⟨k1, k2, k3⟩ := vx_keep h0 e1 hS hAX hf hL hF
    obtain ⟨t2, a1, b1⟩ := kx E ce q u t T'.heap (locs ++ L) e1.symm (by rw [← e2]; exact X'.warmed.alike) hp hb k1 k2 k3 (by rw [e1]; exact hce) hcv hcl T' rfl X'
    exact ⟨t2, st.trans a1, b1⟩
theorem vx_calll {S SX : Type} {post : Int64 → S → Prop} {px : SX → Prop} {B : S → State → Prop} {BX : String → SX → State → Prop} {AX : Nat → Prop} (hr : vx_Run p l e R s m args below meth c H locs cells slots mc ms (F0 m pc ls st0) rest (va_Ql post B A1 a) (vx_X px BX AX) free) (hS : va_S A0 H0 H locs) (hA : ∀ q, q < H.size → A1 q → A0 q) (hf : ∀ q, free q → A0 q) (hAX : ∀ q, q < H.size → AX q → A0 q)
    (kx : ∀ (E : String) (ce : Cell) (q9 : Addr) (u : SX) (t : State) (H1 : Heap) (locs1 : List Loc), t.heap = H1 → s.vm.Alike t.vm → px u → BX E u t → H.size ≤ H1.size → (∀ q : Nat, q < H.size → ¬ AX q → H1[q]? = H[q]?) → va_S A0 H0 H1 locs1 → H1[q9]? = some ce → ce.vm = .none → s.vm.findClass E = some ce.cls → vx_W p l e R s m args below meth c H1 locs1 (cells + mc) (slots + ms) Q (F0 m pc ls rest) q9)
    (kk : ∀ (r : Int64) (u : S) (t : State) (H1 : Heap) (locs1 : List Loc), t.heap = H1 → s.vm.Alike t.vm → post r u → B u t → H.size ≤ H1.size → (∀ q : Nat, q < H.size → ¬ A1 q → H1[q]? = H[q]?) → va_S A0 H0 H1 locs1 → W p l e R s m args below meth c H1 locs1 (cells + mc) (slots + ms) Q (F0 m (pc + 3) ls (.long r :: rest))) : W p l e R s m args below meth c H locs cells slots Q (F0 m pc ls st0) := by
  intro T hT X
  rcases hr T hT X with ⟨v, st₀, t, T', L, h0, X', hL, e1, e2, ⟨⟨r, u, hv, hp, hb⟩, hF⟩, st⟩ | ⟨q, st₀, t, T', L, E, ce, h0, X', hL, e1, e2, ⟨u, hp, hb, hF⟩, hce, hcv, hcl, st⟩
  · cases hv
    obtain ⟨k1, k2, k3⟩ := vx_keep h0 e1 hS hA hf hL hF
    obtain ⟨t2, a1, b1⟩ := kk r u t T'.heap (locs ++ L) e1.symm (by rw [← e2]; exact X'.warmed.alike) hp hb k1 k2 k3 T' rfl X'
    exact ⟨t2, st t2 a1, b1⟩
  · obtain ⟨k1, k2, k3⟩ := vx_keep h0 e1 hS hAX hf hL hF
    obtain ⟨t2, a1, b1⟩ := kx E ce q u t T'.heap (locs ++ L) e1.symm (by rw [← e2]; exact X'.warmed.alike) hp hb k1 k2 k3 (by rw [e1]; exact hce) hcv hcl T' rfl X'
    exact ⟨t2, st.trans a1, b1⟩
theorem vx_callf {S SX : Type} {post : UInt32 → S → Prop} {px : SX → Prop} {B : S → State → Prop} {BX : String → SX → State → Prop} {AX : Nat → Prop} (hr : vx_Run p l e R s m args below meth c H locs cells slots mc ms (F0 m pc ls st0) rest (va_Qf post B A1 a) (vx_X px BX AX) free) (hS : va_S A0 H0 H locs) (hA : ∀ q, q < H.size → A1 q → A0 q) (hf : ∀ q, free q → A0 q) (hAX : ∀ q, q < H.size → AX q → A0 q)
    (kx : ∀ (E : String) (ce : Cell) (q9 : Addr) (u : SX) (t : State) (H1 : Heap) (locs1 : List Loc), t.heap = H1 → s.vm.Alike t.vm → px u → BX E u t → H.size ≤ H1.size → (∀ q : Nat, q < H.size → ¬ AX q → H1[q]? = H[q]?) → va_S A0 H0 H1 locs1 → H1[q9]? = some ce → ce.vm = .none → s.vm.findClass E = some ce.cls → vx_W p l e R s m args below meth c H1 locs1 (cells + mc) (slots + ms) Q (F0 m pc ls rest) q9)
    (kk : ∀ (r : UInt32) (u : S) (t : State) (H1 : Heap) (locs1 : List Loc), t.heap = H1 → s.vm.Alike t.vm → post r u → B u t → H.size ≤ H1.size → (∀ q : Nat, q < H.size → ¬ A1 q → H1[q]? = H[q]?) → va_S A0 H0 H1 locs1 → W p l e R s m args below meth c H1 locs1 (cells + mc) (slots + ms) Q (F0 m (pc + 3) ls (.float r :: rest))) : W p l e R s m args below meth c H locs cells slots Q (F0 m pc ls st0) := by
  intro T hT X
  rcases hr T hT X with ⟨v, st₀, t, T', L, h0, X', hL, e1, e2, ⟨⟨r, u, hv, hp, hb⟩, hF⟩, st⟩ | ⟨q, st₀, t, T', L, E, ce, h0, X', hL, e1, e2, ⟨u, hp, hb, hF⟩, hce, hcv, hcl, st⟩
  · cases hv
    obtain ⟨k1, k2, k3⟩ := vx_keep h0 e1 hS hA hf hL hF
    obtain ⟨t2, a1, b1⟩ := kk r u t T'.heap (locs ++ L) e1.symm (by rw [← e2]; exact X'.warmed.alike) hp hb k1 k2 k3 T' rfl X'
    exact ⟨t2, st t2 a1, b1⟩
  · obtain ⟨k1, k2, k3⟩ := vx_keep h0 e1 hS hAX hf hL hF
    obtain ⟨t2, a1, b1⟩ := kx E ce q u t T'.heap (locs ++ L) e1.symm (by rw [← e2]; exact X'.warmed.alike) hp hb k1 k2 k3 (by rw [e1]; exact hce) hcv hcl T' rfl X'
    exact ⟨t2, st.trans a1, b1⟩
theorem vx_calld {S SX : Type} {post : UInt64 → S → Prop} {px : SX → Prop} {B : S → State → Prop} {BX : String → SX → State → Prop} {AX : Nat → Prop} (hr : vx_Run p l e R s m args below meth c H locs cells slots mc ms (F0 m pc ls st0) rest (va_Qd post B A1 a) (vx_X px BX AX) free) (hS : va_S A0 H0 H locs) (hA : ∀ q, q < H.size → A1 q → A0 q) (hf : ∀ q, free q → A0 q) (hAX : ∀ q, q < H.size → AX q → A0 q)
    (kx : ∀ (E : String) (ce : Cell) (q9 : Addr) (u : SX) (t : State) (H1 : Heap) (locs1 : List Loc), t.heap = H1 → s.vm.Alike t.vm → px u → BX E u t → H.size ≤ H1.size → (∀ q : Nat, q < H.size → ¬ AX q → H1[q]? = H[q]?) → va_S A0 H0 H1 locs1 → H1[q9]? = some ce → ce.vm = .none → s.vm.findClass E = some ce.cls → vx_W p l e R s m args below meth c H1 locs1 (cells + mc) (slots + ms) Q (F0 m pc ls rest) q9)
    (kk : ∀ (r : UInt64) (u : S) (t : State) (H1 : Heap) (locs1 : List Loc), t.heap = H1 → s.vm.Alike t.vm → post r u → B u t → H.size ≤ H1.size → (∀ q : Nat, q < H.size → ¬ A1 q → H1[q]? = H[q]?) → va_S A0 H0 H1 locs1 → W p l e R s m args below meth c H1 locs1 (cells + mc) (slots + ms) Q (F0 m (pc + 3) ls (.double r :: rest))) : W p l e R s m args below meth c H locs cells slots Q (F0 m pc ls st0) := by
  intro T hT X
  rcases hr T hT X with ⟨v, st₀, t, T', L, h0, X', hL, e1, e2, ⟨⟨r, u, hv, hp, hb⟩, hF⟩, st⟩ | ⟨q, st₀, t, T', L, E, ce, h0, X', hL, e1, e2, ⟨u, hp, hb, hF⟩, hce, hcv, hcl, st⟩
  · cases hv
    obtain ⟨k1, k2, k3⟩ := vx_keep h0 e1 hS hA hf hL hF
    obtain ⟨t2, a1, b1⟩ := kk r u t T'.heap (locs ++ L) e1.symm (by rw [← e2]; exact X'.warmed.alike) hp hb k1 k2 k3 T' rfl X'
    exact ⟨t2, st t2 a1, b1⟩
  · obtain ⟨k1, k2, k3⟩ := vx_keep h0 e1 hS hAX hf hL hF
    obtain ⟨t2, a1, b1⟩ := kx E ce q u t T'.heap (locs ++ L) e1.symm (by rw [← e2]; exact X'.warmed.alike) hp hb k1 k2 k3 (by rw [e1]; exact hce) hcv hcl T' rfl X'
    exact ⟨t2, st.trans a1, b1⟩
theorem vx_callv {S SX : Type} {post : S → Prop} {px : SX → Prop} {B : S → State → Prop} {BX : String → SX → State → Prop} {AX : Nat → Prop} (hr : vx_Run p l e R s m args below meth c H locs cells slots mc ms (F0 m pc ls st0) rest (va_Qv post B A1 a) (vx_X px BX AX) free) (hS : va_S A0 H0 H locs) (hA : ∀ q, q < H.size → A1 q → A0 q) (hf : ∀ q, free q → A0 q) (hAX : ∀ q, q < H.size → AX q → A0 q)
    (kx : ∀ (E : String) (ce : Cell) (q9 : Addr) (u : SX) (t : State) (H1 : Heap) (locs1 : List Loc), t.heap = H1 → s.vm.Alike t.vm → px u → BX E u t → H.size ≤ H1.size → (∀ q : Nat, q < H.size → ¬ AX q → H1[q]? = H[q]?) → va_S A0 H0 H1 locs1 → H1[q9]? = some ce → ce.vm = .none → s.vm.findClass E = some ce.cls → vx_W p l e R s m args below meth c H1 locs1 (cells + mc) (slots + ms) Q (F0 m pc ls rest) q9)
    (kk : ∀ (u : S) (t : State) (H1 : Heap) (locs1 : List Loc), t.heap = H1 → s.vm.Alike t.vm → post u → B u t → H.size ≤ H1.size → (∀ q : Nat, q < H.size → ¬ A1 q → H1[q]? = H[q]?) → va_S A0 H0 H1 locs1 → W p l e R s m args below meth c H1 locs1 (cells + mc) (slots + ms) Q (F0 m (pc + 3) ls (rest))) : W p l e R s m args below meth c H locs cells slots Q (F0 m pc ls st0) := by
  intro T hT X
  rcases hr T hT X with ⟨v, st₀, t, T', L, h0, X', hL, e1, e2, ⟨⟨u, hv, hp, hb⟩, hF⟩, st⟩ | ⟨q, st₀, t, T', L, E, ce, h0, X', hL, e1, e2, ⟨u, hp, hb, hF⟩, hce, hcv, hcl, st⟩
  · cases hv
    obtain ⟨k1, k2, k3⟩ := vx_keep h0 e1 hS hA hf hL hF
    obtain ⟨t2, a1, b1⟩ := kk u t T'.heap (locs ++ L) e1.symm (by rw [← e2]; exact X'.warmed.alike) hp hb k1 k2 k3 T' rfl X'
    exact ⟨t2, st t2 a1, b1⟩
  · obtain ⟨k1, k2, k3⟩ := vx_keep h0 e1 hS hAX hf hL hF
    obtain ⟨t2, a1, b1⟩ := kx E ce q u t T'.heap (locs ++ L) e1.symm (by rw [← e2]; exact X'.warmed.alike) hp hb k1 k2 k3 (by rw [e1]; exact hce) hcv hcl T' rfl X'
    exact ⟨t2, st.trans a1, b1⟩
/-- caught by the row x of this method's table; the rows ahead don't take it -/
theorem vx_catch {own name : String} {E : String} {ce : Cell} {q : Addr} (hown : s.vm.findClass own = some m.cls) (pre : List ExceptionTableEntry) (x : ExceptionTableEntry) (suf : List ExceptionTableEntry) (hsplit : c.exceptionTable.toList = pre ++ x :: suf)
    (hpass : ∀ z ∈ pre, covers z pc = false ∨ (z.catchType ≠ 0 ∧ ∃ nm : String, (Cond.classLink own z.catchType nm).before args s = true ∧ va_Nc E nm s)) (hx : covers x pc = true) (h0 : x.catchType ≠ 0)
    (hlink : (Cond.classLink own x.catchType name).before args s = true) (hcast : (Cond.castable E name).before args s = true) (hcell : H[q]? = some ce) (hv : ce.vm = .none) (hcl : s.vm.findClass E = some ce.cls)
    (kk : W p l e R s m args below meth c H locs cells slots Q (F0 m x.handlerPc ls [.ref q])) : vx_W p l e R s m args below meth c H locs cells slots Q (F0 m pc ls rest) q := by
  intro T hT X
  have hpl : e.platform.magicAccessors = ({} : Platform).magicAccessors := by rw [X.admits.platform]
  obtain ⟨c3, c4, hc3, hc4, hasg⟩ := Cond.castable_spec hcast
  cases Option.some.inj (hc3.symm.trans hcl)
  obtain ⟨c5, hc5, hcl5⟩ := Cond.classLink_spec hown hlink e.platform hpl
  cases Option.some.inj (hc4.symm.trans hc5)
  obtain ⟨vm', X', st⟩ := X.thenCaughtThrough q (g := F0 m pc ls rest) rfl (Steps.refl _) (by rw [hT]; exact hcell) (by rw [hv]; rfl) (by obtain ⟨k9, h9, -⟩ := Vm.findClass_spec hcl; exact ⟨k9, h9⟩) pre x suf hsplit
    (fun z hz => by
      rcases hpass z hz with h | ⟨hz0, nm, hl1, hn1⟩
      · exact Or.inl h
      · obtain ⟨c6, hc6, hcl6⟩ := Cond.classLink_spec hown hl1 e.platform hpl
        obtain ⟨a8, b8, h1, h2, h3⟩ := hn1
        cases Option.some.inj (h1.symm.trans hcl)
        cases Option.some.inj (h2.symm.trans hc6)
        exact Or.inr ⟨hz0, _, hcl6, h3⟩) hx (Or.inr ⟨h0, c4, hcl5, hasg⟩)
  obtain ⟨t, a1, b1⟩ := kk (T.setVm vm') hT X'
  exact ⟨t, st.trans a1, b1⟩
end Rows
section Ends
variable {p : Program} {l : Launch} {e : Env} {R : Room} {s : State} {m : MethodId} {args : Array Value} {below : List Frame} {meth : Method} {c : Code} {H : Heap} {locs : List Loc} {cells slots : Nat} {Q : State → Prop}
variable {mc ms : Nat} {free : Addr → Prop} {A0 A1 : Nat → Prop} {H0 : Heap} {a : Array Value} {ls : Array Slot} {st0 rest : List Value}
variable {Qc : Array Value → State → Outcome → State → Prop} {XC : String → State → State → Prop}
/-- what a body that may throw owes at its end -/
def vx_MQ (below : List Frame) (Qc : Array Value → State → Outcome → State → Prop) (XC : String → State → State → Prop) (a : Array Value) (s : State) (mc ms : Nat) (free : Addr → Prop) : State → Prop := fun t =>
  ∃ o, t.status = .running ∧ Ended t below o ∧ vx_Q Qc XC mc ms free a s o t
theorem vx_ret {g : JFrame} {mc ms : Nat} (k : W p l e R s m args below meth c H locs cells slots (MQ below Qc args s mc ms free) g) : W p l e R s m args below meth c H locs cells slots (vx_MQ below Qc XC args s mc ms free) g := by
  intro T hT X
  obtain ⟨t, a1, o, b1, b2, b3, b4⟩ := k T hT X
  exact ⟨t, a1, o, b1, b2, Or.inl ⟨b3, b4⟩⟩
/-- not caught here: it goes on to the caller -/
theorem vx_widen {g : JFrame} {q : Addr} {k n : Nat} (h1 : cells ≤ k) (h2 : slots ≤ n) (kk : vx_W p l e R s m args below meth c H locs k n Q g q) : vx_W p l e R s m args below meth c H locs cells slots Q g q := fun T hT X => kk T hT (stand_widen X h1 h2)
theorem vx_out {pc : Nat} {E : String} {ce : Cell} {q : Addr} {mc ms : Nat} (hout : ∀ x ∈ c.exceptionTable.toList, covers x pc = false) (hlocks : meth.locks = false) (hcell : H[q]? = some ce) (hv : ce.vm = .none) (hcl : s.vm.findClass E = some ce.cls)
    (hx : ∀ t : State, t.heap = H → s.vm.Alike t.vm → XC E s t) (hf : ∀ z ∈ locs, free z.base) (hc : cells ≤ mc) (hs : slots ≤ ms) :
    vx_W p l e R s m args below meth c H locs cells slots (vx_MQ below Qc XC args s mc ms free) (F0 m pc ls rest) q := by
  intro T hT X
  obtain ⟨st1, hrun, hend, hW, hsm⟩ := X.leaveThrown q (g := F0 m pc ls rest) rfl rfl rfl hout hlocks
  have hcell9 : (T.setFrames (.throwing q :: below)).heap[q]? = some ce := by
    show T.heap[q]? = some ce
    rw [hT]; exact hcell
  exact ⟨_, st1, .threw q, hrun, hend, Or.inr ⟨q, rfl, E, ce, locs, hx _ hT hW.alike, hcell9, hv, hcl, hW, hsm.mono hc hs, hf⟩⟩
theorem vx_frame {U : State} {k n : Nat} (h : s.sameButNew ({ U with vm := s.vm } : State) locs k n) : s.heap.size ≤ U.heap.size ∧ ∀ q : Nat, q < s.heap.size → (∀ z ∈ locs, z.base ≠ q) → U.heap[q]? = s.heap[q]? := by
  obtain ⟨-, h2, -, -, -, h6⟩ := h
  refine ⟨h2, fun q hq hz => ?_⟩
  obtain ⟨c9, e1, e2, e3, e4⟩ := h6 q _ (Array.getElem?_eq_getElem hq)
  have hs : c9.slots = (s.heap[q]).slots := Array.ext_getElem? fun i => e4 i fun hm => hz _ hm rfl
  have h9 : c9 = s.heap[q] := by
    rw [hs] at e2
    exact e2
  have e5 : U.heap[q]? = some c9 := e1
  rw [e5, h9, Array.getElem?_eq_getElem hq]
/-- the words of a throw but the four that speak of the heap -/
def vx_no (w : Cond) : Bool := decide (w ≠ .isRef (.static Bundle.tN "UNASSIGNED_STACK" Bundle.steD)) && decide (w ≠ .isRef (.static Bundle.tN "SUPPRESSED_SENTINEL" Bundle.listD)) && decide (w ≠ .laysStatic Bundle.tN "UNASSIGNED_STACK" Bundle.steD) && decide (w ≠ .laysStatic Bundle.tN "SUPPRESSED_SENTINEL" Bundle.listD)
def vx_at0 (own : String) (ic : Nat) (X : String) (names : List String) : List Cond := (Bundle.ownAtoms0 own ic X names).filter vx_no
def vx_atS (own : String) (ic : Nat) (X : String) (names : List String) : List Cond := (Bundle.ownAtoms own ic X names).filter vx_no
/-- a word that the tables alone decide, or a good one -/
def vx_ot (w : Cond) : Bool := w.onTables || goodWord w
theorem vx_ot_at {args a' : Array Value} {s U : State} {w : Cond} (hW : s.WarmedH U.vm) (hvm : s.vm = U.vm) (hg : vx_ot w = true) (h : w.before args s = true) : w.before a' U = true := by
  simp only [vx_ot, Bool.or_eq_true] at hg
  rcases hg with hg | hg
  · exact va_tabs hg hvm h
  · exact word_at hW (good_of_word hg) h
/-- a list's words: the good ones out of the method's own list, the others by premises of their own -/
theorem vx_hat {args : Array Value} {s : State} {L B : List Cond} (h1 : ∀ w ∈ L.filter goodWord, w.before args s = true) (h2 : ∀ w ∈ L.filter (fun w => !goodWord w), w ∈ B) (h3 : ∀ w ∈ B, w.before args s = true) : ∀ w ∈ L, w.before args s = true := by
  intro w hw
  by_cases g : goodWord w = true
  · exact h1 w (List.mem_filter.mpr ⟨hw, g⟩)
  · refine h3 w (h2 w (List.mem_filter.mpr ⟨hw, ?_⟩))
    show (!goodWord w) = true
    cases hgw : goodWord w
    · rfl
    · exact absurd hgw g
theorem vx_c {args : Array Value} {s : State} {w : Cond} {B : List Cond} (h : w.before args s = true) (t : ∀ w ∈ B, w.before args s = true) : ∀ w' ∈ w :: B, w'.before args s = true := fun w' h' => (List.mem_cons.mp h').elim (fun e => by rw [e]; exact h) (t w')
theorem vx_n {args : Array Value} {s : State} : ∀ w ∈ ([] : List Cond), w.before args s = true := fun _ h => nomatch h
theorem vx_own {args : Array Value} {s : State} {L : List Cond} (h1 : ∀ w ∈ L.filter vx_no, w.before args s = true)
    (hU : (Cond.isRef (.static Bundle.tN "UNASSIGNED_STACK" Bundle.steD)).before args s = true) (hN : (Cond.isRef (.static Bundle.tN "SUPPRESSED_SENTINEL" Bundle.listD)).before args s = true)
    (lU : (Cond.laysStatic Bundle.tN "UNASSIGNED_STACK" Bundle.steD).before args s = true) (lN : (Cond.laysStatic Bundle.tN "SUPPRESSED_SENTINEL" Bundle.listD).before args s = true) : ∀ w ∈ L, w.before args s = true := by
  intro w hw
  by_cases e1 : w = .isRef (.static Bundle.tN "UNASSIGNED_STACK" Bundle.steD)
  · rw [e1]; exact hU
  · by_cases e2 : w = .isRef (.static Bundle.tN "SUPPRESSED_SENTINEL" Bundle.listD)
    · rw [e2]; exact hN
    · by_cases e3 : w = .laysStatic Bundle.tN "UNASSIGNED_STACK" Bundle.steD
      · rw [e3]; exact lU
      · by_cases e4 : w = .laysStatic Bundle.tN "SUPPRESSED_SENTINEL" Bundle.listD
        · rw [e4]; exact lN
        · exact h1 w (List.mem_filter.mpr ⟨hw, by unfold vx_no; rw [decide_eq_true e1, decide_eq_true e2, decide_eq_true e3, decide_eq_true e4]; rfl⟩)
/-- where a static field lies, its class's statics cell in H -/
def vx_L (C n d : String) (A : Nat → Prop) (U : State) (H : Heap) : Prop := ∃ (c : ClassId) (k : Class) (i : Nat) (f : Field) (a : Nat) (cell : Cell), U.vm.findClass C = some c ∧ U.fieldFound? C n d = some (c, k, i, f) ∧ f.isStatic = true ∧ k.statics = some a ∧ H[a]? = some cell ∧ cell.vm.isStatics = true ∧ cell.cls = c ∧ f.slot < cell.slots.size ∧ k.staticTypes[f.slot]? = some f.type ∧ ¬ A a
theorem vx_L.moved {C n d : String} {A : Nat → Prop} {u U : State} {H : Heap} (hvm : u.vm.Alike U.vm) (h : vx_L C n d A u H) : vx_L C n d A U H := by
  obtain ⟨c, k, i, f, a, cell, h1, h2, h3, h4, h5, h6, h7, h8, h9, h10⟩ := h
  obtain ⟨k', hi', he⟩ := State.fieldFound?_setVm hvm h2
  exact ⟨c, k', i, f, a, cell, by rw [hvm.findClass]; exact h1, hi', h3, by rw [he]; exact h4, h5, h6, h7, h8, by rw [he]; exact h9, h10⟩
theorem vx_L.kept {C n d : String} {A : Nat → Prop} {U : State} {H H1 : Heap} (h : vx_L C n d A U H) (hq : ∀ a : Nat, a < H.size → ¬ A a → H1[a]? = H[a]?) : vx_L C n d A U H1 := by
  obtain ⟨c, k, i, f, a, cell, h1, h2, h3, h4, h5, h6, h7, h8, h9, h10⟩ := h
  exact ⟨c, k, i, f, a, cell, h1, h2, h3, h4, by rw [hq a (Array.getElem?_eq_some_iff.mp h5).1 h10]; exact h5, h6, h7, h8, h9, h10⟩
theorem vx_L.narrow {C n d : String} {A B : Nat → Prop} {U : State} {H : Heap} (h : vx_L C n d A U H) (hAB : ∀ q, B q → A q) : vx_L C n d B U H := by
  obtain ⟨c, k, i, f, a, cell, h1, h2, h3, h4, h5, h6, h7, h8, h9, h10⟩ := h
  exact ⟨c, k, i, f, a, cell, h1, h2, h3, h4, h5, h6, h7, h8, h9, fun z => h10 (hAB _ z)⟩
theorem vx_L.word {C n d : String} {A : Nat → Prop} {s : State} {args : Array Value} (h : vx_L C n d A s s.heap) : (Cond.laysStatic C n d).before args s = true := by
  obtain ⟨c, k, i, f, a, cell, h1, h2, h3, h4, h5, h6, h7, h8, h9, -⟩ := h
  show (Cond.laysStatic C n d).holds args s none s [] = true
  exact Cond.laysStatic_of h1 h2 h3 h4 h5 h6 h7 h8 h9
/-- .. and what it holds: null or some reference -/
def vx_Zq (C n d : String) (A : Nat → Prop) (U : State) (H : Heap) : Prop := va_Zq C n d A U H ∧ vx_L C n d A U H
theorem vx_Zq.moved {C n d : String} {A : Nat → Prop} {u U : State} {H : Heap} (hvm : u.vm.Alike U.vm) (h : vx_Zq C n d A u H) : vx_Zq C n d A U H := ⟨va_Zq.moved hvm h.1, vx_L.moved hvm h.2⟩
theorem vx_Zq.kept {C n d : String} {A : Nat → Prop} {U : State} {H H1 : Heap} (h : vx_Zq C n d A U H) (hq : ∀ a : Nat, a < H.size → ¬ A a → H1[a]? = H[a]?) : vx_Zq C n d A U H1 := ⟨va_Zq.kept h.1 hq, vx_L.kept h.2 hq⟩
theorem vx_Zq.narrow {C n d : String} {A B : Nat → Prop} {U : State} {H : Heap} (h : vx_Zq C n d A U H) (hAB : ∀ q, B q → A q) : vx_Zq C n d B U H := ⟨va_Zq.narrow h.1 hAB, vx_L.narrow h.2 hAB⟩
theorem vx_Zqof {args : Array Value} {s : State} {C n d : String} {A : Nat → Prop} (hl : (Cond.laysStatic C n d).before args s = true) (hini : (Cond.initialized C).before args s = true) (h : (Cond.isRef (.static C n d)).before args s = true) (hA : ∀ a : Nat, a < s.heap.size → ¬ A a) : vx_Zq C n d A s s.heap := by
  refine ⟨va_Zqof hl hini h hA, ?_⟩
  obtain ⟨c, k, i, f, a, cell, h1, h2, h3, h4, h5, h6, h7, h8, h9⟩ := Cond.laysStatic_spec hl
  exact ⟨c, k, i, f, a, cell, h1, h2, h3, h4, h5, h6, h7, h8, h9, hA a (Array.getElem?_eq_some_iff.mp h5).1⟩
theorem vx_isRef {C n d : String} {v : Value} {A : Nat → Prop} {s : State} {args : Array Value} (h : va_Z C n d v A s s.heap) (hv : v.isRef = true) : (Cond.isRef (.static C n d)).before args s = true := by
  obtain ⟨cf, kf, fi, f, a, cell, h1, h2, h3, h4, h5, h6, h7, -⟩ := h
  have he : (Term.static C n d).eval args s none [] s = some v := by
    simp [Term.eval, State.fieldNamed?, h1, h2, h4, h5, h6, h7]
  simp only [Cond.before, Cond.holds, Cond.value, he]
  cases v <;> simp_all [Value.isRef]
theorem vx_isRefq {C n d : String} {A : Nat → Prop} {s : State} {args : Array Value} (h : va_Zq C n d A s s.heap) : (Cond.isRef (.static C n d)).before args s = true := by
  rcases h with h | ⟨t, h⟩
  · exact vx_isRef h rfl
  · exact vx_isRef h rfl
/-- the same frame, seen from here: as if the method were called anew in this heap -/
theorem vx_rebase {T : State} (X : Stand p l e R s m args below meth c T locs cells slots) {R' : Room} (hf : R'.frames ≤ R.frames) (hl : R'.locals ≤ R.locals) (hc : cells + R'.cells ≤ R.cells) (hs : slots + R'.slots ≤ R.slots) :
    Stand p l e R' ((T.setVm s.vm).setFrames (.invoking m args :: below)) m args below meth c T [] 0 0 := by
  have htop : (T.setVm s.vm).topJava?.isSome := X.here.top
  have hF : ((T.setVm s.vm).setFrames (.invoking m args :: below)).frames = .invoking m args :: below := State.frames_setFrames _ (State.cur_lt_of_top htop)
  obtain ⟨g₀, hg0⟩ := Option.isSome_iff_exists.mp htop
  obtain ⟨r, hr⟩ := State.topJava?_eq_some.mp hg0
  have hl9 : e.platform.stackLimits (T.setVm s.vm).me = e.platform.stackLimits s.me := X.limits
  have hb9 : (T.setVm s.vm).me.stackBytes = s.me.stackBytes := X.bytes
  refine ⟨X.admits, X.cas, X.clock, hF, ?_, X.hears, X.method, X.code, X.here, X.tail, X.warmed, ?_, ?_, ?_⟩
  · have h := X.room
    have hU : ((T.setVm s.vm).setFrames (.invoking m args :: below)).localsInUse = s.localsInUse := by
      rw [State.localsInUse_invoking hF (meth := meth) (c := c) X.method X.code, State.localsInUse_invoking X.frames X.method X.code]
    simp only [State.hasRoom, Bool.and_eq_true, decide_eq_true_eq] at h ⊢
    obtain ⟨⟨⟨⟨h1, h2, h3, h4, h5, h6⟩, h7⟩, h8⟩, h9⟩ := h
    rw [X.frames, List.length_cons] at h2 h3
    have q1 := X.heapSize
    have q2 := X.used
    simp only [hF, hU, List.length_cons, State.stackLimits_setFrames, State.stackBytes_setFrames, hl9, hb9]
    refine ⟨⟨⟨⟨by omega, by omega, by omega, by omega, by omega, h6⟩, ?_⟩, ?_⟩, X.book⟩
    · show T.heap.size + R'.cells ≤ e.platform.maxCells
      omega
    · show T.slotsUsed + R'.slots ≤ e.platform.maxSlots
      omega
  · rw [State.stackLimits_setFrames]; rfl
  · rw [State.stackBytes_setFrames]; rfl
  · refine ⟨?_, Nat.le_refl _, Nat.le_refl _, ?_, ?_, fun a c9 h9 => ⟨c9, h9, rfl, rfl, fun _ _ => rfl⟩⟩
    · obtain ⟨t, ht, -⟩ := State.frames_cons hr
      show T.setVm s.vm = { ((T.setVm s.vm).setFrames (.invoking m args :: below)).setFrames (T.setVm s.vm).frames with heap := T.heap, slotsUsed := T.slotsUsed }
      rw [State.setFrames_setFrames, State.setFrames_self ht]
      rfl
    · show T.slotsUsed = T.slotsUsed + ((T.heap.toList.drop T.heap.size).map (·.slots.size)).sum
      rw [List.drop_eq_nil_of_le (Nat.le_of_eq Array.length_toList)]
      rfl
    · show ((T.heap.toList.drop T.heap.size).map (·.slots.size)).sum ≤ 0
      rw [List.drop_eq_nil_of_le (Nat.le_of_eq Array.length_toList)]
      exact Nat.le_refl _
/-- 'throw new E()': new; dup; invokespecial; athrow -/
theorem vx_throw0 {cc : ByteArray} {pc : Nat} (hexec : p.tables.exec = Jvm.exec) (hb : c.code = cc) (hl : l.stackTraces = false) {own cls : String} {names : List String} {ik ic mc ms : Nat} {A : Nat → Prop}
    (hown : s.vm.findClass own = some m.cls) (hcls : Bundle.fit cls = true) (hnames : ∀ n ∈ names, Bundle.fit n = true)
    (hk : (Cond.classLink own ik cls).before args s = true) (hini : (Cond.initialized cls).before args s = true) (hat : ∀ w ∈ vx_at0 own ic cls names, w.before args s = true)
    (hgood : ∀ w ∈ Cond.classLink own ik cls :: Cond.initialized cls :: vx_at0 own ic cls names, vx_ot w = true)
    (hU : vx_Zq Bundle.tN "UNASSIGNED_STACK" Bundle.steD A s s.heap) (hN : vx_Zq Bundle.tN "SUPPRESSED_SENTINEL" Bundle.listD A s s.heap) (hS : va_S A s.heap H locs) (hsize : ls.size = c.maxLocals)
    (d0 : decode cc pc = .ok (.new ik, 3)) (d3 : decode cc (pc + 3) = .ok (.dup, 1)) (d4 : decode cc (pc + 4) = .ok (.invokespecial ic, 3)) (d7 : decode cc (pc + 7) = .ok (.athrow, 1))
    (hout : ∀ x ∈ c.exceptionTable.toList, covers x (pc + 7) = false)
    (hRframes : names.length + 3 < R.frames) (hRlocals : (rest.map fun v => v.category).sum + (13 * (names.length + 1) + 42) ≤ R.locals) (hRcells : cells + 1 ≤ R.cells) (hRslots : slots + 6 ≤ R.slots) (hlocks : meth.locks = false)
    (hx : ∀ t : State, s.vm.Alike t.vm → H.size ≤ t.heap.size → (∀ q : Nat, q < H.size → t.heap[q]? = H[q]?) → XC cls s t)
    (hf : ∀ z ∈ locs, free z.base) (hc : cells + 1 ≤ mc) (hs : slots + 6 ≤ ms) :
    W p l e R s m args below meth c H locs cells slots (vx_MQ below Qc XC args s mc ms free) (F0 m pc ls rest) := by
  intro T hT X
  have htr : e.platform.stackTraces = false := (show e.platform.stackTraces = l.stackTraces by rw [X.admits.platform]).trans hl
  have Y := vx_rebase X (R' := { frames := R.frames, locals := R.locals, cells := 1, slots := 6 }) (Nat.le_refl _) (Nat.le_refl _) hRcells hRslots
  obtain ⟨s', hA⟩ : ∃ z, z = (T.setVm s.vm).setFrames (.invoking m args :: below) := ⟨_, rfl⟩
  rw [← hA] at Y
  have hvm : s'.vm = s.vm := by rw [hA]; rfl
  have hhp : s'.heap = H := by rw [hA]; exact hT
  have hW0 : s.WarmedH s'.vm := by rw [hvm]; exact State.WarmedH.refl s
  have hat' : ∀ w ∈ vx_at0 own ic cls names, w.before args s' = true := fun w hw => vx_ot_at hW0 hvm.symm (hgood w (List.mem_cons_of_mem _ (List.mem_cons_of_mem _ hw))) (hat w hw)
  have hk' : (Cond.classLink own ik cls).before args s' = true := vx_ot_at hW0 hvm.symm (hgood _ List.mem_cons_self) hk
  have hini' : (Cond.initialized cls).before args s' = true := vx_ot_at hW0 hvm.symm (hgood _ (List.mem_cons_of_mem _ List.mem_cons_self)) hini
  have hU' : vx_Zq Bundle.tN "UNASSIGNED_STACK" Bundle.steD A s' s'.heap := by rw [hhp]; exact vx_Zq.moved hW0.alike (hU.kept hS.2.1)
  have hN' : vx_Zq Bundle.tN "SUPPRESSED_SENTINEL" Bundle.listD A s' s'.heap := by rw [hhp]; exact vx_Zq.moved hW0.alike (hN.kept hS.2.1)
  have h : ∀ w ∈ Bundle.ownAtoms0 own ic cls names, w.before args s' = true := vx_own hat' (vx_isRefq hU'.1) (vx_isRefq hN'.1) hU'.2.word hN'.2.word
  have hown' : s'.vm.findClass own = some m.cls := by rw [hvm]; exact hown
  have hins : (Cond.instantiable cls 6).before args s' = true := h _ (by simp [Bundle.ownAtoms0])
  obtain ⟨vm₁, cX, kX, hfX, hkX, -, -, X₁, st1⟩ := Y.newCold hexec (own := own) (C := cls) (index := ik) (n := 6) hown' hk' hins hini'
    (g := F0 m pc ls rest) rfl (by rw [hb]; exact d0) (Nat.le_refl _) (Nat.le_refl _)
  generalize hT1 : (T.setVm vm₁).pushCell { cls := cX, slots := kX.instanceTypes.map defaultValue, vm := .none } = T1 at X₁ st1
  have hcat : (Value.ref T.heap.size).category = 1 := rfl
  have hcellA : T1.heap[T.heap.size]? = some (freshCell cX kX) := by rw [← hT1]; exact State.heap_pushCell_size _ _
  have d3' : decode c.code (pc + 3) = .ok (.dup, 1) := by rw [hb]; exact d3
  obtain ⟨U, hsteps, hrun, hend, hW, hsame, ce, hce, hO⟩ := X₁.ctorThrow0 hexec htr (own := own) (cls := cls) (names := names) (ic := ic) hown' hcls hnames h (fun x hx => nomatch hx) hfX hkX hcellA (by rw [hhp, hT]; exact Nat.le_refl _)
    (g := { method := m, pc := pc + 4, locals := ls, stack := .ref T.heap.size :: .ref T.heap.size :: rest, locked := none }) rfl hsize rfl rfl (rest := rest) rfl
    (by rw [hb]; exact d4) (by rw [hb]; exact d7) hout hRframes (by simp only [List.map_cons, List.sum_cons, hcat]; omega) hlocks
  obtain ⟨f1, f2⟩ := vx_frame hsame
  rw [hhp] at f1 f2
  have hWs : s.WarmedH U.vm := State.WarmedH.trans hW0 hW
  have hcl : s.vm.findClass cls = some ce.cls := by
    have h9 := hO.cls
    rw [hvm] at h9
    exact h9
  have hall : s.sameButNew ({ U with vm := s.vm } : State) locs mc ms := by
    subst hA
    obtain ⟨e1, e2⟩ := hsame
    rw [State.setFrames_setFrames] at e1
    have h2 : (T.setVm s.vm).sameButNew ({ U with vm := s.vm } : State) [] (0 + 1) (0 + 6) := ⟨e1, e2⟩
    have h3 := X.same.trans h2
    rw [List.append_nil] at h3
    exact h3.mono hc hs
  refine ⟨U, ?_, .threw T.heap.size, hrun, hend, Or.inr ⟨T.heap.size, rfl, cls, ce, locs, hx U hWs.alike f1 (fun q hq => f2 q hq (fun z hz => nomatch hz)), hce, hO.vm, hcl, hWs, hall, hf⟩⟩
  refine st1 _ ?_
  show Steps p.tables e below (T1.setTop { method := m, pc := pc + 3, locals := ls, stack := .ref T.heap.size :: rest, locked := none }) _
  jvm_step X₁.here [X₁.here.top, hexec, d3', Value.category]
  exact hsteps
/-- 'throw new E("text")': new; dup; ldc; invokespecial; athrow -/
theorem vx_throwS {cc : ByteArray} {pc : Nat} (hexec : p.tables.exec = Jvm.exec) (hb : c.code = cc) (hl : l.stackTraces = false) {own cls text : String} {names : List String} {ik is ic mc ms sa : Nat} {A : Nat → Prop}
    (hown : s.vm.findClass own = some m.cls) (hcls : Bundle.fit cls = true) (hnames : ∀ n ∈ names, Bundle.fit n = true)
    (hk : (Cond.classLink own ik cls).before args s = true) (hini : (Cond.initialized cls).before args s = true) (hstr : vk_R own is text sa s) (hat : ∀ w ∈ vx_atS own ic cls names, w.before args s = true)
    (hgood : ∀ w ∈ Cond.classLink own ik cls :: Cond.initialized cls :: vx_atS own ic cls names, vx_ot w = true)
    (hU : vx_Zq Bundle.tN "UNASSIGNED_STACK" Bundle.steD A s s.heap) (hN : vx_Zq Bundle.tN "SUPPRESSED_SENTINEL" Bundle.listD A s s.heap) (hS : va_S A s.heap H locs) (hsize : ls.size = c.maxLocals)
    (d0 : decode cc pc = .ok (.new ik, 3)) (d3 : decode cc (pc + 3) = .ok (.dup, 1)) (d4 : decode cc (pc + 4) = .ok (.ldc is, 2)) (d6 : decode cc (pc + 6) = .ok (.invokespecial ic, 3)) (d9 : decode cc (pc + 9) = .ok (.athrow, 1))
    (hout : ∀ x ∈ c.exceptionTable.toList, covers x (pc + 9) = false)
    (hRframes : names.length + 3 < R.frames) (hRlocals : (rest.map fun v => v.category).sum + (13 * (names.length + 1) + 43) ≤ R.locals) (hRcells : cells + 1 ≤ R.cells) (hRslots : slots + 6 ≤ R.slots) (hlocks : meth.locks = false)
    (hx : ∀ t : State, s.vm.Alike t.vm → H.size ≤ t.heap.size → (∀ q : Nat, q < H.size → t.heap[q]? = H[q]?) → XC cls s t)
    (hf : ∀ z ∈ locs, free z.base) (hc : cells + 1 ≤ mc) (hs : slots + 6 ≤ ms) :
    W p l e R s m args below meth c H locs cells slots (vx_MQ below Qc XC args s mc ms free) (F0 m pc ls rest) := by
  intro T hT X
  have htr : e.platform.stackTraces = false := (show e.platform.stackTraces = l.stackTraces by rw [X.admits.platform]).trans hl
  have Y := vx_rebase X (R' := { frames := R.frames, locals := R.locals, cells := 1, slots := 6 }) (Nat.le_refl _) (Nat.le_refl _) hRcells hRslots
  obtain ⟨s', hA⟩ : ∃ z, z = (T.setVm s.vm).setFrames (.invoking m args :: below) := ⟨_, rfl⟩
  rw [← hA] at Y
  have hvm : s'.vm = s.vm := by rw [hA]; rfl
  have hhp : s'.heap = H := by rw [hA]; exact hT
  have hW0 : s.WarmedH s'.vm := by rw [hvm]; exact State.WarmedH.refl s
  have hat' : ∀ w ∈ vx_atS own ic cls names, w.before args s' = true := fun w hw => vx_ot_at hW0 hvm.symm (hgood w (List.mem_cons_of_mem _ (List.mem_cons_of_mem _ hw))) (hat w hw)
  have hk' : (Cond.classLink own ik cls).before args s' = true := vx_ot_at hW0 hvm.symm (hgood _ List.mem_cons_self) hk
  have hini' : (Cond.initialized cls).before args s' = true := vx_ot_at hW0 hvm.symm (hgood _ (List.mem_cons_of_mem _ List.mem_cons_self)) hini
  have hU' : vx_Zq Bundle.tN "UNASSIGNED_STACK" Bundle.steD A s' s'.heap := by rw [hhp]; exact vx_Zq.moved hW0.alike (hU.kept hS.2.1)
  have hN' : vx_Zq Bundle.tN "SUPPRESSED_SENTINEL" Bundle.listD A s' s'.heap := by rw [hhp]; exact vx_Zq.moved hW0.alike (hN.kept hS.2.1)
  have h : ∀ w ∈ Bundle.ownAtoms own ic cls names, w.before args s' = true := vx_own hat' (vx_isRefq hU'.1) (vx_isRefq hN'.1) hU'.2.word hN'.2.word
  have hown' : s'.vm.findClass own = some m.cls := by rw [hvm]; exact hown
  have hins : (Cond.instantiable cls 6).before args s' = true := h _ (by simp [Bundle.ownAtoms])
  obtain ⟨vm₁, cX, kX, hfX, hkX, -, -, X₁, st1⟩ := Y.newCold hexec (own := own) (C := cls) (index := ik) (n := 6) hown' hk' hins hini'
    (g := F0 m pc ls rest) rfl (by rw [hb]; exact d0) (Nat.le_refl _) (Nat.le_refl _)
  generalize hT1 : (T.setVm vm₁).pushCell { cls := cX, slots := kX.instanceTypes.map defaultValue, vm := .none } = T1 at X₁ st1
  have hcat : (Value.ref T.heap.size).category = 1 := rfl
  have hcellA : T1.heap[T.heap.size]? = some (freshCell cX kX) := by rw [← hT1]; exact State.heap_pushCell_size _ _
  have d3' : decode c.code (pc + 3) = .ok (.dup, 1) := by rw [hb]; exact d3
  have d4' : decode c.code (pc + 4) = .ok (.ldc is, 2) := by rw [hb]; exact d4
  have hstr' : vk_R own is text sa s' := vk_R.warm hW0 hstr
  obtain ⟨U, hsteps, hrun, hend, hW, hsame, ce, hce, hO⟩ := X₁.ctorThrowS hexec htr (own := own) (cls := cls) (names := names) (ic := ic) hown' hcls hnames h (fun x hx => nomatch hx) hfX hkX hcellA (by rw [hhp, hT]; exact Nat.le_refl _) (msg := .ref sa) rfl
    (g := { method := m, pc := pc + 6, locals := ls, stack := .ref sa :: .ref T.heap.size :: .ref T.heap.size :: rest, locked := none }) rfl hsize rfl rfl (rest := rest) rfl
    (by rw [hb]; exact d6) (by rw [hb]; exact d9) hout hRframes (by simp only [List.map_cons, List.sum_cons, hcat]; omega) hlocks
  obtain ⟨f1, f2⟩ := vx_frame hsame
  rw [hhp] at f1 f2
  have hWs : s.WarmedH U.vm := State.WarmedH.trans hW0 hW
  have hcl : s.vm.findClass cls = some ce.cls := by
    have h9 := hO.cls
    rw [hvm] at h9
    exact h9
  have hall : s.sameButNew ({ U with vm := s.vm } : State) locs mc ms := by
    subst hA
    obtain ⟨e1, e2⟩ := hsame
    rw [State.setFrames_setFrames] at e1
    have h2 : (T.setVm s.vm).sameButNew ({ U with vm := s.vm } : State) [] (0 + 1) (0 + 6) := ⟨e1, e2⟩
    have h3 := X.same.trans h2
    rw [List.append_nil] at h3
    exact h3.mono hc hs
  refine ⟨U, ?_, .threw T.heap.size, hrun, hend, Or.inr ⟨T.heap.size, rfl, cls, ce, locs, hx U hWs.alike f1 (fun q hq => f2 q hq (fun z hz => nomatch hz)), hce, hO.vm, hcl, hWs, hall, hf⟩⟩
  refine st1 _ ?_
  show Steps p.tables e below (T1.setTop { method := m, pc := pc + 3, locals := ls, stack := .ref T.heap.size :: rest, locked := none }) _
  jvm_step X₁.here [X₁.here.top, hexec, d3', Value.category]
  exact X₁.ldcString hexec (own := own) (text := text) (index := is) (a := sa) hown' hstr'.1 hstr'.2
    (g := { method := m, pc := pc + 4, locals := ls, stack := .ref T.heap.size :: .ref T.heap.size :: rest, locked := none }) rfl d4' _ hsteps
/-- 'throw new E("text")', the text by a wide index -/
theorem vx_throwSW {cc : ByteArray} {pc : Nat} (hexec : p.tables.exec = Jvm.exec) (hb : c.code = cc) (hl : l.stackTraces = false) {own cls text : String} {names : List String} {ik is ic mc ms sa : Nat} {A : Nat → Prop}
    (hown : s.vm.findClass own = some m.cls) (hcls : Bundle.fit cls = true) (hnames : ∀ n ∈ names, Bundle.fit n = true)
    (hk : (Cond.classLink own ik cls).before args s = true) (hini : (Cond.initialized cls).before args s = true) (hstr : vk_R own is text sa s) (hat : ∀ w ∈ vx_atS own ic cls names, w.before args s = true)
    (hgood : ∀ w ∈ Cond.classLink own ik cls :: Cond.initialized cls :: vx_atS own ic cls names, vx_ot w = true)
    (hU : vx_Zq Bundle.tN "UNASSIGNED_STACK" Bundle.steD A s s.heap) (hN : vx_Zq Bundle.tN "SUPPRESSED_SENTINEL" Bundle.listD A s s.heap) (hS : va_S A s.heap H locs) (hsize : ls.size = c.maxLocals)
    (d0 : decode cc pc = .ok (.new ik, 3)) (d3 : decode cc (pc + 3) = .ok (.dup, 1)) (d4 : decode cc (pc + 4) = .ok (.ldc_w is, 3)) (d7 : decode cc (pc + 7) = .ok (.invokespecial ic, 3)) (d10 : decode cc (pc + 10) = .ok (.athrow, 1))
    (hout : ∀ x ∈ c.exceptionTable.toList, covers x (pc + 10) = false)
    (hRframes : names.length + 3 < R.frames) (hRlocals : (rest.map fun v => v.category).sum + (13 * (names.length + 1) + 43) ≤ R.locals) (hRcells : cells + 1 ≤ R.cells) (hRslots : slots + 6 ≤ R.slots) (hlocks : meth.locks = false)
    (hx : ∀ t : State, s.vm.Alike t.vm → H.size ≤ t.heap.size → (∀ q : Nat, q < H.size → t.heap[q]? = H[q]?) → XC cls s t)
    (hf : ∀ z ∈ locs, free z.base) (hc : cells + 1 ≤ mc) (hs : slots + 6 ≤ ms) :
    W p l e R s m args below meth c H locs cells slots (vx_MQ below Qc XC args s mc ms free) (F0 m pc ls rest) := by
  intro T hT X
  have htr : e.platform.stackTraces = false := (show e.platform.stackTraces = l.stackTraces by rw [X.admits.platform]).trans hl
  have Y := vx_rebase X (R' := { frames := R.frames, locals := R.locals, cells := 1, slots := 6 }) (Nat.le_refl _) (Nat.le_refl _) hRcells hRslots
  obtain ⟨s', hA⟩ : ∃ z, z = (T.setVm s.vm).setFrames (.invoking m args :: below) := ⟨_, rfl⟩
  rw [← hA] at Y
  have hvm : s'.vm = s.vm := by rw [hA]; rfl
  have hhp : s'.heap = H := by rw [hA]; exact hT
  have hW0 : s.WarmedH s'.vm := by rw [hvm]; exact State.WarmedH.refl s
  have hat' : ∀ w ∈ vx_atS own ic cls names, w.before args s' = true := fun w hw => vx_ot_at hW0 hvm.symm (hgood w (List.mem_cons_of_mem _ (List.mem_cons_of_mem _ hw))) (hat w hw)
  have hk' : (Cond.classLink own ik cls).before args s' = true := vx_ot_at hW0 hvm.symm (hgood _ List.mem_cons_self) hk
  have hini' : (Cond.initialized cls).before args s' = true := vx_ot_at hW0 hvm.symm (hgood _ (List.mem_cons_of_mem _ List.mem_cons_self)) hini
  have hU' : vx_Zq Bundle.tN "UNASSIGNED_STACK" Bundle.steD A s' s'.heap := by rw [hhp]; exact vx_Zq.moved hW0.alike (hU.kept hS.2.1)
  have hN' : vx_Zq Bundle.tN "SUPPRESSED_SENTINEL" Bundle.listD A s' s'.heap := by rw [hhp]; exact vx_Zq.moved hW0.alike (hN.kept hS.2.1)
  have h : ∀ w ∈ Bundle.ownAtoms own ic cls names, w.before args s' = true := vx_own hat' (vx_isRefq hU'.1) (vx_isRefq hN'.1) hU'.2.word hN'.2.word
  have hown' : s'.vm.findClass own = some m.cls := by rw [hvm]; exact hown
  have hins : (Cond.instantiable cls 6).before args s' = true := h _ (by simp [Bundle.ownAtoms])
  obtain ⟨vm₁, cX, kX, hfX, hkX, -, -, X₁, st1⟩ := Y.newCold hexec (own := own) (C := cls) (index := ik) (n := 6) hown' hk' hins hini'
    (g := F0 m pc ls rest) rfl (by rw [hb]; exact d0) (Nat.le_refl _) (Nat.le_refl _)
  generalize hT1 : (T.setVm vm₁).pushCell { cls := cX, slots := kX.instanceTypes.map defaultValue, vm := .none } = T1 at X₁ st1
  have hcat : (Value.ref T.heap.size).category = 1 := rfl
  have hcellA : T1.heap[T.heap.size]? = some (freshCell cX kX) := by rw [← hT1]; exact State.heap_pushCell_size _ _
  have d3' : decode c.code (pc + 3) = .ok (.dup, 1) := by rw [hb]; exact d3
  have d4' : decode c.code (pc + 4) = .ok (.ldc_w is, 3) := by rw [hb]; exact d4
  have hstr' : vk_R own is text sa s' := vk_R.warm hW0 hstr
  obtain ⟨U, hsteps, hrun, hend, hW, hsame, ce, hce, hO⟩ := X₁.ctorThrowS hexec htr (own := own) (cls := cls) (names := names) (ic := ic) hown' hcls hnames h (fun x hx => nomatch hx) hfX hkX hcellA (by rw [hhp, hT]; exact Nat.le_refl _) (msg := .ref sa) rfl
    (g := { method := m, pc := pc + 7, locals := ls, stack := .ref sa :: .ref T.heap.size :: .ref T.heap.size :: rest, locked := none }) rfl hsize rfl rfl (rest := rest) rfl
    (by rw [hb]; exact d7) (by rw [hb]; exact d10) hout hRframes (by simp only [List.map_cons, List.sum_cons, hcat]; omega) hlocks
  obtain ⟨f1, f2⟩ := vx_frame hsame
  rw [hhp] at f1 f2
  have hWs : s.WarmedH U.vm := State.WarmedH.trans hW0 hW
  have hcl : s.vm.findClass cls = some ce.cls := by
    have h9 := hO.cls
    rw [hvm] at h9
    exact h9
  have hall : s.sameButNew ({ U with vm := s.vm } : State) locs mc ms := by
    subst hA
    obtain ⟨e1, e2⟩ := hsame
    rw [State.setFrames_setFrames] at e1
    have h2 : (T.setVm s.vm).sameButNew ({ U with vm := s.vm } : State) [] (0 + 1) (0 + 6) := ⟨e1, e2⟩
    have h3 := X.same.trans h2
    rw [List.append_nil] at h3
    exact h3.mono hc hs
  refine ⟨U, ?_, .threw T.heap.size, hrun, hend, Or.inr ⟨T.heap.size, rfl, cls, ce, locs, hx U hWs.alike f1 (fun q hq => f2 q hq (fun z hz => nomatch hz)), hce, hO.vm, hcl, hWs, hall, hf⟩⟩
  refine st1 _ ?_
  show Steps p.tables e below (T1.setTop { method := m, pc := pc + 3, locals := ls, stack := .ref T.heap.size :: rest, locked := none }) _
  jvm_step X₁.here [X₁.here.top, hexec, d3', Value.category]
  exact X₁.ldcStringW hexec (own := own) (text := text) (index := is) (a := sa) hown' hstr'.1 hstr'.2
    (g := { method := m, pc := pc + 4, locals := ls, stack := .ref T.heap.size :: .ref T.heap.size :: rest, locked := none }) rfl d4' _ hsteps
end Ends
section Bodies
variable {l : Launch}
theorem vx_ofW {y : MethodName} {ws ws' : List Cond} {rm : Room} {Pc : Array Value → State → Prop} {Qc : Array Value → State → Outcome → State → Prop} {XC : String → State → State → Prop} {mc ms : Nat} {free : Addr → Prop} {cc : ByteArray} {maxL : Nat} {ret : Option FieldType}
    (hy : plainName y.cls = true) (hw : ws = Cond.code y cc maxL ret :: ws')
    (body : ∀ p e s m args below meth c s₁, BodyLoose p l y (headSpec ws rm) cc maxL ret e s m args below meth c s₁ → c.maxLocals = maxL → (∀ x ∈ c.exceptionTable.toList, False) → Pc args s →
      W p l e (headSpec ws rm).room s m args below meth c s.heap [] 0 0 (vx_MQ below Qc XC args s mc ms free) (entryFrame m args maxL)) : vx_Met l y ws rm Pc Qc XC mc ms free := by
  refine MetFree.of_bodyS (code := cc) (maxLocals := maxL) (ret := ret) hy ?_ ?_
  · intro args s m h hn
    obtain ⟨meth, c, h1, h2, h3, h4, h5, h6, -, -⟩ := Cond.code_spec hn (atoms_spec (ws := ws) h _ (by rw [hw]; exact List.mem_cons_self))
    exact ⟨meth, c, h1, h2, h3, h4, h5, h6⟩
  · intro p e s m args below meth c s₁ B hml hP _
    have hh0 : s₁.heap = s.heap := by rw [B.state]; rfl
    have ht : ∀ x ∈ c.exceptionTable.toList, False := by
      obtain ⟨meth9, c9, h1, h2, -, -, -, -, h7, -⟩ := Cond.code_spec B.named (atoms_spec (ws := ws) B.pre _ (by rw [hw]; exact List.mem_cons_self))
      cases Option.some.inj (h1.symm.trans B.method)
      cases Option.some.inj (h2.symm.trans (Stand.of_body B).code)
      intro x hx
      rw [Array.isEmpty_iff.mp h7] at hx
      cases hx
    obtain ⟨t, a1, o, b1, b2, b3⟩ := body p e s m args below meth c s₁ B hml ht hP s₁ hh0 (Stand.of_body B)
    exact ⟨t, o, a1, b1, b2, b3⟩
/-- the table of a body with handlers -/
theorem vx_table {p : Program} {x y : MethodName} {S : Spec} {cc bytes : ByteArray} {maxL maxL' : Nat} {ret ret' : Option FieldType} {e : Env} {s s₁ : State} {m : MethodId} {args : Array Value} {below : List Frame} {meth : Method} {c : Code} {hh : List (Nat × Nat × Nat × Nat)}
    (B : BodyLoose p l y S cc maxL ret e s m args below meth c s₁) (h : (Cond.codeWith y bytes maxL' ret' hh).before args s = true) : c.exceptionTable.toList = tableOf hh := by
  obtain ⟨m9, meth9, c9, hn9, h1, h2, -, -, h6, -⟩ := Cond.codeWith_spec h
  cases Option.some.inj (hn9.symm.trans B.named)
  cases Option.some.inj (h1.symm.trans B.method)
  cases Option.some.inj (h2.symm.trans (Stand.of_body B).code)
  rw [← h6, table_eq]
end Bodies
end VXA
/-! ===== END ===== -/
/-! ===== BEGIN a static call of a method with an exception table ===== -/
section VXS
variable {p : Program} {l : Launch} {e : Env} {R : Room} {s : State} {m : MethodId} {args : Array Value} {below : List Frame} {meth : Method} {c : Code} {T : State} {H : Heap} {locs : List Loc} {cells slots : Nat}
abbrev vx_CSW (R : Room) (s : State) (args : Array Value) (own : String) (index : Nat) (y : MethodName) (bytes : ByteArray) (maxL : Nat) (ret : Option FieldType) (hh : List (Nat × Nat × Nat × Nat)) (ws : List Cond) (rm : Room) (mc ms n : Nat) : Prop :=
  (rm.cells = mc ∧ rm.slots = ms ∧ rm.frames + 1 ≤ R.frames ∧ 8 + (maxL + 11) + rm.locals ≤ R.locals ∧ (∀ w ∈ ws, ∀ (a' : Array Value) (U : State), s.WarmedH U.vm → w.before a' U = true) ∧ Cond.codeWith y bytes maxL ret hh ∈ ws) ∧
  (Cond.codeWith y bytes maxL ret hh).before args s = true ∧ (Cond.initialized y.cls).before args s = true ∧ (y.cls ≠ "java/lang/invoke/MethodHandle" ∧ y.cls ≠ "java/lang/invoke/VarHandle") ∧
  (∀ sig, parseMethodDescriptor y.desc = some sig → n = sig.parameters.length) ∧ (Cond.methodLink own index y).before args s = true ∧ (Cond.static y).before args s = true
theorem vx_cwSW {own : String} {index maxL mc ms : Nat} {y : MethodName} {bytes : ByteArray} {ret : Option FieldType} {hh : List (Nat × Nat × Nat × Nat)} {Ts ws ws' : List Cond} {rm : Room} (n : Nat) (ht : ∀ w ∈ Ts, w.before args s = true) (hT : GoodIn Ts (va_wsS own index y ws)) (hw : ws = Cond.codeWith y bytes maxL ret hh :: ws') (hrc : rm.cells = mc) (hrs : rm.slots = ms)
    (hd : y.cls ≠ "java/lang/invoke/MethodHandle" ∧ y.cls ≠ "java/lang/invoke/VarHandle" ∧ (parseMethodDescriptor y.desc).map (fun d => d.parameters.length) = some n) (hR : rm.frames + 1 ≤ R.frames ∧ 8 + (maxL + 11) + rm.locals ≤ R.locals) :
    vx_CSW R s args own index y bytes maxL ret hh ws rm mc ms n := by
  have ok : ∀ w ∈ va_wsS own index y ws, w.before args s = true := fun w h => ht w (hT w h).1
  have hG : GoodIn Ts ws := fun w h => hT w (by unfold va_wsS; exact List.mem_append_right _ h)
  have hc : Cond.codeWith y bytes maxL ret hh ∈ ws := by rw [hw]; exact List.mem_cons_self
  refine ⟨⟨hrc, hrs, hR.1, hR.2, pay_in ht hG, hc⟩, ht _ (hG _ hc).1, ok _ (by simp [va_wsS]), ⟨hd.1, hd.2.1⟩, fun sig h => ?_, ok _ (by simp [va_wsS]), ok _ (by simp [va_wsS])⟩
  have h2 := hd.2.2
  rw [h] at h2
  exact (Option.some.inj h2).symm
theorem vx_callSW (X : Stand p l e R s m args below meth c T locs cells slots) (hexec : p.tables.exec = Jvm.exec) {own : String} {index : Nat} {y : MethodName} {bytes : ByteArray} {maxL : Nat} {ret : Option FieldType} {hh : List (Nat × Nat × Nat × Nat)}
    (hown : s.vm.findClass own = some m.cls) (hlink : (Cond.methodLink own index y).before args s = true) (hstat : (Cond.static y).before args s = true) (hinit : (Cond.initialized y.cls).before args s = true)
    (hcode : (Cond.codeWith y bytes maxL ret hh).before args s = true) (hy : y.cls ≠ "java/lang/invoke/MethodHandle" ∧ y.cls ≠ "java/lang/invoke/VarHandle")
    {W9 : Nat} {Pre : Pt → Array Value → Prop} {Post : Pt → Array Value → Option Value → Pt → Prop} (hK : Back l R p e below s args y 3 W9 Pre Post)
    {g : JFrame} (hg : g.method = m) (hsize : g.locals.size = c.maxLocals) {argsL rest : List Value} (hlen : ∀ sig, parseMethodDescriptor y.desc = some sig → argsL.length = sig.parameters.length)
    (hstack : g.stack = argsL.reverse ++ rest) (hW : 2 * g.monitorRoom + (rest.map fun v => v.category).sum ≤ W9) (hdg : decode c.code g.pc = .ok (.invokestatic index, 3))
    (hpre : ∀ vm₁, s.WarmedH vm₁ → Pre ⟨T.setVm vm₁, locs, cells, slots⟩ argsL.toArray) :
    ∃ (v : Option Value) (vm₁ : Vm) (B : Pt), s.WarmedH vm₁ ∧ Stand p l e R s m args below meth c B.U B.locs B.cells B.slots ∧ Post ⟨T.setVm vm₁, locs, cells, slots⟩ argsL.toArray v B ∧
      ∀ target, Steps p.tables e below (B.U.setTop { g with pc := g.pc + 3, stack := v.toList ++ rest }) target → Steps p.tables e below (T.setTop g) target := by
  obtain ⟨mk, methM, cM, hnamed, hmethM, -, -, -, -, -, -, hsigM⟩ := Cond.codeWith_spec hcode
  have hstatic : methM.isStatic = true := Cond.static_spec hnamed hmethM hstat
  obtain ⟨kP, hkP, -⟩ := className_of_methodNamed hnamed
  have hinitP : kP.init = .initialized := Cond.initialized_spec (findClass_of_methodNamed hnamed) hkP hinit
  obtain ⟨vm₁, X₁, hstep₁⟩ := X.invokestatic hexec hown hlink hnamed hmethM hstatic hkP hinitP hy (g := g) hg (argsL := argsL) (rest := rest) (hlen _ hsigM) hstack hdg
  obtain ⟨v, B, X', hpost, hsteps⟩ := hK m meth c ⟨T.setVm vm₁, locs, cells, slots⟩ { g with stack := rest } (.invokestatic index) mk argsL.toArray X₁ hg hsize hdg hW (X₁.named hnamed) (hpre vm₁ X₁.warmed)
  exact ⟨v, vm₁, B, X₁.warmed, X', hpost, fun target h => hstep₁ _ fun acts => by rw [doInvoke_state]; exact hsteps.trans h⟩
theorem vx_runSW {y : MethodName} {bytes cc : ByteArray} {maxL nL mc ms n index : Nat} {ret : Option FieldType} {hh : List (Nat × Nat × Nat × Nat)} {ws : List Cond} {rm : Room} {Pc : Array Value → State → Prop} {Qc : Array Value → State → Outcome → State → Prop} {free : Addr → Prop} {Ts : List Cond} {own : String} {As rest : List Value} {g : JFrame}
    (S : CallFix p m c cc nL s args Ts own) (hM : Met l y ws rm Pc Qc mc ms free) (cw : vx_CSW R s args own index y bytes maxL ret hh ws rm mc ms n) (hp : PreS s H Pc As)
    (hg : g.method = m) (hn : As.length = n) (hsize : g.locals.size = nL) (hstack : g.stack = As.reverse ++ rest) (hW : 2 * g.monitorRoom + (rest.map fun v => v.category).sum ≤ 8) (hdg : decode cc g.pc = .ok (.invokestatic index, 3)) (hf : cells + mc ≤ R.cells ∧ slots + ms ≤ R.slots) :
    va_Run p l e R s m args below meth c H locs cells slots mc ms g rest (Qc As.toArray) (free) := by
  obtain ⟨⟨hrc, hrs, hfr, hlo, hws, hcw⟩, hcode, hini, hy, hlen, hl, hstt⟩ := cw
  have hK : Back l R p e below s args y 3 8 (PreOf R mc ms Pc) (PostOf Qc mc ms free) := va_backW (hh := hh) (bytes := bytes) (maxL := maxL) (ret := ret) hM hp.1 hrc hrs hfr hlo hws hcw (fun a' U hW => word_at hW (Or.inl (by first | rfl | simp [Cond.onTables, Cond.keeps, Cond.steady])) hini)
  obtain ⟨hx, hb, hml, ho, -⟩ := S
  intro T hT X
  obtain ⟨v, vm₁, ⟨U', l2, c2, s2⟩, hW₁, X', ⟨g', mk, t, L, e1, e2, hq, h1, hL, h2, h3⟩, st⟩ := vx_callSW X hx (hh := hh) (bytes := bytes) (maxL := maxL) (ret := ret) ho hl hstt hini hcode hy hK hg (hsize.trans hml.symm) (argsL := As) (rest := rest) (fun sig h => hn.trans (hlen sig h)) hstack hW (by rw [hb]; exact hdg)
    (fun vm₁ hW₁ => ⟨hf.1, hf.2, hp.2 (T.setVm vm₁) hT hW₁⟩)
  dsimp only [Pt.U, Pt.locs, Pt.cells, Pt.slots] at X' e1 e2 h1 h2 h3 st
  subst h1; subst h2; subst h3
  exact ⟨v, (T.setVm vm₁).calling g' mk As.toArray, t, U', L, hT, X', hL, e1, e2, hq, st⟩
/-- not caught here, past rows that name other classes: it goes on to the caller -/
theorem vx_outP {p : Program} {l : Launch} {e : Env} {R : Room} {s : State} {m : MethodId} {args : Array Value} {below : List Frame} {meth : Method} {c : Code} {H : Heap} {locs : List Loc} {cells slots : Nat} {free : Addr → Prop} {ls : Array Slot} {rest : List Value} {Qc : Array Value → State → Outcome → State → Prop} {XC : String → State → State → Prop}
    {pc : Nat} {own E : String} {ce : Cell} {q : Addr} {mc ms : Nat} (hown : s.vm.findClass own = some m.cls) (hlocks : meth.locks = false)
    (hpass : ∀ z ∈ c.exceptionTable.toList, covers z pc = false ∨ (z.catchType ≠ 0 ∧ ∃ nm : String, (Cond.classLink own z.catchType nm).before args s = true ∧ va_Nc E nm s)) (hcell : H[q]? = some ce) (hv : ce.vm = .none) (hcl : s.vm.findClass E = some ce.cls)
    (hx : ∀ t : State, t.heap = H → s.vm.Alike t.vm → XC E s t) (hf : ∀ z ∈ locs, free z.base) (hc : cells ≤ mc) (hs : slots ≤ ms) :
    vx_W p l e R s m args below meth c H locs cells slots (vx_MQ below Qc XC args s mc ms free) (F0 m pc ls rest) q := by
  intro T hT X
  have hpl : e.platform.magicAccessors = ({} : Platform).magicAccessors := by rw [X.admits.platform]
  obtain ⟨vm', hW', X', st⟩ := X.outThrough hlocks q (g := F0 m pc ls rest) rfl rfl rfl (cell := ce) (by rw [hT]; exact hcell) (by rw [hv]; rfl)
    (by obtain ⟨k9, h9, -⟩ := Vm.findClass_spec hcl; exact ⟨k9, h9⟩) (fun z hz => by
      rcases hpass z hz with h | ⟨hz0, nm, hl1, hn1⟩
      · exact Or.inl h
      · obtain ⟨c6, hc6, hcl6⟩ := Cond.classLink_spec hown hl1 e.platform hpl
        obtain ⟨a8, b8, h1, h2, h3⟩ := hn1
        cases Option.some.inj (h1.symm.trans hcl)
        cases Option.some.inj (h2.symm.trans hc6)
        exact Or.inr ⟨hz0, _, hcl6, h3⟩)
  obtain ⟨g₀, hfr⟩ := X'.frames_eq
  have hcell9 : ((T.setVm vm').setFrames (.throwing q :: below)).heap[q]? = some ce := by
    show T.heap[q]? = some ce
    rw [hT]; exact hcell
  have hend : Ended ((T.setVm vm').setFrames (.throwing q :: below)) below (.threw q) := State.frames_setFrames _ (State.cur_lt_of_frames hfr)
  refine ⟨(T.setVm vm').setFrames (.throwing q :: below), ?_, .threw q, X'.here.running, hend, Or.inr ⟨q, rfl, E, ce, locs, hx _ hT (X'.ends _).1.alike, hcell9, hv, hcl, (X'.ends _).1, (X'.ends _).2.mono hc hs, hf⟩⟩
  rw [X.pushThrowing_eq]
  exact st
/-- a thing of a world lies in the heap -/
theorem vx_lt {D : va_G} {cl : List vw_C} {ws : va_W} {H1 : Heap} (h : va_P D cl ws H1) {k : Nat} {q : Nat × va_E} (hk : ws[k]? = some q) : q.1 < H1.size := (h k q hk).lt
end VXS
/-! ===== END ===== -/
/-! ===== BEGIN methods with a table of their own: called by a name, returning or throwing ===== -/
section VXH
/-! vx_backW, vx_callVX, vx_callSX, vx_callVW, vx_runVW, vx_runVX, vx_runSX, vx_ofWH follow the same proofs as their sisters above (Free/Laws.lean, Shelf42/LK1.lean); vx_outP calls Shelf42/NT130.lean (outThrough). -/
section
variable {l : Launch} {R : Room} {p : Program} {e : Env} {below : List Frame} {s : State} {sargs : Array Value} {y : MethodName} {len W9 : Nat}
theorem vx_backW {ws : List Cond} {rm : Room} {Pc : Array Value → State → Prop} {Qc : Array Value → State → Outcome → State → Prop} {XC : String → State → State → Prop} {mc ms : Nat} {free : Addr → Prop} {bytes : ByteArray} {maxL : Nat} {ret : Option FieldType} {hh : List (Nat × Nat × Nat × Nat)}
    (hM : vx_Met l y ws rm Pc Qc XC mc ms free) (hblind : FrameBlind Pc) (hrc : rm.cells = mc) (hrs : rm.slots = ms)
    (hframes : rm.frames + 1 ≤ R.frames) (hlocals : W9 + (maxL + 11) + rm.locals ≤ R.locals)
    (hws : ∀ w ∈ ws, ∀ a' U, s.WarmedH U.vm → w.before a' U = true) (hcode : Cond.codeWith y bytes maxL ret hh ∈ ws) (hinit : ∀ a' U, s.WarmedH U.vm → (Cond.initialized y.cls).before a' U = true) :
    vx_Back l R p e below s sargs y len W9 (PreOf R mc ms Pc) (PostOf Qc mc ms free) (vx_Post XC mc ms free) := by
  intro m meth c A g ig mk a X hg hsize hdg hW hn hp
  have h1 : (headSpec ws rm).pre.before a A.U = true := atoms_intro fun w hw => hws w hw _ _ X.warmed
  have h2 : (Cond.codeWith y bytes maxL ret hh).before a A.U = true := hws _ hcode _ _ X.warmed
  have h3 : (Cond.initialized y.cls).before a A.U = true := hinit _ _ X.warmed
  have h4 : A.cells + (headSpec ws rm).room.cells ≤ R.cells := by rw [show (headSpec ws rm).room.cells = mc from hrc]; exact hp.1
  have h5 : A.slots + (headSpec ws rm).room.slots ≤ R.slots := by rw [show (headSpec ws rm).room.slots = ms from hrs]; exact hp.2.1
  have hPc : Pc a (A.U.calling g mk a) := hblind _ _ _ _ hp.2.2
  obtain ⟨U, Ls, c0, s0⟩ := A
  dsimp only [Pt.U, Pt.locs, Pt.cells, Pt.slots] at h1 h2 h3 h4 h5 X hn hPc ⊢
  obtain ⟨m9, methY, cY, hn9, hmY, hcY, -, hlY, -⟩ := Cond.codeWith_spec h2
  cases Option.some.inj (hn9.symm.trans hn)
  obtain ⟨kY, hkY, -⟩ := className_of_methodNamed hn
  have hinitY : kY.init = .initialized := Cond.initialized_spec (findClass_of_methodNamed hn) hkY h3
  have h : At U g.method c below := by rw [hg]; exact X.here
  have hlocals9 : W9 + (maxL + 11) + (headSpec ws rm).room.locals ≤ R.locals := hlocals
  have happ : (headSpec ws rm).appliesLoose y e.platform (U.calling g mk a) = true :=
    Spec.appliesLoose_calling (g := g) h hdg hn hkY hinitY
      (X.room_calling (g := g) (R' := (headSpec ws rm).room) hsize hmY hcY hframes (by rw [hlY]; omega) h4 h5) h1
  obtain ⟨mid, hmid⟩ := h.above
  have hfr : (U.setTop g).frames = (.java g :: mid) ++ below := by rw [State.frames_setTop' g h.top, hmid]; rfl
  obtain ⟨o, s₂, hsteps, -, hend, hq⟩ := Steps.callFree hM p X.admits X.cas X.clock (acts := []) hfr happ hPc trivial
  have hq' : vx_Q Qc XC mc ms free a (U.calling g mk a) o s₂ := hq
  rw [State.frames_setTop' g h.top] at hend
  obtain ⟨g₀, hg0⟩ := Option.isSome_iff_exists.mp h.top
  obtain ⟨r, hr⟩ := State.topJava?_eq_some.mp hg0
  have hr' : (({ U with heap := s₂.heap, slotsUsed := s₂.slotsUsed } : State).setVm s₂.vm).frames = .java g₀ :: r := hr
  rcases hq' with ⟨hqc, L, hfe, hL⟩ | ⟨q, rfl, E, ce, L, hx, hce, hcv, hcl, hW₂, hsm, hL⟩
  · obtain ⟨⟨v, rfl⟩, hW₂, e2, q2, q3, q4, q5, q6⟩ := id hfe
    have e3 : s₂ = ({ (U.calling g mk a).setFrames s₂.frames with heap := s₂.heap, slotsUsed := s₂.slotsUsed } : State).setVm s₂.vm := by
      have : s₂ = ({ s₂ with vm := (U.calling g mk a).vm } : State).setVm s₂.vm := rfl
      rw [e2] at this
      exact this
    obtain ⟨c₂, i₂, len₂, hc₂, hd₂, hf₂⟩ := hend
    have hW' : U.WarmedH s₂.vm := hW₂
    have hcc : c₂ = c := by
      have h1 : s₂.code? g.method = U.code? g.method := by
        rw [State.code?_eq, State.code?_eq, hW'.alike.method?]
      exact Option.some.inj (hc₂.symm.trans (h1.trans h.code))
    subst hcc
    have hlen : len₂ = len := by rw [hdg] at hd₂; cases hd₂; rfl
    subst hlen
    have hs₂ : s₂ = (({ U with heap := s₂.heap, slotsUsed := s₂.slotsUsed } : State).setVm s₂.vm).setTop { g with pc := g.pc + len₂, stack := v.toList ++ g.stack } := by
      refine e3.trans ?_
      rw [hf₂, State.calling_eq h.top, State.setFrames_setFrames, State.setTop_of_frames _ hr', hr]
      rfl
    have hsame : U.sameButNew ({ U with heap := s₂.heap, slotsUsed := s₂.slotsUsed } : State) L mc ms := by
      refine ⟨?_, q2, q3, q4, q5, q6⟩
      obtain ⟨t, ht, -⟩ := State.frames_cons hr
      show ({ U with heap := s₂.heap, slotsUsed := s₂.slotsUsed } : State) = { U.setFrames U.frames with heap := s₂.heap, slotsUsed := s₂.slotsUsed }
      rw [State.setFrames_self ht]
    subst hg
    refine Or.inl ⟨v, ⟨(({ U with heap := s₂.heap, slotsUsed := s₂.slotsUsed } : State).setVm s₂.vm), Ls ++ L, c0 + mc, s0 + ms⟩,
      ⟨X.admits, X.cas, X.clock, X.frames, X.room, X.hears, X.method, X.code, (X.here.setHeapUsed s₂.heap s₂.slotsUsed).setVm hW'.alike, X.tail, State.WarmedH.trans X.warmed hW', X.limits, X.bytes, X.same.trans (hsame.setVm s.vm)⟩,
      ⟨g, mk, s₂, L, rfl, rfl, hqc, rfl, hL, rfl, rfl⟩, ?_⟩
    show Steps p.tables e below _ ((({ U with heap := s₂.heap, slotsUsed := s₂.slotsUsed } : State).setVm s₂.vm).setTop { g with pc := g.pc + len₂, stack := v.toList ++ g.stack })
    rw [← hs₂]
    exact hsteps
  · obtain ⟨e2, q2, q3, q4, q5, q6⟩ := id hsm
    have e3 : s₂ = ({ (U.calling g mk a).setFrames s₂.frames with heap := s₂.heap, slotsUsed := s₂.slotsUsed } : State).setVm s₂.vm := by
      have : s₂ = ({ s₂ with vm := (U.calling g mk a).vm } : State).setVm s₂.vm := rfl
      rw [e2] at this
      exact this
    have hf₂ : s₂.frames = .throwing q :: .java g :: U.frames.tail := hend
    have hW' : U.WarmedH s₂.vm := hW₂
    have hs₂ : s₂ = ((({ U with heap := s₂.heap, slotsUsed := s₂.slotsUsed } : State).setVm s₂.vm).setTop g).pushFrame (.throwing q) := by
      refine e3.trans ?_
      rw [hf₂, State.calling_eq h.top, State.setFrames_setFrames, State.pushFrame, State.frames_setTop _ hr', State.setTop_of_frames _ hr', State.setFrames_setFrames, hr]
      rfl
    have hsame : U.sameButNew ({ U with heap := s₂.heap, slotsUsed := s₂.slotsUsed } : State) L mc ms := by
      refine ⟨?_, q2, q3, q4, q5, q6⟩
      obtain ⟨t, ht, -⟩ := State.frames_cons hr
      show ({ U with heap := s₂.heap, slotsUsed := s₂.slotsUsed } : State) = { U.setFrames U.frames with heap := s₂.heap, slotsUsed := s₂.slotsUsed }
      rw [State.setFrames_self ht]
    subst hg
    refine Or.inr ⟨q, ⟨(({ U with heap := s₂.heap, slotsUsed := s₂.slotsUsed } : State).setVm s₂.vm), Ls ++ L, c0 + mc, s0 + ms⟩,
      ⟨X.admits, X.cas, X.clock, X.frames, X.room, X.hears, X.method, X.code, (X.here.setHeapUsed s₂.heap s₂.slotsUsed).setVm hW'.alike, X.tail, State.WarmedH.trans X.warmed hW', X.limits, X.bytes, X.same.trans (hsame.setVm s.vm)⟩,
      ⟨g, mk, s₂, L, E, ce, rfl, rfl, hx, hce, hcv, hcl, rfl, hL, rfl, rfl⟩, ?_⟩
    show Steps p.tables e below _ (((({ U with heap := s₂.heap, slotsUsed := s₂.slotsUsed } : State).setVm s₂.vm).setTop g).pushFrame (.throwing q))
    rw [← hs₂]
    exact hsteps
end
variable {p : Program} {l : Launch} {e : Env} {R : Room} {s : State} {m : MethodId} {args : Array Value} {below : List Frame} {meth : Method} {c : Code} {T : State} {H : Heap} {locs : List Loc} {cells slots : Nat}
theorem vx_callVX (X : Stand p l e R s m args below meth c T locs cells slots) (hexec : p.tables.exec = Jvm.exec) {own C : String} {index : Nat} {y : MethodName} {bytes : ByteArray} {maxL : Nat} {ret : Option FieldType} {hh : List (Nat × Nat × Nat × Nat)}
    (hown : s.vm.findClass own = some m.cls) (hlink : (Cond.methodLink own index y).before args s = true) (hinst : (Cond.instanceMethod y).before args s = true) (hsel : (Cond.selects C y y).before args s = true)
    (hcode : (Cond.codeWith y bytes maxL ret hh).before args s = true) (hy : y.cls ≠ "java/lang/invoke/MethodHandle" ∧ y.cls ≠ "java/lang/invoke/VarHandle")
    {W9 : Nat} {Pre : Pt → Array Value → Prop} {Post : Pt → Array Value → Option Value → Pt → Prop} {PostX : Pt → Array Value → Addr → Pt → Prop} (hK : vx_Back l R p e below s args y 3 W9 Pre Post PostX)
    {b : Addr} {cellB : Cell} (hcell : T.heap[b]? = some cellB) (hobj : cellB.vm.isStatics = false) (hcls : s.vm.findClass C = some cellB.cls)
    {g : JFrame} (hg : g.method = m) (hsize : g.locals.size = c.maxLocals) {argsL rest : List Value} (hlen : ∀ sig, parseMethodDescriptor y.desc = some sig → argsL.length = sig.parameters.length)
    (hstack : g.stack = argsL.reverse ++ .ref b :: rest) (hW : 2 * g.monitorRoom + (rest.map fun v => v.category).sum ≤ W9) (hdg : decode c.code g.pc = .ok (.invokevirtual index, 3))
    (hpre : ∀ vm₁, s.WarmedH vm₁ → Pre ⟨T.setVm vm₁, locs, cells, slots⟩ (Value.ref b :: argsL).toArray) :
    (∃ (v : Option Value) (vm₁ : Vm) (B : Pt), s.WarmedH vm₁ ∧ Stand p l e R s m args below meth c B.U B.locs B.cells B.slots ∧ Post ⟨T.setVm vm₁, locs, cells, slots⟩ (Value.ref b :: argsL).toArray v B ∧
      ∀ target, Steps p.tables e below (B.U.setTop { g with pc := g.pc + 3, stack := v.toList ++ rest }) target → Steps p.tables e below (T.setTop g) target) ∨
    (∃ (q : Addr) (vm₁ : Vm) (B : Pt), s.WarmedH vm₁ ∧ Stand p l e R s m args below meth c B.U B.locs B.cells B.slots ∧ PostX ⟨T.setVm vm₁, locs, cells, slots⟩ (Value.ref b :: argsL).toArray q B ∧
      Steps p.tables e below (T.setTop g) ((B.U.setTop { g with stack := rest }).pushFrame (.throwing q))) := by
  obtain ⟨mk, methM, hnamed, hmethM, hstM, habM⟩ := Cond.instanceMethod_spec hinst
  obtain ⟨m8, methM', cM, hn8, hmethM', -, -, -, -, -, -, hsigM⟩ := Cond.codeWith_spec hcode
  cases Option.some.inj (hn8.symm.trans hnamed)
  cases hmethM.symm.trans hmethM'
  obtain ⟨c2, r2, m2, q1, q2, q3, q4, kP, hkP, hkPi⟩ := Cond.selects_spec hsel
  cases hcls.symm.trans q1
  cases (State.methodFound?_of_named hnamed hy).symm.trans q2
  cases hnamed.symm.trans q3
  have hselP : selectMethod e.platform s.vm cellB.cls mk = .method mk := by rw [Launch.admits_selectMethod X.admits]; exact q4
  obtain ⟨vm₁, X₁, hstep₁⟩ := X.invokevirtual hexec hown hlink hnamed hmethM hstM hkP hkPi hy (a := b) (cell := cellB) hcell
    (fun z h => by rw [h] at hobj; cases hobj) hselP hmethM habM hkP hkPi (g := g) hg (argsL := argsL) (rest := rest) (hlen _ hsigM) hstack hdg
  rcases hK m meth c ⟨T.setVm vm₁, locs, cells, slots⟩ { g with stack := rest } (.invokevirtual index) mk (Value.ref b :: argsL).toArray X₁ hg hsize hdg hW (X₁.named hnamed) (hpre vm₁ X₁.warmed) with ⟨v, B, X', hpost, hsteps⟩ | ⟨q, B, X', hpost, hsteps⟩
  · exact Or.inl ⟨v, vm₁, B, X₁.warmed, X', hpost, fun target h => hstep₁ _ fun acts => by rw [doInvoke_state]; exact hsteps.trans h⟩
  · exact Or.inr ⟨q, vm₁, B, X₁.warmed, X', hpost, hstep₁ _ fun acts => by rw [doInvoke_state]; exact hsteps⟩
theorem vx_callSX (X : Stand p l e R s m args below meth c T locs cells slots) (hexec : p.tables.exec = Jvm.exec) {own : String} {index : Nat} {y : MethodName} {bytes : ByteArray} {maxL : Nat} {ret : Option FieldType} {hh : List (Nat × Nat × Nat × Nat)}
    (hown : s.vm.findClass own = some m.cls) (hlink : (Cond.methodLink own index y).before args s = true) (hstat : (Cond.static y).before args s = true) (hinit : (Cond.initialized y.cls).before args s = true)
    (hcode : (Cond.codeWith y bytes maxL ret hh).before args s = true) (hy : y.cls ≠ "java/lang/invoke/MethodHandle" ∧ y.cls ≠ "java/lang/invoke/VarHandle")
    {W9 : Nat} {Pre : Pt → Array Value → Prop} {Post : Pt → Array Value → Option Value → Pt → Prop} {PostX : Pt → Array Value → Addr → Pt → Prop} (hK : vx_Back l R p e below s args y 3 W9 Pre Post PostX)
    {g : JFrame} (hg : g.method = m) (hsize : g.locals.size = c.maxLocals) {argsL rest : List Value} (hlen : ∀ sig, parseMethodDescriptor y.desc = some sig → argsL.length = sig.parameters.length)
    (hstack : g.stack = argsL.reverse ++ rest) (hW : 2 * g.monitorRoom + (rest.map fun v => v.category).sum ≤ W9) (hdg : decode c.code g.pc = .ok (.invokestatic index, 3))
    (hpre : ∀ vm₁, s.WarmedH vm₁ → Pre ⟨T.setVm vm₁, locs, cells, slots⟩ argsL.toArray) :
    (∃ (v : Option Value) (vm₁ : Vm) (B : Pt), s.WarmedH vm₁ ∧ Stand p l e R s m args below meth c B.U B.locs B.cells B.slots ∧ Post ⟨T.setVm vm₁, locs, cells, slots⟩ argsL.toArray v B ∧
      ∀ target, Steps p.tables e below (B.U.setTop { g with pc := g.pc + 3, stack := v.toList ++ rest }) target → Steps p.tables e below (T.setTop g) target) ∨
    (∃ (q : Addr) (vm₁ : Vm) (B : Pt), s.WarmedH vm₁ ∧ Stand p l e R s m args below meth c B.U B.locs B.cells B.slots ∧ PostX ⟨T.setVm vm₁, locs, cells, slots⟩ argsL.toArray q B ∧
      Steps p.tables e below (T.setTop g) ((B.U.setTop { g with stack := rest }).pushFrame (.throwing q))) := by
  obtain ⟨mk, methM, cM, hnamed, hmethM, -, -, -, -, -, -, hsigM⟩ := Cond.codeWith_spec hcode
  have hstatic : methM.isStatic = true := Cond.static_spec hnamed hmethM hstat
  obtain ⟨kP, hkP, -⟩ := className_of_methodNamed hnamed
  have hinitP : kP.init = .initialized := Cond.initialized_spec (findClass_of_methodNamed hnamed) hkP hinit
  obtain ⟨vm₁, X₁, hstep₁⟩ := X.invokestatic hexec hown hlink hnamed hmethM hstatic hkP hinitP hy (g := g) hg (argsL := argsL) (rest := rest) (hlen _ hsigM) hstack hdg
  rcases hK m meth c ⟨T.setVm vm₁, locs, cells, slots⟩ { g with stack := rest } (.invokestatic index) mk argsL.toArray X₁ hg hsize hdg hW (X₁.named hnamed) (hpre vm₁ X₁.warmed) with ⟨v, B, X', hpost, hsteps⟩ | ⟨q, B, X', hpost, hsteps⟩
  · exact Or.inl ⟨v, vm₁, B, X₁.warmed, X', hpost, fun target h => hstep₁ _ fun acts => by rw [doInvoke_state]; exact hsteps.trans h⟩
  · exact Or.inr ⟨q, vm₁, B, X₁.warmed, X', hpost, hstep₁ _ fun acts => by rw [doInvoke_state]; exact hsteps⟩
theorem vx_callVW (X : Stand p l e R s m args below meth c T locs cells slots) (hexec : p.tables.exec = Jvm.exec) {own C : String} {index : Nat} {y : MethodName} {bytes : ByteArray} {maxL : Nat} {ret : Option FieldType} {hh : List (Nat × Nat × Nat × Nat)}
    (hown : s.vm.findClass own = some m.cls) (hlink : (Cond.methodLink own index y).before args s = true) (hinst : (Cond.instanceMethod y).before args s = true) (hsel : (Cond.selects C y y).before args s = true)
    (hcode : (Cond.codeWith y bytes maxL ret hh).before args s = true) (hy : y.cls ≠ "java/lang/invoke/MethodHandle" ∧ y.cls ≠ "java/lang/invoke/VarHandle")
    {W9 : Nat} {Pre : Pt → Array Value → Prop} {Post : Pt → Array Value → Option Value → Pt → Prop} (hK : Back l R p e below s args y 3 W9 Pre Post)
    {b : Addr} {cellB : Cell} (hcell : T.heap[b]? = some cellB) (hobj : cellB.vm.isStatics = false) (hcls : s.vm.findClass C = some cellB.cls)
    {g : JFrame} (hg : g.method = m) (hsize : g.locals.size = c.maxLocals) {argsL rest : List Value} (hlen : ∀ sig, parseMethodDescriptor y.desc = some sig → argsL.length = sig.parameters.length)
    (hstack : g.stack = argsL.reverse ++ .ref b :: rest) (hW : 2 * g.monitorRoom + (rest.map fun v => v.category).sum ≤ W9) (hdg : decode c.code g.pc = .ok (.invokevirtual index, 3))
    (hpre : ∀ vm₁, s.WarmedH vm₁ → Pre ⟨T.setVm vm₁, locs, cells, slots⟩ (Value.ref b :: argsL).toArray) :
    ∃ (v : Option Value) (vm₁ : Vm) (B : Pt), s.WarmedH vm₁ ∧ Stand p l e R s m args below meth c B.U B.locs B.cells B.slots ∧ Post ⟨T.setVm vm₁, locs, cells, slots⟩ (Value.ref b :: argsL).toArray v B ∧
      ∀ target, Steps p.tables e below (B.U.setTop { g with pc := g.pc + 3, stack := v.toList ++ rest }) target → Steps p.tables e below (T.setTop g) target := by
  obtain ⟨mk, methM, hnamed, hmethM, hstM, habM⟩ := Cond.instanceMethod_spec hinst
  obtain ⟨m8, methM', cM, hn8, hmethM', -, -, -, -, -, -, hsigM⟩ := Cond.codeWith_spec hcode
  cases Option.some.inj (hn8.symm.trans hnamed)
  cases hmethM.symm.trans hmethM'
  obtain ⟨c2, r2, m2, q1, q2, q3, q4, kP, hkP, hkPi⟩ := Cond.selects_spec hsel
  cases hcls.symm.trans q1
  cases (State.methodFound?_of_named hnamed hy).symm.trans q2
  cases hnamed.symm.trans q3
  have hselP : selectMethod e.platform s.vm cellB.cls mk = .method mk := by rw [Launch.admits_selectMethod X.admits]; exact q4
  obtain ⟨vm₁, X₁, hstep₁⟩ := X.invokevirtual hexec hown hlink hnamed hmethM hstM hkP hkPi hy (a := b) (cell := cellB) hcell
    (fun z h => by rw [h] at hobj; cases hobj) hselP hmethM habM hkP hkPi (g := g) hg (argsL := argsL) (rest := rest) (hlen _ hsigM) hstack hdg
  obtain ⟨v, B, X', hpost, hsteps⟩ := hK m meth c ⟨T.setVm vm₁, locs, cells, slots⟩ { g with stack := rest } (.invokevirtual index) mk (Value.ref b :: argsL).toArray X₁ hg hsize hdg hW (X₁.named hnamed) (hpre vm₁ X₁.warmed)
  exact ⟨v, vm₁, B, X₁.warmed, X', hpost, fun target h => hstep₁ _ fun acts => by rw [doInvoke_state]; exact hsteps.trans h⟩
abbrev vx_CVW (R : Room) (s : State) (args : Array Value) (own C : String) (index : Nat) (y : MethodName) (bytes : ByteArray) (maxL : Nat) (ret : Option FieldType) (hh : List (Nat × Nat × Nat × Nat)) (ws : List Cond) (rm : Room) (mc ms n : Nat) : Prop :=
  (rm.cells = mc ∧ rm.slots = ms ∧ rm.frames + 1 ≤ R.frames ∧ 8 + (maxL + 11) + rm.locals ≤ R.locals ∧ (∀ w ∈ ws, ∀ (a' : Array Value) (U : State), s.WarmedH U.vm → w.before a' U = true) ∧ Cond.codeWith y bytes maxL ret hh ∈ ws) ∧
  (Cond.codeWith y bytes maxL ret hh).before args s = true ∧ (Cond.initialized y.cls).before args s = true ∧ (y.cls ≠ "java/lang/invoke/MethodHandle" ∧ y.cls ≠ "java/lang/invoke/VarHandle") ∧
  (∀ sig, parseMethodDescriptor y.desc = some sig → n = sig.parameters.length) ∧ (Cond.methodLink own index y).before args s = true ∧ (Cond.instanceMethod y).before args s = true ∧ (Cond.selects C y y).before args s = true
theorem vx_cwVW {own C : String} {index maxL mc ms : Nat} {y : MethodName} {bytes : ByteArray} {ret : Option FieldType} {hh : List (Nat × Nat × Nat × Nat)} {Ts ws ws' : List Cond} {rm : Room} (n : Nat) (ht : ∀ w ∈ Ts, w.before args s = true) (hT : GoodIn Ts (wsV own index C y ws)) (hw : ws = Cond.codeWith y bytes maxL ret hh :: ws') (hrc : rm.cells = mc) (hrs : rm.slots = ms)
    (hd : y.cls = C ∧ y.cls ≠ "java/lang/invoke/MethodHandle" ∧ y.cls ≠ "java/lang/invoke/VarHandle" ∧ (parseMethodDescriptor y.desc).map (fun d => d.parameters.length) = some n) (hR : rm.frames + 1 ≤ R.frames ∧ 8 + (maxL + 11) + rm.locals ≤ R.locals) :
    vx_CVW R s args own C index y bytes maxL ret hh ws rm mc ms n := by
  obtain ⟨hC, hd⟩ := hd
  subst hC
  have ok : ∀ w ∈ wsV own index y.cls y ws, w.before args s = true := fun w h => ht w (hT w h).1
  have hG : GoodIn Ts ws := fun w h => hT w (by unfold wsV; exact List.mem_append_right _ h)
  have hc : Cond.codeWith y bytes maxL ret hh ∈ ws := by rw [hw]; exact List.mem_cons_self
  refine ⟨⟨hrc, hrs, hR.1, hR.2, pay_in ht hG, hc⟩, ht _ (hG _ hc).1, ok _ (by simp [wsV]), ⟨hd.1, hd.2.1⟩, fun sig h => ?_, ok _ (by simp [wsV]), ok _ (by simp [wsV]), ok _ (by simp [wsV])⟩
  have h2 := hd.2.2
  rw [h] at h2
  exact (Option.some.inj h2).symm
theorem vx_runVW {y : MethodName} {bytes cc : ByteArray} {maxL nL mc ms n index : Nat} {ret : Option FieldType} {hh : List (Nat × Nat × Nat × Nat)} {ws : List Cond} {rm : Room} {Pc : Array Value → State → Prop} {Qc : Array Value → State → Outcome → State → Prop} {free : Addr → Prop} {Ts : List Cond} {own C : String} {b : Addr} {As rest : List Value} {g : JFrame}
    (S : CallFix p m c cc nL s args Ts own) (hM : Met l y ws rm Pc Qc mc ms free) (cw : vx_CVW R s args own C index y bytes maxL ret hh ws rm mc ms n) (hp : PreV s H C b Pc As)
    (hg : g.method = m) (hn : As.length = n) (hsize : g.locals.size = nL) (hstack : g.stack = As.reverse ++ .ref b :: rest) (hW : 2 * g.monitorRoom + (rest.map fun v => v.category).sum ≤ 8) (hdg : decode cc g.pc = .ok (.invokevirtual index, 3)) (hf : cells + mc ≤ R.cells ∧ slots + ms ≤ R.slots) :
    va_Run p l e R s m args below meth c H locs cells slots mc ms g rest (Qc (Value.ref b :: As).toArray) free := by
  obtain ⟨⟨hrc, hrs, hfr, hlo, hws, hcw⟩, hcode, hini, hy, hlen, hl, hin, hse⟩ := cw
  have hK : Back l R p e below s args y 3 8 (PreOf R mc ms Pc) (PostOf Qc mc ms free) := va_backW (hh := hh) (bytes := bytes) (maxL := maxL) (ret := ret) hM hp.1 hrc hrs hfr hlo hws hcw (fun a' U hW => word_at hW (Or.inl (by first | rfl | simp [Cond.onTables, Cond.keeps, Cond.steady])) hini)
  obtain ⟨hx, hb, hml, ho, -⟩ := S
  obtain ⟨-, ⟨cellB, hcB, hoB, hclB⟩, hPc⟩ := hp
  intro T hT X
  obtain ⟨v, vm₁, ⟨U', l2, c2, s2⟩, hW₁, X', ⟨g', mk, t, L, e1, e2, hq, h1, hL, h2, h3⟩, st⟩ := vx_callVW X hx (C := C) (hh := hh) (bytes := bytes) (maxL := maxL) (ret := ret) ho hl hin hse hcode hy hK (by rw [hT]; exact hcB) hoB hclB hg (hsize.trans hml.symm) (argsL := As) (rest := rest) (fun sig h => hn.trans (hlen sig h)) hstack hW (by rw [hb]; exact hdg)
    (fun vm₁ hW₁ => ⟨hf.1, hf.2, hPc (T.setVm vm₁) hT hW₁⟩)
  dsimp only [Pt.U, Pt.locs, Pt.cells, Pt.slots] at X' e1 e2 h1 h2 h3 st
  subst h1; subst h2; subst h3
  exact ⟨v, (T.setVm vm₁).calling g' mk (Value.ref b :: As).toArray, t, U', L, hT, X', hL, e1, e2, hq, st⟩
section
variable {y : MethodName} {bytes cc : ByteArray} {maxL nL mc ms n index : Nat} {ret : Option FieldType} {ws : List Cond} {rm : Room} {Pc : Array Value → State → Prop} {Qc : Array Value → State → Outcome → State → Prop} {XC : String → State → State → Prop} {free : Addr → Prop} {Ts : List Cond} {own C : String} {b : Addr} {As rest : List Value} {g : JFrame}
theorem vx_runVX {hh : List (Nat × Nat × Nat × Nat)} (S : CallFix p m c cc nL s args Ts own) (hM : vx_Met l y ws rm Pc Qc XC mc ms free) (cw : vx_CVW R s args own C index y bytes maxL ret hh ws rm mc ms n) (hp : PreV s H C b Pc As)
    (hg : g.method = m) (hn : As.length = n) (hsize : g.locals.size = nL) (hstack : g.stack = As.reverse ++ .ref b :: rest) (hW : 2 * g.monitorRoom + (rest.map fun v => v.category).sum ≤ 8) (hdg : decode cc g.pc = .ok (.invokevirtual index, 3)) (hf : cells + mc ≤ R.cells ∧ slots + ms ≤ R.slots) :
    vx_Run p l e R s m args below meth c H locs cells slots mc ms g rest (Qc (Value.ref b :: As).toArray) XC free := by
  obtain ⟨⟨hrc, hrs, hfr, hlo, hws, hcw⟩, hcode, hini, hy, hlen, hl, hin, hse⟩ := cw
  have hK : vx_Back l R p e below s args y 3 8 (PreOf R mc ms Pc) (PostOf Qc mc ms free) (vx_Post XC mc ms free) := vx_backW (hh := hh) (bytes := bytes) (maxL := maxL) (ret := ret) hM hp.1 hrc hrs hfr hlo hws hcw (fun a' U hW => word_at hW (Or.inl (by first | rfl | simp [Cond.onTables, Cond.keeps, Cond.steady])) hini)
  obtain ⟨hx, hb, hml, ho, -⟩ := S
  obtain ⟨-, ⟨cellB, hcB, hoB, hclB⟩, hPc⟩ := hp
  intro T hT X
  rcases vx_callVX X hx (C := C) (hh := hh) (bytes := bytes) (maxL := maxL) (ret := ret) ho hl hin hse hcode hy hK (by rw [hT]; exact hcB) hoB hclB hg (hsize.trans hml.symm) (argsL := As) (rest := rest) (fun sig h => hn.trans (hlen sig h)) hstack hW (by rw [hb]; exact hdg)
    (fun vm₁ hW₁ => ⟨hf.1, hf.2, hPc (T.setVm vm₁) hT hW₁⟩) with ⟨v, vm₁, ⟨U', l2, c2, s2⟩, hW₁, X', ⟨g', mk, t, L, e1, e2, hq, h1, hL, h2, h3⟩, st⟩ | ⟨q, vm₁, ⟨U', l2, c2, s2⟩, hW₁, X', ⟨g', mk, t, L, E, ce, e1, e2, hq, hce, hcv, hcl, h1, hL, h2, h3⟩, st⟩
  · dsimp only [Pt.U, Pt.locs, Pt.cells, Pt.slots] at X' e1 e2 h1 h2 h3 st
    subst h1; subst h2; subst h3
    exact Or.inl ⟨v, (T.setVm vm₁).calling g' mk (Value.ref b :: As).toArray, t, U', L, hT, X', hL, e1, e2, hq, st⟩
  · dsimp only [Pt.U, Pt.locs, Pt.cells, Pt.slots] at X' e1 e2 h1 h2 h3 st hcl
    subst h1; subst h2; subst h3
    exact Or.inr ⟨q, (T.setVm vm₁).calling g' mk (Value.ref b :: As).toArray, t, U', L, E, ce, hT, X', hL, e1, e2, hq, hce, hcv, vx_cls hW₁ hcl, st⟩
theorem vx_runSX {hh : List (Nat × Nat × Nat × Nat)} (S : CallFix p m c cc nL s args Ts own) (hM : vx_Met l y ws rm Pc Qc XC mc ms free) (cw : vx_CSW R s args own index y bytes maxL ret hh ws rm mc ms n) (hp : PreS s H Pc As)
    (hg : g.method = m) (hn : As.length = n) (hsize : g.locals.size = nL) (hstack : g.stack = As.reverse ++ rest) (hW : 2 * g.monitorRoom + (rest.map fun v => v.category).sum ≤ 8) (hdg : decode cc g.pc = .ok (.invokestatic index, 3)) (hf : cells + mc ≤ R.cells ∧ slots + ms ≤ R.slots) :
    vx_Run p l e R s m args below meth c H locs cells slots mc ms g rest (Qc As.toArray) XC free := by
  obtain ⟨⟨hrc, hrs, hfr, hlo, hws, hcw⟩, hcode, hini, hy, hlen, hl, hstt⟩ := cw
  have hK : vx_Back l R p e below s args y 3 8 (PreOf R mc ms Pc) (PostOf Qc mc ms free) (vx_Post XC mc ms free) := vx_backW (hh := hh) (bytes := bytes) (maxL := maxL) (ret := ret) hM hp.1 hrc hrs hfr hlo hws hcw (fun a' U hW => word_at hW (Or.inl (by first | rfl | simp [Cond.onTables, Cond.keeps, Cond.steady])) hini)
  obtain ⟨hx, hb, hml, ho, -⟩ := S
  intro T hT X
  rcases vx_callSX X hx (hh := hh) (bytes := bytes) (maxL := maxL) (ret := ret) ho hl hstt hini hcode hy hK hg (hsize.trans hml.symm) (argsL := As) (rest := rest) (fun sig h => hn.trans (hlen sig h)) hstack hW (by rw [hb]; exact hdg)
    (fun vm₁ hW₁ => ⟨hf.1, hf.2, hp.2 (T.setVm vm₁) hT hW₁⟩) with ⟨v, vm₁, ⟨U', l2, c2, s2⟩, hW₁, X', ⟨g', mk, t, L, e1, e2, hq, h1, hL, h2, h3⟩, st⟩ | ⟨q, vm₁, ⟨U', l2, c2, s2⟩, hW₁, X', ⟨g', mk, t, L, E, ce, e1, e2, hq, hce, hcv, hcl, h1, hL, h2, h3⟩, st⟩
  · dsimp only [Pt.U, Pt.locs, Pt.cells, Pt.slots] at X' e1 e2 h1 h2 h3 st
    subst h1; subst h2; subst h3
    exact Or.inl ⟨v, (T.setVm vm₁).calling g' mk As.toArray, t, U', L, hT, X', hL, e1, e2, hq, st⟩
  · dsimp only [Pt.U, Pt.locs, Pt.cells, Pt.slots] at X' e1 e2 h1 h2 h3 st hcl
    subst h1; subst h2; subst h3
    exact Or.inr ⟨q, (T.setVm vm₁).calling g' mk As.toArray, t, U', L, E, ce, hT, X', hL, e1, e2, hq, hce, hcv, vx_cls hW₁ hcl, st⟩
end
end VXH
theorem vx_ofWH {l : Launch} {y : MethodName} {ws ws' : List Cond} {rm : Room} {Pc : Array Value → State → Prop} {Qc : Array Value → State → Outcome → State → Prop} {XC : String → State → State → Prop} {mc ms : Nat} {free : Addr → Prop} {cc : ByteArray} {maxL : Nat} {ret : Option FieldType} {hh : List (Nat × Nat × Nat × Nat)}
    (hy : plainName y.cls = true) (hw : ws = Cond.codeWith y cc maxL ret hh :: ws')
    (body : ∀ p e s m args below meth c s₁, BodyLoose p l y (headSpec ws rm) cc maxL ret e s m args below meth c s₁ → c.maxLocals = maxL → Pc args s →
      W p l e (headSpec ws rm).room s m args below meth c s.heap [] 0 0 (vx_MQ below Qc XC args s mc ms free) (entryFrame m args maxL)) : vx_Met l y ws rm Pc Qc XC mc ms free := by
  refine MetFree.of_bodyS (code := cc) (maxLocals := maxL) (ret := ret) hy ?_ ?_
  · intro args s m h hn
    obtain ⟨m9, meth, c, hn9, h1, h2, h3, h4, -, h5, h6, -⟩ := Cond.codeWith_spec (atoms_spec (ws := ws) h _ (by rw [hw]; exact List.mem_cons_self))
    cases hn.symm.trans hn9
    exact ⟨meth, c, h1, h2, h3, h4, h5, h6⟩
  · intro p e s m args below meth c s₁ B hml hP _
    have hh0 : s₁.heap = s.heap := by rw [B.state]; rfl
    obtain ⟨t, a1, o, b1, b2, b3⟩ := body p e s m args below meth c s₁ B hml hP s₁ hh0 (Stand.of_body B)
    exact ⟨t, o, a1, b1, b2, b3⟩
/-! ===== END ===== -/
end
section
/-! names of classes, fields, methods (printed by program from the claim, taken over) -/
def RX0 : String := "Twinphase$Cell"
def TX0 : u_T := fun k => match k with
  | 0 => ("Twinphase$Cell", "node", "I", false)
  | 1 => ("Twinphase$Cell", "beginsRange", "Z", false)
  | 2 => ("Twinphase$Cell", "owner", "LTwinphase$Transaction;", false)
  | 3 => ("Twinphase$Cell", "isSure", "Z", false)
  | 4 => ("Twinphase$Cell", "readStamp", "I", false)
  | _ => ("Twinphase$Cell", "readBy", "I", false)
def tyX0 : Nat → FieldType := fun k => match k with
  | 0 => .int
  | 1 => .boolean
  | 2 => .object "Twinphase$Transaction"
  | 3 => .boolean
  | 4 => .int
  | _ => .int
abbrev wsX00 : List Cond := u_ws RX0 TX0 6
theorem nmX0 : ∀ a, a < 6 → ∀ b, b < 6 → a ≠ b → (TX0 a).2.1 ≠ (TX0 b).2.1 := by decide +kernel
theorem tyX0_ok : ∀ k, k < 6 → parseFieldDescriptor (TX0 k).2.2.1 = some (tyX0 k) := by decide +kernel
abbrev cX0_init : ByteArray := prog_2_method_1_code
def yX0_init : MethodName := ⟨RX0, "<init>", "()V"⟩
abbrev cX0_noteReader : ByteArray := prog_2_method_2_code
def yX0_noteReader : MethodName := ⟨RX0, "noteReader", "(II)V"⟩
abbrev cX0_noteSeveral : ByteArray := prog_2_method_3_code
def yX0_noteSeveral : MethodName := ⟨RX0, "noteSeveral", "(I)V"⟩
def RX1 : String := "Twinphase$History"
def TX1 : u_T := fun k => match k with
  | 0 => ("Twinphase$History", "changes", "[I", false)
  | 1 => ("Twinphase$History", "values", "[I", false)
  | 2 => ("Twinphase$History", "count", "I", false)
  | 3 => ("Twinphase$History", "inOrder", "[LTwinphase$Transaction;", true)
  | 4 => ("Twinphase$History", "committed", "I", false)
  | _ => ("Twinphase$History", "redone", "[I", true)
def tyX1 : Nat → FieldType := fun k => match k with
  | 0 => .array .int
  | 1 => .array .int
  | 2 => .int
  | 3 => .array (.object "Twinphase$Transaction")
  | 4 => .int
  | _ => .array .int
abbrev wsX10 : List Cond := u_ws RX1 TX1 6
theorem nmX1 : ∀ a, a < 6 → ∀ b, b < 6 → a ≠ b → (TX1 a).2.1 ≠ (TX1 b).2.1 := by decide +kernel
theorem tyX1_ok : ∀ k, k < 6 → parseFieldDescriptor (TX1 k).2.2.1 = some (tyX1 k) := by decide +kernel
abbrev cX1_init : ByteArray := prog_3_method_1_code
def yX1_init : MethodName := ⟨RX1, "<init>", "()V"⟩
abbrev cX1_addChange : ByteArray := prog_3_method_2_code
def yX1_addChange : MethodName := ⟨RX1, "addChange", "(III)V"⟩
abbrev cX1_placeUpTo : ByteArray := prog_3_method_3_code
def yX1_placeUpTo : MethodName := ⟨RX1, "placeUpTo", "(II)I"⟩
abbrev cX1_stampUpTo : ByteArray := prog_3_method_4_code
def yX1_stampUpTo : MethodName := ⟨RX1, "stampUpTo", "(II)I"⟩
abbrev cX1_valueUpTo : ByteArray := prog_3_method_5_code
def yX1_valueUpTo : MethodName := ⟨RX1, "valueUpTo", "(II)I"⟩
abbrev cX1_countOf : ByteArray := prog_3_method_6_code
def yX1_countOf : MethodName := ⟨RX1, "countOf", "(I)I"⟩
abbrev cX1_changeAt : ByteArray := prog_3_method_7_code
def yX1_changeAt : MethodName := ⟨RX1, "changeAt", "(II)I"⟩
abbrev cX1_addCommitted : ByteArray := prog_3_method_8_code
def yX1_addCommitted : MethodName := ⟨RX1, "addCommitted", "(LTwinphase$Transaction;)V"⟩
abbrev cX1_committedAt : ByteArray := prog_3_method_9_code
def yX1_committedAt : MethodName := ⟨RX1, "committedAt", "(I)LTwinphase$Transaction;"⟩
abbrev cX1_countUnexplained : ByteArray := prog_3_method_10_code
def yX1_countUnexplained : MethodName := ⟨RX1, "countUnexplained", "()I"⟩
abbrev cX1_redo : ByteArray := prog_3_method_11_code
def yX1_redo : MethodName := ⟨RX1, "redo", "(LTwinphase$Transaction;)I"⟩
def RX2 : String := "Twinphase$Node"
def TX2 : u_T := fun k => match k with
  | 0 => ("Twinphase$Node", "ahead", "I", false)
  | 1 => ("Twinphase$Node", "greatestMet", "I", false)
  | _ => ("Twinphase$Node", "isDown", "Z", false)
def tyX2 : Nat → FieldType := fun k => match k with
  | 0 => .int
  | 1 => .int
  | _ => .boolean
abbrev wsX20 : List Cond := u_ws RX2 TX2 3
theorem nmX2 : ∀ a, a < 3 → ∀ b, b < 3 → a ≠ b → (TX2 a).2.1 ≠ (TX2 b).2.1 := by decide +kernel
theorem tyX2_ok : ∀ k, k < 3 → parseFieldDescriptor (TX2 k).2.2.1 = some (tyX2 k) := by decide +kernel
abbrev cX2_init : ByteArray := prog_4_method_1_code
def yX2_init : MethodName := ⟨RX2, "<init>", "()V"⟩
abbrev cX2_tellStamp : ByteArray := prog_4_method_2_code
def yX2_tellStamp : MethodName := ⟨RX2, "tellStamp", "(I)I"⟩
abbrev cX2_meetStamp : ByteArray := prog_4_method_3_code
def yX2_meetStamp : MethodName := ⟨RX2, "meetStamp", "(I)V"⟩
def RX3 : String := "Twinphase$Transaction"
def TX3 : u_T := fun k => match k with
  | 0 => ("Twinphase$Transaction", "number", "I", true)
  | 1 => ("Twinphase$Transaction", "home", "I", true)
  | 2 => ("Twinphase$Transaction", "rank", "I", true)
  | 3 => ("Twinphase$Transaction", "doubt", "I", true)
  | 4 => ("Twinphase$Transaction", "state", "I", false)
  | 5 => ("Twinphase$Transaction", "readStamp", "I", false)
  | 6 => ("Twinphase$Transaction", "writeStamp", "I", false)
  | 7 => ("Twinphase$Transaction", "lastBeat", "I", false)
  | 8 => ("Twinphase$Transaction", "awaited", "LTwinphase$Transaction;", false)
  | 9 => ("Twinphase$Transaction", "readKeys", "I", false)
  | 10 => ("Twinphase$Transaction", "writtenKeys", "I", false)
  | 11 => ("Twinphase$Transaction", "askedNodes", "I", false)
  | 12 => ("Twinphase$Transaction", "readValues", "[I", true)
  | 13 => ("Twinphase$Transaction", "writtenValues", "[I", true)
  | _ => ("Twinphase$Transaction", "doubts", "[I", true)
def tyX3 : Nat → FieldType := fun k => match k with
  | 0 => .int
  | 1 => .int
  | 2 => .int
  | 3 => .int
  | 4 => .int
  | 5 => .int
  | 6 => .int
  | 7 => .int
  | 8 => .object "Twinphase$Transaction"
  | 9 => .int
  | 10 => .int
  | 11 => .int
  | 12 => .array .int
  | 13 => .array .int
  | _ => .array .int
abbrev wsX30 : List Cond := u_ws RX3 TX3 15
theorem nmX3 : ∀ a, a < 15 → ∀ b, b < 15 → a ≠ b → (TX3 a).2.1 ≠ (TX3 b).2.1 := by decide +kernel
theorem tyX3_ok : ∀ k, k < 15 → parseFieldDescriptor (TX3 k).2.2.1 = some (tyX3 k) := by decide +kernel
abbrev cX3_init : ByteArray := prog_5_method_1_code
def yX3_init : MethodName := ⟨RX3, "<init>", "(IIIII)V"⟩
abbrev cX3_isVanished : ByteArray := prog_5_method_2_code
def yX3_isVanished : MethodName := ⟨RX3, "isVanished", "(I)Z"⟩
abbrev cX3_waitsFor : ByteArray := prog_5_method_3_code
def yX3_waitsFor : MethodName := ⟨RX3, "waitsFor", "()LTwinphase$Transaction;"⟩
abbrev cX3_yieldsBefore : ByteArray := prog_5_method_4_code
def yX3_yieldsBefore : MethodName := ⟨RX3, "yieldsBefore", "(LTwinphase$Transaction;)Z"⟩
abbrev cX3_hasAsked : ByteArray := prog_5_method_5_code
def yX3_hasAsked : MethodName := ⟨RX3, "hasAsked", "(I)Z"⟩
abbrev cX3_noteClock : ByteArray := prog_5_method_6_code
def yX3_noteClock : MethodName := ⟨RX3, "noteClock", "(II)V"⟩
abbrev cX3_hasRead : ByteArray := prog_5_method_7_code
def yX3_hasRead : MethodName := ⟨RX3, "hasRead", "(I)Z"⟩
abbrev cX3_noteRead : ByteArray := prog_5_method_8_code
def yX3_noteRead : MethodName := ⟨RX3, "noteRead", "(II)I"⟩
abbrev cX3_writes : ByteArray := prog_5_method_9_code
def yX3_writes : MethodName := ⟨RX3, "writes", "(I)Z"⟩
abbrev cX3_noteWrite : ByteArray := prog_5_method_10_code
def yX3_noteWrite : MethodName := ⟨RX3, "noteWrite", "(II)V"⟩
abbrev cX3_forgetAll : ByteArray := prog_5_method_11_code
def yX3_forgetAll : MethodName := ⟨RX3, "forgetAll", "(I)V"⟩
abbrev cX3_raiseStamps : ByteArray := prog_5_method_12_code
def yX3_raiseStamps : MethodName := ⟨RX3, "raiseStamps", "(I)V"⟩
def RX4 : String := "Twinphase"
def TX4 : u_T := fun k => match k with
  | 0 => ("Twinphase", "time", "I", false)
  | 1 => ("Twinphase", "nodes", "[LTwinphase$Node;", true)
  | 2 => ("Twinphase", "cells", "[LTwinphase$Cell;", true)
  | 3 => ("Twinphase", "transactions", "[LTwinphase$Transaction;", true)
  | 4 => ("Twinphase", "begun", "I", false)
  | _ => ("Twinphase", "history", "LTwinphase$History;", true)
def tyX4 : Nat → FieldType := fun k => match k with
  | 0 => .int
  | 1 => .array (.object "Twinphase$Node")
  | 2 => .array (.object "Twinphase$Cell")
  | 3 => .array (.object "Twinphase$Transaction")
  | 4 => .int
  | _ => .object "Twinphase$History"
abbrev wsX40 : List Cond := u_ws RX4 TX4 6
theorem nmX4 : ∀ a, a < 6 → ∀ b, b < 6 → a ≠ b → (TX4 a).2.1 ≠ (TX4 b).2.1 := by decide +kernel
theorem tyX4_ok : ∀ k, k < 6 → parseFieldDescriptor (TX4 k).2.2.1 = some (tyX4 k) := by decide +kernel
abbrev cX4_init : ByteArray := prog_1_method_1_code
def yX4_init : MethodName := ⟨RX4, "<init>", "()V"⟩
abbrev cX4_pass : ByteArray := prog_1_method_2_code
def yX4_pass : MethodName := ⟨RX4, "pass", "(I)I"⟩
abbrev cX4_skew : ByteArray := prog_1_method_3_code
def yX4_skew : MethodName := ⟨RX4, "skew", "(II)I"⟩
abbrev cX4_clock : ByteArray := prog_1_method_4_code
def yX4_clock : MethodName := ⟨RX4, "clock", "(I)I"⟩
abbrev cX4_closed : ByteArray := prog_1_method_5_code
def yX4_closed : MethodName := ⟨RX4, "closed", "()I"⟩
abbrev cX4_down : ByteArray := prog_1_method_6_code
def yX4_down : MethodName := ⟨RX4, "down", "(I)I"⟩
abbrev cX4_up : ByteArray := prog_1_method_7_code
def yX4_up : MethodName := ⟨RX4, "up", "(I)I"⟩
abbrev cX4_sync : ByteArray := prog_1_method_8_code
def yX4_sync : MethodName := ⟨RX4, "sync", "(I)I"⟩
abbrev cX4_split : ByteArray := prog_1_method_9_code
def yX4_split : MethodName := ⟨RX4, "split", "(I)I"⟩
abbrev cX4_merge : ByteArray := prog_1_method_10_code
def yX4_merge : MethodName := ⟨RX4, "merge", "(I)I"⟩
abbrev cX4_move : ByteArray := prog_1_method_11_code
def yX4_move : MethodName := ⟨RX4, "move", "(II)I"⟩
abbrev cX4_begin : ByteArray := prog_1_method_12_code
def yX4_begin : MethodName := ⟨RX4, "begin", "(II)I"⟩
abbrev cX4_get : ByteArray := prog_1_method_13_code
def yX4_get : MethodName := ⟨RX4, "get", "(II)I"⟩
abbrev cX4_put : ByteArray := prog_1_method_14_code
def yX4_put : MethodName := ⟨RX4, "put", "(III)I"⟩
abbrev cX4_commit : ByteArray := prog_1_method_15_code
def yX4_commit : MethodName := ⟨RX4, "commit", "(IZ)I"⟩
abbrev cX4_abort : ByteArray := prog_1_method_16_code
def yX4_abort : MethodName := ⟨RX4, "abort", "(I)I"⟩
abbrev cX4_recover : ByteArray := prog_1_method_17_code
def yX4_recover : MethodName := ⟨RX4, "recover", "(I)I"⟩
abbrev cX4_beat : ByteArray := prog_1_method_18_code
def yX4_beat : MethodName := ⟨RX4, "beat", "(I)I"⟩
abbrev cX4_told : ByteArray := prog_1_method_19_code
def yX4_told : MethodName := ⟨RX4, "told", "(II)I"⟩
abbrev cX4_key : ByteArray := prog_1_method_20_code
def yX4_key : MethodName := ⟨RX4, "key", "(II)I"⟩
abbrev cX4_asOf : ByteArray := prog_1_method_21_code
def yX4_asOf : MethodName := ⟨RX4, "asOf", "(II)I"⟩
abbrev cX4_resolved : ByteArray := prog_1_method_22_code
def yX4_resolved : MethodName := ⟨RX4, "resolved", "()I"⟩
abbrev cX4_feed : ByteArray := prog_1_method_23_code
def yX4_feed : MethodName := ⟨RX4, "feed", "(I)I"⟩
abbrev cX4_order : ByteArray := prog_1_method_24_code
def yX4_order : MethodName := ⟨RX4, "order", "(I)I"⟩
abbrev cX4_judged : ByteArray := prog_1_method_25_code
def yX4_judged : MethodName := ⟨RX4, "judged", "()I"⟩
abbrev cX4_needNode : ByteArray := prog_1_method_26_code
def yX4_needNode : MethodName := ⟨RX4, "needNode", "(I)V"⟩
abbrev cX4_needUp : ByteArray := prog_1_method_27_code
def yX4_needUp : MethodName := ⟨RX4, "needUp", "(I)V"⟩
abbrev cX4_needKey : ByteArray := prog_1_method_28_code
def yX4_needKey : MethodName := ⟨RX4, "needKey", "(I)V"⟩
abbrev cX4_needTransaction : ByteArray := prog_1_method_29_code
def yX4_needTransaction : MethodName := ⟨RX4, "needTransaction", "(I)V"⟩
abbrev cX4_needPlace : ByteArray := prog_1_method_30_code
def yX4_needPlace : MethodName := ⟨RX4, "needPlace", "(I)V"⟩
abbrev cX4_needWhat : ByteArray := prog_1_method_31_code
def yX4_needWhat : MethodName := ⟨RX4, "needWhat", "(I)V"⟩
abbrev cX4_closedStamp : ByteArray := prog_1_method_32_code
def yX4_closedStamp : MethodName := ⟨RX4, "closedStamp", "()I"⟩
abbrev cX4_resolvedStamp : ByteArray := prog_1_method_33_code
def yX4_resolvedStamp : MethodName := ⟨RX4, "resolvedStamp", "()I"⟩
abbrev cX4_rangeOf : ByteArray := prog_1_method_34_code
def yX4_rangeOf : MethodName := ⟨RX4, "rangeOf", "(I)I"⟩
abbrev cX4_firstKeyOf : ByteArray := prog_1_method_35_code
def yX4_firstKeyOf : MethodName := ⟨RX4, "firstKeyOf", "(I)I"⟩
abbrev cX4_refusalAt : ByteArray := prog_1_method_36_code
def yX4_refusalAt : MethodName := ⟨RX4, "refusalAt", "(LTwinphase$Transaction;I)I"⟩
abbrev cX4_askNode : ByteArray := prog_1_method_37_code
def yX4_askNode : MethodName := ⟨RX4, "askNode", "(LTwinphase$Transaction;I)V"⟩
abbrev cX4_meetIntent : ByteArray := prog_1_method_38_code
def yX4_meetIntent : MethodName := ⟨RX4, "meetIntent", "(LTwinphase$Transaction;I)LTwinphase$Transaction;"⟩
abbrev cX4_waitFor : ByteArray := prog_1_method_39_code
def yX4_waitFor : MethodName := ⟨RX4, "waitFor", "(LTwinphase$Transaction;LTwinphase$Transaction;)I"⟩
abbrev cX4_victimOfRing : ByteArray := prog_1_method_40_code
def yX4_victimOfRing : MethodName := ⟨RX4, "victimOfRing", "(LTwinphase$Transaction;)LTwinphase$Transaction;"⟩
abbrev cX4_lookToRead : ByteArray := prog_1_method_41_code
def yX4_lookToRead : MethodName := ⟨RX4, "lookToRead", "(LTwinphase$Transaction;I)I"⟩
abbrev cX4_refreshReads : ByteArray := prog_1_method_42_code
def yX4_refreshReads : MethodName := ⟨RX4, "refreshReads", "(LTwinphase$Transaction;I)Z"⟩
abbrev cX4_restartAt : ByteArray := prog_1_method_43_code
def yX4_restartAt : MethodName := ⟨RX4, "restartAt", "(LTwinphase$Transaction;I)I"⟩
abbrev cX4_lookToWrite : ByteArray := prog_1_method_44_code
def yX4_lookToWrite : MethodName := ⟨RX4, "lookToWrite", "(LTwinphase$Transaction;II)I"⟩
abbrev cX4_writesOnDownNode : ByteArray := prog_1_method_45_code
def yX4_writesOnDownNode : MethodName := ⟨RX4, "writesOnDownNode", "(LTwinphase$Transaction;)Z"⟩
abbrev cX4_hasAllIntents : ByteArray := prog_1_method_46_code
def yX4_hasAllIntents : MethodName := ⟨RX4, "hasAllIntents", "(LTwinphase$Transaction;)Z"⟩
abbrev cX4_decideStaged : ByteArray := prog_1_method_47_code
def yX4_decideStaged : MethodName := ⟨RX4, "decideStaged", "(LTwinphase$Transaction;)V"⟩
def RX5 : String := "TwinphaseModel"
def TX5 : u_T := fun k => match k with
  | 0 => ("TwinphaseModel", "time", "I", false)
  | 1 => ("TwinphaseModel", "skews", "[I", true)
  | 2 => ("TwinphaseModel", "met", "[I", true)
  | 3 => ("TwinphaseModel", "isDown", "[Z", true)
  | 4 => ("TwinphaseModel", "ranges", "I", false)
  | 5 => ("TwinphaseModel", "begins", "[I", true)
  | 6 => ("TwinphaseModel", "nodes", "[I", true)
  | 7 => ("TwinphaseModel", "owner", "[I", true)
  | 8 => ("TwinphaseModel", "isSure", "[Z", true)
  | 9 => ("TwinphaseModel", "meant", "[I", true)
  | 10 => ("TwinphaseModel", "readAt", "[I", true)
  | 11 => ("TwinphaseModel", "readBy", "[I", true)
  | 12 => ("TwinphaseModel", "versions", "I", false)
  | 13 => ("TwinphaseModel", "vKey", "[I", true)
  | 14 => ("TwinphaseModel", "vStamp", "[I", true)
  | 15 => ("TwinphaseModel", "vValue", "[I", true)
  | 16 => ("TwinphaseModel", "many", "I", false)
  | 17 => ("TwinphaseModel", "home", "[I", true)
  | 18 => ("TwinphaseModel", "rank", "[I", true)
  | 19 => ("TwinphaseModel", "reads", "[I", true)
  | 20 => ("TwinphaseModel", "writes", "[I", true)
  | 21 => ("TwinphaseModel", "doubt", "[I", true)
  | 22 => ("TwinphaseModel", "beaten", "[I", true)
  | 23 => ("TwinphaseModel", "state", "[I", true)
  | 24 => ("TwinphaseModel", "waits", "[I", true)
  | 25 => ("TwinphaseModel", "committedAs", "[I", true)
  | 26 => ("TwinphaseModel", "commits", "I", false)
  | 27 => ("TwinphaseModel", "doubtAt", "[I", true)
  | 28 => ("TwinphaseModel", "valueRead", "[I", true)
  | 29 => ("TwinphaseModel", "valueWritten", "[I", true)
  | 30 => ("TwinphaseModel", "once", "[I", true)
  | _ => ("TwinphaseModel", "thrown", "I", false)
def tyX5 : Nat → FieldType := fun k => match k with
  | 0 => .int
  | 1 => .array .int
  | 2 => .array .int
  | 3 => .array .boolean
  | 4 => .int
  | 5 => .array .int
  | 6 => .array .int
  | 7 => .array .int
  | 8 => .array .boolean
  | 9 => .array .int
  | 10 => .array .int
  | 11 => .array .int
  | 12 => .int
  | 13 => .array .int
  | 14 => .array .int
  | 15 => .array .int
  | 16 => .int
  | 17 => .array .int
  | 18 => .array .int
  | 19 => .array .int
  | 20 => .array .int
  | 21 => .array .int
  | 22 => .array .int
  | 23 => .array .int
  | 24 => .array .int
  | 25 => .array .int
  | 26 => .int
  | 27 => .array .int
  | 28 => .array .int
  | 29 => .array .int
  | 30 => .array .int
  | _ => .int
abbrev wsX50 : List Cond := u_ws RX5 TX5 32
theorem nmX5 : ∀ a, a < 32 → ∀ b, b < 32 → a ≠ b → (TX5 a).2.1 ≠ (TX5 b).2.1 := by decide +kernel
theorem tyX5_ok : ∀ k, k < 32 → parseFieldDescriptor (TX5 k).2.2.1 = some (tyX5 k) := by decide +kernel
abbrev cX5_init : ByteArray := prog_7_method_1_code
def yX5_init : MethodName := ⟨RX5, "<init>", "()V"⟩
abbrev cX5_thrown : ByteArray := prog_7_method_2_code
def yX5_thrown : MethodName := ⟨RX5, "thrown", "()I"⟩
abbrev cX5_in : ByteArray := prog_7_method_3_code
def yX5_in : MethodName := ⟨RX5, "in", "(III)Z"⟩
abbrev cX5_greater : ByteArray := prog_7_method_4_code
def yX5_greater : MethodName := ⟨RX5, "greater", "(II)I"⟩
abbrev cX5_pass : ByteArray := prog_7_method_5_code
def yX5_pass : MethodName := ⟨RX5, "pass", "(I)I"⟩
abbrev cX5_skew : ByteArray := prog_7_method_6_code
def yX5_skew : MethodName := ⟨RX5, "skew", "(II)I"⟩
abbrev cX5_asks : ByteArray := prog_7_method_7_code
def yX5_asks : MethodName := ⟨RX5, "asks", "(I)I"⟩
abbrev cX5_clock : ByteArray := prog_7_method_8_code
def yX5_clock : MethodName := ⟨RX5, "clock", "(I)I"⟩
abbrev cX5_closedNow : ByteArray := prog_7_method_9_code
def yX5_closedNow : MethodName := ⟨RX5, "closedNow", "()I"⟩
abbrev cX5_closed : ByteArray := prog_7_method_10_code
def yX5_closed : MethodName := ⟨RX5, "closed", "()I"⟩
abbrev cX5_rangeOf : ByteArray := prog_7_method_11_code
def yX5_rangeOf : MethodName := ⟨RX5, "rangeOf", "(I)I"⟩
abbrev cX5_nodeOf : ByteArray := prog_7_method_12_code
def yX5_nodeOf : MethodName := ⟨RX5, "nodeOf", "(I)I"⟩
abbrev cX5_down : ByteArray := prog_7_method_13_code
def yX5_down : MethodName := ⟨RX5, "down", "(I)I"⟩
abbrev cX5_covers : ByteArray := prog_7_method_14_code
def yX5_covers : MethodName := ⟨RX5, "covers", "(II)V"⟩
abbrev cX5_up : ByteArray := prog_7_method_15_code
def yX5_up : MethodName := ⟨RX5, "up", "(I)I"⟩
abbrev cX5_sync : ByteArray := prog_7_method_16_code
def yX5_sync : MethodName := ⟨RX5, "sync", "(I)I"⟩
abbrev cX5_split : ByteArray := prog_7_method_17_code
def yX5_split : MethodName := ⟨RX5, "split", "(I)I"⟩
abbrev cX5_merge : ByteArray := prog_7_method_18_code
def yX5_merge : MethodName := ⟨RX5, "merge", "(I)I"⟩
abbrev cX5_move : ByteArray := prog_7_method_19_code
def yX5_move : MethodName := ⟨RX5, "move", "(II)I"⟩
abbrev cX5_begin : ByteArray := prog_7_method_20_code
def yX5_begin : MethodName := ⟨RX5, "begin", "(II)I"⟩
abbrev cX5_forgets : ByteArray := prog_7_method_21_code
def yX5_forgets : MethodName := ⟨RX5, "forgets", "(I)V"⟩
abbrev cX5_isVanished : ByteArray := prog_7_method_22_code
def yX5_isVanished : MethodName := ⟨RX5, "isVanished", "(I)Z"⟩
abbrev cX5_commits : ByteArray := prog_7_method_23_code
def yX5_commits : MethodName := ⟨RX5, "commits", "(I)V"⟩
abbrev cX5_hasAllIntents : ByteArray := prog_7_method_24_code
def yX5_hasAllIntents : MethodName := ⟨RX5, "hasAllIntents", "(I)Z"⟩
abbrev cX5_recovers : ByteArray := prog_7_method_25_code
def yX5_recovers : MethodName := ⟨RX5, "recovers", "(I)V"⟩
abbrev cX5_meets : ByteArray := prog_7_method_26_code
def yX5_meets : MethodName := ⟨RX5, "meets", "(II)I"⟩
abbrev cX5_latest : ByteArray := prog_7_method_27_code
def yX5_latest : MethodName := ⟨RX5, "latest", "(II)I"⟩
abbrev cX5_valueAt : ByteArray := prog_7_method_28_code
def yX5_valueAt : MethodName := ⟨RX5, "valueAt", "(II)I"⟩
abbrev cX5_marks : ByteArray := prog_7_method_29_code
def yX5_marks : MethodName := ⟨RX5, "marks", "(III)V"⟩
abbrev cX5_refreshes : ByteArray := prog_7_method_30_code
def yX5_refreshes : MethodName := ⟨RX5, "refreshes", "(II)Z"⟩
abbrev cX5_restarts : ByteArray := prog_7_method_31_code
def yX5_restarts : MethodName := ⟨RX5, "restarts", "(II)I"⟩
abbrev cX5_waitsFor : ByteArray := prog_7_method_32_code
def yX5_waitsFor : MethodName := ⟨RX5, "waitsFor", "(I)I"⟩
abbrev cX5_comesAnew : ByteArray := prog_7_method_33_code
def yX5_comesAnew : MethodName := ⟨RX5, "comesAnew", "(II)Z"⟩
abbrev cX5_waitAnswer : ByteArray := prog_7_method_34_code
def yX5_waitAnswer : MethodName := ⟨RX5, "waitAnswer", "(I)I"⟩
abbrev cX5_opens : ByteArray := prog_7_method_35_code
def yX5_opens : MethodName := ⟨RX5, "opens", "(II)I"⟩
abbrev cX5_areThere : ByteArray := prog_7_method_36_code
def yX5_areThere : MethodName := ⟨RX5, "areThere", "(II)Z"⟩
abbrev cX5_get : ByteArray := prog_7_method_37_code
def yX5_get : MethodName := ⟨RX5, "get", "(II)I"⟩
abbrev cX5_put : ByteArray := prog_7_method_38_code
def yX5_put : MethodName := ⟨RX5, "put", "(III)I"⟩
abbrev cX5_counts : ByteArray := prog_7_method_39_code
def yX5_counts : MethodName := ⟨RX5, "counts", "(I[I)I"⟩
abbrev cX5_isTransaction : ByteArray := prog_7_method_40_code
def yX5_isTransaction : MethodName := ⟨RX5, "isTransaction", "(I)Z"⟩
abbrev cX5_commit : ByteArray := prog_7_method_41_code
def yX5_commit : MethodName := ⟨RX5, "commit", "(IZ)I"⟩
abbrev cX5_abort : ByteArray := prog_7_method_42_code
def yX5_abort : MethodName := ⟨RX5, "abort", "(I)I"⟩
abbrev cX5_recover : ByteArray := prog_7_method_43_code
def yX5_recover : MethodName := ⟨RX5, "recover", "(I)I"⟩
abbrev cX5_beat : ByteArray := prog_7_method_44_code
def yX5_beat : MethodName := ⟨RX5, "beat", "(I)I"⟩
abbrev cX5_told : ByteArray := prog_7_method_45_code
def yX5_told : MethodName := ⟨RX5, "told", "(II)I"⟩
abbrev cX5_key : ByteArray := prog_7_method_46_code
def yX5_key : MethodName := ⟨RX5, "key", "(II)I"⟩
abbrev cX5_asOf : ByteArray := prog_7_method_47_code
def yX5_asOf : MethodName := ⟨RX5, "asOf", "(II)I"⟩
abbrev cX5_resolvedNow : ByteArray := prog_7_method_48_code
def yX5_resolvedNow : MethodName := ⟨RX5, "resolvedNow", "()I"⟩
abbrev cX5_resolved : ByteArray := prog_7_method_49_code
def yX5_resolved : MethodName := ⟨RX5, "resolved", "()I"⟩
abbrev cX5_feed : ByteArray := prog_7_method_50_code
def yX5_feed : MethodName := ⟨RX5, "feed", "(I)I"⟩
abbrev cX5_next : ByteArray := prog_7_method_51_code
def yX5_next : MethodName := ⟨RX5, "next", "(I)I"⟩
abbrev cX5_isAhead : ByteArray := prog_7_method_52_code
def yX5_isAhead : MethodName := ⟨RX5, "isAhead", "(II)Z"⟩
abbrev cX5_order : ByteArray := prog_7_method_53_code
def yX5_order : MethodName := ⟨RX5, "order", "(I)I"⟩
abbrev cX5_judged : ByteArray := prog_7_method_54_code
def yX5_judged : MethodName := ⟨RX5, "judged", "()I"⟩
def RJ6 : String := "java/lang/Integer"
abbrev cJ6_bitCount_0f7a4 : ByteArray := prog_13_method_49_code
def yJ6_bitCount_0f7a4 : MethodName := ⟨RJ6, "bitCount", "(I)I"⟩
def RJ9 : String := "java/lang/Math"
abbrev cJ9_max_7cf53 : ByteArray := prog_14_method_65_code
def yJ9_max_7cf53 : MethodName := ⟨RJ9, "max", "(II)I"⟩
abbrev cJ9_min_7cf53 : ByteArray := prog_14_method_69_code
def yJ9_min_7cf53 : MethodName := ⟨RJ9, "min", "(II)I"⟩
def RJ0 : String := "java/lang/String"
def RJ10 : String := "java/lang/System"
def RJ7 : String := "java/util/Arrays"
abbrev cJ7_fill_53178 : ByteArray := prog_19_method_103_code
def yJ7_fill_53178 : MethodName := ⟨RJ7, "fill", "([II)V"⟩
abbrev cJ7_copyOf_59c91 : ByteArray := prog_19_method_123_code
def yJ7_copyOf_59c91 : MethodName := ⟨RJ7, "copyOf", "([II)[I"⟩
def RL : String := "TwinphaseLaw"
abbrev cL_pass : ByteArray := method_3_code
def yL_pass : MethodName := ⟨RL, "pass", "(LTwinphase;I[J)I"⟩
abbrev cL_skew : ByteArray := method_4_code
def yL_skew : MethodName := ⟨RL, "skew", "(LTwinphase;II[J)I"⟩
abbrev cL_clock : ByteArray := method_5_code
def yL_clock : MethodName := ⟨RL, "clock", "(LTwinphase;I[J)I"⟩
abbrev cL_down : ByteArray := method_6_code
def yL_down : MethodName := ⟨RL, "down", "(LTwinphase;I[J)I"⟩
abbrev cL_up : ByteArray := method_7_code
def yL_up : MethodName := ⟨RL, "up", "(LTwinphase;I[J)I"⟩
abbrev cL_sync : ByteArray := method_8_code
def yL_sync : MethodName := ⟨RL, "sync", "(LTwinphase;I[J)I"⟩
abbrev cL_split : ByteArray := method_9_code
def yL_split : MethodName := ⟨RL, "split", "(LTwinphase;I[J)I"⟩
abbrev cL_merge : ByteArray := method_10_code
def yL_merge : MethodName := ⟨RL, "merge", "(LTwinphase;I[J)I"⟩
abbrev cL_move : ByteArray := method_11_code
def yL_move : MethodName := ⟨RL, "move", "(LTwinphase;II[J)I"⟩
abbrev cL_begin : ByteArray := method_12_code
def yL_begin : MethodName := ⟨RL, "begin", "(LTwinphase;II[J)I"⟩
abbrev cL_get : ByteArray := method_13_code
def yL_get : MethodName := ⟨RL, "get", "(LTwinphase;II[J)I"⟩
abbrev cL_put : ByteArray := method_14_code
def yL_put : MethodName := ⟨RL, "put", "(LTwinphase;III[J)I"⟩
abbrev cL_commit : ByteArray := method_15_code
def yL_commit : MethodName := ⟨RL, "commit", "(LTwinphase;IZ[J)I"⟩
abbrev cL_abort : ByteArray := method_16_code
def yL_abort : MethodName := ⟨RL, "abort", "(LTwinphase;I[J)I"⟩
abbrev cL_recover : ByteArray := method_17_code
def yL_recover : MethodName := ⟨RL, "recover", "(LTwinphase;I[J)I"⟩
abbrev cL_beat : ByteArray := method_18_code
def yL_beat : MethodName := ⟨RL, "beat", "(LTwinphase;I[J)I"⟩
abbrev cL_told : ByteArray := method_19_code
def yL_told : MethodName := ⟨RL, "told", "(LTwinphase;II[J)I"⟩
abbrev cL_key : ByteArray := method_20_code
def yL_key : MethodName := ⟨RL, "key", "(LTwinphase;II[J)I"⟩
abbrev cL_asOf : ByteArray := method_21_code
def yL_asOf : MethodName := ⟨RL, "asOf", "(LTwinphase;II[J)I"⟩
abbrev cL_feed : ByteArray := method_22_code
def yL_feed : MethodName := ⟨RL, "feed", "(LTwinphase;I[J)I"⟩
abbrev cL_order : ByteArray := method_23_code
def yL_order : MethodName := ⟨RL, "order", "(LTwinphase;I[J)I"⟩
abbrev cL_law : ByteArray := code
def yL_law : MethodName := ⟨RL, "law", "([I)Z"⟩
abbrev vwCl : List vw_C := [(RX0, TX0, 6), (RX1, TX1, 6), (RX2, TX2, 3), (RX3, TX3, 15), (RX4, TX4, 6), (RX5, TX5, 32)]
end
section
/-! the instructions of each method, a table a method, held against decode by the kernel -/
def dT (c : ByteArray) (L : List (Nat × Instr × Nat)) : Bool := L.all (fun q => decide (decode c q.1 = .ok (q.2.1, q.2.2)))
theorem dG {c : ByteArray} {L : List (Nat × Instr × Nat)} {pc len : Nat} {ins : Instr} (h : dT c L = true) (i : Nat) (hi : L[i]? = some (pc, ins, len)) : decode c pc = .ok (ins, len) := by
  have h1 := List.all_eq_true.mp h _ (List.mem_of_getElem? hi)
  exact of_decide_eq_true h1
def I_X0_init : List (Nat × Instr × Nat) := [(0, .aload_n 0, 1), (1, .invokespecial 3, 3), (4, .aload_n 0, 1), (5, .iconst (-1), 1), (6, .putfield 9, 3), (9, .return_, 1)]
set_option maxRecDepth 100000 in
theorem D_X0_init : dT cX0_init I_X0_init = true := by decide +kernel
def I_X0_noteReader : List (Nat × Instr × Nat) := [(0, .iload_n 2, 1), (1, .aload_n 0, 1), (2, .getfield 15, 3), (5, .if_icmp .le 16, 3), (8, .aload_n 0, 1), (9, .iload_n 2, 1), (10, .putfield 15, 3), (13, .aload_n 0, 1), (14, .iload_n 1, 1), (15, .putfield 9, 3), (18, .goto 25, 3), (21, .iload_n 2, 1), (22, .aload_n 0, 1), (23, .getfield 15, 3), (26, .if_icmp .ne 17, 3), (29, .aload_n 0, 1), (30, .getfield 9, 3), (33, .iload_n 1, 1), (34, .if_icmp .eq 9, 3), (37, .aload_n 0, 1), (38, .bipush (-2), 2), (40, .putfield 9, 3), (43, .return_, 1)]
set_option maxRecDepth 100000 in
theorem D_X0_noteReader : dT cX0_noteReader I_X0_noteReader = true := by decide +kernel
def I_X0_noteSeveral : List (Nat × Instr × Nat) := [(0, .iload_n 1, 1), (1, .aload_n 0, 1), (2, .getfield 15, 3), (5, .if_icmp .le 14, 3), (8, .aload_n 0, 1), (9, .iload_n 1, 1), (10, .putfield 15, 3), (13, .aload_n 0, 1), (14, .bipush (-2), 2), (16, .putfield 9, 3), (19, .return_, 1)]
set_option maxRecDepth 100000 in
theorem D_X0_noteSeveral : dT cX0_noteSeveral I_X0_noteSeveral = true := by decide +kernel
def I_X1_init : List (Nat × Instr × Nat) := [(0, .aload_n 0, 1), (1, .invokespecial 3, 3), (4, .aload_n 0, 1), (5, .bipush 32, 2), (7, .newarray .int, 2), (9, .putfield 9, 3), (12, .aload_n 0, 1), (13, .bipush 32, 2), (15, .newarray .int, 2), (17, .putfield 15, 3), (20, .aload_n 0, 1), (21, .bipush 40, 2), (23, .anewarray 18, 3), (26, .putfield 20, 3), (29, .aload_n 0, 1), (30, .bipush 32, 2), (32, .newarray .int, 2), (34, .putfield 24, 3), (37, .return_, 1)]
set_option maxRecDepth 100000 in
theorem D_X1_init : dT cX1_init I_X1_init = true := by decide +kernel
def I_J7_copyOf_59c91 : List (Nat × Instr × Nat) := [(0, .iload_n 1, 1), (1, .aload_n 0, 1), (2, .arraylength, 1), (3, .if_icmp .ne 11, 3), (6, .aload_n 0, 1), (7, .invokevirtual 316, 3), (10, .checkcast 317, 3), (13, .areturn, 1), (14, .iload_n 1, 1), (15, .newarray .int, 2), (17, .astore_n 2, 1), (18, .aload_n 0, 1), (19, .iconst 0, 1), (20, .aload_n 2, 1), (21, .iconst 0, 1), (22, .aload_n 0, 1), (23, .arraylength, 1), (24, .iload_n 1, 1), (25, .invokestatic 304, 3), (28, .invokestatic 150, 3), (31, .aload_n 2, 1), (32, .areturn, 1)]
set_option maxRecDepth 100000 in
theorem D_J7_copyOf_59c91 : dT cJ7_copyOf_59c91 I_J7_copyOf_59c91 = true := by decide +kernel
def I_X1_addChange : List (Nat × Instr × Nat) := [(0, .aload_n 0, 1), (1, .getfield 27, 3), (4, .aload_n 0, 1), (5, .getfield 9, 3), (8, .arraylength, 1), (9, .if_icmp .ne 37, 3), (12, .aload_n 0, 1), (13, .aload_n 0, 1), (14, .getfield 9, 3), (17, .iconst 2, 1), (18, .aload_n 0, 1), (19, .getfield 27, 3), (22, .imul, 1), (23, .invokestatic 31, 3), (26, .putfield 9, 3), (29, .aload_n 0, 1), (30, .aload_n 0, 1), (31, .getfield 15, 3), (34, .iconst 2, 1), (35, .aload_n 0, 1), (36, .getfield 27, 3), (39, .imul, 1), (40, .invokestatic 31, 3), (43, .putfield 15, 3), (46, .bipush 32, 2), (48, .iload_n 1, 1), (49, .imul, 1), (50, .iload_n 2, 1), (51, .iadd, 1), (52, .istore 4, 2), (54, .aload_n 0, 1), (55, .getfield 27, 3), (58, .istore 5, 2), (60, .iload 5, 2), (62, .ifCond .le 55, 3), (65, .aload_n 0, 1), (66, .getfield 9, 3), (69, .iload 5, 2), (71, .iconst 1, 1), (72, .isub, 1), (73, .iaload, 1), (74, .iload 4, 2), (76, .if_icmp .le 41, 3), (79, .aload_n 0, 1), (80, .getfield 9, 3), (83, .iload 5, 2), (85, .aload_n 0, 1), (86, .getfield 9, 3), (89, .iload 5, 2), (91, .iconst 1, 1), (92, .isub, 1), (93, .iaload, 1), (94, .iastore, 1), (95, .aload_n 0, 1), (96, .getfield 15, 3), (99, .iload 5, 2), (101, .aload_n 0, 1), (102, .getfield 15, 3), (105, .iload 5, 2), (107, .iconst 1, 1), (108, .isub, 1), (109, .iaload, 1), (110, .iastore, 1), (111, .iinc 5 (-1), 3), (114, .goto (-54), 3), (117, .aload_n 0, 1), (118, .getfield 9, 3), (121, .iload 5, 2), (123, .iload 4, 2), (125, .iastore, 1), (126, .aload_n 0, 1), (127, .getfield 15, 3), (130, .iload 5, 2), (132, .iload_n 3, 1), (133, .iastore, 1), (134, .aload_n 0, 1), (135, .dup, 1), (136, .getfield 27, 3), (139, .iconst 1, 1), (140, .iadd, 1), (141, .putfield 27, 3), (144, .return_, 1)]
set_option maxRecDepth 100000 in
theorem D_X1_addChange : dT cX1_addChange I_X1_addChange = true := by decide +kernel
def I_X1_placeUpTo : List (Nat × Instr × Nat) := [(0, .aload_n 0, 1), (1, .getfield 27, 3), (4, .iconst 1, 1), (5, .isub, 1), (6, .istore_n 3, 1), (7, .iload_n 3, 1), (8, .ifCond .lt 37, 3), (11, .aload_n 0, 1), (12, .getfield 9, 3), (15, .iload_n 3, 1), (16, .iaload, 1), (17, .bipush 32, 2), (19, .irem, 1), (20, .iload_n 1, 1), (21, .if_icmp .ne 18, 3), (24, .aload_n 0, 1), (25, .getfield 9, 3), (28, .iload_n 3, 1), (29, .iaload, 1), (30, .bipush 32, 2), (32, .idiv, 1), (33, .iload_n 2, 1), (34, .if_icmp .gt 5, 3), (37, .iload_n 3, 1), (38, .ireturn, 1), (39, .iinc 3 (-1), 3), (42, .goto (-35), 3), (45, .iconst (-1), 1), (46, .ireturn, 1)]
set_option maxRecDepth 100000 in
theorem D_X1_placeUpTo : dT cX1_placeUpTo I_X1_placeUpTo = true := by decide +kernel
def I_X1_stampUpTo : List (Nat × Instr × Nat) := [(0, .aload_n 0, 1), (1, .iload_n 1, 1), (2, .iload_n 2, 1), (3, .invokevirtual 37, 3), (6, .istore_n 3, 1), (7, .iload_n 3, 1), (8, .ifCond .ge 7, 3), (11, .iconst 0, 1), (12, .goto 12, 3), (15, .aload_n 0, 1), (16, .getfield 9, 3), (19, .iload_n 3, 1), (20, .iaload, 1), (21, .bipush 32, 2), (23, .idiv, 1), (24, .ireturn, 1)]
set_option maxRecDepth 100000 in
theorem D_X1_stampUpTo : dT cX1_stampUpTo I_X1_stampUpTo = true := by decide +kernel
def I_X1_valueUpTo : List (Nat × Instr × Nat) := [(0, .aload_n 0, 1), (1, .iload_n 1, 1), (2, .iload_n 2, 1), (3, .invokevirtual 37, 3), (6, .istore_n 3, 1), (7, .iload_n 3, 1), (8, .ifCond .ge 9, 3), (11, .sipush 1000, 3), (14, .goto 9, 3), (17, .aload_n 0, 1), (18, .getfield 15, 3), (21, .iload_n 3, 1), (22, .iaload, 1), (23, .ireturn, 1)]
set_option maxRecDepth 100000 in
theorem D_X1_valueUpTo : dT cX1_valueUpTo I_X1_valueUpTo = true := by decide +kernel
def I_X1_countOf : List (Nat × Instr × Nat) := [(0, .iconst 0, 1), (1, .istore_n 2, 1), (2, .iconst 0, 1), (3, .istore_n 3, 1), (4, .iload_n 3, 1), (5, .aload_n 0, 1), (6, .getfield 27, 3), (9, .if_icmp .ge 25, 3), (12, .aload_n 0, 1), (13, .getfield 9, 3), (16, .iload_n 3, 1), (17, .iaload, 1), (18, .bipush 32, 2), (20, .irem, 1), (21, .iload_n 1, 1), (22, .if_icmp .ne 6, 3), (25, .iinc 2 1, 3), (28, .iinc 3 1, 3), (31, .goto (-27), 3), (34, .iload_n 2, 1), (35, .ireturn, 1)]
set_option maxRecDepth 100000 in
theorem D_X1_countOf : dT cX1_countOf I_X1_countOf = true := by decide +kernel
def I_X1_changeAt : List (Nat × Instr × Nat) := [(0, .iload_n 1, 1), (1, .aload_n 0, 1), (2, .getfield 27, 3), (5, .if_icmp .ge 25, 3), (8, .aload_n 0, 1), (9, .getfield 9, 3), (12, .iload_n 1, 1), (13, .iaload, 1), (14, .bipush 32, 2), (16, .idiv, 1), (17, .iload_n 2, 1), (18, .if_icmp .gt 12, 3), (21, .aload_n 0, 1), (22, .getfield 9, 3), (25, .iload_n 1, 1), (26, .iaload, 1), (27, .goto 4, 3), (30, .iconst (-1), 1), (31, .ireturn, 1)]
set_option maxRecDepth 100000 in
theorem D_X1_changeAt : dT cX1_changeAt I_X1_changeAt = true := by decide +kernel
def I_X1_addCommitted : List (Nat × Instr × Nat) := [(0, .aload_n 0, 1), (1, .getfield 41, 3), (4, .bipush 40, 2), (6, .if_icmp .lt 4, 3), (9, .return_, 1), (10, .aload_n 0, 1), (11, .getfield 41, 3), (14, .istore_n 2, 1), (15, .iload_n 2, 1), (16, .ifCond .le 41, 3), (19, .aload_n 0, 1), (20, .getfield 20, 3), (23, .iload_n 2, 1), (24, .iconst 1, 1), (25, .isub, 1), (26, .aaload, 1), (27, .getfield 44, 3), (30, .aload_n 1, 1), (31, .getfield 44, 3), (34, .if_icmp .le 23, 3), (37, .aload_n 0, 1), (38, .getfield 20, 3), (41, .iload_n 2, 1), (42, .aload_n 0, 1), (43, .getfield 20, 3), (46, .iload_n 2, 1), (47, .iconst 1, 1), (48, .isub, 1), (49, .aaload, 1), (50, .aastore, 1), (51, .iinc 2 (-1), 3), (54, .goto (-39), 3), (57, .aload_n 0, 1), (58, .getfield 20, 3), (61, .iload_n 2, 1), (62, .aload_n 1, 1), (63, .aastore, 1), (64, .aload_n 0, 1), (65, .dup, 1), (66, .getfield 41, 3), (69, .iconst 1, 1), (70, .iadd, 1), (71, .putfield 41, 3), (74, .return_, 1)]
set_option maxRecDepth 100000 in
theorem D_X1_addCommitted : dT cX1_addCommitted I_X1_addCommitted = true := by decide +kernel
def I_X1_committedAt : List (Nat × Instr × Nat) := [(0, .iload_n 1, 1), (1, .aload_n 0, 1), (2, .getfield 41, 3), (5, .if_icmp .ge 12, 3), (8, .aload_n 0, 1), (9, .getfield 20, 3), (12, .iload_n 1, 1), (13, .aaload, 1), (14, .goto 4, 3), (17, .aconst_null, 1), (18, .areturn, 1)]
set_option maxRecDepth 100000 in
theorem D_X1_committedAt : dT cX1_committedAt I_X1_committedAt = true := by decide +kernel
def I_J7_fill_53178 : List (Nat × Instr × Nat) := [(0, .iconst 0, 1), (1, .istore_n 2, 1), (2, .aload_n 0, 1), (3, .arraylength, 1), (4, .istore_n 3, 1), (5, .iload_n 2, 1), (6, .iload_n 3, 1), (7, .if_icmp .ge 13, 3), (10, .aload_n 0, 1), (11, .iload_n 2, 1), (12, .iload_n 1, 1), (13, .iastore, 1), (14, .iinc 2 1, 3), (17, .goto (-12), 3), (20, .return_, 1)]
set_option maxRecDepth 100000 in
theorem D_J7_fill_53178 : dT cJ7_fill_53178 I_J7_fill_53178 = true := by decide +kernel
def I_X3_hasRead : List (Nat × Instr × Nat) := [(0, .aload_n 0, 1), (1, .getfield 59, 3), (4, .iload_n 1, 1), (5, .iushr, 1), (6, .iconst 1, 1), (7, .iand, 1), (8, .ifCond .eq 7, 3), (11, .iconst 1, 1), (12, .goto 4, 3), (15, .iconst 0, 1), (16, .ireturn, 1)]
set_option maxRecDepth 100000 in
theorem D_X3_hasRead : dT cX3_hasRead I_X3_hasRead = true := by decide +kernel
def I_X3_writes : List (Nat × Instr × Nat) := [(0, .aload_n 0, 1), (1, .getfield 62, 3), (4, .iload_n 1, 1), (5, .iushr, 1), (6, .iconst 1, 1), (7, .iand, 1), (8, .ifCond .eq 7, 3), (11, .iconst 1, 1), (12, .goto 4, 3), (15, .iconst 0, 1), (16, .ireturn, 1)]
set_option maxRecDepth 100000 in
theorem D_X3_writes : dT cX3_writes I_X3_writes = true := by decide +kernel
def I_X1_redo : List (Nat × Instr × Nat) := [(0, .iconst 0, 1), (1, .istore_n 2, 1), (2, .iconst 0, 1), (3, .istore_n 3, 1), (4, .iload_n 3, 1), (5, .bipush 32, 2), (7, .if_icmp .ge 35, 3), (10, .aload_n 1, 1), (11, .iload_n 3, 1), (12, .invokevirtual 55, 3), (15, .ifCond .eq 21, 3), (18, .aload_n 1, 1), (19, .getfield 59, 3), (22, .iload_n 3, 1), (23, .iaload, 1), (24, .aload_n 0, 1), (25, .getfield 24, 3), (28, .iload_n 3, 1), (29, .iaload, 1), (30, .if_icmp .eq 6, 3), (33, .iinc 2 1, 3), (36, .iinc 3 1, 3), (39, .goto (-35), 3), (42, .iconst 0, 1), (43, .istore_n 3, 1), (44, .iload_n 3, 1), (45, .bipush 32, 2), (47, .if_icmp .ge 29, 3), (50, .aload_n 1, 1), (51, .iload_n 3, 1), (52, .invokevirtual 62, 3), (55, .ifCond .eq 15, 3), (58, .aload_n 0, 1), (59, .getfield 24, 3), (62, .iload_n 3, 1), (63, .aload_n 1, 1), (64, .getfield 65, 3), (67, .iload_n 3, 1), (68, .iaload, 1), (69, .iastore, 1), (70, .iinc 3 1, 3), (73, .goto (-29), 3), (76, .iload_n 2, 1), (77, .ireturn, 1)]
set_option maxRecDepth 100000 in
theorem D_X1_redo : dT cX1_redo I_X1_redo = true := by decide +kernel
def I_X1_countUnexplained : List (Nat × Instr × Nat) := [(0, .aload_n 0, 1), (1, .getfield 24, 3), (4, .sipush 1000, 3), (7, .invokestatic 47, 3), (10, .iconst 0, 1), (11, .istore_n 1, 1), (12, .iconst 0, 1), (13, .istore_n 2, 1), (14, .iload_n 2, 1), (15, .aload_n 0, 1), (16, .getfield 41, 3), (19, .if_icmp .ge 22, 3), (22, .iload_n 1, 1), (23, .aload_n 0, 1), (24, .aload_n 0, 1), (25, .getfield 20, 3), (28, .iload_n 2, 1), (29, .aaload, 1), (30, .invokevirtual 51, 3), (33, .iadd, 1), (34, .istore_n 1, 1), (35, .iinc 2 1, 3), (38, .goto (-24), 3), (41, .iload_n 1, 1), (42, .ireturn, 1)]
set_option maxRecDepth 100000 in
theorem D_X1_countUnexplained : dT cX1_countUnexplained I_X1_countUnexplained = true := by decide +kernel
def I_X2_init : List (Nat × Instr × Nat) := [(0, .aload_n 0, 1), (1, .invokespecial 3, 3), (4, .return_, 1)]
set_option maxRecDepth 100000 in
theorem D_X2_init : dT cX2_init I_X2_init = true := by decide +kernel
def I_X2_meetStamp : List (Nat × Instr × Nat) := [(0, .aload_n 0, 1), (1, .aload_n 0, 1), (2, .getfield 15, 3), (5, .iload_n 1, 1), (6, .invokestatic 18, 3), (9, .putfield 15, 3), (12, .return_, 1)]
set_option maxRecDepth 100000 in
theorem D_X2_meetStamp : dT cX2_meetStamp I_X2_meetStamp = true := by decide +kernel
def I_X2_tellStamp : List (Nat × Instr × Nat) := [(0, .aload_n 0, 1), (1, .bipush 10, 2), (3, .iload_n 1, 1), (4, .aload_n 0, 1), (5, .getfield 9, 3), (8, .iadd, 1), (9, .imul, 1), (10, .aload_n 0, 1), (11, .getfield 15, 3), (14, .iconst 1, 1), (15, .iadd, 1), (16, .invokestatic 18, 3), (19, .invokevirtual 24, 3), (22, .aload_n 0, 1), (23, .getfield 15, 3), (26, .ireturn, 1)]
set_option maxRecDepth 100000 in
theorem D_X2_tellStamp : dT cX2_tellStamp I_X2_tellStamp = true := by decide +kernel
def I_X3_init : List (Nat × Instr × Nat) := [(0, .aload_n 0, 1), (1, .invokespecial 3, 3), (4, .aload_n 0, 1), (5, .iconst 0, 1), (6, .putfield 9, 3), (9, .aload_n 0, 1), (10, .bipush 32, 2), (12, .newarray .int, 2), (14, .putfield 15, 3), (17, .aload_n 0, 1), (18, .bipush 32, 2), (20, .newarray .int, 2), (22, .putfield 19, 3), (25, .aload_n 0, 1), (26, .iconst 4, 1), (27, .newarray .int, 2), (29, .putfield 22, 3), (32, .aload_n 0, 1), (33, .iload_n 1, 1), (34, .putfield 25, 3), (37, .aload_n 0, 1), (38, .iload_n 2, 1), (39, .putfield 28, 3), (42, .aload_n 0, 1), (43, .iload_n 3, 1), (44, .putfield 31, 3), (47, .aload_n 0, 1), (48, .iload 4, 2), (50, .bipush 100, 2), (52, .iadd, 1), (53, .putfield 34, 3), (56, .aload_n 0, 1), (57, .iload 4, 2), (59, .putfield 37, 3), (62, .aload_n 0, 1), (63, .iload 4, 2), (65, .putfield 40, 3), (68, .aload_n 0, 1), (69, .iload 5, 2), (71, .putfield 43, 3), (74, .return_, 1)]
set_option maxRecDepth 100000 in
theorem D_X3_init : dT cX3_init I_X3_init = true := by decide +kernel
def I_X3_isVanished : List (Nat × Instr × Nat) := [(0, .aload_n 0, 1), (1, .getfield 9, 3), (4, .ifCond .eq 11, 3), (7, .aload_n 0, 1), (8, .getfield 9, 3), (11, .iconst 1, 1), (12, .if_icmp .ne 18, 3), (15, .iload_n 1, 1), (16, .aload_n 0, 1), (17, .getfield 43, 3), (20, .bipush 20, 2), (22, .iadd, 1), (23, .if_icmp .le 7, 3), (26, .iconst 1, 1), (27, .goto 4, 3), (30, .iconst 0, 1), (31, .ireturn, 1)]
set_option maxRecDepth 100000 in
theorem D_X3_isVanished : dT cX3_isVanished I_X3_isVanished = true := by decide +kernel
def I_X3_waitsFor : List (Nat × Instr × Nat) := [(0, .aload_n 0, 1), (1, .getfield 9, 3), (4, .ifCond .ne 27, 3), (7, .aload_n 0, 1), (8, .getfield 46, 3), (11, .ifnull 20, 3), (14, .aload_n 0, 1), (15, .getfield 46, 3), (18, .getfield 9, 3), (21, .ifCond .ne 10, 3), (24, .aload_n 0, 1), (25, .getfield 46, 3), (28, .goto 4, 3), (31, .aconst_null, 1), (32, .areturn, 1)]
set_option maxRecDepth 100000 in
theorem D_X3_waitsFor : dT cX3_waitsFor I_X3_waitsFor = true := by decide +kernel
def I_X3_yieldsBefore : List (Nat × Instr × Nat) := [(0, .aload_n 0, 1), (1, .getfield 31, 3), (4, .aload_n 1, 1), (5, .getfield 31, 3), (8, .if_icmp .lt 25, 3), (11, .aload_n 0, 1), (12, .getfield 31, 3), (15, .aload_n 1, 1), (16, .getfield 31, 3), (19, .if_icmp .ne 18, 3), (22, .aload_n 0, 1), (23, .getfield 25, 3), (26, .aload_n 1, 1), (27, .getfield 25, 3), (30, .if_icmp .le 7, 3), (33, .iconst 1, 1), (34, .goto 4, 3), (37, .iconst 0, 1), (38, .ireturn, 1)]
set_option maxRecDepth 100000 in
theorem D_X3_yieldsBefore : dT cX3_yieldsBefore I_X3_yieldsBefore = true := by decide +kernel
def I_X3_hasAsked : List (Nat × Instr × Nat) := [(0, .aload_n 0, 1), (1, .getfield 50, 3), (4, .iload_n 1, 1), (5, .iushr, 1), (6, .iconst 1, 1), (7, .iand, 1), (8, .ifCond .eq 7, 3), (11, .iconst 1, 1), (12, .goto 4, 3), (15, .iconst 0, 1), (16, .ireturn, 1)]
set_option maxRecDepth 100000 in
theorem D_X3_hasAsked : dT cX3_hasAsked I_X3_hasAsked = true := by decide +kernel
def I_X3_noteClock : List (Nat × Instr × Nat) := [(0, .aload_n 0, 1), (1, .dup, 1), (2, .getfield 50, 3), (5, .iconst 1, 1), (6, .iload_n 1, 1), (7, .ishl, 1), (8, .ior, 1), (9, .putfield 50, 3), (12, .aload_n 0, 1), (13, .getfield 22, 3), (16, .iload_n 1, 1), (17, .aload_n 0, 1), (18, .getfield 34, 3), (21, .iload_n 2, 1), (22, .invokestatic 53, 3), (25, .iastore, 1), (26, .return_, 1)]
set_option maxRecDepth 100000 in
theorem D_X3_noteClock : dT cX3_noteClock I_X3_noteClock = true := by decide +kernel
def I_X3_noteRead : List (Nat × Instr × Nat) := [(0, .aload_n 0, 1), (1, .dup, 1), (2, .getfield 59, 3), (5, .iconst 1, 1), (6, .iload_n 1, 1), (7, .ishl, 1), (8, .ior, 1), (9, .putfield 59, 3), (12, .aload_n 0, 1), (13, .getfield 15, 3), (16, .iload_n 1, 1), (17, .iload_n 2, 1), (18, .iastore, 1), (19, .iload_n 2, 1), (20, .ireturn, 1)]
set_option maxRecDepth 100000 in
theorem D_X3_noteRead : dT cX3_noteRead I_X3_noteRead = true := by decide +kernel
def I_X3_noteWrite : List (Nat × Instr × Nat) := [(0, .aload_n 0, 1), (1, .dup, 1), (2, .getfield 62, 3), (5, .iconst 1, 1), (6, .iload_n 1, 1), (7, .ishl, 1), (8, .ior, 1), (9, .putfield 62, 3), (12, .aload_n 0, 1), (13, .getfield 19, 3), (16, .iload_n 1, 1), (17, .iload_n 2, 1), (18, .iastore, 1), (19, .return_, 1)]
set_option maxRecDepth 100000 in
theorem D_X3_noteWrite : dT cX3_noteWrite I_X3_noteWrite = true := by decide +kernel
def I_X3_forgetAll : List (Nat × Instr × Nat) := [(0, .aload_n 0, 1), (1, .iconst 0, 1), (2, .putfield 59, 3), (5, .aload_n 0, 1), (6, .iconst 0, 1), (7, .putfield 62, 3), (10, .aload_n 0, 1), (11, .iload_n 1, 1), (12, .aload_n 0, 1), (13, .getfield 40, 3), (16, .invokestatic 65, 3), (19, .putfield 40, 3), (22, .aload_n 0, 1), (23, .aload_n 0, 1), (24, .getfield 40, 3), (27, .putfield 37, 3), (30, .return_, 1)]
set_option maxRecDepth 100000 in
theorem D_X3_forgetAll : dT cX3_forgetAll I_X3_forgetAll = true := by decide +kernel
def I_X3_raiseStamps : List (Nat × Instr × Nat) := [(0, .aload_n 0, 1), (1, .iload_n 1, 1), (2, .putfield 37, 3), (5, .aload_n 0, 1), (6, .aload_n 0, 1), (7, .getfield 40, 3), (10, .iload_n 1, 1), (11, .invokestatic 65, 3), (14, .putfield 40, 3), (17, .return_, 1)]
set_option maxRecDepth 100000 in
theorem D_X3_raiseStamps : dT cX3_raiseStamps I_X3_raiseStamps = true := by decide +kernel
def I_X4_init : List (Nat × Instr × Nat) := [(0, .aload_n 0, 1), (1, .invokespecial 1, 3), (4, .aload_n 0, 1), (5, .iconst 4, 1), (6, .anewarray 9, 3), (9, .putfield 11, 3), (12, .aload_n 0, 1), (13, .bipush 32, 2), (15, .anewarray 15, 3), (18, .putfield 17, 3), (21, .aload_n 0, 1), (22, .bipush 40, 2), (24, .anewarray 21, 3), (27, .putfield 23, 3), (30, .aload_n 0, 1), (31, .new 27, 3), (34, .dup, 1), (35, .invokespecial 29, 3), (38, .putfield 30, 3), (41, .iconst 0, 1), (42, .istore_n 1, 1), (43, .iload_n 1, 1), (44, .iconst 4, 1), (45, .if_icmp .ge 22, 3), (48, .aload_n 0, 1), (49, .getfield 11, 3), (52, .iload_n 1, 1), (53, .new 9, 3), (56, .dup, 1), (57, .invokespecial 34, 3), (60, .aastore, 1), (61, .iinc 1 1, 3), (64, .goto (-21), 3), (67, .iconst 0, 1), (68, .istore_n 1, 1), (69, .iload_n 1, 1), (70, .bipush 32, 2), (72, .if_icmp .ge 22, 3), (75, .aload_n 0, 1), (76, .getfield 17, 3), (79, .iload_n 1, 1), (80, .new 15, 3), (83, .dup, 1), (84, .invokespecial 35, 3), (87, .aastore, 1), (88, .iinc 1 1, 3), (91, .goto (-22), 3), (94, .aload_n 0, 1), (95, .getfield 17, 3), (98, .iconst 0, 1), (99, .aaload, 1), (100, .iconst 1, 1), (101, .putfield 36, 3), (104, .return_, 1)]
set_option maxRecDepth 100000 in
theorem D_X4_init : dT cX4_init I_X4_init = true := by decide +kernel
def I_X4_pass : List (Nat × Instr × Nat) := [(0, .iload_n 1, 1), (1, .iconst 1, 1), (2, .if_icmp .lt 9, 3), (5, .iload_n 1, 1), (6, .bipush 50, 2), (8, .if_icmp .le 13, 3), (11, .new 40, 3), (14, .dup, 1), (15, .ldc 42, 2), (17, .invokespecial 44, 3), (20, .athrow, 1), (21, .aload_n 0, 1), (22, .getfield 47, 3), (25, .iload_n 1, 1), (26, .iadd, 1), (27, .sipush 2000, 3), (30, .if_icmp .le 13, 3), (33, .new 51, 3), (36, .dup, 1), (37, .ldc 53, 2), (39, .invokespecial 55, 3), (42, .athrow, 1), (43, .aload_n 0, 1), (44, .dup, 1), (45, .getfield 47, 3), (48, .iload_n 1, 1), (49, .iadd, 1), (50, .putfield 47, 3), (53, .aload_n 0, 1), (54, .getfield 47, 3), (57, .ireturn, 1)]
set_option maxRecDepth 100000 in
theorem D_X4_pass : dT cX4_pass I_X4_pass = true := by decide +kernel
def I_X4_needNode : List (Nat × Instr × Nat) := [(0, .iload_n 1, 1), (1, .ifCond .lt 8, 3), (4, .iload_n 1, 1), (5, .iconst 4, 1), (6, .if_icmp .lt 13, 3), (9, .new 94, 3), (12, .dup, 1), (13, .ldc 242, 2), (15, .invokespecial 98, 3), (18, .athrow, 1), (19, .return_, 1)]
set_option maxRecDepth 100000 in
theorem D_X4_needNode : dT cX4_needNode I_X4_needNode = true := by decide +kernel
def I_X4_skew : List (Nat × Instr × Nat) := [(0, .aload_n 0, 1), (1, .iload_n 1, 1), (2, .invokevirtual 56, 3), (5, .iload_n 2, 1), (6, .bipush (-5), 2), (8, .if_icmp .lt 8, 3), (11, .iload_n 2, 1), (12, .iconst 5, 1), (13, .if_icmp .le 13, 3), (16, .new 40, 3), (19, .dup, 1), (20, .ldc 60, 2), (22, .invokespecial 44, 3), (25, .athrow, 1), (26, .aload_n 0, 1), (27, .getfield 11, 3), (30, .iload_n 1, 1), (31, .aaload, 1), (32, .getfield 62, 3), (35, .istore_n 3, 1), (36, .aload_n 0, 1), (37, .getfield 11, 3), (40, .iload_n 1, 1), (41, .aaload, 1), (42, .iload_n 2, 1), (43, .putfield 62, 3), (46, .iload_n 3, 1), (47, .ireturn, 1)]
set_option maxRecDepth 100000 in
theorem D_X4_skew : dT cX4_skew I_X4_skew = true := by decide +kernel
def I_X4_needUp : List (Nat × Instr × Nat) := [(0, .aload_n 0, 1), (1, .getfield 11, 3), (4, .iload_n 1, 1), (5, .aaload, 1), (6, .getfield 76, 3), (9, .ifCond .eq 13, 3), (12, .new 51, 3), (15, .dup, 1), (16, .ldc 244, 2), (18, .invokespecial 55, 3), (21, .athrow, 1), (22, .return_, 1)]
set_option maxRecDepth 100000 in
theorem D_X4_needUp : dT cX4_needUp I_X4_needUp = true := by decide +kernel
def I_X4_clock : List (Nat × Instr × Nat) := [(0, .aload_n 0, 1), (1, .iload_n 1, 1), (2, .invokevirtual 56, 3), (5, .aload_n 0, 1), (6, .iload_n 1, 1), (7, .invokevirtual 65, 3), (10, .aload_n 0, 1), (11, .getfield 11, 3), (14, .iload_n 1, 1), (15, .aaload, 1), (16, .aload_n 0, 1), (17, .getfield 47, 3), (20, .invokevirtual 68, 3), (23, .ireturn, 1)]
set_option maxRecDepth 100000 in
theorem D_X4_clock : dT cX4_clock I_X4_clock = true := by decide +kernel
def I_X4_closedStamp : List (Nat × Instr × Nat) := [(0, .iconst 0, 1), (1, .bipush 10, 2), (3, .aload_n 0, 1), (4, .getfield 47, 3), (7, .bipush 15, 2), (9, .isub, 1), (10, .imul, 1), (11, .invokestatic 166, 3), (14, .ireturn, 1)]
set_option maxRecDepth 100000 in
theorem D_X4_closedStamp : dT cX4_closedStamp I_X4_closedStamp = true := by decide +kernel
def I_X4_closed : List (Nat × Instr × Nat) := [(0, .aload_n 0, 1), (1, .invokevirtual 72, 3), (4, .ireturn, 1)]
set_option maxRecDepth 100000 in
theorem D_X4_closed : dT cX4_closed I_X4_closed = true := by decide +kernel
def I_X4_down : List (Nat × Instr × Nat) := [(0, .aload_n 0, 1), (1, .iload_n 1, 1), (2, .invokevirtual 56, 3), (5, .aload_n 0, 1), (6, .iload_n 1, 1), (7, .invokevirtual 65, 3), (10, .aload_n 0, 1), (11, .getfield 11, 3), (14, .iload_n 1, 1), (15, .aaload, 1), (16, .iconst 1, 1), (17, .putfield 76, 3), (20, .iconst 0, 1), (21, .istore_n 2, 1), (22, .aload_n 0, 1), (23, .getfield 17, 3), (26, .astore_n 3, 1), (27, .aload_n 3, 1), (28, .arraylength, 1), (29, .istore 4, 2), (31, .iconst 0, 1), (32, .istore 5, 2), (34, .iload 5, 2), (36, .iload 4, 2), (38, .if_icmp .ge 49, 3), (41, .aload_n 3, 1), (42, .iload 5, 2), (44, .aaload, 1), (45, .astore 6, 2), (47, .aload 6, 2), (49, .getfield 79, 3), (52, .iload_n 1, 1), (53, .if_icmp .ne 28, 3), (56, .aload 6, 2), (58, .getfield 82, 3), (61, .ifnull 20, 3), (64, .aload 6, 2), (66, .getfield 86, 3), (69, .ifCond .ne 12, 3), (72, .aload 6, 2), (74, .aconst_null, 1), (75, .putfield 82, 3), (78, .iinc 2 1, 3), (81, .iinc 5 1, 3), (84, .goto (-50), 3), (87, .iload_n 2, 1), (88, .ireturn, 1)]
set_option maxRecDepth 100000 in
theorem D_X4_down : dT cX4_down I_X4_down = true := by decide +kernel
def I_X4_up : List (Nat × Instr × Nat) := [(0, .aload_n 0, 1), (1, .iload_n 1, 1), (2, .invokevirtual 56, 3), (5, .aload_n 0, 1), (6, .getfield 11, 3), (9, .iload_n 1, 1), (10, .aaload, 1), (11, .getfield 76, 3), (14, .ifCond .ne 13, 3), (17, .new 51, 3), (20, .dup, 1), (21, .ldc 89, 2), (23, .invokespecial 55, 3), (26, .athrow, 1), (27, .aload_n 0, 1), (28, .getfield 11, 3), (31, .iload_n 1, 1), (32, .aaload, 1), (33, .iconst 0, 1), (34, .putfield 76, 3), (37, .aload_n 0, 1), (38, .getfield 11, 3), (41, .iload_n 1, 1), (42, .aaload, 1), (43, .aload_n 0, 1), (44, .getfield 47, 3), (47, .invokevirtual 68, 3), (50, .istore_n 2, 1), (51, .aload_n 0, 1), (52, .getfield 17, 3), (55, .astore_n 3, 1), (56, .aload_n 3, 1), (57, .arraylength, 1), (58, .istore 4, 2), (60, .iconst 0, 1), (61, .istore 5, 2), (63, .iload 5, 2), (65, .iload 4, 2), (67, .if_icmp .ge 30, 3), (70, .aload_n 3, 1), (71, .iload 5, 2), (73, .aaload, 1), (74, .astore 6, 2), (76, .aload 6, 2), (78, .getfield 79, 3), (81, .iload_n 1, 1), (82, .if_icmp .ne 9, 3), (85, .aload 6, 2), (87, .iload_n 2, 1), (88, .invokevirtual 91, 3), (91, .iinc 5 1, 3), (94, .goto (-31), 3), (97, .iload_n 2, 1), (98, .ireturn, 1)]
set_option maxRecDepth 100000 in
theorem D_X4_up : dT cX4_up I_X4_up = true := by decide +kernel
def I_X4_sync : List (Nat × Instr × Nat) := [(0, .aload_n 0, 1), (1, .iload_n 1, 1), (2, .invokevirtual 56, 3), (5, .aload_n 0, 1), (6, .iload_n 1, 1), (7, .invokevirtual 65, 3), (10, .iconst 0, 1), (11, .istore_n 2, 1), (12, .aload_n 0, 1), (13, .getfield 17, 3), (16, .astore_n 3, 1), (17, .aload_n 3, 1), (18, .arraylength, 1), (19, .istore 4, 2), (21, .iconst 0, 1), (22, .istore 5, 2), (24, .iload 5, 2), (26, .iload 4, 2), (28, .if_icmp .ge 49, 3), (31, .aload_n 3, 1), (32, .iload 5, 2), (34, .aaload, 1), (35, .astore 6, 2), (37, .aload 6, 2), (39, .getfield 79, 3), (42, .iload_n 1, 1), (43, .if_icmp .ne 28, 3), (46, .aload 6, 2), (48, .getfield 82, 3), (51, .ifnull 20, 3), (54, .aload 6, 2), (56, .getfield 86, 3), (59, .ifCond .ne 12, 3), (62, .aload 6, 2), (64, .iconst 1, 1), (65, .putfield 86, 3), (68, .iinc 2 1, 3), (71, .iinc 5 1, 3), (74, .goto (-50), 3), (77, .iload_n 2, 1), (78, .ireturn, 1)]
set_option maxRecDepth 100000 in
theorem D_X4_sync : dT cX4_sync I_X4_sync = true := by decide +kernel
def I_X4_rangeOf : List (Nat × Instr × Nat) := [(0, .iconst 0, 1), (1, .istore_n 2, 1), (2, .iconst 1, 1), (3, .istore_n 3, 1), (4, .iload_n 3, 1), (5, .iload_n 1, 1), (6, .if_icmp .gt 24, 3), (9, .aload_n 0, 1), (10, .getfield 17, 3), (13, .iload_n 3, 1), (14, .aaload, 1), (15, .getfield 36, 3), (18, .ifCond .eq 6, 3), (21, .iinc 2 1, 3), (24, .iinc 3 1, 3), (27, .goto (-23), 3), (30, .iload_n 2, 1), (31, .ireturn, 1)]
set_option maxRecDepth 100000 in
theorem D_X4_rangeOf : dT cX4_rangeOf I_X4_rangeOf = true := by decide +kernel
def I_X4_split : List (Nat × Instr × Nat) := [(0, .iload_n 1, 1), (1, .iconst 1, 1), (2, .if_icmp .lt 9, 3), (5, .iload_n 1, 1), (6, .bipush 32, 2), (8, .if_icmp .lt 13, 3), (11, .new 94, 3), (14, .dup, 1), (15, .ldc 96, 2), (17, .invokespecial 98, 3), (20, .athrow, 1), (21, .aload_n 0, 1), (22, .getfield 17, 3), (25, .iload_n 1, 1), (26, .aaload, 1), (27, .getfield 36, 3), (30, .ifCond .eq 13, 3), (33, .new 51, 3), (36, .dup, 1), (37, .ldc 99, 2), (39, .invokespecial 55, 3), (42, .athrow, 1), (43, .aload_n 0, 1), (44, .getfield 17, 3), (47, .iload_n 1, 1), (48, .aaload, 1), (49, .iconst 1, 1), (50, .putfield 36, 3), (53, .aload_n 0, 1), (54, .bipush 31, 2), (56, .invokevirtual 101, 3), (59, .iconst 1, 1), (60, .iadd, 1), (61, .ireturn, 1)]
set_option maxRecDepth 100000 in
theorem D_X4_split : dT cX4_split I_X4_split = true := by decide +kernel
def I_X4_firstKeyOf : List (Nat × Instr × Nat) := [(0, .iconst 0, 1), (1, .istore_n 2, 1), (2, .iconst 0, 1), (3, .istore_n 3, 1), (4, .iload_n 3, 1), (5, .bipush 32, 2), (7, .if_icmp .ge 31, 3), (10, .aload_n 0, 1), (11, .getfield 17, 3), (14, .iload_n 3, 1), (15, .aaload, 1), (16, .getfield 36, 3), (19, .ifCond .eq 13, 3), (22, .iload_n 2, 1), (23, .iload_n 1, 1), (24, .if_icmp .ne 5, 3), (27, .iload_n 3, 1), (28, .ireturn, 1), (29, .iinc 2 1, 3), (32, .iinc 3 1, 3), (35, .goto (-31), 3), (38, .bipush 32, 2), (40, .ireturn, 1)]
set_option maxRecDepth 100000 in
theorem D_X4_firstKeyOf : dT cX4_firstKeyOf I_X4_firstKeyOf = true := by decide +kernel
def I_X4_merge : List (Nat × Instr × Nat) := [(0, .aload_n 0, 1), (1, .bipush 31, 2), (3, .invokevirtual 101, 3), (6, .istore_n 2, 1), (7, .iload_n 1, 1), (8, .ifCond .lt 8, 3), (11, .iload_n 1, 1), (12, .iload_n 2, 1), (13, .if_icmp .lt 13, 3), (16, .new 94, 3), (19, .dup, 1), (20, .ldc 104, 2), (22, .invokespecial 98, 3), (25, .athrow, 1), (26, .aload_n 0, 1), (27, .iload_n 1, 1), (28, .iconst 1, 1), (29, .iadd, 1), (30, .invokevirtual 106, 3), (33, .istore_n 3, 1), (34, .aload_n 0, 1), (35, .getfield 17, 3), (38, .iload_n 3, 1), (39, .aaload, 1), (40, .getfield 79, 3), (43, .aload_n 0, 1), (44, .getfield 17, 3), (47, .iload_n 3, 1), (48, .iconst 1, 1), (49, .isub, 1), (50, .aaload, 1), (51, .getfield 79, 3), (54, .if_icmp .eq 13, 3), (57, .new 51, 3), (60, .dup, 1), (61, .ldc 109, 2), (63, .invokespecial 55, 3), (66, .athrow, 1), (67, .aload_n 0, 1), (68, .getfield 17, 3), (71, .iload_n 3, 1), (72, .aaload, 1), (73, .iconst 0, 1), (74, .putfield 36, 3), (77, .iload_n 2, 1), (78, .ireturn, 1)]
set_option maxRecDepth 100000 in
theorem D_X4_merge : dT cX4_merge I_X4_merge = true := by decide +kernel
def I_X4_move : List (Nat × Instr × Nat) := [(0, .iload_n 1, 1), (1, .ifCond .lt 13, 3), (4, .iload_n 1, 1), (5, .aload_n 0, 1), (6, .bipush 31, 2), (8, .invokevirtual 101, 3), (11, .if_icmp .le 13, 3), (14, .new 94, 3), (17, .dup, 1), (18, .ldc 111, 2), (20, .invokespecial 98, 3), (23, .athrow, 1), (24, .aload_n 0, 1), (25, .iload_n 2, 1), (26, .invokevirtual 56, 3), (29, .aload_n 0, 1), (30, .iload_n 1, 1), (31, .invokevirtual 106, 3), (34, .istore_n 3, 1), (35, .aload_n 0, 1), (36, .iload_n 1, 1), (37, .iconst 1, 1), (38, .iadd, 1), (39, .invokevirtual 106, 3), (42, .istore 4, 2), (44, .aload_n 0, 1), (45, .getfield 17, 3), (48, .iload_n 3, 1), (49, .aaload, 1), (50, .getfield 79, 3), (53, .istore 5, 2), (55, .aload_n 0, 1), (56, .iload 5, 2), (58, .invokevirtual 65, 3), (61, .aload_n 0, 1), (62, .iload_n 2, 1), (63, .invokevirtual 65, 3), (66, .aload_n 0, 1), (67, .getfield 11, 3), (70, .iload 5, 2), (72, .aaload, 1), (73, .aload_n 0, 1), (74, .getfield 47, 3), (77, .invokevirtual 68, 3), (80, .istore 6, 2), (82, .iload_n 3, 1), (83, .istore 7, 2), (85, .iload 7, 2), (87, .iload 4, 2), (89, .if_icmp .ge 32, 3), (92, .aload_n 0, 1), (93, .getfield 17, 3), (96, .iload 7, 2), (98, .aaload, 1), (99, .iload_n 2, 1), (100, .putfield 79, 3), (103, .aload_n 0, 1), (104, .getfield 17, 3), (107, .iload 7, 2), (109, .aaload, 1), (110, .iload 6, 2), (112, .invokevirtual 91, 3), (115, .iinc 7 1, 3), (118, .goto (-33), 3), (121, .iload 5, 2), (123, .ireturn, 1)]
set_option maxRecDepth 100000 in
theorem D_X4_move : dT cX4_move I_X4_move = true := by decide +kernel
def I_X4_begin : List (Nat × Instr × Nat) := [(0, .aload_n 0, 1), (1, .iload_n 1, 1), (2, .invokevirtual 56, 3), (5, .iload_n 2, 1), (6, .ifCond .lt 9, 3), (9, .iload_n 2, 1), (10, .bipush 9, 2), (12, .if_icmp .le 13, 3), (15, .new 40, 3), (18, .dup, 1), (19, .ldc 113, 2), (21, .invokespecial 44, 3), (24, .athrow, 1), (25, .aload_n 0, 1), (26, .iload_n 1, 1), (27, .invokevirtual 65, 3), (30, .aload_n 0, 1), (31, .getfield 115, 3), (34, .bipush 40, 2), (36, .if_icmp .lt 13, 3), (39, .new 51, 3), (42, .dup, 1), (43, .ldc 118, 2), (45, .invokespecial 55, 3), (48, .athrow, 1), (49, .aload_n 0, 1), (50, .getfield 115, 3), (53, .istore_n 3, 1), (54, .aload_n 0, 1), (55, .getfield 23, 3), (58, .iload_n 3, 1), (59, .new 21, 3), (62, .dup, 1), (63, .iload_n 3, 1), (64, .iload_n 1, 1), (65, .iload_n 2, 1), (66, .aload_n 0, 1), (67, .getfield 11, 3), (70, .iload_n 1, 1), (71, .aaload, 1), (72, .aload_n 0, 1), (73, .getfield 47, 3), (76, .invokevirtual 68, 3), (79, .aload_n 0, 1), (80, .getfield 47, 3), (83, .invokespecial 120, 3), (86, .aastore, 1), (87, .aload_n 0, 1), (88, .dup, 1), (89, .getfield 115, 3), (92, .iconst 1, 1), (93, .iadd, 1), (94, .putfield 115, 3), (97, .iload_n 3, 1), (98, .ireturn, 1)]
set_option maxRecDepth 100000 in
theorem D_X4_begin : dT cX4_begin I_X4_begin = true := by decide +kernel
def I_X4_needTransaction : List (Nat × Instr × Nat) := [(0, .iload_n 1, 1), (1, .ifCond .lt 11, 3), (4, .iload_n 1, 1), (5, .aload_n 0, 1), (6, .getfield 115, 3), (9, .if_icmp .lt 13, 3), (12, .new 94, 3), (15, .dup, 1), (16, .ldc 248, 2), (18, .invokespecial 98, 3), (21, .athrow, 1), (22, .return_, 1)]
set_option maxRecDepth 100000 in
theorem D_X4_needTransaction : dT cX4_needTransaction I_X4_needTransaction = true := by decide +kernel
def I_X4_needKey : List (Nat × Instr × Nat) := [(0, .iload_n 1, 1), (1, .ifCond .lt 9, 3), (4, .iload_n 1, 1), (5, .bipush 32, 2), (7, .if_icmp .lt 13, 3), (10, .new 94, 3), (13, .dup, 1), (14, .ldc 246, 2), (16, .invokespecial 98, 3), (19, .athrow, 1), (20, .return_, 1)]
set_option maxRecDepth 100000 in
theorem D_X4_needKey : dT cX4_needKey I_X4_needKey = true := by decide +kernel
def I_X4_refusalAt : List (Nat × Instr × Nat) := [(0, .aload_n 1, 1), (1, .getfield 147, 3), (4, .ifCond .eq 6, 3), (7, .bipush (-13), 2), (9, .ireturn, 1), (10, .aload_n 0, 1), (11, .getfield 11, 3), (14, .aload_n 1, 1), (15, .getfield 150, 3), (18, .aaload, 1), (19, .getfield 76, 3), (22, .ifCond .ne 23, 3), (25, .aload_n 0, 1), (26, .getfield 11, 3), (29, .aload_n 0, 1), (30, .getfield 17, 3), (33, .iload_n 2, 1), (34, .aaload, 1), (35, .getfield 79, 3), (38, .aaload, 1), (39, .getfield 76, 3), (42, .ifCond .eq 8, 3), (45, .bipush (-14), 2), (47, .goto 4, 3), (50, .iconst 0, 1), (51, .ireturn, 1)]
set_option maxRecDepth 100000 in
theorem D_X4_refusalAt : dT cX4_refusalAt I_X4_refusalAt = true := by decide +kernel
def I_X4_askNode : List (Nat × Instr × Nat) := [(0, .aload_n 1, 1), (1, .aconst_null, 1), (2, .putfield 157, 3), (5, .aload_n 0, 1), (6, .getfield 11, 3), (9, .iload_n 2, 1), (10, .aaload, 1), (11, .aload_n 1, 1), (12, .getfield 172, 3), (15, .invokevirtual 257, 3), (18, .aload_n 1, 1), (19, .iload_n 2, 1), (20, .invokevirtual 260, 3), (23, .ifCond .ne 21, 3), (26, .aload_n 1, 1), (27, .iload_n 2, 1), (28, .aload_n 0, 1), (29, .getfield 11, 3), (32, .iload_n 2, 1), (33, .aaload, 1), (34, .aload_n 0, 1), (35, .getfield 47, 3), (38, .invokevirtual 68, 3), (41, .invokevirtual 263, 3), (44, .return_, 1)]
set_option maxRecDepth 100000 in
theorem D_X4_askNode : dT cX4_askNode I_X4_askNode = true := by decide +kernel
def I_X4_hasAllIntents : List (Nat × Instr × Nat) := [(0, .iconst 0, 1), (1, .istore_n 2, 1), (2, .iload_n 2, 1), (3, .bipush 32, 2), (5, .if_icmp .ge 32, 3), (8, .aload_n 1, 1), (9, .iload_n 2, 1), (10, .invokevirtual 274, 3), (13, .ifCond .eq 18, 3), (16, .aload_n 0, 1), (17, .getfield 17, 3), (20, .iload_n 2, 1), (21, .aaload, 1), (22, .getfield 82, 3), (25, .aload_n 1, 1), (26, .if_acmp .eq 5, 3), (29, .iconst 0, 1), (30, .ireturn, 1), (31, .iinc 2 1, 3), (34, .goto (-32), 3), (37, .iconst 1, 1), (38, .ireturn, 1)]
set_option maxRecDepth 100000 in
theorem D_X4_hasAllIntents : dT cX4_hasAllIntents I_X4_hasAllIntents = true := by decide +kernel
def I_X4_decideStaged : List (Nat × Instr × Nat) := [(0, .aload_n 0, 1), (1, .aload_n 1, 1), (2, .invokevirtual 182, 3), (5, .ifCond .ne 9, 3), (8, .aload_n 1, 1), (9, .iconst 3, 1), (10, .putfield 147, 3), (13, .return_, 1), (14, .aload_n 1, 1), (15, .iconst 2, 1), (16, .putfield 147, 3), (19, .aload_n 0, 1), (20, .getfield 30, 3), (23, .aload_n 1, 1), (24, .invokevirtual 317, 3), (27, .iconst 0, 1), (28, .istore_n 2, 1), (29, .iload_n 2, 1), (30, .bipush 32, 2), (32, .if_icmp .ge 45, 3), (35, .aload_n 1, 1), (36, .iload_n 2, 1), (37, .invokevirtual 274, 3), (40, .ifCond .eq 31, 3), (43, .aload_n 0, 1), (44, .getfield 17, 3), (47, .iload_n 2, 1), (48, .aaload, 1), (49, .aconst_null, 1), (50, .putfield 82, 3), (53, .aload_n 0, 1), (54, .getfield 30, 3), (57, .aload_n 1, 1), (58, .getfield 163, 3), (61, .iload_n 2, 1), (62, .aload_n 1, 1), (63, .getfield 277, 3), (66, .iload_n 2, 1), (67, .iaload, 1), (68, .invokevirtual 320, 3), (71, .iinc 2 1, 3), (74, .goto (-45), 3), (77, .return_, 1)]
set_option maxRecDepth 100000 in
theorem D_X4_decideStaged : dT cX4_decideStaged I_X4_decideStaged = true := by decide +kernel
def I_X4_meetIntent : List (Nat × Instr × Nat) := [(0, .aload_n 0, 1), (1, .getfield 17, 3), (4, .iload_n 2, 1), (5, .aaload, 1), (6, .getfield 82, 3), (9, .astore_n 3, 1), (10, .aload_n 3, 1), (11, .ifnull 8, 3), (14, .aload_n 3, 1), (15, .aload_n 1, 1), (16, .if_acmp .ne 5, 3), (19, .aconst_null, 1), (20, .areturn, 1), (21, .aload_n 3, 1), (22, .getfield 147, 3), (25, .iconst 1, 1), (26, .if_icmp .ne 8, 3), (29, .aload_n 0, 1), (30, .aload_n 3, 1), (31, .invokevirtual 185, 3), (34, .aload_n 3, 1), (35, .getfield 147, 3), (38, .ifCond .ne 19, 3), (41, .aload_n 3, 1), (42, .aload_n 0, 1), (43, .getfield 47, 3), (46, .invokevirtual 210, 3), (49, .ifCond .eq 8, 3), (52, .aload_n 3, 1), (53, .iconst 3, 1), (54, .putfield 147, 3), (57, .aload_n 3, 1), (58, .getfield 147, 3), (61, .iconst 3, 1), (62, .if_icmp .ne 13, 3), (65, .aload_n 0, 1), (66, .getfield 17, 3), (69, .iload_n 2, 1), (70, .aaload, 1), (71, .aconst_null, 1), (72, .putfield 82, 3), (75, .aload_n 3, 1), (76, .getfield 147, 3), (79, .ifCond .ne 7, 3), (82, .aload_n 3, 1), (83, .goto 4, 3), (86, .aconst_null, 1), (87, .areturn, 1)]
set_option maxRecDepth 100000 in
theorem D_X4_meetIntent : dT cX4_meetIntent I_X4_meetIntent = true := by decide +kernel
def I_X4_victimOfRing : List (Nat × Instr × Nat) := [(0, .aload_n 1, 1), (1, .astore_n 2, 1), (2, .aload_n 1, 1), (3, .invokevirtual 195, 3), (6, .astore_n 3, 1), (7, .iconst 0, 1), (8, .istore 4, 2), (10, .iload 4, 2), (12, .bipush 40, 2), (14, .if_icmp .ge 33, 3), (17, .aload_n 3, 1), (18, .ifnull 29, 3), (21, .aload_n 3, 1), (22, .aload_n 1, 1), (23, .if_acmp .eq 24, 3), (26, .aload_n 3, 1), (27, .aload_n 2, 1), (28, .invokevirtual 271, 3), (31, .ifCond .eq 5, 3), (34, .aload_n 3, 1), (35, .astore_n 2, 1), (36, .aload_n 3, 1), (37, .invokevirtual 195, 3), (40, .astore_n 3, 1), (41, .iinc 4 1, 3), (44, .goto (-34), 3), (47, .aload_n 3, 1), (48, .aload_n 1, 1), (49, .if_acmp .ne 7, 3), (52, .aload_n 2, 1), (53, .goto 4, 3), (56, .aconst_null, 1), (57, .areturn, 1)]
set_option maxRecDepth 100000 in
theorem D_X4_victimOfRing : dT cX4_victimOfRing I_X4_victimOfRing = true := by decide +kernel
def I_X4_waitFor : List (Nat × Instr × Nat) := [(0, .aload_n 1, 1), (1, .aload_n 2, 1), (2, .putfield 157, 3), (5, .aload_n 0, 1), (6, .aload_n 1, 1), (7, .invokevirtual 267, 3), (10, .astore_n 3, 1), (11, .aload_n 3, 1), (12, .ifnonnull 6, 3), (15, .bipush (-11), 2), (17, .ireturn, 1), (18, .aload_n 1, 1), (19, .aconst_null, 1), (20, .putfield 157, 3), (23, .aload_n 3, 1), (24, .iconst 3, 1), (25, .putfield 147, 3), (28, .aload_n 3, 1), (29, .aload_n 1, 1), (30, .if_acmp .ne 8, 3), (33, .bipush (-13), 2), (35, .goto 5, 3), (38, .bipush (-99), 2), (40, .ireturn, 1)]
set_option maxRecDepth 100000 in
theorem D_X4_waitFor : dT cX4_waitFor I_X4_waitFor = true := by decide +kernel
def I_X4_refreshReads : List (Nat × Instr × Nat) := [(0, .iconst 0, 1), (1, .istore_n 3, 1), (2, .iload_n 3, 1), (3, .bipush 32, 2), (5, .if_icmp .ge 82, 3), (8, .aload_n 1, 1), (9, .iload_n 3, 1), (10, .invokevirtual 304, 3), (13, .ifCond .ne 6, 3), (16, .goto 65, 3), (19, .aload_n 0, 1), (20, .getfield 11, 3), (23, .aload_n 0, 1), (24, .getfield 17, 3), (27, .iload_n 3, 1), (28, .aaload, 1), (29, .getfield 79, 3), (32, .aaload, 1), (33, .getfield 76, 3), (36, .ifCond .eq 5, 3), (39, .iconst 0, 1), (40, .ireturn, 1), (41, .aload_n 0, 1), (42, .aload_n 1, 1), (43, .iload_n 3, 1), (44, .invokevirtual 281, 3), (47, .astore 4, 2), (49, .aload 4, 2), (51, .ifnull 12, 3), (54, .aload 4, 2), (56, .getfield 163, 3), (59, .iload_n 2, 1), (60, .if_icmp .le 19, 3), (63, .aload_n 0, 1), (64, .getfield 30, 3), (67, .iload_n 3, 1), (68, .iload_n 2, 1), (69, .invokevirtual 295, 3), (72, .aload_n 1, 1), (73, .getfield 172, 3), (76, .if_icmp .le 5, 3), (79, .iconst 0, 1), (80, .ireturn, 1), (81, .iinc 3 1, 3), (84, .goto (-82), 3), (87, .iconst 0, 1), (88, .istore_n 3, 1), (89, .iload_n 3, 1), (90, .bipush 32, 2), (92, .if_icmp .ge 31, 3), (95, .aload_n 1, 1), (96, .iload_n 3, 1), (97, .invokevirtual 304, 3), (100, .ifCond .eq 17, 3), (103, .aload_n 0, 1), (104, .getfield 17, 3), (107, .iload_n 3, 1), (108, .aaload, 1), (109, .aload_n 1, 1), (110, .getfield 199, 3), (113, .iload_n 2, 1), (114, .invokevirtual 298, 3), (117, .iinc 3 1, 3), (120, .goto (-31), 3), (123, .aload_n 1, 1), (124, .iload_n 2, 1), (125, .invokevirtual 307, 3), (128, .iconst 1, 1), (129, .ireturn, 1)]
set_option maxRecDepth 100000 in
theorem D_X4_refreshReads : dT cX4_refreshReads I_X4_refreshReads = true := by decide +kernel
def I_X4_restartAt : List (Nat × Instr × Nat) := [(0, .aload_n 0, 1), (1, .getfield 17, 3), (4, .astore_n 3, 1), (5, .aload_n 3, 1), (6, .arraylength, 1), (7, .istore 4, 2), (9, .iconst 0, 1), (10, .istore 5, 2), (12, .iload 5, 2), (14, .iload 4, 2), (16, .if_icmp .ge 30, 3), (19, .aload_n 3, 1), (20, .iload 5, 2), (22, .aaload, 1), (23, .astore 6, 2), (25, .aload 6, 2), (27, .getfield 82, 3), (30, .aload_n 1, 1), (31, .if_acmp .ne 9, 3), (34, .aload 6, 2), (36, .aconst_null, 1), (37, .putfield 82, 3), (40, .iinc 5 1, 3), (43, .goto (-31), 3), (46, .aload_n 1, 1), (47, .iload_n 2, 1), (48, .invokevirtual 310, 3), (51, .bipush (-12), 2), (53, .ireturn, 1)]
set_option maxRecDepth 100000 in
theorem D_X4_restartAt : dT cX4_restartAt I_X4_restartAt = true := by decide +kernel
def I_X4_lookToRead : List (Nat × Instr × Nat) := [(0, .aload_n 1, 1), (1, .iload_n 2, 1), (2, .invokevirtual 274, 3), (5, .ifCond .eq 10, 3), (8, .aload_n 1, 1), (9, .getfield 277, 3), (12, .iload_n 2, 1), (13, .iaload, 1), (14, .ireturn, 1), (15, .aload_n 0, 1), (16, .aload_n 1, 1), (17, .iload_n 2, 1), (18, .invokevirtual 281, 3), (21, .astore_n 3, 1), (22, .aload_n 1, 1), (23, .getfield 172, 3), (26, .aload_n 1, 1), (27, .getfield 285, 3), (30, .aload_n 0, 1), (31, .getfield 17, 3), (34, .iload_n 2, 1), (35, .aaload, 1), (36, .getfield 79, 3), (39, .iaload, 1), (40, .invokestatic 166, 3), (43, .istore 4, 2), (45, .aload_n 3, 1), (46, .ifnull 38, 3), (49, .aload_n 3, 1), (50, .getfield 163, 3), (53, .iload 4, 2), (55, .if_icmp .gt 29, 3), (58, .aload_n 1, 1), (59, .getfield 288, 3), (62, .aload_n 3, 1), (63, .getfield 288, 3), (66, .if_icmp .gt 10, 3), (69, .aload_n 0, 1), (70, .aload_n 1, 1), (71, .aload_n 3, 1), (72, .invokevirtual 291, 3), (75, .ireturn, 1), (76, .aload_n 3, 1), (77, .iload 4, 2), (79, .iconst 1, 1), (80, .iadd, 1), (81, .putfield 163, 3), (84, .aload_n 0, 1), (85, .getfield 30, 3), (88, .iload_n 2, 1), (89, .iload 4, 2), (91, .invokevirtual 295, 3), (94, .istore 5, 2), (96, .iload 5, 2), (98, .aload_n 1, 1), (99, .getfield 172, 3), (102, .if_icmp .le 26, 3), (105, .aload_n 0, 1), (106, .aload_n 1, 1), (107, .iload 5, 2), (109, .invokevirtual 175, 3), (112, .ifCond .eq 8, 3), (115, .bipush (-99), 2), (117, .goto 10, 3), (120, .aload_n 0, 1), (121, .aload_n 1, 1), (122, .iload 5, 2), (124, .invokevirtual 179, 3), (127, .ireturn, 1), (128, .aload_n 0, 1), (129, .getfield 17, 3), (132, .iload_n 2, 1), (133, .aaload, 1), (134, .aload_n 1, 1), (135, .getfield 199, 3), (138, .aload_n 1, 1), (139, .getfield 172, 3), (142, .invokevirtual 298, 3), (145, .aload_n 1, 1), (146, .iload_n 2, 1), (147, .aload_n 0, 1), (148, .getfield 30, 3), (151, .iload_n 2, 1), (152, .aload_n 1, 1), (153, .getfield 172, 3), (156, .invokevirtual 223, 3), (159, .invokevirtual 301, 3), (162, .ireturn, 1)]
set_option maxRecDepth 100000 in
theorem D_X4_lookToRead : dT cX4_lookToRead I_X4_lookToRead = true := by decide +kernel
def I_X4_get : List (Nat × Instr × Nat) := [(0, .aload_n 0, 1), (1, .iload_n 1, 1), (2, .invokevirtual 123, 3), (5, .aload_n 0, 1), (6, .iload_n 2, 1), (7, .invokevirtual 126, 3), (10, .aload_n 0, 1), (11, .getfield 23, 3), (14, .iload_n 1, 1), (15, .aaload, 1), (16, .astore_n 3, 1), (17, .aload_n 0, 1), (18, .aload_n 3, 1), (19, .iload_n 2, 1), (20, .invokevirtual 129, 3), (23, .istore 4, 2), (25, .iload 4, 2), (27, .ifCond .eq 6, 3), (30, .iload 4, 2), (32, .ireturn, 1), (33, .aload_n 0, 1), (34, .aload_n 3, 1), (35, .aload_n 0, 1), (36, .getfield 17, 3), (39, .iload_n 2, 1), (40, .aaload, 1), (41, .getfield 79, 3), (44, .invokevirtual 133, 3), (47, .bipush (-99), 2), (49, .istore 5, 2), (51, .iconst 0, 1), (52, .istore 6, 2), (54, .iload 6, 2), (56, .ldc 137, 2), (58, .if_icmp .ge 24, 3), (61, .iload 5, 2), (63, .bipush (-99), 2), (65, .if_icmp .ne 17, 3), (68, .aload_n 0, 1), (69, .aload_n 3, 1), (70, .iload_n 2, 1), (71, .invokevirtual 138, 3), (74, .istore 5, 2), (76, .iinc 6 1, 3), (79, .goto (-25), 3), (82, .iload 5, 2), (84, .ireturn, 1)]
set_option maxRecDepth 100000 in
theorem D_X4_get : dT cX4_get I_X4_get = true := by decide +kernel
def I_X4_lookToWrite : List (Nat × Instr × Nat) := [(0, .aload_n 0, 1), (1, .getfield 17, 3), (4, .iload_n 2, 1), (5, .aaload, 1), (6, .astore 4, 2), (8, .aload_n 0, 1), (9, .aload_n 1, 1), (10, .iload_n 2, 1), (11, .invokevirtual 281, 3), (14, .astore 5, 2), (16, .aload 5, 2), (18, .ifnull 29, 3), (21, .aload_n 1, 1), (22, .getfield 288, 3), (25, .aload 5, 2), (27, .getfield 288, 3), (30, .if_icmp .gt 11, 3), (33, .aload_n 0, 1), (34, .aload_n 1, 1), (35, .aload 5, 2), (37, .invokevirtual 291, 3), (40, .ireturn, 1), (41, .aload 5, 2), (43, .iconst 3, 1), (44, .putfield 147, 3), (47, .aload_n 0, 1), (48, .getfield 30, 3), (51, .iload_n 2, 1), (52, .ldc_w 313, 3), (55, .invokevirtual 295, 3), (58, .iconst 1, 1), (59, .iadd, 1), (60, .istore 6, 2), (62, .aload 4, 2), (64, .getfield 218, 3), (67, .aload_n 1, 1), (68, .getfield 199, 3), (71, .if_icmp .eq 17, 3), (74, .iload 6, 2), (76, .aload 4, 2), (78, .getfield 217, 3), (81, .iconst 1, 1), (82, .iadd, 1), (83, .invokestatic 166, 3), (86, .istore 6, 2), (88, .aload_n 1, 1), (89, .aload_n 1, 1), (90, .getfield 163, 3), (93, .iload 6, 2), (95, .invokestatic 166, 3), (98, .putfield 163, 3), (101, .aload_n 1, 1), (102, .iload_n 2, 1), (103, .iload_n 3, 1), (104, .invokevirtual 314, 3), (107, .aload 4, 2), (109, .aload_n 1, 1), (110, .putfield 82, 3), (113, .aload 4, 2), (115, .iconst 0, 1), (116, .putfield 86, 3), (119, .iconst 0, 1), (120, .ireturn, 1)]
set_option maxRecDepth 100000 in
theorem D_X4_lookToWrite : dT cX4_lookToWrite I_X4_lookToWrite = true := by decide +kernel
def I_X4_put : List (Nat × Instr × Nat) := [(0, .aload_n 0, 1), (1, .iload_n 1, 1), (2, .invokevirtual 123, 3), (5, .aload_n 0, 1), (6, .iload_n 2, 1), (7, .invokevirtual 126, 3), (10, .iload_n 3, 1), (11, .ifCond .lt 10, 3), (14, .iload_n 3, 1), (15, .sipush 1000, 3), (18, .if_icmp .le 13, 3), (21, .new 40, 3), (24, .dup, 1), (25, .ldc 141, 2), (27, .invokespecial 44, 3), (30, .athrow, 1), (31, .aload_n 0, 1), (32, .getfield 23, 3), (35, .iload_n 1, 1), (36, .aaload, 1), (37, .astore 4, 2), (39, .aload_n 0, 1), (40, .aload 4, 2), (42, .iload_n 2, 1), (43, .invokevirtual 129, 3), (46, .istore 5, 2), (48, .iload 5, 2), (50, .ifCond .eq 6, 3), (53, .iload 5, 2), (55, .ireturn, 1), (56, .aload_n 0, 1), (57, .aload 4, 2), (59, .aload_n 0, 1), (60, .getfield 17, 3), (63, .iload_n 2, 1), (64, .aaload, 1), (65, .getfield 79, 3), (68, .invokevirtual 133, 3), (71, .bipush (-99), 2), (73, .istore 6, 2), (75, .iconst 0, 1), (76, .istore 7, 2), (78, .iload 7, 2), (80, .ldc 137, 2), (82, .if_icmp .ge 26, 3), (85, .iload 6, 2), (87, .bipush (-99), 2), (89, .if_icmp .ne 19, 3), (92, .aload_n 0, 1), (93, .aload 4, 2), (95, .iload_n 2, 1), (96, .iload_n 3, 1), (97, .invokevirtual 143, 3), (100, .istore 6, 2), (102, .iinc 7 1, 3), (105, .goto (-27), 3), (108, .iload 6, 2), (110, .ireturn, 1)]
set_option maxRecDepth 100000 in
theorem D_X4_put : dT cX4_put I_X4_put = true := by decide +kernel
def I_X4_writesOnDownNode : List (Nat × Instr × Nat) := [(0, .iconst 0, 1), (1, .istore_n 2, 1), (2, .iload_n 2, 1), (3, .bipush 32, 2), (5, .if_icmp .ge 39, 3), (8, .aload_n 1, 1), (9, .iload_n 2, 1), (10, .invokevirtual 274, 3), (13, .ifCond .eq 25, 3), (16, .aload_n 0, 1), (17, .getfield 11, 3), (20, .aload_n 0, 1), (21, .getfield 17, 3), (24, .iload_n 2, 1), (25, .aaload, 1), (26, .getfield 79, 3), (29, .aaload, 1), (30, .getfield 76, 3), (33, .ifCond .eq 5, 3), (36, .iconst 1, 1), (37, .ireturn, 1), (38, .iinc 2 1, 3), (41, .goto (-39), 3), (44, .iconst 0, 1), (45, .ireturn, 1)]
set_option maxRecDepth 100000 in
theorem D_X4_writesOnDownNode : dT cX4_writesOnDownNode I_X4_writesOnDownNode = true := by decide +kernel
def I_X4_commit : List (Nat × Instr × Nat) := [(0, .aload_n 0, 1), (1, .iload_n 1, 1), (2, .invokevirtual 123, 3), (5, .aload_n 0, 1), (6, .getfield 23, 3), (9, .iload_n 1, 1), (10, .aaload, 1), (11, .astore_n 3, 1), (12, .aload_n 3, 1), (13, .getfield 147, 3), (16, .ifCond .eq 6, 3), (19, .bipush (-13), 2), (21, .ireturn, 1), (22, .aload_n 0, 1), (23, .getfield 11, 3), (26, .aload_n 3, 1), (27, .getfield 150, 3), (30, .aaload, 1), (31, .getfield 76, 3), (34, .ifCond .ne 11, 3), (37, .aload_n 0, 1), (38, .aload_n 3, 1), (39, .invokevirtual 153, 3), (42, .ifCond .eq 6, 3), (45, .bipush (-14), 2), (47, .ireturn, 1), (48, .aload_n 3, 1), (49, .aconst_null, 1), (50, .putfield 157, 3), (53, .aload_n 3, 1), (54, .getfield 160, 3), (57, .ifCond .eq 20, 3), (60, .aload_n 3, 1), (61, .aload_n 3, 1), (62, .getfield 163, 3), (65, .aload_n 0, 1), (66, .invokevirtual 72, 3), (69, .iconst 1, 1), (70, .iadd, 1), (71, .invokestatic 166, 3), (74, .putfield 163, 3), (77, .aload_n 3, 1), (78, .getfield 163, 3), (81, .aload_n 3, 1), (82, .getfield 172, 3), (85, .if_icmp .le 25, 3), (88, .aload_n 0, 1), (89, .aload_n 3, 1), (90, .aload_n 3, 1), (91, .getfield 163, 3), (94, .invokevirtual 175, 3), (97, .ifCond .ne 13, 3), (100, .aload_n 0, 1), (101, .aload_n 3, 1), (102, .aload_n 3, 1), (103, .getfield 163, 3), (106, .invokevirtual 179, 3), (109, .ireturn, 1), (110, .aload_n 3, 1), (111, .iconst 1, 1), (112, .putfield 147, 3), (115, .iload_n 2, 1), (116, .ifCond .eq 18, 3), (119, .aload_n 3, 1), (120, .getfield 160, 3), (123, .ifCond .eq 11, 3), (126, .aload_n 0, 1), (127, .aload_n 3, 1), (128, .invokevirtual 182, 3), (131, .ifCond .ne 8, 3), (134, .aload_n 0, 1), (135, .aload_n 3, 1), (136, .invokevirtual 185, 3), (139, .aload_n 3, 1), (140, .getfield 147, 3), (143, .iconst 3, 1), (144, .if_icmp .ne 8, 3), (147, .bipush (-13), 2), (149, .goto 4, 3), (152, .iconst 0, 1), (153, .ireturn, 1)]
set_option maxRecDepth 100000 in
theorem D_X4_commit : dT cX4_commit I_X4_commit = true := by decide +kernel
def I_X4_abort : List (Nat × Instr × Nat) := [(0, .aload_n 0, 1), (1, .iload_n 1, 1), (2, .invokevirtual 123, 3), (5, .aload_n 0, 1), (6, .getfield 23, 3), (9, .iload_n 1, 1), (10, .aaload, 1), (11, .getfield 147, 3), (14, .ifCond .eq 6, 3), (17, .bipush (-13), 2), (19, .ireturn, 1), (20, .aload_n 0, 1), (21, .getfield 23, 3), (24, .iload_n 1, 1), (25, .aaload, 1), (26, .iconst 3, 1), (27, .putfield 147, 3), (30, .iconst 0, 1), (31, .ireturn, 1)]
set_option maxRecDepth 100000 in
theorem D_X4_abort : dT cX4_abort I_X4_abort = true := by decide +kernel
def I_X4_recover : List (Nat × Instr × Nat) := [(0, .aload_n 0, 1), (1, .iload_n 1, 1), (2, .invokevirtual 123, 3), (5, .aload_n 0, 1), (6, .getfield 23, 3), (9, .iload_n 1, 1), (10, .aaload, 1), (11, .astore_n 2, 1), (12, .aload_n 2, 1), (13, .getfield 147, 3), (16, .iconst 1, 1), (17, .if_icmp .ne 8, 3), (20, .aload_n 0, 1), (21, .aload_n 2, 1), (22, .invokevirtual 185, 3), (25, .aload_n 2, 1), (26, .getfield 147, 3), (29, .ireturn, 1)]
set_option maxRecDepth 100000 in
theorem D_X4_recover : dT cX4_recover I_X4_recover = true := by decide +kernel
def I_X4_beat : List (Nat × Instr × Nat) := [(0, .aload_n 0, 1), (1, .iload_n 1, 1), (2, .invokevirtual 123, 3), (5, .aload_n 0, 1), (6, .getfield 23, 3), (9, .iload_n 1, 1), (10, .aaload, 1), (11, .getfield 147, 3), (14, .ifCond .eq 6, 3), (17, .bipush (-13), 2), (19, .ireturn, 1), (20, .aload_n 0, 1), (21, .getfield 23, 3), (24, .iload_n 1, 1), (25, .aaload, 1), (26, .aload_n 0, 1), (27, .getfield 47, 3), (30, .putfield 189, 3), (33, .iconst 0, 1), (34, .ireturn, 1)]
set_option maxRecDepth 100000 in
theorem D_X4_beat : dT cX4_beat I_X4_beat = true := by decide +kernel
def I_X4_needWhat : List (Nat × Instr × Nat) := [(0, .iload_n 1, 1), (1, .ifCond .lt 9, 3), (4, .iload_n 1, 1), (5, .bipush 6, 2), (7, .if_icmp .le 13, 3), (10, .new 40, 3), (13, .dup, 1), (14, .ldc 252, 2), (16, .invokespecial 44, 3), (19, .athrow, 1), (20, .return_, 1)]
set_option maxRecDepth 100000 in
theorem D_X4_needWhat : dT cX4_needWhat I_X4_needWhat = true := by decide +kernel
def I_J6_bitCount_0f7a4 : List (Nat × Instr × Nat) := [(0, .iload_n 0, 1), (1, .iload_n 0, 1), (2, .iconst 1, 1), (3, .iushr, 1), (4, .ldc_w 265, 3), (7, .iand, 1), (8, .isub, 1), (9, .istore_n 0, 1), (10, .iload_n 0, 1), (11, .ldc_w 266, 3), (14, .iand, 1), (15, .iload_n 0, 1), (16, .iconst 2, 1), (17, .iushr, 1), (18, .ldc_w 266, 3), (21, .iand, 1), (22, .iadd, 1), (23, .istore_n 0, 1), (24, .iload_n 0, 1), (25, .iload_n 0, 1), (26, .iconst 4, 1), (27, .iushr, 1), (28, .iadd, 1), (29, .ldc_w 267, 3), (32, .iand, 1), (33, .istore_n 0, 1), (34, .iload_n 0, 1), (35, .iload_n 0, 1), (36, .bipush 8, 2), (38, .iushr, 1), (39, .iadd, 1), (40, .istore_n 0, 1), (41, .iload_n 0, 1), (42, .iload_n 0, 1), (43, .bipush 16, 2), (45, .iushr, 1), (46, .iadd, 1), (47, .istore_n 0, 1), (48, .iload_n 0, 1), (49, .bipush 63, 2), (51, .iand, 1), (52, .ireturn, 1)]
set_option maxRecDepth 100000 in
theorem D_J6_bitCount_0f7a4 : dT cJ6_bitCount_0f7a4 I_J6_bitCount_0f7a4 = true := by decide +kernel
def I_X4_told : List (Nat × Instr × Nat) := [(0, .aload_n 0, 1), (1, .iload_n 1, 1), (2, .invokevirtual 123, 3), (5, .aload_n 0, 1), (6, .iload_n 2, 1), (7, .invokevirtual 192, 3), (10, .aload_n 0, 1), (11, .getfield 23, 3), (14, .iload_n 1, 1), (15, .aaload, 1), (16, .astore_n 3, 1), (17, .iload_n 2, 1), (18, .tableswitch 88 0 5 #[38, 43, 48, 53, 72, 80], 38), (56, .aload_n 3, 1), (57, .getfield 147, 3), (60, .ireturn, 1), (61, .aload_n 3, 1), (62, .getfield 172, 3), (65, .ireturn, 1), (66, .aload_n 3, 1), (67, .getfield 163, 3), (70, .ireturn, 1), (71, .aload_n 3, 1), (72, .invokevirtual 195, 3), (75, .ifnonnull 7, 3), (78, .iconst (-1), 1), (79, .goto 10, 3), (82, .aload_n 3, 1), (83, .invokevirtual 195, 3), (86, .getfield 199, 3), (89, .ireturn, 1), (90, .aload_n 3, 1), (91, .getfield 202, 3), (94, .invokestatic 205, 3), (97, .ireturn, 1), (98, .aload_n 3, 1), (99, .getfield 160, 3), (102, .invokestatic 205, 3), (105, .ireturn, 1), (106, .aload_n 3, 1), (107, .aload_n 0, 1), (108, .getfield 47, 3), (111, .invokevirtual 210, 3), (114, .ifCond .eq 7, 3), (117, .iconst 1, 1), (118, .goto 4, 3), (121, .iconst 0, 1), (122, .ireturn, 1)]
set_option maxRecDepth 100000 in
theorem D_X4_told : dT cX4_told I_X4_told = true := by decide +kernel
def I_X4_key : List (Nat × Instr × Nat) := [(0, .aload_n 0, 1), (1, .iload_n 1, 1), (2, .invokevirtual 126, 3), (5, .aload_n 0, 1), (6, .iload_n 2, 1), (7, .invokevirtual 192, 3), (10, .aload_n 0, 1), (11, .getfield 17, 3), (14, .iload_n 1, 1), (15, .aaload, 1), (16, .astore_n 3, 1), (17, .iload_n 2, 1), (18, .tableswitch 87 0 5 #[38, 47, 66, 71, 76, 82], 38), (56, .aload_n 0, 1), (57, .getfield 30, 3), (60, .iload_n 1, 1), (61, .invokevirtual 214, 3), (64, .ireturn, 1), (65, .aload_n 3, 1), (66, .getfield 82, 3), (69, .ifnonnull 7, 3), (72, .iconst (-1), 1), (73, .goto 10, 3), (76, .aload_n 3, 1), (77, .getfield 82, 3), (80, .getfield 199, 3), (83, .ireturn, 1), (84, .aload_n 3, 1), (85, .getfield 217, 3), (88, .ireturn, 1), (89, .aload_n 3, 1), (90, .getfield 218, 3), (93, .ireturn, 1), (94, .aload_n 0, 1), (95, .iload_n 1, 1), (96, .invokevirtual 101, 3), (99, .ireturn, 1), (100, .aload_n 3, 1), (101, .getfield 79, 3), (104, .ireturn, 1), (105, .aload_n 3, 1), (106, .getfield 82, 3), (109, .ifnull 14, 3), (112, .aload_n 3, 1), (113, .getfield 86, 3), (116, .ifCond .eq 7, 3), (119, .iconst 1, 1), (120, .goto 4, 3), (123, .iconst 0, 1), (124, .ireturn, 1)]
set_option maxRecDepth 100000 in
theorem D_X4_key : dT cX4_key I_X4_key = true := by decide +kernel
def I_X4_asOf : List (Nat × Instr × Nat) := [(0, .aload_n 0, 1), (1, .iload_n 1, 1), (2, .invokevirtual 126, 3), (5, .iload_n 2, 1), (6, .ifCond .lt 11, 3), (9, .iload_n 2, 1), (10, .aload_n 0, 1), (11, .invokevirtual 72, 3), (14, .if_icmp .le 13, 3), (17, .new 40, 3), (20, .dup, 1), (21, .ldc 221, 2), (23, .invokespecial 44, 3), (26, .athrow, 1), (27, .aload_n 0, 1), (28, .getfield 17, 3), (31, .iload_n 1, 1), (32, .aaload, 1), (33, .getfield 82, 3), (36, .astore_n 3, 1), (37, .aload_n 3, 1), (38, .ifnull 22, 3), (41, .aload_n 3, 1), (42, .getfield 147, 3), (45, .iconst 1, 1), (46, .if_icmp .ne 14, 3), (49, .aload_n 3, 1), (50, .getfield 163, 3), (53, .iload_n 2, 1), (54, .if_icmp .gt 6, 3), (57, .bipush (-11), 2), (59, .ireturn, 1), (60, .aload_n 0, 1), (61, .getfield 30, 3), (64, .iload_n 1, 1), (65, .iload_n 2, 1), (66, .invokevirtual 223, 3), (69, .ireturn, 1)]
set_option maxRecDepth 100000 in
theorem D_X4_asOf : dT cX4_asOf I_X4_asOf = true := by decide +kernel
def I_X4_resolvedStamp : List (Nat × Instr × Nat) := [(0, .aload_n 0, 1), (1, .invokevirtual 72, 3), (4, .istore_n 1, 1), (5, .iconst 0, 1), (6, .istore_n 2, 1), (7, .iload_n 2, 1), (8, .aload_n 0, 1), (9, .getfield 115, 3), (12, .if_icmp .ge 38, 3), (15, .aload_n 0, 1), (16, .getfield 23, 3), (19, .iload_n 2, 1), (20, .aaload, 1), (21, .getfield 147, 3), (24, .iconst 1, 1), (25, .if_icmp .ne 19, 3), (28, .iload_n 1, 1), (29, .aload_n 0, 1), (30, .getfield 23, 3), (33, .iload_n 2, 1), (34, .aaload, 1), (35, .getfield 163, 3), (38, .iconst 1, 1), (39, .isub, 1), (40, .invokestatic 254, 3), (43, .istore_n 1, 1), (44, .iinc 2 1, 3), (47, .goto (-40), 3), (50, .iload_n 1, 1), (51, .ireturn, 1)]
set_option maxRecDepth 100000 in
theorem D_X4_resolvedStamp : dT cX4_resolvedStamp I_X4_resolvedStamp = true := by decide +kernel
def I_X4_resolved : List (Nat × Instr × Nat) := [(0, .aload_n 0, 1), (1, .invokevirtual 226, 3), (4, .ireturn, 1)]
set_option maxRecDepth 100000 in
theorem D_X4_resolved : dT cX4_resolved I_X4_resolved = true := by decide +kernel
def I_X4_needPlace : List (Nat × Instr × Nat) := [(0, .iload_n 1, 1), (1, .ifCond .ge 13, 3), (4, .new 94, 3), (7, .dup, 1), (8, .ldc 250, 2), (10, .invokespecial 98, 3), (13, .athrow, 1), (14, .return_, 1)]
set_option maxRecDepth 100000 in
theorem D_X4_needPlace : dT cX4_needPlace I_X4_needPlace = true := by decide +kernel
def I_X4_feed : List (Nat × Instr × Nat) := [(0, .aload_n 0, 1), (1, .iload_n 1, 1), (2, .invokevirtual 229, 3), (5, .aload_n 0, 1), (6, .getfield 30, 3), (9, .iload_n 1, 1), (10, .aload_n 0, 1), (11, .invokevirtual 226, 3), (14, .invokevirtual 232, 3), (17, .ireturn, 1)]
set_option maxRecDepth 100000 in
theorem D_X4_feed : dT cX4_feed I_X4_feed = true := by decide +kernel
def I_X4_order : List (Nat × Instr × Nat) := [(0, .aload_n 0, 1), (1, .iload_n 1, 1), (2, .invokevirtual 229, 3), (5, .aload_n 0, 1), (6, .getfield 30, 3), (9, .iload_n 1, 1), (10, .invokevirtual 235, 3), (13, .astore_n 2, 1), (14, .aload_n 2, 1), (15, .ifnonnull 7, 3), (18, .iconst (-1), 1), (19, .goto 7, 3), (22, .aload_n 2, 1), (23, .getfield 199, 3), (26, .ireturn, 1)]
set_option maxRecDepth 100000 in
theorem D_X4_order : dT cX4_order I_X4_order = true := by decide +kernel
def I_X4_judged : List (Nat × Instr × Nat) := [(0, .aload_n 0, 1), (1, .getfield 30, 3), (4, .invokevirtual 239, 3), (7, .ireturn, 1)]
set_option maxRecDepth 100000 in
theorem D_X4_judged : dT cX4_judged I_X4_judged = true := by decide +kernel
def I_X5_init : List (Nat × Instr × Nat) := [(0, .aload_n 0, 1), (1, .invokespecial 1, 3), (4, .aload_n 0, 1), (5, .iconst 4, 1), (6, .newarray .int, 2), (8, .putfield 7, 3), (11, .aload_n 0, 1), (12, .iconst 4, 1), (13, .newarray .int, 2), (15, .putfield 13, 3), (18, .aload_n 0, 1), (19, .iconst 4, 1), (20, .newarray .boolean, 2), (22, .putfield 16, 3), (25, .aload_n 0, 1), (26, .iconst 1, 1), (27, .putfield 20, 3), (30, .aload_n 0, 1), (31, .bipush 32, 2), (33, .newarray .int, 2), (35, .putfield 24, 3), (38, .aload_n 0, 1), (39, .bipush 32, 2), (41, .newarray .int, 2), (43, .putfield 27, 3), (46, .aload_n 0, 1), (47, .bipush 32, 2), (49, .newarray .int, 2), (51, .putfield 30, 3), (54, .aload_n 0, 1), (55, .bipush 32, 2), (57, .newarray .boolean, 2), (59, .putfield 33, 3), (62, .aload_n 0, 1), (63, .bipush 32, 2), (65, .newarray .int, 2), (67, .putfield 36, 3), (70, .aload_n 0, 1), (71, .bipush 32, 2), (73, .newarray .int, 2), (75, .putfield 39, 3), (78, .aload_n 0, 1), (79, .bipush 32, 2), (81, .newarray .int, 2), (83, .putfield 42, 3), (86, .aload_n 0, 1), (87, .sipush 1300, 3), (90, .newarray .int, 2), (92, .putfield 45, 3), (95, .aload_n 0, 1), (96, .sipush 1300, 3), (99, .newarray .int, 2), (101, .putfield 48, 3), (104, .aload_n 0, 1), (105, .sipush 1300, 3), (108, .newarray .int, 2), (110, .putfield 51, 3), (113, .aload_n 0, 1), (114, .bipush 40, 2), (116, .newarray .int, 2), (118, .putfield 54, 3), (121, .aload_n 0, 1), (122, .bipush 40, 2), (124, .newarray .int, 2), (126, .putfield 57, 3), (129, .aload_n 0, 1), (130, .bipush 40, 2), (132, .newarray .int, 2), (134, .putfield 60, 3), (137, .aload_n 0, 1), (138, .bipush 40, 2), (140, .newarray .int, 2), (142, .putfield 63, 3), (145, .aload_n 0, 1), (146, .bipush 40, 2), (148, .newarray .int, 2), (150, .putfield 66, 3), (153, .aload_n 0, 1), (154, .bipush 40, 2), (156, .newarray .int, 2), (158, .putfield 69, 3), (161, .aload_n 0, 1), (162, .bipush 40, 2), (164, .newarray .int, 2), (166, .putfield 72, 3), (169, .aload_n 0, 1), (170, .bipush 40, 2), (172, .newarray .int, 2), (174, .putfield 75, 3), (177, .aload_n 0, 1), (178, .bipush 40, 2), (180, .newarray .int, 2), (182, .putfield 78, 3), (185, .aload_n 0, 1), (186, .sipush 160, 3), (189, .newarray .int, 2), (191, .putfield 81, 3), (194, .aload_n 0, 1), (195, .sipush 1280, 3), (198, .newarray .int, 2), (200, .putfield 84, 3), (203, .aload_n 0, 1), (204, .sipush 1280, 3), (207, .newarray .int, 2), (209, .putfield 87, 3), (212, .aload_n 0, 1), (213, .bipush 32, 2), (215, .newarray .int, 2), (217, .putfield 90, 3), (220, .iconst 0, 1), (221, .istore_n 1, 1), (222, .iload_n 1, 1), (223, .bipush 32, 2), (225, .if_icmp .ge 23, 3), (228, .aload_n 0, 1), (229, .getfield 30, 3), (232, .iload_n 1, 1), (233, .iconst (-1), 1), (234, .iastore, 1), (235, .aload_n 0, 1), (236, .getfield 42, 3), (239, .iload_n 1, 1), (240, .iconst (-1), 1), (241, .iastore, 1), (242, .iinc 1 1, 3), (245, .goto (-23), 3), (248, .return_, 1)]
set_option maxRecDepth 100000 in
theorem D_X5_init : dT cX5_init I_X5_init = true := by decide +kernel
def I_X5_thrown : List (Nat × Instr × Nat) := [(0, .aload_n 0, 1), (1, .getfield 93, 3), (4, .ireturn, 1)]
set_option maxRecDepth 100000 in
theorem D_X5_thrown : dT cX5_thrown I_X5_thrown = true := by decide +kernel
def I_X5_in : List (Nat × Instr × Nat) := [(0, .iload_n 0, 1), (1, .iload_n 1, 1), (2, .if_icmp .lt 12, 3), (5, .iload_n 0, 1), (6, .iload_n 2, 1), (7, .if_icmp .gt 7, 3), (10, .iconst 1, 1), (11, .goto 4, 3), (14, .iconst 0, 1), (15, .ireturn, 1)]
set_option maxRecDepth 100000 in
theorem D_X5_in : dT cX5_in I_X5_in = true := by decide +kernel
def I_X5_greater : List (Nat × Instr × Nat) := [(0, .iload_n 0, 1), (1, .iload_n 1, 1), (2, .if_icmp .le 7, 3), (5, .iload_n 0, 1), (6, .goto 4, 3), (9, .iload_n 1, 1), (10, .ireturn, 1)]
set_option maxRecDepth 100000 in
theorem D_X5_greater : dT cX5_greater I_X5_greater = true := by decide +kernel
def I_X5_pass : List (Nat × Instr × Nat) := [(0, .aload_n 0, 1), (1, .iload_n 1, 1), (2, .iconst 1, 1), (3, .bipush 50, 2), (5, .invokestatic 96, 3), (8, .ifCond .ne 7, 3), (11, .iconst 1, 1), (12, .goto 20, 3), (15, .aload_n 0, 1), (16, .getfield 100, 3), (19, .iload_n 1, 1), (20, .iadd, 1), (21, .sipush 2000, 3), (24, .if_icmp .le 7, 3), (27, .iconst 2, 1), (28, .goto 4, 3), (31, .iconst 0, 1), (32, .putfield 93, 3), (35, .aload_n 0, 1), (36, .dup, 1), (37, .getfield 100, 3), (40, .aload_n 0, 1), (41, .getfield 93, 3), (44, .ifCond .ne 7, 3), (47, .iload_n 1, 1), (48, .goto 4, 3), (51, .iconst 0, 1), (52, .iadd, 1), (53, .putfield 100, 3), (56, .aload_n 0, 1), (57, .getfield 93, 3), (60, .ifCond .ne 10, 3), (63, .aload_n 0, 1), (64, .getfield 100, 3), (67, .goto 4, 3), (70, .iconst 0, 1), (71, .ireturn, 1)]
set_option maxRecDepth 100000 in
theorem D_X5_pass : dT cX5_pass I_X5_pass = true := by decide +kernel
def I_X5_skew : List (Nat × Instr × Nat) := [(0, .aload_n 0, 1), (1, .iload_n 1, 1), (2, .iconst 0, 1), (3, .iconst 3, 1), (4, .invokestatic 96, 3), (7, .ifCond .ne 7, 3), (10, .iconst 1, 1), (11, .goto 18, 3), (14, .iload_n 2, 1), (15, .bipush (-5), 2), (17, .iconst 5, 1), (18, .invokestatic 96, 3), (21, .ifCond .ne 7, 3), (24, .iconst 2, 1), (25, .goto 4, 3), (28, .iconst 0, 1), (29, .putfield 93, 3), (32, .aload_n 0, 1), (33, .getfield 93, 3), (36, .ifCond .le 5, 3), (39, .iconst 0, 1), (40, .ireturn, 1), (41, .aload_n 0, 1), (42, .getfield 7, 3), (45, .iload_n 1, 1), (46, .iaload, 1), (47, .istore_n 3, 1), (48, .aload_n 0, 1), (49, .getfield 7, 3), (52, .iload_n 1, 1), (53, .iload_n 2, 1), (54, .iastore, 1), (55, .iload_n 3, 1), (56, .ireturn, 1)]
set_option maxRecDepth 100000 in
theorem D_X5_skew : dT cX5_skew I_X5_skew = true := by decide +kernel
def I_X5_asks : List (Nat × Instr × Nat) := [(0, .aload_n 0, 1), (1, .getfield 13, 3), (4, .iload_n 1, 1), (5, .bipush 10, 2), (7, .aload_n 0, 1), (8, .getfield 100, 3), (11, .aload_n 0, 1), (12, .getfield 7, 3), (15, .iload_n 1, 1), (16, .iaload, 1), (17, .iadd, 1), (18, .imul, 1), (19, .aload_n 0, 1), (20, .getfield 13, 3), (23, .iload_n 1, 1), (24, .iaload, 1), (25, .iconst 1, 1), (26, .iadd, 1), (27, .invokestatic 103, 3), (30, .iastore, 1), (31, .aload_n 0, 1), (32, .getfield 13, 3), (35, .iload_n 1, 1), (36, .iaload, 1), (37, .ireturn, 1)]
set_option maxRecDepth 100000 in
theorem D_X5_asks : dT cX5_asks I_X5_asks = true := by decide +kernel
def I_X5_clock : List (Nat × Instr × Nat) := [(0, .aload_n 0, 1), (1, .iload_n 1, 1), (2, .iconst 0, 1), (3, .iconst 3, 1), (4, .invokestatic 96, 3), (7, .ifCond .ne 7, 3), (10, .iconst 1, 1), (11, .goto 17, 3), (14, .aload_n 0, 1), (15, .getfield 16, 3), (18, .iload_n 1, 1), (19, .baload, 1), (20, .ifCond .eq 7, 3), (23, .iconst 2, 1), (24, .goto 4, 3), (27, .iconst 0, 1), (28, .putfield 93, 3), (31, .aload_n 0, 1), (32, .getfield 93, 3), (35, .ifCond .ne 11, 3), (38, .aload_n 0, 1), (39, .iload_n 1, 1), (40, .invokevirtual 107, 3), (43, .goto 4, 3), (46, .iconst 0, 1), (47, .ireturn, 1)]
set_option maxRecDepth 100000 in
theorem D_X5_clock : dT cX5_clock I_X5_clock = true := by decide +kernel
def I_X5_closedNow : List (Nat × Instr × Nat) := [(0, .iconst 0, 1), (1, .bipush 10, 2), (3, .aload_n 0, 1), (4, .getfield 100, 3), (7, .bipush 15, 2), (9, .isub, 1), (10, .imul, 1), (11, .invokestatic 103, 3), (14, .ireturn, 1)]
set_option maxRecDepth 100000 in
theorem D_X5_closedNow : dT cX5_closedNow I_X5_closedNow = true := by decide +kernel
def I_X5_closed : List (Nat × Instr × Nat) := [(0, .aload_n 0, 1), (1, .iconst 0, 1), (2, .putfield 93, 3), (5, .aload_n 0, 1), (6, .invokevirtual 111, 3), (9, .ireturn, 1)]
set_option maxRecDepth 100000 in
theorem D_X5_closed : dT cX5_closed I_X5_closed = true := by decide +kernel
def I_X5_rangeOf : List (Nat × Instr × Nat) := [(0, .iconst 0, 1), (1, .istore_n 2, 1), (2, .iload_n 2, 1), (3, .iconst 1, 1), (4, .iadd, 1), (5, .aload_n 0, 1), (6, .getfield 20, 3), (9, .if_icmp .ge 21, 3), (12, .aload_n 0, 1), (13, .getfield 24, 3), (16, .iload_n 2, 1), (17, .iconst 1, 1), (18, .iadd, 1), (19, .iaload, 1), (20, .iload_n 1, 1), (21, .if_icmp .gt 9, 3), (24, .iinc 2 1, 3), (27, .goto (-25), 3), (30, .iload_n 2, 1), (31, .ireturn, 1)]
set_option maxRecDepth 100000 in
theorem D_X5_rangeOf : dT cX5_rangeOf I_X5_rangeOf = true := by decide +kernel
def I_X5_nodeOf : List (Nat × Instr × Nat) := [(0, .aload_n 0, 1), (1, .getfield 27, 3), (4, .aload_n 0, 1), (5, .iload_n 1, 1), (6, .invokevirtual 115, 3), (9, .iaload, 1), (10, .ireturn, 1)]
set_option maxRecDepth 100000 in
theorem D_X5_nodeOf : dT cX5_nodeOf I_X5_nodeOf = true := by decide +kernel
end
section
def I_X5_down : List (Nat × Instr × Nat) := [(0, .aload_n 0, 1), (1, .iload_n 1, 1), (2, .iconst 0, 1), (3, .iconst 3, 1), (4, .invokestatic 96, 3), (7, .ifCond .ne 7, 3), (10, .iconst 1, 1), (11, .goto 17, 3), (14, .aload_n 0, 1), (15, .getfield 16, 3), (18, .iload_n 1, 1), (19, .baload, 1), (20, .ifCond .eq 7, 3), (23, .iconst 2, 1), (24, .goto 4, 3), (27, .iconst 0, 1), (28, .putfield 93, 3), (31, .aload_n 0, 1), (32, .getfield 93, 3), (35, .ifCond .le 5, 3), (38, .iconst 0, 1), (39, .ireturn, 1), (40, .aload_n 0, 1), (41, .getfield 16, 3), (44, .iload_n 1, 1), (45, .iconst 1, 1), (46, .bastore, 1), (47, .iconst 0, 1), (48, .istore_n 2, 1), (49, .iconst 0, 1), (50, .istore_n 3, 1), (51, .iload_n 3, 1), (52, .bipush 32, 2), (54, .if_icmp .ge 47, 3), (57, .aload_n 0, 1), (58, .iload_n 3, 1), (59, .invokevirtual 118, 3), (62, .iload_n 1, 1), (63, .if_icmp .ne 32, 3), (66, .aload_n 0, 1), (67, .getfield 30, 3), (70, .iload_n 3, 1), (71, .iaload, 1), (72, .iconst (-1), 1), (73, .if_icmp .eq 22, 3), (76, .aload_n 0, 1), (77, .getfield 33, 3), (80, .iload_n 3, 1), (81, .baload, 1), (82, .ifCond .ne 13, 3), (85, .aload_n 0, 1), (86, .getfield 30, 3), (89, .iload_n 3, 1), (90, .iconst (-1), 1), (91, .iastore, 1), (92, .iinc 2 1, 3), (95, .iinc 3 1, 3), (98, .goto (-47), 3), (101, .iload_n 2, 1), (102, .ireturn, 1)]
set_option maxRecDepth 100000 in
theorem D_X5_down : dT cX5_down I_X5_down = true := by decide +kernel
def I_X5_covers : List (Nat × Instr × Nat) := [(0, .iload_n 2, 1), (1, .aload_n 0, 1), (2, .getfield 39, 3), (5, .iload_n 1, 1), (6, .iaload, 1), (7, .if_icmp .le 18, 3), (10, .aload_n 0, 1), (11, .getfield 39, 3), (14, .iload_n 1, 1), (15, .iload_n 2, 1), (16, .iastore, 1), (17, .aload_n 0, 1), (18, .getfield 42, 3), (21, .iload_n 1, 1), (22, .bipush (-2), 2), (24, .iastore, 1), (25, .return_, 1)]
set_option maxRecDepth 100000 in
theorem D_X5_covers : dT cX5_covers I_X5_covers = true := by decide +kernel
def I_X5_up : List (Nat × Instr × Nat) := [(0, .aload_n 0, 1), (1, .iload_n 1, 1), (2, .iconst 0, 1), (3, .iconst 3, 1), (4, .invokestatic 96, 3), (7, .ifCond .ne 7, 3), (10, .iconst 1, 1), (11, .goto 17, 3), (14, .aload_n 0, 1), (15, .getfield 16, 3), (18, .iload_n 1, 1), (19, .baload, 1), (20, .ifCond .ne 7, 3), (23, .iconst 2, 1), (24, .goto 4, 3), (27, .iconst 0, 1), (28, .putfield 93, 3), (31, .aload_n 0, 1), (32, .getfield 93, 3), (35, .ifCond .le 5, 3), (38, .iconst 0, 1), (39, .ireturn, 1), (40, .aload_n 0, 1), (41, .getfield 16, 3), (44, .iload_n 1, 1), (45, .iconst 0, 1), (46, .bastore, 1), (47, .aload_n 0, 1), (48, .iload_n 1, 1), (49, .invokevirtual 107, 3), (52, .istore_n 2, 1), (53, .iconst 0, 1), (54, .istore_n 3, 1), (55, .iload_n 3, 1), (56, .bipush 32, 2), (58, .if_icmp .ge 24, 3), (61, .aload_n 0, 1), (62, .iload_n 3, 1), (63, .invokevirtual 118, 3), (66, .iload_n 1, 1), (67, .if_icmp .ne 9, 3), (70, .aload_n 0, 1), (71, .iload_n 3, 1), (72, .iload_n 2, 1), (73, .invokevirtual 121, 3), (76, .iinc 3 1, 3), (79, .goto (-24), 3), (82, .iload_n 2, 1), (83, .ireturn, 1)]
set_option maxRecDepth 100000 in
theorem D_X5_up : dT cX5_up I_X5_up = true := by decide +kernel
def I_X5_sync : List (Nat × Instr × Nat) := [(0, .aload_n 0, 1), (1, .iload_n 1, 1), (2, .iconst 0, 1), (3, .iconst 3, 1), (4, .invokestatic 96, 3), (7, .ifCond .ne 7, 3), (10, .iconst 1, 1), (11, .goto 17, 3), (14, .aload_n 0, 1), (15, .getfield 16, 3), (18, .iload_n 1, 1), (19, .baload, 1), (20, .ifCond .eq 7, 3), (23, .iconst 2, 1), (24, .goto 4, 3), (27, .iconst 0, 1), (28, .putfield 93, 3), (31, .iconst 0, 1), (32, .istore_n 2, 1), (33, .iconst 0, 1), (34, .istore_n 3, 1), (35, .iload_n 3, 1), (36, .bipush 32, 2), (38, .if_icmp .ge 54, 3), (41, .aload_n 0, 1), (42, .getfield 93, 3), (45, .ifCond .ne 47, 3), (48, .aload_n 0, 1), (49, .iload_n 3, 1), (50, .invokevirtual 118, 3), (53, .iload_n 1, 1), (54, .if_icmp .ne 32, 3), (57, .aload_n 0, 1), (58, .getfield 30, 3), (61, .iload_n 3, 1), (62, .iaload, 1), (63, .iconst (-1), 1), (64, .if_icmp .eq 22, 3), (67, .aload_n 0, 1), (68, .getfield 33, 3), (71, .iload_n 3, 1), (72, .baload, 1), (73, .ifCond .ne 13, 3), (76, .aload_n 0, 1), (77, .getfield 33, 3), (80, .iload_n 3, 1), (81, .iconst 1, 1), (82, .bastore, 1), (83, .iinc 2 1, 3), (86, .iinc 3 1, 3), (89, .goto (-54), 3), (92, .iload_n 2, 1), (93, .ireturn, 1)]
set_option maxRecDepth 100000 in
theorem D_X5_sync : dT cX5_sync I_X5_sync = true := by decide +kernel
def I_X5_split : List (Nat × Instr × Nat) := [(0, .aload_n 0, 1), (1, .iload_n 1, 1), (2, .iconst 1, 1), (3, .bipush 31, 2), (5, .invokestatic 96, 3), (8, .ifCond .ne 7, 3), (11, .iconst 1, 1), (12, .goto 22, 3), (15, .aload_n 0, 1), (16, .getfield 24, 3), (19, .aload_n 0, 1), (20, .iload_n 1, 1), (21, .invokevirtual 115, 3), (24, .iaload, 1), (25, .iload_n 1, 1), (26, .if_icmp .ne 7, 3), (29, .iconst 2, 1), (30, .goto 4, 3), (33, .iconst 0, 1), (34, .putfield 93, 3), (37, .aload_n 0, 1), (38, .getfield 93, 3), (41, .ifCond .le 5, 3), (44, .iconst 0, 1), (45, .ireturn, 1), (46, .aload_n 0, 1), (47, .iload_n 1, 1), (48, .invokevirtual 115, 3), (51, .iconst 1, 1), (52, .iadd, 1), (53, .istore_n 2, 1), (54, .aload_n 0, 1), (55, .getfield 20, 3), (58, .istore_n 3, 1), (59, .iload_n 3, 1), (60, .iload_n 2, 1), (61, .if_icmp .le 37, 3), (64, .aload_n 0, 1), (65, .getfield 24, 3), (68, .iload_n 3, 1), (69, .aload_n 0, 1), (70, .getfield 24, 3), (73, .iload_n 3, 1), (74, .iconst 1, 1), (75, .isub, 1), (76, .iaload, 1), (77, .iastore, 1), (78, .aload_n 0, 1), (79, .getfield 27, 3), (82, .iload_n 3, 1), (83, .aload_n 0, 1), (84, .getfield 27, 3), (87, .iload_n 3, 1), (88, .iconst 1, 1), (89, .isub, 1), (90, .iaload, 1), (91, .iastore, 1), (92, .iinc 3 (-1), 3), (95, .goto (-36), 3), (98, .aload_n 0, 1), (99, .getfield 24, 3), (102, .iload_n 2, 1), (103, .iload_n 1, 1), (104, .iastore, 1), (105, .aload_n 0, 1), (106, .getfield 27, 3), (109, .iload_n 2, 1), (110, .aload_n 0, 1), (111, .getfield 27, 3), (114, .iload_n 2, 1), (115, .iconst 1, 1), (116, .isub, 1), (117, .iaload, 1), (118, .iastore, 1), (119, .aload_n 0, 1), (120, .dup, 1), (121, .getfield 20, 3), (124, .iconst 1, 1), (125, .iadd, 1), (126, .putfield 20, 3), (129, .aload_n 0, 1), (130, .getfield 20, 3), (133, .ireturn, 1)]
set_option maxRecDepth 100000 in
theorem D_X5_split : dT cX5_split I_X5_split = true := by decide +kernel
def I_X5_merge : List (Nat × Instr × Nat) := [(0, .aload_n 0, 1), (1, .iload_n 1, 1), (2, .iconst 0, 1), (3, .aload_n 0, 1), (4, .getfield 20, 3), (7, .iconst 2, 1), (8, .isub, 1), (9, .invokestatic 96, 3), (12, .ifCond .ne 7, 3), (15, .iconst 1, 1), (16, .goto 25, 3), (19, .aload_n 0, 1), (20, .getfield 27, 3), (23, .iload_n 1, 1), (24, .iaload, 1), (25, .aload_n 0, 1), (26, .getfield 27, 3), (29, .iload_n 1, 1), (30, .iconst 1, 1), (31, .iadd, 1), (32, .iaload, 1), (33, .if_icmp .eq 7, 3), (36, .iconst 2, 1), (37, .goto 4, 3), (40, .iconst 0, 1), (41, .putfield 93, 3), (44, .aload_n 0, 1), (45, .getfield 93, 3), (48, .ifCond .le 5, 3), (51, .iconst 0, 1), (52, .ireturn, 1), (53, .aload_n 0, 1), (54, .dup, 1), (55, .getfield 20, 3), (58, .iconst 1, 1), (59, .isub, 1), (60, .putfield 20, 3), (63, .iload_n 1, 1), (64, .iconst 1, 1), (65, .iadd, 1), (66, .istore_n 2, 1), (67, .iload_n 2, 1), (68, .aload_n 0, 1), (69, .getfield 20, 3), (72, .if_icmp .ge 37, 3), (75, .aload_n 0, 1), (76, .getfield 24, 3), (79, .iload_n 2, 1), (80, .aload_n 0, 1), (81, .getfield 24, 3), (84, .iload_n 2, 1), (85, .iconst 1, 1), (86, .iadd, 1), (87, .iaload, 1), (88, .iastore, 1), (89, .aload_n 0, 1), (90, .getfield 27, 3), (93, .iload_n 2, 1), (94, .aload_n 0, 1), (95, .getfield 27, 3), (98, .iload_n 2, 1), (99, .iconst 1, 1), (100, .iadd, 1), (101, .iaload, 1), (102, .iastore, 1), (103, .iinc 2 1, 3), (106, .goto (-39), 3), (109, .aload_n 0, 1), (110, .getfield 20, 3), (113, .ireturn, 1)]
set_option maxRecDepth 100000 in
theorem D_X5_merge : dT cX5_merge I_X5_merge = true := by decide +kernel
def I_X5_move : List (Nat × Instr × Nat) := [(0, .aload_n 0, 1), (1, .iload_n 1, 1), (2, .iconst 0, 1), (3, .aload_n 0, 1), (4, .getfield 20, 3), (7, .iconst 1, 1), (8, .isub, 1), (9, .invokestatic 96, 3), (12, .ifCond .eq 12, 3), (15, .iload_n 2, 1), (16, .iconst 0, 1), (17, .iconst 3, 1), (18, .invokestatic 96, 3), (21, .ifCond .ne 7, 3), (24, .iconst 1, 1), (25, .goto 31, 3), (28, .aload_n 0, 1), (29, .getfield 16, 3), (32, .iload_n 2, 1), (33, .baload, 1), (34, .ifCond .ne 17, 3), (37, .aload_n 0, 1), (38, .getfield 16, 3), (41, .aload_n 0, 1), (42, .getfield 27, 3), (45, .iload_n 1, 1), (46, .iaload, 1), (47, .baload, 1), (48, .ifCond .eq 7, 3), (51, .iconst 2, 1), (52, .goto 4, 3), (55, .iconst 0, 1), (56, .putfield 93, 3), (59, .aload_n 0, 1), (60, .getfield 93, 3), (63, .ifCond .le 5, 3), (66, .iconst 0, 1), (67, .ireturn, 1), (68, .aload_n 0, 1), (69, .getfield 27, 3), (72, .iload_n 1, 1), (73, .iaload, 1), (74, .istore_n 3, 1), (75, .aload_n 0, 1), (76, .iload_n 3, 1), (77, .invokevirtual 107, 3), (80, .istore 4, 2), (82, .iconst 0, 1), (83, .istore 5, 2), (85, .iload 5, 2), (87, .bipush 32, 2), (89, .if_icmp .ge 27, 3), (92, .aload_n 0, 1), (93, .iload 5, 2), (95, .invokevirtual 115, 3), (98, .iload_n 1, 1), (99, .if_icmp .ne 11, 3), (102, .aload_n 0, 1), (103, .iload 5, 2), (105, .iload 4, 2), (107, .invokevirtual 121, 3), (110, .iinc 5 1, 3), (113, .goto (-28), 3), (116, .aload_n 0, 1), (117, .getfield 27, 3), (120, .iload_n 1, 1), (121, .iload_n 2, 1), (122, .iastore, 1), (123, .iload_n 3, 1), (124, .ireturn, 1)]
set_option maxRecDepth 100000 in
theorem D_X5_move : dT cX5_move I_X5_move = true := by decide +kernel
def I_X5_forgets : List (Nat × Instr × Nat) := [(0, .iconst 0, 1), (1, .istore_n 2, 1), (2, .iload_n 2, 1), (3, .bipush 32, 2), (5, .if_icmp .ge 33, 3), (8, .aload_n 0, 1), (9, .getfield 84, 3), (12, .bipush 32, 2), (14, .iload_n 1, 1), (15, .imul, 1), (16, .iload_n 2, 1), (17, .iadd, 1), (18, .iconst (-1), 1), (19, .iastore, 1), (20, .aload_n 0, 1), (21, .getfield 87, 3), (24, .bipush 32, 2), (26, .iload_n 1, 1), (27, .imul, 1), (28, .iload_n 2, 1), (29, .iadd, 1), (30, .iconst (-1), 1), (31, .iastore, 1), (32, .iinc 2 1, 3), (35, .goto (-33), 3), (38, .return_, 1)]
set_option maxRecDepth 100000 in
theorem D_X5_forgets : dT cX5_forgets I_X5_forgets = true := by decide +kernel
def I_X5_begin : List (Nat × Instr × Nat) := [(0, .aload_n 0, 1), (1, .iload_n 1, 1), (2, .iconst 0, 1), (3, .iconst 3, 1), (4, .invokestatic 96, 3), (7, .ifCond .ne 7, 3), (10, .iconst 1, 1), (11, .goto 40, 3), (14, .iload_n 2, 1), (15, .iconst 0, 1), (16, .bipush 9, 2), (18, .invokestatic 96, 3), (21, .ifCond .ne 7, 3), (24, .iconst 2, 1), (25, .goto 26, 3), (28, .aload_n 0, 1), (29, .getfield 16, 3), (32, .iload_n 1, 1), (33, .baload, 1), (34, .ifCond .ne 12, 3), (37, .aload_n 0, 1), (38, .getfield 125, 3), (41, .bipush 40, 2), (43, .if_icmp .ne 7, 3), (46, .iconst 3, 1), (47, .goto 4, 3), (50, .iconst 0, 1), (51, .putfield 93, 3), (54, .aload_n 0, 1), (55, .getfield 93, 3), (58, .ifCond .le 5, 3), (61, .iconst 0, 1), (62, .ireturn, 1), (63, .aload_n 0, 1), (64, .getfield 125, 3), (67, .istore_n 3, 1), (68, .aload_n 0, 1), (69, .dup, 1), (70, .getfield 125, 3), (73, .iconst 1, 1), (74, .iadd, 1), (75, .putfield 125, 3), (78, .aload_n 0, 1), (79, .getfield 54, 3), (82, .iload_n 3, 1), (83, .iload_n 1, 1), (84, .iastore, 1), (85, .aload_n 0, 1), (86, .getfield 57, 3), (89, .iload_n 3, 1), (90, .iload_n 2, 1), (91, .iastore, 1), (92, .aload_n 0, 1), (93, .getfield 60, 3), (96, .iload_n 3, 1), (97, .aload_n 0, 1), (98, .iload_n 1, 1), (99, .invokevirtual 107, 3), (102, .iastore, 1), (103, .aload_n 0, 1), (104, .getfield 63, 3), (107, .iload_n 3, 1), (108, .aload_n 0, 1), (109, .getfield 60, 3), (112, .iload_n 3, 1), (113, .iaload, 1), (114, .iastore, 1), (115, .aload_n 0, 1), (116, .getfield 66, 3), (119, .iload_n 3, 1), (120, .aload_n 0, 1), (121, .getfield 60, 3), (124, .iload_n 3, 1), (125, .iaload, 1), (126, .bipush 100, 2), (128, .iadd, 1), (129, .iastore, 1), (130, .aload_n 0, 1), (131, .getfield 69, 3), (134, .iload_n 3, 1), (135, .aload_n 0, 1), (136, .getfield 100, 3), (139, .iastore, 1), (140, .aload_n 0, 1), (141, .getfield 72, 3), (144, .iload_n 3, 1), (145, .iconst 0, 1), (146, .iastore, 1), (147, .aload_n 0, 1), (148, .getfield 75, 3), (151, .iload_n 3, 1), (152, .iconst (-1), 1), (153, .iastore, 1), (154, .iconst 0, 1), (155, .istore 4, 2), (157, .iload 4, 2), (159, .iconst 4, 1), (160, .if_icmp .ge 21, 3), (163, .aload_n 0, 1), (164, .getfield 81, 3), (167, .iconst 4, 1), (168, .iload_n 3, 1), (169, .imul, 1), (170, .iload 4, 2), (172, .iadd, 1), (173, .iconst (-1), 1), (174, .iastore, 1), (175, .iinc 4 1, 3), (178, .goto (-21), 3), (181, .aload_n 0, 1), (182, .iload_n 3, 1), (183, .invokevirtual 128, 3), (186, .iload_n 3, 1), (187, .ireturn, 1)]
set_option maxRecDepth 100000 in
theorem D_X5_begin : dT cX5_begin I_X5_begin = true := by decide +kernel
def I_X5_isVanished : List (Nat × Instr × Nat) := [(0, .aload_n 0, 1), (1, .getfield 72, 3), (4, .iload_n 1, 1), (5, .iaload, 1), (6, .ifCond .eq 13, 3), (9, .aload_n 0, 1), (10, .getfield 72, 3), (13, .iload_n 1, 1), (14, .iaload, 1), (15, .iconst 1, 1), (16, .if_icmp .ne 23, 3), (19, .aload_n 0, 1), (20, .getfield 100, 3), (23, .aload_n 0, 1), (24, .getfield 69, 3), (27, .iload_n 1, 1), (28, .iaload, 1), (29, .bipush 20, 2), (31, .iadd, 1), (32, .if_icmp .le 7, 3), (35, .iconst 1, 1), (36, .goto 4, 3), (39, .iconst 0, 1), (40, .ireturn, 1)]
set_option maxRecDepth 100000 in
theorem D_X5_isVanished : dT cX5_isVanished I_X5_isVanished = true := by decide +kernel
def I_X5_commits : List (Nat × Instr × Nat) := [(0, .aload_n 0, 1), (1, .getfield 72, 3), (4, .iload_n 1, 1), (5, .iconst 2, 1), (6, .iastore, 1), (7, .aload_n 0, 1), (8, .getfield 78, 3), (11, .iload_n 1, 1), (12, .aload_n 0, 1), (13, .getfield 132, 3), (16, .iastore, 1), (17, .aload_n 0, 1), (18, .dup, 1), (19, .getfield 132, 3), (22, .iconst 1, 1), (23, .iadd, 1), (24, .putfield 132, 3), (27, .iconst 0, 1), (28, .istore_n 2, 1), (29, .iload_n 2, 1), (30, .bipush 32, 2), (32, .if_icmp .ge 76, 3), (35, .aload_n 0, 1), (36, .getfield 30, 3), (39, .iload_n 2, 1), (40, .iaload, 1), (41, .iload_n 1, 1), (42, .if_icmp .ne 60, 3), (45, .aload_n 0, 1), (46, .getfield 45, 3), (49, .aload_n 0, 1), (50, .getfield 135, 3), (53, .iload_n 2, 1), (54, .iastore, 1), (55, .aload_n 0, 1), (56, .getfield 48, 3), (59, .aload_n 0, 1), (60, .getfield 135, 3), (63, .aload_n 0, 1), (64, .getfield 63, 3), (67, .iload_n 1, 1), (68, .iaload, 1), (69, .iastore, 1), (70, .aload_n 0, 1), (71, .getfield 51, 3), (74, .aload_n 0, 1), (75, .getfield 135, 3), (78, .aload_n 0, 1), (79, .getfield 36, 3), (82, .iload_n 2, 1), (83, .iaload, 1), (84, .iastore, 1), (85, .aload_n 0, 1), (86, .dup, 1), (87, .getfield 135, 3), (90, .iconst 1, 1), (91, .iadd, 1), (92, .putfield 135, 3), (95, .aload_n 0, 1), (96, .getfield 30, 3), (99, .iload_n 2, 1), (100, .iconst (-1), 1), (101, .iastore, 1), (102, .iinc 2 1, 3), (105, .goto (-76), 3), (108, .return_, 1)]
set_option maxRecDepth 100000 in
theorem D_X5_commits : dT cX5_commits I_X5_commits = true := by decide +kernel
def I_X5_hasAllIntents : List (Nat × Instr × Nat) := [(0, .iconst 1, 1), (1, .istore_n 2, 1), (2, .iconst 0, 1), (3, .istore_n 3, 1), (4, .iload_n 3, 1), (5, .bipush 32, 2), (7, .if_icmp .ge 44, 3), (10, .iload_n 2, 1), (11, .ifCond .eq 32, 3), (14, .aload_n 0, 1), (15, .getfield 87, 3), (18, .bipush 32, 2), (20, .iload_n 1, 1), (21, .imul, 1), (22, .iload_n 3, 1), (23, .iadd, 1), (24, .iaload, 1), (25, .iconst (-1), 1), (26, .if_icmp .eq 13, 3), (29, .aload_n 0, 1), (30, .getfield 30, 3), (33, .iload_n 3, 1), (34, .iaload, 1), (35, .iload_n 1, 1), (36, .if_icmp .ne 7, 3), (39, .iconst 1, 1), (40, .goto 4, 3), (43, .iconst 0, 1), (44, .istore_n 2, 1), (45, .iinc 3 1, 3), (48, .goto (-44), 3), (51, .iload_n 2, 1), (52, .ireturn, 1)]
set_option maxRecDepth 100000 in
theorem D_X5_hasAllIntents : dT cX5_hasAllIntents I_X5_hasAllIntents = true := by decide +kernel
def I_X5_recovers : List (Nat × Instr × Nat) := [(0, .aload_n 0, 1), (1, .iload_n 1, 1), (2, .invokevirtual 138, 3), (5, .ifCond .eq 11, 3), (8, .aload_n 0, 1), (9, .iload_n 1, 1), (10, .invokevirtual 142, 3), (13, .goto 10, 3), (16, .aload_n 0, 1), (17, .getfield 72, 3), (20, .iload_n 1, 1), (21, .iconst 3, 1), (22, .iastore, 1), (23, .return_, 1)]
set_option maxRecDepth 100000 in
theorem D_X5_recovers : dT cX5_recovers I_X5_recovers = true := by decide +kernel
def I_X5_meets : List (Nat × Instr × Nat) := [(0, .aload_n 0, 1), (1, .getfield 30, 3), (4, .iload_n 2, 1), (5, .iaload, 1), (6, .istore_n 3, 1), (7, .iload_n 3, 1), (8, .iconst (-1), 1), (9, .if_icmp .eq 8, 3), (12, .iload_n 3, 1), (13, .iload_n 1, 1), (14, .if_icmp .ne 5, 3), (17, .iconst (-1), 1), (18, .ireturn, 1), (19, .aload_n 0, 1), (20, .getfield 72, 3), (23, .iload_n 3, 1), (24, .iaload, 1), (25, .iconst 1, 1), (26, .if_icmp .ne 8, 3), (29, .aload_n 0, 1), (30, .iload_n 3, 1), (31, .invokevirtual 144, 3), (34, .aload_n 0, 1), (35, .iload_n 3, 1), (36, .invokevirtual 147, 3), (39, .ifCond .eq 10, 3), (42, .aload_n 0, 1), (43, .getfield 72, 3), (46, .iload_n 3, 1), (47, .iconst 3, 1), (48, .iastore, 1), (49, .aload_n 0, 1), (50, .getfield 72, 3), (53, .iload_n 3, 1), (54, .iaload, 1), (55, .iconst 3, 1), (56, .if_icmp .ne 10, 3), (59, .aload_n 0, 1), (60, .getfield 30, 3), (63, .iload_n 2, 1), (64, .iconst (-1), 1), (65, .iastore, 1), (66, .aload_n 0, 1), (67, .getfield 72, 3), (70, .iload_n 3, 1), (71, .iaload, 1), (72, .ifCond .ne 7, 3), (75, .iload_n 3, 1), (76, .goto 4, 3), (79, .iconst (-1), 1), (80, .ireturn, 1)]
set_option maxRecDepth 100000 in
theorem D_X5_meets : dT cX5_meets I_X5_meets = true := by decide +kernel
def I_X5_latest : List (Nat × Instr × Nat) := [(0, .iconst (-1), 1), (1, .istore_n 3, 1), (2, .iconst 0, 1), (3, .istore 4, 2), (5, .iload 4, 2), (7, .aload_n 0, 1), (8, .getfield 135, 3), (11, .if_icmp .ge 47, 3), (14, .aload_n 0, 1), (15, .getfield 45, 3), (18, .iload 4, 2), (20, .iaload, 1), (21, .iload_n 1, 1), (22, .if_icmp .ne 28, 3), (25, .aload_n 0, 1), (26, .getfield 48, 3), (29, .iload 4, 2), (31, .iaload, 1), (32, .iload_n 2, 1), (33, .if_icmp .gt 17, 3), (36, .iload_n 3, 1), (37, .aload_n 0, 1), (38, .getfield 48, 3), (41, .iload 4, 2), (43, .iaload, 1), (44, .invokestatic 103, 3), (47, .goto 4, 3), (50, .iload_n 3, 1), (51, .istore_n 3, 1), (52, .iinc 4 1, 3), (55, .goto (-50), 3), (58, .iload_n 3, 1), (59, .ireturn, 1)]
set_option maxRecDepth 100000 in
theorem D_X5_latest : dT cX5_latest I_X5_latest = true := by decide +kernel
def I_X5_valueAt : List (Nat × Instr × Nat) := [(0, .aload_n 0, 1), (1, .iload_n 1, 1), (2, .iload_n 2, 1), (3, .invokevirtual 150, 3), (6, .istore_n 3, 1), (7, .sipush 1000, 3), (10, .istore 4, 2), (12, .iconst 0, 1), (13, .istore 5, 2), (15, .iload 5, 2), (17, .aload_n 0, 1), (18, .getfield 135, 3), (21, .if_icmp .ge 45, 3), (24, .aload_n 0, 1), (25, .getfield 45, 3), (28, .iload 5, 2), (30, .iaload, 1), (31, .iload_n 1, 1), (32, .if_icmp .ne 24, 3), (35, .aload_n 0, 1), (36, .getfield 48, 3), (39, .iload 5, 2), (41, .iaload, 1), (42, .iload_n 3, 1), (43, .if_icmp .ne 13, 3), (46, .aload_n 0, 1), (47, .getfield 51, 3), (50, .iload 5, 2), (52, .iaload, 1), (53, .goto 5, 3), (56, .iload 4, 2), (58, .istore 4, 2), (60, .iinc 5 1, 3), (63, .goto (-48), 3), (66, .iload 4, 2), (68, .ireturn, 1)]
set_option maxRecDepth 100000 in
theorem D_X5_valueAt : dT cX5_valueAt I_X5_valueAt = true := by decide +kernel
def I_X5_marks : List (Nat × Instr × Nat) := [(0, .iload_n 3, 1), (1, .aload_n 0, 1), (2, .getfield 39, 3), (5, .iload_n 2, 1), (6, .iaload, 1), (7, .if_icmp .le 20, 3), (10, .aload_n 0, 1), (11, .getfield 39, 3), (14, .iload_n 2, 1), (15, .iload_n 3, 1), (16, .iastore, 1), (17, .aload_n 0, 1), (18, .getfield 42, 3), (21, .iload_n 2, 1), (22, .iload_n 1, 1), (23, .iastore, 1), (24, .goto 31, 3), (27, .iload_n 3, 1), (28, .aload_n 0, 1), (29, .getfield 39, 3), (32, .iload_n 2, 1), (33, .iaload, 1), (34, .if_icmp .ne 21, 3), (37, .aload_n 0, 1), (38, .getfield 42, 3), (41, .iload_n 2, 1), (42, .iaload, 1), (43, .iload_n 1, 1), (44, .if_icmp .eq 11, 3), (47, .aload_n 0, 1), (48, .getfield 42, 3), (51, .iload_n 2, 1), (52, .bipush (-2), 2), (54, .iastore, 1), (55, .return_, 1)]
set_option maxRecDepth 100000 in
theorem D_X5_marks : dT cX5_marks I_X5_marks = true := by decide +kernel
def I_X5_refreshes : List (Nat × Instr × Nat) := [(0, .iconst 0, 1), (1, .istore_n 3, 1), (2, .iload_n 3, 1), (3, .bipush 32, 2), (5, .if_icmp .ge 81, 3), (8, .aload_n 0, 1), (9, .getfield 84, 3), (12, .bipush 32, 2), (14, .iload_n 1, 1), (15, .imul, 1), (16, .iload_n 3, 1), (17, .iadd, 1), (18, .iaload, 1), (19, .iconst (-1), 1), (20, .if_icmp .eq 60, 3), (23, .aload_n 0, 1), (24, .getfield 16, 3), (27, .aload_n 0, 1), (28, .iload_n 3, 1), (29, .invokevirtual 118, 3), (32, .baload, 1), (33, .ifCond .eq 5, 3), (36, .iconst 0, 1), (37, .ireturn, 1), (38, .aload_n 0, 1), (39, .iload_n 1, 1), (40, .iload_n 3, 1), (41, .invokevirtual 153, 3), (44, .istore 4, 2), (46, .iload 4, 2), (48, .iconst (-1), 1), (49, .if_icmp .eq 14, 3), (52, .aload_n 0, 1), (53, .getfield 63, 3), (56, .iload 4, 2), (58, .iaload, 1), (59, .iload_n 2, 1), (60, .if_icmp .le 18, 3), (63, .aload_n 0, 1), (64, .iload_n 3, 1), (65, .iload_n 2, 1), (66, .invokevirtual 150, 3), (69, .aload_n 0, 1), (70, .getfield 60, 3), (73, .iload_n 1, 1), (74, .iaload, 1), (75, .if_icmp .le 5, 3), (78, .iconst 0, 1), (79, .ireturn, 1), (80, .iinc 3 1, 3), (83, .goto (-81), 3), (86, .iconst 0, 1), (87, .istore_n 3, 1), (88, .iload_n 3, 1), (89, .bipush 32, 2), (91, .if_icmp .ge 31, 3), (94, .aload_n 0, 1), (95, .getfield 84, 3), (98, .bipush 32, 2), (100, .iload_n 1, 1), (101, .imul, 1), (102, .iload_n 3, 1), (103, .iadd, 1), (104, .iaload, 1), (105, .iconst (-1), 1), (106, .if_icmp .eq 10, 3), (109, .aload_n 0, 1), (110, .iload_n 1, 1), (111, .iload_n 3, 1), (112, .iload_n 2, 1), (113, .invokevirtual 156, 3), (116, .iinc 3 1, 3), (119, .goto (-31), 3), (122, .iconst 1, 1), (123, .ireturn, 1)]
set_option maxRecDepth 100000 in
theorem D_X5_refreshes : dT cX5_refreshes I_X5_refreshes = true := by decide +kernel
def I_X5_restarts : List (Nat × Instr × Nat) := [(0, .iconst 0, 1), (1, .istore_n 3, 1), (2, .iload_n 3, 1), (3, .bipush 32, 2), (5, .if_icmp .ge 35, 3), (8, .aload_n 0, 1), (9, .getfield 30, 3), (12, .iload_n 3, 1), (13, .aload_n 0, 1), (14, .getfield 30, 3), (17, .iload_n 3, 1), (18, .iaload, 1), (19, .iload_n 1, 1), (20, .if_icmp .ne 7, 3), (23, .iconst (-1), 1), (24, .goto 9, 3), (27, .aload_n 0, 1), (28, .getfield 30, 3), (31, .iload_n 3, 1), (32, .iaload, 1), (33, .iastore, 1), (34, .iinc 3 1, 3), (37, .goto (-35), 3), (40, .aload_n 0, 1), (41, .iload_n 1, 1), (42, .invokevirtual 128, 3), (45, .aload_n 0, 1), (46, .getfield 60, 3), (49, .iload_n 1, 1), (50, .iload_n 2, 1), (51, .aload_n 0, 1), (52, .getfield 63, 3), (55, .iload_n 1, 1), (56, .iaload, 1), (57, .invokestatic 103, 3), (60, .iastore, 1), (61, .aload_n 0, 1), (62, .getfield 63, 3), (65, .iload_n 1, 1), (66, .aload_n 0, 1), (67, .getfield 60, 3), (70, .iload_n 1, 1), (71, .iaload, 1), (72, .iastore, 1), (73, .bipush (-12), 2), (75, .ireturn, 1)]
set_option maxRecDepth 100000 in
theorem D_X5_restarts : dT cX5_restarts I_X5_restarts = true := by decide +kernel
def I_X5_waitsFor : List (Nat × Instr × Nat) := [(0, .aload_n 0, 1), (1, .getfield 72, 3), (4, .iload_n 1, 1), (5, .iaload, 1), (6, .ifCond .ne 36, 3), (9, .aload_n 0, 1), (10, .getfield 75, 3), (13, .iload_n 1, 1), (14, .iaload, 1), (15, .iconst (-1), 1), (16, .if_icmp .eq 26, 3), (19, .aload_n 0, 1), (20, .getfield 72, 3), (23, .aload_n 0, 1), (24, .getfield 75, 3), (27, .iload_n 1, 1), (28, .iaload, 1), (29, .iaload, 1), (30, .ifCond .ne 12, 3), (33, .aload_n 0, 1), (34, .getfield 75, 3), (37, .iload_n 1, 1), (38, .iaload, 1), (39, .goto 4, 3), (42, .iconst (-1), 1), (43, .ireturn, 1)]
set_option maxRecDepth 100000 in
theorem D_X5_waitsFor : dT cX5_waitsFor I_X5_waitsFor = true := by decide +kernel
def I_X5_comesAnew : List (Nat × Instr × Nat) := [(0, .aload_n 0, 1), (1, .getfield 75, 3), (4, .iload_n 1, 1), (5, .iload_n 2, 1), (6, .iastore, 1), (7, .iload_n 1, 1), (8, .istore_n 3, 1), (9, .iload_n 2, 1), (10, .istore 4, 2), (12, .iconst 0, 1), (13, .istore 5, 2), (15, .iload 4, 2), (17, .iconst (-1), 1), (18, .if_icmp .eq 75, 3), (21, .iload 4, 2), (23, .iload_n 1, 1), (24, .if_icmp .eq 69, 3), (27, .iload 5, 2), (29, .bipush 40, 2), (31, .if_icmp .ge 62, 3), (34, .aload_n 0, 1), (35, .getfield 57, 3), (38, .iload 4, 2), (40, .iaload, 1), (41, .aload_n 0, 1), (42, .getfield 57, 3), (45, .iload_n 3, 1), (46, .iaload, 1), (47, .if_icmp .lt 25, 3), (50, .aload_n 0, 1), (51, .getfield 57, 3), (54, .iload 4, 2), (56, .iaload, 1), (57, .aload_n 0, 1), (58, .getfield 57, 3), (61, .iload_n 3, 1), (62, .iaload, 1), (63, .if_icmp .ne 14, 3), (66, .iload 4, 2), (68, .iload_n 3, 1), (69, .if_icmp .le 8, 3), (72, .iload 4, 2), (74, .goto 4, 3), (77, .iload_n 3, 1), (78, .istore_n 3, 1), (79, .aload_n 0, 1), (80, .iload 4, 2), (82, .invokevirtual 160, 3), (85, .istore 4, 2), (87, .iinc 5 1, 3), (90, .goto (-75), 3), (93, .iload 4, 2), (95, .iload_n 1, 1), (96, .if_icmp .eq 5, 3), (99, .iconst 0, 1), (100, .ireturn, 1), (101, .aload_n 0, 1), (102, .getfield 72, 3), (105, .iload_n 3, 1), (106, .iconst 3, 1), (107, .iastore, 1), (108, .aload_n 0, 1), (109, .getfield 75, 3), (112, .iload_n 1, 1), (113, .iconst (-1), 1), (114, .iastore, 1), (115, .iload_n 3, 1), (116, .iload_n 1, 1), (117, .if_icmp .eq 7, 3), (120, .iconst 1, 1), (121, .goto 4, 3), (124, .iconst 0, 1), (125, .ireturn, 1)]
set_option maxRecDepth 100000 in
theorem D_X5_comesAnew : dT cX5_comesAnew I_X5_comesAnew = true := by decide +kernel
def I_X5_waitAnswer : List (Nat × Instr × Nat) := [(0, .aload_n 0, 1), (1, .getfield 72, 3), (4, .iload_n 1, 1), (5, .iaload, 1), (6, .ifCond .ne 8, 3), (9, .bipush (-11), 2), (11, .goto 5, 3), (14, .bipush (-13), 2), (16, .ireturn, 1)]
set_option maxRecDepth 100000 in
theorem D_X5_waitAnswer : dT cX5_waitAnswer I_X5_waitAnswer = true := by decide +kernel
def I_X5_opens : List (Nat × Instr × Nat) := [(0, .aload_n 0, 1), (1, .getfield 72, 3), (4, .iload_n 1, 1), (5, .iaload, 1), (6, .ifCond .eq 6, 3), (9, .bipush (-13), 2), (11, .ireturn, 1), (12, .aload_n 0, 1), (13, .iload_n 2, 1), (14, .invokevirtual 118, 3), (17, .istore_n 3, 1), (18, .aload_n 0, 1), (19, .getfield 16, 3), (22, .aload_n 0, 1), (23, .getfield 54, 3), (26, .iload_n 1, 1), (27, .iaload, 1), (28, .baload, 1), (29, .ifCond .ne 12, 3), (32, .aload_n 0, 1), (33, .getfield 16, 3), (36, .iload_n 3, 1), (37, .baload, 1), (38, .ifCond .eq 6, 3), (41, .bipush (-14), 2), (43, .ireturn, 1), (44, .aload_n 0, 1), (45, .getfield 75, 3), (48, .iload_n 1, 1), (49, .iconst (-1), 1), (50, .iastore, 1), (51, .aload_n 0, 1), (52, .getfield 13, 3), (55, .iload_n 3, 1), (56, .aload_n 0, 1), (57, .getfield 13, 3), (60, .iload_n 3, 1), (61, .iaload, 1), (62, .aload_n 0, 1), (63, .getfield 60, 3), (66, .iload_n 1, 1), (67, .iaload, 1), (68, .invokestatic 103, 3), (71, .iastore, 1), (72, .aload_n 0, 1), (73, .getfield 81, 3), (76, .iconst 4, 1), (77, .iload_n 1, 1), (78, .imul, 1), (79, .iload_n 3, 1), (80, .iadd, 1), (81, .iaload, 1), (82, .iconst (-1), 1), (83, .if_icmp .ne 42, 3), (86, .aload_n 0, 1), (87, .iload_n 3, 1), (88, .invokevirtual 107, 3), (91, .istore 4, 2), (93, .aload_n 0, 1), (94, .getfield 81, 3), (97, .iconst 4, 1), (98, .iload_n 1, 1), (99, .imul, 1), (100, .iload_n 3, 1), (101, .iadd, 1), (102, .iload 4, 2), (104, .aload_n 0, 1), (105, .getfield 66, 3), (108, .iload_n 1, 1), (109, .iaload, 1), (110, .if_icmp .ge 8, 3), (113, .iload 4, 2), (115, .goto 9, 3), (118, .aload_n 0, 1), (119, .getfield 66, 3), (122, .iload_n 1, 1), (123, .iaload, 1), (124, .iastore, 1), (125, .iconst 0, 1), (126, .ireturn, 1)]
set_option maxRecDepth 100000 in
theorem D_X5_opens : dT cX5_opens I_X5_opens = true := by decide +kernel
def I_X5_areThere : List (Nat × Instr × Nat) := [(0, .aload_n 0, 1), (1, .iload_n 1, 1), (2, .iconst 0, 1), (3, .aload_n 0, 1), (4, .getfield 125, 3), (7, .iconst 1, 1), (8, .isub, 1), (9, .invokestatic 96, 3), (12, .ifCond .eq 17, 3), (15, .iload_n 2, 1), (16, .iconst 0, 1), (17, .bipush 31, 2), (19, .invokestatic 96, 3), (22, .ifCond .eq 7, 3), (25, .iconst 0, 1), (26, .goto 4, 3), (29, .iconst 1, 1), (30, .putfield 93, 3), (33, .aload_n 0, 1), (34, .getfield 93, 3), (37, .ifCond .ne 7, 3), (40, .iconst 1, 1), (41, .goto 4, 3), (44, .iconst 0, 1), (45, .ireturn, 1)]
set_option maxRecDepth 100000 in
theorem D_X5_areThere : dT cX5_areThere I_X5_areThere = true := by decide +kernel
def I_X5_get_0 : List (Nat × Instr × Nat) := [(0, .aload_n 0, 1), (1, .iload_n 1, 1), (2, .iload_n 2, 1), (3, .invokevirtual 163, 3), (6, .ifCond .ne 5, 3), (9, .iconst 0, 1), (10, .ireturn, 1), (11, .iload_n 1, 1), (12, .istore_n 3, 1), (13, .aload_n 0, 1), (14, .iload_n 3, 1), (15, .iload_n 2, 1), (16, .invokevirtual 167, 3), (19, .istore 4, 2), (21, .iload 4, 2), (23, .ifCond .eq 6, 3), (26, .iload 4, 2), (28, .ireturn, 1), (29, .aload_n 0, 1), (30, .getfield 87, 3), (33, .bipush 32, 2), (35, .iload_n 3, 1), (36, .imul, 1), (37, .iload_n 2, 1), (38, .iadd, 1), (39, .iaload, 1), (40, .iconst (-1), 1), (41, .if_icmp .eq 15, 3), (44, .aload_n 0, 1), (45, .getfield 87, 3), (48, .bipush 32, 2), (50, .iload_n 3, 1), (51, .imul, 1), (52, .iload_n 2, 1), (53, .iadd, 1), (54, .iaload, 1), (55, .ireturn, 1), (56, .aload_n 0, 1), (57, .getfield 81, 3), (60, .iconst 4, 1), (61, .iload_n 3, 1), (62, .imul, 1), (63, .aload_n 0, 1), (64, .iload_n 2, 1), (65, .invokevirtual 118, 3), (68, .iadd, 1), (69, .iaload, 1), (70, .istore 5, 2)]
set_option maxRecDepth 100000 in
theorem D_X5_get_0 : dT cX5_get I_X5_get_0 = true := by decide +kernel
def I_X5_get_1 : List (Nat × Instr × Nat) := [(72, .iconst 1, 1), (73, .istore 6, 2), (75, .iload 6, 2), (77, .ifCond .eq 171, 3), (80, .iconst 0, 1), (81, .istore 6, 2), (83, .aload_n 0, 1), (84, .iload_n 3, 1), (85, .iload_n 2, 1), (86, .invokevirtual 153, 3), (89, .istore 7, 2), (91, .aload_n 0, 1), (92, .getfield 60, 3), (95, .iload_n 3, 1), (96, .iaload, 1), (97, .iload 5, 2), (99, .invokestatic 103, 3), (102, .istore 8, 2), (104, .iload 7, 2), (106, .iconst (-1), 1), (107, .if_icmp .eq 67, 3), (110, .aload_n 0, 1), (111, .getfield 63, 3), (114, .iload 7, 2), (116, .iaload, 1), (117, .iload 8, 2), (119, .if_icmp .gt 55, 3), (122, .aload_n 0, 1), (123, .getfield 57, 3), (126, .iload_n 3, 1), (127, .iaload, 1), (128, .aload_n 0, 1), (129, .getfield 57, 3), (132, .iload 7, 2), (134, .iaload, 1), (135, .if_icmp .le 17, 3), (138, .aload_n 0, 1), (139, .getfield 63, 3), (142, .iload 7, 2), (144, .iload 8, 2), (146, .iconst 1, 1), (147, .iadd, 1), (148, .iastore, 1), (149, .goto 25, 3), (152, .aload_n 0, 1), (153, .iload_n 3, 1), (154, .iload 7, 2), (156, .invokevirtual 170, 3)]
set_option maxRecDepth 100000 in
theorem D_X5_get_1 : dT cX5_get I_X5_get_1 = true := by decide +kernel
def I_X5_get_2 : List (Nat × Instr × Nat) := [(159, .ifCond .eq 9, 3), (162, .iconst 1, 1), (163, .istore 6, 2), (165, .goto 9, 3), (168, .aload_n 0, 1), (169, .iload_n 3, 1), (170, .invokevirtual 173, 3), (173, .ireturn, 1), (174, .aload_n 0, 1), (175, .iload_n 2, 1), (176, .iload 5, 2), (178, .invokevirtual 150, 3), (181, .istore 9, 2), (183, .iload 6, 2), (185, .ifCond .ne 60, 3), (188, .iload 9, 2), (190, .aload_n 0, 1), (191, .getfield 60, 3), (194, .iload_n 3, 1), (195, .iaload, 1), (196, .if_icmp .le 49, 3), (199, .aload_n 0, 1), (200, .iload_n 3, 1), (201, .iload 9, 2), (203, .invokevirtual 176, 3), (206, .ifCond .ne 11, 3), (209, .aload_n 0, 1), (210, .iload_n 3, 1), (211, .iload 9, 2), (213, .invokevirtual 179, 3), (216, .ireturn, 1), (217, .aload_n 0, 1), (218, .getfield 60, 3), (221, .iload_n 3, 1), (222, .iload 9, 2), (224, .iastore, 1), (225, .aload_n 0, 1), (226, .getfield 63, 3), (229, .iload_n 3, 1), (230, .aload_n 0, 1), (231, .getfield 63, 3), (234, .iload_n 3, 1), (235, .iaload, 1), (236, .iload 9, 2), (238, .invokestatic 103, 3), (241, .iastore, 1), (242, .iconst 1, 1), (243, .istore 6, 2)]
set_option maxRecDepth 100000 in
theorem D_X5_get_2 : dT cX5_get I_X5_get_2 = true := by decide +kernel
def I_X5_get_3 : List (Nat × Instr × Nat) := [(245, .goto (-170), 3), (248, .aload_n 0, 1), (249, .iload_n 2, 1), (250, .aload_n 0, 1), (251, .getfield 60, 3), (254, .iload_n 3, 1), (255, .iaload, 1), (256, .invokevirtual 182, 3), (259, .istore 7, 2), (261, .aload_n 0, 1), (262, .getfield 84, 3), (265, .bipush 32, 2), (267, .iload_n 3, 1), (268, .imul, 1), (269, .iload_n 2, 1), (270, .iadd, 1), (271, .iload 7, 2), (273, .iastore, 1), (274, .aload_n 0, 1), (275, .iload_n 3, 1), (276, .iload_n 2, 1), (277, .aload_n 0, 1), (278, .getfield 60, 3), (281, .iload_n 3, 1), (282, .iaload, 1), (283, .invokevirtual 156, 3), (286, .iload 7, 2), (288, .ireturn, 1)]
set_option maxRecDepth 100000 in
theorem D_X5_get_3 : dT cX5_get I_X5_get_3 = true := by decide +kernel
def I_X5_put_0 : List (Nat × Instr × Nat) := [(0, .aload_n 0, 1), (1, .iload_n 1, 1), (2, .iload_n 2, 1), (3, .invokevirtual 163, 3), (6, .ifCond .ne 5, 3), (9, .iconst 0, 1), (10, .ireturn, 1), (11, .aload_n 0, 1), (12, .iload_n 3, 1), (13, .iconst 0, 1), (14, .sipush 1000, 3), (17, .invokestatic 96, 3), (20, .ifCond .eq 7, 3), (23, .iconst 0, 1), (24, .goto 4, 3), (27, .iconst 2, 1), (28, .putfield 93, 3), (31, .aload_n 0, 1), (32, .getfield 93, 3), (35, .ifCond .le 5, 3), (38, .iconst 0, 1), (39, .ireturn, 1), (40, .iload_n 1, 1), (41, .istore 4, 2), (43, .aload_n 0, 1), (44, .iload 4, 2), (46, .iload_n 2, 1), (47, .invokevirtual 167, 3), (50, .istore 5, 2), (52, .iload 5, 2), (54, .ifCond .eq 6, 3), (57, .iload 5, 2), (59, .ireturn, 1), (60, .aload_n 0, 1), (61, .iload 4, 2), (63, .iload_n 2, 1), (64, .invokevirtual 153, 3), (67, .istore 6, 2), (69, .iload 6, 2), (71, .iconst (-1), 1), (72, .if_icmp .eq 68, 3), (75, .aload_n 0, 1), (76, .getfield 57, 3), (79, .iload 4, 2), (81, .iaload, 1), (82, .aload_n 0, 1), (83, .getfield 57, 3), (86, .iload 6, 2)]
set_option maxRecDepth 100000 in
theorem D_X5_put_0 : dT cX5_put I_X5_put_0 = true := by decide +kernel
def I_X5_put_1 : List (Nat × Instr × Nat) := [(88, .iaload, 1), (89, .if_icmp .le 21, 3), (92, .aload_n 0, 1), (93, .getfield 72, 3), (96, .iload 6, 2), (98, .iconst 3, 1), (99, .iastore, 1), (100, .aload_n 0, 1), (101, .getfield 30, 3), (104, .iload_n 2, 1), (105, .iconst (-1), 1), (106, .iastore, 1), (107, .goto 21, 3), (110, .aload_n 0, 1), (111, .iload 4, 2), (113, .iload 6, 2), (115, .invokevirtual 170, 3), (118, .ifCond .ne 10, 3), (121, .aload_n 0, 1), (122, .iload 4, 2), (124, .invokevirtual 173, 3), (127, .ireturn, 1), (128, .aload_n 0, 1), (129, .iload 4, 2), (131, .iload_n 2, 1), (132, .invokevirtual 153, 3), (135, .istore 6, 2), (137, .goto (-68), 3), (140, .aload_n 0, 1), (141, .getfield 63, 3), (144, .iload 4, 2), (146, .aload_n 0, 1), (147, .getfield 63, 3), (150, .iload 4, 2), (152, .iaload, 1), (153, .aload_n 0, 1), (154, .iload_n 2, 1), (155, .ldc 185, 2), (157, .invokevirtual 150, 3), (160, .iconst 1, 1), (161, .iadd, 1), (162, .invokestatic 103, 3), (165, .iastore, 1), (166, .aload_n 0, 1), (167, .getfield 63, 3), (170, .iload 4, 2), (172, .aload_n 0, 1), (173, .getfield 42, 3)]
set_option maxRecDepth 100000 in
theorem D_X5_put_1 : dT cX5_put I_X5_put_1 = true := by decide +kernel
def I_X5_put_2 : List (Nat × Instr × Nat) := [(176, .iload_n 2, 1), (177, .iaload, 1), (178, .iload 4, 2), (180, .if_icmp .ne 13, 3), (183, .aload_n 0, 1), (184, .getfield 63, 3), (187, .iload 4, 2), (189, .iaload, 1), (190, .goto 21, 3), (193, .aload_n 0, 1), (194, .getfield 63, 3), (197, .iload 4, 2), (199, .iaload, 1), (200, .aload_n 0, 1), (201, .getfield 39, 3), (204, .iload_n 2, 1), (205, .iaload, 1), (206, .iconst 1, 1), (207, .iadd, 1), (208, .invokestatic 103, 3), (211, .iastore, 1), (212, .aload_n 0, 1), (213, .getfield 30, 3), (216, .iload_n 2, 1), (217, .iload 4, 2), (219, .iastore, 1), (220, .aload_n 0, 1), (221, .getfield 33, 3), (224, .iload_n 2, 1), (225, .iconst 0, 1), (226, .bastore, 1), (227, .aload_n 0, 1), (228, .getfield 36, 3), (231, .iload_n 2, 1), (232, .iload_n 3, 1), (233, .iastore, 1), (234, .aload_n 0, 1), (235, .getfield 87, 3), (238, .bipush 32, 2), (240, .iload 4, 2), (242, .imul, 1), (243, .iload_n 2, 1), (244, .iadd, 1), (245, .iload_n 3, 1), (246, .iastore, 1), (247, .iconst 0, 1), (248, .ireturn, 1)]
set_option maxRecDepth 100000 in
theorem D_X5_put_2 : dT cX5_put I_X5_put_2 = true := by decide +kernel
def I_X5_counts : List (Nat × Instr × Nat) := [(0, .iconst 0, 1), (1, .istore_n 3, 1), (2, .iconst 0, 1), (3, .istore 4, 2), (5, .iload 4, 2), (7, .bipush 32, 2), (9, .if_icmp .ge 30, 3), (12, .iload_n 3, 1), (13, .aload_n 2, 1), (14, .bipush 32, 2), (16, .iload_n 1, 1), (17, .imul, 1), (18, .iload 4, 2), (20, .iadd, 1), (21, .iaload, 1), (22, .iconst (-1), 1), (23, .if_icmp .eq 7, 3), (26, .iconst 1, 1), (27, .goto 4, 3), (30, .iconst 0, 1), (31, .iadd, 1), (32, .istore_n 3, 1), (33, .iinc 4 1, 3), (36, .goto (-31), 3), (39, .iload_n 3, 1), (40, .ireturn, 1)]
set_option maxRecDepth 100000 in
theorem D_X5_counts : dT cX5_counts I_X5_counts = true := by decide +kernel
def I_X5_isTransaction : List (Nat × Instr × Nat) := [(0, .aload_n 0, 1), (1, .iload_n 1, 1), (2, .iconst 0, 1), (3, .aload_n 0, 1), (4, .getfield 125, 3), (7, .iconst 1, 1), (8, .isub, 1), (9, .invokestatic 96, 3), (12, .ifCond .eq 7, 3), (15, .iconst 0, 1), (16, .goto 4, 3), (19, .iconst 1, 1), (20, .putfield 93, 3), (23, .aload_n 0, 1), (24, .getfield 93, 3), (27, .ifCond .ne 7, 3), (30, .iconst 1, 1), (31, .goto 4, 3), (34, .iconst 0, 1), (35, .ireturn, 1)]
set_option maxRecDepth 100000 in
theorem D_X5_isTransaction : dT cX5_isTransaction I_X5_isTransaction = true := by decide +kernel
def I_X5_commit_0 : List (Nat × Instr × Nat) := [(0, .aload_n 0, 1), (1, .iload_n 1, 1), (2, .invokevirtual 186, 3), (5, .ifCond .ne 5, 3), (8, .iconst 0, 1), (9, .ireturn, 1), (10, .iload_n 1, 1), (11, .istore_n 3, 1), (12, .aload_n 0, 1), (13, .getfield 72, 3), (16, .iload_n 3, 1), (17, .iaload, 1), (18, .ifCond .eq 6, 3), (21, .bipush (-13), 2), (23, .ireturn, 1), (24, .aload_n 0, 1), (25, .getfield 16, 3), (28, .aload_n 0, 1), (29, .getfield 54, 3), (32, .iload_n 3, 1), (33, .iaload, 1), (34, .baload, 1), (35, .istore 4, 2), (37, .iconst 0, 1), (38, .istore 5, 2), (40, .iload 5, 2), (42, .bipush 32, 2), (44, .if_icmp .ge 51, 3), (47, .iload 4, 2), (49, .ifCond .ne 33, 3), (52, .aload_n 0, 1), (53, .getfield 87, 3), (56, .bipush 32, 2), (58, .iload_n 3, 1), (59, .imul, 1), (60, .iload 5, 2), (62, .iadd, 1), (63, .iaload, 1), (64, .iconst (-1), 1), (65, .if_icmp .eq 21, 3), (68, .aload_n 0, 1), (69, .getfield 16, 3), (72, .aload_n 0, 1), (73, .iload 5, 2), (75, .invokevirtual 118, 3), (78, .baload, 1), (79, .ifCond .eq 7, 3), (82, .iconst 1, 1)]
set_option maxRecDepth 100000 in
theorem D_X5_commit_0 : dT cX5_commit I_X5_commit_0 = true := by decide +kernel
def I_X5_commit_1 : List (Nat × Instr × Nat) := [(83, .goto 4, 3), (86, .iconst 0, 1), (87, .istore 4, 2), (89, .iinc 5 1, 3), (92, .goto (-52), 3), (95, .iload 4, 2), (97, .ifCond .eq 6, 3), (100, .bipush (-14), 2), (102, .ireturn, 1), (103, .aload_n 0, 1), (104, .getfield 75, 3), (107, .iload_n 3, 1), (108, .iconst (-1), 1), (109, .iastore, 1), (110, .aload_n 0, 1), (111, .iload_n 3, 1), (112, .aload_n 0, 1), (113, .getfield 87, 3), (116, .invokevirtual 189, 3), (119, .ifCond .le 7, 3), (122, .iconst 1, 1), (123, .goto 4, 3), (126, .iconst 0, 1), (127, .istore 5, 2), (129, .aload_n 0, 1), (130, .getfield 63, 3), (133, .iload_n 3, 1), (134, .iload 5, 2), (136, .ifCond .eq 21, 3), (139, .aload_n 0, 1), (140, .getfield 63, 3), (143, .iload_n 3, 1), (144, .iaload, 1), (145, .aload_n 0, 1), (146, .invokevirtual 111, 3), (149, .iconst 1, 1), (150, .iadd, 1), (151, .invokestatic 103, 3), (154, .goto 9, 3), (157, .aload_n 0, 1), (158, .getfield 63, 3), (161, .iload_n 3, 1), (162, .iaload, 1), (163, .iastore, 1), (164, .aload_n 0, 1), (165, .getfield 63, 3), (168, .iload_n 3, 1), (169, .iaload, 1)]
set_option maxRecDepth 100000 in
theorem D_X5_commit_1 : dT cX5_commit I_X5_commit_1 = true := by decide +kernel
def I_X5_commit_2 : List (Nat × Instr × Nat) := [(170, .aload_n 0, 1), (171, .getfield 60, 3), (174, .iload_n 3, 1), (175, .iaload, 1), (176, .if_icmp .le 41, 3), (179, .aload_n 0, 1), (180, .iload_n 3, 1), (181, .aload_n 0, 1), (182, .getfield 63, 3), (185, .iload_n 3, 1), (186, .iaload, 1), (187, .invokevirtual 176, 3), (190, .ifCond .ne 15, 3), (193, .aload_n 0, 1), (194, .iload_n 3, 1), (195, .aload_n 0, 1), (196, .getfield 63, 3), (199, .iload_n 3, 1), (200, .iaload, 1), (201, .invokevirtual 179, 3), (204, .ireturn, 1), (205, .aload_n 0, 1), (206, .getfield 60, 3), (209, .iload_n 3, 1), (210, .aload_n 0, 1), (211, .getfield 63, 3), (214, .iload_n 3, 1), (215, .iaload, 1), (216, .iastore, 1), (217, .aload_n 0, 1), (218, .iload_n 3, 1), (219, .invokevirtual 138, 3), (222, .ifCond .ne 13, 3), (225, .aload_n 0, 1), (226, .getfield 72, 3), (229, .iload_n 3, 1), (230, .iconst 3, 1), (231, .iastore, 1), (232, .bipush (-13), 2), (234, .ireturn, 1), (235, .iload_n 2, 1), (236, .ifCond .eq 18, 3), (239, .iload 5, 2), (241, .ifCond .eq 13, 3), (244, .aload_n 0, 1), (245, .getfield 72, 3), (248, .iload_n 3, 1), (249, .iconst 1, 1)]
set_option maxRecDepth 100000 in
theorem D_X5_commit_2 : dT cX5_commit I_X5_commit_2 = true := by decide +kernel
def I_X5_commit_3 : List (Nat × Instr × Nat) := [(250, .iastore, 1), (251, .goto 8, 3), (254, .aload_n 0, 1), (255, .iload_n 3, 1), (256, .invokevirtual 142, 3), (259, .iconst 0, 1), (260, .ireturn, 1)]
set_option maxRecDepth 100000 in
theorem D_X5_commit_3 : dT cX5_commit I_X5_commit_3 = true := by decide +kernel
def I_X5_abort : List (Nat × Instr × Nat) := [(0, .aload_n 0, 1), (1, .iload_n 1, 1), (2, .invokevirtual 186, 3), (5, .ifCond .ne 5, 3), (8, .iconst 0, 1), (9, .ireturn, 1), (10, .aload_n 0, 1), (11, .getfield 72, 3), (14, .iload_n 1, 1), (15, .iaload, 1), (16, .ifCond .eq 6, 3), (19, .bipush (-13), 2), (21, .ireturn, 1), (22, .aload_n 0, 1), (23, .getfield 72, 3), (26, .iload_n 1, 1), (27, .iconst 3, 1), (28, .iastore, 1), (29, .iconst 0, 1), (30, .ireturn, 1)]
set_option maxRecDepth 100000 in
theorem D_X5_abort : dT cX5_abort I_X5_abort = true := by decide +kernel
def I_X5_recover : List (Nat × Instr × Nat) := [(0, .aload_n 0, 1), (1, .iload_n 1, 1), (2, .invokevirtual 186, 3), (5, .ifCond .ne 5, 3), (8, .iconst 0, 1), (9, .ireturn, 1), (10, .aload_n 0, 1), (11, .getfield 72, 3), (14, .iload_n 1, 1), (15, .iaload, 1), (16, .iconst 1, 1), (17, .if_icmp .ne 8, 3), (20, .aload_n 0, 1), (21, .iload_n 1, 1), (22, .invokevirtual 144, 3), (25, .aload_n 0, 1), (26, .getfield 72, 3), (29, .iload_n 1, 1), (30, .iaload, 1), (31, .ireturn, 1)]
set_option maxRecDepth 100000 in
theorem D_X5_recover : dT cX5_recover I_X5_recover = true := by decide +kernel
def I_X5_beat : List (Nat × Instr × Nat) := [(0, .aload_n 0, 1), (1, .iload_n 1, 1), (2, .invokevirtual 186, 3), (5, .ifCond .ne 5, 3), (8, .iconst 0, 1), (9, .ireturn, 1), (10, .aload_n 0, 1), (11, .getfield 72, 3), (14, .iload_n 1, 1), (15, .iaload, 1), (16, .ifCond .eq 6, 3), (19, .bipush (-13), 2), (21, .ireturn, 1), (22, .aload_n 0, 1), (23, .getfield 69, 3), (26, .iload_n 1, 1), (27, .aload_n 0, 1), (28, .getfield 100, 3), (31, .iastore, 1), (32, .iconst 0, 1), (33, .ireturn, 1)]
set_option maxRecDepth 100000 in
theorem D_X5_beat : dT cX5_beat I_X5_beat = true := by decide +kernel
def I_X5_told : List (Nat × Instr × Nat) := [(0, .aload_n 0, 1), (1, .iload_n 1, 1), (2, .iconst 0, 1), (3, .aload_n 0, 1), (4, .getfield 125, 3), (7, .iconst 1, 1), (8, .isub, 1), (9, .invokestatic 96, 3), (12, .ifCond .ne 7, 3), (15, .iconst 1, 1), (16, .goto 18, 3), (19, .iload_n 2, 1), (20, .iconst 0, 1), (21, .bipush 6, 2), (23, .invokestatic 96, 3), (26, .ifCond .ne 7, 3), (29, .iconst 2, 1), (30, .goto 4, 3), (33, .iconst 0, 1), (34, .putfield 93, 3), (37, .aload_n 0, 1), (38, .getfield 93, 3), (41, .ifCond .le 5, 3), (44, .iconst 0, 1), (45, .ireturn, 1), (46, .iload_n 1, 1), (47, .istore_n 3, 1), (48, .iload_n 2, 1), (49, .ifCond .ne 12, 3), (52, .aload_n 0, 1), (53, .getfield 72, 3), (56, .iload_n 3, 1), (57, .iaload, 1), (58, .goto 91, 3), (61, .iload_n 2, 1), (62, .iconst 1, 1), (63, .if_icmp .ne 12, 3), (66, .aload_n 0, 1), (67, .getfield 60, 3), (70, .iload_n 3, 1), (71, .iaload, 1), (72, .goto 77, 3), (75, .iload_n 2, 1), (76, .iconst 2, 1), (77, .if_icmp .ne 12, 3), (80, .aload_n 0, 1), (81, .getfield 63, 3), (84, .iload_n 3, 1), (85, .iaload, 1), (86, .goto 63, 3), (89, .iload_n 2, 1), (90, .iconst 3, 1), (91, .if_icmp .ne 11, 3), (94, .aload_n 0, 1), (95, .iload_n 3, 1), (96, .invokevirtual 160, 3), (99, .goto 50, 3), (102, .iload_n 2, 1), (103, .iconst 4, 1), (104, .if_icmp .ne 15, 3), (107, .aload_n 0, 1), (108, .iload_n 3, 1), (109, .aload_n 0, 1), (110, .getfield 84, 3), (113, .invokevirtual 189, 3), (116, .goto 33, 3), (119, .iload_n 2, 1), (120, .iconst 5, 1), (121, .if_icmp .ne 15, 3), (124, .aload_n 0, 1), (125, .iload_n 3, 1), (126, .aload_n 0, 1), (127, .getfield 87, 3), (130, .invokevirtual 189, 3), (133, .goto 16, 3), (136, .aload_n 0, 1), (137, .iload_n 3, 1), (138, .invokevirtual 147, 3), (141, .ifCond .eq 7, 3), (144, .iconst 1, 1), (145, .goto 4, 3), (148, .iconst 0, 1), (149, .ireturn, 1)]
set_option maxRecDepth 100000 in
theorem D_X5_told : dT cX5_told I_X5_told = true := by decide +kernel
def I_X5_key : List (Nat × Instr × Nat) := [(0, .aload_n 0, 1), (1, .iload_n 1, 1), (2, .iconst 0, 1), (3, .bipush 31, 2), (5, .invokestatic 96, 3), (8, .ifCond .ne 7, 3), (11, .iconst 1, 1), (12, .goto 18, 3), (15, .iload_n 2, 1), (16, .iconst 0, 1), (17, .bipush 6, 2), (19, .invokestatic 96, 3), (22, .ifCond .ne 7, 3), (25, .iconst 2, 1), (26, .goto 4, 3), (29, .iconst 0, 1), (30, .putfield 93, 3), (33, .aload_n 0, 1), (34, .getfield 93, 3), (37, .ifCond .le 5, 3), (40, .iconst 0, 1), (41, .ireturn, 1), (42, .iconst 0, 1), (43, .istore_n 3, 1), (44, .iconst 0, 1), (45, .istore 4, 2), (47, .iload 4, 2), (49, .aload_n 0, 1), (50, .getfield 135, 3), (53, .if_icmp .ge 28, 3), (56, .iload_n 3, 1), (57, .aload_n 0, 1), (58, .getfield 45, 3), (61, .iload 4, 2), (63, .iaload, 1), (64, .iload_n 1, 1), (65, .if_icmp .ne 7, 3), (68, .iconst 1, 1), (69, .goto 4, 3), (72, .iconst 0, 1), (73, .iadd, 1), (74, .istore_n 3, 1), (75, .iinc 4 1, 3), (78, .goto (-31), 3), (81, .iload_n 2, 1), (82, .ifCond .ne 7, 3), (85, .iload_n 3, 1), (86, .goto 95, 3), (89, .iload_n 2, 1), (90, .iconst 1, 1), (91, .if_icmp .ne 12, 3), (94, .aload_n 0, 1), (95, .getfield 30, 3), (98, .iload_n 1, 1), (99, .iaload, 1), (100, .goto 81, 3), (103, .iload_n 2, 1), (104, .iconst 2, 1), (105, .if_icmp .ne 12, 3), (108, .aload_n 0, 1), (109, .getfield 39, 3), (112, .iload_n 1, 1), (113, .iaload, 1), (114, .goto 67, 3), (117, .iload_n 2, 1), (118, .iconst 3, 1), (119, .if_icmp .ne 12, 3), (122, .aload_n 0, 1), (123, .getfield 42, 3), (126, .iload_n 1, 1), (127, .iaload, 1), (128, .goto 53, 3), (131, .iload_n 2, 1), (132, .iconst 4, 1), (133, .if_icmp .ne 11, 3), (136, .aload_n 0, 1), (137, .iload_n 1, 1), (138, .invokevirtual 115, 3), (141, .goto 40, 3), (144, .iload_n 2, 1), (145, .iconst 5, 1), (146, .if_icmp .ne 11, 3), (149, .aload_n 0, 1), (150, .iload_n 1, 1), (151, .invokevirtual 118, 3), (154, .goto 27, 3), (157, .aload_n 0, 1), (158, .getfield 30, 3), (161, .iload_n 1, 1), (162, .iaload, 1), (163, .iconst (-1), 1), (164, .if_icmp .eq 16, 3), (167, .aload_n 0, 1), (168, .getfield 33, 3), (171, .iload_n 1, 1), (172, .baload, 1), (173, .ifCond .eq 7, 3), (176, .iconst 1, 1), (177, .goto 4, 3), (180, .iconst 0, 1), (181, .ireturn, 1)]
set_option maxRecDepth 100000 in
theorem D_X5_key : dT cX5_key I_X5_key = true := by decide +kernel
def I_X5_asOf : List (Nat × Instr × Nat) := [(0, .aload_n 0, 1), (1, .iload_n 1, 1), (2, .iconst 0, 1), (3, .bipush 31, 2), (5, .invokestatic 96, 3), (8, .ifCond .ne 7, 3), (11, .iconst 1, 1), (12, .goto 20, 3), (15, .iload_n 2, 1), (16, .iconst 0, 1), (17, .aload_n 0, 1), (18, .invokevirtual 111, 3), (21, .invokestatic 96, 3), (24, .ifCond .ne 7, 3), (27, .iconst 2, 1), (28, .goto 4, 3), (31, .iconst 0, 1), (32, .putfield 93, 3), (35, .aload_n 0, 1), (36, .getfield 93, 3), (39, .ifCond .le 5, 3), (42, .iconst 0, 1), (43, .ireturn, 1), (44, .aload_n 0, 1), (45, .getfield 30, 3), (48, .iload_n 1, 1), (49, .iaload, 1), (50, .istore_n 3, 1), (51, .iload_n 3, 1), (52, .iconst (-1), 1), (53, .if_icmp .eq 28, 3), (56, .aload_n 0, 1), (57, .getfield 72, 3), (60, .iload_n 3, 1), (61, .iaload, 1), (62, .iconst 1, 1), (63, .if_icmp .ne 18, 3), (66, .aload_n 0, 1), (67, .getfield 63, 3), (70, .iload_n 3, 1), (71, .iaload, 1), (72, .iload_n 2, 1), (73, .if_icmp .gt 8, 3), (76, .bipush (-11), 2), (78, .goto 9, 3), (81, .aload_n 0, 1), (82, .iload_n 1, 1), (83, .iload_n 2, 1), (84, .invokevirtual 182, 3), (87, .ireturn, 1)]
set_option maxRecDepth 100000 in
theorem D_X5_asOf : dT cX5_asOf I_X5_asOf = true := by decide +kernel
def I_X5_resolvedNow : List (Nat × Instr × Nat) := [(0, .aload_n 0, 1), (1, .invokevirtual 111, 3), (4, .istore_n 1, 1), (5, .iconst 0, 1), (6, .istore_n 2, 1), (7, .iload_n 2, 1), (8, .aload_n 0, 1), (9, .getfield 125, 3), (12, .if_icmp .ge 44, 3), (15, .aload_n 0, 1), (16, .getfield 72, 3), (19, .iload_n 2, 1), (20, .iaload, 1), (21, .iconst 1, 1), (22, .if_icmp .ne 26, 3), (25, .aload_n 0, 1), (26, .getfield 63, 3), (29, .iload_n 2, 1), (30, .iaload, 1), (31, .iconst 1, 1), (32, .isub, 1), (33, .iload_n 1, 1), (34, .if_icmp .ge 14, 3), (37, .aload_n 0, 1), (38, .getfield 63, 3), (41, .iload_n 2, 1), (42, .iaload, 1), (43, .iconst 1, 1), (44, .isub, 1), (45, .goto 4, 3), (48, .iload_n 1, 1), (49, .istore_n 1, 1), (50, .iinc 2 1, 3), (53, .goto (-46), 3), (56, .iload_n 1, 1), (57, .ireturn, 1)]
set_option maxRecDepth 100000 in
theorem D_X5_resolvedNow : dT cX5_resolvedNow I_X5_resolvedNow = true := by decide +kernel
def I_X5_resolved : List (Nat × Instr × Nat) := [(0, .aload_n 0, 1), (1, .iconst 0, 1), (2, .putfield 93, 3), (5, .aload_n 0, 1), (6, .invokevirtual 193, 3), (9, .ireturn, 1)]
set_option maxRecDepth 100000 in
theorem D_X5_resolved : dT cX5_resolved I_X5_resolved = true := by decide +kernel
def I_X5_feed : List (Nat × Instr × Nat) := [(0, .aload_n 0, 1), (1, .iload_n 1, 1), (2, .ifCond .ge 7, 3), (5, .iconst 1, 1), (6, .goto 4, 3), (9, .iconst 0, 1), (10, .putfield 93, 3), (13, .iconst (-1), 1), (14, .istore_n 2, 1), (15, .aload_n 0, 1), (16, .invokevirtual 193, 3), (19, .istore_n 3, 1), (20, .iconst 0, 1), (21, .istore 4, 2), (23, .iload 4, 2), (25, .iload_n 1, 1), (26, .if_icmp .gt 107, 3), (29, .aload_n 0, 1), (30, .getfield 93, 3), (33, .ifCond .ne 100, 3), (36, .iconst (-1), 1), (37, .istore 5, 2), (39, .iconst 0, 1), (40, .istore 6, 2), (42, .iload 6, 2), (44, .aload_n 0, 1), (45, .getfield 135, 3), (48, .if_icmp .ge 68, 3), (51, .bipush 32, 2), (53, .aload_n 0, 1), (54, .getfield 48, 3), (57, .iload 6, 2), (59, .iaload, 1), (60, .imul, 1), (61, .aload_n 0, 1), (62, .getfield 45, 3), (65, .iload 6, 2), (67, .iaload, 1), (68, .iadd, 1), (69, .istore 7, 2), (71, .aload_n 0, 1), (72, .getfield 48, 3), (75, .iload 6, 2), (77, .iaload, 1), (78, .iload_n 3, 1), (79, .if_icmp .gt 27, 3), (82, .iload 7, 2), (84, .iload_n 2, 1), (85, .if_icmp .le 21, 3), (88, .iload 5, 2), (90, .iconst (-1), 1), (91, .if_icmp .eq 10, 3), (94, .iload 7, 2), (96, .iload 5, 2), (98, .if_icmp .ge 8, 3), (101, .iload 7, 2), (103, .goto 5, 3), (106, .iload 5, 2), (108, .istore 5, 2), (110, .iinc 6 1, 3), (113, .goto (-71), 3), (116, .iload 5, 2), (118, .iconst (-1), 1), (119, .if_icmp .ne 5, 3), (122, .iconst (-1), 1), (123, .ireturn, 1), (124, .iload 5, 2), (126, .istore_n 2, 1), (127, .iinc 4 1, 3), (130, .goto (-107), 3), (133, .aload_n 0, 1), (134, .getfield 93, 3), (137, .ifCond .ne 7, 3), (140, .iload_n 2, 1), (141, .goto 4, 3), (144, .iconst 0, 1), (145, .ireturn, 1)]
set_option maxRecDepth 100000 in
theorem D_X5_feed : dT cX5_feed I_X5_feed = true := by decide +kernel
def I_X5_isAhead : List (Nat × Instr × Nat) := [(0, .aload_n 0, 1), (1, .getfield 63, 3), (4, .iload_n 1, 1), (5, .iaload, 1), (6, .aload_n 0, 1), (7, .getfield 63, 3), (10, .iload_n 2, 1), (11, .iaload, 1), (12, .if_icmp .lt 33, 3), (15, .aload_n 0, 1), (16, .getfield 63, 3), (19, .iload_n 1, 1), (20, .iaload, 1), (21, .aload_n 0, 1), (22, .getfield 63, 3), (25, .iload_n 2, 1), (26, .iaload, 1), (27, .if_icmp .ne 22, 3), (30, .aload_n 0, 1), (31, .getfield 78, 3), (34, .iload_n 1, 1), (35, .iaload, 1), (36, .aload_n 0, 1), (37, .getfield 78, 3), (40, .iload_n 2, 1), (41, .iaload, 1), (42, .if_icmp .ge 7, 3), (45, .iconst 1, 1), (46, .goto 4, 3), (49, .iconst 0, 1), (50, .ireturn, 1)]
set_option maxRecDepth 100000 in
theorem D_X5_isAhead : dT cX5_isAhead I_X5_isAhead = true := by decide +kernel
def I_X5_next : List (Nat × Instr × Nat) := [(0, .iconst (-1), 1), (1, .istore_n 2, 1), (2, .iconst 0, 1), (3, .istore_n 3, 1), (4, .iload_n 3, 1), (5, .aload_n 0, 1), (6, .getfield 125, 3), (9, .if_icmp .ge 65, 3), (12, .iload_n 1, 1), (13, .iconst (-1), 1), (14, .if_icmp .eq 12, 3), (17, .aload_n 0, 1), (18, .iload_n 1, 1), (19, .iload_n 3, 1), (20, .invokevirtual 196, 3), (23, .ifCond .eq 7, 3), (26, .iconst 1, 1), (27, .goto 4, 3), (30, .iconst 0, 1), (31, .istore 4, 2), (33, .aload_n 0, 1), (34, .getfield 72, 3), (37, .iload_n 3, 1), (38, .iaload, 1), (39, .iconst 2, 1), (40, .if_icmp .ne 26, 3), (43, .iload 4, 2), (45, .ifCond .eq 21, 3), (48, .iload_n 2, 1), (49, .iconst (-1), 1), (50, .if_icmp .eq 12, 3), (53, .aload_n 0, 1), (54, .iload_n 3, 1), (55, .iload_n 2, 1), (56, .invokevirtual 196, 3), (59, .ifCond .eq 7, 3), (62, .iload_n 3, 1), (63, .goto 4, 3), (66, .iload_n 2, 1), (67, .istore_n 2, 1), (68, .iinc 3 1, 3), (71, .goto (-67), 3), (74, .iload_n 2, 1), (75, .ireturn, 1)]
set_option maxRecDepth 100000 in
theorem D_X5_next : dT cX5_next I_X5_next = true := by decide +kernel
def I_X5_order : List (Nat × Instr × Nat) := [(0, .aload_n 0, 1), (1, .iload_n 1, 1), (2, .ifCond .ge 7, 3), (5, .iconst 1, 1), (6, .goto 4, 3), (9, .iconst 0, 1), (10, .putfield 93, 3), (13, .aload_n 0, 1), (14, .getfield 93, 3), (17, .ifCond .ne 11, 3), (20, .aload_n 0, 1), (21, .iconst (-1), 1), (22, .invokevirtual 199, 3), (25, .goto 4, 3), (28, .iconst (-1), 1), (29, .istore_n 2, 1), (30, .iconst 0, 1), (31, .istore_n 3, 1), (32, .iload_n 3, 1), (33, .iload_n 1, 1), (34, .if_icmp .ge 20, 3), (37, .iload_n 2, 1), (38, .iconst (-1), 1), (39, .if_icmp .eq 15, 3), (42, .aload_n 0, 1), (43, .iload_n 2, 1), (44, .invokevirtual 199, 3), (47, .istore_n 2, 1), (48, .iinc 3 1, 3), (51, .goto (-19), 3), (54, .aload_n 0, 1), (55, .getfield 93, 3), (58, .ifCond .ne 7, 3), (61, .iload_n 2, 1), (62, .goto 4, 3), (65, .iconst 0, 1), (66, .ireturn, 1)]
set_option maxRecDepth 100000 in
theorem D_X5_order : dT cX5_order I_X5_order = true := by decide +kernel
def I_X5_judged : List (Nat × Instr × Nat) := [(0, .aload_n 0, 1), (1, .iconst 0, 1), (2, .putfield 93, 3), (5, .iconst 0, 1), (6, .istore_n 1, 1), (7, .iload_n 1, 1), (8, .bipush 32, 2), (10, .if_icmp .ge 18, 3), (13, .aload_n 0, 1), (14, .getfield 90, 3), (17, .iload_n 1, 1), (18, .sipush 1000, 3), (21, .iastore, 1), (22, .iinc 1 1, 3), (25, .goto (-18), 3), (28, .iconst 0, 1), (29, .istore_n 1, 1), (30, .aload_n 0, 1), (31, .iconst (-1), 1), (32, .invokevirtual 199, 3), (35, .istore_n 2, 1), (36, .iload_n 2, 1), (37, .iconst (-1), 1), (38, .if_icmp .eq 124, 3), (41, .iconst 0, 1), (42, .istore_n 3, 1), (43, .iload_n 3, 1), (44, .bipush 32, 2), (46, .if_icmp .ge 52, 3), (49, .iload_n 1, 1), (50, .aload_n 0, 1), (51, .getfield 84, 3), (54, .bipush 32, 2), (56, .iload_n 2, 1), (57, .imul, 1), (58, .iload_n 3, 1), (59, .iadd, 1), (60, .iaload, 1), (61, .iconst (-1), 1), (62, .if_icmp .eq 27, 3), (65, .aload_n 0, 1), (66, .getfield 84, 3), (69, .bipush 32, 2), (71, .iload_n 2, 1), (72, .imul, 1), (73, .iload_n 3, 1), (74, .iadd, 1), (75, .iaload, 1), (76, .aload_n 0, 1), (77, .getfield 90, 3), (80, .iload_n 3, 1), (81, .iaload, 1), (82, .if_icmp .eq 7, 3), (85, .iconst 1, 1), (86, .goto 4, 3), (89, .iconst 0, 1), (90, .iadd, 1), (91, .istore_n 1, 1), (92, .iinc 3 1, 3), (95, .goto (-52), 3), (98, .iconst 0, 1), (99, .istore_n 3, 1), (100, .iload_n 3, 1), (101, .bipush 32, 2), (103, .if_icmp .ge 50, 3), (106, .aload_n 0, 1), (107, .getfield 90, 3), (110, .iload_n 3, 1), (111, .aload_n 0, 1), (112, .getfield 87, 3), (115, .bipush 32, 2), (117, .iload_n 2, 1), (118, .imul, 1), (119, .iload_n 3, 1), (120, .iadd, 1), (121, .iaload, 1), (122, .iconst (-1), 1), (123, .if_icmp .eq 17, 3), (126, .aload_n 0, 1), (127, .getfield 87, 3), (130, .bipush 32, 2), (132, .iload_n 2, 1), (133, .imul, 1), (134, .iload_n 3, 1), (135, .iadd, 1), (136, .iaload, 1), (137, .goto 9, 3), (140, .aload_n 0, 1), (141, .getfield 90, 3), (144, .iload_n 3, 1), (145, .iaload, 1), (146, .iastore, 1), (147, .iinc 3 1, 3), (150, .goto (-50), 3), (153, .aload_n 0, 1), (154, .iload_n 2, 1), (155, .invokevirtual 199, 3), (158, .istore_n 2, 1), (159, .goto (-123), 3), (162, .iload_n 1, 1), (163, .ireturn, 1)]
set_option maxRecDepth 100000 in
theorem D_X5_judged : dT cX5_judged I_X5_judged = true := by decide +kernel
def I_J9_max_7cf53 : List (Nat × Instr × Nat) := [(0, .iload_n 0, 1), (1, .iload_n 1, 1), (2, .if_icmp .lt 7, 3), (5, .iload_n 0, 1), (6, .goto 4, 3), (9, .iload_n 1, 1), (10, .ireturn, 1)]
set_option maxRecDepth 100000 in
theorem D_J9_max_7cf53 : dT cJ9_max_7cf53 I_J9_max_7cf53 = true := by decide +kernel
def I_J9_min_7cf53 : List (Nat × Instr × Nat) := [(0, .iload_n 0, 1), (1, .iload_n 1, 1), (2, .if_icmp .gt 7, 3), (5, .iload_n 0, 1), (6, .goto 4, 3), (9, .iload_n 1, 1), (10, .ireturn, 1)]
set_option maxRecDepth 100000 in
theorem D_J9_min_7cf53 : dT cJ9_min_7cf53 I_J9_min_7cf53 = true := by decide +kernel
def I_L_pass : List (Nat × Instr × Nat) := [(0, .aload_n 2, 1), (1, .iconst 0, 1), (2, .aload_n 0, 1), (3, .iload_n 1, 1), (4, .invokevirtual 7, 3), (7, .i2l, 1), (8, .lastore, 1), (9, .goto 9, 3), (12, .astore_n 3, 1), (13, .iconst 1, 1), (14, .ireturn, 1), (15, .astore_n 3, 1), (16, .iconst 2, 1), (17, .ireturn, 1), (18, .iconst 0, 1), (19, .ireturn, 1)]
set_option maxRecDepth 100000 in
theorem D_L_pass : dT cL_pass I_L_pass = true := by decide +kernel
def I_L_skew : List (Nat × Instr × Nat) := [(0, .aload_n 3, 1), (1, .iconst 0, 1), (2, .aload_n 0, 1), (3, .iload_n 1, 1), (4, .iload_n 2, 1), (5, .invokevirtual 17, 3), (8, .i2l, 1), (9, .lastore, 1), (10, .goto 11, 3), (13, .astore 4, 2), (15, .iconst 1, 1), (16, .ireturn, 1), (17, .astore 4, 2), (19, .iconst 2, 1), (20, .ireturn, 1), (21, .iconst 0, 1), (22, .ireturn, 1)]
set_option maxRecDepth 100000 in
theorem D_L_skew : dT cL_skew I_L_skew = true := by decide +kernel
def I_L_clock : List (Nat × Instr × Nat) := [(0, .aload_n 2, 1), (1, .iconst 0, 1), (2, .aload_n 0, 1), (3, .iload_n 1, 1), (4, .invokevirtual 23, 3), (7, .i2l, 1), (8, .lastore, 1), (9, .goto 9, 3), (12, .astore_n 3, 1), (13, .iconst 1, 1), (14, .ireturn, 1), (15, .astore_n 3, 1), (16, .iconst 2, 1), (17, .ireturn, 1), (18, .iconst 0, 1), (19, .ireturn, 1)]
set_option maxRecDepth 100000 in
theorem D_L_clock : dT cL_clock I_L_clock = true := by decide +kernel
def I_L_down : List (Nat × Instr × Nat) := [(0, .aload_n 2, 1), (1, .iconst 0, 1), (2, .aload_n 0, 1), (3, .iload_n 1, 1), (4, .invokevirtual 26, 3), (7, .i2l, 1), (8, .lastore, 1), (9, .goto 9, 3), (12, .astore_n 3, 1), (13, .iconst 1, 1), (14, .ireturn, 1), (15, .astore_n 3, 1), (16, .iconst 2, 1), (17, .ireturn, 1), (18, .iconst 0, 1), (19, .ireturn, 1)]
set_option maxRecDepth 100000 in
theorem D_L_down : dT cL_down I_L_down = true := by decide +kernel
def I_L_up : List (Nat × Instr × Nat) := [(0, .aload_n 2, 1), (1, .iconst 0, 1), (2, .aload_n 0, 1), (3, .iload_n 1, 1), (4, .invokevirtual 29, 3), (7, .i2l, 1), (8, .lastore, 1), (9, .goto 9, 3), (12, .astore_n 3, 1), (13, .iconst 1, 1), (14, .ireturn, 1), (15, .astore_n 3, 1), (16, .iconst 2, 1), (17, .ireturn, 1), (18, .iconst 0, 1), (19, .ireturn, 1)]
set_option maxRecDepth 100000 in
theorem D_L_up : dT cL_up I_L_up = true := by decide +kernel
def I_L_sync : List (Nat × Instr × Nat) := [(0, .aload_n 2, 1), (1, .iconst 0, 1), (2, .aload_n 0, 1), (3, .iload_n 1, 1), (4, .invokevirtual 32, 3), (7, .i2l, 1), (8, .lastore, 1), (9, .goto 9, 3), (12, .astore_n 3, 1), (13, .iconst 1, 1), (14, .ireturn, 1), (15, .astore_n 3, 1), (16, .iconst 2, 1), (17, .ireturn, 1), (18, .iconst 0, 1), (19, .ireturn, 1)]
set_option maxRecDepth 100000 in
theorem D_L_sync : dT cL_sync I_L_sync = true := by decide +kernel
def I_L_split : List (Nat × Instr × Nat) := [(0, .aload_n 2, 1), (1, .iconst 0, 1), (2, .aload_n 0, 1), (3, .iload_n 1, 1), (4, .invokevirtual 35, 3), (7, .i2l, 1), (8, .lastore, 1), (9, .goto 9, 3), (12, .astore_n 3, 1), (13, .iconst 1, 1), (14, .ireturn, 1), (15, .astore_n 3, 1), (16, .iconst 2, 1), (17, .ireturn, 1), (18, .iconst 0, 1), (19, .ireturn, 1)]
set_option maxRecDepth 100000 in
theorem D_L_split : dT cL_split I_L_split = true := by decide +kernel
def I_L_merge : List (Nat × Instr × Nat) := [(0, .aload_n 2, 1), (1, .iconst 0, 1), (2, .aload_n 0, 1), (3, .iload_n 1, 1), (4, .invokevirtual 38, 3), (7, .i2l, 1), (8, .lastore, 1), (9, .goto 9, 3), (12, .astore_n 3, 1), (13, .iconst 1, 1), (14, .ireturn, 1), (15, .astore_n 3, 1), (16, .iconst 2, 1), (17, .ireturn, 1), (18, .iconst 0, 1), (19, .ireturn, 1)]
set_option maxRecDepth 100000 in
theorem D_L_merge : dT cL_merge I_L_merge = true := by decide +kernel
def I_L_move : List (Nat × Instr × Nat) := [(0, .aload_n 3, 1), (1, .iconst 0, 1), (2, .aload_n 0, 1), (3, .iload_n 1, 1), (4, .iload_n 2, 1), (5, .invokevirtual 41, 3), (8, .i2l, 1), (9, .lastore, 1), (10, .goto 11, 3), (13, .astore 4, 2), (15, .iconst 1, 1), (16, .ireturn, 1), (17, .astore 4, 2), (19, .iconst 2, 1), (20, .ireturn, 1), (21, .iconst 0, 1), (22, .ireturn, 1)]
set_option maxRecDepth 100000 in
theorem D_L_move : dT cL_move I_L_move = true := by decide +kernel
def I_L_begin : List (Nat × Instr × Nat) := [(0, .aload_n 3, 1), (1, .iconst 0, 1), (2, .aload_n 0, 1), (3, .iload_n 1, 1), (4, .iload_n 2, 1), (5, .invokevirtual 44, 3), (8, .i2l, 1), (9, .lastore, 1), (10, .goto 15, 3), (13, .astore 4, 2), (15, .iconst 1, 1), (16, .ireturn, 1), (17, .astore 4, 2), (19, .iconst 2, 1), (20, .ireturn, 1), (21, .astore 4, 2), (23, .iconst 3, 1), (24, .ireturn, 1), (25, .iconst 0, 1), (26, .ireturn, 1)]
set_option maxRecDepth 100000 in
theorem D_L_begin : dT cL_begin I_L_begin = true := by decide +kernel
def I_L_get : List (Nat × Instr × Nat) := [(0, .aload_n 3, 1), (1, .iconst 0, 1), (2, .aload_n 0, 1), (3, .iload_n 1, 1), (4, .iload_n 2, 1), (5, .invokevirtual 47, 3), (8, .i2l, 1), (9, .lastore, 1), (10, .goto 7, 3), (13, .astore 4, 2), (15, .iconst 1, 1), (16, .ireturn, 1), (17, .iconst 0, 1), (18, .ireturn, 1)]
set_option maxRecDepth 100000 in
theorem D_L_get : dT cL_get I_L_get = true := by decide +kernel
def I_L_put : List (Nat × Instr × Nat) := [(0, .aload 4, 2), (2, .iconst 0, 1), (3, .aload_n 0, 1), (4, .iload_n 1, 1), (5, .iload_n 2, 1), (6, .iload_n 3, 1), (7, .invokevirtual 50, 3), (10, .i2l, 1), (11, .lastore, 1), (12, .goto 11, 3), (15, .astore 5, 2), (17, .iconst 1, 1), (18, .ireturn, 1), (19, .astore 5, 2), (21, .iconst 2, 1), (22, .ireturn, 1), (23, .iconst 0, 1), (24, .ireturn, 1)]
set_option maxRecDepth 100000 in
theorem D_L_put : dT cL_put I_L_put = true := by decide +kernel
def I_L_commit : List (Nat × Instr × Nat) := [(0, .aload_n 3, 1), (1, .iconst 0, 1), (2, .aload_n 0, 1), (3, .iload_n 1, 1), (4, .iload_n 2, 1), (5, .invokevirtual 54, 3), (8, .i2l, 1), (9, .lastore, 1), (10, .goto 7, 3), (13, .astore 4, 2), (15, .iconst 1, 1), (16, .ireturn, 1), (17, .iconst 0, 1), (18, .ireturn, 1)]
set_option maxRecDepth 100000 in
theorem D_L_commit : dT cL_commit I_L_commit = true := by decide +kernel
def I_L_abort : List (Nat × Instr × Nat) := [(0, .aload_n 2, 1), (1, .iconst 0, 1), (2, .aload_n 0, 1), (3, .iload_n 1, 1), (4, .invokevirtual 58, 3), (7, .i2l, 1), (8, .lastore, 1), (9, .goto 6, 3), (12, .astore_n 3, 1), (13, .iconst 1, 1), (14, .ireturn, 1), (15, .iconst 0, 1), (16, .ireturn, 1)]
set_option maxRecDepth 100000 in
theorem D_L_abort : dT cL_abort I_L_abort = true := by decide +kernel
def I_L_recover : List (Nat × Instr × Nat) := [(0, .aload_n 2, 1), (1, .iconst 0, 1), (2, .aload_n 0, 1), (3, .iload_n 1, 1), (4, .invokevirtual 61, 3), (7, .i2l, 1), (8, .lastore, 1), (9, .goto 6, 3), (12, .astore_n 3, 1), (13, .iconst 1, 1), (14, .ireturn, 1), (15, .iconst 0, 1), (16, .ireturn, 1)]
set_option maxRecDepth 100000 in
theorem D_L_recover : dT cL_recover I_L_recover = true := by decide +kernel
def I_L_beat : List (Nat × Instr × Nat) := [(0, .aload_n 2, 1), (1, .iconst 0, 1), (2, .aload_n 0, 1), (3, .iload_n 1, 1), (4, .invokevirtual 64, 3), (7, .i2l, 1), (8, .lastore, 1), (9, .goto 6, 3), (12, .astore_n 3, 1), (13, .iconst 1, 1), (14, .ireturn, 1), (15, .iconst 0, 1), (16, .ireturn, 1)]
set_option maxRecDepth 100000 in
theorem D_L_beat : dT cL_beat I_L_beat = true := by decide +kernel
def I_L_told : List (Nat × Instr × Nat) := [(0, .aload_n 3, 1), (1, .iconst 0, 1), (2, .aload_n 0, 1), (3, .iload_n 1, 1), (4, .iload_n 2, 1), (5, .invokevirtual 67, 3), (8, .i2l, 1), (9, .lastore, 1), (10, .goto 11, 3), (13, .astore 4, 2), (15, .iconst 1, 1), (16, .ireturn, 1), (17, .astore 4, 2), (19, .iconst 2, 1), (20, .ireturn, 1), (21, .iconst 0, 1), (22, .ireturn, 1)]
set_option maxRecDepth 100000 in
theorem D_L_told : dT cL_told I_L_told = true := by decide +kernel
def I_L_key : List (Nat × Instr × Nat) := [(0, .aload_n 3, 1), (1, .iconst 0, 1), (2, .aload_n 0, 1), (3, .iload_n 1, 1), (4, .iload_n 2, 1), (5, .invokevirtual 70, 3), (8, .i2l, 1), (9, .lastore, 1), (10, .goto 11, 3), (13, .astore 4, 2), (15, .iconst 1, 1), (16, .ireturn, 1), (17, .astore 4, 2), (19, .iconst 2, 1), (20, .ireturn, 1), (21, .iconst 0, 1), (22, .ireturn, 1)]
set_option maxRecDepth 100000 in
theorem D_L_key : dT cL_key I_L_key = true := by decide +kernel
def I_L_asOf : List (Nat × Instr × Nat) := [(0, .aload_n 3, 1), (1, .iconst 0, 1), (2, .aload_n 0, 1), (3, .iload_n 1, 1), (4, .iload_n 2, 1), (5, .invokevirtual 73, 3), (8, .i2l, 1), (9, .lastore, 1), (10, .goto 11, 3), (13, .astore 4, 2), (15, .iconst 1, 1), (16, .ireturn, 1), (17, .astore 4, 2), (19, .iconst 2, 1), (20, .ireturn, 1), (21, .iconst 0, 1), (22, .ireturn, 1)]
set_option maxRecDepth 100000 in
theorem D_L_asOf : dT cL_asOf I_L_asOf = true := by decide +kernel
def I_L_feed : List (Nat × Instr × Nat) := [(0, .aload_n 2, 1), (1, .iconst 0, 1), (2, .aload_n 0, 1), (3, .iload_n 1, 1), (4, .invokevirtual 76, 3), (7, .i2l, 1), (8, .lastore, 1), (9, .goto 6, 3), (12, .astore_n 3, 1), (13, .iconst 1, 1), (14, .ireturn, 1), (15, .iconst 0, 1), (16, .ireturn, 1)]
set_option maxRecDepth 100000 in
theorem D_L_feed : dT cL_feed I_L_feed = true := by decide +kernel
def I_L_order : List (Nat × Instr × Nat) := [(0, .aload_n 2, 1), (1, .iconst 0, 1), (2, .aload_n 0, 1), (3, .iload_n 1, 1), (4, .invokevirtual 79, 3), (7, .i2l, 1), (8, .lastore, 1), (9, .goto 6, 3), (12, .astore_n 3, 1), (13, .iconst 1, 1), (14, .ireturn, 1), (15, .iconst 0, 1), (16, .ireturn, 1)]
set_option maxRecDepth 100000 in
theorem D_L_order : dT cL_order I_L_order = true := by decide +kernel
def I_L_law_0 : List (Nat × Instr × Nat) := [(0, .new 8, 3), (3, .dup, 1), (4, .invokespecial 82, 3), (7, .astore_n 1, 1), (8, .new 83, 3), (11, .dup, 1), (12, .invokespecial 85, 3), (15, .astore_n 2, 1), (16, .iconst 1, 1), (17, .newarray .long, 2), (19, .astore_n 3, 1), (20, .iconst 0, 1), (21, .istore 4, 2), (23, .iload 4, 2), (25, .aload_n 0, 1), (26, .arraylength, 1), (27, .iconst 4, 1), (28, .isub, 1), (29, .if_icmp .gt 1476, 3), (32, .aload_n 0, 1), (33, .iload 4, 2), (35, .iaload, 1), (36, .bipush 31, 2), (38, .iand, 1), (39, .tableswitch 1460 0 23 #[109, 165, 233, 289, 302, 358, 414, 470, 526, 582, 650, 718, 786, 866, 950, 1006, 1062, 1118, 1186, 1254, 1322, 1335, 1391, 1447], 109), (148, .aload_n 1, 1), (149, .aload_n 0, 1), (150, .iload 4, 2), (152, .iconst 1, 1), (153, .iadd, 1), (154, .iaload, 1), (155, .aload_n 3, 1), (156, .invokestatic 86, 3), (159, .istore 5, 2), (161, .aload_n 2, 1), (162, .aload_n 0, 1), (163, .iload 4, 2), (165, .iconst 1, 1), (166, .iadd, 1), (167, .iaload, 1), (168, .invokevirtual 91, 3), (171, .istore 6, 2), (173, .aload_n 2, 1), (174, .invokevirtual 92, 3), (177, .iload 5, 2), (179, .if_icmp .eq 5, 3), (182, .iconst 0, 1), (183, .ireturn, 1)]
set_option maxRecDepth 100000 in
theorem D_L_law_0 : dT cL_law I_L_law_0 = true := by decide +kernel
def I_L_law_1 : List (Nat × Instr × Nat) := [(184, .iload 5, 2), (186, .ifCond .ne 15, 3), (189, .aload_n 3, 1), (190, .iconst 0, 1), (191, .laload, 1), (192, .iload 6, 2), (194, .i2l, 1), (195, .lcmp, 1), (196, .ifCond .eq 5, 3), (199, .iconst 0, 1), (200, .ireturn, 1), (201, .goto 1298, 3), (204, .aload_n 1, 1), (205, .aload_n 0, 1), (206, .iload 4, 2), (208, .iconst 1, 1), (209, .iadd, 1), (210, .iaload, 1), (211, .aload_n 0, 1), (212, .iload 4, 2), (214, .iconst 2, 1), (215, .iadd, 1), (216, .iaload, 1), (217, .aload_n 3, 1), (218, .invokestatic 96, 3), (221, .istore 5, 2), (223, .aload_n 2, 1), (224, .aload_n 0, 1), (225, .iload 4, 2), (227, .iconst 1, 1), (228, .iadd, 1), (229, .iaload, 1), (230, .aload_n 0, 1), (231, .iload 4, 2), (233, .iconst 2, 1), (234, .iadd, 1), (235, .iaload, 1), (236, .invokevirtual 99, 3), (239, .istore 6, 2), (241, .aload_n 2, 1), (242, .invokevirtual 92, 3), (245, .iload 5, 2), (247, .if_icmp .eq 5, 3), (250, .iconst 0, 1), (251, .ireturn, 1), (252, .iload 5, 2), (254, .ifCond .ne 15, 3), (257, .aload_n 3, 1)]
set_option maxRecDepth 100000 in
theorem D_L_law_1 : dT cL_law I_L_law_1 = true := by decide +kernel
def I_L_law_2 : List (Nat × Instr × Nat) := [(258, .iconst 0, 1), (259, .laload, 1), (260, .iload 6, 2), (262, .i2l, 1), (263, .lcmp, 1), (264, .ifCond .eq 5, 3), (267, .iconst 0, 1), (268, .ireturn, 1), (269, .goto 1230, 3), (272, .aload_n 1, 1), (273, .aload_n 0, 1), (274, .iload 4, 2), (276, .iconst 1, 1), (277, .iadd, 1), (278, .iaload, 1), (279, .aload_n 3, 1), (280, .invokestatic 100, 3), (283, .istore 5, 2), (285, .aload_n 2, 1), (286, .aload_n 0, 1), (287, .iload 4, 2), (289, .iconst 1, 1), (290, .iadd, 1), (291, .iaload, 1), (292, .invokevirtual 102, 3), (295, .istore 6, 2), (297, .aload_n 2, 1), (298, .invokevirtual 92, 3), (301, .iload 5, 2), (303, .if_icmp .eq 5, 3), (306, .iconst 0, 1), (307, .ireturn, 1), (308, .iload 5, 2), (310, .ifCond .ne 15, 3), (313, .aload_n 3, 1), (314, .iconst 0, 1), (315, .laload, 1), (316, .iload 6, 2), (318, .i2l, 1), (319, .lcmp, 1), (320, .ifCond .eq 5, 3), (323, .iconst 0, 1), (324, .ireturn, 1), (325, .goto 1174, 3), (328, .aload_n 1, 1), (329, .invokevirtual 103, 3), (332, .aload_n 2, 1), (333, .invokevirtual 106, 3)]
set_option maxRecDepth 100000 in
theorem D_L_law_2 : dT cL_law I_L_law_2 = true := by decide +kernel
def I_L_law_3 : List (Nat × Instr × Nat) := [(336, .if_icmp .eq 1163, 3), (339, .iconst 0, 1), (340, .ireturn, 1), (341, .aload_n 1, 1), (342, .aload_n 0, 1), (343, .iload 4, 2), (345, .iconst 1, 1), (346, .iadd, 1), (347, .iaload, 1), (348, .aload_n 3, 1), (349, .invokestatic 107, 3), (352, .istore 5, 2), (354, .aload_n 2, 1), (355, .aload_n 0, 1), (356, .iload 4, 2), (358, .iconst 1, 1), (359, .iadd, 1), (360, .iaload, 1), (361, .invokevirtual 109, 3), (364, .istore 6, 2), (366, .aload_n 2, 1), (367, .invokevirtual 92, 3), (370, .iload 5, 2), (372, .if_icmp .eq 5, 3), (375, .iconst 0, 1), (376, .ireturn, 1), (377, .iload 5, 2), (379, .ifCond .ne 15, 3), (382, .aload_n 3, 1), (383, .iconst 0, 1), (384, .laload, 1), (385, .iload 6, 2), (387, .i2l, 1), (388, .lcmp, 1), (389, .ifCond .eq 5, 3), (392, .iconst 0, 1), (393, .ireturn, 1), (394, .goto 1105, 3), (397, .aload_n 1, 1), (398, .aload_n 0, 1), (399, .iload 4, 2), (401, .iconst 1, 1), (402, .iadd, 1), (403, .iaload, 1), (404, .aload_n 3, 1), (405, .invokestatic 110, 3), (408, .istore 5, 2), (410, .aload_n 2, 1)]
set_option maxRecDepth 100000 in
theorem D_L_law_3 : dT cL_law I_L_law_3 = true := by decide +kernel
def I_L_law_4 : List (Nat × Instr × Nat) := [(411, .aload_n 0, 1), (412, .iload 4, 2), (414, .iconst 1, 1), (415, .iadd, 1), (416, .iaload, 1), (417, .invokevirtual 112, 3), (420, .istore 6, 2), (422, .aload_n 2, 1), (423, .invokevirtual 92, 3), (426, .iload 5, 2), (428, .if_icmp .eq 5, 3), (431, .iconst 0, 1), (432, .ireturn, 1), (433, .iload 5, 2), (435, .ifCond .ne 15, 3), (438, .aload_n 3, 1), (439, .iconst 0, 1), (440, .laload, 1), (441, .iload 6, 2), (443, .i2l, 1), (444, .lcmp, 1), (445, .ifCond .eq 5, 3), (448, .iconst 0, 1), (449, .ireturn, 1), (450, .goto 1049, 3), (453, .aload_n 1, 1), (454, .aload_n 0, 1), (455, .iload 4, 2), (457, .iconst 1, 1), (458, .iadd, 1), (459, .iaload, 1), (460, .aload_n 3, 1), (461, .invokestatic 113, 3), (464, .istore 5, 2), (466, .aload_n 2, 1), (467, .aload_n 0, 1), (468, .iload 4, 2), (470, .iconst 1, 1), (471, .iadd, 1), (472, .iaload, 1), (473, .invokevirtual 115, 3), (476, .istore 6, 2), (478, .aload_n 2, 1), (479, .invokevirtual 92, 3), (482, .iload 5, 2), (484, .if_icmp .eq 5, 3), (487, .iconst 0, 1), (488, .ireturn, 1)]
set_option maxRecDepth 100000 in
theorem D_L_law_4 : dT cL_law I_L_law_4 = true := by decide +kernel
def I_L_law_5 : List (Nat × Instr × Nat) := [(489, .iload 5, 2), (491, .ifCond .ne 15, 3), (494, .aload_n 3, 1), (495, .iconst 0, 1), (496, .laload, 1), (497, .iload 6, 2), (499, .i2l, 1), (500, .lcmp, 1), (501, .ifCond .eq 5, 3), (504, .iconst 0, 1), (505, .ireturn, 1), (506, .goto 993, 3), (509, .aload_n 1, 1), (510, .aload_n 0, 1), (511, .iload 4, 2), (513, .iconst 1, 1), (514, .iadd, 1), (515, .iaload, 1), (516, .aload_n 3, 1), (517, .invokestatic 116, 3), (520, .istore 5, 2), (522, .aload_n 2, 1), (523, .aload_n 0, 1), (524, .iload 4, 2), (526, .iconst 1, 1), (527, .iadd, 1), (528, .iaload, 1), (529, .invokevirtual 118, 3), (532, .istore 6, 2), (534, .aload_n 2, 1), (535, .invokevirtual 92, 3), (538, .iload 5, 2), (540, .if_icmp .eq 5, 3), (543, .iconst 0, 1), (544, .ireturn, 1), (545, .iload 5, 2), (547, .ifCond .ne 15, 3), (550, .aload_n 3, 1), (551, .iconst 0, 1), (552, .laload, 1), (553, .iload 6, 2), (555, .i2l, 1), (556, .lcmp, 1), (557, .ifCond .eq 5, 3), (560, .iconst 0, 1), (561, .ireturn, 1), (562, .goto 937, 3), (565, .aload_n 1, 1)]
set_option maxRecDepth 100000 in
theorem D_L_law_5 : dT cL_law I_L_law_5 = true := by decide +kernel
def I_L_law_6 : List (Nat × Instr × Nat) := [(566, .aload_n 0, 1), (567, .iload 4, 2), (569, .iconst 1, 1), (570, .iadd, 1), (571, .iaload, 1), (572, .aload_n 3, 1), (573, .invokestatic 119, 3), (576, .istore 5, 2), (578, .aload_n 2, 1), (579, .aload_n 0, 1), (580, .iload 4, 2), (582, .iconst 1, 1), (583, .iadd, 1), (584, .iaload, 1), (585, .invokevirtual 121, 3), (588, .istore 6, 2), (590, .aload_n 2, 1), (591, .invokevirtual 92, 3), (594, .iload 5, 2), (596, .if_icmp .eq 5, 3), (599, .iconst 0, 1), (600, .ireturn, 1), (601, .iload 5, 2), (603, .ifCond .ne 15, 3), (606, .aload_n 3, 1), (607, .iconst 0, 1), (608, .laload, 1), (609, .iload 6, 2), (611, .i2l, 1), (612, .lcmp, 1), (613, .ifCond .eq 5, 3), (616, .iconst 0, 1), (617, .ireturn, 1), (618, .goto 881, 3), (621, .aload_n 1, 1), (622, .aload_n 0, 1), (623, .iload 4, 2), (625, .iconst 1, 1), (626, .iadd, 1), (627, .iaload, 1), (628, .aload_n 0, 1), (629, .iload 4, 2), (631, .iconst 2, 1), (632, .iadd, 1), (633, .iaload, 1), (634, .aload_n 3, 1), (635, .invokestatic 122, 3), (638, .istore 5, 2)]
set_option maxRecDepth 100000 in
theorem D_L_law_6 : dT cL_law I_L_law_6 = true := by decide +kernel
def I_L_law_7 : List (Nat × Instr × Nat) := [(640, .aload_n 2, 1), (641, .aload_n 0, 1), (642, .iload 4, 2), (644, .iconst 1, 1), (645, .iadd, 1), (646, .iaload, 1), (647, .aload_n 0, 1), (648, .iload 4, 2), (650, .iconst 2, 1), (651, .iadd, 1), (652, .iaload, 1), (653, .invokevirtual 124, 3), (656, .istore 6, 2), (658, .aload_n 2, 1), (659, .invokevirtual 92, 3), (662, .iload 5, 2), (664, .if_icmp .eq 5, 3), (667, .iconst 0, 1), (668, .ireturn, 1), (669, .iload 5, 2), (671, .ifCond .ne 15, 3), (674, .aload_n 3, 1), (675, .iconst 0, 1), (676, .laload, 1), (677, .iload 6, 2), (679, .i2l, 1), (680, .lcmp, 1), (681, .ifCond .eq 5, 3), (684, .iconst 0, 1), (685, .ireturn, 1), (686, .goto 813, 3), (689, .aload_n 1, 1), (690, .aload_n 0, 1), (691, .iload 4, 2), (693, .iconst 1, 1), (694, .iadd, 1), (695, .iaload, 1), (696, .aload_n 0, 1), (697, .iload 4, 2), (699, .iconst 2, 1), (700, .iadd, 1), (701, .iaload, 1), (702, .aload_n 3, 1), (703, .invokestatic 125, 3), (706, .istore 5, 2), (708, .aload_n 2, 1), (709, .aload_n 0, 1), (710, .iload 4, 2)]
set_option maxRecDepth 100000 in
theorem D_L_law_7 : dT cL_law I_L_law_7 = true := by decide +kernel
def I_L_law_8 : List (Nat × Instr × Nat) := [(712, .iconst 1, 1), (713, .iadd, 1), (714, .iaload, 1), (715, .aload_n 0, 1), (716, .iload 4, 2), (718, .iconst 2, 1), (719, .iadd, 1), (720, .iaload, 1), (721, .invokevirtual 127, 3), (724, .istore 6, 2), (726, .aload_n 2, 1), (727, .invokevirtual 92, 3), (730, .iload 5, 2), (732, .if_icmp .eq 5, 3), (735, .iconst 0, 1), (736, .ireturn, 1), (737, .iload 5, 2), (739, .ifCond .ne 15, 3), (742, .aload_n 3, 1), (743, .iconst 0, 1), (744, .laload, 1), (745, .iload 6, 2), (747, .i2l, 1), (748, .lcmp, 1), (749, .ifCond .eq 5, 3), (752, .iconst 0, 1), (753, .ireturn, 1), (754, .goto 745, 3), (757, .aload_n 1, 1), (758, .aload_n 0, 1), (759, .iload 4, 2), (761, .iconst 1, 1), (762, .iadd, 1), (763, .iaload, 1), (764, .aload_n 0, 1), (765, .iload 4, 2), (767, .iconst 2, 1), (768, .iadd, 1), (769, .iaload, 1), (770, .aload_n 3, 1), (771, .invokestatic 128, 3), (774, .istore 5, 2), (776, .aload_n 2, 1), (777, .aload_n 0, 1), (778, .iload 4, 2), (780, .iconst 1, 1), (781, .iadd, 1), (782, .iaload, 1)]
set_option maxRecDepth 100000 in
theorem D_L_law_8 : dT cL_law I_L_law_8 = true := by decide +kernel
def I_L_law_9 : List (Nat × Instr × Nat) := [(783, .aload_n 0, 1), (784, .iload 4, 2), (786, .iconst 2, 1), (787, .iadd, 1), (788, .iaload, 1), (789, .invokevirtual 130, 3), (792, .istore 6, 2), (794, .aload_n 2, 1), (795, .invokevirtual 92, 3), (798, .iload 5, 2), (800, .if_icmp .eq 5, 3), (803, .iconst 0, 1), (804, .ireturn, 1), (805, .iload 5, 2), (807, .ifCond .ne 15, 3), (810, .aload_n 3, 1), (811, .iconst 0, 1), (812, .laload, 1), (813, .iload 6, 2), (815, .i2l, 1), (816, .lcmp, 1), (817, .ifCond .eq 5, 3), (820, .iconst 0, 1), (821, .ireturn, 1), (822, .goto 677, 3), (825, .aload_n 1, 1), (826, .aload_n 0, 1), (827, .iload 4, 2), (829, .iconst 1, 1), (830, .iadd, 1), (831, .iaload, 1), (832, .aload_n 0, 1), (833, .iload 4, 2), (835, .iconst 2, 1), (836, .iadd, 1), (837, .iaload, 1), (838, .aload_n 0, 1), (839, .iload 4, 2), (841, .iconst 3, 1), (842, .iadd, 1), (843, .iaload, 1), (844, .aload_n 3, 1), (845, .invokestatic 131, 3), (848, .istore 5, 2), (850, .aload_n 2, 1), (851, .aload_n 0, 1), (852, .iload 4, 2), (854, .iconst 1, 1)]
set_option maxRecDepth 100000 in
theorem D_L_law_9 : dT cL_law I_L_law_9 = true := by decide +kernel
def I_L_law_10 : List (Nat × Instr × Nat) := [(855, .iadd, 1), (856, .iaload, 1), (857, .aload_n 0, 1), (858, .iload 4, 2), (860, .iconst 2, 1), (861, .iadd, 1), (862, .iaload, 1), (863, .aload_n 0, 1), (864, .iload 4, 2), (866, .iconst 3, 1), (867, .iadd, 1), (868, .iaload, 1), (869, .invokevirtual 134, 3), (872, .istore 6, 2), (874, .aload_n 2, 1), (875, .invokevirtual 92, 3), (878, .iload 5, 2), (880, .if_icmp .eq 5, 3), (883, .iconst 0, 1), (884, .ireturn, 1), (885, .iload 5, 2), (887, .ifCond .ne 15, 3), (890, .aload_n 3, 1), (891, .iconst 0, 1), (892, .laload, 1), (893, .iload 6, 2), (895, .i2l, 1), (896, .lcmp, 1), (897, .ifCond .eq 5, 3), (900, .iconst 0, 1), (901, .ireturn, 1), (902, .goto 597, 3), (905, .aload_n 1, 1), (906, .aload_n 0, 1), (907, .iload 4, 2), (909, .iconst 1, 1), (910, .iadd, 1), (911, .iaload, 1), (912, .aload_n 0, 1), (913, .iload 4, 2), (915, .iconst 2, 1), (916, .iadd, 1), (917, .iaload, 1), (918, .ifCond .eq 7, 3), (921, .iconst 1, 1), (922, .goto 4, 3), (925, .iconst 0, 1), (926, .aload_n 3, 1)]
set_option maxRecDepth 100000 in
theorem D_L_law_10 : dT cL_law I_L_law_10 = true := by decide +kernel
def I_L_law_11 : List (Nat × Instr × Nat) := [(927, .invokestatic 135, 3), (930, .istore 5, 2), (932, .aload_n 2, 1), (933, .aload_n 0, 1), (934, .iload 4, 2), (936, .iconst 1, 1), (937, .iadd, 1), (938, .iaload, 1), (939, .aload_n 0, 1), (940, .iload 4, 2), (942, .iconst 2, 1), (943, .iadd, 1), (944, .iaload, 1), (945, .ifCond .eq 7, 3), (948, .iconst 1, 1), (949, .goto 4, 3), (952, .iconst 0, 1), (953, .invokevirtual 138, 3), (956, .istore 6, 2), (958, .aload_n 2, 1), (959, .invokevirtual 92, 3), (962, .iload 5, 2), (964, .if_icmp .eq 5, 3), (967, .iconst 0, 1), (968, .ireturn, 1), (969, .iload 5, 2), (971, .ifCond .ne 15, 3), (974, .aload_n 3, 1), (975, .iconst 0, 1), (976, .laload, 1), (977, .iload 6, 2), (979, .i2l, 1), (980, .lcmp, 1), (981, .ifCond .eq 5, 3), (984, .iconst 0, 1), (985, .ireturn, 1), (986, .goto 513, 3), (989, .aload_n 1, 1), (990, .aload_n 0, 1), (991, .iload 4, 2), (993, .iconst 1, 1), (994, .iadd, 1), (995, .iaload, 1), (996, .aload_n 3, 1), (997, .invokestatic 139, 3), (1000, .istore 5, 2), (1002, .aload_n 2, 1), (1003, .aload_n 0, 1)]
set_option maxRecDepth 100000 in
theorem D_L_law_11 : dT cL_law I_L_law_11 = true := by decide +kernel
def I_L_law_12 : List (Nat × Instr × Nat) := [(1004, .iload 4, 2), (1006, .iconst 1, 1), (1007, .iadd, 1), (1008, .iaload, 1), (1009, .invokevirtual 141, 3), (1012, .istore 6, 2), (1014, .aload_n 2, 1), (1015, .invokevirtual 92, 3), (1018, .iload 5, 2), (1020, .if_icmp .eq 5, 3), (1023, .iconst 0, 1), (1024, .ireturn, 1), (1025, .iload 5, 2), (1027, .ifCond .ne 15, 3), (1030, .aload_n 3, 1), (1031, .iconst 0, 1), (1032, .laload, 1), (1033, .iload 6, 2), (1035, .i2l, 1), (1036, .lcmp, 1), (1037, .ifCond .eq 5, 3), (1040, .iconst 0, 1), (1041, .ireturn, 1), (1042, .goto 457, 3), (1045, .aload_n 1, 1), (1046, .aload_n 0, 1), (1047, .iload 4, 2), (1049, .iconst 1, 1), (1050, .iadd, 1), (1051, .iaload, 1), (1052, .aload_n 3, 1), (1053, .invokestatic 142, 3), (1056, .istore 5, 2), (1058, .aload_n 2, 1), (1059, .aload_n 0, 1), (1060, .iload 4, 2), (1062, .iconst 1, 1), (1063, .iadd, 1), (1064, .iaload, 1), (1065, .invokevirtual 144, 3), (1068, .istore 6, 2), (1070, .aload_n 2, 1), (1071, .invokevirtual 92, 3), (1074, .iload 5, 2), (1076, .if_icmp .eq 5, 3), (1079, .iconst 0, 1), (1080, .ireturn, 1), (1081, .iload 5, 2)]
set_option maxRecDepth 100000 in
theorem D_L_law_12 : dT cL_law I_L_law_12 = true := by decide +kernel
def I_L_law_13 : List (Nat × Instr × Nat) := [(1083, .ifCond .ne 15, 3), (1086, .aload_n 3, 1), (1087, .iconst 0, 1), (1088, .laload, 1), (1089, .iload 6, 2), (1091, .i2l, 1), (1092, .lcmp, 1), (1093, .ifCond .eq 5, 3), (1096, .iconst 0, 1), (1097, .ireturn, 1), (1098, .goto 401, 3), (1101, .aload_n 1, 1), (1102, .aload_n 0, 1), (1103, .iload 4, 2), (1105, .iconst 1, 1), (1106, .iadd, 1), (1107, .iaload, 1), (1108, .aload_n 3, 1), (1109, .invokestatic 145, 3), (1112, .istore 5, 2), (1114, .aload_n 2, 1), (1115, .aload_n 0, 1), (1116, .iload 4, 2), (1118, .iconst 1, 1), (1119, .iadd, 1), (1120, .iaload, 1), (1121, .invokevirtual 147, 3), (1124, .istore 6, 2), (1126, .aload_n 2, 1), (1127, .invokevirtual 92, 3), (1130, .iload 5, 2), (1132, .if_icmp .eq 5, 3), (1135, .iconst 0, 1), (1136, .ireturn, 1), (1137, .iload 5, 2), (1139, .ifCond .ne 15, 3), (1142, .aload_n 3, 1), (1143, .iconst 0, 1), (1144, .laload, 1), (1145, .iload 6, 2), (1147, .i2l, 1), (1148, .lcmp, 1), (1149, .ifCond .eq 5, 3), (1152, .iconst 0, 1), (1153, .ireturn, 1), (1154, .goto 345, 3), (1157, .aload_n 1, 1), (1158, .aload_n 0, 1)]
set_option maxRecDepth 100000 in
theorem D_L_law_13 : dT cL_law I_L_law_13 = true := by decide +kernel
def I_L_law_14 : List (Nat × Instr × Nat) := [(1159, .iload 4, 2), (1161, .iconst 1, 1), (1162, .iadd, 1), (1163, .iaload, 1), (1164, .aload_n 0, 1), (1165, .iload 4, 2), (1167, .iconst 2, 1), (1168, .iadd, 1), (1169, .iaload, 1), (1170, .aload_n 3, 1), (1171, .invokestatic 148, 3), (1174, .istore 5, 2), (1176, .aload_n 2, 1), (1177, .aload_n 0, 1), (1178, .iload 4, 2), (1180, .iconst 1, 1), (1181, .iadd, 1), (1182, .iaload, 1), (1183, .aload_n 0, 1), (1184, .iload 4, 2), (1186, .iconst 2, 1), (1187, .iadd, 1), (1188, .iaload, 1), (1189, .invokevirtual 150, 3), (1192, .istore 6, 2), (1194, .aload_n 2, 1), (1195, .invokevirtual 92, 3), (1198, .iload 5, 2), (1200, .if_icmp .eq 5, 3), (1203, .iconst 0, 1), (1204, .ireturn, 1), (1205, .iload 5, 2), (1207, .ifCond .ne 15, 3), (1210, .aload_n 3, 1), (1211, .iconst 0, 1), (1212, .laload, 1), (1213, .iload 6, 2), (1215, .i2l, 1), (1216, .lcmp, 1), (1217, .ifCond .eq 5, 3), (1220, .iconst 0, 1), (1221, .ireturn, 1), (1222, .goto 277, 3), (1225, .aload_n 1, 1), (1226, .aload_n 0, 1), (1227, .iload 4, 2), (1229, .iconst 1, 1), (1230, .iadd, 1)]
set_option maxRecDepth 100000 in
theorem D_L_law_14 : dT cL_law I_L_law_14 = true := by decide +kernel
def I_L_law_15 : List (Nat × Instr × Nat) := [(1231, .iaload, 1), (1232, .aload_n 0, 1), (1233, .iload 4, 2), (1235, .iconst 2, 1), (1236, .iadd, 1), (1237, .iaload, 1), (1238, .aload_n 3, 1), (1239, .invokestatic 151, 3), (1242, .istore 5, 2), (1244, .aload_n 2, 1), (1245, .aload_n 0, 1), (1246, .iload 4, 2), (1248, .iconst 1, 1), (1249, .iadd, 1), (1250, .iaload, 1), (1251, .aload_n 0, 1), (1252, .iload 4, 2), (1254, .iconst 2, 1), (1255, .iadd, 1), (1256, .iaload, 1), (1257, .invokevirtual 153, 3), (1260, .istore 6, 2), (1262, .aload_n 2, 1), (1263, .invokevirtual 92, 3), (1266, .iload 5, 2), (1268, .if_icmp .eq 5, 3), (1271, .iconst 0, 1), (1272, .ireturn, 1), (1273, .iload 5, 2), (1275, .ifCond .ne 15, 3), (1278, .aload_n 3, 1), (1279, .iconst 0, 1), (1280, .laload, 1), (1281, .iload 6, 2), (1283, .i2l, 1), (1284, .lcmp, 1), (1285, .ifCond .eq 5, 3), (1288, .iconst 0, 1), (1289, .ireturn, 1), (1290, .goto 209, 3), (1293, .aload_n 1, 1), (1294, .aload_n 0, 1), (1295, .iload 4, 2), (1297, .iconst 1, 1), (1298, .iadd, 1), (1299, .iaload, 1), (1300, .aload_n 0, 1), (1301, .iload 4, 2)]
set_option maxRecDepth 100000 in
theorem D_L_law_15 : dT cL_law I_L_law_15 = true := by decide +kernel
def I_L_law_16 : List (Nat × Instr × Nat) := [(1303, .iconst 2, 1), (1304, .iadd, 1), (1305, .iaload, 1), (1306, .aload_n 3, 1), (1307, .invokestatic 154, 3), (1310, .istore 5, 2), (1312, .aload_n 2, 1), (1313, .aload_n 0, 1), (1314, .iload 4, 2), (1316, .iconst 1, 1), (1317, .iadd, 1), (1318, .iaload, 1), (1319, .aload_n 0, 1), (1320, .iload 4, 2), (1322, .iconst 2, 1), (1323, .iadd, 1), (1324, .iaload, 1), (1325, .invokevirtual 156, 3), (1328, .istore 6, 2), (1330, .aload_n 2, 1), (1331, .invokevirtual 92, 3), (1334, .iload 5, 2), (1336, .if_icmp .eq 5, 3), (1339, .iconst 0, 1), (1340, .ireturn, 1), (1341, .iload 5, 2), (1343, .ifCond .ne 15, 3), (1346, .aload_n 3, 1), (1347, .iconst 0, 1), (1348, .laload, 1), (1349, .iload 6, 2), (1351, .i2l, 1), (1352, .lcmp, 1), (1353, .ifCond .eq 5, 3), (1356, .iconst 0, 1), (1357, .ireturn, 1), (1358, .goto 141, 3), (1361, .aload_n 1, 1), (1362, .invokevirtual 157, 3), (1365, .aload_n 2, 1), (1366, .invokevirtual 160, 3), (1369, .if_icmp .eq 130, 3), (1372, .iconst 0, 1), (1373, .ireturn, 1), (1374, .aload_n 1, 1), (1375, .aload_n 0, 1), (1376, .iload 4, 2), (1378, .iconst 1, 1)]
set_option maxRecDepth 100000 in
theorem D_L_law_16 : dT cL_law I_L_law_16 = true := by decide +kernel
def I_L_law_17 : List (Nat × Instr × Nat) := [(1379, .iadd, 1), (1380, .iaload, 1), (1381, .aload_n 3, 1), (1382, .invokestatic 161, 3), (1385, .istore 5, 2), (1387, .aload_n 2, 1), (1388, .aload_n 0, 1), (1389, .iload 4, 2), (1391, .iconst 1, 1), (1392, .iadd, 1), (1393, .iaload, 1), (1394, .invokevirtual 163, 3), (1397, .istore 6, 2), (1399, .aload_n 2, 1), (1400, .invokevirtual 92, 3), (1403, .iload 5, 2), (1405, .if_icmp .eq 5, 3), (1408, .iconst 0, 1), (1409, .ireturn, 1), (1410, .iload 5, 2), (1412, .ifCond .ne 15, 3), (1415, .aload_n 3, 1), (1416, .iconst 0, 1), (1417, .laload, 1), (1418, .iload 6, 2), (1420, .i2l, 1), (1421, .lcmp, 1), (1422, .ifCond .eq 5, 3), (1425, .iconst 0, 1), (1426, .ireturn, 1), (1427, .goto 72, 3), (1430, .aload_n 1, 1), (1431, .aload_n 0, 1), (1432, .iload 4, 2), (1434, .iconst 1, 1), (1435, .iadd, 1), (1436, .iaload, 1), (1437, .aload_n 3, 1), (1438, .invokestatic 164, 3), (1441, .istore 5, 2), (1443, .aload_n 2, 1), (1444, .aload_n 0, 1), (1445, .iload 4, 2), (1447, .iconst 1, 1), (1448, .iadd, 1), (1449, .iaload, 1), (1450, .invokevirtual 166, 3), (1453, .istore 6, 2)]
set_option maxRecDepth 100000 in
theorem D_L_law_17 : dT cL_law I_L_law_17 = true := by decide +kernel
def I_L_law_18 : List (Nat × Instr × Nat) := [(1455, .aload_n 2, 1), (1456, .invokevirtual 92, 3), (1459, .iload 5, 2), (1461, .if_icmp .eq 5, 3), (1464, .iconst 0, 1), (1465, .ireturn, 1), (1466, .iload 5, 2), (1468, .ifCond .ne 15, 3), (1471, .aload_n 3, 1), (1472, .iconst 0, 1), (1473, .laload, 1), (1474, .iload 6, 2), (1476, .i2l, 1), (1477, .lcmp, 1), (1478, .ifCond .eq 5, 3), (1481, .iconst 0, 1), (1482, .ireturn, 1), (1483, .goto 16, 3), (1486, .aload_n 1, 1), (1487, .invokevirtual 167, 3), (1490, .aload_n 2, 1), (1491, .invokevirtual 170, 3), (1494, .if_icmp .eq 5, 3), (1497, .iconst 0, 1), (1498, .ireturn, 1), (1499, .iinc 4 4, 3), (1502, .goto (-1479), 3), (1505, .iconst 1, 1), (1506, .ireturn, 1)]
set_option maxRecDepth 100000 in
theorem D_L_law_18 : dT cL_law I_L_law_18 = true := by decide +kernel
end
section
/-! the words that every method may lean on, and where each of them stands -/
def gtbl : List Cond := lw_tbl.filter goodWord
theorem gm {w : Cond} (i : Nat) (h : lw_tbl[i]? = some w) (hg : goodWord w = true) : w ∈ gtbl := List.mem_filter.mpr ⟨List.mem_of_getElem? h, hg⟩
theorem gtbl_in {w : Cond} (h : w ∈ gtbl) : w ∈ lw_tbl := (List.mem_filter.mp h).1
theorem gtbl_good {w : Cond} (h : w ∈ gtbl) : goodWord w = true := (List.mem_filter.mp h).2
theorem sp_0 : Cond.selects "Twinphase" ⟨"Twinphase", "closedStamp", "()I"⟩ ⟨"Twinphase", "closedStamp", "()I"⟩ ∈ gtbl := gm 0 (by decide +kernel) rfl
theorem sp_1 : Cond.selects "Twinphase" ⟨"Twinphase", "resolvedStamp", "()I"⟩ ⟨"Twinphase", "resolvedStamp", "()I"⟩ ∈ gtbl := gm 1 (by decide +kernel) rfl
theorem sp_2 : Cond.selects "java/lang/Throwable" ⟨"java/lang/Throwable", "fillInStackTrace", "(I)Ljava/lang/Throwable;"⟩ ⟨"java/lang/Throwable", "fillInStackTrace", "(I)Ljava/lang/Throwable;"⟩ ∈ gtbl := gm 2 (by decide +kernel) rfl
theorem sp_3 : Cond.selects "Twinphase" ⟨"Twinphase", "needNode", "(I)V"⟩ ⟨"Twinphase", "needNode", "(I)V"⟩ ∈ gtbl := gm 3 (by decide +kernel) rfl
theorem sp_4 : Cond.selects "Twinphase" ⟨"Twinphase", "needUp", "(I)V"⟩ ⟨"Twinphase", "needUp", "(I)V"⟩ ∈ gtbl := gm 4 (by decide +kernel) rfl
theorem sp_5 : Cond.selects "Twinphase" ⟨"Twinphase", "rangeOf", "(I)I"⟩ ⟨"Twinphase", "rangeOf", "(I)I"⟩ ∈ gtbl := gm 5 (by decide +kernel) rfl
theorem sp_6 : Cond.selects "Twinphase" ⟨"Twinphase", "firstKeyOf", "(I)I"⟩ ⟨"Twinphase", "firstKeyOf", "(I)I"⟩ ∈ gtbl := gm 6 (by decide +kernel) rfl
theorem sp_7 : Cond.selects "Twinphase" ⟨"Twinphase", "needTransaction", "(I)V"⟩ ⟨"Twinphase", "needTransaction", "(I)V"⟩ ∈ gtbl := gm 7 (by decide +kernel) rfl
theorem sp_8 : Cond.selects "Twinphase" ⟨"Twinphase", "needKey", "(I)V"⟩ ⟨"Twinphase", "needKey", "(I)V"⟩ ∈ gtbl := gm 8 (by decide +kernel) rfl
theorem sp_9 : Cond.selects "Twinphase" ⟨"Twinphase", "refusalAt", "(LTwinphase$Transaction;I)I"⟩ ⟨"Twinphase", "refusalAt", "(LTwinphase$Transaction;I)I"⟩ ∈ gtbl := gm 9 (by decide +kernel) rfl
theorem sp_10 : Cond.selects "Twinphase" ⟨"Twinphase", "askNode", "(LTwinphase$Transaction;I)V"⟩ ⟨"Twinphase", "askNode", "(LTwinphase$Transaction;I)V"⟩ ∈ gtbl := gm 10 (by decide +kernel) rfl
theorem sp_11 : Cond.selects "Twinphase" ⟨"Twinphase", "lookToRead", "(LTwinphase$Transaction;I)I"⟩ ⟨"Twinphase", "lookToRead", "(LTwinphase$Transaction;I)I"⟩ ∈ gtbl := gm 11 (by decide +kernel) rfl
theorem sp_12 : Cond.selects "Twinphase" ⟨"Twinphase", "meetIntent", "(LTwinphase$Transaction;I)LTwinphase$Transaction;"⟩ ⟨"Twinphase", "meetIntent", "(LTwinphase$Transaction;I)LTwinphase$Transaction;"⟩ ∈ gtbl := gm 12 (by decide +kernel) rfl
theorem sp_13 : Cond.selects "Twinphase" ⟨"Twinphase", "decideStaged", "(LTwinphase$Transaction;)V"⟩ ⟨"Twinphase", "decideStaged", "(LTwinphase$Transaction;)V"⟩ ∈ gtbl := gm 13 (by decide +kernel) rfl
theorem sp_14 : Cond.selects "Twinphase" ⟨"Twinphase", "hasAllIntents", "(LTwinphase$Transaction;)Z"⟩ ⟨"Twinphase", "hasAllIntents", "(LTwinphase$Transaction;)Z"⟩ ∈ gtbl := gm 14 (by decide +kernel) rfl
theorem sp_15 : Cond.selects "Twinphase" ⟨"Twinphase", "waitFor", "(LTwinphase$Transaction;LTwinphase$Transaction;)I"⟩ ⟨"Twinphase", "waitFor", "(LTwinphase$Transaction;LTwinphase$Transaction;)I"⟩ ∈ gtbl := gm 15 (by decide +kernel) rfl
theorem sp_16 : Cond.selects "Twinphase" ⟨"Twinphase", "victimOfRing", "(LTwinphase$Transaction;)LTwinphase$Transaction;"⟩ ⟨"Twinphase", "victimOfRing", "(LTwinphase$Transaction;)LTwinphase$Transaction;"⟩ ∈ gtbl := gm 16 (by decide +kernel) rfl
theorem sp_17 : Cond.selects "Twinphase" ⟨"Twinphase", "refreshReads", "(LTwinphase$Transaction;I)Z"⟩ ⟨"Twinphase", "refreshReads", "(LTwinphase$Transaction;I)Z"⟩ ∈ gtbl := gm 17 (by decide +kernel) rfl
theorem sp_18 : Cond.selects "Twinphase" ⟨"Twinphase", "restartAt", "(LTwinphase$Transaction;I)I"⟩ ⟨"Twinphase", "restartAt", "(LTwinphase$Transaction;I)I"⟩ ∈ gtbl := gm 18 (by decide +kernel) rfl
theorem sp_19 : Cond.selects "Twinphase" ⟨"Twinphase", "lookToWrite", "(LTwinphase$Transaction;II)I"⟩ ⟨"Twinphase", "lookToWrite", "(LTwinphase$Transaction;II)I"⟩ ∈ gtbl := gm 19 (by decide +kernel) rfl
theorem sp_20 : Cond.selects "Twinphase" ⟨"Twinphase", "writesOnDownNode", "(LTwinphase$Transaction;)Z"⟩ ⟨"Twinphase", "writesOnDownNode", "(LTwinphase$Transaction;)Z"⟩ ∈ gtbl := gm 20 (by decide +kernel) rfl
theorem sp_21 : Cond.selects "Twinphase" ⟨"Twinphase", "needWhat", "(I)V"⟩ ⟨"Twinphase", "needWhat", "(I)V"⟩ ∈ gtbl := gm 21 (by decide +kernel) rfl
theorem sp_22 : Cond.selects "Twinphase" ⟨"Twinphase", "needPlace", "(I)V"⟩ ⟨"Twinphase", "needPlace", "(I)V"⟩ ∈ gtbl := gm 22 (by decide +kernel) rfl
theorem sp_23 : Cond.selects "TwinphaseModel" ⟨"TwinphaseModel", "asks", "(I)I"⟩ ⟨"TwinphaseModel", "asks", "(I)I"⟩ ∈ gtbl := gm 23 (by decide +kernel) rfl
theorem sp_24 : Cond.selects "TwinphaseModel" ⟨"TwinphaseModel", "closedNow", "()I"⟩ ⟨"TwinphaseModel", "closedNow", "()I"⟩ ∈ gtbl := gm 24 (by decide +kernel) rfl
theorem sp_25 : Cond.selects "TwinphaseModel" ⟨"TwinphaseModel", "nodeOf", "(I)I"⟩ ⟨"TwinphaseModel", "nodeOf", "(I)I"⟩ ∈ gtbl := gm 25 (by decide +kernel) rfl
theorem sp_26 : Cond.selects "TwinphaseModel" ⟨"TwinphaseModel", "rangeOf", "(I)I"⟩ ⟨"TwinphaseModel", "rangeOf", "(I)I"⟩ ∈ gtbl := gm 26 (by decide +kernel) rfl
theorem sp_27 : Cond.selects "TwinphaseModel" ⟨"TwinphaseModel", "covers", "(II)V"⟩ ⟨"TwinphaseModel", "covers", "(II)V"⟩ ∈ gtbl := gm 27 (by decide +kernel) rfl
theorem sp_28 : Cond.selects "TwinphaseModel" ⟨"TwinphaseModel", "forgets", "(I)V"⟩ ⟨"TwinphaseModel", "forgets", "(I)V"⟩ ∈ gtbl := gm 28 (by decide +kernel) rfl
theorem sp_29 : Cond.selects "TwinphaseModel" ⟨"TwinphaseModel", "areThere", "(II)Z"⟩ ⟨"TwinphaseModel", "areThere", "(II)Z"⟩ ∈ gtbl := gm 29 (by decide +kernel) rfl
theorem sp_30 : Cond.selects "TwinphaseModel" ⟨"TwinphaseModel", "opens", "(II)I"⟩ ⟨"TwinphaseModel", "opens", "(II)I"⟩ ∈ gtbl := gm 30 (by decide +kernel) rfl
theorem sp_31 : Cond.selects "TwinphaseModel" ⟨"TwinphaseModel", "meets", "(II)I"⟩ ⟨"TwinphaseModel", "meets", "(II)I"⟩ ∈ gtbl := gm 31 (by decide +kernel) rfl
theorem sp_32 : Cond.selects "TwinphaseModel" ⟨"TwinphaseModel", "recovers", "(I)V"⟩ ⟨"TwinphaseModel", "recovers", "(I)V"⟩ ∈ gtbl := gm 32 (by decide +kernel) rfl
theorem sp_33 : Cond.selects "TwinphaseModel" ⟨"TwinphaseModel", "hasAllIntents", "(I)Z"⟩ ⟨"TwinphaseModel", "hasAllIntents", "(I)Z"⟩ ∈ gtbl := gm 33 (by decide +kernel) rfl
theorem sp_34 : Cond.selects "TwinphaseModel" ⟨"TwinphaseModel", "commits", "(I)V"⟩ ⟨"TwinphaseModel", "commits", "(I)V"⟩ ∈ gtbl := gm 34 (by decide +kernel) rfl
theorem sp_35 : Cond.selects "TwinphaseModel" ⟨"TwinphaseModel", "isVanished", "(I)Z"⟩ ⟨"TwinphaseModel", "isVanished", "(I)Z"⟩ ∈ gtbl := gm 35 (by decide +kernel) rfl
theorem sp_36 : Cond.selects "TwinphaseModel" ⟨"TwinphaseModel", "comesAnew", "(II)Z"⟩ ⟨"TwinphaseModel", "comesAnew", "(II)Z"⟩ ∈ gtbl := gm 36 (by decide +kernel) rfl
theorem sp_37 : Cond.selects "TwinphaseModel" ⟨"TwinphaseModel", "waitsFor", "(I)I"⟩ ⟨"TwinphaseModel", "waitsFor", "(I)I"⟩ ∈ gtbl := gm 37 (by decide +kernel) rfl
theorem sp_38 : Cond.selects "TwinphaseModel" ⟨"TwinphaseModel", "waitAnswer", "(I)I"⟩ ⟨"TwinphaseModel", "waitAnswer", "(I)I"⟩ ∈ gtbl := gm 38 (by decide +kernel) rfl
theorem sp_39 : Cond.selects "TwinphaseModel" ⟨"TwinphaseModel", "latest", "(II)I"⟩ ⟨"TwinphaseModel", "latest", "(II)I"⟩ ∈ gtbl := gm 39 (by decide +kernel) rfl
theorem sp_40 : Cond.selects "TwinphaseModel" ⟨"TwinphaseModel", "refreshes", "(II)Z"⟩ ⟨"TwinphaseModel", "refreshes", "(II)Z"⟩ ∈ gtbl := gm 40 (by decide +kernel) rfl
theorem sp_41 : Cond.selects "TwinphaseModel" ⟨"TwinphaseModel", "marks", "(III)V"⟩ ⟨"TwinphaseModel", "marks", "(III)V"⟩ ∈ gtbl := gm 41 (by decide +kernel) rfl
theorem sp_42 : Cond.selects "TwinphaseModel" ⟨"TwinphaseModel", "restarts", "(II)I"⟩ ⟨"TwinphaseModel", "restarts", "(II)I"⟩ ∈ gtbl := gm 42 (by decide +kernel) rfl
theorem sp_43 : Cond.selects "TwinphaseModel" ⟨"TwinphaseModel", "valueAt", "(II)I"⟩ ⟨"TwinphaseModel", "valueAt", "(II)I"⟩ ∈ gtbl := gm 43 (by decide +kernel) rfl
theorem sp_44 : Cond.selects "TwinphaseModel" ⟨"TwinphaseModel", "isTransaction", "(I)Z"⟩ ⟨"TwinphaseModel", "isTransaction", "(I)Z"⟩ ∈ gtbl := gm 44 (by decide +kernel) rfl
theorem sp_45 : Cond.selects "TwinphaseModel" ⟨"TwinphaseModel", "counts", "(I[I)I"⟩ ⟨"TwinphaseModel", "counts", "(I[I)I"⟩ ∈ gtbl := gm 45 (by decide +kernel) rfl
theorem sp_46 : Cond.selects "TwinphaseModel" ⟨"TwinphaseModel", "resolvedNow", "()I"⟩ ⟨"TwinphaseModel", "resolvedNow", "()I"⟩ ∈ gtbl := gm 46 (by decide +kernel) rfl
theorem sp_47 : Cond.selects "TwinphaseModel" ⟨"TwinphaseModel", "next", "(I)I"⟩ ⟨"TwinphaseModel", "next", "(I)I"⟩ ∈ gtbl := gm 47 (by decide +kernel) rfl
theorem sp_48 : Cond.selects "TwinphaseModel" ⟨"TwinphaseModel", "isAhead", "(II)Z"⟩ ⟨"TwinphaseModel", "isAhead", "(II)Z"⟩ ∈ gtbl := gm 48 (by decide +kernel) rfl
theorem w_0 : (Jvm.Cond.initialized "TwinphaseLaw") ∈ gtbl := gm 49 (by decide +kernel) rfl
theorem w_1 : (Jvm.Cond.initialized "Twinphase") ∈ gtbl := gm 50 (by decide +kernel) rfl
theorem w_2 : (Jvm.Cond.initialized "Twinphase$History") ∈ gtbl := gm 51 (by decide +kernel) rfl
theorem w_3 : (Jvm.Cond.initialized "Twinphase$Node") ∈ gtbl := gm 52 (by decide +kernel) rfl
theorem w_4 : (Jvm.Cond.initialized "Twinphase$Cell") ∈ gtbl := gm 53 (by decide +kernel) rfl
theorem w_5 : (Jvm.Cond.initialized "TwinphaseModel") ∈ gtbl := gm 54 (by decide +kernel) rfl
theorem w_6 : (Jvm.Cond.initialized "java/lang/Throwable") ∈ gtbl := gm 55 (by decide +kernel) rfl
theorem w_7 : (Jvm.Cond.initialized "java/lang/Exception") ∈ gtbl := gm 56 (by decide +kernel) rfl
theorem w_8 : (Jvm.Cond.initialized "java/lang/RuntimeException") ∈ gtbl := gm 57 (by decide +kernel) rfl
theorem w_9 : (Jvm.Cond.initialized "java/lang/IllegalArgumentException") ∈ gtbl := gm 58 (by decide +kernel) rfl
theorem w_10 : (Jvm.Cond.initialized "java/lang/IllegalStateException") ∈ gtbl := gm 59 (by decide +kernel) rfl
theorem w_11 : (Jvm.Cond.initialized "java/lang/IndexOutOfBoundsException") ∈ gtbl := gm 60 (by decide +kernel) rfl
theorem w_12 : (Jvm.Cond.initialized "java/lang/Math") ∈ gtbl := gm 61 (by decide +kernel) rfl
theorem w_13 : (Jvm.Cond.initialized "Twinphase$Transaction") ∈ gtbl := gm 62 (by decide +kernel) rfl
theorem w_14 : (Jvm.Cond.initialized "java/util/Arrays") ∈ gtbl := gm 63 (by decide +kernel) rfl
theorem w_15 : (Jvm.Cond.initialized "java/lang/System") ∈ gtbl := gm 64 (by decide +kernel) rfl
theorem w_16 : (Jvm.Cond.initialized "java/lang/Integer") ∈ gtbl := gm 65 (by decide +kernel) rfl
theorem w_17 : (Jvm.Cond.classLink "TwinphaseLaw" (8 : Nat) "Twinphase") ∈ gtbl := gm 66 (by decide +kernel) rfl
theorem w_18 : (Jvm.Cond.instantiable "Twinphase" (6 : Nat)) ∈ gtbl := gm 67 (by decide +kernel) rfl
theorem w_19 : (Jvm.Cond.methodLink "TwinphaseLaw" (82 : Nat) ({ cls := "Twinphase", name := "<init>", desc := "()V" } : Jvm.MethodName)) ∈ gtbl := gm 68 (by decide +kernel) rfl
theorem w_20 : (Jvm.Cond.instanceMethod ({ cls := "Twinphase", name := "<init>", desc := "()V" } : Jvm.MethodName)) ∈ gtbl := gm 69 (by decide +kernel) rfl
theorem w_21 : (Jvm.Cond.code ({ cls := "Twinphase", name := "<init>", desc := "()V" } : Jvm.MethodName) prog_1_method_1_code (2 : Nat) (Option.none : Option Jvm.ClassFile.FieldType)) ∈ gtbl := gm 70 (by decide +kernel) rfl
theorem w_22 : (Jvm.Cond.methodLink "Twinphase" (1 : Nat) ({ cls := "java/lang/Object", name := "<init>", desc := "()V" } : Jvm.MethodName)) ∈ gtbl := gm 71 (by decide +kernel) rfl
theorem w_23 : (Jvm.Cond.instanceMethod ({ cls := "java/lang/Object", name := "<init>", desc := "()V" } : Jvm.MethodName)) ∈ gtbl := gm 72 (by decide +kernel) rfl
theorem w_24 : (Jvm.Cond.code ({ cls := "java/lang/Object", name := "<init>", desc := "()V" } : Jvm.MethodName) object_method_1_code (1 : Nat) (Option.none : Option Jvm.ClassFile.FieldType)) ∈ gtbl := gm 73 (by decide +kernel) rfl
theorem w_25 : (Jvm.Cond.classLink "Twinphase" (9 : Nat) "Twinphase$Node") ∈ gtbl := gm 74 (by decide +kernel) rfl
theorem w_27 : (Jvm.Cond.classLink "Twinphase" (15 : Nat) "Twinphase$Cell") ∈ gtbl := gm 76 (by decide +kernel) rfl
theorem w_29 : (Jvm.Cond.classLink "Twinphase" (21 : Nat) "Twinphase$Transaction") ∈ gtbl := gm 78 (by decide +kernel) rfl
theorem w_31 : (Jvm.Cond.classLink "Twinphase" (27 : Nat) "Twinphase$History") ∈ gtbl := gm 80 (by decide +kernel) rfl
theorem w_32 : (Jvm.Cond.instantiable "Twinphase$History" (6 : Nat)) ∈ gtbl := gm 81 (by decide +kernel) rfl
theorem w_34 : (Jvm.Cond.instanceMethod ({ cls := "Twinphase$History", name := "<init>", desc := "()V" } : Jvm.MethodName)) ∈ gtbl := gm 83 (by decide +kernel) rfl
theorem w_35 : (Jvm.Cond.code ({ cls := "Twinphase$History", name := "<init>", desc := "()V" } : Jvm.MethodName) prog_3_method_1_code (1 : Nat) (Option.none : Option Jvm.ClassFile.FieldType)) ∈ gtbl := gm 84 (by decide +kernel) rfl
theorem w_36 : (Jvm.Cond.methodLink "Twinphase$History" (3 : Nat) ({ cls := "java/lang/Object", name := "<init>", desc := "()V" } : Jvm.MethodName)) ∈ gtbl := gm 85 (by decide +kernel) rfl
theorem w_37 : (Jvm.Cond.classLink "Twinphase$History" (18 : Nat) "Twinphase$Transaction") ∈ gtbl := gm 86 (by decide +kernel) rfl
theorem w_38 : (Jvm.Cond.fieldLink "Twinphase$History" (9 : Nat) "Twinphase$History" "changes" "[I") ∈ gtbl := gm 87 (by decide +kernel) rfl
theorem w_39 : (Jvm.Cond.fieldLink "Twinphase$History" (15 : Nat) "Twinphase$History" "values" "[I") ∈ gtbl := gm 88 (by decide +kernel) rfl
theorem w_40 : (Jvm.Cond.fieldLink "Twinphase$History" (27 : Nat) "Twinphase$History" "count" "I") ∈ gtbl := gm 89 (by decide +kernel) rfl
theorem w_41 : (Jvm.Cond.fieldLink "Twinphase$History" (20 : Nat) "Twinphase$History" "inOrder" "[LTwinphase$Transaction;") ∈ gtbl := gm 90 (by decide +kernel) rfl
theorem w_42 : (Jvm.Cond.fieldLink "Twinphase$History" (41 : Nat) "Twinphase$History" "committed" "I") ∈ gtbl := gm 91 (by decide +kernel) rfl
theorem w_43 : (Jvm.Cond.fieldLink "Twinphase$History" (24 : Nat) "Twinphase$History" "redone" "[I") ∈ gtbl := gm 92 (by decide +kernel) rfl
theorem w_56 : (Jvm.Cond.superclass "Twinphase$History" "java/lang/Object") ∈ gtbl := gm 105 (by decide +kernel) rfl
theorem w_57 : (Jvm.Cond.arrayClass Jvm.ClassFile.FieldType.int) ∈ gtbl := gm 106 (by decide +kernel) rfl
theorem w_58 : (Jvm.Cond.instantiable "Twinphase$Node" (3 : Nat)) ∈ gtbl := gm 107 (by decide +kernel) rfl
theorem w_60 : (Jvm.Cond.instanceMethod ({ cls := "Twinphase$Node", name := "<init>", desc := "()V" } : Jvm.MethodName)) ∈ gtbl := gm 109 (by decide +kernel) rfl
theorem w_61 : (Jvm.Cond.code ({ cls := "Twinphase$Node", name := "<init>", desc := "()V" } : Jvm.MethodName) prog_4_method_1_code (1 : Nat) (Option.none : Option Jvm.ClassFile.FieldType)) ∈ gtbl := gm 110 (by decide +kernel) rfl
theorem w_62 : (Jvm.Cond.methodLink "Twinphase$Node" (3 : Nat) ({ cls := "java/lang/Object", name := "<init>", desc := "()V" } : Jvm.MethodName)) ∈ gtbl := gm 111 (by decide +kernel) rfl
theorem w_63 : (Jvm.Cond.fieldLink "Twinphase$Node" (9 : Nat) "Twinphase$Node" "ahead" "I") ∈ gtbl := gm 112 (by decide +kernel) rfl
theorem w_64 : (Jvm.Cond.fieldLink "Twinphase" (62 : Nat) "Twinphase$Node" "ahead" "I") ∈ gtbl := gm 113 (by decide +kernel) rfl
theorem w_65 : (Jvm.Cond.fieldLink "Twinphase$Node" (15 : Nat) "Twinphase$Node" "greatestMet" "I") ∈ gtbl := gm 114 (by decide +kernel) rfl
theorem w_66 : (Jvm.Cond.fieldLink "Twinphase" (76 : Nat) "Twinphase$Node" "isDown" "Z") ∈ gtbl := gm 115 (by decide +kernel) rfl
theorem w_73 : (Jvm.Cond.superclass "Twinphase$Node" "java/lang/Object") ∈ gtbl := gm 122 (by decide +kernel) rfl
theorem w_74 : (Jvm.Cond.instantiable "Twinphase$Cell" (6 : Nat)) ∈ gtbl := gm 123 (by decide +kernel) rfl
theorem w_76 : (Jvm.Cond.instanceMethod ({ cls := "Twinphase$Cell", name := "<init>", desc := "()V" } : Jvm.MethodName)) ∈ gtbl := gm 125 (by decide +kernel) rfl
theorem w_77 : (Jvm.Cond.code ({ cls := "Twinphase$Cell", name := "<init>", desc := "()V" } : Jvm.MethodName) prog_2_method_1_code (1 : Nat) (Option.none : Option Jvm.ClassFile.FieldType)) ∈ gtbl := gm 126 (by decide +kernel) rfl
theorem w_78 : (Jvm.Cond.methodLink "Twinphase$Cell" (3 : Nat) ({ cls := "java/lang/Object", name := "<init>", desc := "()V" } : Jvm.MethodName)) ∈ gtbl := gm 127 (by decide +kernel) rfl
theorem w_79 : (Jvm.Cond.fieldLink "Twinphase" (79 : Nat) "Twinphase$Cell" "node" "I") ∈ gtbl := gm 128 (by decide +kernel) rfl
theorem w_80 : (Jvm.Cond.fieldLink "Twinphase" (36 : Nat) "Twinphase$Cell" "beginsRange" "Z") ∈ gtbl := gm 129 (by decide +kernel) rfl
theorem w_81 : (Jvm.Cond.fieldLink "Twinphase" (82 : Nat) "Twinphase$Cell" "owner" "LTwinphase$Transaction;") ∈ gtbl := gm 130 (by decide +kernel) rfl
theorem w_82 : (Jvm.Cond.fieldLink "Twinphase" (86 : Nat) "Twinphase$Cell" "isSure" "Z") ∈ gtbl := gm 131 (by decide +kernel) rfl
theorem w_83 : (Jvm.Cond.fieldLink "Twinphase$Cell" (15 : Nat) "Twinphase$Cell" "readStamp" "I") ∈ gtbl := gm 132 (by decide +kernel) rfl
theorem w_84 : (Jvm.Cond.fieldLink "Twinphase" (217 : Nat) "Twinphase$Cell" "readStamp" "I") ∈ gtbl := gm 133 (by decide +kernel) rfl
theorem w_85 : (Jvm.Cond.fieldLink "Twinphase$Cell" (9 : Nat) "Twinphase$Cell" "readBy" "I") ∈ gtbl := gm 134 (by decide +kernel) rfl
theorem w_86 : (Jvm.Cond.fieldLink "Twinphase" (218 : Nat) "Twinphase$Cell" "readBy" "I") ∈ gtbl := gm 135 (by decide +kernel) rfl
theorem w_99 : (Jvm.Cond.superclass "Twinphase$Cell" "java/lang/Object") ∈ gtbl := gm 148 (by decide +kernel) rfl
theorem w_100 : (Jvm.Cond.fieldLink "Twinphase" (47 : Nat) "Twinphase" "time" "I") ∈ gtbl := gm 149 (by decide +kernel) rfl
theorem w_101 : (Jvm.Cond.fieldLink "Twinphase" (11 : Nat) "Twinphase" "nodes" "[LTwinphase$Node;") ∈ gtbl := gm 150 (by decide +kernel) rfl
theorem w_102 : (Jvm.Cond.fieldLink "Twinphase" (17 : Nat) "Twinphase" "cells" "[LTwinphase$Cell;") ∈ gtbl := gm 151 (by decide +kernel) rfl
theorem w_103 : (Jvm.Cond.fieldLink "Twinphase" (23 : Nat) "Twinphase" "transactions" "[LTwinphase$Transaction;") ∈ gtbl := gm 152 (by decide +kernel) rfl
theorem w_104 : (Jvm.Cond.fieldLink "Twinphase" (115 : Nat) "Twinphase" "begun" "I") ∈ gtbl := gm 153 (by decide +kernel) rfl
theorem w_105 : (Jvm.Cond.fieldLink "Twinphase" (30 : Nat) "Twinphase" "history" "LTwinphase$History;") ∈ gtbl := gm 154 (by decide +kernel) rfl
theorem w_118 : (Jvm.Cond.superclass "Twinphase" "java/lang/Object") ∈ gtbl := gm 167 (by decide +kernel) rfl
theorem w_119 : (Jvm.Cond.methodLink "TwinphaseLaw" (103 : Nat) ({ cls := "Twinphase", name := "closed", desc := "()I" } : Jvm.MethodName)) ∈ gtbl := gm 168 (by decide +kernel) rfl
theorem w_120 : (Jvm.Cond.instanceMethod ({ cls := "Twinphase", name := "closed", desc := "()I" } : Jvm.MethodName)) ∈ gtbl := gm 169 (by decide +kernel) rfl
theorem w_121 : (Jvm.Cond.selects "Twinphase" ({ cls := "Twinphase", name := "closed", desc := "()I" } : Jvm.MethodName) ({ cls := "Twinphase", name := "closed", desc := "()I" } : Jvm.MethodName)) ∈ gtbl := gm 170 (by decide +kernel) rfl
theorem w_122 : (Jvm.Cond.code ({ cls := "Twinphase", name := "closed", desc := "()I" } : Jvm.MethodName) prog_1_method_5_code (1 : Nat) (Option.some Jvm.ClassFile.FieldType.int)) ∈ gtbl := gm 171 (by decide +kernel) rfl
theorem w_123 : (Jvm.Cond.methodLink "Twinphase" (72 : Nat) ({ cls := "Twinphase", name := "closedStamp", desc := "()I" } : Jvm.MethodName)) ∈ gtbl := gm 172 (by decide +kernel) rfl
theorem w_125 : (Jvm.Cond.instanceMethod ({ cls := "Twinphase", name := "closedStamp", desc := "()I" } : Jvm.MethodName)) ∈ gtbl := gm 174 (by decide +kernel) rfl
theorem w_126 : (Jvm.Cond.code ({ cls := "Twinphase", name := "closedStamp", desc := "()I" } : Jvm.MethodName) prog_1_method_32_code (1 : Nat) (Option.some Jvm.ClassFile.FieldType.int)) ∈ gtbl := gm 175 (by decide +kernel) rfl
theorem w_127 : (Jvm.Cond.methodLink "Twinphase" (166 : Nat) ({ cls := "java/lang/Math", name := "max", desc := "(II)I" } : Jvm.MethodName)) ∈ gtbl := gm 176 (by decide +kernel) rfl
theorem w_128 : (Jvm.Cond.static ({ cls := "java/lang/Math", name := "max", desc := "(II)I" } : Jvm.MethodName)) ∈ gtbl := gm 177 (by decide +kernel) rfl
theorem w_129 : (Jvm.Cond.code ({ cls := "java/lang/Math", name := "max", desc := "(II)I" } : Jvm.MethodName) prog_14_method_65_code (2 : Nat) (Option.some Jvm.ClassFile.FieldType.int)) ∈ gtbl := gm 178 (by decide +kernel) rfl
theorem w_130 : (Jvm.Cond.methodLink "TwinphaseLaw" (157 : Nat) ({ cls := "Twinphase", name := "resolved", desc := "()I" } : Jvm.MethodName)) ∈ gtbl := gm 179 (by decide +kernel) rfl
theorem w_131 : (Jvm.Cond.instanceMethod ({ cls := "Twinphase", name := "resolved", desc := "()I" } : Jvm.MethodName)) ∈ gtbl := gm 180 (by decide +kernel) rfl
theorem w_132 : (Jvm.Cond.selects "Twinphase" ({ cls := "Twinphase", name := "resolved", desc := "()I" } : Jvm.MethodName) ({ cls := "Twinphase", name := "resolved", desc := "()I" } : Jvm.MethodName)) ∈ gtbl := gm 181 (by decide +kernel) rfl
theorem w_133 : (Jvm.Cond.code ({ cls := "Twinphase", name := "resolved", desc := "()I" } : Jvm.MethodName) prog_1_method_22_code (1 : Nat) (Option.some Jvm.ClassFile.FieldType.int)) ∈ gtbl := gm 182 (by decide +kernel) rfl
theorem w_134 : (Jvm.Cond.methodLink "Twinphase" (226 : Nat) ({ cls := "Twinphase", name := "resolvedStamp", desc := "()I" } : Jvm.MethodName)) ∈ gtbl := gm 183 (by decide +kernel) rfl
theorem w_136 : (Jvm.Cond.instanceMethod ({ cls := "Twinphase", name := "resolvedStamp", desc := "()I" } : Jvm.MethodName)) ∈ gtbl := gm 185 (by decide +kernel) rfl
theorem w_137 : (Jvm.Cond.code ({ cls := "Twinphase", name := "resolvedStamp", desc := "()I" } : Jvm.MethodName) prog_1_method_33_code (3 : Nat) (Option.some Jvm.ClassFile.FieldType.int)) ∈ gtbl := gm 186 (by decide +kernel) rfl
theorem w_138 : (Jvm.Cond.methodLink "Twinphase" (254 : Nat) ({ cls := "java/lang/Math", name := "min", desc := "(II)I" } : Jvm.MethodName)) ∈ gtbl := gm 187 (by decide +kernel) rfl
theorem w_139 : (Jvm.Cond.static ({ cls := "java/lang/Math", name := "min", desc := "(II)I" } : Jvm.MethodName)) ∈ gtbl := gm 188 (by decide +kernel) rfl
theorem w_140 : (Jvm.Cond.code ({ cls := "java/lang/Math", name := "min", desc := "(II)I" } : Jvm.MethodName) prog_14_method_69_code (2 : Nat) (Option.some Jvm.ClassFile.FieldType.int)) ∈ gtbl := gm 189 (by decide +kernel) rfl
theorem w_141 : (Jvm.Cond.methodLink "TwinphaseLaw" (167 : Nat) ({ cls := "Twinphase", name := "judged", desc := "()I" } : Jvm.MethodName)) ∈ gtbl := gm 190 (by decide +kernel) rfl
theorem w_142 : (Jvm.Cond.instanceMethod ({ cls := "Twinphase", name := "judged", desc := "()I" } : Jvm.MethodName)) ∈ gtbl := gm 191 (by decide +kernel) rfl
theorem w_143 : (Jvm.Cond.selects "Twinphase" ({ cls := "Twinphase", name := "judged", desc := "()I" } : Jvm.MethodName) ({ cls := "Twinphase", name := "judged", desc := "()I" } : Jvm.MethodName)) ∈ gtbl := gm 192 (by decide +kernel) rfl
theorem w_144 : (Jvm.Cond.code ({ cls := "Twinphase", name := "judged", desc := "()I" } : Jvm.MethodName) prog_1_method_25_code (1 : Nat) (Option.some Jvm.ClassFile.FieldType.int)) ∈ gtbl := gm 193 (by decide +kernel) rfl
theorem w_145 : (Jvm.Cond.methodLink "Twinphase" (239 : Nat) ({ cls := "Twinphase$History", name := "countUnexplained", desc := "()I" } : Jvm.MethodName)) ∈ gtbl := gm 194 (by decide +kernel) rfl
theorem w_146 : (Jvm.Cond.instanceMethod ({ cls := "Twinphase$History", name := "countUnexplained", desc := "()I" } : Jvm.MethodName)) ∈ gtbl := gm 195 (by decide +kernel) rfl
theorem w_147 : (Jvm.Cond.selects "Twinphase$History" ({ cls := "Twinphase$History", name := "countUnexplained", desc := "()I" } : Jvm.MethodName) ({ cls := "Twinphase$History", name := "countUnexplained", desc := "()I" } : Jvm.MethodName)) ∈ gtbl := gm 196 (by decide +kernel) rfl
theorem w_148 : (Jvm.Cond.code ({ cls := "Twinphase$History", name := "countUnexplained", desc := "()I" } : Jvm.MethodName) prog_3_method_10_code (3 : Nat) (Option.some Jvm.ClassFile.FieldType.int)) ∈ gtbl := gm 197 (by decide +kernel) rfl
theorem w_149 : (Jvm.Cond.methodLink "Twinphase$History" (47 : Nat) ({ cls := "java/util/Arrays", name := "fill", desc := "([II)V" } : Jvm.MethodName)) ∈ gtbl := gm 198 (by decide +kernel) rfl
theorem w_150 : (Jvm.Cond.static ({ cls := "java/util/Arrays", name := "fill", desc := "([II)V" } : Jvm.MethodName)) ∈ gtbl := gm 199 (by decide +kernel) rfl
theorem w_151 : (Jvm.Cond.code ({ cls := "java/util/Arrays", name := "fill", desc := "([II)V" } : Jvm.MethodName) prog_19_method_103_code (4 : Nat) (Option.none : Option Jvm.ClassFile.FieldType)) ∈ gtbl := gm 200 (by decide +kernel) rfl
theorem w_152 : (Jvm.Cond.methodLink "Twinphase$History" (51 : Nat) ({ cls := "Twinphase$History", name := "redo", desc := "(LTwinphase$Transaction;)I" } : Jvm.MethodName)) ∈ gtbl := gm 201 (by decide +kernel) rfl
theorem w_153 : (Jvm.Cond.instanceMethod ({ cls := "Twinphase$History", name := "redo", desc := "(LTwinphase$Transaction;)I" } : Jvm.MethodName)) ∈ gtbl := gm 202 (by decide +kernel) rfl
theorem w_154 : (Jvm.Cond.selects "Twinphase$History" ({ cls := "Twinphase$History", name := "redo", desc := "(LTwinphase$Transaction;)I" } : Jvm.MethodName) ({ cls := "Twinphase$History", name := "redo", desc := "(LTwinphase$Transaction;)I" } : Jvm.MethodName)) ∈ gtbl := gm 203 (by decide +kernel) rfl
theorem w_155 : (Jvm.Cond.code ({ cls := "Twinphase$History", name := "redo", desc := "(LTwinphase$Transaction;)I" } : Jvm.MethodName) prog_3_method_11_code (4 : Nat) (Option.some Jvm.ClassFile.FieldType.int)) ∈ gtbl := gm 204 (by decide +kernel) rfl
theorem w_156 : (Jvm.Cond.methodLink "Twinphase$History" (55 : Nat) ({ cls := "Twinphase$Transaction", name := "hasRead", desc := "(I)Z" } : Jvm.MethodName)) ∈ gtbl := gm 205 (by decide +kernel) rfl
theorem w_157 : (Jvm.Cond.instanceMethod ({ cls := "Twinphase$Transaction", name := "hasRead", desc := "(I)Z" } : Jvm.MethodName)) ∈ gtbl := gm 206 (by decide +kernel) rfl
theorem w_158 : (Jvm.Cond.selects "Twinphase$Transaction" ({ cls := "Twinphase$Transaction", name := "hasRead", desc := "(I)Z" } : Jvm.MethodName) ({ cls := "Twinphase$Transaction", name := "hasRead", desc := "(I)Z" } : Jvm.MethodName)) ∈ gtbl := gm 207 (by decide +kernel) rfl
theorem w_159 : (Jvm.Cond.code ({ cls := "Twinphase$Transaction", name := "hasRead", desc := "(I)Z" } : Jvm.MethodName) prog_5_method_7_code (2 : Nat) (Option.some Jvm.ClassFile.FieldType.boolean)) ∈ gtbl := gm 208 (by decide +kernel) rfl
theorem w_160 : (Jvm.Cond.methodLink "Twinphase$History" (62 : Nat) ({ cls := "Twinphase$Transaction", name := "writes", desc := "(I)Z" } : Jvm.MethodName)) ∈ gtbl := gm 209 (by decide +kernel) rfl
theorem w_161 : (Jvm.Cond.instanceMethod ({ cls := "Twinphase$Transaction", name := "writes", desc := "(I)Z" } : Jvm.MethodName)) ∈ gtbl := gm 210 (by decide +kernel) rfl
theorem w_162 : (Jvm.Cond.selects "Twinphase$Transaction" ({ cls := "Twinphase$Transaction", name := "writes", desc := "(I)Z" } : Jvm.MethodName) ({ cls := "Twinphase$Transaction", name := "writes", desc := "(I)Z" } : Jvm.MethodName)) ∈ gtbl := gm 211 (by decide +kernel) rfl
theorem w_163 : (Jvm.Cond.code ({ cls := "Twinphase$Transaction", name := "writes", desc := "(I)Z" } : Jvm.MethodName) prog_5_method_9_code (2 : Nat) (Option.some Jvm.ClassFile.FieldType.boolean)) ∈ gtbl := gm 212 (by decide +kernel) rfl
theorem w_164 : (Jvm.Cond.methodLink "TwinphaseLaw" (86 : Nat) ({ cls := "TwinphaseLaw", name := "pass", desc := "(LTwinphase;I[J)I" } : Jvm.MethodName)) ∈ gtbl := gm 213 (by decide +kernel) rfl
theorem w_165 : (Jvm.Cond.static ({ cls := "TwinphaseLaw", name := "pass", desc := "(LTwinphase;I[J)I" } : Jvm.MethodName)) ∈ gtbl := gm 214 (by decide +kernel) rfl
theorem w_166 : (Jvm.Cond.codeWith ({ cls := "TwinphaseLaw", name := "pass", desc := "(LTwinphase;I[J)I" } : Jvm.MethodName) method_3_code (4 : Nat) (Option.some Jvm.ClassFile.FieldType.int) [((0 : Nat), (9 : Nat), (12 : Nat), (13 : Nat)), ((0 : Nat), (9 : Nat), (15 : Nat), (15 : Nat))]) ∈ gtbl := gm 215 (by decide +kernel) rfl
theorem w_167 : (Jvm.Cond.classLink "TwinphaseLaw" (13 : Nat) "java/lang/IllegalArgumentException") ∈ gtbl := gm 216 (by decide +kernel) rfl
theorem w_168 : (Jvm.Cond.classLink "TwinphaseLaw" (15 : Nat) "java/lang/IllegalStateException") ∈ gtbl := gm 217 (by decide +kernel) rfl
theorem w_169 : (Jvm.Cond.methodLink "TwinphaseLaw" (7 : Nat) ({ cls := "Twinphase", name := "pass", desc := "(I)I" } : Jvm.MethodName)) ∈ gtbl := gm 218 (by decide +kernel) rfl
theorem w_170 : (Jvm.Cond.instanceMethod ({ cls := "Twinphase", name := "pass", desc := "(I)I" } : Jvm.MethodName)) ∈ gtbl := gm 219 (by decide +kernel) rfl
theorem w_171 : (Jvm.Cond.selects "Twinphase" ({ cls := "Twinphase", name := "pass", desc := "(I)I" } : Jvm.MethodName) ({ cls := "Twinphase", name := "pass", desc := "(I)I" } : Jvm.MethodName)) ∈ gtbl := gm 220 (by decide +kernel) rfl
theorem w_172 : (Jvm.Cond.code ({ cls := "Twinphase", name := "pass", desc := "(I)I" } : Jvm.MethodName) prog_1_method_2_code (2 : Nat) (Option.some Jvm.ClassFile.FieldType.int)) ∈ gtbl := gm 221 (by decide +kernel) rfl
theorem w_173 : (Jvm.Cond.classLink "Twinphase" (40 : Nat) "java/lang/IllegalArgumentException") ∈ gtbl := gm 222 (by decide +kernel) rfl
theorem w_174 : (Jvm.Cond.instantiable "java/lang/IllegalArgumentException" (6 : Nat)) ∈ gtbl := gm 223 (by decide +kernel) rfl
theorem w_182 : (Jvm.Cond.selects "java/lang/IllegalArgumentException" ({ cls := "java/lang/Throwable", name := "fillInStackTrace", desc := "(I)Ljava/lang/Throwable;" } : Jvm.MethodName) ({ cls := "java/lang/Throwable", name := "fillInStackTrace", desc := "(I)Ljava/lang/Throwable;" } : Jvm.MethodName)) ∈ gtbl := gm 231 (by decide +kernel) rfl
theorem w_183 : (Jvm.Cond.selects "java/lang/IllegalArgumentException" ({ cls := "java/lang/Throwable", name := "fillInStackTrace", desc := "()Ljava/lang/Throwable;" } : Jvm.MethodName) ({ cls := "java/lang/Throwable", name := "fillInStackTrace", desc := "()Ljava/lang/Throwable;" } : Jvm.MethodName)) ∈ gtbl := gm 232 (by decide +kernel) rfl
theorem w_194 : (Jvm.Cond.fieldLink "java/lang/Throwable" (198 : Nat) "java/lang/Throwable" "backtrace" "Ljava/lang/Object;") ∈ gtbl := gm 243 (by decide +kernel) rfl
theorem w_195 : (Jvm.Cond.superclass "java/lang/Throwable" "java/lang/Object") ∈ gtbl := gm 244 (by decide +kernel) rfl
theorem w_196 : (Jvm.Cond.instanceMethod ({ cls := "java/lang/Throwable", name := "<init>", desc := "()V" } : Jvm.MethodName)) ∈ gtbl := gm 245 (by decide +kernel) rfl
theorem w_197 : (Jvm.Cond.code ({ cls := "java/lang/Throwable", name := "<init>", desc := "()V" } : Jvm.MethodName) prog_18_method_1_code (1 : Nat) (Option.none : Option Jvm.ClassFile.FieldType)) ∈ gtbl := gm 246 (by decide +kernel) rfl
theorem w_198 : (Jvm.Cond.methodLink "java/lang/Throwable" (1 : Nat) ({ cls := "java/lang/Object", name := "<init>", desc := "()V" } : Jvm.MethodName)) ∈ gtbl := gm 247 (by decide +kernel) rfl
theorem w_199 : (Jvm.Cond.fieldLink "java/lang/Throwable" (13 : Nat) "java/lang/Throwable" "UNASSIGNED_STACK" "[Ljava/lang/StackTraceElement;") ∈ gtbl := gm 248 (by decide +kernel) rfl
theorem w_201 : (Jvm.Cond.fieldLink "java/lang/Throwable" (20 : Nat) "java/lang/Throwable" "SUPPRESSED_SENTINEL" "Ljava/util/List;") ∈ gtbl := gm 250 (by decide +kernel) rfl
theorem w_203 : (Jvm.Cond.methodLink "java/lang/Throwable" (27 : Nat) ({ cls := "java/lang/Throwable", name := "fillInStackTrace", desc := "()Ljava/lang/Throwable;" } : Jvm.MethodName)) ∈ gtbl := gm 252 (by decide +kernel) rfl
theorem w_204 : (Jvm.Cond.instanceMethod ({ cls := "java/lang/Throwable", name := "fillInStackTrace", desc := "()Ljava/lang/Throwable;" } : Jvm.MethodName)) ∈ gtbl := gm 253 (by decide +kernel) rfl
theorem w_205 : (Jvm.Cond.sameMethod "java/lang/Throwable" "java/lang/Throwable" "fillInStackTrace" "()Ljava/lang/Throwable;") ∈ gtbl := gm 254 (by decide +kernel) rfl
theorem w_206 : (Jvm.Cond.selects "java/lang/IllegalStateException" ({ cls := "java/lang/Throwable", name := "fillInStackTrace", desc := "()Ljava/lang/Throwable;" } : Jvm.MethodName) ({ cls := "java/lang/Throwable", name := "fillInStackTrace", desc := "()Ljava/lang/Throwable;" } : Jvm.MethodName)) ∈ gtbl := gm 255 (by decide +kernel) rfl
theorem w_207 : (Jvm.Cond.selects "java/lang/IndexOutOfBoundsException" ({ cls := "java/lang/Throwable", name := "fillInStackTrace", desc := "()Ljava/lang/Throwable;" } : Jvm.MethodName) ({ cls := "java/lang/Throwable", name := "fillInStackTrace", desc := "()Ljava/lang/Throwable;" } : Jvm.MethodName)) ∈ gtbl := gm 256 (by decide +kernel) rfl
theorem w_209 : (Jvm.Cond.methodLink "java/lang/Throwable" (202 : Nat) ({ cls := "java/lang/Throwable", name := "fillInStackTrace", desc := "(I)Ljava/lang/Throwable;" } : Jvm.MethodName)) ∈ gtbl := gm 258 (by decide +kernel) rfl
theorem w_211 : (Jvm.Cond.instanceMethod ({ cls := "java/lang/Throwable", name := "fillInStackTrace", desc := "(I)Ljava/lang/Throwable;" } : Jvm.MethodName)) ∈ gtbl := gm 260 (by decide +kernel) rfl
theorem w_212 : (Jvm.Cond.instantiable "java/lang/Throwable" (6 : Nat)) ∈ gtbl := gm 261 (by decide +kernel) rfl
theorem w_213 : (Jvm.Cond.native ({ cls := "java/lang/Throwable", name := "fillInStackTrace", desc := "(I)Ljava/lang/Throwable;" } : Jvm.MethodName)) ∈ gtbl := gm 262 (by decide +kernel) rfl
theorem w_215 : (Jvm.Cond.methodLink "Twinphase" (44 : Nat) ({ cls := "java/lang/IllegalArgumentException", name := "<init>", desc := "(Ljava/lang/String;)V" } : Jvm.MethodName)) ∈ gtbl := gm 264 (by decide +kernel) rfl
theorem w_216 : (Jvm.Cond.instanceMethod ({ cls := "java/lang/IllegalArgumentException", name := "<init>", desc := "(Ljava/lang/String;)V" } : Jvm.MethodName)) ∈ gtbl := gm 265 (by decide +kernel) rfl
theorem w_217 : (Jvm.Cond.code ({ cls := "java/lang/IllegalArgumentException", name := "<init>", desc := "(Ljava/lang/String;)V" } : Jvm.MethodName) prog_10_method_2_code (2 : Nat) (Option.none : Option Jvm.ClassFile.FieldType)) ∈ gtbl := gm 266 (by decide +kernel) rfl
theorem w_218 : (Jvm.Cond.methodLink "java/lang/IllegalArgumentException" (7 : Nat) ({ cls := "java/lang/RuntimeException", name := "<init>", desc := "(Ljava/lang/String;)V" } : Jvm.MethodName)) ∈ gtbl := gm 267 (by decide +kernel) rfl
theorem w_219 : (Jvm.Cond.instanceMethod ({ cls := "java/lang/RuntimeException", name := "<init>", desc := "(Ljava/lang/String;)V" } : Jvm.MethodName)) ∈ gtbl := gm 268 (by decide +kernel) rfl
theorem w_220 : (Jvm.Cond.code ({ cls := "java/lang/RuntimeException", name := "<init>", desc := "(Ljava/lang/String;)V" } : Jvm.MethodName) prog_15_method_2_code (2 : Nat) (Option.none : Option Jvm.ClassFile.FieldType)) ∈ gtbl := gm 269 (by decide +kernel) rfl
theorem w_221 : (Jvm.Cond.methodLink "java/lang/RuntimeException" (7 : Nat) ({ cls := "java/lang/Exception", name := "<init>", desc := "(Ljava/lang/String;)V" } : Jvm.MethodName)) ∈ gtbl := gm 270 (by decide +kernel) rfl
theorem w_222 : (Jvm.Cond.instanceMethod ({ cls := "java/lang/Exception", name := "<init>", desc := "(Ljava/lang/String;)V" } : Jvm.MethodName)) ∈ gtbl := gm 271 (by decide +kernel) rfl
theorem w_223 : (Jvm.Cond.code ({ cls := "java/lang/Exception", name := "<init>", desc := "(Ljava/lang/String;)V" } : Jvm.MethodName) prog_9_method_2_code (2 : Nat) (Option.none : Option Jvm.ClassFile.FieldType)) ∈ gtbl := gm 272 (by decide +kernel) rfl
theorem w_224 : (Jvm.Cond.methodLink "java/lang/Exception" (7 : Nat) ({ cls := "java/lang/Throwable", name := "<init>", desc := "(Ljava/lang/String;)V" } : Jvm.MethodName)) ∈ gtbl := gm 273 (by decide +kernel) rfl
theorem w_225 : (Jvm.Cond.instanceMethod ({ cls := "java/lang/Throwable", name := "<init>", desc := "(Ljava/lang/String;)V" } : Jvm.MethodName)) ∈ gtbl := gm 274 (by decide +kernel) rfl
theorem w_226 : (Jvm.Cond.code ({ cls := "java/lang/Throwable", name := "<init>", desc := "(Ljava/lang/String;)V" } : Jvm.MethodName) prog_18_method_2_code (2 : Nat) (Option.none : Option Jvm.ClassFile.FieldType)) ∈ gtbl := gm 275 (by decide +kernel) rfl
theorem w_227 : (Jvm.Cond.fieldLink "java/lang/Throwable" (198 : Nat) "java/lang/Throwable" "backtrace" "Ljava/lang/Object;") ∈ gtbl := gm 276 (by decide +kernel) rfl
theorem w_228 : (Jvm.Cond.fieldLink "java/lang/Throwable" (31 : Nat) "java/lang/Throwable" "detailMessage" "Ljava/lang/String;") ∈ gtbl := gm 277 (by decide +kernel) rfl
theorem w_229 : (Jvm.Cond.fieldLink "java/lang/Throwable" (7 : Nat) "java/lang/Throwable" "cause" "Ljava/lang/Throwable;") ∈ gtbl := gm 278 (by decide +kernel) rfl
theorem w_230 : (Jvm.Cond.fieldLink "java/lang/Throwable" (17 : Nat) "java/lang/Throwable" "stackTrace" "[Ljava/lang/StackTraceElement;") ∈ gtbl := gm 279 (by decide +kernel) rfl
theorem w_231 : (Jvm.Cond.fieldLink "java/lang/Throwable" (24 : Nat) "java/lang/Throwable" "suppressedExceptions" "Ljava/util/List;") ∈ gtbl := gm 280 (by decide +kernel) rfl
theorem w_239 : (Jvm.Cond.superclass "java/lang/IllegalArgumentException" "java/lang/RuntimeException") ∈ gtbl := gm 288 (by decide +kernel) rfl
theorem w_240 : (Jvm.Cond.arrayClass Jvm.ClassFile.FieldType.byte) ∈ gtbl := gm 289 (by decide +kernel) rfl
theorem w_241 : (Jvm.Cond.classLink "Twinphase" (51 : Nat) "java/lang/IllegalStateException") ∈ gtbl := gm 290 (by decide +kernel) rfl
theorem w_242 : (Jvm.Cond.instantiable "java/lang/IllegalStateException" (6 : Nat)) ∈ gtbl := gm 291 (by decide +kernel) rfl
theorem w_244 : (Jvm.Cond.selects "java/lang/IllegalStateException" ({ cls := "java/lang/Throwable", name := "fillInStackTrace", desc := "(I)Ljava/lang/Throwable;" } : Jvm.MethodName) ({ cls := "java/lang/Throwable", name := "fillInStackTrace", desc := "(I)Ljava/lang/Throwable;" } : Jvm.MethodName)) ∈ gtbl := gm 293 (by decide +kernel) rfl
theorem w_251 : (Jvm.Cond.methodLink "Twinphase" (55 : Nat) ({ cls := "java/lang/IllegalStateException", name := "<init>", desc := "(Ljava/lang/String;)V" } : Jvm.MethodName)) ∈ gtbl := gm 300 (by decide +kernel) rfl
theorem w_252 : (Jvm.Cond.instanceMethod ({ cls := "java/lang/IllegalStateException", name := "<init>", desc := "(Ljava/lang/String;)V" } : Jvm.MethodName)) ∈ gtbl := gm 301 (by decide +kernel) rfl
theorem w_253 : (Jvm.Cond.code ({ cls := "java/lang/IllegalStateException", name := "<init>", desc := "(Ljava/lang/String;)V" } : Jvm.MethodName) prog_11_method_2_code (2 : Nat) (Option.none : Option Jvm.ClassFile.FieldType)) ∈ gtbl := gm 302 (by decide +kernel) rfl
theorem w_254 : (Jvm.Cond.methodLink "java/lang/IllegalStateException" (7 : Nat) ({ cls := "java/lang/RuntimeException", name := "<init>", desc := "(Ljava/lang/String;)V" } : Jvm.MethodName)) ∈ gtbl := gm 303 (by decide +kernel) rfl
theorem w_256 : (Jvm.Cond.superclass "java/lang/IllegalStateException" "java/lang/RuntimeException") ∈ gtbl := gm 305 (by decide +kernel) rfl
theorem w_257 : (Jvm.Cond.methodLink "TwinphaseLaw" (96 : Nat) ({ cls := "TwinphaseLaw", name := "skew", desc := "(LTwinphase;II[J)I" } : Jvm.MethodName)) ∈ gtbl := gm 306 (by decide +kernel) rfl
theorem w_258 : (Jvm.Cond.static ({ cls := "TwinphaseLaw", name := "skew", desc := "(LTwinphase;II[J)I" } : Jvm.MethodName)) ∈ gtbl := gm 307 (by decide +kernel) rfl
theorem w_259 : (Jvm.Cond.codeWith ({ cls := "TwinphaseLaw", name := "skew", desc := "(LTwinphase;II[J)I" } : Jvm.MethodName) method_4_code (5 : Nat) (Option.some Jvm.ClassFile.FieldType.int) [((0 : Nat), (10 : Nat), (13 : Nat), (21 : Nat)), ((0 : Nat), (10 : Nat), (17 : Nat), (13 : Nat))]) ∈ gtbl := gm 308 (by decide +kernel) rfl
theorem w_260 : (Jvm.Cond.classLink "TwinphaseLaw" (21 : Nat) "java/lang/IndexOutOfBoundsException") ∈ gtbl := gm 309 (by decide +kernel) rfl
theorem w_261 : (Jvm.Cond.methodLink "TwinphaseLaw" (17 : Nat) ({ cls := "Twinphase", name := "skew", desc := "(II)I" } : Jvm.MethodName)) ∈ gtbl := gm 310 (by decide +kernel) rfl
theorem w_262 : (Jvm.Cond.instanceMethod ({ cls := "Twinphase", name := "skew", desc := "(II)I" } : Jvm.MethodName)) ∈ gtbl := gm 311 (by decide +kernel) rfl
theorem w_263 : (Jvm.Cond.selects "Twinphase" ({ cls := "Twinphase", name := "skew", desc := "(II)I" } : Jvm.MethodName) ({ cls := "Twinphase", name := "skew", desc := "(II)I" } : Jvm.MethodName)) ∈ gtbl := gm 312 (by decide +kernel) rfl
theorem w_264 : (Jvm.Cond.code ({ cls := "Twinphase", name := "skew", desc := "(II)I" } : Jvm.MethodName) prog_1_method_3_code (4 : Nat) (Option.some Jvm.ClassFile.FieldType.int)) ∈ gtbl := gm 313 (by decide +kernel) rfl
theorem w_265 : (Jvm.Cond.methodLink "Twinphase" (56 : Nat) ({ cls := "Twinphase", name := "needNode", desc := "(I)V" } : Jvm.MethodName)) ∈ gtbl := gm 314 (by decide +kernel) rfl
theorem w_267 : (Jvm.Cond.instanceMethod ({ cls := "Twinphase", name := "needNode", desc := "(I)V" } : Jvm.MethodName)) ∈ gtbl := gm 316 (by decide +kernel) rfl
theorem w_268 : (Jvm.Cond.code ({ cls := "Twinphase", name := "needNode", desc := "(I)V" } : Jvm.MethodName) prog_1_method_26_code (2 : Nat) (Option.none : Option Jvm.ClassFile.FieldType)) ∈ gtbl := gm 317 (by decide +kernel) rfl
theorem w_269 : (Jvm.Cond.classLink "Twinphase" (94 : Nat) "java/lang/IndexOutOfBoundsException") ∈ gtbl := gm 318 (by decide +kernel) rfl
theorem w_270 : (Jvm.Cond.instantiable "java/lang/IndexOutOfBoundsException" (6 : Nat)) ∈ gtbl := gm 319 (by decide +kernel) rfl
theorem w_272 : (Jvm.Cond.selects "java/lang/IndexOutOfBoundsException" ({ cls := "java/lang/Throwable", name := "fillInStackTrace", desc := "(I)Ljava/lang/Throwable;" } : Jvm.MethodName) ({ cls := "java/lang/Throwable", name := "fillInStackTrace", desc := "(I)Ljava/lang/Throwable;" } : Jvm.MethodName)) ∈ gtbl := gm 321 (by decide +kernel) rfl
theorem w_279 : (Jvm.Cond.methodLink "Twinphase" (98 : Nat) ({ cls := "java/lang/IndexOutOfBoundsException", name := "<init>", desc := "(Ljava/lang/String;)V" } : Jvm.MethodName)) ∈ gtbl := gm 328 (by decide +kernel) rfl
theorem w_280 : (Jvm.Cond.instanceMethod ({ cls := "java/lang/IndexOutOfBoundsException", name := "<init>", desc := "(Ljava/lang/String;)V" } : Jvm.MethodName)) ∈ gtbl := gm 329 (by decide +kernel) rfl
theorem w_281 : (Jvm.Cond.code ({ cls := "java/lang/IndexOutOfBoundsException", name := "<init>", desc := "(Ljava/lang/String;)V" } : Jvm.MethodName) prog_12_method_2_code (2 : Nat) (Option.none : Option Jvm.ClassFile.FieldType)) ∈ gtbl := gm 330 (by decide +kernel) rfl
theorem w_282 : (Jvm.Cond.methodLink "java/lang/IndexOutOfBoundsException" (7 : Nat) ({ cls := "java/lang/RuntimeException", name := "<init>", desc := "(Ljava/lang/String;)V" } : Jvm.MethodName)) ∈ gtbl := gm 331 (by decide +kernel) rfl
theorem w_284 : (Jvm.Cond.superclass "java/lang/IndexOutOfBoundsException" "java/lang/RuntimeException") ∈ gtbl := gm 333 (by decide +kernel) rfl
theorem w_286 : (Jvm.Cond.methodLink "TwinphaseLaw" (100 : Nat) ({ cls := "TwinphaseLaw", name := "clock", desc := "(LTwinphase;I[J)I" } : Jvm.MethodName)) ∈ gtbl := gm 335 (by decide +kernel) rfl
theorem w_287 : (Jvm.Cond.static ({ cls := "TwinphaseLaw", name := "clock", desc := "(LTwinphase;I[J)I" } : Jvm.MethodName)) ∈ gtbl := gm 336 (by decide +kernel) rfl
theorem w_288 : (Jvm.Cond.codeWith ({ cls := "TwinphaseLaw", name := "clock", desc := "(LTwinphase;I[J)I" } : Jvm.MethodName) method_5_code (4 : Nat) (Option.some Jvm.ClassFile.FieldType.int) [((0 : Nat), (9 : Nat), (12 : Nat), (21 : Nat)), ((0 : Nat), (9 : Nat), (15 : Nat), (15 : Nat))]) ∈ gtbl := gm 337 (by decide +kernel) rfl
theorem w_289 : (Jvm.Cond.methodLink "TwinphaseLaw" (23 : Nat) ({ cls := "Twinphase", name := "clock", desc := "(I)I" } : Jvm.MethodName)) ∈ gtbl := gm 338 (by decide +kernel) rfl
theorem w_290 : (Jvm.Cond.instanceMethod ({ cls := "Twinphase", name := "clock", desc := "(I)I" } : Jvm.MethodName)) ∈ gtbl := gm 339 (by decide +kernel) rfl
theorem w_291 : (Jvm.Cond.selects "Twinphase" ({ cls := "Twinphase", name := "clock", desc := "(I)I" } : Jvm.MethodName) ({ cls := "Twinphase", name := "clock", desc := "(I)I" } : Jvm.MethodName)) ∈ gtbl := gm 340 (by decide +kernel) rfl
theorem w_292 : (Jvm.Cond.code ({ cls := "Twinphase", name := "clock", desc := "(I)I" } : Jvm.MethodName) prog_1_method_4_code (2 : Nat) (Option.some Jvm.ClassFile.FieldType.int)) ∈ gtbl := gm 341 (by decide +kernel) rfl
theorem w_293 : (Jvm.Cond.methodLink "Twinphase" (65 : Nat) ({ cls := "Twinphase", name := "needUp", desc := "(I)V" } : Jvm.MethodName)) ∈ gtbl := gm 342 (by decide +kernel) rfl
theorem w_295 : (Jvm.Cond.instanceMethod ({ cls := "Twinphase", name := "needUp", desc := "(I)V" } : Jvm.MethodName)) ∈ gtbl := gm 344 (by decide +kernel) rfl
theorem w_296 : (Jvm.Cond.code ({ cls := "Twinphase", name := "needUp", desc := "(I)V" } : Jvm.MethodName) prog_1_method_27_code (2 : Nat) (Option.none : Option Jvm.ClassFile.FieldType)) ∈ gtbl := gm 345 (by decide +kernel) rfl
theorem w_298 : (Jvm.Cond.methodLink "Twinphase" (68 : Nat) ({ cls := "Twinphase$Node", name := "tellStamp", desc := "(I)I" } : Jvm.MethodName)) ∈ gtbl := gm 347 (by decide +kernel) rfl
theorem w_299 : (Jvm.Cond.instanceMethod ({ cls := "Twinphase$Node", name := "tellStamp", desc := "(I)I" } : Jvm.MethodName)) ∈ gtbl := gm 348 (by decide +kernel) rfl
theorem w_300 : (Jvm.Cond.selects "Twinphase$Node" ({ cls := "Twinphase$Node", name := "tellStamp", desc := "(I)I" } : Jvm.MethodName) ({ cls := "Twinphase$Node", name := "tellStamp", desc := "(I)I" } : Jvm.MethodName)) ∈ gtbl := gm 349 (by decide +kernel) rfl
theorem w_301 : (Jvm.Cond.code ({ cls := "Twinphase$Node", name := "tellStamp", desc := "(I)I" } : Jvm.MethodName) prog_4_method_2_code (2 : Nat) (Option.some Jvm.ClassFile.FieldType.int)) ∈ gtbl := gm 350 (by decide +kernel) rfl
theorem w_302 : (Jvm.Cond.methodLink "Twinphase$Node" (18 : Nat) ({ cls := "java/lang/Math", name := "max", desc := "(II)I" } : Jvm.MethodName)) ∈ gtbl := gm 351 (by decide +kernel) rfl
theorem w_303 : (Jvm.Cond.methodLink "Twinphase$Node" (24 : Nat) ({ cls := "Twinphase$Node", name := "meetStamp", desc := "(I)V" } : Jvm.MethodName)) ∈ gtbl := gm 352 (by decide +kernel) rfl
theorem w_304 : (Jvm.Cond.instanceMethod ({ cls := "Twinphase$Node", name := "meetStamp", desc := "(I)V" } : Jvm.MethodName)) ∈ gtbl := gm 353 (by decide +kernel) rfl
theorem w_305 : (Jvm.Cond.selects "Twinphase$Node" ({ cls := "Twinphase$Node", name := "meetStamp", desc := "(I)V" } : Jvm.MethodName) ({ cls := "Twinphase$Node", name := "meetStamp", desc := "(I)V" } : Jvm.MethodName)) ∈ gtbl := gm 354 (by decide +kernel) rfl
theorem w_306 : (Jvm.Cond.code ({ cls := "Twinphase$Node", name := "meetStamp", desc := "(I)V" } : Jvm.MethodName) prog_4_method_3_code (2 : Nat) (Option.none : Option Jvm.ClassFile.FieldType)) ∈ gtbl := gm 355 (by decide +kernel) rfl
theorem w_307 : (Jvm.Cond.methodLink "TwinphaseLaw" (107 : Nat) ({ cls := "TwinphaseLaw", name := "down", desc := "(LTwinphase;I[J)I" } : Jvm.MethodName)) ∈ gtbl := gm 356 (by decide +kernel) rfl
theorem w_308 : (Jvm.Cond.static ({ cls := "TwinphaseLaw", name := "down", desc := "(LTwinphase;I[J)I" } : Jvm.MethodName)) ∈ gtbl := gm 357 (by decide +kernel) rfl
theorem w_309 : (Jvm.Cond.codeWith ({ cls := "TwinphaseLaw", name := "down", desc := "(LTwinphase;I[J)I" } : Jvm.MethodName) method_6_code (4 : Nat) (Option.some Jvm.ClassFile.FieldType.int) [((0 : Nat), (9 : Nat), (12 : Nat), (21 : Nat)), ((0 : Nat), (9 : Nat), (15 : Nat), (15 : Nat))]) ∈ gtbl := gm 358 (by decide +kernel) rfl
theorem w_310 : (Jvm.Cond.methodLink "TwinphaseLaw" (26 : Nat) ({ cls := "Twinphase", name := "down", desc := "(I)I" } : Jvm.MethodName)) ∈ gtbl := gm 359 (by decide +kernel) rfl
theorem w_311 : (Jvm.Cond.instanceMethod ({ cls := "Twinphase", name := "down", desc := "(I)I" } : Jvm.MethodName)) ∈ gtbl := gm 360 (by decide +kernel) rfl
theorem w_312 : (Jvm.Cond.selects "Twinphase" ({ cls := "Twinphase", name := "down", desc := "(I)I" } : Jvm.MethodName) ({ cls := "Twinphase", name := "down", desc := "(I)I" } : Jvm.MethodName)) ∈ gtbl := gm 361 (by decide +kernel) rfl
theorem w_313 : (Jvm.Cond.code ({ cls := "Twinphase", name := "down", desc := "(I)I" } : Jvm.MethodName) prog_1_method_6_code (7 : Nat) (Option.some Jvm.ClassFile.FieldType.int)) ∈ gtbl := gm 362 (by decide +kernel) rfl
theorem w_314 : (Jvm.Cond.methodLink "TwinphaseLaw" (110 : Nat) ({ cls := "TwinphaseLaw", name := "up", desc := "(LTwinphase;I[J)I" } : Jvm.MethodName)) ∈ gtbl := gm 363 (by decide +kernel) rfl
theorem w_315 : (Jvm.Cond.static ({ cls := "TwinphaseLaw", name := "up", desc := "(LTwinphase;I[J)I" } : Jvm.MethodName)) ∈ gtbl := gm 364 (by decide +kernel) rfl
theorem w_316 : (Jvm.Cond.codeWith ({ cls := "TwinphaseLaw", name := "up", desc := "(LTwinphase;I[J)I" } : Jvm.MethodName) method_7_code (4 : Nat) (Option.some Jvm.ClassFile.FieldType.int) [((0 : Nat), (9 : Nat), (12 : Nat), (21 : Nat)), ((0 : Nat), (9 : Nat), (15 : Nat), (15 : Nat))]) ∈ gtbl := gm 365 (by decide +kernel) rfl
theorem w_317 : (Jvm.Cond.methodLink "TwinphaseLaw" (29 : Nat) ({ cls := "Twinphase", name := "up", desc := "(I)I" } : Jvm.MethodName)) ∈ gtbl := gm 366 (by decide +kernel) rfl
theorem w_318 : (Jvm.Cond.instanceMethod ({ cls := "Twinphase", name := "up", desc := "(I)I" } : Jvm.MethodName)) ∈ gtbl := gm 367 (by decide +kernel) rfl
theorem w_319 : (Jvm.Cond.selects "Twinphase" ({ cls := "Twinphase", name := "up", desc := "(I)I" } : Jvm.MethodName) ({ cls := "Twinphase", name := "up", desc := "(I)I" } : Jvm.MethodName)) ∈ gtbl := gm 368 (by decide +kernel) rfl
theorem w_320 : (Jvm.Cond.code ({ cls := "Twinphase", name := "up", desc := "(I)I" } : Jvm.MethodName) prog_1_method_7_code (7 : Nat) (Option.some Jvm.ClassFile.FieldType.int)) ∈ gtbl := gm 369 (by decide +kernel) rfl
theorem w_322 : (Jvm.Cond.methodLink "Twinphase" (91 : Nat) ({ cls := "Twinphase$Cell", name := "noteSeveral", desc := "(I)V" } : Jvm.MethodName)) ∈ gtbl := gm 371 (by decide +kernel) rfl
theorem w_323 : (Jvm.Cond.instanceMethod ({ cls := "Twinphase$Cell", name := "noteSeveral", desc := "(I)V" } : Jvm.MethodName)) ∈ gtbl := gm 372 (by decide +kernel) rfl
theorem w_324 : (Jvm.Cond.selects "Twinphase$Cell" ({ cls := "Twinphase$Cell", name := "noteSeveral", desc := "(I)V" } : Jvm.MethodName) ({ cls := "Twinphase$Cell", name := "noteSeveral", desc := "(I)V" } : Jvm.MethodName)) ∈ gtbl := gm 373 (by decide +kernel) rfl
theorem w_325 : (Jvm.Cond.code ({ cls := "Twinphase$Cell", name := "noteSeveral", desc := "(I)V" } : Jvm.MethodName) prog_2_method_3_code (2 : Nat) (Option.none : Option Jvm.ClassFile.FieldType)) ∈ gtbl := gm 374 (by decide +kernel) rfl
theorem w_326 : (Jvm.Cond.methodLink "TwinphaseLaw" (113 : Nat) ({ cls := "TwinphaseLaw", name := "sync", desc := "(LTwinphase;I[J)I" } : Jvm.MethodName)) ∈ gtbl := gm 375 (by decide +kernel) rfl
theorem w_327 : (Jvm.Cond.static ({ cls := "TwinphaseLaw", name := "sync", desc := "(LTwinphase;I[J)I" } : Jvm.MethodName)) ∈ gtbl := gm 376 (by decide +kernel) rfl
theorem w_328 : (Jvm.Cond.codeWith ({ cls := "TwinphaseLaw", name := "sync", desc := "(LTwinphase;I[J)I" } : Jvm.MethodName) method_8_code (4 : Nat) (Option.some Jvm.ClassFile.FieldType.int) [((0 : Nat), (9 : Nat), (12 : Nat), (21 : Nat)), ((0 : Nat), (9 : Nat), (15 : Nat), (15 : Nat))]) ∈ gtbl := gm 377 (by decide +kernel) rfl
theorem w_329 : (Jvm.Cond.methodLink "TwinphaseLaw" (32 : Nat) ({ cls := "Twinphase", name := "sync", desc := "(I)I" } : Jvm.MethodName)) ∈ gtbl := gm 378 (by decide +kernel) rfl
theorem w_330 : (Jvm.Cond.instanceMethod ({ cls := "Twinphase", name := "sync", desc := "(I)I" } : Jvm.MethodName)) ∈ gtbl := gm 379 (by decide +kernel) rfl
theorem w_331 : (Jvm.Cond.selects "Twinphase" ({ cls := "Twinphase", name := "sync", desc := "(I)I" } : Jvm.MethodName) ({ cls := "Twinphase", name := "sync", desc := "(I)I" } : Jvm.MethodName)) ∈ gtbl := gm 380 (by decide +kernel) rfl
theorem w_332 : (Jvm.Cond.code ({ cls := "Twinphase", name := "sync", desc := "(I)I" } : Jvm.MethodName) prog_1_method_8_code (7 : Nat) (Option.some Jvm.ClassFile.FieldType.int)) ∈ gtbl := gm 381 (by decide +kernel) rfl
theorem w_333 : (Jvm.Cond.methodLink "TwinphaseLaw" (116 : Nat) ({ cls := "TwinphaseLaw", name := "split", desc := "(LTwinphase;I[J)I" } : Jvm.MethodName)) ∈ gtbl := gm 382 (by decide +kernel) rfl
theorem w_334 : (Jvm.Cond.static ({ cls := "TwinphaseLaw", name := "split", desc := "(LTwinphase;I[J)I" } : Jvm.MethodName)) ∈ gtbl := gm 383 (by decide +kernel) rfl
theorem w_335 : (Jvm.Cond.codeWith ({ cls := "TwinphaseLaw", name := "split", desc := "(LTwinphase;I[J)I" } : Jvm.MethodName) method_9_code (4 : Nat) (Option.some Jvm.ClassFile.FieldType.int) [((0 : Nat), (9 : Nat), (12 : Nat), (21 : Nat)), ((0 : Nat), (9 : Nat), (15 : Nat), (15 : Nat))]) ∈ gtbl := gm 384 (by decide +kernel) rfl
theorem w_336 : (Jvm.Cond.methodLink "TwinphaseLaw" (35 : Nat) ({ cls := "Twinphase", name := "split", desc := "(I)I" } : Jvm.MethodName)) ∈ gtbl := gm 385 (by decide +kernel) rfl
theorem w_337 : (Jvm.Cond.instanceMethod ({ cls := "Twinphase", name := "split", desc := "(I)I" } : Jvm.MethodName)) ∈ gtbl := gm 386 (by decide +kernel) rfl
theorem w_338 : (Jvm.Cond.selects "Twinphase" ({ cls := "Twinphase", name := "split", desc := "(I)I" } : Jvm.MethodName) ({ cls := "Twinphase", name := "split", desc := "(I)I" } : Jvm.MethodName)) ∈ gtbl := gm 387 (by decide +kernel) rfl
theorem w_339 : (Jvm.Cond.code ({ cls := "Twinphase", name := "split", desc := "(I)I" } : Jvm.MethodName) prog_1_method_9_code (2 : Nat) (Option.some Jvm.ClassFile.FieldType.int)) ∈ gtbl := gm 388 (by decide +kernel) rfl
theorem w_342 : (Jvm.Cond.methodLink "Twinphase" (101 : Nat) ({ cls := "Twinphase", name := "rangeOf", desc := "(I)I" } : Jvm.MethodName)) ∈ gtbl := gm 391 (by decide +kernel) rfl
theorem w_344 : (Jvm.Cond.instanceMethod ({ cls := "Twinphase", name := "rangeOf", desc := "(I)I" } : Jvm.MethodName)) ∈ gtbl := gm 393 (by decide +kernel) rfl
theorem w_345 : (Jvm.Cond.code ({ cls := "Twinphase", name := "rangeOf", desc := "(I)I" } : Jvm.MethodName) prog_1_method_34_code (4 : Nat) (Option.some Jvm.ClassFile.FieldType.int)) ∈ gtbl := gm 394 (by decide +kernel) rfl
theorem w_346 : (Jvm.Cond.methodLink "TwinphaseLaw" (119 : Nat) ({ cls := "TwinphaseLaw", name := "merge", desc := "(LTwinphase;I[J)I" } : Jvm.MethodName)) ∈ gtbl := gm 395 (by decide +kernel) rfl
theorem w_347 : (Jvm.Cond.static ({ cls := "TwinphaseLaw", name := "merge", desc := "(LTwinphase;I[J)I" } : Jvm.MethodName)) ∈ gtbl := gm 396 (by decide +kernel) rfl
theorem w_348 : (Jvm.Cond.codeWith ({ cls := "TwinphaseLaw", name := "merge", desc := "(LTwinphase;I[J)I" } : Jvm.MethodName) method_10_code (4 : Nat) (Option.some Jvm.ClassFile.FieldType.int) [((0 : Nat), (9 : Nat), (12 : Nat), (21 : Nat)), ((0 : Nat), (9 : Nat), (15 : Nat), (15 : Nat))]) ∈ gtbl := gm 397 (by decide +kernel) rfl
theorem w_349 : (Jvm.Cond.methodLink "TwinphaseLaw" (38 : Nat) ({ cls := "Twinphase", name := "merge", desc := "(I)I" } : Jvm.MethodName)) ∈ gtbl := gm 398 (by decide +kernel) rfl
theorem w_350 : (Jvm.Cond.instanceMethod ({ cls := "Twinphase", name := "merge", desc := "(I)I" } : Jvm.MethodName)) ∈ gtbl := gm 399 (by decide +kernel) rfl
theorem w_351 : (Jvm.Cond.selects "Twinphase" ({ cls := "Twinphase", name := "merge", desc := "(I)I" } : Jvm.MethodName) ({ cls := "Twinphase", name := "merge", desc := "(I)I" } : Jvm.MethodName)) ∈ gtbl := gm 400 (by decide +kernel) rfl
theorem w_352 : (Jvm.Cond.code ({ cls := "Twinphase", name := "merge", desc := "(I)I" } : Jvm.MethodName) prog_1_method_10_code (4 : Nat) (Option.some Jvm.ClassFile.FieldType.int)) ∈ gtbl := gm 401 (by decide +kernel) rfl
theorem w_354 : (Jvm.Cond.methodLink "Twinphase" (106 : Nat) ({ cls := "Twinphase", name := "firstKeyOf", desc := "(I)I" } : Jvm.MethodName)) ∈ gtbl := gm 403 (by decide +kernel) rfl
theorem w_356 : (Jvm.Cond.instanceMethod ({ cls := "Twinphase", name := "firstKeyOf", desc := "(I)I" } : Jvm.MethodName)) ∈ gtbl := gm 405 (by decide +kernel) rfl
theorem w_357 : (Jvm.Cond.code ({ cls := "Twinphase", name := "firstKeyOf", desc := "(I)I" } : Jvm.MethodName) prog_1_method_35_code (4 : Nat) (Option.some Jvm.ClassFile.FieldType.int)) ∈ gtbl := gm 406 (by decide +kernel) rfl
theorem w_359 : (Jvm.Cond.methodLink "TwinphaseLaw" (122 : Nat) ({ cls := "TwinphaseLaw", name := "move", desc := "(LTwinphase;II[J)I" } : Jvm.MethodName)) ∈ gtbl := gm 408 (by decide +kernel) rfl
theorem w_360 : (Jvm.Cond.static ({ cls := "TwinphaseLaw", name := "move", desc := "(LTwinphase;II[J)I" } : Jvm.MethodName)) ∈ gtbl := gm 409 (by decide +kernel) rfl
theorem w_361 : (Jvm.Cond.codeWith ({ cls := "TwinphaseLaw", name := "move", desc := "(LTwinphase;II[J)I" } : Jvm.MethodName) method_11_code (5 : Nat) (Option.some Jvm.ClassFile.FieldType.int) [((0 : Nat), (10 : Nat), (13 : Nat), (21 : Nat)), ((0 : Nat), (10 : Nat), (17 : Nat), (15 : Nat))]) ∈ gtbl := gm 410 (by decide +kernel) rfl
theorem w_362 : (Jvm.Cond.methodLink "TwinphaseLaw" (41 : Nat) ({ cls := "Twinphase", name := "move", desc := "(II)I" } : Jvm.MethodName)) ∈ gtbl := gm 411 (by decide +kernel) rfl
theorem w_363 : (Jvm.Cond.instanceMethod ({ cls := "Twinphase", name := "move", desc := "(II)I" } : Jvm.MethodName)) ∈ gtbl := gm 412 (by decide +kernel) rfl
theorem w_364 : (Jvm.Cond.selects "Twinphase" ({ cls := "Twinphase", name := "move", desc := "(II)I" } : Jvm.MethodName) ({ cls := "Twinphase", name := "move", desc := "(II)I" } : Jvm.MethodName)) ∈ gtbl := gm 413 (by decide +kernel) rfl
theorem w_365 : (Jvm.Cond.code ({ cls := "Twinphase", name := "move", desc := "(II)I" } : Jvm.MethodName) prog_1_method_11_code (8 : Nat) (Option.some Jvm.ClassFile.FieldType.int)) ∈ gtbl := gm 414 (by decide +kernel) rfl
theorem w_367 : (Jvm.Cond.methodLink "TwinphaseLaw" (125 : Nat) ({ cls := "TwinphaseLaw", name := "begin", desc := "(LTwinphase;II[J)I" } : Jvm.MethodName)) ∈ gtbl := gm 416 (by decide +kernel) rfl
theorem w_368 : (Jvm.Cond.static ({ cls := "TwinphaseLaw", name := "begin", desc := "(LTwinphase;II[J)I" } : Jvm.MethodName)) ∈ gtbl := gm 417 (by decide +kernel) rfl
theorem w_369 : (Jvm.Cond.codeWith ({ cls := "TwinphaseLaw", name := "begin", desc := "(LTwinphase;II[J)I" } : Jvm.MethodName) method_12_code (5 : Nat) (Option.some Jvm.ClassFile.FieldType.int) [((0 : Nat), (10 : Nat), (13 : Nat), (21 : Nat)), ((0 : Nat), (10 : Nat), (17 : Nat), (13 : Nat)), ((0 : Nat), (10 : Nat), (21 : Nat), (15 : Nat))]) ∈ gtbl := gm 418 (by decide +kernel) rfl
theorem w_370 : (Jvm.Cond.methodLink "TwinphaseLaw" (44 : Nat) ({ cls := "Twinphase", name := "begin", desc := "(II)I" } : Jvm.MethodName)) ∈ gtbl := gm 419 (by decide +kernel) rfl
theorem w_371 : (Jvm.Cond.instanceMethod ({ cls := "Twinphase", name := "begin", desc := "(II)I" } : Jvm.MethodName)) ∈ gtbl := gm 420 (by decide +kernel) rfl
theorem w_372 : (Jvm.Cond.selects "Twinphase" ({ cls := "Twinphase", name := "begin", desc := "(II)I" } : Jvm.MethodName) ({ cls := "Twinphase", name := "begin", desc := "(II)I" } : Jvm.MethodName)) ∈ gtbl := gm 421 (by decide +kernel) rfl
theorem w_373 : (Jvm.Cond.code ({ cls := "Twinphase", name := "begin", desc := "(II)I" } : Jvm.MethodName) prog_1_method_12_code (4 : Nat) (Option.some Jvm.ClassFile.FieldType.int)) ∈ gtbl := gm 422 (by decide +kernel) rfl
theorem w_376 : (Jvm.Cond.instantiable "Twinphase$Transaction" (15 : Nat)) ∈ gtbl := gm 425 (by decide +kernel) rfl
theorem w_377 : (Jvm.Cond.methodLink "Twinphase" (120 : Nat) ({ cls := "Twinphase$Transaction", name := "<init>", desc := "(IIIII)V" } : Jvm.MethodName)) ∈ gtbl := gm 426 (by decide +kernel) rfl
theorem w_378 : (Jvm.Cond.instanceMethod ({ cls := "Twinphase$Transaction", name := "<init>", desc := "(IIIII)V" } : Jvm.MethodName)) ∈ gtbl := gm 427 (by decide +kernel) rfl
theorem w_379 : (Jvm.Cond.code ({ cls := "Twinphase$Transaction", name := "<init>", desc := "(IIIII)V" } : Jvm.MethodName) prog_5_method_1_code (6 : Nat) (Option.none : Option Jvm.ClassFile.FieldType)) ∈ gtbl := gm 428 (by decide +kernel) rfl
theorem w_380 : (Jvm.Cond.methodLink "Twinphase$Transaction" (3 : Nat) ({ cls := "java/lang/Object", name := "<init>", desc := "()V" } : Jvm.MethodName)) ∈ gtbl := gm 429 (by decide +kernel) rfl
theorem w_381 : (Jvm.Cond.fieldLink "Twinphase$Transaction" (25 : Nat) "Twinphase$Transaction" "number" "I") ∈ gtbl := gm 430 (by decide +kernel) rfl
theorem w_382 : (Jvm.Cond.fieldLink "Twinphase" (199 : Nat) "Twinphase$Transaction" "number" "I") ∈ gtbl := gm 431 (by decide +kernel) rfl
theorem w_383 : (Jvm.Cond.fieldLink "Twinphase$Transaction" (28 : Nat) "Twinphase$Transaction" "home" "I") ∈ gtbl := gm 432 (by decide +kernel) rfl
theorem w_384 : (Jvm.Cond.fieldLink "Twinphase" (150 : Nat) "Twinphase$Transaction" "home" "I") ∈ gtbl := gm 433 (by decide +kernel) rfl
theorem w_385 : (Jvm.Cond.fieldLink "Twinphase$Transaction" (31 : Nat) "Twinphase$Transaction" "rank" "I") ∈ gtbl := gm 434 (by decide +kernel) rfl
theorem w_386 : (Jvm.Cond.fieldLink "Twinphase" (288 : Nat) "Twinphase$Transaction" "rank" "I") ∈ gtbl := gm 435 (by decide +kernel) rfl
theorem w_387 : (Jvm.Cond.fieldLink "Twinphase$Transaction" (34 : Nat) "Twinphase$Transaction" "doubt" "I") ∈ gtbl := gm 436 (by decide +kernel) rfl
theorem w_388 : (Jvm.Cond.fieldLink "Twinphase$Transaction" (9 : Nat) "Twinphase$Transaction" "state" "I") ∈ gtbl := gm 437 (by decide +kernel) rfl
theorem w_389 : (Jvm.Cond.fieldLink "Twinphase" (147 : Nat) "Twinphase$Transaction" "state" "I") ∈ gtbl := gm 438 (by decide +kernel) rfl
theorem w_390 : (Jvm.Cond.fieldLink "Twinphase$Transaction" (37 : Nat) "Twinphase$Transaction" "readStamp" "I") ∈ gtbl := gm 439 (by decide +kernel) rfl
theorem w_391 : (Jvm.Cond.fieldLink "Twinphase" (172 : Nat) "Twinphase$Transaction" "readStamp" "I") ∈ gtbl := gm 440 (by decide +kernel) rfl
theorem w_392 : (Jvm.Cond.fieldLink "Twinphase$Transaction" (40 : Nat) "Twinphase$Transaction" "writeStamp" "I") ∈ gtbl := gm 441 (by decide +kernel) rfl
theorem w_393 : (Jvm.Cond.fieldLink "Twinphase$History" (44 : Nat) "Twinphase$Transaction" "writeStamp" "I") ∈ gtbl := gm 442 (by decide +kernel) rfl
theorem w_394 : (Jvm.Cond.fieldLink "Twinphase" (163 : Nat) "Twinphase$Transaction" "writeStamp" "I") ∈ gtbl := gm 443 (by decide +kernel) rfl
theorem w_395 : (Jvm.Cond.fieldLink "Twinphase$Transaction" (43 : Nat) "Twinphase$Transaction" "lastBeat" "I") ∈ gtbl := gm 444 (by decide +kernel) rfl
theorem w_396 : (Jvm.Cond.fieldLink "Twinphase" (189 : Nat) "Twinphase$Transaction" "lastBeat" "I") ∈ gtbl := gm 445 (by decide +kernel) rfl
theorem w_397 : (Jvm.Cond.fieldLink "Twinphase$Transaction" (46 : Nat) "Twinphase$Transaction" "awaited" "LTwinphase$Transaction;") ∈ gtbl := gm 446 (by decide +kernel) rfl
theorem w_398 : (Jvm.Cond.fieldLink "Twinphase" (157 : Nat) "Twinphase$Transaction" "awaited" "LTwinphase$Transaction;") ∈ gtbl := gm 447 (by decide +kernel) rfl
theorem w_399 : (Jvm.Cond.fieldLink "Twinphase$Transaction" (59 : Nat) "Twinphase$Transaction" "readKeys" "I") ∈ gtbl := gm 448 (by decide +kernel) rfl
theorem w_400 : (Jvm.Cond.fieldLink "Twinphase" (202 : Nat) "Twinphase$Transaction" "readKeys" "I") ∈ gtbl := gm 449 (by decide +kernel) rfl
theorem w_401 : (Jvm.Cond.fieldLink "Twinphase$Transaction" (62 : Nat) "Twinphase$Transaction" "writtenKeys" "I") ∈ gtbl := gm 450 (by decide +kernel) rfl
theorem w_402 : (Jvm.Cond.fieldLink "Twinphase" (160 : Nat) "Twinphase$Transaction" "writtenKeys" "I") ∈ gtbl := gm 451 (by decide +kernel) rfl
theorem w_403 : (Jvm.Cond.fieldLink "Twinphase$Transaction" (50 : Nat) "Twinphase$Transaction" "askedNodes" "I") ∈ gtbl := gm 452 (by decide +kernel) rfl
theorem w_404 : (Jvm.Cond.fieldLink "Twinphase$Transaction" (15 : Nat) "Twinphase$Transaction" "readValues" "[I") ∈ gtbl := gm 453 (by decide +kernel) rfl
theorem w_405 : (Jvm.Cond.fieldLink "Twinphase$History" (59 : Nat) "Twinphase$Transaction" "readValues" "[I") ∈ gtbl := gm 454 (by decide +kernel) rfl
theorem w_406 : (Jvm.Cond.fieldLink "Twinphase$Transaction" (19 : Nat) "Twinphase$Transaction" "writtenValues" "[I") ∈ gtbl := gm 455 (by decide +kernel) rfl
theorem w_407 : (Jvm.Cond.fieldLink "Twinphase$History" (65 : Nat) "Twinphase$Transaction" "writtenValues" "[I") ∈ gtbl := gm 456 (by decide +kernel) rfl
theorem w_408 : (Jvm.Cond.fieldLink "Twinphase" (277 : Nat) "Twinphase$Transaction" "writtenValues" "[I") ∈ gtbl := gm 457 (by decide +kernel) rfl
theorem w_409 : (Jvm.Cond.fieldLink "Twinphase$Transaction" (22 : Nat) "Twinphase$Transaction" "doubts" "[I") ∈ gtbl := gm 458 (by decide +kernel) rfl
theorem w_410 : (Jvm.Cond.fieldLink "Twinphase" (285 : Nat) "Twinphase$Transaction" "doubts" "[I") ∈ gtbl := gm 459 (by decide +kernel) rfl
theorem w_441 : (Jvm.Cond.superclass "Twinphase$Transaction" "java/lang/Object") ∈ gtbl := gm 490 (by decide +kernel) rfl
theorem w_442 : (Jvm.Cond.methodLink "TwinphaseLaw" (128 : Nat) ({ cls := "TwinphaseLaw", name := "get", desc := "(LTwinphase;II[J)I" } : Jvm.MethodName)) ∈ gtbl := gm 491 (by decide +kernel) rfl
theorem w_443 : (Jvm.Cond.static ({ cls := "TwinphaseLaw", name := "get", desc := "(LTwinphase;II[J)I" } : Jvm.MethodName)) ∈ gtbl := gm 492 (by decide +kernel) rfl
theorem w_444 : (Jvm.Cond.codeWith ({ cls := "TwinphaseLaw", name := "get", desc := "(LTwinphase;II[J)I" } : Jvm.MethodName) method_13_code (5 : Nat) (Option.some Jvm.ClassFile.FieldType.int) [((0 : Nat), (10 : Nat), (13 : Nat), (21 : Nat))]) ∈ gtbl := gm 493 (by decide +kernel) rfl
theorem w_445 : (Jvm.Cond.methodLink "TwinphaseLaw" (47 : Nat) ({ cls := "Twinphase", name := "get", desc := "(II)I" } : Jvm.MethodName)) ∈ gtbl := gm 494 (by decide +kernel) rfl
theorem w_446 : (Jvm.Cond.instanceMethod ({ cls := "Twinphase", name := "get", desc := "(II)I" } : Jvm.MethodName)) ∈ gtbl := gm 495 (by decide +kernel) rfl
theorem w_447 : (Jvm.Cond.selects "Twinphase" ({ cls := "Twinphase", name := "get", desc := "(II)I" } : Jvm.MethodName) ({ cls := "Twinphase", name := "get", desc := "(II)I" } : Jvm.MethodName)) ∈ gtbl := gm 496 (by decide +kernel) rfl
theorem w_448 : (Jvm.Cond.code ({ cls := "Twinphase", name := "get", desc := "(II)I" } : Jvm.MethodName) prog_1_method_13_code (7 : Nat) (Option.some Jvm.ClassFile.FieldType.int)) ∈ gtbl := gm 497 (by decide +kernel) rfl
theorem w_449 : (Jvm.Cond.methodLink "Twinphase" (123 : Nat) ({ cls := "Twinphase", name := "needTransaction", desc := "(I)V" } : Jvm.MethodName)) ∈ gtbl := gm 498 (by decide +kernel) rfl
theorem w_451 : (Jvm.Cond.instanceMethod ({ cls := "Twinphase", name := "needTransaction", desc := "(I)V" } : Jvm.MethodName)) ∈ gtbl := gm 500 (by decide +kernel) rfl
theorem w_452 : (Jvm.Cond.code ({ cls := "Twinphase", name := "needTransaction", desc := "(I)V" } : Jvm.MethodName) prog_1_method_29_code (2 : Nat) (Option.none : Option Jvm.ClassFile.FieldType)) ∈ gtbl := gm 501 (by decide +kernel) rfl
theorem w_454 : (Jvm.Cond.methodLink "Twinphase" (126 : Nat) ({ cls := "Twinphase", name := "needKey", desc := "(I)V" } : Jvm.MethodName)) ∈ gtbl := gm 503 (by decide +kernel) rfl
theorem w_456 : (Jvm.Cond.instanceMethod ({ cls := "Twinphase", name := "needKey", desc := "(I)V" } : Jvm.MethodName)) ∈ gtbl := gm 505 (by decide +kernel) rfl
theorem w_457 : (Jvm.Cond.code ({ cls := "Twinphase", name := "needKey", desc := "(I)V" } : Jvm.MethodName) prog_1_method_28_code (2 : Nat) (Option.none : Option Jvm.ClassFile.FieldType)) ∈ gtbl := gm 506 (by decide +kernel) rfl
theorem w_459 : (Jvm.Cond.methodLink "Twinphase" (129 : Nat) ({ cls := "Twinphase", name := "refusalAt", desc := "(LTwinphase$Transaction;I)I" } : Jvm.MethodName)) ∈ gtbl := gm 508 (by decide +kernel) rfl
theorem w_461 : (Jvm.Cond.instanceMethod ({ cls := "Twinphase", name := "refusalAt", desc := "(LTwinphase$Transaction;I)I" } : Jvm.MethodName)) ∈ gtbl := gm 510 (by decide +kernel) rfl
theorem w_462 : (Jvm.Cond.code ({ cls := "Twinphase", name := "refusalAt", desc := "(LTwinphase$Transaction;I)I" } : Jvm.MethodName) prog_1_method_36_code (3 : Nat) (Option.some Jvm.ClassFile.FieldType.int)) ∈ gtbl := gm 511 (by decide +kernel) rfl
theorem w_463 : (Jvm.Cond.methodLink "Twinphase" (133 : Nat) ({ cls := "Twinphase", name := "askNode", desc := "(LTwinphase$Transaction;I)V" } : Jvm.MethodName)) ∈ gtbl := gm 512 (by decide +kernel) rfl
theorem w_465 : (Jvm.Cond.instanceMethod ({ cls := "Twinphase", name := "askNode", desc := "(LTwinphase$Transaction;I)V" } : Jvm.MethodName)) ∈ gtbl := gm 514 (by decide +kernel) rfl
theorem w_466 : (Jvm.Cond.code ({ cls := "Twinphase", name := "askNode", desc := "(LTwinphase$Transaction;I)V" } : Jvm.MethodName) prog_1_method_37_code (3 : Nat) (Option.none : Option Jvm.ClassFile.FieldType)) ∈ gtbl := gm 515 (by decide +kernel) rfl
theorem w_467 : (Jvm.Cond.methodLink "Twinphase" (257 : Nat) ({ cls := "Twinphase$Node", name := "meetStamp", desc := "(I)V" } : Jvm.MethodName)) ∈ gtbl := gm 516 (by decide +kernel) rfl
theorem w_468 : (Jvm.Cond.methodLink "Twinphase" (260 : Nat) ({ cls := "Twinphase$Transaction", name := "hasAsked", desc := "(I)Z" } : Jvm.MethodName)) ∈ gtbl := gm 517 (by decide +kernel) rfl
theorem w_469 : (Jvm.Cond.instanceMethod ({ cls := "Twinphase$Transaction", name := "hasAsked", desc := "(I)Z" } : Jvm.MethodName)) ∈ gtbl := gm 518 (by decide +kernel) rfl
theorem w_470 : (Jvm.Cond.selects "Twinphase$Transaction" ({ cls := "Twinphase$Transaction", name := "hasAsked", desc := "(I)Z" } : Jvm.MethodName) ({ cls := "Twinphase$Transaction", name := "hasAsked", desc := "(I)Z" } : Jvm.MethodName)) ∈ gtbl := gm 519 (by decide +kernel) rfl
theorem w_471 : (Jvm.Cond.code ({ cls := "Twinphase$Transaction", name := "hasAsked", desc := "(I)Z" } : Jvm.MethodName) prog_5_method_5_code (2 : Nat) (Option.some Jvm.ClassFile.FieldType.boolean)) ∈ gtbl := gm 520 (by decide +kernel) rfl
theorem w_472 : (Jvm.Cond.methodLink "Twinphase" (263 : Nat) ({ cls := "Twinphase$Transaction", name := "noteClock", desc := "(II)V" } : Jvm.MethodName)) ∈ gtbl := gm 521 (by decide +kernel) rfl
theorem w_473 : (Jvm.Cond.instanceMethod ({ cls := "Twinphase$Transaction", name := "noteClock", desc := "(II)V" } : Jvm.MethodName)) ∈ gtbl := gm 522 (by decide +kernel) rfl
theorem w_474 : (Jvm.Cond.selects "Twinphase$Transaction" ({ cls := "Twinphase$Transaction", name := "noteClock", desc := "(II)V" } : Jvm.MethodName) ({ cls := "Twinphase$Transaction", name := "noteClock", desc := "(II)V" } : Jvm.MethodName)) ∈ gtbl := gm 523 (by decide +kernel) rfl
theorem w_475 : (Jvm.Cond.code ({ cls := "Twinphase$Transaction", name := "noteClock", desc := "(II)V" } : Jvm.MethodName) prog_5_method_6_code (3 : Nat) (Option.none : Option Jvm.ClassFile.FieldType)) ∈ gtbl := gm 524 (by decide +kernel) rfl
theorem w_476 : (Jvm.Cond.methodLink "Twinphase$Transaction" (53 : Nat) ({ cls := "java/lang/Math", name := "min", desc := "(II)I" } : Jvm.MethodName)) ∈ gtbl := gm 525 (by decide +kernel) rfl
theorem w_477 : (Jvm.Cond.constant "Twinphase" (137 : Nat) (1000000 : Int32)) ∈ gtbl := gm 526 (by decide +kernel) rfl
theorem w_478 : (Jvm.Cond.methodLink "Twinphase" (138 : Nat) ({ cls := "Twinphase", name := "lookToRead", desc := "(LTwinphase$Transaction;I)I" } : Jvm.MethodName)) ∈ gtbl := gm 527 (by decide +kernel) rfl
theorem w_480 : (Jvm.Cond.instanceMethod ({ cls := "Twinphase", name := "lookToRead", desc := "(LTwinphase$Transaction;I)I" } : Jvm.MethodName)) ∈ gtbl := gm 529 (by decide +kernel) rfl
theorem w_481 : (Jvm.Cond.code ({ cls := "Twinphase", name := "lookToRead", desc := "(LTwinphase$Transaction;I)I" } : Jvm.MethodName) prog_1_method_41_code (6 : Nat) (Option.some Jvm.ClassFile.FieldType.int)) ∈ gtbl := gm 530 (by decide +kernel) rfl
theorem w_482 : (Jvm.Cond.methodLink "Twinphase" (274 : Nat) ({ cls := "Twinphase$Transaction", name := "writes", desc := "(I)Z" } : Jvm.MethodName)) ∈ gtbl := gm 531 (by decide +kernel) rfl
theorem w_483 : (Jvm.Cond.methodLink "Twinphase" (281 : Nat) ({ cls := "Twinphase", name := "meetIntent", desc := "(LTwinphase$Transaction;I)LTwinphase$Transaction;" } : Jvm.MethodName)) ∈ gtbl := gm 532 (by decide +kernel) rfl
theorem w_485 : (Jvm.Cond.instanceMethod ({ cls := "Twinphase", name := "meetIntent", desc := "(LTwinphase$Transaction;I)LTwinphase$Transaction;" } : Jvm.MethodName)) ∈ gtbl := gm 534 (by decide +kernel) rfl
theorem w_486 : (Jvm.Cond.code ({ cls := "Twinphase", name := "meetIntent", desc := "(LTwinphase$Transaction;I)LTwinphase$Transaction;" } : Jvm.MethodName) prog_1_method_38_code (4 : Nat) (Option.some (Jvm.ClassFile.FieldType.object "Twinphase$Transaction"))) ∈ gtbl := gm 535 (by decide +kernel) rfl
theorem w_487 : (Jvm.Cond.methodLink "Twinphase" (185 : Nat) ({ cls := "Twinphase", name := "decideStaged", desc := "(LTwinphase$Transaction;)V" } : Jvm.MethodName)) ∈ gtbl := gm 536 (by decide +kernel) rfl
theorem w_489 : (Jvm.Cond.instanceMethod ({ cls := "Twinphase", name := "decideStaged", desc := "(LTwinphase$Transaction;)V" } : Jvm.MethodName)) ∈ gtbl := gm 538 (by decide +kernel) rfl
theorem w_490 : (Jvm.Cond.code ({ cls := "Twinphase", name := "decideStaged", desc := "(LTwinphase$Transaction;)V" } : Jvm.MethodName) prog_1_method_47_code (3 : Nat) (Option.none : Option Jvm.ClassFile.FieldType)) ∈ gtbl := gm 539 (by decide +kernel) rfl
theorem w_491 : (Jvm.Cond.methodLink "Twinphase" (182 : Nat) ({ cls := "Twinphase", name := "hasAllIntents", desc := "(LTwinphase$Transaction;)Z" } : Jvm.MethodName)) ∈ gtbl := gm 540 (by decide +kernel) rfl
theorem w_493 : (Jvm.Cond.instanceMethod ({ cls := "Twinphase", name := "hasAllIntents", desc := "(LTwinphase$Transaction;)Z" } : Jvm.MethodName)) ∈ gtbl := gm 542 (by decide +kernel) rfl
theorem w_494 : (Jvm.Cond.code ({ cls := "Twinphase", name := "hasAllIntents", desc := "(LTwinphase$Transaction;)Z" } : Jvm.MethodName) prog_1_method_46_code (3 : Nat) (Option.some Jvm.ClassFile.FieldType.boolean)) ∈ gtbl := gm 543 (by decide +kernel) rfl
theorem w_495 : (Jvm.Cond.methodLink "Twinphase" (317 : Nat) ({ cls := "Twinphase$History", name := "addCommitted", desc := "(LTwinphase$Transaction;)V" } : Jvm.MethodName)) ∈ gtbl := gm 544 (by decide +kernel) rfl
theorem w_496 : (Jvm.Cond.instanceMethod ({ cls := "Twinphase$History", name := "addCommitted", desc := "(LTwinphase$Transaction;)V" } : Jvm.MethodName)) ∈ gtbl := gm 545 (by decide +kernel) rfl
theorem w_497 : (Jvm.Cond.selects "Twinphase$History" ({ cls := "Twinphase$History", name := "addCommitted", desc := "(LTwinphase$Transaction;)V" } : Jvm.MethodName) ({ cls := "Twinphase$History", name := "addCommitted", desc := "(LTwinphase$Transaction;)V" } : Jvm.MethodName)) ∈ gtbl := gm 546 (by decide +kernel) rfl
theorem w_498 : (Jvm.Cond.code ({ cls := "Twinphase$History", name := "addCommitted", desc := "(LTwinphase$Transaction;)V" } : Jvm.MethodName) prog_3_method_8_code (3 : Nat) (Option.none : Option Jvm.ClassFile.FieldType)) ∈ gtbl := gm 547 (by decide +kernel) rfl
theorem w_499 : (Jvm.Cond.methodLink "Twinphase" (320 : Nat) ({ cls := "Twinphase$History", name := "addChange", desc := "(III)V" } : Jvm.MethodName)) ∈ gtbl := gm 548 (by decide +kernel) rfl
theorem w_500 : (Jvm.Cond.instanceMethod ({ cls := "Twinphase$History", name := "addChange", desc := "(III)V" } : Jvm.MethodName)) ∈ gtbl := gm 549 (by decide +kernel) rfl
theorem w_501 : (Jvm.Cond.selects "Twinphase$History" ({ cls := "Twinphase$History", name := "addChange", desc := "(III)V" } : Jvm.MethodName) ({ cls := "Twinphase$History", name := "addChange", desc := "(III)V" } : Jvm.MethodName)) ∈ gtbl := gm 550 (by decide +kernel) rfl
theorem w_502 : (Jvm.Cond.code ({ cls := "Twinphase$History", name := "addChange", desc := "(III)V" } : Jvm.MethodName) prog_3_method_2_code (6 : Nat) (Option.none : Option Jvm.ClassFile.FieldType)) ∈ gtbl := gm 551 (by decide +kernel) rfl
theorem w_503 : (Jvm.Cond.methodLink "Twinphase$History" (31 : Nat) ({ cls := "java/util/Arrays", name := "copyOf", desc := "([II)[I" } : Jvm.MethodName)) ∈ gtbl := gm 552 (by decide +kernel) rfl
theorem w_504 : (Jvm.Cond.static ({ cls := "java/util/Arrays", name := "copyOf", desc := "([II)[I" } : Jvm.MethodName)) ∈ gtbl := gm 553 (by decide +kernel) rfl
theorem w_505 : (Jvm.Cond.code ({ cls := "java/util/Arrays", name := "copyOf", desc := "([II)[I" } : Jvm.MethodName) prog_19_method_123_code (3 : Nat) (Option.some (Jvm.ClassFile.FieldType.array Jvm.ClassFile.FieldType.int))) ∈ gtbl := gm 554 (by decide +kernel) rfl
theorem w_506 : (Jvm.Cond.methodLink "java/util/Arrays" (316 : Nat) ({ cls := "[I", name := "clone", desc := "()Ljava/lang/Object;" } : Jvm.MethodName)) ∈ gtbl := gm 555 (by decide +kernel) rfl
theorem w_507 : (Jvm.Cond.sameMethod "[I" "java/lang/Object" "clone" "()Ljava/lang/Object;") ∈ gtbl := gm 556 (by decide +kernel) rfl
theorem w_508 : (Jvm.Cond.native ({ cls := "java/lang/Object", name := "clone", desc := "()Ljava/lang/Object;" } : Jvm.MethodName)) ∈ gtbl := gm 557 (by decide +kernel) rfl
theorem w_509 : (Jvm.Cond.instanceMethod ({ cls := "java/lang/Object", name := "clone", desc := "()Ljava/lang/Object;" } : Jvm.MethodName)) ∈ gtbl := gm 558 (by decide +kernel) rfl
theorem w_510 : (Jvm.Cond.selects "[I" ({ cls := "[I", name := "clone", desc := "()Ljava/lang/Object;" } : Jvm.MethodName) ({ cls := "java/lang/Object", name := "clone", desc := "()Ljava/lang/Object;" } : Jvm.MethodName)) ∈ gtbl := gm 559 (by decide +kernel) rfl
theorem w_512 : (Jvm.Cond.classLink "java/util/Arrays" (317 : Nat) "[I") ∈ gtbl := gm 561 (by decide +kernel) rfl
theorem w_513 : (Jvm.Cond.methodLink "java/util/Arrays" (304 : Nat) ({ cls := "java/lang/Math", name := "min", desc := "(II)I" } : Jvm.MethodName)) ∈ gtbl := gm 562 (by decide +kernel) rfl
theorem w_514 : (Jvm.Cond.methodLink "java/util/Arrays" (150 : Nat) ({ cls := "java/lang/System", name := "arraycopy", desc := "(Ljava/lang/Object;ILjava/lang/Object;II)V" } : Jvm.MethodName)) ∈ gtbl := gm 563 (by decide +kernel) rfl
theorem w_515 : (Jvm.Cond.static ({ cls := "java/lang/System", name := "arraycopy", desc := "(Ljava/lang/Object;ILjava/lang/Object;II)V" } : Jvm.MethodName)) ∈ gtbl := gm 564 (by decide +kernel) rfl
theorem w_516 : (Jvm.Cond.native ({ cls := "java/lang/System", name := "arraycopy", desc := "(Ljava/lang/Object;ILjava/lang/Object;II)V" } : Jvm.MethodName)) ∈ gtbl := gm 565 (by decide +kernel) rfl
theorem w_517 : (Jvm.Cond.methodLink "Twinphase" (210 : Nat) ({ cls := "Twinphase$Transaction", name := "isVanished", desc := "(I)Z" } : Jvm.MethodName)) ∈ gtbl := gm 566 (by decide +kernel) rfl
theorem w_518 : (Jvm.Cond.instanceMethod ({ cls := "Twinphase$Transaction", name := "isVanished", desc := "(I)Z" } : Jvm.MethodName)) ∈ gtbl := gm 567 (by decide +kernel) rfl
theorem w_519 : (Jvm.Cond.selects "Twinphase$Transaction" ({ cls := "Twinphase$Transaction", name := "isVanished", desc := "(I)Z" } : Jvm.MethodName) ({ cls := "Twinphase$Transaction", name := "isVanished", desc := "(I)Z" } : Jvm.MethodName)) ∈ gtbl := gm 568 (by decide +kernel) rfl
theorem w_520 : (Jvm.Cond.code ({ cls := "Twinphase$Transaction", name := "isVanished", desc := "(I)Z" } : Jvm.MethodName) prog_5_method_2_code (2 : Nat) (Option.some Jvm.ClassFile.FieldType.boolean)) ∈ gtbl := gm 569 (by decide +kernel) rfl
theorem w_521 : (Jvm.Cond.methodLink "Twinphase" (291 : Nat) ({ cls := "Twinphase", name := "waitFor", desc := "(LTwinphase$Transaction;LTwinphase$Transaction;)I" } : Jvm.MethodName)) ∈ gtbl := gm 570 (by decide +kernel) rfl
theorem w_523 : (Jvm.Cond.instanceMethod ({ cls := "Twinphase", name := "waitFor", desc := "(LTwinphase$Transaction;LTwinphase$Transaction;)I" } : Jvm.MethodName)) ∈ gtbl := gm 572 (by decide +kernel) rfl
theorem w_524 : (Jvm.Cond.code ({ cls := "Twinphase", name := "waitFor", desc := "(LTwinphase$Transaction;LTwinphase$Transaction;)I" } : Jvm.MethodName) prog_1_method_39_code (4 : Nat) (Option.some Jvm.ClassFile.FieldType.int)) ∈ gtbl := gm 573 (by decide +kernel) rfl
theorem w_525 : (Jvm.Cond.methodLink "Twinphase" (267 : Nat) ({ cls := "Twinphase", name := "victimOfRing", desc := "(LTwinphase$Transaction;)LTwinphase$Transaction;" } : Jvm.MethodName)) ∈ gtbl := gm 574 (by decide +kernel) rfl
theorem w_527 : (Jvm.Cond.instanceMethod ({ cls := "Twinphase", name := "victimOfRing", desc := "(LTwinphase$Transaction;)LTwinphase$Transaction;" } : Jvm.MethodName)) ∈ gtbl := gm 576 (by decide +kernel) rfl
theorem w_528 : (Jvm.Cond.code ({ cls := "Twinphase", name := "victimOfRing", desc := "(LTwinphase$Transaction;)LTwinphase$Transaction;" } : Jvm.MethodName) prog_1_method_40_code (5 : Nat) (Option.some (Jvm.ClassFile.FieldType.object "Twinphase$Transaction"))) ∈ gtbl := gm 577 (by decide +kernel) rfl
theorem w_529 : (Jvm.Cond.methodLink "Twinphase" (195 : Nat) ({ cls := "Twinphase$Transaction", name := "waitsFor", desc := "()LTwinphase$Transaction;" } : Jvm.MethodName)) ∈ gtbl := gm 578 (by decide +kernel) rfl
theorem w_530 : (Jvm.Cond.instanceMethod ({ cls := "Twinphase$Transaction", name := "waitsFor", desc := "()LTwinphase$Transaction;" } : Jvm.MethodName)) ∈ gtbl := gm 579 (by decide +kernel) rfl
theorem w_531 : (Jvm.Cond.selects "Twinphase$Transaction" ({ cls := "Twinphase$Transaction", name := "waitsFor", desc := "()LTwinphase$Transaction;" } : Jvm.MethodName) ({ cls := "Twinphase$Transaction", name := "waitsFor", desc := "()LTwinphase$Transaction;" } : Jvm.MethodName)) ∈ gtbl := gm 580 (by decide +kernel) rfl
theorem w_532 : (Jvm.Cond.code ({ cls := "Twinphase$Transaction", name := "waitsFor", desc := "()LTwinphase$Transaction;" } : Jvm.MethodName) prog_5_method_3_code (1 : Nat) (Option.some (Jvm.ClassFile.FieldType.object "Twinphase$Transaction"))) ∈ gtbl := gm 581 (by decide +kernel) rfl
theorem w_533 : (Jvm.Cond.methodLink "Twinphase" (271 : Nat) ({ cls := "Twinphase$Transaction", name := "yieldsBefore", desc := "(LTwinphase$Transaction;)Z" } : Jvm.MethodName)) ∈ gtbl := gm 582 (by decide +kernel) rfl
theorem w_534 : (Jvm.Cond.instanceMethod ({ cls := "Twinphase$Transaction", name := "yieldsBefore", desc := "(LTwinphase$Transaction;)Z" } : Jvm.MethodName)) ∈ gtbl := gm 583 (by decide +kernel) rfl
theorem w_535 : (Jvm.Cond.selects "Twinphase$Transaction" ({ cls := "Twinphase$Transaction", name := "yieldsBefore", desc := "(LTwinphase$Transaction;)Z" } : Jvm.MethodName) ({ cls := "Twinphase$Transaction", name := "yieldsBefore", desc := "(LTwinphase$Transaction;)Z" } : Jvm.MethodName)) ∈ gtbl := gm 584 (by decide +kernel) rfl
theorem w_536 : (Jvm.Cond.code ({ cls := "Twinphase$Transaction", name := "yieldsBefore", desc := "(LTwinphase$Transaction;)Z" } : Jvm.MethodName) prog_5_method_4_code (2 : Nat) (Option.some Jvm.ClassFile.FieldType.boolean)) ∈ gtbl := gm 585 (by decide +kernel) rfl
theorem w_537 : (Jvm.Cond.methodLink "Twinphase" (295 : Nat) ({ cls := "Twinphase$History", name := "stampUpTo", desc := "(II)I" } : Jvm.MethodName)) ∈ gtbl := gm 586 (by decide +kernel) rfl
theorem w_538 : (Jvm.Cond.instanceMethod ({ cls := "Twinphase$History", name := "stampUpTo", desc := "(II)I" } : Jvm.MethodName)) ∈ gtbl := gm 587 (by decide +kernel) rfl
theorem w_539 : (Jvm.Cond.selects "Twinphase$History" ({ cls := "Twinphase$History", name := "stampUpTo", desc := "(II)I" } : Jvm.MethodName) ({ cls := "Twinphase$History", name := "stampUpTo", desc := "(II)I" } : Jvm.MethodName)) ∈ gtbl := gm 588 (by decide +kernel) rfl
theorem w_540 : (Jvm.Cond.code ({ cls := "Twinphase$History", name := "stampUpTo", desc := "(II)I" } : Jvm.MethodName) prog_3_method_4_code (4 : Nat) (Option.some Jvm.ClassFile.FieldType.int)) ∈ gtbl := gm 589 (by decide +kernel) rfl
theorem w_541 : (Jvm.Cond.methodLink "Twinphase$History" (37 : Nat) ({ cls := "Twinphase$History", name := "placeUpTo", desc := "(II)I" } : Jvm.MethodName)) ∈ gtbl := gm 590 (by decide +kernel) rfl
theorem w_542 : (Jvm.Cond.instanceMethod ({ cls := "Twinphase$History", name := "placeUpTo", desc := "(II)I" } : Jvm.MethodName)) ∈ gtbl := gm 591 (by decide +kernel) rfl
theorem w_543 : (Jvm.Cond.selects "Twinphase$History" ({ cls := "Twinphase$History", name := "placeUpTo", desc := "(II)I" } : Jvm.MethodName) ({ cls := "Twinphase$History", name := "placeUpTo", desc := "(II)I" } : Jvm.MethodName)) ∈ gtbl := gm 592 (by decide +kernel) rfl
theorem w_544 : (Jvm.Cond.code ({ cls := "Twinphase$History", name := "placeUpTo", desc := "(II)I" } : Jvm.MethodName) prog_3_method_3_code (4 : Nat) (Option.some Jvm.ClassFile.FieldType.int)) ∈ gtbl := gm 593 (by decide +kernel) rfl
theorem w_545 : (Jvm.Cond.methodLink "Twinphase" (175 : Nat) ({ cls := "Twinphase", name := "refreshReads", desc := "(LTwinphase$Transaction;I)Z" } : Jvm.MethodName)) ∈ gtbl := gm 594 (by decide +kernel) rfl
theorem w_547 : (Jvm.Cond.instanceMethod ({ cls := "Twinphase", name := "refreshReads", desc := "(LTwinphase$Transaction;I)Z" } : Jvm.MethodName)) ∈ gtbl := gm 596 (by decide +kernel) rfl
theorem w_548 : (Jvm.Cond.code ({ cls := "Twinphase", name := "refreshReads", desc := "(LTwinphase$Transaction;I)Z" } : Jvm.MethodName) prog_1_method_42_code (5 : Nat) (Option.some Jvm.ClassFile.FieldType.boolean)) ∈ gtbl := gm 597 (by decide +kernel) rfl
theorem w_549 : (Jvm.Cond.methodLink "Twinphase" (304 : Nat) ({ cls := "Twinphase$Transaction", name := "hasRead", desc := "(I)Z" } : Jvm.MethodName)) ∈ gtbl := gm 598 (by decide +kernel) rfl
theorem w_550 : (Jvm.Cond.methodLink "Twinphase" (298 : Nat) ({ cls := "Twinphase$Cell", name := "noteReader", desc := "(II)V" } : Jvm.MethodName)) ∈ gtbl := gm 599 (by decide +kernel) rfl
theorem w_551 : (Jvm.Cond.instanceMethod ({ cls := "Twinphase$Cell", name := "noteReader", desc := "(II)V" } : Jvm.MethodName)) ∈ gtbl := gm 600 (by decide +kernel) rfl
theorem w_552 : (Jvm.Cond.selects "Twinphase$Cell" ({ cls := "Twinphase$Cell", name := "noteReader", desc := "(II)V" } : Jvm.MethodName) ({ cls := "Twinphase$Cell", name := "noteReader", desc := "(II)V" } : Jvm.MethodName)) ∈ gtbl := gm 601 (by decide +kernel) rfl
theorem w_553 : (Jvm.Cond.code ({ cls := "Twinphase$Cell", name := "noteReader", desc := "(II)V" } : Jvm.MethodName) prog_2_method_2_code (3 : Nat) (Option.none : Option Jvm.ClassFile.FieldType)) ∈ gtbl := gm 602 (by decide +kernel) rfl
theorem w_554 : (Jvm.Cond.methodLink "Twinphase" (307 : Nat) ({ cls := "Twinphase$Transaction", name := "raiseStamps", desc := "(I)V" } : Jvm.MethodName)) ∈ gtbl := gm 603 (by decide +kernel) rfl
theorem w_555 : (Jvm.Cond.instanceMethod ({ cls := "Twinphase$Transaction", name := "raiseStamps", desc := "(I)V" } : Jvm.MethodName)) ∈ gtbl := gm 604 (by decide +kernel) rfl
theorem w_556 : (Jvm.Cond.selects "Twinphase$Transaction" ({ cls := "Twinphase$Transaction", name := "raiseStamps", desc := "(I)V" } : Jvm.MethodName) ({ cls := "Twinphase$Transaction", name := "raiseStamps", desc := "(I)V" } : Jvm.MethodName)) ∈ gtbl := gm 605 (by decide +kernel) rfl
theorem w_557 : (Jvm.Cond.code ({ cls := "Twinphase$Transaction", name := "raiseStamps", desc := "(I)V" } : Jvm.MethodName) prog_5_method_12_code (2 : Nat) (Option.none : Option Jvm.ClassFile.FieldType)) ∈ gtbl := gm 606 (by decide +kernel) rfl
theorem w_558 : (Jvm.Cond.methodLink "Twinphase$Transaction" (65 : Nat) ({ cls := "java/lang/Math", name := "max", desc := "(II)I" } : Jvm.MethodName)) ∈ gtbl := gm 607 (by decide +kernel) rfl
theorem w_559 : (Jvm.Cond.methodLink "Twinphase" (179 : Nat) ({ cls := "Twinphase", name := "restartAt", desc := "(LTwinphase$Transaction;I)I" } : Jvm.MethodName)) ∈ gtbl := gm 608 (by decide +kernel) rfl
theorem w_561 : (Jvm.Cond.instanceMethod ({ cls := "Twinphase", name := "restartAt", desc := "(LTwinphase$Transaction;I)I" } : Jvm.MethodName)) ∈ gtbl := gm 610 (by decide +kernel) rfl
theorem w_562 : (Jvm.Cond.code ({ cls := "Twinphase", name := "restartAt", desc := "(LTwinphase$Transaction;I)I" } : Jvm.MethodName) prog_1_method_43_code (7 : Nat) (Option.some Jvm.ClassFile.FieldType.int)) ∈ gtbl := gm 611 (by decide +kernel) rfl
theorem w_563 : (Jvm.Cond.methodLink "Twinphase" (310 : Nat) ({ cls := "Twinphase$Transaction", name := "forgetAll", desc := "(I)V" } : Jvm.MethodName)) ∈ gtbl := gm 612 (by decide +kernel) rfl
theorem w_564 : (Jvm.Cond.instanceMethod ({ cls := "Twinphase$Transaction", name := "forgetAll", desc := "(I)V" } : Jvm.MethodName)) ∈ gtbl := gm 613 (by decide +kernel) rfl
theorem w_565 : (Jvm.Cond.selects "Twinphase$Transaction" ({ cls := "Twinphase$Transaction", name := "forgetAll", desc := "(I)V" } : Jvm.MethodName) ({ cls := "Twinphase$Transaction", name := "forgetAll", desc := "(I)V" } : Jvm.MethodName)) ∈ gtbl := gm 614 (by decide +kernel) rfl
theorem w_566 : (Jvm.Cond.code ({ cls := "Twinphase$Transaction", name := "forgetAll", desc := "(I)V" } : Jvm.MethodName) prog_5_method_11_code (2 : Nat) (Option.none : Option Jvm.ClassFile.FieldType)) ∈ gtbl := gm 615 (by decide +kernel) rfl
theorem w_567 : (Jvm.Cond.methodLink "Twinphase" (223 : Nat) ({ cls := "Twinphase$History", name := "valueUpTo", desc := "(II)I" } : Jvm.MethodName)) ∈ gtbl := gm 616 (by decide +kernel) rfl
theorem w_568 : (Jvm.Cond.instanceMethod ({ cls := "Twinphase$History", name := "valueUpTo", desc := "(II)I" } : Jvm.MethodName)) ∈ gtbl := gm 617 (by decide +kernel) rfl
theorem w_569 : (Jvm.Cond.selects "Twinphase$History" ({ cls := "Twinphase$History", name := "valueUpTo", desc := "(II)I" } : Jvm.MethodName) ({ cls := "Twinphase$History", name := "valueUpTo", desc := "(II)I" } : Jvm.MethodName)) ∈ gtbl := gm 618 (by decide +kernel) rfl
theorem w_570 : (Jvm.Cond.code ({ cls := "Twinphase$History", name := "valueUpTo", desc := "(II)I" } : Jvm.MethodName) prog_3_method_5_code (4 : Nat) (Option.some Jvm.ClassFile.FieldType.int)) ∈ gtbl := gm 619 (by decide +kernel) rfl
theorem w_571 : (Jvm.Cond.methodLink "Twinphase" (301 : Nat) ({ cls := "Twinphase$Transaction", name := "noteRead", desc := "(II)I" } : Jvm.MethodName)) ∈ gtbl := gm 620 (by decide +kernel) rfl
theorem w_572 : (Jvm.Cond.instanceMethod ({ cls := "Twinphase$Transaction", name := "noteRead", desc := "(II)I" } : Jvm.MethodName)) ∈ gtbl := gm 621 (by decide +kernel) rfl
theorem w_573 : (Jvm.Cond.selects "Twinphase$Transaction" ({ cls := "Twinphase$Transaction", name := "noteRead", desc := "(II)I" } : Jvm.MethodName) ({ cls := "Twinphase$Transaction", name := "noteRead", desc := "(II)I" } : Jvm.MethodName)) ∈ gtbl := gm 622 (by decide +kernel) rfl
theorem w_574 : (Jvm.Cond.code ({ cls := "Twinphase$Transaction", name := "noteRead", desc := "(II)I" } : Jvm.MethodName) prog_5_method_8_code (3 : Nat) (Option.some Jvm.ClassFile.FieldType.int)) ∈ gtbl := gm 623 (by decide +kernel) rfl
theorem w_575 : (Jvm.Cond.methodLink "TwinphaseLaw" (131 : Nat) ({ cls := "TwinphaseLaw", name := "put", desc := "(LTwinphase;III[J)I" } : Jvm.MethodName)) ∈ gtbl := gm 624 (by decide +kernel) rfl
theorem w_576 : (Jvm.Cond.static ({ cls := "TwinphaseLaw", name := "put", desc := "(LTwinphase;III[J)I" } : Jvm.MethodName)) ∈ gtbl := gm 625 (by decide +kernel) rfl
theorem w_577 : (Jvm.Cond.codeWith ({ cls := "TwinphaseLaw", name := "put", desc := "(LTwinphase;III[J)I" } : Jvm.MethodName) method_14_code (6 : Nat) (Option.some Jvm.ClassFile.FieldType.int) [((0 : Nat), (12 : Nat), (15 : Nat), (21 : Nat)), ((0 : Nat), (12 : Nat), (19 : Nat), (13 : Nat))]) ∈ gtbl := gm 626 (by decide +kernel) rfl
theorem w_578 : (Jvm.Cond.methodLink "TwinphaseLaw" (50 : Nat) ({ cls := "Twinphase", name := "put", desc := "(III)I" } : Jvm.MethodName)) ∈ gtbl := gm 627 (by decide +kernel) rfl
theorem w_579 : (Jvm.Cond.instanceMethod ({ cls := "Twinphase", name := "put", desc := "(III)I" } : Jvm.MethodName)) ∈ gtbl := gm 628 (by decide +kernel) rfl
theorem w_580 : (Jvm.Cond.selects "Twinphase" ({ cls := "Twinphase", name := "put", desc := "(III)I" } : Jvm.MethodName) ({ cls := "Twinphase", name := "put", desc := "(III)I" } : Jvm.MethodName)) ∈ gtbl := gm 629 (by decide +kernel) rfl
theorem w_581 : (Jvm.Cond.code ({ cls := "Twinphase", name := "put", desc := "(III)I" } : Jvm.MethodName) prog_1_method_14_code (8 : Nat) (Option.some Jvm.ClassFile.FieldType.int)) ∈ gtbl := gm 630 (by decide +kernel) rfl
theorem w_583 : (Jvm.Cond.methodLink "Twinphase" (143 : Nat) ({ cls := "Twinphase", name := "lookToWrite", desc := "(LTwinphase$Transaction;II)I" } : Jvm.MethodName)) ∈ gtbl := gm 632 (by decide +kernel) rfl
theorem w_585 : (Jvm.Cond.instanceMethod ({ cls := "Twinphase", name := "lookToWrite", desc := "(LTwinphase$Transaction;II)I" } : Jvm.MethodName)) ∈ gtbl := gm 634 (by decide +kernel) rfl
theorem w_586 : (Jvm.Cond.code ({ cls := "Twinphase", name := "lookToWrite", desc := "(LTwinphase$Transaction;II)I" } : Jvm.MethodName) prog_1_method_44_code (7 : Nat) (Option.some Jvm.ClassFile.FieldType.int)) ∈ gtbl := gm 635 (by decide +kernel) rfl
theorem w_587 : (Jvm.Cond.constant "Twinphase" (313 : Nat) (2147483647 : Int32)) ∈ gtbl := gm 636 (by decide +kernel) rfl
theorem w_588 : (Jvm.Cond.methodLink "Twinphase" (314 : Nat) ({ cls := "Twinphase$Transaction", name := "noteWrite", desc := "(II)V" } : Jvm.MethodName)) ∈ gtbl := gm 637 (by decide +kernel) rfl
theorem w_589 : (Jvm.Cond.instanceMethod ({ cls := "Twinphase$Transaction", name := "noteWrite", desc := "(II)V" } : Jvm.MethodName)) ∈ gtbl := gm 638 (by decide +kernel) rfl
theorem w_590 : (Jvm.Cond.selects "Twinphase$Transaction" ({ cls := "Twinphase$Transaction", name := "noteWrite", desc := "(II)V" } : Jvm.MethodName) ({ cls := "Twinphase$Transaction", name := "noteWrite", desc := "(II)V" } : Jvm.MethodName)) ∈ gtbl := gm 639 (by decide +kernel) rfl
theorem w_591 : (Jvm.Cond.code ({ cls := "Twinphase$Transaction", name := "noteWrite", desc := "(II)V" } : Jvm.MethodName) prog_5_method_10_code (3 : Nat) (Option.none : Option Jvm.ClassFile.FieldType)) ∈ gtbl := gm 640 (by decide +kernel) rfl
theorem w_592 : (Jvm.Cond.methodLink "TwinphaseLaw" (135 : Nat) ({ cls := "TwinphaseLaw", name := "commit", desc := "(LTwinphase;IZ[J)I" } : Jvm.MethodName)) ∈ gtbl := gm 641 (by decide +kernel) rfl
theorem w_593 : (Jvm.Cond.static ({ cls := "TwinphaseLaw", name := "commit", desc := "(LTwinphase;IZ[J)I" } : Jvm.MethodName)) ∈ gtbl := gm 642 (by decide +kernel) rfl
theorem w_594 : (Jvm.Cond.codeWith ({ cls := "TwinphaseLaw", name := "commit", desc := "(LTwinphase;IZ[J)I" } : Jvm.MethodName) method_15_code (5 : Nat) (Option.some Jvm.ClassFile.FieldType.int) [((0 : Nat), (10 : Nat), (13 : Nat), (21 : Nat))]) ∈ gtbl := gm 643 (by decide +kernel) rfl
theorem w_595 : (Jvm.Cond.methodLink "TwinphaseLaw" (54 : Nat) ({ cls := "Twinphase", name := "commit", desc := "(IZ)I" } : Jvm.MethodName)) ∈ gtbl := gm 644 (by decide +kernel) rfl
theorem w_596 : (Jvm.Cond.instanceMethod ({ cls := "Twinphase", name := "commit", desc := "(IZ)I" } : Jvm.MethodName)) ∈ gtbl := gm 645 (by decide +kernel) rfl
theorem w_597 : (Jvm.Cond.selects "Twinphase" ({ cls := "Twinphase", name := "commit", desc := "(IZ)I" } : Jvm.MethodName) ({ cls := "Twinphase", name := "commit", desc := "(IZ)I" } : Jvm.MethodName)) ∈ gtbl := gm 646 (by decide +kernel) rfl
theorem w_598 : (Jvm.Cond.code ({ cls := "Twinphase", name := "commit", desc := "(IZ)I" } : Jvm.MethodName) prog_1_method_15_code (4 : Nat) (Option.some Jvm.ClassFile.FieldType.int)) ∈ gtbl := gm 647 (by decide +kernel) rfl
theorem w_599 : (Jvm.Cond.methodLink "Twinphase" (153 : Nat) ({ cls := "Twinphase", name := "writesOnDownNode", desc := "(LTwinphase$Transaction;)Z" } : Jvm.MethodName)) ∈ gtbl := gm 648 (by decide +kernel) rfl
theorem w_601 : (Jvm.Cond.instanceMethod ({ cls := "Twinphase", name := "writesOnDownNode", desc := "(LTwinphase$Transaction;)Z" } : Jvm.MethodName)) ∈ gtbl := gm 650 (by decide +kernel) rfl
theorem w_602 : (Jvm.Cond.code ({ cls := "Twinphase", name := "writesOnDownNode", desc := "(LTwinphase$Transaction;)Z" } : Jvm.MethodName) prog_1_method_45_code (3 : Nat) (Option.some Jvm.ClassFile.FieldType.boolean)) ∈ gtbl := gm 651 (by decide +kernel) rfl
theorem w_603 : (Jvm.Cond.methodLink "TwinphaseLaw" (139 : Nat) ({ cls := "TwinphaseLaw", name := "abort", desc := "(LTwinphase;I[J)I" } : Jvm.MethodName)) ∈ gtbl := gm 652 (by decide +kernel) rfl
theorem w_604 : (Jvm.Cond.static ({ cls := "TwinphaseLaw", name := "abort", desc := "(LTwinphase;I[J)I" } : Jvm.MethodName)) ∈ gtbl := gm 653 (by decide +kernel) rfl
theorem w_605 : (Jvm.Cond.codeWith ({ cls := "TwinphaseLaw", name := "abort", desc := "(LTwinphase;I[J)I" } : Jvm.MethodName) method_16_code (4 : Nat) (Option.some Jvm.ClassFile.FieldType.int) [((0 : Nat), (9 : Nat), (12 : Nat), (21 : Nat))]) ∈ gtbl := gm 654 (by decide +kernel) rfl
theorem w_606 : (Jvm.Cond.methodLink "TwinphaseLaw" (58 : Nat) ({ cls := "Twinphase", name := "abort", desc := "(I)I" } : Jvm.MethodName)) ∈ gtbl := gm 655 (by decide +kernel) rfl
theorem w_607 : (Jvm.Cond.instanceMethod ({ cls := "Twinphase", name := "abort", desc := "(I)I" } : Jvm.MethodName)) ∈ gtbl := gm 656 (by decide +kernel) rfl
theorem w_608 : (Jvm.Cond.selects "Twinphase" ({ cls := "Twinphase", name := "abort", desc := "(I)I" } : Jvm.MethodName) ({ cls := "Twinphase", name := "abort", desc := "(I)I" } : Jvm.MethodName)) ∈ gtbl := gm 657 (by decide +kernel) rfl
theorem w_609 : (Jvm.Cond.code ({ cls := "Twinphase", name := "abort", desc := "(I)I" } : Jvm.MethodName) prog_1_method_16_code (2 : Nat) (Option.some Jvm.ClassFile.FieldType.int)) ∈ gtbl := gm 658 (by decide +kernel) rfl
theorem w_610 : (Jvm.Cond.methodLink "TwinphaseLaw" (142 : Nat) ({ cls := "TwinphaseLaw", name := "recover", desc := "(LTwinphase;I[J)I" } : Jvm.MethodName)) ∈ gtbl := gm 659 (by decide +kernel) rfl
theorem w_611 : (Jvm.Cond.static ({ cls := "TwinphaseLaw", name := "recover", desc := "(LTwinphase;I[J)I" } : Jvm.MethodName)) ∈ gtbl := gm 660 (by decide +kernel) rfl
theorem w_612 : (Jvm.Cond.codeWith ({ cls := "TwinphaseLaw", name := "recover", desc := "(LTwinphase;I[J)I" } : Jvm.MethodName) method_17_code (4 : Nat) (Option.some Jvm.ClassFile.FieldType.int) [((0 : Nat), (9 : Nat), (12 : Nat), (21 : Nat))]) ∈ gtbl := gm 661 (by decide +kernel) rfl
theorem w_613 : (Jvm.Cond.methodLink "TwinphaseLaw" (61 : Nat) ({ cls := "Twinphase", name := "recover", desc := "(I)I" } : Jvm.MethodName)) ∈ gtbl := gm 662 (by decide +kernel) rfl
theorem w_614 : (Jvm.Cond.instanceMethod ({ cls := "Twinphase", name := "recover", desc := "(I)I" } : Jvm.MethodName)) ∈ gtbl := gm 663 (by decide +kernel) rfl
theorem w_615 : (Jvm.Cond.selects "Twinphase" ({ cls := "Twinphase", name := "recover", desc := "(I)I" } : Jvm.MethodName) ({ cls := "Twinphase", name := "recover", desc := "(I)I" } : Jvm.MethodName)) ∈ gtbl := gm 664 (by decide +kernel) rfl
theorem w_616 : (Jvm.Cond.code ({ cls := "Twinphase", name := "recover", desc := "(I)I" } : Jvm.MethodName) prog_1_method_17_code (3 : Nat) (Option.some Jvm.ClassFile.FieldType.int)) ∈ gtbl := gm 665 (by decide +kernel) rfl
theorem w_617 : (Jvm.Cond.methodLink "TwinphaseLaw" (145 : Nat) ({ cls := "TwinphaseLaw", name := "beat", desc := "(LTwinphase;I[J)I" } : Jvm.MethodName)) ∈ gtbl := gm 666 (by decide +kernel) rfl
theorem w_618 : (Jvm.Cond.static ({ cls := "TwinphaseLaw", name := "beat", desc := "(LTwinphase;I[J)I" } : Jvm.MethodName)) ∈ gtbl := gm 667 (by decide +kernel) rfl
theorem w_619 : (Jvm.Cond.codeWith ({ cls := "TwinphaseLaw", name := "beat", desc := "(LTwinphase;I[J)I" } : Jvm.MethodName) method_18_code (4 : Nat) (Option.some Jvm.ClassFile.FieldType.int) [((0 : Nat), (9 : Nat), (12 : Nat), (21 : Nat))]) ∈ gtbl := gm 668 (by decide +kernel) rfl
theorem w_620 : (Jvm.Cond.methodLink "TwinphaseLaw" (64 : Nat) ({ cls := "Twinphase", name := "beat", desc := "(I)I" } : Jvm.MethodName)) ∈ gtbl := gm 669 (by decide +kernel) rfl
theorem w_621 : (Jvm.Cond.instanceMethod ({ cls := "Twinphase", name := "beat", desc := "(I)I" } : Jvm.MethodName)) ∈ gtbl := gm 670 (by decide +kernel) rfl
theorem w_622 : (Jvm.Cond.selects "Twinphase" ({ cls := "Twinphase", name := "beat", desc := "(I)I" } : Jvm.MethodName) ({ cls := "Twinphase", name := "beat", desc := "(I)I" } : Jvm.MethodName)) ∈ gtbl := gm 671 (by decide +kernel) rfl
theorem w_623 : (Jvm.Cond.code ({ cls := "Twinphase", name := "beat", desc := "(I)I" } : Jvm.MethodName) prog_1_method_18_code (2 : Nat) (Option.some Jvm.ClassFile.FieldType.int)) ∈ gtbl := gm 672 (by decide +kernel) rfl
theorem w_624 : (Jvm.Cond.methodLink "TwinphaseLaw" (148 : Nat) ({ cls := "TwinphaseLaw", name := "told", desc := "(LTwinphase;II[J)I" } : Jvm.MethodName)) ∈ gtbl := gm 673 (by decide +kernel) rfl
theorem w_625 : (Jvm.Cond.static ({ cls := "TwinphaseLaw", name := "told", desc := "(LTwinphase;II[J)I" } : Jvm.MethodName)) ∈ gtbl := gm 674 (by decide +kernel) rfl
theorem w_626 : (Jvm.Cond.codeWith ({ cls := "TwinphaseLaw", name := "told", desc := "(LTwinphase;II[J)I" } : Jvm.MethodName) method_19_code (5 : Nat) (Option.some Jvm.ClassFile.FieldType.int) [((0 : Nat), (10 : Nat), (13 : Nat), (21 : Nat)), ((0 : Nat), (10 : Nat), (17 : Nat), (13 : Nat))]) ∈ gtbl := gm 675 (by decide +kernel) rfl
theorem w_627 : (Jvm.Cond.methodLink "TwinphaseLaw" (67 : Nat) ({ cls := "Twinphase", name := "told", desc := "(II)I" } : Jvm.MethodName)) ∈ gtbl := gm 676 (by decide +kernel) rfl
theorem w_628 : (Jvm.Cond.instanceMethod ({ cls := "Twinphase", name := "told", desc := "(II)I" } : Jvm.MethodName)) ∈ gtbl := gm 677 (by decide +kernel) rfl
theorem w_629 : (Jvm.Cond.selects "Twinphase" ({ cls := "Twinphase", name := "told", desc := "(II)I" } : Jvm.MethodName) ({ cls := "Twinphase", name := "told", desc := "(II)I" } : Jvm.MethodName)) ∈ gtbl := gm 678 (by decide +kernel) rfl
theorem w_630 : (Jvm.Cond.code ({ cls := "Twinphase", name := "told", desc := "(II)I" } : Jvm.MethodName) prog_1_method_19_code (4 : Nat) (Option.some Jvm.ClassFile.FieldType.int)) ∈ gtbl := gm 679 (by decide +kernel) rfl
theorem w_631 : (Jvm.Cond.methodLink "Twinphase" (192 : Nat) ({ cls := "Twinphase", name := "needWhat", desc := "(I)V" } : Jvm.MethodName)) ∈ gtbl := gm 680 (by decide +kernel) rfl
theorem w_633 : (Jvm.Cond.instanceMethod ({ cls := "Twinphase", name := "needWhat", desc := "(I)V" } : Jvm.MethodName)) ∈ gtbl := gm 682 (by decide +kernel) rfl
theorem w_634 : (Jvm.Cond.code ({ cls := "Twinphase", name := "needWhat", desc := "(I)V" } : Jvm.MethodName) prog_1_method_31_code (2 : Nat) (Option.none : Option Jvm.ClassFile.FieldType)) ∈ gtbl := gm 683 (by decide +kernel) rfl
theorem w_636 : (Jvm.Cond.methodLink "Twinphase" (205 : Nat) ({ cls := "java/lang/Integer", name := "bitCount", desc := "(I)I" } : Jvm.MethodName)) ∈ gtbl := gm 685 (by decide +kernel) rfl
theorem w_637 : (Jvm.Cond.static ({ cls := "java/lang/Integer", name := "bitCount", desc := "(I)I" } : Jvm.MethodName)) ∈ gtbl := gm 686 (by decide +kernel) rfl
theorem w_638 : (Jvm.Cond.code ({ cls := "java/lang/Integer", name := "bitCount", desc := "(I)I" } : Jvm.MethodName) prog_13_method_49_code (1 : Nat) (Option.some Jvm.ClassFile.FieldType.int)) ∈ gtbl := gm 687 (by decide +kernel) rfl
theorem w_639 : (Jvm.Cond.constant "java/lang/Integer" (265 : Nat) (1431655765 : Int32)) ∈ gtbl := gm 688 (by decide +kernel) rfl
theorem w_640 : (Jvm.Cond.constant "java/lang/Integer" (266 : Nat) (858993459 : Int32)) ∈ gtbl := gm 689 (by decide +kernel) rfl
theorem w_641 : (Jvm.Cond.constant "java/lang/Integer" (267 : Nat) (252645135 : Int32)) ∈ gtbl := gm 690 (by decide +kernel) rfl
theorem w_642 : (Jvm.Cond.methodLink "TwinphaseLaw" (151 : Nat) ({ cls := "TwinphaseLaw", name := "key", desc := "(LTwinphase;II[J)I" } : Jvm.MethodName)) ∈ gtbl := gm 691 (by decide +kernel) rfl
theorem w_643 : (Jvm.Cond.static ({ cls := "TwinphaseLaw", name := "key", desc := "(LTwinphase;II[J)I" } : Jvm.MethodName)) ∈ gtbl := gm 692 (by decide +kernel) rfl
theorem w_644 : (Jvm.Cond.codeWith ({ cls := "TwinphaseLaw", name := "key", desc := "(LTwinphase;II[J)I" } : Jvm.MethodName) method_20_code (5 : Nat) (Option.some Jvm.ClassFile.FieldType.int) [((0 : Nat), (10 : Nat), (13 : Nat), (21 : Nat)), ((0 : Nat), (10 : Nat), (17 : Nat), (13 : Nat))]) ∈ gtbl := gm 693 (by decide +kernel) rfl
theorem w_645 : (Jvm.Cond.methodLink "TwinphaseLaw" (70 : Nat) ({ cls := "Twinphase", name := "key", desc := "(II)I" } : Jvm.MethodName)) ∈ gtbl := gm 694 (by decide +kernel) rfl
theorem w_646 : (Jvm.Cond.instanceMethod ({ cls := "Twinphase", name := "key", desc := "(II)I" } : Jvm.MethodName)) ∈ gtbl := gm 695 (by decide +kernel) rfl
theorem w_647 : (Jvm.Cond.selects "Twinphase" ({ cls := "Twinphase", name := "key", desc := "(II)I" } : Jvm.MethodName) ({ cls := "Twinphase", name := "key", desc := "(II)I" } : Jvm.MethodName)) ∈ gtbl := gm 696 (by decide +kernel) rfl
theorem w_648 : (Jvm.Cond.code ({ cls := "Twinphase", name := "key", desc := "(II)I" } : Jvm.MethodName) prog_1_method_20_code (4 : Nat) (Option.some Jvm.ClassFile.FieldType.int)) ∈ gtbl := gm 697 (by decide +kernel) rfl
theorem w_649 : (Jvm.Cond.methodLink "Twinphase" (214 : Nat) ({ cls := "Twinphase$History", name := "countOf", desc := "(I)I" } : Jvm.MethodName)) ∈ gtbl := gm 698 (by decide +kernel) rfl
theorem w_650 : (Jvm.Cond.instanceMethod ({ cls := "Twinphase$History", name := "countOf", desc := "(I)I" } : Jvm.MethodName)) ∈ gtbl := gm 699 (by decide +kernel) rfl
theorem w_651 : (Jvm.Cond.selects "Twinphase$History" ({ cls := "Twinphase$History", name := "countOf", desc := "(I)I" } : Jvm.MethodName) ({ cls := "Twinphase$History", name := "countOf", desc := "(I)I" } : Jvm.MethodName)) ∈ gtbl := gm 700 (by decide +kernel) rfl
theorem w_652 : (Jvm.Cond.code ({ cls := "Twinphase$History", name := "countOf", desc := "(I)I" } : Jvm.MethodName) prog_3_method_6_code (4 : Nat) (Option.some Jvm.ClassFile.FieldType.int)) ∈ gtbl := gm 701 (by decide +kernel) rfl
theorem w_653 : (Jvm.Cond.methodLink "TwinphaseLaw" (154 : Nat) ({ cls := "TwinphaseLaw", name := "asOf", desc := "(LTwinphase;II[J)I" } : Jvm.MethodName)) ∈ gtbl := gm 702 (by decide +kernel) rfl
theorem w_654 : (Jvm.Cond.static ({ cls := "TwinphaseLaw", name := "asOf", desc := "(LTwinphase;II[J)I" } : Jvm.MethodName)) ∈ gtbl := gm 703 (by decide +kernel) rfl
theorem w_655 : (Jvm.Cond.codeWith ({ cls := "TwinphaseLaw", name := "asOf", desc := "(LTwinphase;II[J)I" } : Jvm.MethodName) method_21_code (5 : Nat) (Option.some Jvm.ClassFile.FieldType.int) [((0 : Nat), (10 : Nat), (13 : Nat), (21 : Nat)), ((0 : Nat), (10 : Nat), (17 : Nat), (13 : Nat))]) ∈ gtbl := gm 704 (by decide +kernel) rfl
theorem w_656 : (Jvm.Cond.methodLink "TwinphaseLaw" (73 : Nat) ({ cls := "Twinphase", name := "asOf", desc := "(II)I" } : Jvm.MethodName)) ∈ gtbl := gm 705 (by decide +kernel) rfl
theorem w_657 : (Jvm.Cond.instanceMethod ({ cls := "Twinphase", name := "asOf", desc := "(II)I" } : Jvm.MethodName)) ∈ gtbl := gm 706 (by decide +kernel) rfl
theorem w_658 : (Jvm.Cond.selects "Twinphase" ({ cls := "Twinphase", name := "asOf", desc := "(II)I" } : Jvm.MethodName) ({ cls := "Twinphase", name := "asOf", desc := "(II)I" } : Jvm.MethodName)) ∈ gtbl := gm 707 (by decide +kernel) rfl
theorem w_659 : (Jvm.Cond.code ({ cls := "Twinphase", name := "asOf", desc := "(II)I" } : Jvm.MethodName) prog_1_method_21_code (4 : Nat) (Option.some Jvm.ClassFile.FieldType.int)) ∈ gtbl := gm 708 (by decide +kernel) rfl
theorem w_661 : (Jvm.Cond.methodLink "TwinphaseLaw" (161 : Nat) ({ cls := "TwinphaseLaw", name := "feed", desc := "(LTwinphase;I[J)I" } : Jvm.MethodName)) ∈ gtbl := gm 710 (by decide +kernel) rfl
theorem w_662 : (Jvm.Cond.static ({ cls := "TwinphaseLaw", name := "feed", desc := "(LTwinphase;I[J)I" } : Jvm.MethodName)) ∈ gtbl := gm 711 (by decide +kernel) rfl
theorem w_663 : (Jvm.Cond.codeWith ({ cls := "TwinphaseLaw", name := "feed", desc := "(LTwinphase;I[J)I" } : Jvm.MethodName) method_22_code (4 : Nat) (Option.some Jvm.ClassFile.FieldType.int) [((0 : Nat), (9 : Nat), (12 : Nat), (21 : Nat))]) ∈ gtbl := gm 712 (by decide +kernel) rfl
theorem w_664 : (Jvm.Cond.methodLink "TwinphaseLaw" (76 : Nat) ({ cls := "Twinphase", name := "feed", desc := "(I)I" } : Jvm.MethodName)) ∈ gtbl := gm 713 (by decide +kernel) rfl
theorem w_665 : (Jvm.Cond.instanceMethod ({ cls := "Twinphase", name := "feed", desc := "(I)I" } : Jvm.MethodName)) ∈ gtbl := gm 714 (by decide +kernel) rfl
theorem w_666 : (Jvm.Cond.selects "Twinphase" ({ cls := "Twinphase", name := "feed", desc := "(I)I" } : Jvm.MethodName) ({ cls := "Twinphase", name := "feed", desc := "(I)I" } : Jvm.MethodName)) ∈ gtbl := gm 715 (by decide +kernel) rfl
theorem w_667 : (Jvm.Cond.code ({ cls := "Twinphase", name := "feed", desc := "(I)I" } : Jvm.MethodName) prog_1_method_23_code (2 : Nat) (Option.some Jvm.ClassFile.FieldType.int)) ∈ gtbl := gm 716 (by decide +kernel) rfl
theorem w_668 : (Jvm.Cond.methodLink "Twinphase" (229 : Nat) ({ cls := "Twinphase", name := "needPlace", desc := "(I)V" } : Jvm.MethodName)) ∈ gtbl := gm 717 (by decide +kernel) rfl
theorem w_670 : (Jvm.Cond.instanceMethod ({ cls := "Twinphase", name := "needPlace", desc := "(I)V" } : Jvm.MethodName)) ∈ gtbl := gm 719 (by decide +kernel) rfl
theorem w_671 : (Jvm.Cond.code ({ cls := "Twinphase", name := "needPlace", desc := "(I)V" } : Jvm.MethodName) prog_1_method_30_code (2 : Nat) (Option.none : Option Jvm.ClassFile.FieldType)) ∈ gtbl := gm 720 (by decide +kernel) rfl
theorem w_673 : (Jvm.Cond.methodLink "Twinphase" (232 : Nat) ({ cls := "Twinphase$History", name := "changeAt", desc := "(II)I" } : Jvm.MethodName)) ∈ gtbl := gm 722 (by decide +kernel) rfl
theorem w_674 : (Jvm.Cond.instanceMethod ({ cls := "Twinphase$History", name := "changeAt", desc := "(II)I" } : Jvm.MethodName)) ∈ gtbl := gm 723 (by decide +kernel) rfl
theorem w_675 : (Jvm.Cond.selects "Twinphase$History" ({ cls := "Twinphase$History", name := "changeAt", desc := "(II)I" } : Jvm.MethodName) ({ cls := "Twinphase$History", name := "changeAt", desc := "(II)I" } : Jvm.MethodName)) ∈ gtbl := gm 724 (by decide +kernel) rfl
theorem w_676 : (Jvm.Cond.code ({ cls := "Twinphase$History", name := "changeAt", desc := "(II)I" } : Jvm.MethodName) prog_3_method_7_code (3 : Nat) (Option.some Jvm.ClassFile.FieldType.int)) ∈ gtbl := gm 725 (by decide +kernel) rfl
theorem w_677 : (Jvm.Cond.methodLink "TwinphaseLaw" (164 : Nat) ({ cls := "TwinphaseLaw", name := "order", desc := "(LTwinphase;I[J)I" } : Jvm.MethodName)) ∈ gtbl := gm 726 (by decide +kernel) rfl
theorem w_678 : (Jvm.Cond.static ({ cls := "TwinphaseLaw", name := "order", desc := "(LTwinphase;I[J)I" } : Jvm.MethodName)) ∈ gtbl := gm 727 (by decide +kernel) rfl
theorem w_679 : (Jvm.Cond.codeWith ({ cls := "TwinphaseLaw", name := "order", desc := "(LTwinphase;I[J)I" } : Jvm.MethodName) method_23_code (4 : Nat) (Option.some Jvm.ClassFile.FieldType.int) [((0 : Nat), (9 : Nat), (12 : Nat), (21 : Nat))]) ∈ gtbl := gm 728 (by decide +kernel) rfl
theorem w_680 : (Jvm.Cond.methodLink "TwinphaseLaw" (79 : Nat) ({ cls := "Twinphase", name := "order", desc := "(I)I" } : Jvm.MethodName)) ∈ gtbl := gm 729 (by decide +kernel) rfl
theorem w_681 : (Jvm.Cond.instanceMethod ({ cls := "Twinphase", name := "order", desc := "(I)I" } : Jvm.MethodName)) ∈ gtbl := gm 730 (by decide +kernel) rfl
theorem w_682 : (Jvm.Cond.selects "Twinphase" ({ cls := "Twinphase", name := "order", desc := "(I)I" } : Jvm.MethodName) ({ cls := "Twinphase", name := "order", desc := "(I)I" } : Jvm.MethodName)) ∈ gtbl := gm 731 (by decide +kernel) rfl
theorem w_683 : (Jvm.Cond.code ({ cls := "Twinphase", name := "order", desc := "(I)I" } : Jvm.MethodName) prog_1_method_24_code (3 : Nat) (Option.some Jvm.ClassFile.FieldType.int)) ∈ gtbl := gm 732 (by decide +kernel) rfl
theorem w_684 : (Jvm.Cond.methodLink "Twinphase" (235 : Nat) ({ cls := "Twinphase$History", name := "committedAt", desc := "(I)LTwinphase$Transaction;" } : Jvm.MethodName)) ∈ gtbl := gm 733 (by decide +kernel) rfl
theorem w_685 : (Jvm.Cond.instanceMethod ({ cls := "Twinphase$History", name := "committedAt", desc := "(I)LTwinphase$Transaction;" } : Jvm.MethodName)) ∈ gtbl := gm 734 (by decide +kernel) rfl
theorem w_686 : (Jvm.Cond.selects "Twinphase$History" ({ cls := "Twinphase$History", name := "committedAt", desc := "(I)LTwinphase$Transaction;" } : Jvm.MethodName) ({ cls := "Twinphase$History", name := "committedAt", desc := "(I)LTwinphase$Transaction;" } : Jvm.MethodName)) ∈ gtbl := gm 735 (by decide +kernel) rfl
theorem w_687 : (Jvm.Cond.code ({ cls := "Twinphase$History", name := "committedAt", desc := "(I)LTwinphase$Transaction;" } : Jvm.MethodName) prog_3_method_9_code (2 : Nat) (Option.some (Jvm.ClassFile.FieldType.object "Twinphase$Transaction"))) ∈ gtbl := gm 736 (by decide +kernel) rfl
theorem w_688 : (Jvm.Cond.classLink "TwinphaseLaw" (83 : Nat) "TwinphaseModel") ∈ gtbl := gm 737 (by decide +kernel) rfl
theorem w_689 : (Jvm.Cond.instantiable "TwinphaseModel" (32 : Nat)) ∈ gtbl := gm 738 (by decide +kernel) rfl
theorem w_690 : (Jvm.Cond.methodLink "TwinphaseLaw" (85 : Nat) ({ cls := "TwinphaseModel", name := "<init>", desc := "()V" } : Jvm.MethodName)) ∈ gtbl := gm 739 (by decide +kernel) rfl
theorem w_691 : (Jvm.Cond.instanceMethod ({ cls := "TwinphaseModel", name := "<init>", desc := "()V" } : Jvm.MethodName)) ∈ gtbl := gm 740 (by decide +kernel) rfl
theorem w_692 : (Jvm.Cond.code ({ cls := "TwinphaseModel", name := "<init>", desc := "()V" } : Jvm.MethodName) prog_7_method_1_code (2 : Nat) (Option.none : Option Jvm.ClassFile.FieldType)) ∈ gtbl := gm 741 (by decide +kernel) rfl
theorem w_693 : (Jvm.Cond.methodLink "TwinphaseModel" (1 : Nat) ({ cls := "java/lang/Object", name := "<init>", desc := "()V" } : Jvm.MethodName)) ∈ gtbl := gm 742 (by decide +kernel) rfl
theorem w_694 : (Jvm.Cond.fieldLink "TwinphaseModel" (100 : Nat) "TwinphaseModel" "time" "I") ∈ gtbl := gm 743 (by decide +kernel) rfl
theorem w_695 : (Jvm.Cond.fieldLink "TwinphaseModel" (7 : Nat) "TwinphaseModel" "skews" "[I") ∈ gtbl := gm 744 (by decide +kernel) rfl
theorem w_696 : (Jvm.Cond.fieldLink "TwinphaseModel" (13 : Nat) "TwinphaseModel" "met" "[I") ∈ gtbl := gm 745 (by decide +kernel) rfl
theorem w_697 : (Jvm.Cond.fieldLink "TwinphaseModel" (16 : Nat) "TwinphaseModel" "isDown" "[Z") ∈ gtbl := gm 746 (by decide +kernel) rfl
theorem w_698 : (Jvm.Cond.fieldLink "TwinphaseModel" (20 : Nat) "TwinphaseModel" "ranges" "I") ∈ gtbl := gm 747 (by decide +kernel) rfl
theorem w_699 : (Jvm.Cond.fieldLink "TwinphaseModel" (24 : Nat) "TwinphaseModel" "begins" "[I") ∈ gtbl := gm 748 (by decide +kernel) rfl
theorem w_700 : (Jvm.Cond.fieldLink "TwinphaseModel" (27 : Nat) "TwinphaseModel" "nodes" "[I") ∈ gtbl := gm 749 (by decide +kernel) rfl
theorem w_701 : (Jvm.Cond.fieldLink "TwinphaseModel" (30 : Nat) "TwinphaseModel" "owner" "[I") ∈ gtbl := gm 750 (by decide +kernel) rfl
theorem w_702 : (Jvm.Cond.fieldLink "TwinphaseModel" (33 : Nat) "TwinphaseModel" "isSure" "[Z") ∈ gtbl := gm 751 (by decide +kernel) rfl
theorem w_703 : (Jvm.Cond.fieldLink "TwinphaseModel" (36 : Nat) "TwinphaseModel" "meant" "[I") ∈ gtbl := gm 752 (by decide +kernel) rfl
theorem w_704 : (Jvm.Cond.fieldLink "TwinphaseModel" (39 : Nat) "TwinphaseModel" "readAt" "[I") ∈ gtbl := gm 753 (by decide +kernel) rfl
theorem w_705 : (Jvm.Cond.fieldLink "TwinphaseModel" (42 : Nat) "TwinphaseModel" "readBy" "[I") ∈ gtbl := gm 754 (by decide +kernel) rfl
theorem w_706 : (Jvm.Cond.fieldLink "TwinphaseModel" (135 : Nat) "TwinphaseModel" "versions" "I") ∈ gtbl := gm 755 (by decide +kernel) rfl
theorem w_707 : (Jvm.Cond.fieldLink "TwinphaseModel" (45 : Nat) "TwinphaseModel" "vKey" "[I") ∈ gtbl := gm 756 (by decide +kernel) rfl
theorem w_708 : (Jvm.Cond.fieldLink "TwinphaseModel" (48 : Nat) "TwinphaseModel" "vStamp" "[I") ∈ gtbl := gm 757 (by decide +kernel) rfl
theorem w_709 : (Jvm.Cond.fieldLink "TwinphaseModel" (51 : Nat) "TwinphaseModel" "vValue" "[I") ∈ gtbl := gm 758 (by decide +kernel) rfl
theorem w_710 : (Jvm.Cond.fieldLink "TwinphaseModel" (125 : Nat) "TwinphaseModel" "many" "I") ∈ gtbl := gm 759 (by decide +kernel) rfl
theorem w_711 : (Jvm.Cond.fieldLink "TwinphaseModel" (54 : Nat) "TwinphaseModel" "home" "[I") ∈ gtbl := gm 760 (by decide +kernel) rfl
theorem w_712 : (Jvm.Cond.fieldLink "TwinphaseModel" (57 : Nat) "TwinphaseModel" "rank" "[I") ∈ gtbl := gm 761 (by decide +kernel) rfl
theorem w_713 : (Jvm.Cond.fieldLink "TwinphaseModel" (60 : Nat) "TwinphaseModel" "reads" "[I") ∈ gtbl := gm 762 (by decide +kernel) rfl
theorem w_714 : (Jvm.Cond.fieldLink "TwinphaseModel" (63 : Nat) "TwinphaseModel" "writes" "[I") ∈ gtbl := gm 763 (by decide +kernel) rfl
theorem w_715 : (Jvm.Cond.fieldLink "TwinphaseModel" (66 : Nat) "TwinphaseModel" "doubt" "[I") ∈ gtbl := gm 764 (by decide +kernel) rfl
theorem w_716 : (Jvm.Cond.fieldLink "TwinphaseModel" (69 : Nat) "TwinphaseModel" "beaten" "[I") ∈ gtbl := gm 765 (by decide +kernel) rfl
theorem w_717 : (Jvm.Cond.fieldLink "TwinphaseModel" (72 : Nat) "TwinphaseModel" "state" "[I") ∈ gtbl := gm 766 (by decide +kernel) rfl
theorem w_718 : (Jvm.Cond.fieldLink "TwinphaseModel" (75 : Nat) "TwinphaseModel" "waits" "[I") ∈ gtbl := gm 767 (by decide +kernel) rfl
theorem w_719 : (Jvm.Cond.fieldLink "TwinphaseModel" (78 : Nat) "TwinphaseModel" "committedAs" "[I") ∈ gtbl := gm 768 (by decide +kernel) rfl
theorem w_720 : (Jvm.Cond.fieldLink "TwinphaseModel" (132 : Nat) "TwinphaseModel" "commits" "I") ∈ gtbl := gm 769 (by decide +kernel) rfl
theorem w_721 : (Jvm.Cond.fieldLink "TwinphaseModel" (81 : Nat) "TwinphaseModel" "doubtAt" "[I") ∈ gtbl := gm 770 (by decide +kernel) rfl
theorem w_722 : (Jvm.Cond.fieldLink "TwinphaseModel" (84 : Nat) "TwinphaseModel" "valueRead" "[I") ∈ gtbl := gm 771 (by decide +kernel) rfl
theorem w_723 : (Jvm.Cond.fieldLink "TwinphaseModel" (87 : Nat) "TwinphaseModel" "valueWritten" "[I") ∈ gtbl := gm 772 (by decide +kernel) rfl
theorem w_724 : (Jvm.Cond.fieldLink "TwinphaseModel" (90 : Nat) "TwinphaseModel" "once" "[I") ∈ gtbl := gm 773 (by decide +kernel) rfl
theorem w_725 : (Jvm.Cond.fieldLink "TwinphaseModel" (93 : Nat) "TwinphaseModel" "thrown" "I") ∈ gtbl := gm 774 (by decide +kernel) rfl
theorem w_790 : (Jvm.Cond.superclass "TwinphaseModel" "java/lang/Object") ∈ gtbl := gm 839 (by decide +kernel) rfl
theorem w_791 : (Jvm.Cond.arrayClass Jvm.ClassFile.FieldType.boolean) ∈ gtbl := gm 840 (by decide +kernel) rfl
theorem w_792 : (Jvm.Cond.methodLink "TwinphaseLaw" (92 : Nat) ({ cls := "TwinphaseModel", name := "thrown", desc := "()I" } : Jvm.MethodName)) ∈ gtbl := gm 841 (by decide +kernel) rfl
theorem w_793 : (Jvm.Cond.instanceMethod ({ cls := "TwinphaseModel", name := "thrown", desc := "()I" } : Jvm.MethodName)) ∈ gtbl := gm 842 (by decide +kernel) rfl
theorem w_794 : (Jvm.Cond.selects "TwinphaseModel" ({ cls := "TwinphaseModel", name := "thrown", desc := "()I" } : Jvm.MethodName) ({ cls := "TwinphaseModel", name := "thrown", desc := "()I" } : Jvm.MethodName)) ∈ gtbl := gm 843 (by decide +kernel) rfl
theorem w_795 : (Jvm.Cond.code ({ cls := "TwinphaseModel", name := "thrown", desc := "()I" } : Jvm.MethodName) prog_7_method_2_code (1 : Nat) (Option.some Jvm.ClassFile.FieldType.int)) ∈ gtbl := gm 844 (by decide +kernel) rfl
theorem w_796 : (Jvm.Cond.methodLink "TwinphaseLaw" (91 : Nat) ({ cls := "TwinphaseModel", name := "pass", desc := "(I)I" } : Jvm.MethodName)) ∈ gtbl := gm 845 (by decide +kernel) rfl
theorem w_797 : (Jvm.Cond.instanceMethod ({ cls := "TwinphaseModel", name := "pass", desc := "(I)I" } : Jvm.MethodName)) ∈ gtbl := gm 846 (by decide +kernel) rfl
theorem w_798 : (Jvm.Cond.selects "TwinphaseModel" ({ cls := "TwinphaseModel", name := "pass", desc := "(I)I" } : Jvm.MethodName) ({ cls := "TwinphaseModel", name := "pass", desc := "(I)I" } : Jvm.MethodName)) ∈ gtbl := gm 847 (by decide +kernel) rfl
theorem w_799 : (Jvm.Cond.code ({ cls := "TwinphaseModel", name := "pass", desc := "(I)I" } : Jvm.MethodName) prog_7_method_5_code (2 : Nat) (Option.some Jvm.ClassFile.FieldType.int)) ∈ gtbl := gm 848 (by decide +kernel) rfl
theorem w_800 : (Jvm.Cond.methodLink "TwinphaseModel" (96 : Nat) ({ cls := "TwinphaseModel", name := "in", desc := "(III)Z" } : Jvm.MethodName)) ∈ gtbl := gm 849 (by decide +kernel) rfl
theorem w_801 : (Jvm.Cond.static ({ cls := "TwinphaseModel", name := "in", desc := "(III)Z" } : Jvm.MethodName)) ∈ gtbl := gm 850 (by decide +kernel) rfl
theorem w_802 : (Jvm.Cond.code ({ cls := "TwinphaseModel", name := "in", desc := "(III)Z" } : Jvm.MethodName) prog_7_method_3_code (3 : Nat) (Option.some Jvm.ClassFile.FieldType.boolean)) ∈ gtbl := gm 851 (by decide +kernel) rfl
theorem w_803 : (Jvm.Cond.methodLink "TwinphaseLaw" (99 : Nat) ({ cls := "TwinphaseModel", name := "skew", desc := "(II)I" } : Jvm.MethodName)) ∈ gtbl := gm 852 (by decide +kernel) rfl
theorem w_804 : (Jvm.Cond.instanceMethod ({ cls := "TwinphaseModel", name := "skew", desc := "(II)I" } : Jvm.MethodName)) ∈ gtbl := gm 853 (by decide +kernel) rfl
theorem w_805 : (Jvm.Cond.selects "TwinphaseModel" ({ cls := "TwinphaseModel", name := "skew", desc := "(II)I" } : Jvm.MethodName) ({ cls := "TwinphaseModel", name := "skew", desc := "(II)I" } : Jvm.MethodName)) ∈ gtbl := gm 854 (by decide +kernel) rfl
theorem w_806 : (Jvm.Cond.code ({ cls := "TwinphaseModel", name := "skew", desc := "(II)I" } : Jvm.MethodName) prog_7_method_6_code (4 : Nat) (Option.some Jvm.ClassFile.FieldType.int)) ∈ gtbl := gm 855 (by decide +kernel) rfl
theorem w_807 : (Jvm.Cond.methodLink "TwinphaseLaw" (102 : Nat) ({ cls := "TwinphaseModel", name := "clock", desc := "(I)I" } : Jvm.MethodName)) ∈ gtbl := gm 856 (by decide +kernel) rfl
theorem w_808 : (Jvm.Cond.instanceMethod ({ cls := "TwinphaseModel", name := "clock", desc := "(I)I" } : Jvm.MethodName)) ∈ gtbl := gm 857 (by decide +kernel) rfl
theorem w_809 : (Jvm.Cond.selects "TwinphaseModel" ({ cls := "TwinphaseModel", name := "clock", desc := "(I)I" } : Jvm.MethodName) ({ cls := "TwinphaseModel", name := "clock", desc := "(I)I" } : Jvm.MethodName)) ∈ gtbl := gm 858 (by decide +kernel) rfl
theorem w_810 : (Jvm.Cond.code ({ cls := "TwinphaseModel", name := "clock", desc := "(I)I" } : Jvm.MethodName) prog_7_method_8_code (2 : Nat) (Option.some Jvm.ClassFile.FieldType.int)) ∈ gtbl := gm 859 (by decide +kernel) rfl
theorem w_811 : (Jvm.Cond.methodLink "TwinphaseModel" (107 : Nat) ({ cls := "TwinphaseModel", name := "asks", desc := "(I)I" } : Jvm.MethodName)) ∈ gtbl := gm 860 (by decide +kernel) rfl
theorem w_813 : (Jvm.Cond.instanceMethod ({ cls := "TwinphaseModel", name := "asks", desc := "(I)I" } : Jvm.MethodName)) ∈ gtbl := gm 862 (by decide +kernel) rfl
theorem w_814 : (Jvm.Cond.code ({ cls := "TwinphaseModel", name := "asks", desc := "(I)I" } : Jvm.MethodName) prog_7_method_7_code (2 : Nat) (Option.some Jvm.ClassFile.FieldType.int)) ∈ gtbl := gm 863 (by decide +kernel) rfl
theorem w_815 : (Jvm.Cond.methodLink "TwinphaseModel" (103 : Nat) ({ cls := "TwinphaseModel", name := "greater", desc := "(II)I" } : Jvm.MethodName)) ∈ gtbl := gm 864 (by decide +kernel) rfl
theorem w_816 : (Jvm.Cond.static ({ cls := "TwinphaseModel", name := "greater", desc := "(II)I" } : Jvm.MethodName)) ∈ gtbl := gm 865 (by decide +kernel) rfl
theorem w_817 : (Jvm.Cond.code ({ cls := "TwinphaseModel", name := "greater", desc := "(II)I" } : Jvm.MethodName) prog_7_method_4_code (2 : Nat) (Option.some Jvm.ClassFile.FieldType.int)) ∈ gtbl := gm 866 (by decide +kernel) rfl
theorem w_818 : (Jvm.Cond.methodLink "TwinphaseLaw" (106 : Nat) ({ cls := "TwinphaseModel", name := "closed", desc := "()I" } : Jvm.MethodName)) ∈ gtbl := gm 867 (by decide +kernel) rfl
theorem w_819 : (Jvm.Cond.instanceMethod ({ cls := "TwinphaseModel", name := "closed", desc := "()I" } : Jvm.MethodName)) ∈ gtbl := gm 868 (by decide +kernel) rfl
theorem w_820 : (Jvm.Cond.selects "TwinphaseModel" ({ cls := "TwinphaseModel", name := "closed", desc := "()I" } : Jvm.MethodName) ({ cls := "TwinphaseModel", name := "closed", desc := "()I" } : Jvm.MethodName)) ∈ gtbl := gm 869 (by decide +kernel) rfl
theorem w_821 : (Jvm.Cond.code ({ cls := "TwinphaseModel", name := "closed", desc := "()I" } : Jvm.MethodName) prog_7_method_10_code (1 : Nat) (Option.some Jvm.ClassFile.FieldType.int)) ∈ gtbl := gm 870 (by decide +kernel) rfl
theorem w_822 : (Jvm.Cond.methodLink "TwinphaseModel" (111 : Nat) ({ cls := "TwinphaseModel", name := "closedNow", desc := "()I" } : Jvm.MethodName)) ∈ gtbl := gm 871 (by decide +kernel) rfl
theorem w_824 : (Jvm.Cond.instanceMethod ({ cls := "TwinphaseModel", name := "closedNow", desc := "()I" } : Jvm.MethodName)) ∈ gtbl := gm 873 (by decide +kernel) rfl
theorem w_825 : (Jvm.Cond.code ({ cls := "TwinphaseModel", name := "closedNow", desc := "()I" } : Jvm.MethodName) prog_7_method_9_code (1 : Nat) (Option.some Jvm.ClassFile.FieldType.int)) ∈ gtbl := gm 874 (by decide +kernel) rfl
theorem w_826 : (Jvm.Cond.methodLink "TwinphaseLaw" (109 : Nat) ({ cls := "TwinphaseModel", name := "down", desc := "(I)I" } : Jvm.MethodName)) ∈ gtbl := gm 875 (by decide +kernel) rfl
theorem w_827 : (Jvm.Cond.instanceMethod ({ cls := "TwinphaseModel", name := "down", desc := "(I)I" } : Jvm.MethodName)) ∈ gtbl := gm 876 (by decide +kernel) rfl
theorem w_828 : (Jvm.Cond.selects "TwinphaseModel" ({ cls := "TwinphaseModel", name := "down", desc := "(I)I" } : Jvm.MethodName) ({ cls := "TwinphaseModel", name := "down", desc := "(I)I" } : Jvm.MethodName)) ∈ gtbl := gm 877 (by decide +kernel) rfl
theorem w_829 : (Jvm.Cond.code ({ cls := "TwinphaseModel", name := "down", desc := "(I)I" } : Jvm.MethodName) prog_7_method_13_code (4 : Nat) (Option.some Jvm.ClassFile.FieldType.int)) ∈ gtbl := gm 878 (by decide +kernel) rfl
theorem w_830 : (Jvm.Cond.methodLink "TwinphaseModel" (118 : Nat) ({ cls := "TwinphaseModel", name := "nodeOf", desc := "(I)I" } : Jvm.MethodName)) ∈ gtbl := gm 879 (by decide +kernel) rfl
theorem w_832 : (Jvm.Cond.instanceMethod ({ cls := "TwinphaseModel", name := "nodeOf", desc := "(I)I" } : Jvm.MethodName)) ∈ gtbl := gm 881 (by decide +kernel) rfl
theorem w_833 : (Jvm.Cond.code ({ cls := "TwinphaseModel", name := "nodeOf", desc := "(I)I" } : Jvm.MethodName) prog_7_method_12_code (2 : Nat) (Option.some Jvm.ClassFile.FieldType.int)) ∈ gtbl := gm 882 (by decide +kernel) rfl
theorem w_834 : (Jvm.Cond.methodLink "TwinphaseModel" (115 : Nat) ({ cls := "TwinphaseModel", name := "rangeOf", desc := "(I)I" } : Jvm.MethodName)) ∈ gtbl := gm 883 (by decide +kernel) rfl
theorem w_836 : (Jvm.Cond.instanceMethod ({ cls := "TwinphaseModel", name := "rangeOf", desc := "(I)I" } : Jvm.MethodName)) ∈ gtbl := gm 885 (by decide +kernel) rfl
theorem w_837 : (Jvm.Cond.code ({ cls := "TwinphaseModel", name := "rangeOf", desc := "(I)I" } : Jvm.MethodName) prog_7_method_11_code (3 : Nat) (Option.some Jvm.ClassFile.FieldType.int)) ∈ gtbl := gm 886 (by decide +kernel) rfl
theorem w_838 : (Jvm.Cond.methodLink "TwinphaseLaw" (112 : Nat) ({ cls := "TwinphaseModel", name := "up", desc := "(I)I" } : Jvm.MethodName)) ∈ gtbl := gm 887 (by decide +kernel) rfl
theorem w_839 : (Jvm.Cond.instanceMethod ({ cls := "TwinphaseModel", name := "up", desc := "(I)I" } : Jvm.MethodName)) ∈ gtbl := gm 888 (by decide +kernel) rfl
theorem w_840 : (Jvm.Cond.selects "TwinphaseModel" ({ cls := "TwinphaseModel", name := "up", desc := "(I)I" } : Jvm.MethodName) ({ cls := "TwinphaseModel", name := "up", desc := "(I)I" } : Jvm.MethodName)) ∈ gtbl := gm 889 (by decide +kernel) rfl
theorem w_841 : (Jvm.Cond.code ({ cls := "TwinphaseModel", name := "up", desc := "(I)I" } : Jvm.MethodName) prog_7_method_15_code (4 : Nat) (Option.some Jvm.ClassFile.FieldType.int)) ∈ gtbl := gm 890 (by decide +kernel) rfl
theorem w_842 : (Jvm.Cond.methodLink "TwinphaseModel" (121 : Nat) ({ cls := "TwinphaseModel", name := "covers", desc := "(II)V" } : Jvm.MethodName)) ∈ gtbl := gm 891 (by decide +kernel) rfl
theorem w_844 : (Jvm.Cond.instanceMethod ({ cls := "TwinphaseModel", name := "covers", desc := "(II)V" } : Jvm.MethodName)) ∈ gtbl := gm 893 (by decide +kernel) rfl
theorem w_845 : (Jvm.Cond.code ({ cls := "TwinphaseModel", name := "covers", desc := "(II)V" } : Jvm.MethodName) prog_7_method_14_code (3 : Nat) (Option.none : Option Jvm.ClassFile.FieldType)) ∈ gtbl := gm 894 (by decide +kernel) rfl
theorem w_846 : (Jvm.Cond.methodLink "TwinphaseLaw" (115 : Nat) ({ cls := "TwinphaseModel", name := "sync", desc := "(I)I" } : Jvm.MethodName)) ∈ gtbl := gm 895 (by decide +kernel) rfl
theorem w_847 : (Jvm.Cond.instanceMethod ({ cls := "TwinphaseModel", name := "sync", desc := "(I)I" } : Jvm.MethodName)) ∈ gtbl := gm 896 (by decide +kernel) rfl
theorem w_848 : (Jvm.Cond.selects "TwinphaseModel" ({ cls := "TwinphaseModel", name := "sync", desc := "(I)I" } : Jvm.MethodName) ({ cls := "TwinphaseModel", name := "sync", desc := "(I)I" } : Jvm.MethodName)) ∈ gtbl := gm 897 (by decide +kernel) rfl
theorem w_849 : (Jvm.Cond.code ({ cls := "TwinphaseModel", name := "sync", desc := "(I)I" } : Jvm.MethodName) prog_7_method_16_code (4 : Nat) (Option.some Jvm.ClassFile.FieldType.int)) ∈ gtbl := gm 898 (by decide +kernel) rfl
theorem w_850 : (Jvm.Cond.methodLink "TwinphaseLaw" (118 : Nat) ({ cls := "TwinphaseModel", name := "split", desc := "(I)I" } : Jvm.MethodName)) ∈ gtbl := gm 899 (by decide +kernel) rfl
theorem w_851 : (Jvm.Cond.instanceMethod ({ cls := "TwinphaseModel", name := "split", desc := "(I)I" } : Jvm.MethodName)) ∈ gtbl := gm 900 (by decide +kernel) rfl
theorem w_852 : (Jvm.Cond.selects "TwinphaseModel" ({ cls := "TwinphaseModel", name := "split", desc := "(I)I" } : Jvm.MethodName) ({ cls := "TwinphaseModel", name := "split", desc := "(I)I" } : Jvm.MethodName)) ∈ gtbl := gm 901 (by decide +kernel) rfl
theorem w_853 : (Jvm.Cond.code ({ cls := "TwinphaseModel", name := "split", desc := "(I)I" } : Jvm.MethodName) prog_7_method_17_code (4 : Nat) (Option.some Jvm.ClassFile.FieldType.int)) ∈ gtbl := gm 902 (by decide +kernel) rfl
theorem w_854 : (Jvm.Cond.methodLink "TwinphaseLaw" (121 : Nat) ({ cls := "TwinphaseModel", name := "merge", desc := "(I)I" } : Jvm.MethodName)) ∈ gtbl := gm 903 (by decide +kernel) rfl
theorem w_855 : (Jvm.Cond.instanceMethod ({ cls := "TwinphaseModel", name := "merge", desc := "(I)I" } : Jvm.MethodName)) ∈ gtbl := gm 904 (by decide +kernel) rfl
theorem w_856 : (Jvm.Cond.selects "TwinphaseModel" ({ cls := "TwinphaseModel", name := "merge", desc := "(I)I" } : Jvm.MethodName) ({ cls := "TwinphaseModel", name := "merge", desc := "(I)I" } : Jvm.MethodName)) ∈ gtbl := gm 905 (by decide +kernel) rfl
theorem w_857 : (Jvm.Cond.code ({ cls := "TwinphaseModel", name := "merge", desc := "(I)I" } : Jvm.MethodName) prog_7_method_18_code (3 : Nat) (Option.some Jvm.ClassFile.FieldType.int)) ∈ gtbl := gm 906 (by decide +kernel) rfl
theorem w_858 : (Jvm.Cond.methodLink "TwinphaseLaw" (124 : Nat) ({ cls := "TwinphaseModel", name := "move", desc := "(II)I" } : Jvm.MethodName)) ∈ gtbl := gm 907 (by decide +kernel) rfl
theorem w_859 : (Jvm.Cond.instanceMethod ({ cls := "TwinphaseModel", name := "move", desc := "(II)I" } : Jvm.MethodName)) ∈ gtbl := gm 908 (by decide +kernel) rfl
theorem w_860 : (Jvm.Cond.selects "TwinphaseModel" ({ cls := "TwinphaseModel", name := "move", desc := "(II)I" } : Jvm.MethodName) ({ cls := "TwinphaseModel", name := "move", desc := "(II)I" } : Jvm.MethodName)) ∈ gtbl := gm 909 (by decide +kernel) rfl
theorem w_861 : (Jvm.Cond.code ({ cls := "TwinphaseModel", name := "move", desc := "(II)I" } : Jvm.MethodName) prog_7_method_19_code (6 : Nat) (Option.some Jvm.ClassFile.FieldType.int)) ∈ gtbl := gm 910 (by decide +kernel) rfl
theorem w_862 : (Jvm.Cond.methodLink "TwinphaseLaw" (127 : Nat) ({ cls := "TwinphaseModel", name := "begin", desc := "(II)I" } : Jvm.MethodName)) ∈ gtbl := gm 911 (by decide +kernel) rfl
theorem w_863 : (Jvm.Cond.instanceMethod ({ cls := "TwinphaseModel", name := "begin", desc := "(II)I" } : Jvm.MethodName)) ∈ gtbl := gm 912 (by decide +kernel) rfl
theorem w_864 : (Jvm.Cond.selects "TwinphaseModel" ({ cls := "TwinphaseModel", name := "begin", desc := "(II)I" } : Jvm.MethodName) ({ cls := "TwinphaseModel", name := "begin", desc := "(II)I" } : Jvm.MethodName)) ∈ gtbl := gm 913 (by decide +kernel) rfl
theorem w_865 : (Jvm.Cond.code ({ cls := "TwinphaseModel", name := "begin", desc := "(II)I" } : Jvm.MethodName) prog_7_method_20_code (5 : Nat) (Option.some Jvm.ClassFile.FieldType.int)) ∈ gtbl := gm 914 (by decide +kernel) rfl
theorem w_866 : (Jvm.Cond.methodLink "TwinphaseModel" (128 : Nat) ({ cls := "TwinphaseModel", name := "forgets", desc := "(I)V" } : Jvm.MethodName)) ∈ gtbl := gm 915 (by decide +kernel) rfl
theorem w_868 : (Jvm.Cond.instanceMethod ({ cls := "TwinphaseModel", name := "forgets", desc := "(I)V" } : Jvm.MethodName)) ∈ gtbl := gm 917 (by decide +kernel) rfl
theorem w_869 : (Jvm.Cond.code ({ cls := "TwinphaseModel", name := "forgets", desc := "(I)V" } : Jvm.MethodName) prog_7_method_21_code (3 : Nat) (Option.none : Option Jvm.ClassFile.FieldType)) ∈ gtbl := gm 918 (by decide +kernel) rfl
theorem w_870 : (Jvm.Cond.methodLink "TwinphaseLaw" (130 : Nat) ({ cls := "TwinphaseModel", name := "get", desc := "(II)I" } : Jvm.MethodName)) ∈ gtbl := gm 919 (by decide +kernel) rfl
theorem w_871 : (Jvm.Cond.instanceMethod ({ cls := "TwinphaseModel", name := "get", desc := "(II)I" } : Jvm.MethodName)) ∈ gtbl := gm 920 (by decide +kernel) rfl
theorem w_872 : (Jvm.Cond.selects "TwinphaseModel" ({ cls := "TwinphaseModel", name := "get", desc := "(II)I" } : Jvm.MethodName) ({ cls := "TwinphaseModel", name := "get", desc := "(II)I" } : Jvm.MethodName)) ∈ gtbl := gm 921 (by decide +kernel) rfl
theorem w_873 : (Jvm.Cond.code ({ cls := "TwinphaseModel", name := "get", desc := "(II)I" } : Jvm.MethodName) prog_7_method_37_code (10 : Nat) (Option.some Jvm.ClassFile.FieldType.int)) ∈ gtbl := gm 922 (by decide +kernel) rfl
theorem w_874 : (Jvm.Cond.methodLink "TwinphaseModel" (163 : Nat) ({ cls := "TwinphaseModel", name := "areThere", desc := "(II)Z" } : Jvm.MethodName)) ∈ gtbl := gm 923 (by decide +kernel) rfl
theorem w_876 : (Jvm.Cond.instanceMethod ({ cls := "TwinphaseModel", name := "areThere", desc := "(II)Z" } : Jvm.MethodName)) ∈ gtbl := gm 925 (by decide +kernel) rfl
theorem w_877 : (Jvm.Cond.code ({ cls := "TwinphaseModel", name := "areThere", desc := "(II)Z" } : Jvm.MethodName) prog_7_method_36_code (3 : Nat) (Option.some Jvm.ClassFile.FieldType.boolean)) ∈ gtbl := gm 926 (by decide +kernel) rfl
theorem w_878 : (Jvm.Cond.methodLink "TwinphaseModel" (167 : Nat) ({ cls := "TwinphaseModel", name := "opens", desc := "(II)I" } : Jvm.MethodName)) ∈ gtbl := gm 927 (by decide +kernel) rfl
theorem w_880 : (Jvm.Cond.instanceMethod ({ cls := "TwinphaseModel", name := "opens", desc := "(II)I" } : Jvm.MethodName)) ∈ gtbl := gm 929 (by decide +kernel) rfl
theorem w_881 : (Jvm.Cond.code ({ cls := "TwinphaseModel", name := "opens", desc := "(II)I" } : Jvm.MethodName) prog_7_method_35_code (5 : Nat) (Option.some Jvm.ClassFile.FieldType.int)) ∈ gtbl := gm 930 (by decide +kernel) rfl
theorem w_882 : (Jvm.Cond.methodLink "TwinphaseModel" (153 : Nat) ({ cls := "TwinphaseModel", name := "meets", desc := "(II)I" } : Jvm.MethodName)) ∈ gtbl := gm 931 (by decide +kernel) rfl
theorem w_884 : (Jvm.Cond.instanceMethod ({ cls := "TwinphaseModel", name := "meets", desc := "(II)I" } : Jvm.MethodName)) ∈ gtbl := gm 933 (by decide +kernel) rfl
theorem w_885 : (Jvm.Cond.code ({ cls := "TwinphaseModel", name := "meets", desc := "(II)I" } : Jvm.MethodName) prog_7_method_26_code (4 : Nat) (Option.some Jvm.ClassFile.FieldType.int)) ∈ gtbl := gm 934 (by decide +kernel) rfl
theorem w_886 : (Jvm.Cond.methodLink "TwinphaseModel" (144 : Nat) ({ cls := "TwinphaseModel", name := "recovers", desc := "(I)V" } : Jvm.MethodName)) ∈ gtbl := gm 935 (by decide +kernel) rfl
theorem w_888 : (Jvm.Cond.instanceMethod ({ cls := "TwinphaseModel", name := "recovers", desc := "(I)V" } : Jvm.MethodName)) ∈ gtbl := gm 937 (by decide +kernel) rfl
theorem w_889 : (Jvm.Cond.code ({ cls := "TwinphaseModel", name := "recovers", desc := "(I)V" } : Jvm.MethodName) prog_7_method_25_code (2 : Nat) (Option.none : Option Jvm.ClassFile.FieldType)) ∈ gtbl := gm 938 (by decide +kernel) rfl
theorem w_890 : (Jvm.Cond.methodLink "TwinphaseModel" (138 : Nat) ({ cls := "TwinphaseModel", name := "hasAllIntents", desc := "(I)Z" } : Jvm.MethodName)) ∈ gtbl := gm 939 (by decide +kernel) rfl
theorem w_892 : (Jvm.Cond.instanceMethod ({ cls := "TwinphaseModel", name := "hasAllIntents", desc := "(I)Z" } : Jvm.MethodName)) ∈ gtbl := gm 941 (by decide +kernel) rfl
theorem w_893 : (Jvm.Cond.code ({ cls := "TwinphaseModel", name := "hasAllIntents", desc := "(I)Z" } : Jvm.MethodName) prog_7_method_24_code (4 : Nat) (Option.some Jvm.ClassFile.FieldType.boolean)) ∈ gtbl := gm 942 (by decide +kernel) rfl
theorem w_894 : (Jvm.Cond.methodLink "TwinphaseModel" (142 : Nat) ({ cls := "TwinphaseModel", name := "commits", desc := "(I)V" } : Jvm.MethodName)) ∈ gtbl := gm 943 (by decide +kernel) rfl
theorem w_896 : (Jvm.Cond.instanceMethod ({ cls := "TwinphaseModel", name := "commits", desc := "(I)V" } : Jvm.MethodName)) ∈ gtbl := gm 945 (by decide +kernel) rfl
theorem w_897 : (Jvm.Cond.code ({ cls := "TwinphaseModel", name := "commits", desc := "(I)V" } : Jvm.MethodName) prog_7_method_23_code (3 : Nat) (Option.none : Option Jvm.ClassFile.FieldType)) ∈ gtbl := gm 946 (by decide +kernel) rfl
theorem w_898 : (Jvm.Cond.methodLink "TwinphaseModel" (147 : Nat) ({ cls := "TwinphaseModel", name := "isVanished", desc := "(I)Z" } : Jvm.MethodName)) ∈ gtbl := gm 947 (by decide +kernel) rfl
theorem w_900 : (Jvm.Cond.instanceMethod ({ cls := "TwinphaseModel", name := "isVanished", desc := "(I)Z" } : Jvm.MethodName)) ∈ gtbl := gm 949 (by decide +kernel) rfl
theorem w_901 : (Jvm.Cond.code ({ cls := "TwinphaseModel", name := "isVanished", desc := "(I)Z" } : Jvm.MethodName) prog_7_method_22_code (2 : Nat) (Option.some Jvm.ClassFile.FieldType.boolean)) ∈ gtbl := gm 950 (by decide +kernel) rfl
theorem w_902 : (Jvm.Cond.methodLink "TwinphaseModel" (170 : Nat) ({ cls := "TwinphaseModel", name := "comesAnew", desc := "(II)Z" } : Jvm.MethodName)) ∈ gtbl := gm 951 (by decide +kernel) rfl
theorem w_904 : (Jvm.Cond.instanceMethod ({ cls := "TwinphaseModel", name := "comesAnew", desc := "(II)Z" } : Jvm.MethodName)) ∈ gtbl := gm 953 (by decide +kernel) rfl
theorem w_905 : (Jvm.Cond.code ({ cls := "TwinphaseModel", name := "comesAnew", desc := "(II)Z" } : Jvm.MethodName) prog_7_method_33_code (6 : Nat) (Option.some Jvm.ClassFile.FieldType.boolean)) ∈ gtbl := gm 954 (by decide +kernel) rfl
theorem w_906 : (Jvm.Cond.methodLink "TwinphaseModel" (160 : Nat) ({ cls := "TwinphaseModel", name := "waitsFor", desc := "(I)I" } : Jvm.MethodName)) ∈ gtbl := gm 955 (by decide +kernel) rfl
theorem w_908 : (Jvm.Cond.instanceMethod ({ cls := "TwinphaseModel", name := "waitsFor", desc := "(I)I" } : Jvm.MethodName)) ∈ gtbl := gm 957 (by decide +kernel) rfl
theorem w_909 : (Jvm.Cond.code ({ cls := "TwinphaseModel", name := "waitsFor", desc := "(I)I" } : Jvm.MethodName) prog_7_method_32_code (2 : Nat) (Option.some Jvm.ClassFile.FieldType.int)) ∈ gtbl := gm 958 (by decide +kernel) rfl
theorem w_910 : (Jvm.Cond.methodLink "TwinphaseModel" (173 : Nat) ({ cls := "TwinphaseModel", name := "waitAnswer", desc := "(I)I" } : Jvm.MethodName)) ∈ gtbl := gm 959 (by decide +kernel) rfl
theorem w_912 : (Jvm.Cond.instanceMethod ({ cls := "TwinphaseModel", name := "waitAnswer", desc := "(I)I" } : Jvm.MethodName)) ∈ gtbl := gm 961 (by decide +kernel) rfl
theorem w_913 : (Jvm.Cond.code ({ cls := "TwinphaseModel", name := "waitAnswer", desc := "(I)I" } : Jvm.MethodName) prog_7_method_34_code (2 : Nat) (Option.some Jvm.ClassFile.FieldType.int)) ∈ gtbl := gm 962 (by decide +kernel) rfl
theorem w_914 : (Jvm.Cond.methodLink "TwinphaseModel" (150 : Nat) ({ cls := "TwinphaseModel", name := "latest", desc := "(II)I" } : Jvm.MethodName)) ∈ gtbl := gm 963 (by decide +kernel) rfl
theorem w_916 : (Jvm.Cond.instanceMethod ({ cls := "TwinphaseModel", name := "latest", desc := "(II)I" } : Jvm.MethodName)) ∈ gtbl := gm 965 (by decide +kernel) rfl
theorem w_917 : (Jvm.Cond.code ({ cls := "TwinphaseModel", name := "latest", desc := "(II)I" } : Jvm.MethodName) prog_7_method_27_code (5 : Nat) (Option.some Jvm.ClassFile.FieldType.int)) ∈ gtbl := gm 966 (by decide +kernel) rfl
theorem w_918 : (Jvm.Cond.methodLink "TwinphaseModel" (176 : Nat) ({ cls := "TwinphaseModel", name := "refreshes", desc := "(II)Z" } : Jvm.MethodName)) ∈ gtbl := gm 967 (by decide +kernel) rfl
theorem w_920 : (Jvm.Cond.instanceMethod ({ cls := "TwinphaseModel", name := "refreshes", desc := "(II)Z" } : Jvm.MethodName)) ∈ gtbl := gm 969 (by decide +kernel) rfl
theorem w_921 : (Jvm.Cond.code ({ cls := "TwinphaseModel", name := "refreshes", desc := "(II)Z" } : Jvm.MethodName) prog_7_method_30_code (5 : Nat) (Option.some Jvm.ClassFile.FieldType.boolean)) ∈ gtbl := gm 970 (by decide +kernel) rfl
theorem w_922 : (Jvm.Cond.methodLink "TwinphaseModel" (156 : Nat) ({ cls := "TwinphaseModel", name := "marks", desc := "(III)V" } : Jvm.MethodName)) ∈ gtbl := gm 971 (by decide +kernel) rfl
theorem w_924 : (Jvm.Cond.instanceMethod ({ cls := "TwinphaseModel", name := "marks", desc := "(III)V" } : Jvm.MethodName)) ∈ gtbl := gm 973 (by decide +kernel) rfl
theorem w_925 : (Jvm.Cond.code ({ cls := "TwinphaseModel", name := "marks", desc := "(III)V" } : Jvm.MethodName) prog_7_method_29_code (4 : Nat) (Option.none : Option Jvm.ClassFile.FieldType)) ∈ gtbl := gm 974 (by decide +kernel) rfl
theorem w_926 : (Jvm.Cond.methodLink "TwinphaseModel" (179 : Nat) ({ cls := "TwinphaseModel", name := "restarts", desc := "(II)I" } : Jvm.MethodName)) ∈ gtbl := gm 975 (by decide +kernel) rfl
theorem w_928 : (Jvm.Cond.instanceMethod ({ cls := "TwinphaseModel", name := "restarts", desc := "(II)I" } : Jvm.MethodName)) ∈ gtbl := gm 977 (by decide +kernel) rfl
theorem w_929 : (Jvm.Cond.code ({ cls := "TwinphaseModel", name := "restarts", desc := "(II)I" } : Jvm.MethodName) prog_7_method_31_code (4 : Nat) (Option.some Jvm.ClassFile.FieldType.int)) ∈ gtbl := gm 978 (by decide +kernel) rfl
theorem w_930 : (Jvm.Cond.methodLink "TwinphaseModel" (182 : Nat) ({ cls := "TwinphaseModel", name := "valueAt", desc := "(II)I" } : Jvm.MethodName)) ∈ gtbl := gm 979 (by decide +kernel) rfl
theorem w_932 : (Jvm.Cond.instanceMethod ({ cls := "TwinphaseModel", name := "valueAt", desc := "(II)I" } : Jvm.MethodName)) ∈ gtbl := gm 981 (by decide +kernel) rfl
theorem w_933 : (Jvm.Cond.code ({ cls := "TwinphaseModel", name := "valueAt", desc := "(II)I" } : Jvm.MethodName) prog_7_method_28_code (6 : Nat) (Option.some Jvm.ClassFile.FieldType.int)) ∈ gtbl := gm 982 (by decide +kernel) rfl
theorem w_934 : (Jvm.Cond.methodLink "TwinphaseLaw" (134 : Nat) ({ cls := "TwinphaseModel", name := "put", desc := "(III)I" } : Jvm.MethodName)) ∈ gtbl := gm 983 (by decide +kernel) rfl
theorem w_935 : (Jvm.Cond.instanceMethod ({ cls := "TwinphaseModel", name := "put", desc := "(III)I" } : Jvm.MethodName)) ∈ gtbl := gm 984 (by decide +kernel) rfl
theorem w_936 : (Jvm.Cond.selects "TwinphaseModel" ({ cls := "TwinphaseModel", name := "put", desc := "(III)I" } : Jvm.MethodName) ({ cls := "TwinphaseModel", name := "put", desc := "(III)I" } : Jvm.MethodName)) ∈ gtbl := gm 985 (by decide +kernel) rfl
theorem w_937 : (Jvm.Cond.code ({ cls := "TwinphaseModel", name := "put", desc := "(III)I" } : Jvm.MethodName) prog_7_method_38_code (7 : Nat) (Option.some Jvm.ClassFile.FieldType.int)) ∈ gtbl := gm 986 (by decide +kernel) rfl
theorem w_938 : (Jvm.Cond.constant "TwinphaseModel" (185 : Nat) (1000000 : Int32)) ∈ gtbl := gm 987 (by decide +kernel) rfl
theorem w_939 : (Jvm.Cond.methodLink "TwinphaseLaw" (138 : Nat) ({ cls := "TwinphaseModel", name := "commit", desc := "(IZ)I" } : Jvm.MethodName)) ∈ gtbl := gm 988 (by decide +kernel) rfl
theorem w_940 : (Jvm.Cond.instanceMethod ({ cls := "TwinphaseModel", name := "commit", desc := "(IZ)I" } : Jvm.MethodName)) ∈ gtbl := gm 989 (by decide +kernel) rfl
theorem w_941 : (Jvm.Cond.selects "TwinphaseModel" ({ cls := "TwinphaseModel", name := "commit", desc := "(IZ)I" } : Jvm.MethodName) ({ cls := "TwinphaseModel", name := "commit", desc := "(IZ)I" } : Jvm.MethodName)) ∈ gtbl := gm 990 (by decide +kernel) rfl
theorem w_942 : (Jvm.Cond.code ({ cls := "TwinphaseModel", name := "commit", desc := "(IZ)I" } : Jvm.MethodName) prog_7_method_41_code (6 : Nat) (Option.some Jvm.ClassFile.FieldType.int)) ∈ gtbl := gm 991 (by decide +kernel) rfl
theorem w_943 : (Jvm.Cond.methodLink "TwinphaseModel" (186 : Nat) ({ cls := "TwinphaseModel", name := "isTransaction", desc := "(I)Z" } : Jvm.MethodName)) ∈ gtbl := gm 992 (by decide +kernel) rfl
theorem w_945 : (Jvm.Cond.instanceMethod ({ cls := "TwinphaseModel", name := "isTransaction", desc := "(I)Z" } : Jvm.MethodName)) ∈ gtbl := gm 994 (by decide +kernel) rfl
theorem w_946 : (Jvm.Cond.code ({ cls := "TwinphaseModel", name := "isTransaction", desc := "(I)Z" } : Jvm.MethodName) prog_7_method_40_code (2 : Nat) (Option.some Jvm.ClassFile.FieldType.boolean)) ∈ gtbl := gm 995 (by decide +kernel) rfl
theorem w_947 : (Jvm.Cond.methodLink "TwinphaseModel" (189 : Nat) ({ cls := "TwinphaseModel", name := "counts", desc := "(I[I)I" } : Jvm.MethodName)) ∈ gtbl := gm 996 (by decide +kernel) rfl
theorem w_949 : (Jvm.Cond.instanceMethod ({ cls := "TwinphaseModel", name := "counts", desc := "(I[I)I" } : Jvm.MethodName)) ∈ gtbl := gm 998 (by decide +kernel) rfl
theorem w_950 : (Jvm.Cond.code ({ cls := "TwinphaseModel", name := "counts", desc := "(I[I)I" } : Jvm.MethodName) prog_7_method_39_code (5 : Nat) (Option.some Jvm.ClassFile.FieldType.int)) ∈ gtbl := gm 999 (by decide +kernel) rfl
theorem w_951 : (Jvm.Cond.methodLink "TwinphaseLaw" (141 : Nat) ({ cls := "TwinphaseModel", name := "abort", desc := "(I)I" } : Jvm.MethodName)) ∈ gtbl := gm 1000 (by decide +kernel) rfl
theorem w_952 : (Jvm.Cond.instanceMethod ({ cls := "TwinphaseModel", name := "abort", desc := "(I)I" } : Jvm.MethodName)) ∈ gtbl := gm 1001 (by decide +kernel) rfl
theorem w_953 : (Jvm.Cond.selects "TwinphaseModel" ({ cls := "TwinphaseModel", name := "abort", desc := "(I)I" } : Jvm.MethodName) ({ cls := "TwinphaseModel", name := "abort", desc := "(I)I" } : Jvm.MethodName)) ∈ gtbl := gm 1002 (by decide +kernel) rfl
theorem w_954 : (Jvm.Cond.code ({ cls := "TwinphaseModel", name := "abort", desc := "(I)I" } : Jvm.MethodName) prog_7_method_42_code (2 : Nat) (Option.some Jvm.ClassFile.FieldType.int)) ∈ gtbl := gm 1003 (by decide +kernel) rfl
theorem w_955 : (Jvm.Cond.methodLink "TwinphaseLaw" (144 : Nat) ({ cls := "TwinphaseModel", name := "recover", desc := "(I)I" } : Jvm.MethodName)) ∈ gtbl := gm 1004 (by decide +kernel) rfl
theorem w_956 : (Jvm.Cond.instanceMethod ({ cls := "TwinphaseModel", name := "recover", desc := "(I)I" } : Jvm.MethodName)) ∈ gtbl := gm 1005 (by decide +kernel) rfl
theorem w_957 : (Jvm.Cond.selects "TwinphaseModel" ({ cls := "TwinphaseModel", name := "recover", desc := "(I)I" } : Jvm.MethodName) ({ cls := "TwinphaseModel", name := "recover", desc := "(I)I" } : Jvm.MethodName)) ∈ gtbl := gm 1006 (by decide +kernel) rfl
theorem w_958 : (Jvm.Cond.code ({ cls := "TwinphaseModel", name := "recover", desc := "(I)I" } : Jvm.MethodName) prog_7_method_43_code (2 : Nat) (Option.some Jvm.ClassFile.FieldType.int)) ∈ gtbl := gm 1007 (by decide +kernel) rfl
theorem w_959 : (Jvm.Cond.methodLink "TwinphaseLaw" (147 : Nat) ({ cls := "TwinphaseModel", name := "beat", desc := "(I)I" } : Jvm.MethodName)) ∈ gtbl := gm 1008 (by decide +kernel) rfl
theorem w_960 : (Jvm.Cond.instanceMethod ({ cls := "TwinphaseModel", name := "beat", desc := "(I)I" } : Jvm.MethodName)) ∈ gtbl := gm 1009 (by decide +kernel) rfl
theorem w_961 : (Jvm.Cond.selects "TwinphaseModel" ({ cls := "TwinphaseModel", name := "beat", desc := "(I)I" } : Jvm.MethodName) ({ cls := "TwinphaseModel", name := "beat", desc := "(I)I" } : Jvm.MethodName)) ∈ gtbl := gm 1010 (by decide +kernel) rfl
theorem w_962 : (Jvm.Cond.code ({ cls := "TwinphaseModel", name := "beat", desc := "(I)I" } : Jvm.MethodName) prog_7_method_44_code (2 : Nat) (Option.some Jvm.ClassFile.FieldType.int)) ∈ gtbl := gm 1011 (by decide +kernel) rfl
theorem w_963 : (Jvm.Cond.methodLink "TwinphaseLaw" (150 : Nat) ({ cls := "TwinphaseModel", name := "told", desc := "(II)I" } : Jvm.MethodName)) ∈ gtbl := gm 1012 (by decide +kernel) rfl
theorem w_964 : (Jvm.Cond.instanceMethod ({ cls := "TwinphaseModel", name := "told", desc := "(II)I" } : Jvm.MethodName)) ∈ gtbl := gm 1013 (by decide +kernel) rfl
theorem w_965 : (Jvm.Cond.selects "TwinphaseModel" ({ cls := "TwinphaseModel", name := "told", desc := "(II)I" } : Jvm.MethodName) ({ cls := "TwinphaseModel", name := "told", desc := "(II)I" } : Jvm.MethodName)) ∈ gtbl := gm 1014 (by decide +kernel) rfl
theorem w_966 : (Jvm.Cond.code ({ cls := "TwinphaseModel", name := "told", desc := "(II)I" } : Jvm.MethodName) prog_7_method_45_code (4 : Nat) (Option.some Jvm.ClassFile.FieldType.int)) ∈ gtbl := gm 1015 (by decide +kernel) rfl
theorem w_967 : (Jvm.Cond.methodLink "TwinphaseLaw" (153 : Nat) ({ cls := "TwinphaseModel", name := "key", desc := "(II)I" } : Jvm.MethodName)) ∈ gtbl := gm 1016 (by decide +kernel) rfl
theorem w_968 : (Jvm.Cond.instanceMethod ({ cls := "TwinphaseModel", name := "key", desc := "(II)I" } : Jvm.MethodName)) ∈ gtbl := gm 1017 (by decide +kernel) rfl
theorem w_969 : (Jvm.Cond.selects "TwinphaseModel" ({ cls := "TwinphaseModel", name := "key", desc := "(II)I" } : Jvm.MethodName) ({ cls := "TwinphaseModel", name := "key", desc := "(II)I" } : Jvm.MethodName)) ∈ gtbl := gm 1018 (by decide +kernel) rfl
theorem w_970 : (Jvm.Cond.code ({ cls := "TwinphaseModel", name := "key", desc := "(II)I" } : Jvm.MethodName) prog_7_method_46_code (5 : Nat) (Option.some Jvm.ClassFile.FieldType.int)) ∈ gtbl := gm 1019 (by decide +kernel) rfl
theorem w_971 : (Jvm.Cond.methodLink "TwinphaseLaw" (156 : Nat) ({ cls := "TwinphaseModel", name := "asOf", desc := "(II)I" } : Jvm.MethodName)) ∈ gtbl := gm 1020 (by decide +kernel) rfl
theorem w_972 : (Jvm.Cond.instanceMethod ({ cls := "TwinphaseModel", name := "asOf", desc := "(II)I" } : Jvm.MethodName)) ∈ gtbl := gm 1021 (by decide +kernel) rfl
theorem w_973 : (Jvm.Cond.selects "TwinphaseModel" ({ cls := "TwinphaseModel", name := "asOf", desc := "(II)I" } : Jvm.MethodName) ({ cls := "TwinphaseModel", name := "asOf", desc := "(II)I" } : Jvm.MethodName)) ∈ gtbl := gm 1022 (by decide +kernel) rfl
theorem w_974 : (Jvm.Cond.code ({ cls := "TwinphaseModel", name := "asOf", desc := "(II)I" } : Jvm.MethodName) prog_7_method_47_code (4 : Nat) (Option.some Jvm.ClassFile.FieldType.int)) ∈ gtbl := gm 1023 (by decide +kernel) rfl
theorem w_975 : (Jvm.Cond.methodLink "TwinphaseLaw" (160 : Nat) ({ cls := "TwinphaseModel", name := "resolved", desc := "()I" } : Jvm.MethodName)) ∈ gtbl := gm 1024 (by decide +kernel) rfl
theorem w_976 : (Jvm.Cond.instanceMethod ({ cls := "TwinphaseModel", name := "resolved", desc := "()I" } : Jvm.MethodName)) ∈ gtbl := gm 1025 (by decide +kernel) rfl
theorem w_977 : (Jvm.Cond.selects "TwinphaseModel" ({ cls := "TwinphaseModel", name := "resolved", desc := "()I" } : Jvm.MethodName) ({ cls := "TwinphaseModel", name := "resolved", desc := "()I" } : Jvm.MethodName)) ∈ gtbl := gm 1026 (by decide +kernel) rfl
theorem w_978 : (Jvm.Cond.code ({ cls := "TwinphaseModel", name := "resolved", desc := "()I" } : Jvm.MethodName) prog_7_method_49_code (1 : Nat) (Option.some Jvm.ClassFile.FieldType.int)) ∈ gtbl := gm 1027 (by decide +kernel) rfl
theorem w_979 : (Jvm.Cond.methodLink "TwinphaseModel" (193 : Nat) ({ cls := "TwinphaseModel", name := "resolvedNow", desc := "()I" } : Jvm.MethodName)) ∈ gtbl := gm 1028 (by decide +kernel) rfl
theorem w_981 : (Jvm.Cond.instanceMethod ({ cls := "TwinphaseModel", name := "resolvedNow", desc := "()I" } : Jvm.MethodName)) ∈ gtbl := gm 1030 (by decide +kernel) rfl
theorem w_982 : (Jvm.Cond.code ({ cls := "TwinphaseModel", name := "resolvedNow", desc := "()I" } : Jvm.MethodName) prog_7_method_48_code (3 : Nat) (Option.some Jvm.ClassFile.FieldType.int)) ∈ gtbl := gm 1031 (by decide +kernel) rfl
theorem w_983 : (Jvm.Cond.methodLink "TwinphaseLaw" (163 : Nat) ({ cls := "TwinphaseModel", name := "feed", desc := "(I)I" } : Jvm.MethodName)) ∈ gtbl := gm 1032 (by decide +kernel) rfl
theorem w_984 : (Jvm.Cond.instanceMethod ({ cls := "TwinphaseModel", name := "feed", desc := "(I)I" } : Jvm.MethodName)) ∈ gtbl := gm 1033 (by decide +kernel) rfl
theorem w_985 : (Jvm.Cond.selects "TwinphaseModel" ({ cls := "TwinphaseModel", name := "feed", desc := "(I)I" } : Jvm.MethodName) ({ cls := "TwinphaseModel", name := "feed", desc := "(I)I" } : Jvm.MethodName)) ∈ gtbl := gm 1034 (by decide +kernel) rfl
theorem w_986 : (Jvm.Cond.code ({ cls := "TwinphaseModel", name := "feed", desc := "(I)I" } : Jvm.MethodName) prog_7_method_50_code (8 : Nat) (Option.some Jvm.ClassFile.FieldType.int)) ∈ gtbl := gm 1035 (by decide +kernel) rfl
theorem w_987 : (Jvm.Cond.methodLink "TwinphaseLaw" (166 : Nat) ({ cls := "TwinphaseModel", name := "order", desc := "(I)I" } : Jvm.MethodName)) ∈ gtbl := gm 1036 (by decide +kernel) rfl
theorem w_988 : (Jvm.Cond.instanceMethod ({ cls := "TwinphaseModel", name := "order", desc := "(I)I" } : Jvm.MethodName)) ∈ gtbl := gm 1037 (by decide +kernel) rfl
theorem w_989 : (Jvm.Cond.selects "TwinphaseModel" ({ cls := "TwinphaseModel", name := "order", desc := "(I)I" } : Jvm.MethodName) ({ cls := "TwinphaseModel", name := "order", desc := "(I)I" } : Jvm.MethodName)) ∈ gtbl := gm 1038 (by decide +kernel) rfl
theorem w_990 : (Jvm.Cond.code ({ cls := "TwinphaseModel", name := "order", desc := "(I)I" } : Jvm.MethodName) prog_7_method_53_code (4 : Nat) (Option.some Jvm.ClassFile.FieldType.int)) ∈ gtbl := gm 1039 (by decide +kernel) rfl
theorem w_991 : (Jvm.Cond.methodLink "TwinphaseModel" (199 : Nat) ({ cls := "TwinphaseModel", name := "next", desc := "(I)I" } : Jvm.MethodName)) ∈ gtbl := gm 1040 (by decide +kernel) rfl
theorem w_993 : (Jvm.Cond.instanceMethod ({ cls := "TwinphaseModel", name := "next", desc := "(I)I" } : Jvm.MethodName)) ∈ gtbl := gm 1042 (by decide +kernel) rfl
theorem w_994 : (Jvm.Cond.code ({ cls := "TwinphaseModel", name := "next", desc := "(I)I" } : Jvm.MethodName) prog_7_method_51_code (5 : Nat) (Option.some Jvm.ClassFile.FieldType.int)) ∈ gtbl := gm 1043 (by decide +kernel) rfl
theorem w_995 : (Jvm.Cond.methodLink "TwinphaseModel" (196 : Nat) ({ cls := "TwinphaseModel", name := "isAhead", desc := "(II)Z" } : Jvm.MethodName)) ∈ gtbl := gm 1044 (by decide +kernel) rfl
theorem w_997 : (Jvm.Cond.instanceMethod ({ cls := "TwinphaseModel", name := "isAhead", desc := "(II)Z" } : Jvm.MethodName)) ∈ gtbl := gm 1046 (by decide +kernel) rfl
theorem w_998 : (Jvm.Cond.code ({ cls := "TwinphaseModel", name := "isAhead", desc := "(II)Z" } : Jvm.MethodName) prog_7_method_52_code (3 : Nat) (Option.some Jvm.ClassFile.FieldType.boolean)) ∈ gtbl := gm 1047 (by decide +kernel) rfl
theorem w_999 : (Jvm.Cond.methodLink "TwinphaseLaw" (170 : Nat) ({ cls := "TwinphaseModel", name := "judged", desc := "()I" } : Jvm.MethodName)) ∈ gtbl := gm 1048 (by decide +kernel) rfl
theorem w_1000 : (Jvm.Cond.instanceMethod ({ cls := "TwinphaseModel", name := "judged", desc := "()I" } : Jvm.MethodName)) ∈ gtbl := gm 1049 (by decide +kernel) rfl
theorem w_1001 : (Jvm.Cond.selects "TwinphaseModel" ({ cls := "TwinphaseModel", name := "judged", desc := "()I" } : Jvm.MethodName) ({ cls := "TwinphaseModel", name := "judged", desc := "()I" } : Jvm.MethodName)) ∈ gtbl := gm 1050 (by decide +kernel) rfl
theorem w_1002 : (Jvm.Cond.code ({ cls := "TwinphaseModel", name := "judged", desc := "()I" } : Jvm.MethodName) prog_7_method_54_code (4 : Nat) (Option.some Jvm.ClassFile.FieldType.int)) ∈ gtbl := gm 1051 (by decide +kernel) rfl
theorem w_1003 : (Jvm.Cond.arrayClass Jvm.ClassFile.FieldType.long) ∈ gtbl := gm 1052 (by decide +kernel) rfl
theorem w_1004 : (Jvm.Cond.sameMethod "java/lang/Throwable" "java/lang/Throwable" "fillInStackTrace" "(I)Ljava/lang/Throwable;") ∈ gtbl := gm 1053 (by decide +kernel) rfl
end
section
/-! the world: where each of our cells stands, and what it holds -/
abbrev St : Type := Nat → Nat → Int32
def up (S : St) (v i : Nat) (x : Int32) : St := fun w j => if w = v ∧ j = i then x else S w j
theorem up_eq {S : St} {v i : Nat} {x : Int32} : up S v i x v i = x := by simp [up]
theorem up_row {S : St} {v i w : Nat} {x : Int32} (h : w ≠ v) : up S v i x w = S w := by funext j; simp [up, h]
theorem up_ne {S : St} {v i w j : Nat} {x : Int32} (h : w ≠ v ∨ j ≠ i) : up S v i x w j = S w j := by
  unfold up
  rw [if_neg]
  rintro ⟨h1, h2⟩
  rcases h with h | h
  · exact h h1
  · exact h h2
theorem up_t0 {S : St} {v i j : Nat} {x : Int32} (hv : v < 50) : up S v i x (50 + 3 * j) = S (50 + 3 * j) := up_row (by omega)
theorem up_t1 {S : St} {v i j : Nat} {x : Int32} (hv : v < 50) : up S v i x (51 + 3 * j) = S (51 + 3 * j) := up_row (by omega)
theorem up_t2 {S : St} {v i j : Nat} {x : Int32} (hv : v < 50) : up S v i x (52 + 3 * j) = S (52 + 3 * j) := up_row (by omega)
theorem up_self {S : St} {v i : Nat} {x : Int32} : up S v i x v = upd (S v) i x := by funext j; simp [up, upd]
abbrev GT : Type := Launch × va_G × (Nat → ClassId) × Nat × (Nat → Nat)
def gl (g : GT) : Launch := g.1
def gD (g : GT) : va_G := g.2.1
def gc (g : GT) (k : Nat) : ClassId := g.2.2.1 k
def gN (g : GT) : Nat := g.2.2.2.1
def ad (g : GT) (n : Nat) : Nat := g.2.2.2.2 n
def gA (g : GT) : Nat → Prop := fun q => gN g ≤ q
abbrev gtys (g : GT) : List (ClassId × FieldType) := [(gc g 0, .int), (gc g 1, .boolean), (gc g 2, .long), (gc g 3, .object RX2), (gc g 4, .object RX0), (gc g 5, .object RX3)]
def hp (g : GT) (h : Nat × Nat) (n : Nat) : Nat := if n = 5 then h.1 else if n = 6 then h.2 else ad g n
theorem hp_ad {g : GT} {h : Nat × Nat} {n : Nat} (h5 : n ≠ 5) (h6 : n ≠ 6) : hp g h n = ad g n := by simp [hp, h5, h6]
/-- a transaction by its number; none below 0 -/
def trO (g : GT) (x : Int32) : Option Nat := if x < 0 then none else some (ad g (73 + 4 * x.toNatClampNeg))
def iA (g : GT) (t n : Nat) (f : Nat → Int32) : va_E := .inl (gc g t, n, .inl f)
def rA (g : GT) (t n : Nat) (f : Nat → Option Nat) : va_E := .inl (gc g t, n, .inr (.inr (.inr (.inr f))))
def nodeE (C : St) (k : Nat) : va_E := .inr (2, [.int (C 1 k), .int (C 2 k), .int (C 3 k)])
def cellE (g : GT) (C : St) (k : Nat) : va_E := .inr (0, [.int (C 4 k), .int (C 5 k), va_rf (trO g (C 6 k)), .int (C 7 k), .int (C 8 k), .int (C 9 k)])
def txO (g : GT) (C : St) (i : Nat) : va_E := .inr (3, [.int (C 11 i), .int (C 12 i), .int (C 13 i), .int (C 14 i), .int (C 15 i), .int (C 16 i), .int (C 17 i), .int (C 18 i), va_rf (trO g (C 19 i)), .int (C 20 i), .int (C 21 i), .int (C 22 i), .ref (ad g (73 + 4 * i + 1)), .ref (ad g (73 + 4 * i + 2)), .ref (ad g (73 + 4 * i + 3))])
def txE (g : GT) (C : St) (i r : Nat) : va_E := if r = 0 then txO g C i else if r = 1 then iA g 0 32 (C (50 + 3 * i)) else if r = 2 then iA g 0 32 (C (51 + 3 * i)) else iA g 0 4 (C (52 + 3 * i))
/-- History arrays' lengths, Nats -/
def cap (C : St) : Nat := (C 27 0).toNatClampNeg
def capv (C : St) : Nat := (C 34 0).toNatClampNeg
def fixE (g : GT) (h : Nat × Nat) (c0 c10 c26 c31 : Int32) (cp cq : Nat) (c28 c29 c30 c32 c33 : Nat → Int32) (M : St) (o : Int64) (n : Nat) : va_E := match n with
  | 0 => .inr (4, [.int c0, .ref (ad g 1), .ref (ad g 2), .ref (ad g 3), .int c10, .ref (ad g 4)])
  | 1 => rA g 3 4 (fun k => some (ad g (37 + k)))
  | 2 => rA g 4 32 (fun k => some (ad g (41 + k)))
  | 3 => rA g 5 40 (fun k => trO g (c33 k))
  | 4 => .inr (1, [.ref h.1, .ref h.2, .int c26, .ref (ad g 7), .int c31, .ref (ad g 8)])
  | 5 => iA g 0 cp c28
  | 6 => iA g 0 cq c29
  | 7 => rA g 5 40 (fun k => trO g (c30 k))
  | 8 => iA g 0 32 c32
  | 9 => .inl (gc g 2, 1, .inr (.inl (fun _ => o)))
  | 10 => .inr (5, [.int (M 0 0), .ref (ad g 11), .ref (ad g 12), .ref (ad g 13), .int (M 4 0), .ref (ad g 14), .ref (ad g 15), .ref (ad g 16), .ref (ad g 17), .ref (ad g 18), .ref (ad g 19), .ref (ad g 20), .int (M 12 0), .ref (ad g 21), .ref (ad g 22), .ref (ad g 23), .int (M 16 0), .ref (ad g 24), .ref (ad g 25), .ref (ad g 26), .ref (ad g 27), .ref (ad g 28), .ref (ad g 29), .ref (ad g 30), .ref (ad g 31), .ref (ad g 32), .int (M 26 0), .ref (ad g 33), .ref (ad g 34), .ref (ad g 35), .ref (ad g 36), .int (M 31 0)])
  | 11 => iA g 0 4 (M 1)
  | 12 => iA g 0 4 (M 2)
  | 13 => iA g 1 4 (M 3)
  | 14 => iA g 0 32 (M 5)
  | 15 => iA g 0 32 (M 6)
  | 16 => iA g 0 32 (M 7)
  | 17 => iA g 1 32 (M 8)
  | 18 => iA g 0 32 (M 9)
  | 19 => iA g 0 32 (M 10)
  | 20 => iA g 0 32 (M 11)
  | 21 => iA g 0 1300 (M 13)
  | 22 => iA g 0 1300 (M 14)
  | 23 => iA g 0 1300 (M 15)
  | 24 => iA g 0 40 (M 17)
  | 25 => iA g 0 40 (M 18)
  | 26 => iA g 0 40 (M 19)
  | 27 => iA g 0 40 (M 20)
  | 28 => iA g 0 40 (M 21)
  | 29 => iA g 0 40 (M 22)
  | 30 => iA g 0 40 (M 23)
  | 31 => iA g 0 40 (M 24)
  | 32 => iA g 0 40 (M 25)
  | 33 => iA g 0 160 (M 27)
  | 34 => iA g 0 1280 (M 28)
  | 35 => iA g 0 1280 (M 29)
  | 36 => iA g 0 32 (M 30)
  | _ => .inr (0, [])
def ent (g : GT) (h : Nat × Nat) (C M : St) (o : Int64) (n : Nat) : va_E := if n < 37 then fixE g h (C 0 0) (C 10 0) (C 26 0) (C 31 0) (cap C) (capv C) (C 28) (C 29) (C 30) (C 32) (C 33) M o n else if n < 41 then nodeE C (n - 37) else if n < 73 then cellE g C (n - 41) else txE g C ((n - 73) / 4) ((n - 73) % 4)
def wld (g : GT) (nt : Nat) (h : Nat × Nat) (C M : St) (o : Int64) : va_W := (List.range (73 + 4 * nt)).map (fun n => (hp g h n, ent g h C M o n))
theorem wld_at {g : GT} {nt : Nat} {h : Nat × Nat} {C M : St} {o : Int64} {n : Nat} (hn : n < 73 + 4 * nt) : (wld g nt h C M o)[n]? = some (hp g h n, ent g h C M o n) := by
  unfold wld
  rw [List.getElem?_map, List.getElem?_range hn]
  rfl
theorem wld_set {g : GT} {nt : Nat} {h : Nat × Nat} {C M C' M' : St} {o o' : Int64} {n : Nat} {e' : va_E} (hn : n < 73 + 4 * nt) (h1 : ent g h C' M' o' n = e') (h2 : ∀ m, m ≠ n → ent g h C' M' o' m = ent g h C M o m) : (wld g nt h C M o).set n (hp g h n, e') = wld g nt h C' M' o' := by
  apply List.ext_getElem?
  intro m
  by_cases hm : m < 73 + 4 * nt
  · rw [wld_at hm]
    by_cases e : m = n
    · subst e
      rw [List.getElem?_set_self (by simp [wld, hn]), h1]
    · rw [List.getElem?_set_ne (fun q => e q.symm), wld_at hm, h2 m e]
  · rw [List.getElem?_eq_none (by simp [wld]; omega), List.getElem?_eq_none (by simp [wld]; omega)]
def Rep (g : GT) (nt : Nat) (h : Nat × Nat) (C M : St) (o : Int64) (H : Heap) : Prop := va_P (gD g) vwCl (wld g nt h C M o) H ∧ va_D (gA g) (wld g nt h C M o)
theorem ent_fix {g : GT} {h : Nat × Nat} {C M : St} {o : Int64} {n : Nat} (hn : n < 37) : ent g h C M o n = fixE g h (C 0 0) (C 10 0) (C 26 0) (C 31 0) (cap C) (capv C) (C 28) (C 29) (C 30) (C 32) (C 33) M o n := by unfold ent; rw [if_pos hn]
theorem ent_node {g : GT} {h : Nat × Nat} {C M : St} {o : Int64} {k : Nat} (hk : k < 4) : ent g h C M o (37 + k) = nodeE C k := by
  unfold ent
  rw [if_neg (by omega), if_pos (by omega), show 37 + k - 37 = k by omega]
theorem ent_cell {g : GT} {h : Nat × Nat} {C M : St} {o : Int64} {k : Nat} (hk : k < 32) : ent g h C M o (41 + k) = cellE g C k := by
  unfold ent
  rw [if_neg (by omega), if_neg (by omega), if_pos (by omega), show 41 + k - 41 = k by omega]
theorem ent_tx {g : GT} {h : Nat × Nat} {C M : St} {o : Int64} {i r : Nat} (hr : r < 4) : ent g h C M o (73 + 4 * i + r) = txE g C i r := by
  unfold ent
  rw [if_neg (by omega), if_neg (by omega), if_neg (by omega), show (73 + 4 * i + r - 73) / 4 = i by omega, show (73 + 4 * i + r - 73) % 4 = r by omega]
theorem ent_txO {g : GT} {h : Nat × Nat} {C M : St} {o : Int64} {i : Nat} : ent g h C M o (73 + 4 * i) = txO g C i := by
  have e := ent_tx (g := g) (h := h) (C := C) (M := M) (o := o) (i := i) (r := 0) (by omega)
  rw [Nat.add_zero] at e
  rw [e]
  rfl
theorem eC_0 {g : GT} {h : Nat × Nat} {C M : St} {o : Int64} {x : Int32} {i m : Nat} (hm : m ≠ 0) : ent g h (up C 0 i x) M o m = ent g h C M o m := by
  unfold ent
  simp only [nodeE, cellE, txE, txO, cap, capv, up_row (S := C) (i := i) (x := x) (show 1 ≠ 0 by decide), up_row (S := C) (i := i) (x := x) (show 2 ≠ 0 by decide), up_row (S := C) (i := i) (x := x) (show 3 ≠ 0 by decide), up_row (S := C) (i := i) (x := x) (show 4 ≠ 0 by decide), up_row (S := C) (i := i) (x := x) (show 5 ≠ 0 by decide), up_row (S := C) (i := i) (x := x) (show 6 ≠ 0 by decide), up_row (S := C) (i := i) (x := x) (show 7 ≠ 0 by decide), up_row (S := C) (i := i) (x := x) (show 8 ≠ 0 by decide), up_row (S := C) (i := i) (x := x) (show 9 ≠ 0 by decide), up_row (S := C) (i := i) (x := x) (show 10 ≠ 0 by decide), up_row (S := C) (i := i) (x := x) (show 11 ≠ 0 by decide), up_row (S := C) (i := i) (x := x) (show 12 ≠ 0 by decide), up_row (S := C) (i := i) (x := x) (show 13 ≠ 0 by decide), up_row (S := C) (i := i) (x := x) (show 14 ≠ 0 by decide), up_row (S := C) (i := i) (x := x) (show 15 ≠ 0 by decide), up_row (S := C) (i := i) (x := x) (show 16 ≠ 0 by decide), up_row (S := C) (i := i) (x := x) (show 17 ≠ 0 by decide), up_row (S := C) (i := i) (x := x) (show 18 ≠ 0 by decide), up_row (S := C) (i := i) (x := x) (show 19 ≠ 0 by decide), up_row (S := C) (i := i) (x := x) (show 20 ≠ 0 by decide), up_row (S := C) (i := i) (x := x) (show 21 ≠ 0 by decide), up_row (S := C) (i := i) (x := x) (show 22 ≠ 0 by decide), up_row (S := C) (i := i) (x := x) (show 26 ≠ 0 by decide), up_row (S := C) (i := i) (x := x) (show 27 ≠ 0 by decide), up_row (S := C) (i := i) (x := x) (show 28 ≠ 0 by decide), up_row (S := C) (i := i) (x := x) (show 29 ≠ 0 by decide), up_row (S := C) (i := i) (x := x) (show 30 ≠ 0 by decide), up_row (S := C) (i := i) (x := x) (show 31 ≠ 0 by decide), up_row (S := C) (i := i) (x := x) (show 32 ≠ 0 by decide), up_row (S := C) (i := i) (x := x) (show 33 ≠ 0 by decide), up_row (S := C) (i := i) (x := x) (show 34 ≠ 0 by decide), up_t0 (S := C) (i := i) (x := x) (show 0 < 50 by decide), up_t1 (S := C) (i := i) (x := x) (show 0 < 50 by decide), up_t2 (S := C) (i := i) (x := x) (show 0 < 50 by decide)]
  split
  · unfold fixE
    split <;> first | rfl | exact absurd rfl hm
  · rfl
theorem eC_1 {g : GT} {h : Nat × Nat} {C M : St} {o : Int64} {x : Int32} {i m : Nat} (hm : m ≠ 37 + i) : ent g h (up C 1 i x) M o m = ent g h C M o m := by
  unfold ent
  simp only [nodeE, cellE, txE, txO, cap, capv, up_row (S := C) (i := i) (x := x) (show 0 ≠ 1 by decide), up_row (S := C) (i := i) (x := x) (show 2 ≠ 1 by decide), up_row (S := C) (i := i) (x := x) (show 3 ≠ 1 by decide), up_row (S := C) (i := i) (x := x) (show 4 ≠ 1 by decide), up_row (S := C) (i := i) (x := x) (show 5 ≠ 1 by decide), up_row (S := C) (i := i) (x := x) (show 6 ≠ 1 by decide), up_row (S := C) (i := i) (x := x) (show 7 ≠ 1 by decide), up_row (S := C) (i := i) (x := x) (show 8 ≠ 1 by decide), up_row (S := C) (i := i) (x := x) (show 9 ≠ 1 by decide), up_row (S := C) (i := i) (x := x) (show 10 ≠ 1 by decide), up_row (S := C) (i := i) (x := x) (show 11 ≠ 1 by decide), up_row (S := C) (i := i) (x := x) (show 12 ≠ 1 by decide), up_row (S := C) (i := i) (x := x) (show 13 ≠ 1 by decide), up_row (S := C) (i := i) (x := x) (show 14 ≠ 1 by decide), up_row (S := C) (i := i) (x := x) (show 15 ≠ 1 by decide), up_row (S := C) (i := i) (x := x) (show 16 ≠ 1 by decide), up_row (S := C) (i := i) (x := x) (show 17 ≠ 1 by decide), up_row (S := C) (i := i) (x := x) (show 18 ≠ 1 by decide), up_row (S := C) (i := i) (x := x) (show 19 ≠ 1 by decide), up_row (S := C) (i := i) (x := x) (show 20 ≠ 1 by decide), up_row (S := C) (i := i) (x := x) (show 21 ≠ 1 by decide), up_row (S := C) (i := i) (x := x) (show 22 ≠ 1 by decide), up_row (S := C) (i := i) (x := x) (show 26 ≠ 1 by decide), up_row (S := C) (i := i) (x := x) (show 27 ≠ 1 by decide), up_row (S := C) (i := i) (x := x) (show 28 ≠ 1 by decide), up_row (S := C) (i := i) (x := x) (show 29 ≠ 1 by decide), up_row (S := C) (i := i) (x := x) (show 30 ≠ 1 by decide), up_row (S := C) (i := i) (x := x) (show 31 ≠ 1 by decide), up_row (S := C) (i := i) (x := x) (show 32 ≠ 1 by decide), up_row (S := C) (i := i) (x := x) (show 33 ≠ 1 by decide), up_row (S := C) (i := i) (x := x) (show 34 ≠ 1 by decide), up_t0 (S := C) (i := i) (x := x) (show 1 < 50 by decide), up_t1 (S := C) (i := i) (x := x) (show 1 < 50 by decide), up_t2 (S := C) (i := i) (x := x) (show 1 < 50 by decide)]
  split
  · rfl
  · skip
    split
    · rw [up_ne (Or.inr (by omega))]
    · rfl
theorem eC_2 {g : GT} {h : Nat × Nat} {C M : St} {o : Int64} {x : Int32} {i m : Nat} (hm : m ≠ 37 + i) : ent g h (up C 2 i x) M o m = ent g h C M o m := by
  unfold ent
  simp only [nodeE, cellE, txE, txO, cap, capv, up_row (S := C) (i := i) (x := x) (show 0 ≠ 2 by decide), up_row (S := C) (i := i) (x := x) (show 1 ≠ 2 by decide), up_row (S := C) (i := i) (x := x) (show 3 ≠ 2 by decide), up_row (S := C) (i := i) (x := x) (show 4 ≠ 2 by decide), up_row (S := C) (i := i) (x := x) (show 5 ≠ 2 by decide), up_row (S := C) (i := i) (x := x) (show 6 ≠ 2 by decide), up_row (S := C) (i := i) (x := x) (show 7 ≠ 2 by decide), up_row (S := C) (i := i) (x := x) (show 8 ≠ 2 by decide), up_row (S := C) (i := i) (x := x) (show 9 ≠ 2 by decide), up_row (S := C) (i := i) (x := x) (show 10 ≠ 2 by decide), up_row (S := C) (i := i) (x := x) (show 11 ≠ 2 by decide), up_row (S := C) (i := i) (x := x) (show 12 ≠ 2 by decide), up_row (S := C) (i := i) (x := x) (show 13 ≠ 2 by decide), up_row (S := C) (i := i) (x := x) (show 14 ≠ 2 by decide), up_row (S := C) (i := i) (x := x) (show 15 ≠ 2 by decide), up_row (S := C) (i := i) (x := x) (show 16 ≠ 2 by decide), up_row (S := C) (i := i) (x := x) (show 17 ≠ 2 by decide), up_row (S := C) (i := i) (x := x) (show 18 ≠ 2 by decide), up_row (S := C) (i := i) (x := x) (show 19 ≠ 2 by decide), up_row (S := C) (i := i) (x := x) (show 20 ≠ 2 by decide), up_row (S := C) (i := i) (x := x) (show 21 ≠ 2 by decide), up_row (S := C) (i := i) (x := x) (show 22 ≠ 2 by decide), up_row (S := C) (i := i) (x := x) (show 26 ≠ 2 by decide), up_row (S := C) (i := i) (x := x) (show 27 ≠ 2 by decide), up_row (S := C) (i := i) (x := x) (show 28 ≠ 2 by decide), up_row (S := C) (i := i) (x := x) (show 29 ≠ 2 by decide), up_row (S := C) (i := i) (x := x) (show 30 ≠ 2 by decide), up_row (S := C) (i := i) (x := x) (show 31 ≠ 2 by decide), up_row (S := C) (i := i) (x := x) (show 32 ≠ 2 by decide), up_row (S := C) (i := i) (x := x) (show 33 ≠ 2 by decide), up_row (S := C) (i := i) (x := x) (show 34 ≠ 2 by decide), up_t0 (S := C) (i := i) (x := x) (show 2 < 50 by decide), up_t1 (S := C) (i := i) (x := x) (show 2 < 50 by decide), up_t2 (S := C) (i := i) (x := x) (show 2 < 50 by decide)]
  split
  · rfl
  · skip
    split
    · rw [up_ne (Or.inr (by omega))]
    · rfl
theorem eC_3 {g : GT} {h : Nat × Nat} {C M : St} {o : Int64} {x : Int32} {i m : Nat} (hm : m ≠ 37 + i) : ent g h (up C 3 i x) M o m = ent g h C M o m := by
  unfold ent
  simp only [nodeE, cellE, txE, txO, cap, capv, up_row (S := C) (i := i) (x := x) (show 0 ≠ 3 by decide), up_row (S := C) (i := i) (x := x) (show 1 ≠ 3 by decide), up_row (S := C) (i := i) (x := x) (show 2 ≠ 3 by decide), up_row (S := C) (i := i) (x := x) (show 4 ≠ 3 by decide), up_row (S := C) (i := i) (x := x) (show 5 ≠ 3 by decide), up_row (S := C) (i := i) (x := x) (show 6 ≠ 3 by decide), up_row (S := C) (i := i) (x := x) (show 7 ≠ 3 by decide), up_row (S := C) (i := i) (x := x) (show 8 ≠ 3 by decide), up_row (S := C) (i := i) (x := x) (show 9 ≠ 3 by decide), up_row (S := C) (i := i) (x := x) (show 10 ≠ 3 by decide), up_row (S := C) (i := i) (x := x) (show 11 ≠ 3 by decide), up_row (S := C) (i := i) (x := x) (show 12 ≠ 3 by decide), up_row (S := C) (i := i) (x := x) (show 13 ≠ 3 by decide), up_row (S := C) (i := i) (x := x) (show 14 ≠ 3 by decide), up_row (S := C) (i := i) (x := x) (show 15 ≠ 3 by decide), up_row (S := C) (i := i) (x := x) (show 16 ≠ 3 by decide), up_row (S := C) (i := i) (x := x) (show 17 ≠ 3 by decide), up_row (S := C) (i := i) (x := x) (show 18 ≠ 3 by decide), up_row (S := C) (i := i) (x := x) (show 19 ≠ 3 by decide), up_row (S := C) (i := i) (x := x) (show 20 ≠ 3 by decide), up_row (S := C) (i := i) (x := x) (show 21 ≠ 3 by decide), up_row (S := C) (i := i) (x := x) (show 22 ≠ 3 by decide), up_row (S := C) (i := i) (x := x) (show 26 ≠ 3 by decide), up_row (S := C) (i := i) (x := x) (show 27 ≠ 3 by decide), up_row (S := C) (i := i) (x := x) (show 28 ≠ 3 by decide), up_row (S := C) (i := i) (x := x) (show 29 ≠ 3 by decide), up_row (S := C) (i := i) (x := x) (show 30 ≠ 3 by decide), up_row (S := C) (i := i) (x := x) (show 31 ≠ 3 by decide), up_row (S := C) (i := i) (x := x) (show 32 ≠ 3 by decide), up_row (S := C) (i := i) (x := x) (show 33 ≠ 3 by decide), up_row (S := C) (i := i) (x := x) (show 34 ≠ 3 by decide), up_t0 (S := C) (i := i) (x := x) (show 3 < 50 by decide), up_t1 (S := C) (i := i) (x := x) (show 3 < 50 by decide), up_t2 (S := C) (i := i) (x := x) (show 3 < 50 by decide)]
  split
  · rfl
  · skip
    split
    · rw [up_ne (Or.inr (by omega))]
    · rfl
theorem eC_4 {g : GT} {h : Nat × Nat} {C M : St} {o : Int64} {x : Int32} {i m : Nat} (hm : m ≠ 41 + i) : ent g h (up C 4 i x) M o m = ent g h C M o m := by
  unfold ent
  simp only [nodeE, cellE, txE, txO, cap, capv, up_row (S := C) (i := i) (x := x) (show 0 ≠ 4 by decide), up_row (S := C) (i := i) (x := x) (show 1 ≠ 4 by decide), up_row (S := C) (i := i) (x := x) (show 2 ≠ 4 by decide), up_row (S := C) (i := i) (x := x) (show 3 ≠ 4 by decide), up_row (S := C) (i := i) (x := x) (show 5 ≠ 4 by decide), up_row (S := C) (i := i) (x := x) (show 6 ≠ 4 by decide), up_row (S := C) (i := i) (x := x) (show 7 ≠ 4 by decide), up_row (S := C) (i := i) (x := x) (show 8 ≠ 4 by decide), up_row (S := C) (i := i) (x := x) (show 9 ≠ 4 by decide), up_row (S := C) (i := i) (x := x) (show 10 ≠ 4 by decide), up_row (S := C) (i := i) (x := x) (show 11 ≠ 4 by decide), up_row (S := C) (i := i) (x := x) (show 12 ≠ 4 by decide), up_row (S := C) (i := i) (x := x) (show 13 ≠ 4 by decide), up_row (S := C) (i := i) (x := x) (show 14 ≠ 4 by decide), up_row (S := C) (i := i) (x := x) (show 15 ≠ 4 by decide), up_row (S := C) (i := i) (x := x) (show 16 ≠ 4 by decide), up_row (S := C) (i := i) (x := x) (show 17 ≠ 4 by decide), up_row (S := C) (i := i) (x := x) (show 18 ≠ 4 by decide), up_row (S := C) (i := i) (x := x) (show 19 ≠ 4 by decide), up_row (S := C) (i := i) (x := x) (show 20 ≠ 4 by decide), up_row (S := C) (i := i) (x := x) (show 21 ≠ 4 by decide), up_row (S := C) (i := i) (x := x) (show 22 ≠ 4 by decide), up_row (S := C) (i := i) (x := x) (show 26 ≠ 4 by decide), up_row (S := C) (i := i) (x := x) (show 27 ≠ 4 by decide), up_row (S := C) (i := i) (x := x) (show 28 ≠ 4 by decide), up_row (S := C) (i := i) (x := x) (show 29 ≠ 4 by decide), up_row (S := C) (i := i) (x := x) (show 30 ≠ 4 by decide), up_row (S := C) (i := i) (x := x) (show 31 ≠ 4 by decide), up_row (S := C) (i := i) (x := x) (show 32 ≠ 4 by decide), up_row (S := C) (i := i) (x := x) (show 33 ≠ 4 by decide), up_row (S := C) (i := i) (x := x) (show 34 ≠ 4 by decide), up_t0 (S := C) (i := i) (x := x) (show 4 < 50 by decide), up_t1 (S := C) (i := i) (x := x) (show 4 < 50 by decide), up_t2 (S := C) (i := i) (x := x) (show 4 < 50 by decide)]
  split
  · rfl
  · skip
    split
    · rfl
    · skip
      split
      · rw [up_ne (Or.inr (by omega))]
      · rfl
theorem eC_5 {g : GT} {h : Nat × Nat} {C M : St} {o : Int64} {x : Int32} {i m : Nat} (hm : m ≠ 41 + i) : ent g h (up C 5 i x) M o m = ent g h C M o m := by
  unfold ent
  simp only [nodeE, cellE, txE, txO, cap, capv, up_row (S := C) (i := i) (x := x) (show 0 ≠ 5 by decide), up_row (S := C) (i := i) (x := x) (show 1 ≠ 5 by decide), up_row (S := C) (i := i) (x := x) (show 2 ≠ 5 by decide), up_row (S := C) (i := i) (x := x) (show 3 ≠ 5 by decide), up_row (S := C) (i := i) (x := x) (show 4 ≠ 5 by decide), up_row (S := C) (i := i) (x := x) (show 6 ≠ 5 by decide), up_row (S := C) (i := i) (x := x) (show 7 ≠ 5 by decide), up_row (S := C) (i := i) (x := x) (show 8 ≠ 5 by decide), up_row (S := C) (i := i) (x := x) (show 9 ≠ 5 by decide), up_row (S := C) (i := i) (x := x) (show 10 ≠ 5 by decide), up_row (S := C) (i := i) (x := x) (show 11 ≠ 5 by decide), up_row (S := C) (i := i) (x := x) (show 12 ≠ 5 by decide), up_row (S := C) (i := i) (x := x) (show 13 ≠ 5 by decide), up_row (S := C) (i := i) (x := x) (show 14 ≠ 5 by decide), up_row (S := C) (i := i) (x := x) (show 15 ≠ 5 by decide), up_row (S := C) (i := i) (x := x) (show 16 ≠ 5 by decide), up_row (S := C) (i := i) (x := x) (show 17 ≠ 5 by decide), up_row (S := C) (i := i) (x := x) (show 18 ≠ 5 by decide), up_row (S := C) (i := i) (x := x) (show 19 ≠ 5 by decide), up_row (S := C) (i := i) (x := x) (show 20 ≠ 5 by decide), up_row (S := C) (i := i) (x := x) (show 21 ≠ 5 by decide), up_row (S := C) (i := i) (x := x) (show 22 ≠ 5 by decide), up_row (S := C) (i := i) (x := x) (show 26 ≠ 5 by decide), up_row (S := C) (i := i) (x := x) (show 27 ≠ 5 by decide), up_row (S := C) (i := i) (x := x) (show 28 ≠ 5 by decide), up_row (S := C) (i := i) (x := x) (show 29 ≠ 5 by decide), up_row (S := C) (i := i) (x := x) (show 30 ≠ 5 by decide), up_row (S := C) (i := i) (x := x) (show 31 ≠ 5 by decide), up_row (S := C) (i := i) (x := x) (show 32 ≠ 5 by decide), up_row (S := C) (i := i) (x := x) (show 33 ≠ 5 by decide), up_row (S := C) (i := i) (x := x) (show 34 ≠ 5 by decide), up_t0 (S := C) (i := i) (x := x) (show 5 < 50 by decide), up_t1 (S := C) (i := i) (x := x) (show 5 < 50 by decide), up_t2 (S := C) (i := i) (x := x) (show 5 < 50 by decide)]
  split
  · rfl
  · skip
    split
    · rfl
    · skip
      split
      · rw [up_ne (Or.inr (by omega))]
      · rfl
theorem eC_6 {g : GT} {h : Nat × Nat} {C M : St} {o : Int64} {x : Int32} {i m : Nat} (hm : m ≠ 41 + i) : ent g h (up C 6 i x) M o m = ent g h C M o m := by
  unfold ent
  simp only [nodeE, cellE, txE, txO, cap, capv, up_row (S := C) (i := i) (x := x) (show 0 ≠ 6 by decide), up_row (S := C) (i := i) (x := x) (show 1 ≠ 6 by decide), up_row (S := C) (i := i) (x := x) (show 2 ≠ 6 by decide), up_row (S := C) (i := i) (x := x) (show 3 ≠ 6 by decide), up_row (S := C) (i := i) (x := x) (show 4 ≠ 6 by decide), up_row (S := C) (i := i) (x := x) (show 5 ≠ 6 by decide), up_row (S := C) (i := i) (x := x) (show 7 ≠ 6 by decide), up_row (S := C) (i := i) (x := x) (show 8 ≠ 6 by decide), up_row (S := C) (i := i) (x := x) (show 9 ≠ 6 by decide), up_row (S := C) (i := i) (x := x) (show 10 ≠ 6 by decide), up_row (S := C) (i := i) (x := x) (show 11 ≠ 6 by decide), up_row (S := C) (i := i) (x := x) (show 12 ≠ 6 by decide), up_row (S := C) (i := i) (x := x) (show 13 ≠ 6 by decide), up_row (S := C) (i := i) (x := x) (show 14 ≠ 6 by decide), up_row (S := C) (i := i) (x := x) (show 15 ≠ 6 by decide), up_row (S := C) (i := i) (x := x) (show 16 ≠ 6 by decide), up_row (S := C) (i := i) (x := x) (show 17 ≠ 6 by decide), up_row (S := C) (i := i) (x := x) (show 18 ≠ 6 by decide), up_row (S := C) (i := i) (x := x) (show 19 ≠ 6 by decide), up_row (S := C) (i := i) (x := x) (show 20 ≠ 6 by decide), up_row (S := C) (i := i) (x := x) (show 21 ≠ 6 by decide), up_row (S := C) (i := i) (x := x) (show 22 ≠ 6 by decide), up_row (S := C) (i := i) (x := x) (show 26 ≠ 6 by decide), up_row (S := C) (i := i) (x := x) (show 27 ≠ 6 by decide), up_row (S := C) (i := i) (x := x) (show 28 ≠ 6 by decide), up_row (S := C) (i := i) (x := x) (show 29 ≠ 6 by decide), up_row (S := C) (i := i) (x := x) (show 30 ≠ 6 by decide), up_row (S := C) (i := i) (x := x) (show 31 ≠ 6 by decide), up_row (S := C) (i := i) (x := x) (show 32 ≠ 6 by decide), up_row (S := C) (i := i) (x := x) (show 33 ≠ 6 by decide), up_row (S := C) (i := i) (x := x) (show 34 ≠ 6 by decide), up_t0 (S := C) (i := i) (x := x) (show 6 < 50 by decide), up_t1 (S := C) (i := i) (x := x) (show 6 < 50 by decide), up_t2 (S := C) (i := i) (x := x) (show 6 < 50 by decide)]
  split
  · rfl
  · skip
    split
    · rfl
    · skip
      split
      · rw [up_ne (Or.inr (by omega))]
      · rfl
theorem eC_7 {g : GT} {h : Nat × Nat} {C M : St} {o : Int64} {x : Int32} {i m : Nat} (hm : m ≠ 41 + i) : ent g h (up C 7 i x) M o m = ent g h C M o m := by
  unfold ent
  simp only [nodeE, cellE, txE, txO, cap, capv, up_row (S := C) (i := i) (x := x) (show 0 ≠ 7 by decide), up_row (S := C) (i := i) (x := x) (show 1 ≠ 7 by decide), up_row (S := C) (i := i) (x := x) (show 2 ≠ 7 by decide), up_row (S := C) (i := i) (x := x) (show 3 ≠ 7 by decide), up_row (S := C) (i := i) (x := x) (show 4 ≠ 7 by decide), up_row (S := C) (i := i) (x := x) (show 5 ≠ 7 by decide), up_row (S := C) (i := i) (x := x) (show 6 ≠ 7 by decide), up_row (S := C) (i := i) (x := x) (show 8 ≠ 7 by decide), up_row (S := C) (i := i) (x := x) (show 9 ≠ 7 by decide), up_row (S := C) (i := i) (x := x) (show 10 ≠ 7 by decide), up_row (S := C) (i := i) (x := x) (show 11 ≠ 7 by decide), up_row (S := C) (i := i) (x := x) (show 12 ≠ 7 by decide), up_row (S := C) (i := i) (x := x) (show 13 ≠ 7 by decide), up_row (S := C) (i := i) (x := x) (show 14 ≠ 7 by decide), up_row (S := C) (i := i) (x := x) (show 15 ≠ 7 by decide), up_row (S := C) (i := i) (x := x) (show 16 ≠ 7 by decide), up_row (S := C) (i := i) (x := x) (show 17 ≠ 7 by decide), up_row (S := C) (i := i) (x := x) (show 18 ≠ 7 by decide), up_row (S := C) (i := i) (x := x) (show 19 ≠ 7 by decide), up_row (S := C) (i := i) (x := x) (show 20 ≠ 7 by decide), up_row (S := C) (i := i) (x := x) (show 21 ≠ 7 by decide), up_row (S := C) (i := i) (x := x) (show 22 ≠ 7 by decide), up_row (S := C) (i := i) (x := x) (show 26 ≠ 7 by decide), up_row (S := C) (i := i) (x := x) (show 27 ≠ 7 by decide), up_row (S := C) (i := i) (x := x) (show 28 ≠ 7 by decide), up_row (S := C) (i := i) (x := x) (show 29 ≠ 7 by decide), up_row (S := C) (i := i) (x := x) (show 30 ≠ 7 by decide), up_row (S := C) (i := i) (x := x) (show 31 ≠ 7 by decide), up_row (S := C) (i := i) (x := x) (show 32 ≠ 7 by decide), up_row (S := C) (i := i) (x := x) (show 33 ≠ 7 by decide), up_row (S := C) (i := i) (x := x) (show 34 ≠ 7 by decide), up_t0 (S := C) (i := i) (x := x) (show 7 < 50 by decide), up_t1 (S := C) (i := i) (x := x) (show 7 < 50 by decide), up_t2 (S := C) (i := i) (x := x) (show 7 < 50 by decide)]
  split
  · rfl
  · skip
    split
    · rfl
    · skip
      split
      · rw [up_ne (Or.inr (by omega))]
      · rfl
theorem eC_8 {g : GT} {h : Nat × Nat} {C M : St} {o : Int64} {x : Int32} {i m : Nat} (hm : m ≠ 41 + i) : ent g h (up C 8 i x) M o m = ent g h C M o m := by
  unfold ent
  simp only [nodeE, cellE, txE, txO, cap, capv, up_row (S := C) (i := i) (x := x) (show 0 ≠ 8 by decide), up_row (S := C) (i := i) (x := x) (show 1 ≠ 8 by decide), up_row (S := C) (i := i) (x := x) (show 2 ≠ 8 by decide), up_row (S := C) (i := i) (x := x) (show 3 ≠ 8 by decide), up_row (S := C) (i := i) (x := x) (show 4 ≠ 8 by decide), up_row (S := C) (i := i) (x := x) (show 5 ≠ 8 by decide), up_row (S := C) (i := i) (x := x) (show 6 ≠ 8 by decide), up_row (S := C) (i := i) (x := x) (show 7 ≠ 8 by decide), up_row (S := C) (i := i) (x := x) (show 9 ≠ 8 by decide), up_row (S := C) (i := i) (x := x) (show 10 ≠ 8 by decide), up_row (S := C) (i := i) (x := x) (show 11 ≠ 8 by decide), up_row (S := C) (i := i) (x := x) (show 12 ≠ 8 by decide), up_row (S := C) (i := i) (x := x) (show 13 ≠ 8 by decide), up_row (S := C) (i := i) (x := x) (show 14 ≠ 8 by decide), up_row (S := C) (i := i) (x := x) (show 15 ≠ 8 by decide), up_row (S := C) (i := i) (x := x) (show 16 ≠ 8 by decide), up_row (S := C) (i := i) (x := x) (show 17 ≠ 8 by decide), up_row (S := C) (i := i) (x := x) (show 18 ≠ 8 by decide), up_row (S := C) (i := i) (x := x) (show 19 ≠ 8 by decide), up_row (S := C) (i := i) (x := x) (show 20 ≠ 8 by decide), up_row (S := C) (i := i) (x := x) (show 21 ≠ 8 by decide), up_row (S := C) (i := i) (x := x) (show 22 ≠ 8 by decide), up_row (S := C) (i := i) (x := x) (show 26 ≠ 8 by decide), up_row (S := C) (i := i) (x := x) (show 27 ≠ 8 by decide), up_row (S := C) (i := i) (x := x) (show 28 ≠ 8 by decide), up_row (S := C) (i := i) (x := x) (show 29 ≠ 8 by decide), up_row (S := C) (i := i) (x := x) (show 30 ≠ 8 by decide), up_row (S := C) (i := i) (x := x) (show 31 ≠ 8 by decide), up_row (S := C) (i := i) (x := x) (show 32 ≠ 8 by decide), up_row (S := C) (i := i) (x := x) (show 33 ≠ 8 by decide), up_row (S := C) (i := i) (x := x) (show 34 ≠ 8 by decide), up_t0 (S := C) (i := i) (x := x) (show 8 < 50 by decide), up_t1 (S := C) (i := i) (x := x) (show 8 < 50 by decide), up_t2 (S := C) (i := i) (x := x) (show 8 < 50 by decide)]
  split
  · rfl
  · skip
    split
    · rfl
    · skip
      split
      · rw [up_ne (Or.inr (by omega))]
      · rfl
theorem eC_9 {g : GT} {h : Nat × Nat} {C M : St} {o : Int64} {x : Int32} {i m : Nat} (hm : m ≠ 41 + i) : ent g h (up C 9 i x) M o m = ent g h C M o m := by
  unfold ent
  simp only [nodeE, cellE, txE, txO, cap, capv, up_row (S := C) (i := i) (x := x) (show 0 ≠ 9 by decide), up_row (S := C) (i := i) (x := x) (show 1 ≠ 9 by decide), up_row (S := C) (i := i) (x := x) (show 2 ≠ 9 by decide), up_row (S := C) (i := i) (x := x) (show 3 ≠ 9 by decide), up_row (S := C) (i := i) (x := x) (show 4 ≠ 9 by decide), up_row (S := C) (i := i) (x := x) (show 5 ≠ 9 by decide), up_row (S := C) (i := i) (x := x) (show 6 ≠ 9 by decide), up_row (S := C) (i := i) (x := x) (show 7 ≠ 9 by decide), up_row (S := C) (i := i) (x := x) (show 8 ≠ 9 by decide), up_row (S := C) (i := i) (x := x) (show 10 ≠ 9 by decide), up_row (S := C) (i := i) (x := x) (show 11 ≠ 9 by decide), up_row (S := C) (i := i) (x := x) (show 12 ≠ 9 by decide), up_row (S := C) (i := i) (x := x) (show 13 ≠ 9 by decide), up_row (S := C) (i := i) (x := x) (show 14 ≠ 9 by decide), up_row (S := C) (i := i) (x := x) (show 15 ≠ 9 by decide), up_row (S := C) (i := i) (x := x) (show 16 ≠ 9 by decide), up_row (S := C) (i := i) (x := x) (show 17 ≠ 9 by decide), up_row (S := C) (i := i) (x := x) (show 18 ≠ 9 by decide), up_row (S := C) (i := i) (x := x) (show 19 ≠ 9 by decide), up_row (S := C) (i := i) (x := x) (show 20 ≠ 9 by decide), up_row (S := C) (i := i) (x := x) (show 21 ≠ 9 by decide), up_row (S := C) (i := i) (x := x) (show 22 ≠ 9 by decide), up_row (S := C) (i := i) (x := x) (show 26 ≠ 9 by decide), up_row (S := C) (i := i) (x := x) (show 27 ≠ 9 by decide), up_row (S := C) (i := i) (x := x) (show 28 ≠ 9 by decide), up_row (S := C) (i := i) (x := x) (show 29 ≠ 9 by decide), up_row (S := C) (i := i) (x := x) (show 30 ≠ 9 by decide), up_row (S := C) (i := i) (x := x) (show 31 ≠ 9 by decide), up_row (S := C) (i := i) (x := x) (show 32 ≠ 9 by decide), up_row (S := C) (i := i) (x := x) (show 33 ≠ 9 by decide), up_row (S := C) (i := i) (x := x) (show 34 ≠ 9 by decide), up_t0 (S := C) (i := i) (x := x) (show 9 < 50 by decide), up_t1 (S := C) (i := i) (x := x) (show 9 < 50 by decide), up_t2 (S := C) (i := i) (x := x) (show 9 < 50 by decide)]
  split
  · rfl
  · skip
    split
    · rfl
    · skip
      split
      · rw [up_ne (Or.inr (by omega))]
      · rfl
theorem eC_10 {g : GT} {h : Nat × Nat} {C M : St} {o : Int64} {x : Int32} {i m : Nat} (hm : m ≠ 0) : ent g h (up C 10 i x) M o m = ent g h C M o m := by
  unfold ent
  simp only [nodeE, cellE, txE, txO, cap, capv, up_row (S := C) (i := i) (x := x) (show 0 ≠ 10 by decide), up_row (S := C) (i := i) (x := x) (show 1 ≠ 10 by decide), up_row (S := C) (i := i) (x := x) (show 2 ≠ 10 by decide), up_row (S := C) (i := i) (x := x) (show 3 ≠ 10 by decide), up_row (S := C) (i := i) (x := x) (show 4 ≠ 10 by decide), up_row (S := C) (i := i) (x := x) (show 5 ≠ 10 by decide), up_row (S := C) (i := i) (x := x) (show 6 ≠ 10 by decide), up_row (S := C) (i := i) (x := x) (show 7 ≠ 10 by decide), up_row (S := C) (i := i) (x := x) (show 8 ≠ 10 by decide), up_row (S := C) (i := i) (x := x) (show 9 ≠ 10 by decide), up_row (S := C) (i := i) (x := x) (show 11 ≠ 10 by decide), up_row (S := C) (i := i) (x := x) (show 12 ≠ 10 by decide), up_row (S := C) (i := i) (x := x) (show 13 ≠ 10 by decide), up_row (S := C) (i := i) (x := x) (show 14 ≠ 10 by decide), up_row (S := C) (i := i) (x := x) (show 15 ≠ 10 by decide), up_row (S := C) (i := i) (x := x) (show 16 ≠ 10 by decide), up_row (S := C) (i := i) (x := x) (show 17 ≠ 10 by decide), up_row (S := C) (i := i) (x := x) (show 18 ≠ 10 by decide), up_row (S := C) (i := i) (x := x) (show 19 ≠ 10 by decide), up_row (S := C) (i := i) (x := x) (show 20 ≠ 10 by decide), up_row (S := C) (i := i) (x := x) (show 21 ≠ 10 by decide), up_row (S := C) (i := i) (x := x) (show 22 ≠ 10 by decide), up_row (S := C) (i := i) (x := x) (show 26 ≠ 10 by decide), up_row (S := C) (i := i) (x := x) (show 27 ≠ 10 by decide), up_row (S := C) (i := i) (x := x) (show 28 ≠ 10 by decide), up_row (S := C) (i := i) (x := x) (show 29 ≠ 10 by decide), up_row (S := C) (i := i) (x := x) (show 30 ≠ 10 by decide), up_row (S := C) (i := i) (x := x) (show 31 ≠ 10 by decide), up_row (S := C) (i := i) (x := x) (show 32 ≠ 10 by decide), up_row (S := C) (i := i) (x := x) (show 33 ≠ 10 by decide), up_row (S := C) (i := i) (x := x) (show 34 ≠ 10 by decide), up_t0 (S := C) (i := i) (x := x) (show 10 < 50 by decide), up_t1 (S := C) (i := i) (x := x) (show 10 < 50 by decide), up_t2 (S := C) (i := i) (x := x) (show 10 < 50 by decide)]
  split
  · unfold fixE
    split <;> first | rfl | exact absurd rfl hm
  · rfl
theorem eC_11 {g : GT} {h : Nat × Nat} {C M : St} {o : Int64} {x : Int32} {i m : Nat} (hm : m ≠ 73 + 4 * i) : ent g h (up C 11 i x) M o m = ent g h C M o m := by
  unfold ent
  simp only [nodeE, cellE, txE, txO, cap, capv, up_row (S := C) (i := i) (x := x) (show 0 ≠ 11 by decide), up_row (S := C) (i := i) (x := x) (show 1 ≠ 11 by decide), up_row (S := C) (i := i) (x := x) (show 2 ≠ 11 by decide), up_row (S := C) (i := i) (x := x) (show 3 ≠ 11 by decide), up_row (S := C) (i := i) (x := x) (show 4 ≠ 11 by decide), up_row (S := C) (i := i) (x := x) (show 5 ≠ 11 by decide), up_row (S := C) (i := i) (x := x) (show 6 ≠ 11 by decide), up_row (S := C) (i := i) (x := x) (show 7 ≠ 11 by decide), up_row (S := C) (i := i) (x := x) (show 8 ≠ 11 by decide), up_row (S := C) (i := i) (x := x) (show 9 ≠ 11 by decide), up_row (S := C) (i := i) (x := x) (show 10 ≠ 11 by decide), up_row (S := C) (i := i) (x := x) (show 12 ≠ 11 by decide), up_row (S := C) (i := i) (x := x) (show 13 ≠ 11 by decide), up_row (S := C) (i := i) (x := x) (show 14 ≠ 11 by decide), up_row (S := C) (i := i) (x := x) (show 15 ≠ 11 by decide), up_row (S := C) (i := i) (x := x) (show 16 ≠ 11 by decide), up_row (S := C) (i := i) (x := x) (show 17 ≠ 11 by decide), up_row (S := C) (i := i) (x := x) (show 18 ≠ 11 by decide), up_row (S := C) (i := i) (x := x) (show 19 ≠ 11 by decide), up_row (S := C) (i := i) (x := x) (show 20 ≠ 11 by decide), up_row (S := C) (i := i) (x := x) (show 21 ≠ 11 by decide), up_row (S := C) (i := i) (x := x) (show 22 ≠ 11 by decide), up_row (S := C) (i := i) (x := x) (show 26 ≠ 11 by decide), up_row (S := C) (i := i) (x := x) (show 27 ≠ 11 by decide), up_row (S := C) (i := i) (x := x) (show 28 ≠ 11 by decide), up_row (S := C) (i := i) (x := x) (show 29 ≠ 11 by decide), up_row (S := C) (i := i) (x := x) (show 30 ≠ 11 by decide), up_row (S := C) (i := i) (x := x) (show 31 ≠ 11 by decide), up_row (S := C) (i := i) (x := x) (show 32 ≠ 11 by decide), up_row (S := C) (i := i) (x := x) (show 33 ≠ 11 by decide), up_row (S := C) (i := i) (x := x) (show 34 ≠ 11 by decide), up_t0 (S := C) (i := i) (x := x) (show 11 < 50 by decide), up_t1 (S := C) (i := i) (x := x) (show 11 < 50 by decide), up_t2 (S := C) (i := i) (x := x) (show 11 < 50 by decide)]
  split
  · rfl
  · skip
    split
    · rfl
    · skip
      split
      · rfl
      · skip
        split
        · rw [up_ne (Or.inr (by omega))]
        · rfl
theorem eC_12 {g : GT} {h : Nat × Nat} {C M : St} {o : Int64} {x : Int32} {i m : Nat} (hm : m ≠ 73 + 4 * i) : ent g h (up C 12 i x) M o m = ent g h C M o m := by
  unfold ent
  simp only [nodeE, cellE, txE, txO, cap, capv, up_row (S := C) (i := i) (x := x) (show 0 ≠ 12 by decide), up_row (S := C) (i := i) (x := x) (show 1 ≠ 12 by decide), up_row (S := C) (i := i) (x := x) (show 2 ≠ 12 by decide), up_row (S := C) (i := i) (x := x) (show 3 ≠ 12 by decide), up_row (S := C) (i := i) (x := x) (show 4 ≠ 12 by decide), up_row (S := C) (i := i) (x := x) (show 5 ≠ 12 by decide), up_row (S := C) (i := i) (x := x) (show 6 ≠ 12 by decide), up_row (S := C) (i := i) (x := x) (show 7 ≠ 12 by decide), up_row (S := C) (i := i) (x := x) (show 8 ≠ 12 by decide), up_row (S := C) (i := i) (x := x) (show 9 ≠ 12 by decide), up_row (S := C) (i := i) (x := x) (show 10 ≠ 12 by decide), up_row (S := C) (i := i) (x := x) (show 11 ≠ 12 by decide), up_row (S := C) (i := i) (x := x) (show 13 ≠ 12 by decide), up_row (S := C) (i := i) (x := x) (show 14 ≠ 12 by decide), up_row (S := C) (i := i) (x := x) (show 15 ≠ 12 by decide), up_row (S := C) (i := i) (x := x) (show 16 ≠ 12 by decide), up_row (S := C) (i := i) (x := x) (show 17 ≠ 12 by decide), up_row (S := C) (i := i) (x := x) (show 18 ≠ 12 by decide), up_row (S := C) (i := i) (x := x) (show 19 ≠ 12 by decide), up_row (S := C) (i := i) (x := x) (show 20 ≠ 12 by decide), up_row (S := C) (i := i) (x := x) (show 21 ≠ 12 by decide), up_row (S := C) (i := i) (x := x) (show 22 ≠ 12 by decide), up_row (S := C) (i := i) (x := x) (show 26 ≠ 12 by decide), up_row (S := C) (i := i) (x := x) (show 27 ≠ 12 by decide), up_row (S := C) (i := i) (x := x) (show 28 ≠ 12 by decide), up_row (S := C) (i := i) (x := x) (show 29 ≠ 12 by decide), up_row (S := C) (i := i) (x := x) (show 30 ≠ 12 by decide), up_row (S := C) (i := i) (x := x) (show 31 ≠ 12 by decide), up_row (S := C) (i := i) (x := x) (show 32 ≠ 12 by decide), up_row (S := C) (i := i) (x := x) (show 33 ≠ 12 by decide), up_row (S := C) (i := i) (x := x) (show 34 ≠ 12 by decide), up_t0 (S := C) (i := i) (x := x) (show 12 < 50 by decide), up_t1 (S := C) (i := i) (x := x) (show 12 < 50 by decide), up_t2 (S := C) (i := i) (x := x) (show 12 < 50 by decide)]
  split
  · rfl
  · skip
    split
    · rfl
    · skip
      split
      · rfl
      · skip
        split
        · rw [up_ne (Or.inr (by omega))]
        · rfl
theorem eC_13 {g : GT} {h : Nat × Nat} {C M : St} {o : Int64} {x : Int32} {i m : Nat} (hm : m ≠ 73 + 4 * i) : ent g h (up C 13 i x) M o m = ent g h C M o m := by
  unfold ent
  simp only [nodeE, cellE, txE, txO, cap, capv, up_row (S := C) (i := i) (x := x) (show 0 ≠ 13 by decide), up_row (S := C) (i := i) (x := x) (show 1 ≠ 13 by decide), up_row (S := C) (i := i) (x := x) (show 2 ≠ 13 by decide), up_row (S := C) (i := i) (x := x) (show 3 ≠ 13 by decide), up_row (S := C) (i := i) (x := x) (show 4 ≠ 13 by decide), up_row (S := C) (i := i) (x := x) (show 5 ≠ 13 by decide), up_row (S := C) (i := i) (x := x) (show 6 ≠ 13 by decide), up_row (S := C) (i := i) (x := x) (show 7 ≠ 13 by decide), up_row (S := C) (i := i) (x := x) (show 8 ≠ 13 by decide), up_row (S := C) (i := i) (x := x) (show 9 ≠ 13 by decide), up_row (S := C) (i := i) (x := x) (show 10 ≠ 13 by decide), up_row (S := C) (i := i) (x := x) (show 11 ≠ 13 by decide), up_row (S := C) (i := i) (x := x) (show 12 ≠ 13 by decide), up_row (S := C) (i := i) (x := x) (show 14 ≠ 13 by decide), up_row (S := C) (i := i) (x := x) (show 15 ≠ 13 by decide), up_row (S := C) (i := i) (x := x) (show 16 ≠ 13 by decide), up_row (S := C) (i := i) (x := x) (show 17 ≠ 13 by decide), up_row (S := C) (i := i) (x := x) (show 18 ≠ 13 by decide), up_row (S := C) (i := i) (x := x) (show 19 ≠ 13 by decide), up_row (S := C) (i := i) (x := x) (show 20 ≠ 13 by decide), up_row (S := C) (i := i) (x := x) (show 21 ≠ 13 by decide), up_row (S := C) (i := i) (x := x) (show 22 ≠ 13 by decide), up_row (S := C) (i := i) (x := x) (show 26 ≠ 13 by decide), up_row (S := C) (i := i) (x := x) (show 27 ≠ 13 by decide), up_row (S := C) (i := i) (x := x) (show 28 ≠ 13 by decide), up_row (S := C) (i := i) (x := x) (show 29 ≠ 13 by decide), up_row (S := C) (i := i) (x := x) (show 30 ≠ 13 by decide), up_row (S := C) (i := i) (x := x) (show 31 ≠ 13 by decide), up_row (S := C) (i := i) (x := x) (show 32 ≠ 13 by decide), up_row (S := C) (i := i) (x := x) (show 33 ≠ 13 by decide), up_row (S := C) (i := i) (x := x) (show 34 ≠ 13 by decide), up_t0 (S := C) (i := i) (x := x) (show 13 < 50 by decide), up_t1 (S := C) (i := i) (x := x) (show 13 < 50 by decide), up_t2 (S := C) (i := i) (x := x) (show 13 < 50 by decide)]
  split
  · rfl
  · skip
    split
    · rfl
    · skip
      split
      · rfl
      · skip
        split
        · rw [up_ne (Or.inr (by omega))]
        · rfl
theorem eC_14 {g : GT} {h : Nat × Nat} {C M : St} {o : Int64} {x : Int32} {i m : Nat} (hm : m ≠ 73 + 4 * i) : ent g h (up C 14 i x) M o m = ent g h C M o m := by
  unfold ent
  simp only [nodeE, cellE, txE, txO, cap, capv, up_row (S := C) (i := i) (x := x) (show 0 ≠ 14 by decide), up_row (S := C) (i := i) (x := x) (show 1 ≠ 14 by decide), up_row (S := C) (i := i) (x := x) (show 2 ≠ 14 by decide), up_row (S := C) (i := i) (x := x) (show 3 ≠ 14 by decide), up_row (S := C) (i := i) (x := x) (show 4 ≠ 14 by decide), up_row (S := C) (i := i) (x := x) (show 5 ≠ 14 by decide), up_row (S := C) (i := i) (x := x) (show 6 ≠ 14 by decide), up_row (S := C) (i := i) (x := x) (show 7 ≠ 14 by decide), up_row (S := C) (i := i) (x := x) (show 8 ≠ 14 by decide), up_row (S := C) (i := i) (x := x) (show 9 ≠ 14 by decide), up_row (S := C) (i := i) (x := x) (show 10 ≠ 14 by decide), up_row (S := C) (i := i) (x := x) (show 11 ≠ 14 by decide), up_row (S := C) (i := i) (x := x) (show 12 ≠ 14 by decide), up_row (S := C) (i := i) (x := x) (show 13 ≠ 14 by decide), up_row (S := C) (i := i) (x := x) (show 15 ≠ 14 by decide), up_row (S := C) (i := i) (x := x) (show 16 ≠ 14 by decide), up_row (S := C) (i := i) (x := x) (show 17 ≠ 14 by decide), up_row (S := C) (i := i) (x := x) (show 18 ≠ 14 by decide), up_row (S := C) (i := i) (x := x) (show 19 ≠ 14 by decide), up_row (S := C) (i := i) (x := x) (show 20 ≠ 14 by decide), up_row (S := C) (i := i) (x := x) (show 21 ≠ 14 by decide), up_row (S := C) (i := i) (x := x) (show 22 ≠ 14 by decide), up_row (S := C) (i := i) (x := x) (show 26 ≠ 14 by decide), up_row (S := C) (i := i) (x := x) (show 27 ≠ 14 by decide), up_row (S := C) (i := i) (x := x) (show 28 ≠ 14 by decide), up_row (S := C) (i := i) (x := x) (show 29 ≠ 14 by decide), up_row (S := C) (i := i) (x := x) (show 30 ≠ 14 by decide), up_row (S := C) (i := i) (x := x) (show 31 ≠ 14 by decide), up_row (S := C) (i := i) (x := x) (show 32 ≠ 14 by decide), up_row (S := C) (i := i) (x := x) (show 33 ≠ 14 by decide), up_row (S := C) (i := i) (x := x) (show 34 ≠ 14 by decide), up_t0 (S := C) (i := i) (x := x) (show 14 < 50 by decide), up_t1 (S := C) (i := i) (x := x) (show 14 < 50 by decide), up_t2 (S := C) (i := i) (x := x) (show 14 < 50 by decide)]
  split
  · rfl
  · skip
    split
    · rfl
    · skip
      split
      · rfl
      · skip
        split
        · rw [up_ne (Or.inr (by omega))]
        · rfl
theorem eC_15 {g : GT} {h : Nat × Nat} {C M : St} {o : Int64} {x : Int32} {i m : Nat} (hm : m ≠ 73 + 4 * i) : ent g h (up C 15 i x) M o m = ent g h C M o m := by
  unfold ent
  simp only [nodeE, cellE, txE, txO, cap, capv, up_row (S := C) (i := i) (x := x) (show 0 ≠ 15 by decide), up_row (S := C) (i := i) (x := x) (show 1 ≠ 15 by decide), up_row (S := C) (i := i) (x := x) (show 2 ≠ 15 by decide), up_row (S := C) (i := i) (x := x) (show 3 ≠ 15 by decide), up_row (S := C) (i := i) (x := x) (show 4 ≠ 15 by decide), up_row (S := C) (i := i) (x := x) (show 5 ≠ 15 by decide), up_row (S := C) (i := i) (x := x) (show 6 ≠ 15 by decide), up_row (S := C) (i := i) (x := x) (show 7 ≠ 15 by decide), up_row (S := C) (i := i) (x := x) (show 8 ≠ 15 by decide), up_row (S := C) (i := i) (x := x) (show 9 ≠ 15 by decide), up_row (S := C) (i := i) (x := x) (show 10 ≠ 15 by decide), up_row (S := C) (i := i) (x := x) (show 11 ≠ 15 by decide), up_row (S := C) (i := i) (x := x) (show 12 ≠ 15 by decide), up_row (S := C) (i := i) (x := x) (show 13 ≠ 15 by decide), up_row (S := C) (i := i) (x := x) (show 14 ≠ 15 by decide), up_row (S := C) (i := i) (x := x) (show 16 ≠ 15 by decide), up_row (S := C) (i := i) (x := x) (show 17 ≠ 15 by decide), up_row (S := C) (i := i) (x := x) (show 18 ≠ 15 by decide), up_row (S := C) (i := i) (x := x) (show 19 ≠ 15 by decide), up_row (S := C) (i := i) (x := x) (show 20 ≠ 15 by decide), up_row (S := C) (i := i) (x := x) (show 21 ≠ 15 by decide), up_row (S := C) (i := i) (x := x) (show 22 ≠ 15 by decide), up_row (S := C) (i := i) (x := x) (show 26 ≠ 15 by decide), up_row (S := C) (i := i) (x := x) (show 27 ≠ 15 by decide), up_row (S := C) (i := i) (x := x) (show 28 ≠ 15 by decide), up_row (S := C) (i := i) (x := x) (show 29 ≠ 15 by decide), up_row (S := C) (i := i) (x := x) (show 30 ≠ 15 by decide), up_row (S := C) (i := i) (x := x) (show 31 ≠ 15 by decide), up_row (S := C) (i := i) (x := x) (show 32 ≠ 15 by decide), up_row (S := C) (i := i) (x := x) (show 33 ≠ 15 by decide), up_row (S := C) (i := i) (x := x) (show 34 ≠ 15 by decide), up_t0 (S := C) (i := i) (x := x) (show 15 < 50 by decide), up_t1 (S := C) (i := i) (x := x) (show 15 < 50 by decide), up_t2 (S := C) (i := i) (x := x) (show 15 < 50 by decide)]
  split
  · rfl
  · skip
    split
    · rfl
    · skip
      split
      · rfl
      · skip
        split
        · rw [up_ne (Or.inr (by omega))]
        · rfl
theorem eC_16 {g : GT} {h : Nat × Nat} {C M : St} {o : Int64} {x : Int32} {i m : Nat} (hm : m ≠ 73 + 4 * i) : ent g h (up C 16 i x) M o m = ent g h C M o m := by
  unfold ent
  simp only [nodeE, cellE, txE, txO, cap, capv, up_row (S := C) (i := i) (x := x) (show 0 ≠ 16 by decide), up_row (S := C) (i := i) (x := x) (show 1 ≠ 16 by decide), up_row (S := C) (i := i) (x := x) (show 2 ≠ 16 by decide), up_row (S := C) (i := i) (x := x) (show 3 ≠ 16 by decide), up_row (S := C) (i := i) (x := x) (show 4 ≠ 16 by decide), up_row (S := C) (i := i) (x := x) (show 5 ≠ 16 by decide), up_row (S := C) (i := i) (x := x) (show 6 ≠ 16 by decide), up_row (S := C) (i := i) (x := x) (show 7 ≠ 16 by decide), up_row (S := C) (i := i) (x := x) (show 8 ≠ 16 by decide), up_row (S := C) (i := i) (x := x) (show 9 ≠ 16 by decide), up_row (S := C) (i := i) (x := x) (show 10 ≠ 16 by decide), up_row (S := C) (i := i) (x := x) (show 11 ≠ 16 by decide), up_row (S := C) (i := i) (x := x) (show 12 ≠ 16 by decide), up_row (S := C) (i := i) (x := x) (show 13 ≠ 16 by decide), up_row (S := C) (i := i) (x := x) (show 14 ≠ 16 by decide), up_row (S := C) (i := i) (x := x) (show 15 ≠ 16 by decide), up_row (S := C) (i := i) (x := x) (show 17 ≠ 16 by decide), up_row (S := C) (i := i) (x := x) (show 18 ≠ 16 by decide), up_row (S := C) (i := i) (x := x) (show 19 ≠ 16 by decide), up_row (S := C) (i := i) (x := x) (show 20 ≠ 16 by decide), up_row (S := C) (i := i) (x := x) (show 21 ≠ 16 by decide), up_row (S := C) (i := i) (x := x) (show 22 ≠ 16 by decide), up_row (S := C) (i := i) (x := x) (show 26 ≠ 16 by decide), up_row (S := C) (i := i) (x := x) (show 27 ≠ 16 by decide), up_row (S := C) (i := i) (x := x) (show 28 ≠ 16 by decide), up_row (S := C) (i := i) (x := x) (show 29 ≠ 16 by decide), up_row (S := C) (i := i) (x := x) (show 30 ≠ 16 by decide), up_row (S := C) (i := i) (x := x) (show 31 ≠ 16 by decide), up_row (S := C) (i := i) (x := x) (show 32 ≠ 16 by decide), up_row (S := C) (i := i) (x := x) (show 33 ≠ 16 by decide), up_row (S := C) (i := i) (x := x) (show 34 ≠ 16 by decide), up_t0 (S := C) (i := i) (x := x) (show 16 < 50 by decide), up_t1 (S := C) (i := i) (x := x) (show 16 < 50 by decide), up_t2 (S := C) (i := i) (x := x) (show 16 < 50 by decide)]
  split
  · rfl
  · skip
    split
    · rfl
    · skip
      split
      · rfl
      · skip
        split
        · rw [up_ne (Or.inr (by omega))]
        · rfl
theorem eC_17 {g : GT} {h : Nat × Nat} {C M : St} {o : Int64} {x : Int32} {i m : Nat} (hm : m ≠ 73 + 4 * i) : ent g h (up C 17 i x) M o m = ent g h C M o m := by
  unfold ent
  simp only [nodeE, cellE, txE, txO, cap, capv, up_row (S := C) (i := i) (x := x) (show 0 ≠ 17 by decide), up_row (S := C) (i := i) (x := x) (show 1 ≠ 17 by decide), up_row (S := C) (i := i) (x := x) (show 2 ≠ 17 by decide), up_row (S := C) (i := i) (x := x) (show 3 ≠ 17 by decide), up_row (S := C) (i := i) (x := x) (show 4 ≠ 17 by decide), up_row (S := C) (i := i) (x := x) (show 5 ≠ 17 by decide), up_row (S := C) (i := i) (x := x) (show 6 ≠ 17 by decide), up_row (S := C) (i := i) (x := x) (show 7 ≠ 17 by decide), up_row (S := C) (i := i) (x := x) (show 8 ≠ 17 by decide), up_row (S := C) (i := i) (x := x) (show 9 ≠ 17 by decide), up_row (S := C) (i := i) (x := x) (show 10 ≠ 17 by decide), up_row (S := C) (i := i) (x := x) (show 11 ≠ 17 by decide), up_row (S := C) (i := i) (x := x) (show 12 ≠ 17 by decide), up_row (S := C) (i := i) (x := x) (show 13 ≠ 17 by decide), up_row (S := C) (i := i) (x := x) (show 14 ≠ 17 by decide), up_row (S := C) (i := i) (x := x) (show 15 ≠ 17 by decide), up_row (S := C) (i := i) (x := x) (show 16 ≠ 17 by decide), up_row (S := C) (i := i) (x := x) (show 18 ≠ 17 by decide), up_row (S := C) (i := i) (x := x) (show 19 ≠ 17 by decide), up_row (S := C) (i := i) (x := x) (show 20 ≠ 17 by decide), up_row (S := C) (i := i) (x := x) (show 21 ≠ 17 by decide), up_row (S := C) (i := i) (x := x) (show 22 ≠ 17 by decide), up_row (S := C) (i := i) (x := x) (show 26 ≠ 17 by decide), up_row (S := C) (i := i) (x := x) (show 27 ≠ 17 by decide), up_row (S := C) (i := i) (x := x) (show 28 ≠ 17 by decide), up_row (S := C) (i := i) (x := x) (show 29 ≠ 17 by decide), up_row (S := C) (i := i) (x := x) (show 30 ≠ 17 by decide), up_row (S := C) (i := i) (x := x) (show 31 ≠ 17 by decide), up_row (S := C) (i := i) (x := x) (show 32 ≠ 17 by decide), up_row (S := C) (i := i) (x := x) (show 33 ≠ 17 by decide), up_row (S := C) (i := i) (x := x) (show 34 ≠ 17 by decide), up_t0 (S := C) (i := i) (x := x) (show 17 < 50 by decide), up_t1 (S := C) (i := i) (x := x) (show 17 < 50 by decide), up_t2 (S := C) (i := i) (x := x) (show 17 < 50 by decide)]
  split
  · rfl
  · skip
    split
    · rfl
    · skip
      split
      · rfl
      · skip
        split
        · rw [up_ne (Or.inr (by omega))]
        · rfl
theorem eC_18 {g : GT} {h : Nat × Nat} {C M : St} {o : Int64} {x : Int32} {i m : Nat} (hm : m ≠ 73 + 4 * i) : ent g h (up C 18 i x) M o m = ent g h C M o m := by
  unfold ent
  simp only [nodeE, cellE, txE, txO, cap, capv, up_row (S := C) (i := i) (x := x) (show 0 ≠ 18 by decide), up_row (S := C) (i := i) (x := x) (show 1 ≠ 18 by decide), up_row (S := C) (i := i) (x := x) (show 2 ≠ 18 by decide), up_row (S := C) (i := i) (x := x) (show 3 ≠ 18 by decide), up_row (S := C) (i := i) (x := x) (show 4 ≠ 18 by decide), up_row (S := C) (i := i) (x := x) (show 5 ≠ 18 by decide), up_row (S := C) (i := i) (x := x) (show 6 ≠ 18 by decide), up_row (S := C) (i := i) (x := x) (show 7 ≠ 18 by decide), up_row (S := C) (i := i) (x := x) (show 8 ≠ 18 by decide), up_row (S := C) (i := i) (x := x) (show 9 ≠ 18 by decide), up_row (S := C) (i := i) (x := x) (show 10 ≠ 18 by decide), up_row (S := C) (i := i) (x := x) (show 11 ≠ 18 by decide), up_row (S := C) (i := i) (x := x) (show 12 ≠ 18 by decide), up_row (S := C) (i := i) (x := x) (show 13 ≠ 18 by decide), up_row (S := C) (i := i) (x := x) (show 14 ≠ 18 by decide), up_row (S := C) (i := i) (x := x) (show 15 ≠ 18 by decide), up_row (S := C) (i := i) (x := x) (show 16 ≠ 18 by decide), up_row (S := C) (i := i) (x := x) (show 17 ≠ 18 by decide), up_row (S := C) (i := i) (x := x) (show 19 ≠ 18 by decide), up_row (S := C) (i := i) (x := x) (show 20 ≠ 18 by decide), up_row (S := C) (i := i) (x := x) (show 21 ≠ 18 by decide), up_row (S := C) (i := i) (x := x) (show 22 ≠ 18 by decide), up_row (S := C) (i := i) (x := x) (show 26 ≠ 18 by decide), up_row (S := C) (i := i) (x := x) (show 27 ≠ 18 by decide), up_row (S := C) (i := i) (x := x) (show 28 ≠ 18 by decide), up_row (S := C) (i := i) (x := x) (show 29 ≠ 18 by decide), up_row (S := C) (i := i) (x := x) (show 30 ≠ 18 by decide), up_row (S := C) (i := i) (x := x) (show 31 ≠ 18 by decide), up_row (S := C) (i := i) (x := x) (show 32 ≠ 18 by decide), up_row (S := C) (i := i) (x := x) (show 33 ≠ 18 by decide), up_row (S := C) (i := i) (x := x) (show 34 ≠ 18 by decide), up_t0 (S := C) (i := i) (x := x) (show 18 < 50 by decide), up_t1 (S := C) (i := i) (x := x) (show 18 < 50 by decide), up_t2 (S := C) (i := i) (x := x) (show 18 < 50 by decide)]
  split
  · rfl
  · skip
    split
    · rfl
    · skip
      split
      · rfl
      · skip
        split
        · rw [up_ne (Or.inr (by omega))]
        · rfl
theorem eC_19 {g : GT} {h : Nat × Nat} {C M : St} {o : Int64} {x : Int32} {i m : Nat} (hm : m ≠ 73 + 4 * i) : ent g h (up C 19 i x) M o m = ent g h C M o m := by
  unfold ent
  simp only [nodeE, cellE, txE, txO, cap, capv, up_row (S := C) (i := i) (x := x) (show 0 ≠ 19 by decide), up_row (S := C) (i := i) (x := x) (show 1 ≠ 19 by decide), up_row (S := C) (i := i) (x := x) (show 2 ≠ 19 by decide), up_row (S := C) (i := i) (x := x) (show 3 ≠ 19 by decide), up_row (S := C) (i := i) (x := x) (show 4 ≠ 19 by decide), up_row (S := C) (i := i) (x := x) (show 5 ≠ 19 by decide), up_row (S := C) (i := i) (x := x) (show 6 ≠ 19 by decide), up_row (S := C) (i := i) (x := x) (show 7 ≠ 19 by decide), up_row (S := C) (i := i) (x := x) (show 8 ≠ 19 by decide), up_row (S := C) (i := i) (x := x) (show 9 ≠ 19 by decide), up_row (S := C) (i := i) (x := x) (show 10 ≠ 19 by decide), up_row (S := C) (i := i) (x := x) (show 11 ≠ 19 by decide), up_row (S := C) (i := i) (x := x) (show 12 ≠ 19 by decide), up_row (S := C) (i := i) (x := x) (show 13 ≠ 19 by decide), up_row (S := C) (i := i) (x := x) (show 14 ≠ 19 by decide), up_row (S := C) (i := i) (x := x) (show 15 ≠ 19 by decide), up_row (S := C) (i := i) (x := x) (show 16 ≠ 19 by decide), up_row (S := C) (i := i) (x := x) (show 17 ≠ 19 by decide), up_row (S := C) (i := i) (x := x) (show 18 ≠ 19 by decide), up_row (S := C) (i := i) (x := x) (show 20 ≠ 19 by decide), up_row (S := C) (i := i) (x := x) (show 21 ≠ 19 by decide), up_row (S := C) (i := i) (x := x) (show 22 ≠ 19 by decide), up_row (S := C) (i := i) (x := x) (show 26 ≠ 19 by decide), up_row (S := C) (i := i) (x := x) (show 27 ≠ 19 by decide), up_row (S := C) (i := i) (x := x) (show 28 ≠ 19 by decide), up_row (S := C) (i := i) (x := x) (show 29 ≠ 19 by decide), up_row (S := C) (i := i) (x := x) (show 30 ≠ 19 by decide), up_row (S := C) (i := i) (x := x) (show 31 ≠ 19 by decide), up_row (S := C) (i := i) (x := x) (show 32 ≠ 19 by decide), up_row (S := C) (i := i) (x := x) (show 33 ≠ 19 by decide), up_row (S := C) (i := i) (x := x) (show 34 ≠ 19 by decide), up_t0 (S := C) (i := i) (x := x) (show 19 < 50 by decide), up_t1 (S := C) (i := i) (x := x) (show 19 < 50 by decide), up_t2 (S := C) (i := i) (x := x) (show 19 < 50 by decide)]
  split
  · rfl
  · skip
    split
    · rfl
    · skip
      split
      · rfl
      · skip
        split
        · rw [up_ne (Or.inr (by omega))]
        · rfl
theorem eC_20 {g : GT} {h : Nat × Nat} {C M : St} {o : Int64} {x : Int32} {i m : Nat} (hm : m ≠ 73 + 4 * i) : ent g h (up C 20 i x) M o m = ent g h C M o m := by
  unfold ent
  simp only [nodeE, cellE, txE, txO, cap, capv, up_row (S := C) (i := i) (x := x) (show 0 ≠ 20 by decide), up_row (S := C) (i := i) (x := x) (show 1 ≠ 20 by decide), up_row (S := C) (i := i) (x := x) (show 2 ≠ 20 by decide), up_row (S := C) (i := i) (x := x) (show 3 ≠ 20 by decide), up_row (S := C) (i := i) (x := x) (show 4 ≠ 20 by decide), up_row (S := C) (i := i) (x := x) (show 5 ≠ 20 by decide), up_row (S := C) (i := i) (x := x) (show 6 ≠ 20 by decide), up_row (S := C) (i := i) (x := x) (show 7 ≠ 20 by decide), up_row (S := C) (i := i) (x := x) (show 8 ≠ 20 by decide), up_row (S := C) (i := i) (x := x) (show 9 ≠ 20 by decide), up_row (S := C) (i := i) (x := x) (show 10 ≠ 20 by decide), up_row (S := C) (i := i) (x := x) (show 11 ≠ 20 by decide), up_row (S := C) (i := i) (x := x) (show 12 ≠ 20 by decide), up_row (S := C) (i := i) (x := x) (show 13 ≠ 20 by decide), up_row (S := C) (i := i) (x := x) (show 14 ≠ 20 by decide), up_row (S := C) (i := i) (x := x) (show 15 ≠ 20 by decide), up_row (S := C) (i := i) (x := x) (show 16 ≠ 20 by decide), up_row (S := C) (i := i) (x := x) (show 17 ≠ 20 by decide), up_row (S := C) (i := i) (x := x) (show 18 ≠ 20 by decide), up_row (S := C) (i := i) (x := x) (show 19 ≠ 20 by decide), up_row (S := C) (i := i) (x := x) (show 21 ≠ 20 by decide), up_row (S := C) (i := i) (x := x) (show 22 ≠ 20 by decide), up_row (S := C) (i := i) (x := x) (show 26 ≠ 20 by decide), up_row (S := C) (i := i) (x := x) (show 27 ≠ 20 by decide), up_row (S := C) (i := i) (x := x) (show 28 ≠ 20 by decide), up_row (S := C) (i := i) (x := x) (show 29 ≠ 20 by decide), up_row (S := C) (i := i) (x := x) (show 30 ≠ 20 by decide), up_row (S := C) (i := i) (x := x) (show 31 ≠ 20 by decide), up_row (S := C) (i := i) (x := x) (show 32 ≠ 20 by decide), up_row (S := C) (i := i) (x := x) (show 33 ≠ 20 by decide), up_row (S := C) (i := i) (x := x) (show 34 ≠ 20 by decide), up_t0 (S := C) (i := i) (x := x) (show 20 < 50 by decide), up_t1 (S := C) (i := i) (x := x) (show 20 < 50 by decide), up_t2 (S := C) (i := i) (x := x) (show 20 < 50 by decide)]
  split
  · rfl
  · skip
    split
    · rfl
    · skip
      split
      · rfl
      · skip
        split
        · rw [up_ne (Or.inr (by omega))]
        · rfl
theorem eC_21 {g : GT} {h : Nat × Nat} {C M : St} {o : Int64} {x : Int32} {i m : Nat} (hm : m ≠ 73 + 4 * i) : ent g h (up C 21 i x) M o m = ent g h C M o m := by
  unfold ent
  simp only [nodeE, cellE, txE, txO, cap, capv, up_row (S := C) (i := i) (x := x) (show 0 ≠ 21 by decide), up_row (S := C) (i := i) (x := x) (show 1 ≠ 21 by decide), up_row (S := C) (i := i) (x := x) (show 2 ≠ 21 by decide), up_row (S := C) (i := i) (x := x) (show 3 ≠ 21 by decide), up_row (S := C) (i := i) (x := x) (show 4 ≠ 21 by decide), up_row (S := C) (i := i) (x := x) (show 5 ≠ 21 by decide), up_row (S := C) (i := i) (x := x) (show 6 ≠ 21 by decide), up_row (S := C) (i := i) (x := x) (show 7 ≠ 21 by decide), up_row (S := C) (i := i) (x := x) (show 8 ≠ 21 by decide), up_row (S := C) (i := i) (x := x) (show 9 ≠ 21 by decide), up_row (S := C) (i := i) (x := x) (show 10 ≠ 21 by decide), up_row (S := C) (i := i) (x := x) (show 11 ≠ 21 by decide), up_row (S := C) (i := i) (x := x) (show 12 ≠ 21 by decide), up_row (S := C) (i := i) (x := x) (show 13 ≠ 21 by decide), up_row (S := C) (i := i) (x := x) (show 14 ≠ 21 by decide), up_row (S := C) (i := i) (x := x) (show 15 ≠ 21 by decide), up_row (S := C) (i := i) (x := x) (show 16 ≠ 21 by decide), up_row (S := C) (i := i) (x := x) (show 17 ≠ 21 by decide), up_row (S := C) (i := i) (x := x) (show 18 ≠ 21 by decide), up_row (S := C) (i := i) (x := x) (show 19 ≠ 21 by decide), up_row (S := C) (i := i) (x := x) (show 20 ≠ 21 by decide), up_row (S := C) (i := i) (x := x) (show 22 ≠ 21 by decide), up_row (S := C) (i := i) (x := x) (show 26 ≠ 21 by decide), up_row (S := C) (i := i) (x := x) (show 27 ≠ 21 by decide), up_row (S := C) (i := i) (x := x) (show 28 ≠ 21 by decide), up_row (S := C) (i := i) (x := x) (show 29 ≠ 21 by decide), up_row (S := C) (i := i) (x := x) (show 30 ≠ 21 by decide), up_row (S := C) (i := i) (x := x) (show 31 ≠ 21 by decide), up_row (S := C) (i := i) (x := x) (show 32 ≠ 21 by decide), up_row (S := C) (i := i) (x := x) (show 33 ≠ 21 by decide), up_row (S := C) (i := i) (x := x) (show 34 ≠ 21 by decide), up_t0 (S := C) (i := i) (x := x) (show 21 < 50 by decide), up_t1 (S := C) (i := i) (x := x) (show 21 < 50 by decide), up_t2 (S := C) (i := i) (x := x) (show 21 < 50 by decide)]
  split
  · rfl
  · skip
    split
    · rfl
    · skip
      split
      · rfl
      · skip
        split
        · rw [up_ne (Or.inr (by omega))]
        · rfl
theorem eC_22 {g : GT} {h : Nat × Nat} {C M : St} {o : Int64} {x : Int32} {i m : Nat} (hm : m ≠ 73 + 4 * i) : ent g h (up C 22 i x) M o m = ent g h C M o m := by
  unfold ent
  simp only [nodeE, cellE, txE, txO, cap, capv, up_row (S := C) (i := i) (x := x) (show 0 ≠ 22 by decide), up_row (S := C) (i := i) (x := x) (show 1 ≠ 22 by decide), up_row (S := C) (i := i) (x := x) (show 2 ≠ 22 by decide), up_row (S := C) (i := i) (x := x) (show 3 ≠ 22 by decide), up_row (S := C) (i := i) (x := x) (show 4 ≠ 22 by decide), up_row (S := C) (i := i) (x := x) (show 5 ≠ 22 by decide), up_row (S := C) (i := i) (x := x) (show 6 ≠ 22 by decide), up_row (S := C) (i := i) (x := x) (show 7 ≠ 22 by decide), up_row (S := C) (i := i) (x := x) (show 8 ≠ 22 by decide), up_row (S := C) (i := i) (x := x) (show 9 ≠ 22 by decide), up_row (S := C) (i := i) (x := x) (show 10 ≠ 22 by decide), up_row (S := C) (i := i) (x := x) (show 11 ≠ 22 by decide), up_row (S := C) (i := i) (x := x) (show 12 ≠ 22 by decide), up_row (S := C) (i := i) (x := x) (show 13 ≠ 22 by decide), up_row (S := C) (i := i) (x := x) (show 14 ≠ 22 by decide), up_row (S := C) (i := i) (x := x) (show 15 ≠ 22 by decide), up_row (S := C) (i := i) (x := x) (show 16 ≠ 22 by decide), up_row (S := C) (i := i) (x := x) (show 17 ≠ 22 by decide), up_row (S := C) (i := i) (x := x) (show 18 ≠ 22 by decide), up_row (S := C) (i := i) (x := x) (show 19 ≠ 22 by decide), up_row (S := C) (i := i) (x := x) (show 20 ≠ 22 by decide), up_row (S := C) (i := i) (x := x) (show 21 ≠ 22 by decide), up_row (S := C) (i := i) (x := x) (show 26 ≠ 22 by decide), up_row (S := C) (i := i) (x := x) (show 27 ≠ 22 by decide), up_row (S := C) (i := i) (x := x) (show 28 ≠ 22 by decide), up_row (S := C) (i := i) (x := x) (show 29 ≠ 22 by decide), up_row (S := C) (i := i) (x := x) (show 30 ≠ 22 by decide), up_row (S := C) (i := i) (x := x) (show 31 ≠ 22 by decide), up_row (S := C) (i := i) (x := x) (show 32 ≠ 22 by decide), up_row (S := C) (i := i) (x := x) (show 33 ≠ 22 by decide), up_row (S := C) (i := i) (x := x) (show 34 ≠ 22 by decide), up_t0 (S := C) (i := i) (x := x) (show 22 < 50 by decide), up_t1 (S := C) (i := i) (x := x) (show 22 < 50 by decide), up_t2 (S := C) (i := i) (x := x) (show 22 < 50 by decide)]
  split
  · rfl
  · skip
    split
    · rfl
    · skip
      split
      · rfl
      · skip
        split
        · rw [up_ne (Or.inr (by omega))]
        · rfl
theorem eC_26 {g : GT} {h : Nat × Nat} {C M : St} {o : Int64} {x : Int32} {i m : Nat} (hm : m ≠ 4) : ent g h (up C 26 i x) M o m = ent g h C M o m := by
  unfold ent
  simp only [nodeE, cellE, txE, txO, cap, capv, up_row (S := C) (i := i) (x := x) (show 0 ≠ 26 by decide), up_row (S := C) (i := i) (x := x) (show 1 ≠ 26 by decide), up_row (S := C) (i := i) (x := x) (show 2 ≠ 26 by decide), up_row (S := C) (i := i) (x := x) (show 3 ≠ 26 by decide), up_row (S := C) (i := i) (x := x) (show 4 ≠ 26 by decide), up_row (S := C) (i := i) (x := x) (show 5 ≠ 26 by decide), up_row (S := C) (i := i) (x := x) (show 6 ≠ 26 by decide), up_row (S := C) (i := i) (x := x) (show 7 ≠ 26 by decide), up_row (S := C) (i := i) (x := x) (show 8 ≠ 26 by decide), up_row (S := C) (i := i) (x := x) (show 9 ≠ 26 by decide), up_row (S := C) (i := i) (x := x) (show 10 ≠ 26 by decide), up_row (S := C) (i := i) (x := x) (show 11 ≠ 26 by decide), up_row (S := C) (i := i) (x := x) (show 12 ≠ 26 by decide), up_row (S := C) (i := i) (x := x) (show 13 ≠ 26 by decide), up_row (S := C) (i := i) (x := x) (show 14 ≠ 26 by decide), up_row (S := C) (i := i) (x := x) (show 15 ≠ 26 by decide), up_row (S := C) (i := i) (x := x) (show 16 ≠ 26 by decide), up_row (S := C) (i := i) (x := x) (show 17 ≠ 26 by decide), up_row (S := C) (i := i) (x := x) (show 18 ≠ 26 by decide), up_row (S := C) (i := i) (x := x) (show 19 ≠ 26 by decide), up_row (S := C) (i := i) (x := x) (show 20 ≠ 26 by decide), up_row (S := C) (i := i) (x := x) (show 21 ≠ 26 by decide), up_row (S := C) (i := i) (x := x) (show 22 ≠ 26 by decide), up_row (S := C) (i := i) (x := x) (show 27 ≠ 26 by decide), up_row (S := C) (i := i) (x := x) (show 28 ≠ 26 by decide), up_row (S := C) (i := i) (x := x) (show 29 ≠ 26 by decide), up_row (S := C) (i := i) (x := x) (show 30 ≠ 26 by decide), up_row (S := C) (i := i) (x := x) (show 31 ≠ 26 by decide), up_row (S := C) (i := i) (x := x) (show 32 ≠ 26 by decide), up_row (S := C) (i := i) (x := x) (show 33 ≠ 26 by decide), up_row (S := C) (i := i) (x := x) (show 34 ≠ 26 by decide), up_t0 (S := C) (i := i) (x := x) (show 26 < 50 by decide), up_t1 (S := C) (i := i) (x := x) (show 26 < 50 by decide), up_t2 (S := C) (i := i) (x := x) (show 26 < 50 by decide)]
  split
  · unfold fixE
    split <;> first | rfl | exact absurd rfl hm
  · rfl
theorem eC_28 {g : GT} {h : Nat × Nat} {C M : St} {o : Int64} {x : Int32} {i m : Nat} (hm : m ≠ 5) : ent g h (up C 28 i x) M o m = ent g h C M o m := by
  unfold ent
  simp only [nodeE, cellE, txE, txO, cap, capv, up_row (S := C) (i := i) (x := x) (show 0 ≠ 28 by decide), up_row (S := C) (i := i) (x := x) (show 1 ≠ 28 by decide), up_row (S := C) (i := i) (x := x) (show 2 ≠ 28 by decide), up_row (S := C) (i := i) (x := x) (show 3 ≠ 28 by decide), up_row (S := C) (i := i) (x := x) (show 4 ≠ 28 by decide), up_row (S := C) (i := i) (x := x) (show 5 ≠ 28 by decide), up_row (S := C) (i := i) (x := x) (show 6 ≠ 28 by decide), up_row (S := C) (i := i) (x := x) (show 7 ≠ 28 by decide), up_row (S := C) (i := i) (x := x) (show 8 ≠ 28 by decide), up_row (S := C) (i := i) (x := x) (show 9 ≠ 28 by decide), up_row (S := C) (i := i) (x := x) (show 10 ≠ 28 by decide), up_row (S := C) (i := i) (x := x) (show 11 ≠ 28 by decide), up_row (S := C) (i := i) (x := x) (show 12 ≠ 28 by decide), up_row (S := C) (i := i) (x := x) (show 13 ≠ 28 by decide), up_row (S := C) (i := i) (x := x) (show 14 ≠ 28 by decide), up_row (S := C) (i := i) (x := x) (show 15 ≠ 28 by decide), up_row (S := C) (i := i) (x := x) (show 16 ≠ 28 by decide), up_row (S := C) (i := i) (x := x) (show 17 ≠ 28 by decide), up_row (S := C) (i := i) (x := x) (show 18 ≠ 28 by decide), up_row (S := C) (i := i) (x := x) (show 19 ≠ 28 by decide), up_row (S := C) (i := i) (x := x) (show 20 ≠ 28 by decide), up_row (S := C) (i := i) (x := x) (show 21 ≠ 28 by decide), up_row (S := C) (i := i) (x := x) (show 22 ≠ 28 by decide), up_row (S := C) (i := i) (x := x) (show 26 ≠ 28 by decide), up_row (S := C) (i := i) (x := x) (show 27 ≠ 28 by decide), up_row (S := C) (i := i) (x := x) (show 29 ≠ 28 by decide), up_row (S := C) (i := i) (x := x) (show 30 ≠ 28 by decide), up_row (S := C) (i := i) (x := x) (show 31 ≠ 28 by decide), up_row (S := C) (i := i) (x := x) (show 32 ≠ 28 by decide), up_row (S := C) (i := i) (x := x) (show 33 ≠ 28 by decide), up_row (S := C) (i := i) (x := x) (show 34 ≠ 28 by decide), up_t0 (S := C) (i := i) (x := x) (show 28 < 50 by decide), up_t1 (S := C) (i := i) (x := x) (show 28 < 50 by decide), up_t2 (S := C) (i := i) (x := x) (show 28 < 50 by decide)]
  split
  · unfold fixE
    split <;> first | rfl | exact absurd rfl hm
  · rfl
theorem eC_29 {g : GT} {h : Nat × Nat} {C M : St} {o : Int64} {x : Int32} {i m : Nat} (hm : m ≠ 6) : ent g h (up C 29 i x) M o m = ent g h C M o m := by
  unfold ent
  simp only [nodeE, cellE, txE, txO, cap, capv, up_row (S := C) (i := i) (x := x) (show 0 ≠ 29 by decide), up_row (S := C) (i := i) (x := x) (show 1 ≠ 29 by decide), up_row (S := C) (i := i) (x := x) (show 2 ≠ 29 by decide), up_row (S := C) (i := i) (x := x) (show 3 ≠ 29 by decide), up_row (S := C) (i := i) (x := x) (show 4 ≠ 29 by decide), up_row (S := C) (i := i) (x := x) (show 5 ≠ 29 by decide), up_row (S := C) (i := i) (x := x) (show 6 ≠ 29 by decide), up_row (S := C) (i := i) (x := x) (show 7 ≠ 29 by decide), up_row (S := C) (i := i) (x := x) (show 8 ≠ 29 by decide), up_row (S := C) (i := i) (x := x) (show 9 ≠ 29 by decide), up_row (S := C) (i := i) (x := x) (show 10 ≠ 29 by decide), up_row (S := C) (i := i) (x := x) (show 11 ≠ 29 by decide), up_row (S := C) (i := i) (x := x) (show 12 ≠ 29 by decide), up_row (S := C) (i := i) (x := x) (show 13 ≠ 29 by decide), up_row (S := C) (i := i) (x := x) (show 14 ≠ 29 by decide), up_row (S := C) (i := i) (x := x) (show 15 ≠ 29 by decide), up_row (S := C) (i := i) (x := x) (show 16 ≠ 29 by decide), up_row (S := C) (i := i) (x := x) (show 17 ≠ 29 by decide), up_row (S := C) (i := i) (x := x) (show 18 ≠ 29 by decide), up_row (S := C) (i := i) (x := x) (show 19 ≠ 29 by decide), up_row (S := C) (i := i) (x := x) (show 20 ≠ 29 by decide), up_row (S := C) (i := i) (x := x) (show 21 ≠ 29 by decide), up_row (S := C) (i := i) (x := x) (show 22 ≠ 29 by decide), up_row (S := C) (i := i) (x := x) (show 26 ≠ 29 by decide), up_row (S := C) (i := i) (x := x) (show 27 ≠ 29 by decide), up_row (S := C) (i := i) (x := x) (show 28 ≠ 29 by decide), up_row (S := C) (i := i) (x := x) (show 30 ≠ 29 by decide), up_row (S := C) (i := i) (x := x) (show 31 ≠ 29 by decide), up_row (S := C) (i := i) (x := x) (show 32 ≠ 29 by decide), up_row (S := C) (i := i) (x := x) (show 33 ≠ 29 by decide), up_row (S := C) (i := i) (x := x) (show 34 ≠ 29 by decide), up_t0 (S := C) (i := i) (x := x) (show 29 < 50 by decide), up_t1 (S := C) (i := i) (x := x) (show 29 < 50 by decide), up_t2 (S := C) (i := i) (x := x) (show 29 < 50 by decide)]
  split
  · unfold fixE
    split <;> first | rfl | exact absurd rfl hm
  · rfl
theorem eC_30 {g : GT} {h : Nat × Nat} {C M : St} {o : Int64} {x : Int32} {i m : Nat} (hm : m ≠ 7) : ent g h (up C 30 i x) M o m = ent g h C M o m := by
  unfold ent
  simp only [nodeE, cellE, txE, txO, cap, capv, up_row (S := C) (i := i) (x := x) (show 0 ≠ 30 by decide), up_row (S := C) (i := i) (x := x) (show 1 ≠ 30 by decide), up_row (S := C) (i := i) (x := x) (show 2 ≠ 30 by decide), up_row (S := C) (i := i) (x := x) (show 3 ≠ 30 by decide), up_row (S := C) (i := i) (x := x) (show 4 ≠ 30 by decide), up_row (S := C) (i := i) (x := x) (show 5 ≠ 30 by decide), up_row (S := C) (i := i) (x := x) (show 6 ≠ 30 by decide), up_row (S := C) (i := i) (x := x) (show 7 ≠ 30 by decide), up_row (S := C) (i := i) (x := x) (show 8 ≠ 30 by decide), up_row (S := C) (i := i) (x := x) (show 9 ≠ 30 by decide), up_row (S := C) (i := i) (x := x) (show 10 ≠ 30 by decide), up_row (S := C) (i := i) (x := x) (show 11 ≠ 30 by decide), up_row (S := C) (i := i) (x := x) (show 12 ≠ 30 by decide), up_row (S := C) (i := i) (x := x) (show 13 ≠ 30 by decide), up_row (S := C) (i := i) (x := x) (show 14 ≠ 30 by decide), up_row (S := C) (i := i) (x := x) (show 15 ≠ 30 by decide), up_row (S := C) (i := i) (x := x) (show 16 ≠ 30 by decide), up_row (S := C) (i := i) (x := x) (show 17 ≠ 30 by decide), up_row (S := C) (i := i) (x := x) (show 18 ≠ 30 by decide), up_row (S := C) (i := i) (x := x) (show 19 ≠ 30 by decide), up_row (S := C) (i := i) (x := x) (show 20 ≠ 30 by decide), up_row (S := C) (i := i) (x := x) (show 21 ≠ 30 by decide), up_row (S := C) (i := i) (x := x) (show 22 ≠ 30 by decide), up_row (S := C) (i := i) (x := x) (show 26 ≠ 30 by decide), up_row (S := C) (i := i) (x := x) (show 27 ≠ 30 by decide), up_row (S := C) (i := i) (x := x) (show 28 ≠ 30 by decide), up_row (S := C) (i := i) (x := x) (show 29 ≠ 30 by decide), up_row (S := C) (i := i) (x := x) (show 31 ≠ 30 by decide), up_row (S := C) (i := i) (x := x) (show 32 ≠ 30 by decide), up_row (S := C) (i := i) (x := x) (show 33 ≠ 30 by decide), up_row (S := C) (i := i) (x := x) (show 34 ≠ 30 by decide), up_t0 (S := C) (i := i) (x := x) (show 30 < 50 by decide), up_t1 (S := C) (i := i) (x := x) (show 30 < 50 by decide), up_t2 (S := C) (i := i) (x := x) (show 30 < 50 by decide)]
  split
  · unfold fixE
    split <;> first | rfl | exact absurd rfl hm
  · rfl
theorem eC_31 {g : GT} {h : Nat × Nat} {C M : St} {o : Int64} {x : Int32} {i m : Nat} (hm : m ≠ 4) : ent g h (up C 31 i x) M o m = ent g h C M o m := by
  unfold ent
  simp only [nodeE, cellE, txE, txO, cap, capv, up_row (S := C) (i := i) (x := x) (show 0 ≠ 31 by decide), up_row (S := C) (i := i) (x := x) (show 1 ≠ 31 by decide), up_row (S := C) (i := i) (x := x) (show 2 ≠ 31 by decide), up_row (S := C) (i := i) (x := x) (show 3 ≠ 31 by decide), up_row (S := C) (i := i) (x := x) (show 4 ≠ 31 by decide), up_row (S := C) (i := i) (x := x) (show 5 ≠ 31 by decide), up_row (S := C) (i := i) (x := x) (show 6 ≠ 31 by decide), up_row (S := C) (i := i) (x := x) (show 7 ≠ 31 by decide), up_row (S := C) (i := i) (x := x) (show 8 ≠ 31 by decide), up_row (S := C) (i := i) (x := x) (show 9 ≠ 31 by decide), up_row (S := C) (i := i) (x := x) (show 10 ≠ 31 by decide), up_row (S := C) (i := i) (x := x) (show 11 ≠ 31 by decide), up_row (S := C) (i := i) (x := x) (show 12 ≠ 31 by decide), up_row (S := C) (i := i) (x := x) (show 13 ≠ 31 by decide), up_row (S := C) (i := i) (x := x) (show 14 ≠ 31 by decide), up_row (S := C) (i := i) (x := x) (show 15 ≠ 31 by decide), up_row (S := C) (i := i) (x := x) (show 16 ≠ 31 by decide), up_row (S := C) (i := i) (x := x) (show 17 ≠ 31 by decide), up_row (S := C) (i := i) (x := x) (show 18 ≠ 31 by decide), up_row (S := C) (i := i) (x := x) (show 19 ≠ 31 by decide), up_row (S := C) (i := i) (x := x) (show 20 ≠ 31 by decide), up_row (S := C) (i := i) (x := x) (show 21 ≠ 31 by decide), up_row (S := C) (i := i) (x := x) (show 22 ≠ 31 by decide), up_row (S := C) (i := i) (x := x) (show 26 ≠ 31 by decide), up_row (S := C) (i := i) (x := x) (show 27 ≠ 31 by decide), up_row (S := C) (i := i) (x := x) (show 28 ≠ 31 by decide), up_row (S := C) (i := i) (x := x) (show 29 ≠ 31 by decide), up_row (S := C) (i := i) (x := x) (show 30 ≠ 31 by decide), up_row (S := C) (i := i) (x := x) (show 32 ≠ 31 by decide), up_row (S := C) (i := i) (x := x) (show 33 ≠ 31 by decide), up_row (S := C) (i := i) (x := x) (show 34 ≠ 31 by decide), up_t0 (S := C) (i := i) (x := x) (show 31 < 50 by decide), up_t1 (S := C) (i := i) (x := x) (show 31 < 50 by decide), up_t2 (S := C) (i := i) (x := x) (show 31 < 50 by decide)]
  split
  · unfold fixE
    split <;> first | rfl | exact absurd rfl hm
  · rfl
theorem eC_32 {g : GT} {h : Nat × Nat} {C M : St} {o : Int64} {x : Int32} {i m : Nat} (hm : m ≠ 8) : ent g h (up C 32 i x) M o m = ent g h C M o m := by
  unfold ent
  simp only [nodeE, cellE, txE, txO, cap, capv, up_row (S := C) (i := i) (x := x) (show 0 ≠ 32 by decide), up_row (S := C) (i := i) (x := x) (show 1 ≠ 32 by decide), up_row (S := C) (i := i) (x := x) (show 2 ≠ 32 by decide), up_row (S := C) (i := i) (x := x) (show 3 ≠ 32 by decide), up_row (S := C) (i := i) (x := x) (show 4 ≠ 32 by decide), up_row (S := C) (i := i) (x := x) (show 5 ≠ 32 by decide), up_row (S := C) (i := i) (x := x) (show 6 ≠ 32 by decide), up_row (S := C) (i := i) (x := x) (show 7 ≠ 32 by decide), up_row (S := C) (i := i) (x := x) (show 8 ≠ 32 by decide), up_row (S := C) (i := i) (x := x) (show 9 ≠ 32 by decide), up_row (S := C) (i := i) (x := x) (show 10 ≠ 32 by decide), up_row (S := C) (i := i) (x := x) (show 11 ≠ 32 by decide), up_row (S := C) (i := i) (x := x) (show 12 ≠ 32 by decide), up_row (S := C) (i := i) (x := x) (show 13 ≠ 32 by decide), up_row (S := C) (i := i) (x := x) (show 14 ≠ 32 by decide), up_row (S := C) (i := i) (x := x) (show 15 ≠ 32 by decide), up_row (S := C) (i := i) (x := x) (show 16 ≠ 32 by decide), up_row (S := C) (i := i) (x := x) (show 17 ≠ 32 by decide), up_row (S := C) (i := i) (x := x) (show 18 ≠ 32 by decide), up_row (S := C) (i := i) (x := x) (show 19 ≠ 32 by decide), up_row (S := C) (i := i) (x := x) (show 20 ≠ 32 by decide), up_row (S := C) (i := i) (x := x) (show 21 ≠ 32 by decide), up_row (S := C) (i := i) (x := x) (show 22 ≠ 32 by decide), up_row (S := C) (i := i) (x := x) (show 26 ≠ 32 by decide), up_row (S := C) (i := i) (x := x) (show 27 ≠ 32 by decide), up_row (S := C) (i := i) (x := x) (show 28 ≠ 32 by decide), up_row (S := C) (i := i) (x := x) (show 29 ≠ 32 by decide), up_row (S := C) (i := i) (x := x) (show 30 ≠ 32 by decide), up_row (S := C) (i := i) (x := x) (show 31 ≠ 32 by decide), up_row (S := C) (i := i) (x := x) (show 33 ≠ 32 by decide), up_row (S := C) (i := i) (x := x) (show 34 ≠ 32 by decide), up_t0 (S := C) (i := i) (x := x) (show 32 < 50 by decide), up_t1 (S := C) (i := i) (x := x) (show 32 < 50 by decide), up_t2 (S := C) (i := i) (x := x) (show 32 < 50 by decide)]
  split
  · unfold fixE
    split <;> first | rfl | exact absurd rfl hm
  · rfl
theorem eC_33 {g : GT} {h : Nat × Nat} {C M : St} {o : Int64} {x : Int32} {i m : Nat} (hm : m ≠ 3) : ent g h (up C 33 i x) M o m = ent g h C M o m := by
  unfold ent
  simp only [nodeE, cellE, txE, txO, cap, capv, up_row (S := C) (i := i) (x := x) (show 0 ≠ 33 by decide), up_row (S := C) (i := i) (x := x) (show 1 ≠ 33 by decide), up_row (S := C) (i := i) (x := x) (show 2 ≠ 33 by decide), up_row (S := C) (i := i) (x := x) (show 3 ≠ 33 by decide), up_row (S := C) (i := i) (x := x) (show 4 ≠ 33 by decide), up_row (S := C) (i := i) (x := x) (show 5 ≠ 33 by decide), up_row (S := C) (i := i) (x := x) (show 6 ≠ 33 by decide), up_row (S := C) (i := i) (x := x) (show 7 ≠ 33 by decide), up_row (S := C) (i := i) (x := x) (show 8 ≠ 33 by decide), up_row (S := C) (i := i) (x := x) (show 9 ≠ 33 by decide), up_row (S := C) (i := i) (x := x) (show 10 ≠ 33 by decide), up_row (S := C) (i := i) (x := x) (show 11 ≠ 33 by decide), up_row (S := C) (i := i) (x := x) (show 12 ≠ 33 by decide), up_row (S := C) (i := i) (x := x) (show 13 ≠ 33 by decide), up_row (S := C) (i := i) (x := x) (show 14 ≠ 33 by decide), up_row (S := C) (i := i) (x := x) (show 15 ≠ 33 by decide), up_row (S := C) (i := i) (x := x) (show 16 ≠ 33 by decide), up_row (S := C) (i := i) (x := x) (show 17 ≠ 33 by decide), up_row (S := C) (i := i) (x := x) (show 18 ≠ 33 by decide), up_row (S := C) (i := i) (x := x) (show 19 ≠ 33 by decide), up_row (S := C) (i := i) (x := x) (show 20 ≠ 33 by decide), up_row (S := C) (i := i) (x := x) (show 21 ≠ 33 by decide), up_row (S := C) (i := i) (x := x) (show 22 ≠ 33 by decide), up_row (S := C) (i := i) (x := x) (show 26 ≠ 33 by decide), up_row (S := C) (i := i) (x := x) (show 27 ≠ 33 by decide), up_row (S := C) (i := i) (x := x) (show 28 ≠ 33 by decide), up_row (S := C) (i := i) (x := x) (show 29 ≠ 33 by decide), up_row (S := C) (i := i) (x := x) (show 30 ≠ 33 by decide), up_row (S := C) (i := i) (x := x) (show 31 ≠ 33 by decide), up_row (S := C) (i := i) (x := x) (show 32 ≠ 33 by decide), up_row (S := C) (i := i) (x := x) (show 34 ≠ 33 by decide), up_t0 (S := C) (i := i) (x := x) (show 33 < 50 by decide), up_t1 (S := C) (i := i) (x := x) (show 33 < 50 by decide), up_t2 (S := C) (i := i) (x := x) (show 33 < 50 by decide)]
  split
  · unfold fixE
    split <;> first | rfl | exact absurd rfl hm
  · rfl
theorem eC_t0 {g : GT} {h : Nat × Nat} {C M : St} {o : Int64} {x : Int32} {i k m : Nat} (hm : m ≠ 73 + 4 * i + 1) : ent g h (up C (50 + 3 * i) k x) M o m = ent g h C M o m := by
  unfold ent
  simp only [nodeE, cellE, txE, txO, cap, capv, up_row (S := C) (i := k) (x := x) (show 0 ≠ 50 + 3 * i by omega), up_row (S := C) (i := k) (x := x) (show 1 ≠ 50 + 3 * i by omega), up_row (S := C) (i := k) (x := x) (show 2 ≠ 50 + 3 * i by omega), up_row (S := C) (i := k) (x := x) (show 3 ≠ 50 + 3 * i by omega), up_row (S := C) (i := k) (x := x) (show 4 ≠ 50 + 3 * i by omega), up_row (S := C) (i := k) (x := x) (show 5 ≠ 50 + 3 * i by omega), up_row (S := C) (i := k) (x := x) (show 6 ≠ 50 + 3 * i by omega), up_row (S := C) (i := k) (x := x) (show 7 ≠ 50 + 3 * i by omega), up_row (S := C) (i := k) (x := x) (show 8 ≠ 50 + 3 * i by omega), up_row (S := C) (i := k) (x := x) (show 9 ≠ 50 + 3 * i by omega), up_row (S := C) (i := k) (x := x) (show 10 ≠ 50 + 3 * i by omega), up_row (S := C) (i := k) (x := x) (show 11 ≠ 50 + 3 * i by omega), up_row (S := C) (i := k) (x := x) (show 12 ≠ 50 + 3 * i by omega), up_row (S := C) (i := k) (x := x) (show 13 ≠ 50 + 3 * i by omega), up_row (S := C) (i := k) (x := x) (show 14 ≠ 50 + 3 * i by omega), up_row (S := C) (i := k) (x := x) (show 15 ≠ 50 + 3 * i by omega), up_row (S := C) (i := k) (x := x) (show 16 ≠ 50 + 3 * i by omega), up_row (S := C) (i := k) (x := x) (show 17 ≠ 50 + 3 * i by omega), up_row (S := C) (i := k) (x := x) (show 18 ≠ 50 + 3 * i by omega), up_row (S := C) (i := k) (x := x) (show 19 ≠ 50 + 3 * i by omega), up_row (S := C) (i := k) (x := x) (show 20 ≠ 50 + 3 * i by omega), up_row (S := C) (i := k) (x := x) (show 21 ≠ 50 + 3 * i by omega), up_row (S := C) (i := k) (x := x) (show 22 ≠ 50 + 3 * i by omega), up_row (S := C) (i := k) (x := x) (show 23 ≠ 50 + 3 * i by omega), up_row (S := C) (i := k) (x := x) (show 24 ≠ 50 + 3 * i by omega), up_row (S := C) (i := k) (x := x) (show 25 ≠ 50 + 3 * i by omega), up_row (S := C) (i := k) (x := x) (show 26 ≠ 50 + 3 * i by omega), up_row (S := C) (i := k) (x := x) (show 27 ≠ 50 + 3 * i by omega), up_row (S := C) (i := k) (x := x) (show 28 ≠ 50 + 3 * i by omega), up_row (S := C) (i := k) (x := x) (show 29 ≠ 50 + 3 * i by omega), up_row (S := C) (i := k) (x := x) (show 30 ≠ 50 + 3 * i by omega), up_row (S := C) (i := k) (x := x) (show 31 ≠ 50 + 3 * i by omega), up_row (S := C) (i := k) (x := x) (show 32 ≠ 50 + 3 * i by omega), up_row (S := C) (i := k) (x := x) (show 33 ≠ 50 + 3 * i by omega), up_row (S := C) (i := k) (x := x) (show 34 ≠ 50 + 3 * i by omega)]
  split
  · rfl
  · skip
    split
    · rfl
    · skip
      split
      · rfl
      · skip
        split
        · rfl
        · skip
          split
          · rw [up_row (by omega)]
          · skip
            split
            · rw [up_row (by omega)]
            · rw [up_row (by omega)]
theorem eC_t1 {g : GT} {h : Nat × Nat} {C M : St} {o : Int64} {x : Int32} {i k m : Nat} (hm : m ≠ 73 + 4 * i + 2) : ent g h (up C (51 + 3 * i) k x) M o m = ent g h C M o m := by
  unfold ent
  simp only [nodeE, cellE, txE, txO, cap, capv, up_row (S := C) (i := k) (x := x) (show 0 ≠ 51 + 3 * i by omega), up_row (S := C) (i := k) (x := x) (show 1 ≠ 51 + 3 * i by omega), up_row (S := C) (i := k) (x := x) (show 2 ≠ 51 + 3 * i by omega), up_row (S := C) (i := k) (x := x) (show 3 ≠ 51 + 3 * i by omega), up_row (S := C) (i := k) (x := x) (show 4 ≠ 51 + 3 * i by omega), up_row (S := C) (i := k) (x := x) (show 5 ≠ 51 + 3 * i by omega), up_row (S := C) (i := k) (x := x) (show 6 ≠ 51 + 3 * i by omega), up_row (S := C) (i := k) (x := x) (show 7 ≠ 51 + 3 * i by omega), up_row (S := C) (i := k) (x := x) (show 8 ≠ 51 + 3 * i by omega), up_row (S := C) (i := k) (x := x) (show 9 ≠ 51 + 3 * i by omega), up_row (S := C) (i := k) (x := x) (show 10 ≠ 51 + 3 * i by omega), up_row (S := C) (i := k) (x := x) (show 11 ≠ 51 + 3 * i by omega), up_row (S := C) (i := k) (x := x) (show 12 ≠ 51 + 3 * i by omega), up_row (S := C) (i := k) (x := x) (show 13 ≠ 51 + 3 * i by omega), up_row (S := C) (i := k) (x := x) (show 14 ≠ 51 + 3 * i by omega), up_row (S := C) (i := k) (x := x) (show 15 ≠ 51 + 3 * i by omega), up_row (S := C) (i := k) (x := x) (show 16 ≠ 51 + 3 * i by omega), up_row (S := C) (i := k) (x := x) (show 17 ≠ 51 + 3 * i by omega), up_row (S := C) (i := k) (x := x) (show 18 ≠ 51 + 3 * i by omega), up_row (S := C) (i := k) (x := x) (show 19 ≠ 51 + 3 * i by omega), up_row (S := C) (i := k) (x := x) (show 20 ≠ 51 + 3 * i by omega), up_row (S := C) (i := k) (x := x) (show 21 ≠ 51 + 3 * i by omega), up_row (S := C) (i := k) (x := x) (show 22 ≠ 51 + 3 * i by omega), up_row (S := C) (i := k) (x := x) (show 23 ≠ 51 + 3 * i by omega), up_row (S := C) (i := k) (x := x) (show 24 ≠ 51 + 3 * i by omega), up_row (S := C) (i := k) (x := x) (show 25 ≠ 51 + 3 * i by omega), up_row (S := C) (i := k) (x := x) (show 26 ≠ 51 + 3 * i by omega), up_row (S := C) (i := k) (x := x) (show 27 ≠ 51 + 3 * i by omega), up_row (S := C) (i := k) (x := x) (show 28 ≠ 51 + 3 * i by omega), up_row (S := C) (i := k) (x := x) (show 29 ≠ 51 + 3 * i by omega), up_row (S := C) (i := k) (x := x) (show 30 ≠ 51 + 3 * i by omega), up_row (S := C) (i := k) (x := x) (show 31 ≠ 51 + 3 * i by omega), up_row (S := C) (i := k) (x := x) (show 32 ≠ 51 + 3 * i by omega), up_row (S := C) (i := k) (x := x) (show 33 ≠ 51 + 3 * i by omega), up_row (S := C) (i := k) (x := x) (show 34 ≠ 51 + 3 * i by omega)]
  split
  · rfl
  · skip
    split
    · rfl
    · skip
      split
      · rfl
      · skip
        split
        · rfl
        · skip
          split
          · rw [up_row (by omega)]
          · skip
            split
            · rw [up_row (by omega)]
            · rw [up_row (by omega)]
theorem eC_t2 {g : GT} {h : Nat × Nat} {C M : St} {o : Int64} {x : Int32} {i k m : Nat} (hm : m ≠ 73 + 4 * i + 3) : ent g h (up C (52 + 3 * i) k x) M o m = ent g h C M o m := by
  unfold ent
  simp only [nodeE, cellE, txE, txO, cap, capv, up_row (S := C) (i := k) (x := x) (show 0 ≠ 52 + 3 * i by omega), up_row (S := C) (i := k) (x := x) (show 1 ≠ 52 + 3 * i by omega), up_row (S := C) (i := k) (x := x) (show 2 ≠ 52 + 3 * i by omega), up_row (S := C) (i := k) (x := x) (show 3 ≠ 52 + 3 * i by omega), up_row (S := C) (i := k) (x := x) (show 4 ≠ 52 + 3 * i by omega), up_row (S := C) (i := k) (x := x) (show 5 ≠ 52 + 3 * i by omega), up_row (S := C) (i := k) (x := x) (show 6 ≠ 52 + 3 * i by omega), up_row (S := C) (i := k) (x := x) (show 7 ≠ 52 + 3 * i by omega), up_row (S := C) (i := k) (x := x) (show 8 ≠ 52 + 3 * i by omega), up_row (S := C) (i := k) (x := x) (show 9 ≠ 52 + 3 * i by omega), up_row (S := C) (i := k) (x := x) (show 10 ≠ 52 + 3 * i by omega), up_row (S := C) (i := k) (x := x) (show 11 ≠ 52 + 3 * i by omega), up_row (S := C) (i := k) (x := x) (show 12 ≠ 52 + 3 * i by omega), up_row (S := C) (i := k) (x := x) (show 13 ≠ 52 + 3 * i by omega), up_row (S := C) (i := k) (x := x) (show 14 ≠ 52 + 3 * i by omega), up_row (S := C) (i := k) (x := x) (show 15 ≠ 52 + 3 * i by omega), up_row (S := C) (i := k) (x := x) (show 16 ≠ 52 + 3 * i by omega), up_row (S := C) (i := k) (x := x) (show 17 ≠ 52 + 3 * i by omega), up_row (S := C) (i := k) (x := x) (show 18 ≠ 52 + 3 * i by omega), up_row (S := C) (i := k) (x := x) (show 19 ≠ 52 + 3 * i by omega), up_row (S := C) (i := k) (x := x) (show 20 ≠ 52 + 3 * i by omega), up_row (S := C) (i := k) (x := x) (show 21 ≠ 52 + 3 * i by omega), up_row (S := C) (i := k) (x := x) (show 22 ≠ 52 + 3 * i by omega), up_row (S := C) (i := k) (x := x) (show 23 ≠ 52 + 3 * i by omega), up_row (S := C) (i := k) (x := x) (show 24 ≠ 52 + 3 * i by omega), up_row (S := C) (i := k) (x := x) (show 25 ≠ 52 + 3 * i by omega), up_row (S := C) (i := k) (x := x) (show 26 ≠ 52 + 3 * i by omega), up_row (S := C) (i := k) (x := x) (show 27 ≠ 52 + 3 * i by omega), up_row (S := C) (i := k) (x := x) (show 28 ≠ 52 + 3 * i by omega), up_row (S := C) (i := k) (x := x) (show 29 ≠ 52 + 3 * i by omega), up_row (S := C) (i := k) (x := x) (show 30 ≠ 52 + 3 * i by omega), up_row (S := C) (i := k) (x := x) (show 31 ≠ 52 + 3 * i by omega), up_row (S := C) (i := k) (x := x) (show 32 ≠ 52 + 3 * i by omega), up_row (S := C) (i := k) (x := x) (show 33 ≠ 52 + 3 * i by omega), up_row (S := C) (i := k) (x := x) (show 34 ≠ 52 + 3 * i by omega)]
  split
  · rfl
  · skip
    split
    · rfl
    · skip
      split
      · rfl
      · skip
        split
        · rfl
        · skip
          split
          · rw [up_row (by omega)]
          · skip
            split
            · rw [up_row (by omega)]
            · rw [up_row (by omega)]
theorem eM_0 {g : GT} {h : Nat × Nat} {C M : St} {o : Int64} {x : Int32} {i m : Nat} (hm : m ≠ 10) : ent g h C (up M 0 i x) o m = ent g h C M o m := by
  unfold ent
  split
  · unfold fixE
    split <;> first | rfl | exact absurd rfl hm | simp only [up_row (S := M) (i := i) (x := x) (show 1 ≠ 0 by decide), up_row (S := M) (i := i) (x := x) (show 2 ≠ 0 by decide), up_row (S := M) (i := i) (x := x) (show 3 ≠ 0 by decide), up_row (S := M) (i := i) (x := x) (show 4 ≠ 0 by decide), up_row (S := M) (i := i) (x := x) (show 5 ≠ 0 by decide), up_row (S := M) (i := i) (x := x) (show 6 ≠ 0 by decide), up_row (S := M) (i := i) (x := x) (show 7 ≠ 0 by decide), up_row (S := M) (i := i) (x := x) (show 8 ≠ 0 by decide), up_row (S := M) (i := i) (x := x) (show 9 ≠ 0 by decide), up_row (S := M) (i := i) (x := x) (show 10 ≠ 0 by decide), up_row (S := M) (i := i) (x := x) (show 11 ≠ 0 by decide), up_row (S := M) (i := i) (x := x) (show 12 ≠ 0 by decide), up_row (S := M) (i := i) (x := x) (show 13 ≠ 0 by decide), up_row (S := M) (i := i) (x := x) (show 14 ≠ 0 by decide), up_row (S := M) (i := i) (x := x) (show 15 ≠ 0 by decide), up_row (S := M) (i := i) (x := x) (show 16 ≠ 0 by decide), up_row (S := M) (i := i) (x := x) (show 17 ≠ 0 by decide), up_row (S := M) (i := i) (x := x) (show 18 ≠ 0 by decide), up_row (S := M) (i := i) (x := x) (show 19 ≠ 0 by decide), up_row (S := M) (i := i) (x := x) (show 20 ≠ 0 by decide), up_row (S := M) (i := i) (x := x) (show 21 ≠ 0 by decide), up_row (S := M) (i := i) (x := x) (show 22 ≠ 0 by decide), up_row (S := M) (i := i) (x := x) (show 23 ≠ 0 by decide), up_row (S := M) (i := i) (x := x) (show 24 ≠ 0 by decide), up_row (S := M) (i := i) (x := x) (show 25 ≠ 0 by decide), up_row (S := M) (i := i) (x := x) (show 26 ≠ 0 by decide), up_row (S := M) (i := i) (x := x) (show 27 ≠ 0 by decide), up_row (S := M) (i := i) (x := x) (show 28 ≠ 0 by decide), up_row (S := M) (i := i) (x := x) (show 29 ≠ 0 by decide), up_row (S := M) (i := i) (x := x) (show 30 ≠ 0 by decide), up_row (S := M) (i := i) (x := x) (show 31 ≠ 0 by decide)]
  · rfl
theorem eM_1 {g : GT} {h : Nat × Nat} {C M : St} {o : Int64} {x : Int32} {i m : Nat} (hm : m ≠ 11) : ent g h C (up M 1 i x) o m = ent g h C M o m := by
  unfold ent
  split
  · unfold fixE
    split <;> first | rfl | exact absurd rfl hm | simp only [up_row (S := M) (i := i) (x := x) (show 0 ≠ 1 by decide), up_row (S := M) (i := i) (x := x) (show 2 ≠ 1 by decide), up_row (S := M) (i := i) (x := x) (show 3 ≠ 1 by decide), up_row (S := M) (i := i) (x := x) (show 4 ≠ 1 by decide), up_row (S := M) (i := i) (x := x) (show 5 ≠ 1 by decide), up_row (S := M) (i := i) (x := x) (show 6 ≠ 1 by decide), up_row (S := M) (i := i) (x := x) (show 7 ≠ 1 by decide), up_row (S := M) (i := i) (x := x) (show 8 ≠ 1 by decide), up_row (S := M) (i := i) (x := x) (show 9 ≠ 1 by decide), up_row (S := M) (i := i) (x := x) (show 10 ≠ 1 by decide), up_row (S := M) (i := i) (x := x) (show 11 ≠ 1 by decide), up_row (S := M) (i := i) (x := x) (show 12 ≠ 1 by decide), up_row (S := M) (i := i) (x := x) (show 13 ≠ 1 by decide), up_row (S := M) (i := i) (x := x) (show 14 ≠ 1 by decide), up_row (S := M) (i := i) (x := x) (show 15 ≠ 1 by decide), up_row (S := M) (i := i) (x := x) (show 16 ≠ 1 by decide), up_row (S := M) (i := i) (x := x) (show 17 ≠ 1 by decide), up_row (S := M) (i := i) (x := x) (show 18 ≠ 1 by decide), up_row (S := M) (i := i) (x := x) (show 19 ≠ 1 by decide), up_row (S := M) (i := i) (x := x) (show 20 ≠ 1 by decide), up_row (S := M) (i := i) (x := x) (show 21 ≠ 1 by decide), up_row (S := M) (i := i) (x := x) (show 22 ≠ 1 by decide), up_row (S := M) (i := i) (x := x) (show 23 ≠ 1 by decide), up_row (S := M) (i := i) (x := x) (show 24 ≠ 1 by decide), up_row (S := M) (i := i) (x := x) (show 25 ≠ 1 by decide), up_row (S := M) (i := i) (x := x) (show 26 ≠ 1 by decide), up_row (S := M) (i := i) (x := x) (show 27 ≠ 1 by decide), up_row (S := M) (i := i) (x := x) (show 28 ≠ 1 by decide), up_row (S := M) (i := i) (x := x) (show 29 ≠ 1 by decide), up_row (S := M) (i := i) (x := x) (show 30 ≠ 1 by decide), up_row (S := M) (i := i) (x := x) (show 31 ≠ 1 by decide)]
  · rfl
theorem eM_2 {g : GT} {h : Nat × Nat} {C M : St} {o : Int64} {x : Int32} {i m : Nat} (hm : m ≠ 12) : ent g h C (up M 2 i x) o m = ent g h C M o m := by
  unfold ent
  split
  · unfold fixE
    split <;> first | rfl | exact absurd rfl hm | simp only [up_row (S := M) (i := i) (x := x) (show 0 ≠ 2 by decide), up_row (S := M) (i := i) (x := x) (show 1 ≠ 2 by decide), up_row (S := M) (i := i) (x := x) (show 3 ≠ 2 by decide), up_row (S := M) (i := i) (x := x) (show 4 ≠ 2 by decide), up_row (S := M) (i := i) (x := x) (show 5 ≠ 2 by decide), up_row (S := M) (i := i) (x := x) (show 6 ≠ 2 by decide), up_row (S := M) (i := i) (x := x) (show 7 ≠ 2 by decide), up_row (S := M) (i := i) (x := x) (show 8 ≠ 2 by decide), up_row (S := M) (i := i) (x := x) (show 9 ≠ 2 by decide), up_row (S := M) (i := i) (x := x) (show 10 ≠ 2 by decide), up_row (S := M) (i := i) (x := x) (show 11 ≠ 2 by decide), up_row (S := M) (i := i) (x := x) (show 12 ≠ 2 by decide), up_row (S := M) (i := i) (x := x) (show 13 ≠ 2 by decide), up_row (S := M) (i := i) (x := x) (show 14 ≠ 2 by decide), up_row (S := M) (i := i) (x := x) (show 15 ≠ 2 by decide), up_row (S := M) (i := i) (x := x) (show 16 ≠ 2 by decide), up_row (S := M) (i := i) (x := x) (show 17 ≠ 2 by decide), up_row (S := M) (i := i) (x := x) (show 18 ≠ 2 by decide), up_row (S := M) (i := i) (x := x) (show 19 ≠ 2 by decide), up_row (S := M) (i := i) (x := x) (show 20 ≠ 2 by decide), up_row (S := M) (i := i) (x := x) (show 21 ≠ 2 by decide), up_row (S := M) (i := i) (x := x) (show 22 ≠ 2 by decide), up_row (S := M) (i := i) (x := x) (show 23 ≠ 2 by decide), up_row (S := M) (i := i) (x := x) (show 24 ≠ 2 by decide), up_row (S := M) (i := i) (x := x) (show 25 ≠ 2 by decide), up_row (S := M) (i := i) (x := x) (show 26 ≠ 2 by decide), up_row (S := M) (i := i) (x := x) (show 27 ≠ 2 by decide), up_row (S := M) (i := i) (x := x) (show 28 ≠ 2 by decide), up_row (S := M) (i := i) (x := x) (show 29 ≠ 2 by decide), up_row (S := M) (i := i) (x := x) (show 30 ≠ 2 by decide), up_row (S := M) (i := i) (x := x) (show 31 ≠ 2 by decide)]
  · rfl
theorem eM_3 {g : GT} {h : Nat × Nat} {C M : St} {o : Int64} {x : Int32} {i m : Nat} (hm : m ≠ 13) : ent g h C (up M 3 i x) o m = ent g h C M o m := by
  unfold ent
  split
  · unfold fixE
    split <;> first | rfl | exact absurd rfl hm | simp only [up_row (S := M) (i := i) (x := x) (show 0 ≠ 3 by decide), up_row (S := M) (i := i) (x := x) (show 1 ≠ 3 by decide), up_row (S := M) (i := i) (x := x) (show 2 ≠ 3 by decide), up_row (S := M) (i := i) (x := x) (show 4 ≠ 3 by decide), up_row (S := M) (i := i) (x := x) (show 5 ≠ 3 by decide), up_row (S := M) (i := i) (x := x) (show 6 ≠ 3 by decide), up_row (S := M) (i := i) (x := x) (show 7 ≠ 3 by decide), up_row (S := M) (i := i) (x := x) (show 8 ≠ 3 by decide), up_row (S := M) (i := i) (x := x) (show 9 ≠ 3 by decide), up_row (S := M) (i := i) (x := x) (show 10 ≠ 3 by decide), up_row (S := M) (i := i) (x := x) (show 11 ≠ 3 by decide), up_row (S := M) (i := i) (x := x) (show 12 ≠ 3 by decide), up_row (S := M) (i := i) (x := x) (show 13 ≠ 3 by decide), up_row (S := M) (i := i) (x := x) (show 14 ≠ 3 by decide), up_row (S := M) (i := i) (x := x) (show 15 ≠ 3 by decide), up_row (S := M) (i := i) (x := x) (show 16 ≠ 3 by decide), up_row (S := M) (i := i) (x := x) (show 17 ≠ 3 by decide), up_row (S := M) (i := i) (x := x) (show 18 ≠ 3 by decide), up_row (S := M) (i := i) (x := x) (show 19 ≠ 3 by decide), up_row (S := M) (i := i) (x := x) (show 20 ≠ 3 by decide), up_row (S := M) (i := i) (x := x) (show 21 ≠ 3 by decide), up_row (S := M) (i := i) (x := x) (show 22 ≠ 3 by decide), up_row (S := M) (i := i) (x := x) (show 23 ≠ 3 by decide), up_row (S := M) (i := i) (x := x) (show 24 ≠ 3 by decide), up_row (S := M) (i := i) (x := x) (show 25 ≠ 3 by decide), up_row (S := M) (i := i) (x := x) (show 26 ≠ 3 by decide), up_row (S := M) (i := i) (x := x) (show 27 ≠ 3 by decide), up_row (S := M) (i := i) (x := x) (show 28 ≠ 3 by decide), up_row (S := M) (i := i) (x := x) (show 29 ≠ 3 by decide), up_row (S := M) (i := i) (x := x) (show 30 ≠ 3 by decide), up_row (S := M) (i := i) (x := x) (show 31 ≠ 3 by decide)]
  · rfl
theorem eM_4 {g : GT} {h : Nat × Nat} {C M : St} {o : Int64} {x : Int32} {i m : Nat} (hm : m ≠ 10) : ent g h C (up M 4 i x) o m = ent g h C M o m := by
  unfold ent
  split
  · unfold fixE
    split <;> first | rfl | exact absurd rfl hm | simp only [up_row (S := M) (i := i) (x := x) (show 0 ≠ 4 by decide), up_row (S := M) (i := i) (x := x) (show 1 ≠ 4 by decide), up_row (S := M) (i := i) (x := x) (show 2 ≠ 4 by decide), up_row (S := M) (i := i) (x := x) (show 3 ≠ 4 by decide), up_row (S := M) (i := i) (x := x) (show 5 ≠ 4 by decide), up_row (S := M) (i := i) (x := x) (show 6 ≠ 4 by decide), up_row (S := M) (i := i) (x := x) (show 7 ≠ 4 by decide), up_row (S := M) (i := i) (x := x) (show 8 ≠ 4 by decide), up_row (S := M) (i := i) (x := x) (show 9 ≠ 4 by decide), up_row (S := M) (i := i) (x := x) (show 10 ≠ 4 by decide), up_row (S := M) (i := i) (x := x) (show 11 ≠ 4 by decide), up_row (S := M) (i := i) (x := x) (show 12 ≠ 4 by decide), up_row (S := M) (i := i) (x := x) (show 13 ≠ 4 by decide), up_row (S := M) (i := i) (x := x) (show 14 ≠ 4 by decide), up_row (S := M) (i := i) (x := x) (show 15 ≠ 4 by decide), up_row (S := M) (i := i) (x := x) (show 16 ≠ 4 by decide), up_row (S := M) (i := i) (x := x) (show 17 ≠ 4 by decide), up_row (S := M) (i := i) (x := x) (show 18 ≠ 4 by decide), up_row (S := M) (i := i) (x := x) (show 19 ≠ 4 by decide), up_row (S := M) (i := i) (x := x) (show 20 ≠ 4 by decide), up_row (S := M) (i := i) (x := x) (show 21 ≠ 4 by decide), up_row (S := M) (i := i) (x := x) (show 22 ≠ 4 by decide), up_row (S := M) (i := i) (x := x) (show 23 ≠ 4 by decide), up_row (S := M) (i := i) (x := x) (show 24 ≠ 4 by decide), up_row (S := M) (i := i) (x := x) (show 25 ≠ 4 by decide), up_row (S := M) (i := i) (x := x) (show 26 ≠ 4 by decide), up_row (S := M) (i := i) (x := x) (show 27 ≠ 4 by decide), up_row (S := M) (i := i) (x := x) (show 28 ≠ 4 by decide), up_row (S := M) (i := i) (x := x) (show 29 ≠ 4 by decide), up_row (S := M) (i := i) (x := x) (show 30 ≠ 4 by decide), up_row (S := M) (i := i) (x := x) (show 31 ≠ 4 by decide)]
  · rfl
theorem eM_5 {g : GT} {h : Nat × Nat} {C M : St} {o : Int64} {x : Int32} {i m : Nat} (hm : m ≠ 14) : ent g h C (up M 5 i x) o m = ent g h C M o m := by
  unfold ent
  split
  · unfold fixE
    split <;> first | rfl | exact absurd rfl hm | simp only [up_row (S := M) (i := i) (x := x) (show 0 ≠ 5 by decide), up_row (S := M) (i := i) (x := x) (show 1 ≠ 5 by decide), up_row (S := M) (i := i) (x := x) (show 2 ≠ 5 by decide), up_row (S := M) (i := i) (x := x) (show 3 ≠ 5 by decide), up_row (S := M) (i := i) (x := x) (show 4 ≠ 5 by decide), up_row (S := M) (i := i) (x := x) (show 6 ≠ 5 by decide), up_row (S := M) (i := i) (x := x) (show 7 ≠ 5 by decide), up_row (S := M) (i := i) (x := x) (show 8 ≠ 5 by decide), up_row (S := M) (i := i) (x := x) (show 9 ≠ 5 by decide), up_row (S := M) (i := i) (x := x) (show 10 ≠ 5 by decide), up_row (S := M) (i := i) (x := x) (show 11 ≠ 5 by decide), up_row (S := M) (i := i) (x := x) (show 12 ≠ 5 by decide), up_row (S := M) (i := i) (x := x) (show 13 ≠ 5 by decide), up_row (S := M) (i := i) (x := x) (show 14 ≠ 5 by decide), up_row (S := M) (i := i) (x := x) (show 15 ≠ 5 by decide), up_row (S := M) (i := i) (x := x) (show 16 ≠ 5 by decide), up_row (S := M) (i := i) (x := x) (show 17 ≠ 5 by decide), up_row (S := M) (i := i) (x := x) (show 18 ≠ 5 by decide), up_row (S := M) (i := i) (x := x) (show 19 ≠ 5 by decide), up_row (S := M) (i := i) (x := x) (show 20 ≠ 5 by decide), up_row (S := M) (i := i) (x := x) (show 21 ≠ 5 by decide), up_row (S := M) (i := i) (x := x) (show 22 ≠ 5 by decide), up_row (S := M) (i := i) (x := x) (show 23 ≠ 5 by decide), up_row (S := M) (i := i) (x := x) (show 24 ≠ 5 by decide), up_row (S := M) (i := i) (x := x) (show 25 ≠ 5 by decide), up_row (S := M) (i := i) (x := x) (show 26 ≠ 5 by decide), up_row (S := M) (i := i) (x := x) (show 27 ≠ 5 by decide), up_row (S := M) (i := i) (x := x) (show 28 ≠ 5 by decide), up_row (S := M) (i := i) (x := x) (show 29 ≠ 5 by decide), up_row (S := M) (i := i) (x := x) (show 30 ≠ 5 by decide), up_row (S := M) (i := i) (x := x) (show 31 ≠ 5 by decide)]
  · rfl
theorem eM_6 {g : GT} {h : Nat × Nat} {C M : St} {o : Int64} {x : Int32} {i m : Nat} (hm : m ≠ 15) : ent g h C (up M 6 i x) o m = ent g h C M o m := by
  unfold ent
  split
  · unfold fixE
    split <;> first | rfl | exact absurd rfl hm | simp only [up_row (S := M) (i := i) (x := x) (show 0 ≠ 6 by decide), up_row (S := M) (i := i) (x := x) (show 1 ≠ 6 by decide), up_row (S := M) (i := i) (x := x) (show 2 ≠ 6 by decide), up_row (S := M) (i := i) (x := x) (show 3 ≠ 6 by decide), up_row (S := M) (i := i) (x := x) (show 4 ≠ 6 by decide), up_row (S := M) (i := i) (x := x) (show 5 ≠ 6 by decide), up_row (S := M) (i := i) (x := x) (show 7 ≠ 6 by decide), up_row (S := M) (i := i) (x := x) (show 8 ≠ 6 by decide), up_row (S := M) (i := i) (x := x) (show 9 ≠ 6 by decide), up_row (S := M) (i := i) (x := x) (show 10 ≠ 6 by decide), up_row (S := M) (i := i) (x := x) (show 11 ≠ 6 by decide), up_row (S := M) (i := i) (x := x) (show 12 ≠ 6 by decide), up_row (S := M) (i := i) (x := x) (show 13 ≠ 6 by decide), up_row (S := M) (i := i) (x := x) (show 14 ≠ 6 by decide), up_row (S := M) (i := i) (x := x) (show 15 ≠ 6 by decide), up_row (S := M) (i := i) (x := x) (show 16 ≠ 6 by decide), up_row (S := M) (i := i) (x := x) (show 17 ≠ 6 by decide), up_row (S := M) (i := i) (x := x) (show 18 ≠ 6 by decide), up_row (S := M) (i := i) (x := x) (show 19 ≠ 6 by decide), up_row (S := M) (i := i) (x := x) (show 20 ≠ 6 by decide), up_row (S := M) (i := i) (x := x) (show 21 ≠ 6 by decide), up_row (S := M) (i := i) (x := x) (show 22 ≠ 6 by decide), up_row (S := M) (i := i) (x := x) (show 23 ≠ 6 by decide), up_row (S := M) (i := i) (x := x) (show 24 ≠ 6 by decide), up_row (S := M) (i := i) (x := x) (show 25 ≠ 6 by decide), up_row (S := M) (i := i) (x := x) (show 26 ≠ 6 by decide), up_row (S := M) (i := i) (x := x) (show 27 ≠ 6 by decide), up_row (S := M) (i := i) (x := x) (show 28 ≠ 6 by decide), up_row (S := M) (i := i) (x := x) (show 29 ≠ 6 by decide), up_row (S := M) (i := i) (x := x) (show 30 ≠ 6 by decide), up_row (S := M) (i := i) (x := x) (show 31 ≠ 6 by decide)]
  · rfl
theorem eM_7 {g : GT} {h : Nat × Nat} {C M : St} {o : Int64} {x : Int32} {i m : Nat} (hm : m ≠ 16) : ent g h C (up M 7 i x) o m = ent g h C M o m := by
  unfold ent
  split
  · unfold fixE
    split <;> first | rfl | exact absurd rfl hm | simp only [up_row (S := M) (i := i) (x := x) (show 0 ≠ 7 by decide), up_row (S := M) (i := i) (x := x) (show 1 ≠ 7 by decide), up_row (S := M) (i := i) (x := x) (show 2 ≠ 7 by decide), up_row (S := M) (i := i) (x := x) (show 3 ≠ 7 by decide), up_row (S := M) (i := i) (x := x) (show 4 ≠ 7 by decide), up_row (S := M) (i := i) (x := x) (show 5 ≠ 7 by decide), up_row (S := M) (i := i) (x := x) (show 6 ≠ 7 by decide), up_row (S := M) (i := i) (x := x) (show 8 ≠ 7 by decide), up_row (S := M) (i := i) (x := x) (show 9 ≠ 7 by decide), up_row (S := M) (i := i) (x := x) (show 10 ≠ 7 by decide), up_row (S := M) (i := i) (x := x) (show 11 ≠ 7 by decide), up_row (S := M) (i := i) (x := x) (show 12 ≠ 7 by decide), up_row (S := M) (i := i) (x := x) (show 13 ≠ 7 by decide), up_row (S := M) (i := i) (x := x) (show 14 ≠ 7 by decide), up_row (S := M) (i := i) (x := x) (show 15 ≠ 7 by decide), up_row (S := M) (i := i) (x := x) (show 16 ≠ 7 by decide), up_row (S := M) (i := i) (x := x) (show 17 ≠ 7 by decide), up_row (S := M) (i := i) (x := x) (show 18 ≠ 7 by decide), up_row (S := M) (i := i) (x := x) (show 19 ≠ 7 by decide), up_row (S := M) (i := i) (x := x) (show 20 ≠ 7 by decide), up_row (S := M) (i := i) (x := x) (show 21 ≠ 7 by decide), up_row (S := M) (i := i) (x := x) (show 22 ≠ 7 by decide), up_row (S := M) (i := i) (x := x) (show 23 ≠ 7 by decide), up_row (S := M) (i := i) (x := x) (show 24 ≠ 7 by decide), up_row (S := M) (i := i) (x := x) (show 25 ≠ 7 by decide), up_row (S := M) (i := i) (x := x) (show 26 ≠ 7 by decide), up_row (S := M) (i := i) (x := x) (show 27 ≠ 7 by decide), up_row (S := M) (i := i) (x := x) (show 28 ≠ 7 by decide), up_row (S := M) (i := i) (x := x) (show 29 ≠ 7 by decide), up_row (S := M) (i := i) (x := x) (show 30 ≠ 7 by decide), up_row (S := M) (i := i) (x := x) (show 31 ≠ 7 by decide)]
  · rfl
theorem eM_8 {g : GT} {h : Nat × Nat} {C M : St} {o : Int64} {x : Int32} {i m : Nat} (hm : m ≠ 17) : ent g h C (up M 8 i x) o m = ent g h C M o m := by
  unfold ent
  split
  · unfold fixE
    split <;> first | rfl | exact absurd rfl hm | simp only [up_row (S := M) (i := i) (x := x) (show 0 ≠ 8 by decide), up_row (S := M) (i := i) (x := x) (show 1 ≠ 8 by decide), up_row (S := M) (i := i) (x := x) (show 2 ≠ 8 by decide), up_row (S := M) (i := i) (x := x) (show 3 ≠ 8 by decide), up_row (S := M) (i := i) (x := x) (show 4 ≠ 8 by decide), up_row (S := M) (i := i) (x := x) (show 5 ≠ 8 by decide), up_row (S := M) (i := i) (x := x) (show 6 ≠ 8 by decide), up_row (S := M) (i := i) (x := x) (show 7 ≠ 8 by decide), up_row (S := M) (i := i) (x := x) (show 9 ≠ 8 by decide), up_row (S := M) (i := i) (x := x) (show 10 ≠ 8 by decide), up_row (S := M) (i := i) (x := x) (show 11 ≠ 8 by decide), up_row (S := M) (i := i) (x := x) (show 12 ≠ 8 by decide), up_row (S := M) (i := i) (x := x) (show 13 ≠ 8 by decide), up_row (S := M) (i := i) (x := x) (show 14 ≠ 8 by decide), up_row (S := M) (i := i) (x := x) (show 15 ≠ 8 by decide), up_row (S := M) (i := i) (x := x) (show 16 ≠ 8 by decide), up_row (S := M) (i := i) (x := x) (show 17 ≠ 8 by decide), up_row (S := M) (i := i) (x := x) (show 18 ≠ 8 by decide), up_row (S := M) (i := i) (x := x) (show 19 ≠ 8 by decide), up_row (S := M) (i := i) (x := x) (show 20 ≠ 8 by decide), up_row (S := M) (i := i) (x := x) (show 21 ≠ 8 by decide), up_row (S := M) (i := i) (x := x) (show 22 ≠ 8 by decide), up_row (S := M) (i := i) (x := x) (show 23 ≠ 8 by decide), up_row (S := M) (i := i) (x := x) (show 24 ≠ 8 by decide), up_row (S := M) (i := i) (x := x) (show 25 ≠ 8 by decide), up_row (S := M) (i := i) (x := x) (show 26 ≠ 8 by decide), up_row (S := M) (i := i) (x := x) (show 27 ≠ 8 by decide), up_row (S := M) (i := i) (x := x) (show 28 ≠ 8 by decide), up_row (S := M) (i := i) (x := x) (show 29 ≠ 8 by decide), up_row (S := M) (i := i) (x := x) (show 30 ≠ 8 by decide), up_row (S := M) (i := i) (x := x) (show 31 ≠ 8 by decide)]
  · rfl
theorem eM_9 {g : GT} {h : Nat × Nat} {C M : St} {o : Int64} {x : Int32} {i m : Nat} (hm : m ≠ 18) : ent g h C (up M 9 i x) o m = ent g h C M o m := by
  unfold ent
  split
  · unfold fixE
    split <;> first | rfl | exact absurd rfl hm | simp only [up_row (S := M) (i := i) (x := x) (show 0 ≠ 9 by decide), up_row (S := M) (i := i) (x := x) (show 1 ≠ 9 by decide), up_row (S := M) (i := i) (x := x) (show 2 ≠ 9 by decide), up_row (S := M) (i := i) (x := x) (show 3 ≠ 9 by decide), up_row (S := M) (i := i) (x := x) (show 4 ≠ 9 by decide), up_row (S := M) (i := i) (x := x) (show 5 ≠ 9 by decide), up_row (S := M) (i := i) (x := x) (show 6 ≠ 9 by decide), up_row (S := M) (i := i) (x := x) (show 7 ≠ 9 by decide), up_row (S := M) (i := i) (x := x) (show 8 ≠ 9 by decide), up_row (S := M) (i := i) (x := x) (show 10 ≠ 9 by decide), up_row (S := M) (i := i) (x := x) (show 11 ≠ 9 by decide), up_row (S := M) (i := i) (x := x) (show 12 ≠ 9 by decide), up_row (S := M) (i := i) (x := x) (show 13 ≠ 9 by decide), up_row (S := M) (i := i) (x := x) (show 14 ≠ 9 by decide), up_row (S := M) (i := i) (x := x) (show 15 ≠ 9 by decide), up_row (S := M) (i := i) (x := x) (show 16 ≠ 9 by decide), up_row (S := M) (i := i) (x := x) (show 17 ≠ 9 by decide), up_row (S := M) (i := i) (x := x) (show 18 ≠ 9 by decide), up_row (S := M) (i := i) (x := x) (show 19 ≠ 9 by decide), up_row (S := M) (i := i) (x := x) (show 20 ≠ 9 by decide), up_row (S := M) (i := i) (x := x) (show 21 ≠ 9 by decide), up_row (S := M) (i := i) (x := x) (show 22 ≠ 9 by decide), up_row (S := M) (i := i) (x := x) (show 23 ≠ 9 by decide), up_row (S := M) (i := i) (x := x) (show 24 ≠ 9 by decide), up_row (S := M) (i := i) (x := x) (show 25 ≠ 9 by decide), up_row (S := M) (i := i) (x := x) (show 26 ≠ 9 by decide), up_row (S := M) (i := i) (x := x) (show 27 ≠ 9 by decide), up_row (S := M) (i := i) (x := x) (show 28 ≠ 9 by decide), up_row (S := M) (i := i) (x := x) (show 29 ≠ 9 by decide), up_row (S := M) (i := i) (x := x) (show 30 ≠ 9 by decide), up_row (S := M) (i := i) (x := x) (show 31 ≠ 9 by decide)]
  · rfl
theorem eM_10 {g : GT} {h : Nat × Nat} {C M : St} {o : Int64} {x : Int32} {i m : Nat} (hm : m ≠ 19) : ent g h C (up M 10 i x) o m = ent g h C M o m := by
  unfold ent
  split
  · unfold fixE
    split <;> first | rfl | exact absurd rfl hm | simp only [up_row (S := M) (i := i) (x := x) (show 0 ≠ 10 by decide), up_row (S := M) (i := i) (x := x) (show 1 ≠ 10 by decide), up_row (S := M) (i := i) (x := x) (show 2 ≠ 10 by decide), up_row (S := M) (i := i) (x := x) (show 3 ≠ 10 by decide), up_row (S := M) (i := i) (x := x) (show 4 ≠ 10 by decide), up_row (S := M) (i := i) (x := x) (show 5 ≠ 10 by decide), up_row (S := M) (i := i) (x := x) (show 6 ≠ 10 by decide), up_row (S := M) (i := i) (x := x) (show 7 ≠ 10 by decide), up_row (S := M) (i := i) (x := x) (show 8 ≠ 10 by decide), up_row (S := M) (i := i) (x := x) (show 9 ≠ 10 by decide), up_row (S := M) (i := i) (x := x) (show 11 ≠ 10 by decide), up_row (S := M) (i := i) (x := x) (show 12 ≠ 10 by decide), up_row (S := M) (i := i) (x := x) (show 13 ≠ 10 by decide), up_row (S := M) (i := i) (x := x) (show 14 ≠ 10 by decide), up_row (S := M) (i := i) (x := x) (show 15 ≠ 10 by decide), up_row (S := M) (i := i) (x := x) (show 16 ≠ 10 by decide), up_row (S := M) (i := i) (x := x) (show 17 ≠ 10 by decide), up_row (S := M) (i := i) (x := x) (show 18 ≠ 10 by decide), up_row (S := M) (i := i) (x := x) (show 19 ≠ 10 by decide), up_row (S := M) (i := i) (x := x) (show 20 ≠ 10 by decide), up_row (S := M) (i := i) (x := x) (show 21 ≠ 10 by decide), up_row (S := M) (i := i) (x := x) (show 22 ≠ 10 by decide), up_row (S := M) (i := i) (x := x) (show 23 ≠ 10 by decide), up_row (S := M) (i := i) (x := x) (show 24 ≠ 10 by decide), up_row (S := M) (i := i) (x := x) (show 25 ≠ 10 by decide), up_row (S := M) (i := i) (x := x) (show 26 ≠ 10 by decide), up_row (S := M) (i := i) (x := x) (show 27 ≠ 10 by decide), up_row (S := M) (i := i) (x := x) (show 28 ≠ 10 by decide), up_row (S := M) (i := i) (x := x) (show 29 ≠ 10 by decide), up_row (S := M) (i := i) (x := x) (show 30 ≠ 10 by decide), up_row (S := M) (i := i) (x := x) (show 31 ≠ 10 by decide)]
  · rfl
theorem eM_11 {g : GT} {h : Nat × Nat} {C M : St} {o : Int64} {x : Int32} {i m : Nat} (hm : m ≠ 20) : ent g h C (up M 11 i x) o m = ent g h C M o m := by
  unfold ent
  split
  · unfold fixE
    split <;> first | rfl | exact absurd rfl hm | simp only [up_row (S := M) (i := i) (x := x) (show 0 ≠ 11 by decide), up_row (S := M) (i := i) (x := x) (show 1 ≠ 11 by decide), up_row (S := M) (i := i) (x := x) (show 2 ≠ 11 by decide), up_row (S := M) (i := i) (x := x) (show 3 ≠ 11 by decide), up_row (S := M) (i := i) (x := x) (show 4 ≠ 11 by decide), up_row (S := M) (i := i) (x := x) (show 5 ≠ 11 by decide), up_row (S := M) (i := i) (x := x) (show 6 ≠ 11 by decide), up_row (S := M) (i := i) (x := x) (show 7 ≠ 11 by decide), up_row (S := M) (i := i) (x := x) (show 8 ≠ 11 by decide), up_row (S := M) (i := i) (x := x) (show 9 ≠ 11 by decide), up_row (S := M) (i := i) (x := x) (show 10 ≠ 11 by decide), up_row (S := M) (i := i) (x := x) (show 12 ≠ 11 by decide), up_row (S := M) (i := i) (x := x) (show 13 ≠ 11 by decide), up_row (S := M) (i := i) (x := x) (show 14 ≠ 11 by decide), up_row (S := M) (i := i) (x := x) (show 15 ≠ 11 by decide), up_row (S := M) (i := i) (x := x) (show 16 ≠ 11 by decide), up_row (S := M) (i := i) (x := x) (show 17 ≠ 11 by decide), up_row (S := M) (i := i) (x := x) (show 18 ≠ 11 by decide), up_row (S := M) (i := i) (x := x) (show 19 ≠ 11 by decide), up_row (S := M) (i := i) (x := x) (show 20 ≠ 11 by decide), up_row (S := M) (i := i) (x := x) (show 21 ≠ 11 by decide), up_row (S := M) (i := i) (x := x) (show 22 ≠ 11 by decide), up_row (S := M) (i := i) (x := x) (show 23 ≠ 11 by decide), up_row (S := M) (i := i) (x := x) (show 24 ≠ 11 by decide), up_row (S := M) (i := i) (x := x) (show 25 ≠ 11 by decide), up_row (S := M) (i := i) (x := x) (show 26 ≠ 11 by decide), up_row (S := M) (i := i) (x := x) (show 27 ≠ 11 by decide), up_row (S := M) (i := i) (x := x) (show 28 ≠ 11 by decide), up_row (S := M) (i := i) (x := x) (show 29 ≠ 11 by decide), up_row (S := M) (i := i) (x := x) (show 30 ≠ 11 by decide), up_row (S := M) (i := i) (x := x) (show 31 ≠ 11 by decide)]
  · rfl
theorem eM_12 {g : GT} {h : Nat × Nat} {C M : St} {o : Int64} {x : Int32} {i m : Nat} (hm : m ≠ 10) : ent g h C (up M 12 i x) o m = ent g h C M o m := by
  unfold ent
  split
  · unfold fixE
    split <;> first | rfl | exact absurd rfl hm | simp only [up_row (S := M) (i := i) (x := x) (show 0 ≠ 12 by decide), up_row (S := M) (i := i) (x := x) (show 1 ≠ 12 by decide), up_row (S := M) (i := i) (x := x) (show 2 ≠ 12 by decide), up_row (S := M) (i := i) (x := x) (show 3 ≠ 12 by decide), up_row (S := M) (i := i) (x := x) (show 4 ≠ 12 by decide), up_row (S := M) (i := i) (x := x) (show 5 ≠ 12 by decide), up_row (S := M) (i := i) (x := x) (show 6 ≠ 12 by decide), up_row (S := M) (i := i) (x := x) (show 7 ≠ 12 by decide), up_row (S := M) (i := i) (x := x) (show 8 ≠ 12 by decide), up_row (S := M) (i := i) (x := x) (show 9 ≠ 12 by decide), up_row (S := M) (i := i) (x := x) (show 10 ≠ 12 by decide), up_row (S := M) (i := i) (x := x) (show 11 ≠ 12 by decide), up_row (S := M) (i := i) (x := x) (show 13 ≠ 12 by decide), up_row (S := M) (i := i) (x := x) (show 14 ≠ 12 by decide), up_row (S := M) (i := i) (x := x) (show 15 ≠ 12 by decide), up_row (S := M) (i := i) (x := x) (show 16 ≠ 12 by decide), up_row (S := M) (i := i) (x := x) (show 17 ≠ 12 by decide), up_row (S := M) (i := i) (x := x) (show 18 ≠ 12 by decide), up_row (S := M) (i := i) (x := x) (show 19 ≠ 12 by decide), up_row (S := M) (i := i) (x := x) (show 20 ≠ 12 by decide), up_row (S := M) (i := i) (x := x) (show 21 ≠ 12 by decide), up_row (S := M) (i := i) (x := x) (show 22 ≠ 12 by decide), up_row (S := M) (i := i) (x := x) (show 23 ≠ 12 by decide), up_row (S := M) (i := i) (x := x) (show 24 ≠ 12 by decide), up_row (S := M) (i := i) (x := x) (show 25 ≠ 12 by decide), up_row (S := M) (i := i) (x := x) (show 26 ≠ 12 by decide), up_row (S := M) (i := i) (x := x) (show 27 ≠ 12 by decide), up_row (S := M) (i := i) (x := x) (show 28 ≠ 12 by decide), up_row (S := M) (i := i) (x := x) (show 29 ≠ 12 by decide), up_row (S := M) (i := i) (x := x) (show 30 ≠ 12 by decide), up_row (S := M) (i := i) (x := x) (show 31 ≠ 12 by decide)]
  · rfl
theorem eM_13 {g : GT} {h : Nat × Nat} {C M : St} {o : Int64} {x : Int32} {i m : Nat} (hm : m ≠ 21) : ent g h C (up M 13 i x) o m = ent g h C M o m := by
  unfold ent
  split
  · unfold fixE
    split <;> first | rfl | exact absurd rfl hm | simp only [up_row (S := M) (i := i) (x := x) (show 0 ≠ 13 by decide), up_row (S := M) (i := i) (x := x) (show 1 ≠ 13 by decide), up_row (S := M) (i := i) (x := x) (show 2 ≠ 13 by decide), up_row (S := M) (i := i) (x := x) (show 3 ≠ 13 by decide), up_row (S := M) (i := i) (x := x) (show 4 ≠ 13 by decide), up_row (S := M) (i := i) (x := x) (show 5 ≠ 13 by decide), up_row (S := M) (i := i) (x := x) (show 6 ≠ 13 by decide), up_row (S := M) (i := i) (x := x) (show 7 ≠ 13 by decide), up_row (S := M) (i := i) (x := x) (show 8 ≠ 13 by decide), up_row (S := M) (i := i) (x := x) (show 9 ≠ 13 by decide), up_row (S := M) (i := i) (x := x) (show 10 ≠ 13 by decide), up_row (S := M) (i := i) (x := x) (show 11 ≠ 13 by decide), up_row (S := M) (i := i) (x := x) (show 12 ≠ 13 by decide), up_row (S := M) (i := i) (x := x) (show 14 ≠ 13 by decide), up_row (S := M) (i := i) (x := x) (show 15 ≠ 13 by decide), up_row (S := M) (i := i) (x := x) (show 16 ≠ 13 by decide), up_row (S := M) (i := i) (x := x) (show 17 ≠ 13 by decide), up_row (S := M) (i := i) (x := x) (show 18 ≠ 13 by decide), up_row (S := M) (i := i) (x := x) (show 19 ≠ 13 by decide), up_row (S := M) (i := i) (x := x) (show 20 ≠ 13 by decide), up_row (S := M) (i := i) (x := x) (show 21 ≠ 13 by decide), up_row (S := M) (i := i) (x := x) (show 22 ≠ 13 by decide), up_row (S := M) (i := i) (x := x) (show 23 ≠ 13 by decide), up_row (S := M) (i := i) (x := x) (show 24 ≠ 13 by decide), up_row (S := M) (i := i) (x := x) (show 25 ≠ 13 by decide), up_row (S := M) (i := i) (x := x) (show 26 ≠ 13 by decide), up_row (S := M) (i := i) (x := x) (show 27 ≠ 13 by decide), up_row (S := M) (i := i) (x := x) (show 28 ≠ 13 by decide), up_row (S := M) (i := i) (x := x) (show 29 ≠ 13 by decide), up_row (S := M) (i := i) (x := x) (show 30 ≠ 13 by decide), up_row (S := M) (i := i) (x := x) (show 31 ≠ 13 by decide)]
  · rfl
theorem eM_14 {g : GT} {h : Nat × Nat} {C M : St} {o : Int64} {x : Int32} {i m : Nat} (hm : m ≠ 22) : ent g h C (up M 14 i x) o m = ent g h C M o m := by
  unfold ent
  split
  · unfold fixE
    split <;> first | rfl | exact absurd rfl hm | simp only [up_row (S := M) (i := i) (x := x) (show 0 ≠ 14 by decide), up_row (S := M) (i := i) (x := x) (show 1 ≠ 14 by decide), up_row (S := M) (i := i) (x := x) (show 2 ≠ 14 by decide), up_row (S := M) (i := i) (x := x) (show 3 ≠ 14 by decide), up_row (S := M) (i := i) (x := x) (show 4 ≠ 14 by decide), up_row (S := M) (i := i) (x := x) (show 5 ≠ 14 by decide), up_row (S := M) (i := i) (x := x) (show 6 ≠ 14 by decide), up_row (S := M) (i := i) (x := x) (show 7 ≠ 14 by decide), up_row (S := M) (i := i) (x := x) (show 8 ≠ 14 by decide), up_row (S := M) (i := i) (x := x) (show 9 ≠ 14 by decide), up_row (S := M) (i := i) (x := x) (show 10 ≠ 14 by decide), up_row (S := M) (i := i) (x := x) (show 11 ≠ 14 by decide), up_row (S := M) (i := i) (x := x) (show 12 ≠ 14 by decide), up_row (S := M) (i := i) (x := x) (show 13 ≠ 14 by decide), up_row (S := M) (i := i) (x := x) (show 15 ≠ 14 by decide), up_row (S := M) (i := i) (x := x) (show 16 ≠ 14 by decide), up_row (S := M) (i := i) (x := x) (show 17 ≠ 14 by decide), up_row (S := M) (i := i) (x := x) (show 18 ≠ 14 by decide), up_row (S := M) (i := i) (x := x) (show 19 ≠ 14 by decide), up_row (S := M) (i := i) (x := x) (show 20 ≠ 14 by decide), up_row (S := M) (i := i) (x := x) (show 21 ≠ 14 by decide), up_row (S := M) (i := i) (x := x) (show 22 ≠ 14 by decide), up_row (S := M) (i := i) (x := x) (show 23 ≠ 14 by decide), up_row (S := M) (i := i) (x := x) (show 24 ≠ 14 by decide), up_row (S := M) (i := i) (x := x) (show 25 ≠ 14 by decide), up_row (S := M) (i := i) (x := x) (show 26 ≠ 14 by decide), up_row (S := M) (i := i) (x := x) (show 27 ≠ 14 by decide), up_row (S := M) (i := i) (x := x) (show 28 ≠ 14 by decide), up_row (S := M) (i := i) (x := x) (show 29 ≠ 14 by decide), up_row (S := M) (i := i) (x := x) (show 30 ≠ 14 by decide), up_row (S := M) (i := i) (x := x) (show 31 ≠ 14 by decide)]
  · rfl
theorem eM_15 {g : GT} {h : Nat × Nat} {C M : St} {o : Int64} {x : Int32} {i m : Nat} (hm : m ≠ 23) : ent g h C (up M 15 i x) o m = ent g h C M o m := by
  unfold ent
  split
  · unfold fixE
    split <;> first | rfl | exact absurd rfl hm | simp only [up_row (S := M) (i := i) (x := x) (show 0 ≠ 15 by decide), up_row (S := M) (i := i) (x := x) (show 1 ≠ 15 by decide), up_row (S := M) (i := i) (x := x) (show 2 ≠ 15 by decide), up_row (S := M) (i := i) (x := x) (show 3 ≠ 15 by decide), up_row (S := M) (i := i) (x := x) (show 4 ≠ 15 by decide), up_row (S := M) (i := i) (x := x) (show 5 ≠ 15 by decide), up_row (S := M) (i := i) (x := x) (show 6 ≠ 15 by decide), up_row (S := M) (i := i) (x := x) (show 7 ≠ 15 by decide), up_row (S := M) (i := i) (x := x) (show 8 ≠ 15 by decide), up_row (S := M) (i := i) (x := x) (show 9 ≠ 15 by decide), up_row (S := M) (i := i) (x := x) (show 10 ≠ 15 by decide), up_row (S := M) (i := i) (x := x) (show 11 ≠ 15 by decide), up_row (S := M) (i := i) (x := x) (show 12 ≠ 15 by decide), up_row (S := M) (i := i) (x := x) (show 13 ≠ 15 by decide), up_row (S := M) (i := i) (x := x) (show 14 ≠ 15 by decide), up_row (S := M) (i := i) (x := x) (show 16 ≠ 15 by decide), up_row (S := M) (i := i) (x := x) (show 17 ≠ 15 by decide), up_row (S := M) (i := i) (x := x) (show 18 ≠ 15 by decide), up_row (S := M) (i := i) (x := x) (show 19 ≠ 15 by decide), up_row (S := M) (i := i) (x := x) (show 20 ≠ 15 by decide), up_row (S := M) (i := i) (x := x) (show 21 ≠ 15 by decide), up_row (S := M) (i := i) (x := x) (show 22 ≠ 15 by decide), up_row (S := M) (i := i) (x := x) (show 23 ≠ 15 by decide), up_row (S := M) (i := i) (x := x) (show 24 ≠ 15 by decide), up_row (S := M) (i := i) (x := x) (show 25 ≠ 15 by decide), up_row (S := M) (i := i) (x := x) (show 26 ≠ 15 by decide), up_row (S := M) (i := i) (x := x) (show 27 ≠ 15 by decide), up_row (S := M) (i := i) (x := x) (show 28 ≠ 15 by decide), up_row (S := M) (i := i) (x := x) (show 29 ≠ 15 by decide), up_row (S := M) (i := i) (x := x) (show 30 ≠ 15 by decide), up_row (S := M) (i := i) (x := x) (show 31 ≠ 15 by decide)]
  · rfl
theorem eM_16 {g : GT} {h : Nat × Nat} {C M : St} {o : Int64} {x : Int32} {i m : Nat} (hm : m ≠ 10) : ent g h C (up M 16 i x) o m = ent g h C M o m := by
  unfold ent
  split
  · unfold fixE
    split <;> first | rfl | exact absurd rfl hm | simp only [up_row (S := M) (i := i) (x := x) (show 0 ≠ 16 by decide), up_row (S := M) (i := i) (x := x) (show 1 ≠ 16 by decide), up_row (S := M) (i := i) (x := x) (show 2 ≠ 16 by decide), up_row (S := M) (i := i) (x := x) (show 3 ≠ 16 by decide), up_row (S := M) (i := i) (x := x) (show 4 ≠ 16 by decide), up_row (S := M) (i := i) (x := x) (show 5 ≠ 16 by decide), up_row (S := M) (i := i) (x := x) (show 6 ≠ 16 by decide), up_row (S := M) (i := i) (x := x) (show 7 ≠ 16 by decide), up_row (S := M) (i := i) (x := x) (show 8 ≠ 16 by decide), up_row (S := M) (i := i) (x := x) (show 9 ≠ 16 by decide), up_row (S := M) (i := i) (x := x) (show 10 ≠ 16 by decide), up_row (S := M) (i := i) (x := x) (show 11 ≠ 16 by decide), up_row (S := M) (i := i) (x := x) (show 12 ≠ 16 by decide), up_row (S := M) (i := i) (x := x) (show 13 ≠ 16 by decide), up_row (S := M) (i := i) (x := x) (show 14 ≠ 16 by decide), up_row (S := M) (i := i) (x := x) (show 15 ≠ 16 by decide), up_row (S := M) (i := i) (x := x) (show 17 ≠ 16 by decide), up_row (S := M) (i := i) (x := x) (show 18 ≠ 16 by decide), up_row (S := M) (i := i) (x := x) (show 19 ≠ 16 by decide), up_row (S := M) (i := i) (x := x) (show 20 ≠ 16 by decide), up_row (S := M) (i := i) (x := x) (show 21 ≠ 16 by decide), up_row (S := M) (i := i) (x := x) (show 22 ≠ 16 by decide), up_row (S := M) (i := i) (x := x) (show 23 ≠ 16 by decide), up_row (S := M) (i := i) (x := x) (show 24 ≠ 16 by decide), up_row (S := M) (i := i) (x := x) (show 25 ≠ 16 by decide), up_row (S := M) (i := i) (x := x) (show 26 ≠ 16 by decide), up_row (S := M) (i := i) (x := x) (show 27 ≠ 16 by decide), up_row (S := M) (i := i) (x := x) (show 28 ≠ 16 by decide), up_row (S := M) (i := i) (x := x) (show 29 ≠ 16 by decide), up_row (S := M) (i := i) (x := x) (show 30 ≠ 16 by decide), up_row (S := M) (i := i) (x := x) (show 31 ≠ 16 by decide)]
  · rfl
theorem eM_17 {g : GT} {h : Nat × Nat} {C M : St} {o : Int64} {x : Int32} {i m : Nat} (hm : m ≠ 24) : ent g h C (up M 17 i x) o m = ent g h C M o m := by
  unfold ent
  split
  · unfold fixE
    split <;> first | rfl | exact absurd rfl hm | simp only [up_row (S := M) (i := i) (x := x) (show 0 ≠ 17 by decide), up_row (S := M) (i := i) (x := x) (show 1 ≠ 17 by decide), up_row (S := M) (i := i) (x := x) (show 2 ≠ 17 by decide), up_row (S := M) (i := i) (x := x) (show 3 ≠ 17 by decide), up_row (S := M) (i := i) (x := x) (show 4 ≠ 17 by decide), up_row (S := M) (i := i) (x := x) (show 5 ≠ 17 by decide), up_row (S := M) (i := i) (x := x) (show 6 ≠ 17 by decide), up_row (S := M) (i := i) (x := x) (show 7 ≠ 17 by decide), up_row (S := M) (i := i) (x := x) (show 8 ≠ 17 by decide), up_row (S := M) (i := i) (x := x) (show 9 ≠ 17 by decide), up_row (S := M) (i := i) (x := x) (show 10 ≠ 17 by decide), up_row (S := M) (i := i) (x := x) (show 11 ≠ 17 by decide), up_row (S := M) (i := i) (x := x) (show 12 ≠ 17 by decide), up_row (S := M) (i := i) (x := x) (show 13 ≠ 17 by decide), up_row (S := M) (i := i) (x := x) (show 14 ≠ 17 by decide), up_row (S := M) (i := i) (x := x) (show 15 ≠ 17 by decide), up_row (S := M) (i := i) (x := x) (show 16 ≠ 17 by decide), up_row (S := M) (i := i) (x := x) (show 18 ≠ 17 by decide), up_row (S := M) (i := i) (x := x) (show 19 ≠ 17 by decide), up_row (S := M) (i := i) (x := x) (show 20 ≠ 17 by decide), up_row (S := M) (i := i) (x := x) (show 21 ≠ 17 by decide), up_row (S := M) (i := i) (x := x) (show 22 ≠ 17 by decide), up_row (S := M) (i := i) (x := x) (show 23 ≠ 17 by decide), up_row (S := M) (i := i) (x := x) (show 24 ≠ 17 by decide), up_row (S := M) (i := i) (x := x) (show 25 ≠ 17 by decide), up_row (S := M) (i := i) (x := x) (show 26 ≠ 17 by decide), up_row (S := M) (i := i) (x := x) (show 27 ≠ 17 by decide), up_row (S := M) (i := i) (x := x) (show 28 ≠ 17 by decide), up_row (S := M) (i := i) (x := x) (show 29 ≠ 17 by decide), up_row (S := M) (i := i) (x := x) (show 30 ≠ 17 by decide), up_row (S := M) (i := i) (x := x) (show 31 ≠ 17 by decide)]
  · rfl
theorem eM_18 {g : GT} {h : Nat × Nat} {C M : St} {o : Int64} {x : Int32} {i m : Nat} (hm : m ≠ 25) : ent g h C (up M 18 i x) o m = ent g h C M o m := by
  unfold ent
  split
  · unfold fixE
    split <;> first | rfl | exact absurd rfl hm | simp only [up_row (S := M) (i := i) (x := x) (show 0 ≠ 18 by decide), up_row (S := M) (i := i) (x := x) (show 1 ≠ 18 by decide), up_row (S := M) (i := i) (x := x) (show 2 ≠ 18 by decide), up_row (S := M) (i := i) (x := x) (show 3 ≠ 18 by decide), up_row (S := M) (i := i) (x := x) (show 4 ≠ 18 by decide), up_row (S := M) (i := i) (x := x) (show 5 ≠ 18 by decide), up_row (S := M) (i := i) (x := x) (show 6 ≠ 18 by decide), up_row (S := M) (i := i) (x := x) (show 7 ≠ 18 by decide), up_row (S := M) (i := i) (x := x) (show 8 ≠ 18 by decide), up_row (S := M) (i := i) (x := x) (show 9 ≠ 18 by decide), up_row (S := M) (i := i) (x := x) (show 10 ≠ 18 by decide), up_row (S := M) (i := i) (x := x) (show 11 ≠ 18 by decide), up_row (S := M) (i := i) (x := x) (show 12 ≠ 18 by decide), up_row (S := M) (i := i) (x := x) (show 13 ≠ 18 by decide), up_row (S := M) (i := i) (x := x) (show 14 ≠ 18 by decide), up_row (S := M) (i := i) (x := x) (show 15 ≠ 18 by decide), up_row (S := M) (i := i) (x := x) (show 16 ≠ 18 by decide), up_row (S := M) (i := i) (x := x) (show 17 ≠ 18 by decide), up_row (S := M) (i := i) (x := x) (show 19 ≠ 18 by decide), up_row (S := M) (i := i) (x := x) (show 20 ≠ 18 by decide), up_row (S := M) (i := i) (x := x) (show 21 ≠ 18 by decide), up_row (S := M) (i := i) (x := x) (show 22 ≠ 18 by decide), up_row (S := M) (i := i) (x := x) (show 23 ≠ 18 by decide), up_row (S := M) (i := i) (x := x) (show 24 ≠ 18 by decide), up_row (S := M) (i := i) (x := x) (show 25 ≠ 18 by decide), up_row (S := M) (i := i) (x := x) (show 26 ≠ 18 by decide), up_row (S := M) (i := i) (x := x) (show 27 ≠ 18 by decide), up_row (S := M) (i := i) (x := x) (show 28 ≠ 18 by decide), up_row (S := M) (i := i) (x := x) (show 29 ≠ 18 by decide), up_row (S := M) (i := i) (x := x) (show 30 ≠ 18 by decide), up_row (S := M) (i := i) (x := x) (show 31 ≠ 18 by decide)]
  · rfl
theorem eM_19 {g : GT} {h : Nat × Nat} {C M : St} {o : Int64} {x : Int32} {i m : Nat} (hm : m ≠ 26) : ent g h C (up M 19 i x) o m = ent g h C M o m := by
  unfold ent
  split
  · unfold fixE
    split <;> first | rfl | exact absurd rfl hm | simp only [up_row (S := M) (i := i) (x := x) (show 0 ≠ 19 by decide), up_row (S := M) (i := i) (x := x) (show 1 ≠ 19 by decide), up_row (S := M) (i := i) (x := x) (show 2 ≠ 19 by decide), up_row (S := M) (i := i) (x := x) (show 3 ≠ 19 by decide), up_row (S := M) (i := i) (x := x) (show 4 ≠ 19 by decide), up_row (S := M) (i := i) (x := x) (show 5 ≠ 19 by decide), up_row (S := M) (i := i) (x := x) (show 6 ≠ 19 by decide), up_row (S := M) (i := i) (x := x) (show 7 ≠ 19 by decide), up_row (S := M) (i := i) (x := x) (show 8 ≠ 19 by decide), up_row (S := M) (i := i) (x := x) (show 9 ≠ 19 by decide), up_row (S := M) (i := i) (x := x) (show 10 ≠ 19 by decide), up_row (S := M) (i := i) (x := x) (show 11 ≠ 19 by decide), up_row (S := M) (i := i) (x := x) (show 12 ≠ 19 by decide), up_row (S := M) (i := i) (x := x) (show 13 ≠ 19 by decide), up_row (S := M) (i := i) (x := x) (show 14 ≠ 19 by decide), up_row (S := M) (i := i) (x := x) (show 15 ≠ 19 by decide), up_row (S := M) (i := i) (x := x) (show 16 ≠ 19 by decide), up_row (S := M) (i := i) (x := x) (show 17 ≠ 19 by decide), up_row (S := M) (i := i) (x := x) (show 18 ≠ 19 by decide), up_row (S := M) (i := i) (x := x) (show 20 ≠ 19 by decide), up_row (S := M) (i := i) (x := x) (show 21 ≠ 19 by decide), up_row (S := M) (i := i) (x := x) (show 22 ≠ 19 by decide), up_row (S := M) (i := i) (x := x) (show 23 ≠ 19 by decide), up_row (S := M) (i := i) (x := x) (show 24 ≠ 19 by decide), up_row (S := M) (i := i) (x := x) (show 25 ≠ 19 by decide), up_row (S := M) (i := i) (x := x) (show 26 ≠ 19 by decide), up_row (S := M) (i := i) (x := x) (show 27 ≠ 19 by decide), up_row (S := M) (i := i) (x := x) (show 28 ≠ 19 by decide), up_row (S := M) (i := i) (x := x) (show 29 ≠ 19 by decide), up_row (S := M) (i := i) (x := x) (show 30 ≠ 19 by decide), up_row (S := M) (i := i) (x := x) (show 31 ≠ 19 by decide)]
  · rfl
theorem eM_20 {g : GT} {h : Nat × Nat} {C M : St} {o : Int64} {x : Int32} {i m : Nat} (hm : m ≠ 27) : ent g h C (up M 20 i x) o m = ent g h C M o m := by
  unfold ent
  split
  · unfold fixE
    split <;> first | rfl | exact absurd rfl hm | simp only [up_row (S := M) (i := i) (x := x) (show 0 ≠ 20 by decide), up_row (S := M) (i := i) (x := x) (show 1 ≠ 20 by decide), up_row (S := M) (i := i) (x := x) (show 2 ≠ 20 by decide), up_row (S := M) (i := i) (x := x) (show 3 ≠ 20 by decide), up_row (S := M) (i := i) (x := x) (show 4 ≠ 20 by decide), up_row (S := M) (i := i) (x := x) (show 5 ≠ 20 by decide), up_row (S := M) (i := i) (x := x) (show 6 ≠ 20 by decide), up_row (S := M) (i := i) (x := x) (show 7 ≠ 20 by decide), up_row (S := M) (i := i) (x := x) (show 8 ≠ 20 by decide), up_row (S := M) (i := i) (x := x) (show 9 ≠ 20 by decide), up_row (S := M) (i := i) (x := x) (show 10 ≠ 20 by decide), up_row (S := M) (i := i) (x := x) (show 11 ≠ 20 by decide), up_row (S := M) (i := i) (x := x) (show 12 ≠ 20 by decide), up_row (S := M) (i := i) (x := x) (show 13 ≠ 20 by decide), up_row (S := M) (i := i) (x := x) (show 14 ≠ 20 by decide), up_row (S := M) (i := i) (x := x) (show 15 ≠ 20 by decide), up_row (S := M) (i := i) (x := x) (show 16 ≠ 20 by decide), up_row (S := M) (i := i) (x := x) (show 17 ≠ 20 by decide), up_row (S := M) (i := i) (x := x) (show 18 ≠ 20 by decide), up_row (S := M) (i := i) (x := x) (show 19 ≠ 20 by decide), up_row (S := M) (i := i) (x := x) (show 21 ≠ 20 by decide), up_row (S := M) (i := i) (x := x) (show 22 ≠ 20 by decide), up_row (S := M) (i := i) (x := x) (show 23 ≠ 20 by decide), up_row (S := M) (i := i) (x := x) (show 24 ≠ 20 by decide), up_row (S := M) (i := i) (x := x) (show 25 ≠ 20 by decide), up_row (S := M) (i := i) (x := x) (show 26 ≠ 20 by decide), up_row (S := M) (i := i) (x := x) (show 27 ≠ 20 by decide), up_row (S := M) (i := i) (x := x) (show 28 ≠ 20 by decide), up_row (S := M) (i := i) (x := x) (show 29 ≠ 20 by decide), up_row (S := M) (i := i) (x := x) (show 30 ≠ 20 by decide), up_row (S := M) (i := i) (x := x) (show 31 ≠ 20 by decide)]
  · rfl
theorem eM_21 {g : GT} {h : Nat × Nat} {C M : St} {o : Int64} {x : Int32} {i m : Nat} (hm : m ≠ 28) : ent g h C (up M 21 i x) o m = ent g h C M o m := by
  unfold ent
  split
  · unfold fixE
    split <;> first | rfl | exact absurd rfl hm | simp only [up_row (S := M) (i := i) (x := x) (show 0 ≠ 21 by decide), up_row (S := M) (i := i) (x := x) (show 1 ≠ 21 by decide), up_row (S := M) (i := i) (x := x) (show 2 ≠ 21 by decide), up_row (S := M) (i := i) (x := x) (show 3 ≠ 21 by decide), up_row (S := M) (i := i) (x := x) (show 4 ≠ 21 by decide), up_row (S := M) (i := i) (x := x) (show 5 ≠ 21 by decide), up_row (S := M) (i := i) (x := x) (show 6 ≠ 21 by decide), up_row (S := M) (i := i) (x := x) (show 7 ≠ 21 by decide), up_row (S := M) (i := i) (x := x) (show 8 ≠ 21 by decide), up_row (S := M) (i := i) (x := x) (show 9 ≠ 21 by decide), up_row (S := M) (i := i) (x := x) (show 10 ≠ 21 by decide), up_row (S := M) (i := i) (x := x) (show 11 ≠ 21 by decide), up_row (S := M) (i := i) (x := x) (show 12 ≠ 21 by decide), up_row (S := M) (i := i) (x := x) (show 13 ≠ 21 by decide), up_row (S := M) (i := i) (x := x) (show 14 ≠ 21 by decide), up_row (S := M) (i := i) (x := x) (show 15 ≠ 21 by decide), up_row (S := M) (i := i) (x := x) (show 16 ≠ 21 by decide), up_row (S := M) (i := i) (x := x) (show 17 ≠ 21 by decide), up_row (S := M) (i := i) (x := x) (show 18 ≠ 21 by decide), up_row (S := M) (i := i) (x := x) (show 19 ≠ 21 by decide), up_row (S := M) (i := i) (x := x) (show 20 ≠ 21 by decide), up_row (S := M) (i := i) (x := x) (show 22 ≠ 21 by decide), up_row (S := M) (i := i) (x := x) (show 23 ≠ 21 by decide), up_row (S := M) (i := i) (x := x) (show 24 ≠ 21 by decide), up_row (S := M) (i := i) (x := x) (show 25 ≠ 21 by decide), up_row (S := M) (i := i) (x := x) (show 26 ≠ 21 by decide), up_row (S := M) (i := i) (x := x) (show 27 ≠ 21 by decide), up_row (S := M) (i := i) (x := x) (show 28 ≠ 21 by decide), up_row (S := M) (i := i) (x := x) (show 29 ≠ 21 by decide), up_row (S := M) (i := i) (x := x) (show 30 ≠ 21 by decide), up_row (S := M) (i := i) (x := x) (show 31 ≠ 21 by decide)]
  · rfl
theorem eM_22 {g : GT} {h : Nat × Nat} {C M : St} {o : Int64} {x : Int32} {i m : Nat} (hm : m ≠ 29) : ent g h C (up M 22 i x) o m = ent g h C M o m := by
  unfold ent
  split
  · unfold fixE
    split <;> first | rfl | exact absurd rfl hm | simp only [up_row (S := M) (i := i) (x := x) (show 0 ≠ 22 by decide), up_row (S := M) (i := i) (x := x) (show 1 ≠ 22 by decide), up_row (S := M) (i := i) (x := x) (show 2 ≠ 22 by decide), up_row (S := M) (i := i) (x := x) (show 3 ≠ 22 by decide), up_row (S := M) (i := i) (x := x) (show 4 ≠ 22 by decide), up_row (S := M) (i := i) (x := x) (show 5 ≠ 22 by decide), up_row (S := M) (i := i) (x := x) (show 6 ≠ 22 by decide), up_row (S := M) (i := i) (x := x) (show 7 ≠ 22 by decide), up_row (S := M) (i := i) (x := x) (show 8 ≠ 22 by decide), up_row (S := M) (i := i) (x := x) (show 9 ≠ 22 by decide), up_row (S := M) (i := i) (x := x) (show 10 ≠ 22 by decide), up_row (S := M) (i := i) (x := x) (show 11 ≠ 22 by decide), up_row (S := M) (i := i) (x := x) (show 12 ≠ 22 by decide), up_row (S := M) (i := i) (x := x) (show 13 ≠ 22 by decide), up_row (S := M) (i := i) (x := x) (show 14 ≠ 22 by decide), up_row (S := M) (i := i) (x := x) (show 15 ≠ 22 by decide), up_row (S := M) (i := i) (x := x) (show 16 ≠ 22 by decide), up_row (S := M) (i := i) (x := x) (show 17 ≠ 22 by decide), up_row (S := M) (i := i) (x := x) (show 18 ≠ 22 by decide), up_row (S := M) (i := i) (x := x) (show 19 ≠ 22 by decide), up_row (S := M) (i := i) (x := x) (show 20 ≠ 22 by decide), up_row (S := M) (i := i) (x := x) (show 21 ≠ 22 by decide), up_row (S := M) (i := i) (x := x) (show 23 ≠ 22 by decide), up_row (S := M) (i := i) (x := x) (show 24 ≠ 22 by decide), up_row (S := M) (i := i) (x := x) (show 25 ≠ 22 by decide), up_row (S := M) (i := i) (x := x) (show 26 ≠ 22 by decide), up_row (S := M) (i := i) (x := x) (show 27 ≠ 22 by decide), up_row (S := M) (i := i) (x := x) (show 28 ≠ 22 by decide), up_row (S := M) (i := i) (x := x) (show 29 ≠ 22 by decide), up_row (S := M) (i := i) (x := x) (show 30 ≠ 22 by decide), up_row (S := M) (i := i) (x := x) (show 31 ≠ 22 by decide)]
  · rfl
theorem eM_23 {g : GT} {h : Nat × Nat} {C M : St} {o : Int64} {x : Int32} {i m : Nat} (hm : m ≠ 30) : ent g h C (up M 23 i x) o m = ent g h C M o m := by
  unfold ent
  split
  · unfold fixE
    split <;> first | rfl | exact absurd rfl hm | simp only [up_row (S := M) (i := i) (x := x) (show 0 ≠ 23 by decide), up_row (S := M) (i := i) (x := x) (show 1 ≠ 23 by decide), up_row (S := M) (i := i) (x := x) (show 2 ≠ 23 by decide), up_row (S := M) (i := i) (x := x) (show 3 ≠ 23 by decide), up_row (S := M) (i := i) (x := x) (show 4 ≠ 23 by decide), up_row (S := M) (i := i) (x := x) (show 5 ≠ 23 by decide), up_row (S := M) (i := i) (x := x) (show 6 ≠ 23 by decide), up_row (S := M) (i := i) (x := x) (show 7 ≠ 23 by decide), up_row (S := M) (i := i) (x := x) (show 8 ≠ 23 by decide), up_row (S := M) (i := i) (x := x) (show 9 ≠ 23 by decide), up_row (S := M) (i := i) (x := x) (show 10 ≠ 23 by decide), up_row (S := M) (i := i) (x := x) (show 11 ≠ 23 by decide), up_row (S := M) (i := i) (x := x) (show 12 ≠ 23 by decide), up_row (S := M) (i := i) (x := x) (show 13 ≠ 23 by decide), up_row (S := M) (i := i) (x := x) (show 14 ≠ 23 by decide), up_row (S := M) (i := i) (x := x) (show 15 ≠ 23 by decide), up_row (S := M) (i := i) (x := x) (show 16 ≠ 23 by decide), up_row (S := M) (i := i) (x := x) (show 17 ≠ 23 by decide), up_row (S := M) (i := i) (x := x) (show 18 ≠ 23 by decide), up_row (S := M) (i := i) (x := x) (show 19 ≠ 23 by decide), up_row (S := M) (i := i) (x := x) (show 20 ≠ 23 by decide), up_row (S := M) (i := i) (x := x) (show 21 ≠ 23 by decide), up_row (S := M) (i := i) (x := x) (show 22 ≠ 23 by decide), up_row (S := M) (i := i) (x := x) (show 24 ≠ 23 by decide), up_row (S := M) (i := i) (x := x) (show 25 ≠ 23 by decide), up_row (S := M) (i := i) (x := x) (show 26 ≠ 23 by decide), up_row (S := M) (i := i) (x := x) (show 27 ≠ 23 by decide), up_row (S := M) (i := i) (x := x) (show 28 ≠ 23 by decide), up_row (S := M) (i := i) (x := x) (show 29 ≠ 23 by decide), up_row (S := M) (i := i) (x := x) (show 30 ≠ 23 by decide), up_row (S := M) (i := i) (x := x) (show 31 ≠ 23 by decide)]
  · rfl
theorem eM_24 {g : GT} {h : Nat × Nat} {C M : St} {o : Int64} {x : Int32} {i m : Nat} (hm : m ≠ 31) : ent g h C (up M 24 i x) o m = ent g h C M o m := by
  unfold ent
  split
  · unfold fixE
    split <;> first | rfl | exact absurd rfl hm | simp only [up_row (S := M) (i := i) (x := x) (show 0 ≠ 24 by decide), up_row (S := M) (i := i) (x := x) (show 1 ≠ 24 by decide), up_row (S := M) (i := i) (x := x) (show 2 ≠ 24 by decide), up_row (S := M) (i := i) (x := x) (show 3 ≠ 24 by decide), up_row (S := M) (i := i) (x := x) (show 4 ≠ 24 by decide), up_row (S := M) (i := i) (x := x) (show 5 ≠ 24 by decide), up_row (S := M) (i := i) (x := x) (show 6 ≠ 24 by decide), up_row (S := M) (i := i) (x := x) (show 7 ≠ 24 by decide), up_row (S := M) (i := i) (x := x) (show 8 ≠ 24 by decide), up_row (S := M) (i := i) (x := x) (show 9 ≠ 24 by decide), up_row (S := M) (i := i) (x := x) (show 10 ≠ 24 by decide), up_row (S := M) (i := i) (x := x) (show 11 ≠ 24 by decide), up_row (S := M) (i := i) (x := x) (show 12 ≠ 24 by decide), up_row (S := M) (i := i) (x := x) (show 13 ≠ 24 by decide), up_row (S := M) (i := i) (x := x) (show 14 ≠ 24 by decide), up_row (S := M) (i := i) (x := x) (show 15 ≠ 24 by decide), up_row (S := M) (i := i) (x := x) (show 16 ≠ 24 by decide), up_row (S := M) (i := i) (x := x) (show 17 ≠ 24 by decide), up_row (S := M) (i := i) (x := x) (show 18 ≠ 24 by decide), up_row (S := M) (i := i) (x := x) (show 19 ≠ 24 by decide), up_row (S := M) (i := i) (x := x) (show 20 ≠ 24 by decide), up_row (S := M) (i := i) (x := x) (show 21 ≠ 24 by decide), up_row (S := M) (i := i) (x := x) (show 22 ≠ 24 by decide), up_row (S := M) (i := i) (x := x) (show 23 ≠ 24 by decide), up_row (S := M) (i := i) (x := x) (show 25 ≠ 24 by decide), up_row (S := M) (i := i) (x := x) (show 26 ≠ 24 by decide), up_row (S := M) (i := i) (x := x) (show 27 ≠ 24 by decide), up_row (S := M) (i := i) (x := x) (show 28 ≠ 24 by decide), up_row (S := M) (i := i) (x := x) (show 29 ≠ 24 by decide), up_row (S := M) (i := i) (x := x) (show 30 ≠ 24 by decide), up_row (S := M) (i := i) (x := x) (show 31 ≠ 24 by decide)]
  · rfl
theorem eM_25 {g : GT} {h : Nat × Nat} {C M : St} {o : Int64} {x : Int32} {i m : Nat} (hm : m ≠ 32) : ent g h C (up M 25 i x) o m = ent g h C M o m := by
  unfold ent
  split
  · unfold fixE
    split <;> first | rfl | exact absurd rfl hm | simp only [up_row (S := M) (i := i) (x := x) (show 0 ≠ 25 by decide), up_row (S := M) (i := i) (x := x) (show 1 ≠ 25 by decide), up_row (S := M) (i := i) (x := x) (show 2 ≠ 25 by decide), up_row (S := M) (i := i) (x := x) (show 3 ≠ 25 by decide), up_row (S := M) (i := i) (x := x) (show 4 ≠ 25 by decide), up_row (S := M) (i := i) (x := x) (show 5 ≠ 25 by decide), up_row (S := M) (i := i) (x := x) (show 6 ≠ 25 by decide), up_row (S := M) (i := i) (x := x) (show 7 ≠ 25 by decide), up_row (S := M) (i := i) (x := x) (show 8 ≠ 25 by decide), up_row (S := M) (i := i) (x := x) (show 9 ≠ 25 by decide), up_row (S := M) (i := i) (x := x) (show 10 ≠ 25 by decide), up_row (S := M) (i := i) (x := x) (show 11 ≠ 25 by decide), up_row (S := M) (i := i) (x := x) (show 12 ≠ 25 by decide), up_row (S := M) (i := i) (x := x) (show 13 ≠ 25 by decide), up_row (S := M) (i := i) (x := x) (show 14 ≠ 25 by decide), up_row (S := M) (i := i) (x := x) (show 15 ≠ 25 by decide), up_row (S := M) (i := i) (x := x) (show 16 ≠ 25 by decide), up_row (S := M) (i := i) (x := x) (show 17 ≠ 25 by decide), up_row (S := M) (i := i) (x := x) (show 18 ≠ 25 by decide), up_row (S := M) (i := i) (x := x) (show 19 ≠ 25 by decide), up_row (S := M) (i := i) (x := x) (show 20 ≠ 25 by decide), up_row (S := M) (i := i) (x := x) (show 21 ≠ 25 by decide), up_row (S := M) (i := i) (x := x) (show 22 ≠ 25 by decide), up_row (S := M) (i := i) (x := x) (show 23 ≠ 25 by decide), up_row (S := M) (i := i) (x := x) (show 24 ≠ 25 by decide), up_row (S := M) (i := i) (x := x) (show 26 ≠ 25 by decide), up_row (S := M) (i := i) (x := x) (show 27 ≠ 25 by decide), up_row (S := M) (i := i) (x := x) (show 28 ≠ 25 by decide), up_row (S := M) (i := i) (x := x) (show 29 ≠ 25 by decide), up_row (S := M) (i := i) (x := x) (show 30 ≠ 25 by decide), up_row (S := M) (i := i) (x := x) (show 31 ≠ 25 by decide)]
  · rfl
theorem eM_26 {g : GT} {h : Nat × Nat} {C M : St} {o : Int64} {x : Int32} {i m : Nat} (hm : m ≠ 10) : ent g h C (up M 26 i x) o m = ent g h C M o m := by
  unfold ent
  split
  · unfold fixE
    split <;> first | rfl | exact absurd rfl hm | simp only [up_row (S := M) (i := i) (x := x) (show 0 ≠ 26 by decide), up_row (S := M) (i := i) (x := x) (show 1 ≠ 26 by decide), up_row (S := M) (i := i) (x := x) (show 2 ≠ 26 by decide), up_row (S := M) (i := i) (x := x) (show 3 ≠ 26 by decide), up_row (S := M) (i := i) (x := x) (show 4 ≠ 26 by decide), up_row (S := M) (i := i) (x := x) (show 5 ≠ 26 by decide), up_row (S := M) (i := i) (x := x) (show 6 ≠ 26 by decide), up_row (S := M) (i := i) (x := x) (show 7 ≠ 26 by decide), up_row (S := M) (i := i) (x := x) (show 8 ≠ 26 by decide), up_row (S := M) (i := i) (x := x) (show 9 ≠ 26 by decide), up_row (S := M) (i := i) (x := x) (show 10 ≠ 26 by decide), up_row (S := M) (i := i) (x := x) (show 11 ≠ 26 by decide), up_row (S := M) (i := i) (x := x) (show 12 ≠ 26 by decide), up_row (S := M) (i := i) (x := x) (show 13 ≠ 26 by decide), up_row (S := M) (i := i) (x := x) (show 14 ≠ 26 by decide), up_row (S := M) (i := i) (x := x) (show 15 ≠ 26 by decide), up_row (S := M) (i := i) (x := x) (show 16 ≠ 26 by decide), up_row (S := M) (i := i) (x := x) (show 17 ≠ 26 by decide), up_row (S := M) (i := i) (x := x) (show 18 ≠ 26 by decide), up_row (S := M) (i := i) (x := x) (show 19 ≠ 26 by decide), up_row (S := M) (i := i) (x := x) (show 20 ≠ 26 by decide), up_row (S := M) (i := i) (x := x) (show 21 ≠ 26 by decide), up_row (S := M) (i := i) (x := x) (show 22 ≠ 26 by decide), up_row (S := M) (i := i) (x := x) (show 23 ≠ 26 by decide), up_row (S := M) (i := i) (x := x) (show 24 ≠ 26 by decide), up_row (S := M) (i := i) (x := x) (show 25 ≠ 26 by decide), up_row (S := M) (i := i) (x := x) (show 27 ≠ 26 by decide), up_row (S := M) (i := i) (x := x) (show 28 ≠ 26 by decide), up_row (S := M) (i := i) (x := x) (show 29 ≠ 26 by decide), up_row (S := M) (i := i) (x := x) (show 30 ≠ 26 by decide), up_row (S := M) (i := i) (x := x) (show 31 ≠ 26 by decide)]
  · rfl
theorem eM_27 {g : GT} {h : Nat × Nat} {C M : St} {o : Int64} {x : Int32} {i m : Nat} (hm : m ≠ 33) : ent g h C (up M 27 i x) o m = ent g h C M o m := by
  unfold ent
  split
  · unfold fixE
    split <;> first | rfl | exact absurd rfl hm | simp only [up_row (S := M) (i := i) (x := x) (show 0 ≠ 27 by decide), up_row (S := M) (i := i) (x := x) (show 1 ≠ 27 by decide), up_row (S := M) (i := i) (x := x) (show 2 ≠ 27 by decide), up_row (S := M) (i := i) (x := x) (show 3 ≠ 27 by decide), up_row (S := M) (i := i) (x := x) (show 4 ≠ 27 by decide), up_row (S := M) (i := i) (x := x) (show 5 ≠ 27 by decide), up_row (S := M) (i := i) (x := x) (show 6 ≠ 27 by decide), up_row (S := M) (i := i) (x := x) (show 7 ≠ 27 by decide), up_row (S := M) (i := i) (x := x) (show 8 ≠ 27 by decide), up_row (S := M) (i := i) (x := x) (show 9 ≠ 27 by decide), up_row (S := M) (i := i) (x := x) (show 10 ≠ 27 by decide), up_row (S := M) (i := i) (x := x) (show 11 ≠ 27 by decide), up_row (S := M) (i := i) (x := x) (show 12 ≠ 27 by decide), up_row (S := M) (i := i) (x := x) (show 13 ≠ 27 by decide), up_row (S := M) (i := i) (x := x) (show 14 ≠ 27 by decide), up_row (S := M) (i := i) (x := x) (show 15 ≠ 27 by decide), up_row (S := M) (i := i) (x := x) (show 16 ≠ 27 by decide), up_row (S := M) (i := i) (x := x) (show 17 ≠ 27 by decide), up_row (S := M) (i := i) (x := x) (show 18 ≠ 27 by decide), up_row (S := M) (i := i) (x := x) (show 19 ≠ 27 by decide), up_row (S := M) (i := i) (x := x) (show 20 ≠ 27 by decide), up_row (S := M) (i := i) (x := x) (show 21 ≠ 27 by decide), up_row (S := M) (i := i) (x := x) (show 22 ≠ 27 by decide), up_row (S := M) (i := i) (x := x) (show 23 ≠ 27 by decide), up_row (S := M) (i := i) (x := x) (show 24 ≠ 27 by decide), up_row (S := M) (i := i) (x := x) (show 25 ≠ 27 by decide), up_row (S := M) (i := i) (x := x) (show 26 ≠ 27 by decide), up_row (S := M) (i := i) (x := x) (show 28 ≠ 27 by decide), up_row (S := M) (i := i) (x := x) (show 29 ≠ 27 by decide), up_row (S := M) (i := i) (x := x) (show 30 ≠ 27 by decide), up_row (S := M) (i := i) (x := x) (show 31 ≠ 27 by decide)]
  · rfl
theorem eM_28 {g : GT} {h : Nat × Nat} {C M : St} {o : Int64} {x : Int32} {i m : Nat} (hm : m ≠ 34) : ent g h C (up M 28 i x) o m = ent g h C M o m := by
  unfold ent
  split
  · unfold fixE
    split <;> first | rfl | exact absurd rfl hm | simp only [up_row (S := M) (i := i) (x := x) (show 0 ≠ 28 by decide), up_row (S := M) (i := i) (x := x) (show 1 ≠ 28 by decide), up_row (S := M) (i := i) (x := x) (show 2 ≠ 28 by decide), up_row (S := M) (i := i) (x := x) (show 3 ≠ 28 by decide), up_row (S := M) (i := i) (x := x) (show 4 ≠ 28 by decide), up_row (S := M) (i := i) (x := x) (show 5 ≠ 28 by decide), up_row (S := M) (i := i) (x := x) (show 6 ≠ 28 by decide), up_row (S := M) (i := i) (x := x) (show 7 ≠ 28 by decide), up_row (S := M) (i := i) (x := x) (show 8 ≠ 28 by decide), up_row (S := M) (i := i) (x := x) (show 9 ≠ 28 by decide), up_row (S := M) (i := i) (x := x) (show 10 ≠ 28 by decide), up_row (S := M) (i := i) (x := x) (show 11 ≠ 28 by decide), up_row (S := M) (i := i) (x := x) (show 12 ≠ 28 by decide), up_row (S := M) (i := i) (x := x) (show 13 ≠ 28 by decide), up_row (S := M) (i := i) (x := x) (show 14 ≠ 28 by decide), up_row (S := M) (i := i) (x := x) (show 15 ≠ 28 by decide), up_row (S := M) (i := i) (x := x) (show 16 ≠ 28 by decide), up_row (S := M) (i := i) (x := x) (show 17 ≠ 28 by decide), up_row (S := M) (i := i) (x := x) (show 18 ≠ 28 by decide), up_row (S := M) (i := i) (x := x) (show 19 ≠ 28 by decide), up_row (S := M) (i := i) (x := x) (show 20 ≠ 28 by decide), up_row (S := M) (i := i) (x := x) (show 21 ≠ 28 by decide), up_row (S := M) (i := i) (x := x) (show 22 ≠ 28 by decide), up_row (S := M) (i := i) (x := x) (show 23 ≠ 28 by decide), up_row (S := M) (i := i) (x := x) (show 24 ≠ 28 by decide), up_row (S := M) (i := i) (x := x) (show 25 ≠ 28 by decide), up_row (S := M) (i := i) (x := x) (show 26 ≠ 28 by decide), up_row (S := M) (i := i) (x := x) (show 27 ≠ 28 by decide), up_row (S := M) (i := i) (x := x) (show 29 ≠ 28 by decide), up_row (S := M) (i := i) (x := x) (show 30 ≠ 28 by decide), up_row (S := M) (i := i) (x := x) (show 31 ≠ 28 by decide)]
  · rfl
theorem eM_29 {g : GT} {h : Nat × Nat} {C M : St} {o : Int64} {x : Int32} {i m : Nat} (hm : m ≠ 35) : ent g h C (up M 29 i x) o m = ent g h C M o m := by
  unfold ent
  split
  · unfold fixE
    split <;> first | rfl | exact absurd rfl hm | simp only [up_row (S := M) (i := i) (x := x) (show 0 ≠ 29 by decide), up_row (S := M) (i := i) (x := x) (show 1 ≠ 29 by decide), up_row (S := M) (i := i) (x := x) (show 2 ≠ 29 by decide), up_row (S := M) (i := i) (x := x) (show 3 ≠ 29 by decide), up_row (S := M) (i := i) (x := x) (show 4 ≠ 29 by decide), up_row (S := M) (i := i) (x := x) (show 5 ≠ 29 by decide), up_row (S := M) (i := i) (x := x) (show 6 ≠ 29 by decide), up_row (S := M) (i := i) (x := x) (show 7 ≠ 29 by decide), up_row (S := M) (i := i) (x := x) (show 8 ≠ 29 by decide), up_row (S := M) (i := i) (x := x) (show 9 ≠ 29 by decide), up_row (S := M) (i := i) (x := x) (show 10 ≠ 29 by decide), up_row (S := M) (i := i) (x := x) (show 11 ≠ 29 by decide), up_row (S := M) (i := i) (x := x) (show 12 ≠ 29 by decide), up_row (S := M) (i := i) (x := x) (show 13 ≠ 29 by decide), up_row (S := M) (i := i) (x := x) (show 14 ≠ 29 by decide), up_row (S := M) (i := i) (x := x) (show 15 ≠ 29 by decide), up_row (S := M) (i := i) (x := x) (show 16 ≠ 29 by decide), up_row (S := M) (i := i) (x := x) (show 17 ≠ 29 by decide), up_row (S := M) (i := i) (x := x) (show 18 ≠ 29 by decide), up_row (S := M) (i := i) (x := x) (show 19 ≠ 29 by decide), up_row (S := M) (i := i) (x := x) (show 20 ≠ 29 by decide), up_row (S := M) (i := i) (x := x) (show 21 ≠ 29 by decide), up_row (S := M) (i := i) (x := x) (show 22 ≠ 29 by decide), up_row (S := M) (i := i) (x := x) (show 23 ≠ 29 by decide), up_row (S := M) (i := i) (x := x) (show 24 ≠ 29 by decide), up_row (S := M) (i := i) (x := x) (show 25 ≠ 29 by decide), up_row (S := M) (i := i) (x := x) (show 26 ≠ 29 by decide), up_row (S := M) (i := i) (x := x) (show 27 ≠ 29 by decide), up_row (S := M) (i := i) (x := x) (show 28 ≠ 29 by decide), up_row (S := M) (i := i) (x := x) (show 30 ≠ 29 by decide), up_row (S := M) (i := i) (x := x) (show 31 ≠ 29 by decide)]
  · rfl
theorem eM_30 {g : GT} {h : Nat × Nat} {C M : St} {o : Int64} {x : Int32} {i m : Nat} (hm : m ≠ 36) : ent g h C (up M 30 i x) o m = ent g h C M o m := by
  unfold ent
  split
  · unfold fixE
    split <;> first | rfl | exact absurd rfl hm | simp only [up_row (S := M) (i := i) (x := x) (show 0 ≠ 30 by decide), up_row (S := M) (i := i) (x := x) (show 1 ≠ 30 by decide), up_row (S := M) (i := i) (x := x) (show 2 ≠ 30 by decide), up_row (S := M) (i := i) (x := x) (show 3 ≠ 30 by decide), up_row (S := M) (i := i) (x := x) (show 4 ≠ 30 by decide), up_row (S := M) (i := i) (x := x) (show 5 ≠ 30 by decide), up_row (S := M) (i := i) (x := x) (show 6 ≠ 30 by decide), up_row (S := M) (i := i) (x := x) (show 7 ≠ 30 by decide), up_row (S := M) (i := i) (x := x) (show 8 ≠ 30 by decide), up_row (S := M) (i := i) (x := x) (show 9 ≠ 30 by decide), up_row (S := M) (i := i) (x := x) (show 10 ≠ 30 by decide), up_row (S := M) (i := i) (x := x) (show 11 ≠ 30 by decide), up_row (S := M) (i := i) (x := x) (show 12 ≠ 30 by decide), up_row (S := M) (i := i) (x := x) (show 13 ≠ 30 by decide), up_row (S := M) (i := i) (x := x) (show 14 ≠ 30 by decide), up_row (S := M) (i := i) (x := x) (show 15 ≠ 30 by decide), up_row (S := M) (i := i) (x := x) (show 16 ≠ 30 by decide), up_row (S := M) (i := i) (x := x) (show 17 ≠ 30 by decide), up_row (S := M) (i := i) (x := x) (show 18 ≠ 30 by decide), up_row (S := M) (i := i) (x := x) (show 19 ≠ 30 by decide), up_row (S := M) (i := i) (x := x) (show 20 ≠ 30 by decide), up_row (S := M) (i := i) (x := x) (show 21 ≠ 30 by decide), up_row (S := M) (i := i) (x := x) (show 22 ≠ 30 by decide), up_row (S := M) (i := i) (x := x) (show 23 ≠ 30 by decide), up_row (S := M) (i := i) (x := x) (show 24 ≠ 30 by decide), up_row (S := M) (i := i) (x := x) (show 25 ≠ 30 by decide), up_row (S := M) (i := i) (x := x) (show 26 ≠ 30 by decide), up_row (S := M) (i := i) (x := x) (show 27 ≠ 30 by decide), up_row (S := M) (i := i) (x := x) (show 28 ≠ 30 by decide), up_row (S := M) (i := i) (x := x) (show 29 ≠ 30 by decide), up_row (S := M) (i := i) (x := x) (show 31 ≠ 30 by decide)]
  · rfl
theorem eM_31 {g : GT} {h : Nat × Nat} {C M : St} {o : Int64} {x : Int32} {i m : Nat} (hm : m ≠ 10) : ent g h C (up M 31 i x) o m = ent g h C M o m := by
  unfold ent
  split
  · unfold fixE
    split <;> first | rfl | exact absurd rfl hm | simp only [up_row (S := M) (i := i) (x := x) (show 0 ≠ 31 by decide), up_row (S := M) (i := i) (x := x) (show 1 ≠ 31 by decide), up_row (S := M) (i := i) (x := x) (show 2 ≠ 31 by decide), up_row (S := M) (i := i) (x := x) (show 3 ≠ 31 by decide), up_row (S := M) (i := i) (x := x) (show 4 ≠ 31 by decide), up_row (S := M) (i := i) (x := x) (show 5 ≠ 31 by decide), up_row (S := M) (i := i) (x := x) (show 6 ≠ 31 by decide), up_row (S := M) (i := i) (x := x) (show 7 ≠ 31 by decide), up_row (S := M) (i := i) (x := x) (show 8 ≠ 31 by decide), up_row (S := M) (i := i) (x := x) (show 9 ≠ 31 by decide), up_row (S := M) (i := i) (x := x) (show 10 ≠ 31 by decide), up_row (S := M) (i := i) (x := x) (show 11 ≠ 31 by decide), up_row (S := M) (i := i) (x := x) (show 12 ≠ 31 by decide), up_row (S := M) (i := i) (x := x) (show 13 ≠ 31 by decide), up_row (S := M) (i := i) (x := x) (show 14 ≠ 31 by decide), up_row (S := M) (i := i) (x := x) (show 15 ≠ 31 by decide), up_row (S := M) (i := i) (x := x) (show 16 ≠ 31 by decide), up_row (S := M) (i := i) (x := x) (show 17 ≠ 31 by decide), up_row (S := M) (i := i) (x := x) (show 18 ≠ 31 by decide), up_row (S := M) (i := i) (x := x) (show 19 ≠ 31 by decide), up_row (S := M) (i := i) (x := x) (show 20 ≠ 31 by decide), up_row (S := M) (i := i) (x := x) (show 21 ≠ 31 by decide), up_row (S := M) (i := i) (x := x) (show 22 ≠ 31 by decide), up_row (S := M) (i := i) (x := x) (show 23 ≠ 31 by decide), up_row (S := M) (i := i) (x := x) (show 24 ≠ 31 by decide), up_row (S := M) (i := i) (x := x) (show 25 ≠ 31 by decide), up_row (S := M) (i := i) (x := x) (show 26 ≠ 31 by decide), up_row (S := M) (i := i) (x := x) (show 27 ≠ 31 by decide), up_row (S := M) (i := i) (x := x) (show 28 ≠ 31 by decide), up_row (S := M) (i := i) (x := x) (show 29 ≠ 31 by decide), up_row (S := M) (i := i) (x := x) (show 30 ≠ 31 by decide)]
  · rfl
theorem eo_9 {g : GT} {h : Nat × Nat} {C M : St} {o o' : Int64} {m : Nat} (hm : m ≠ 9) : ent g h C M o' m = ent g h C M o m := by
  unfold ent
  split
  · unfold fixE
    split <;> first | rfl | exact absurd rfl hm
  · rfl
end
section
/-! the judgement V: from here the method goes to its end, over our world; and its rows -/
def strT : List (String × Nat × String) := [("Twinphase", 42, "ticks are 1 to 50"), ("Twinphase", 53, "the time is at most 2000"), ("Twinphase", 242, "no such node"), ("Twinphase", 60, "a skew is -5 to 5"), ("Twinphase", 244, "the node is down"), ("Twinphase", 89, "the node is not down"), ("Twinphase", 96, "a new range begins at 1 to 31"), ("Twinphase", 99, "a range begins there already"), ("Twinphase", 104, "no such range, or no next one"), ("Twinphase", 109, "the ranges are on different nodes"), ("Twinphase", 111, "no such range"), ("Twinphase", 113, "a rank is 0 to 9"), ("Twinphase", 118, "there were 40 transactions"), ("Twinphase", 248, "no such transaction"), ("Twinphase", 246, "no such key"), ("Twinphase", 141, "a value is 0 to 999, or GONE"), ("Twinphase", 252, "what is told is 0 to 6"), ("Twinphase", 221, "a stamp is 0 to the closed stamp"), ("Twinphase", 250, "no such place")]
def decT : List MethodName := [⟨"java/lang/RuntimeException", "<init>", "(Ljava/lang/String;)V"⟩, ⟨"java/lang/Exception", "<init>", "(Ljava/lang/String;)V"⟩, ⟨"java/lang/Throwable", "<init>", "(Ljava/lang/String;)V"⟩]
def castT : List (String × String) := [("java/lang/IllegalArgumentException", "java/lang/IllegalArgumentException"), ("java/lang/IllegalStateException", "java/lang/IllegalStateException"), ("java/lang/IndexOutOfBoundsException", "java/lang/IndexOutOfBoundsException"), ("[I", "java/lang/Cloneable")]
theorem cast_moved {X Y : String} {A B : Array Value} {u U : State} (hvm : u.vm.Alike U.vm) (h : (Cond.castable X Y).before A u = true) : (Cond.castable X Y).before B U = true := by
  obtain ⟨c3, c4, h1, h2, h3⟩ := Cond.castable_spec h
  have e1 : U.vm.findClass X = some c3 := by rw [hvm.findClass]; exact h1
  have e2 : U.vm.findClass Y = some c4 := by rw [hvm.findClass]; exact h2
  have e3 : U.vm.assignable c3 c4 = true := by rw [hvm.assignable]; exact h3
  simp [Cond.before, Cond.holds, Cond.value, e1, e2, e3]
theorem dec_moved {y : MethodName} {A B : Array Value} {u U : State} (hvm : u.vm.Alike U.vm) (h : (Cond.declares y).before A u = true) : (Cond.declares y).before B U = true := by
  have e := Cond.onTables_vm (A := A) (A' := B) (U := u) (U' := U) U.vm (Cond.declares y) rfl
  have hU : U.setVm U.vm = U := rfl
  rw [hU] at e
  rw [← e, Cond.declares_setVm hvm]
  exact h
/-- what the machine is known to hold beside our cells -/
def Sx (g : GT) (s : State) : Prop := va_K (gD g) vwCl (gtys g) s ∧ vx_Zq Bundle.tN "UNASSIGNED_STACK" Bundle.steD (gA g) s s.heap ∧ vx_Zq Bundle.tN "SUPPRESSED_SENTINEL" Bundle.listD (gA g) s s.heap ∧ (∀ q ∈ strT, ∃ a, vk_R q.1 q.2.1 q.2.2 a s) ∧ (∀ q ∈ castT, (Cond.castable q.1 q.2).before #[] s = true) ∧ (∀ y ∈ decT, (Cond.declares y).before #[] s = true) ∧ (gl g).stackTraces = false
theorem Sx.to {g : GT} {s U : State} (h : Sx g s) (hW : s.WarmedH U.vm) (hk : ∀ a : Nat, a < s.heap.size → ¬ gA g a → U.heap[a]? = s.heap[a]?) : Sx g U := by
  obtain ⟨h1, h2, h3, h4, h5, h7, h6⟩ := h
  refine ⟨va_K.moved hW.alike h1, vx_Zq.moved hW.alike (vx_Zq.kept h2 hk), vx_Zq.moved hW.alike (vx_Zq.kept h3 hk), fun q hq => ?_, fun q hq => cast_moved hW.alike (h5 q hq), fun q hq => dec_moved hW.alike (h7 q hq), h6⟩
  obtain ⟨a, ha⟩ := h4 q hq
  exact ⟨a, vk_R.warm hW ha⟩
def World (g : GT) (nt : Nat) (h : Nat × Nat) (C M : St) (o : Int64) (U : State) : Prop := Rep g nt h C M o U.heap ∧ Sx g U
abbrev MK : Type := String × MethodName × ByteArray × Nat × Option FieldType × Nat × Nat × List (Nat × Nat × Nat × Nat)
def ko (K : MK) : String := K.1
def ky (K : MK) : MethodName := K.2.1
def kc (K : MK) : ByteArray := K.2.2.1
def kL (K : MK) : Nat := K.2.2.2.1
def kr (K : MK) : Option FieldType := K.2.2.2.2.1
def kf (K : MK) : Nat := K.2.2.2.2.2.1
def klo (K : MK) : Nat := K.2.2.2.2.2.2.1
def kh (K : MK) : List (Nat × Nat × Nat × Nat) := K.2.2.2.2.2.2.2
def kws (K : MK) : List Cond := Cond.code (ky K) (kc K) (kL K) (kr K) :: gtbl
abbrev QT : Type := List Frame → Array Value → State → State → Prop
def Cx (g : GT) (K : MK) (p : Program) (s : State) (m : MethodId) (args : Array Value) (meth : Method) (c : Code) : Prop :=
  p.tables.exec = Jvm.exec ∧ c.code = kc K ∧ meth.sig.returnType = kr K ∧ c.maxLocals = kL K ∧ s.vm.findClass (ko K) = some m.cls ∧ (∀ w ∈ gtbl, w.before args s = true) ∧ meth.locks = false ∧ c.exceptionTable.toList = tableOf (kh K) ∧ Sx g s
def V (g : GT) (K : MK) (R : Room) (Qf : QT) (kb nb nt : Nat) (h : Nat × Nat) (C M : St) (o : Int64) (pc : Nat) (lv : List (Nat × Value)) (st : List Value) : Prop :=
  ∀ (p : Program) (e : Env) (s : State) (m : MethodId) (args : Array Value) (below : List Frame) (meth : Method) (c : Code) (H : Heap) (locs : List Loc) (k n : Nat) (ls : Array Slot),
    Cx g K p s m args meth c → k ≤ kb → n ≤ nb → Rep g nt h C M o H → va_S (gA g) s.heap H locs → lv_has ls (kL K) lv → (∀ q ∈ lv, q.2.category = 1) →
    W p (gl g) e R s m args below meth c H locs k n (Qf below args s) (F0 m pc ls st)
-- locals by their numbers
def lvg : List (Nat × Value) → Nat → Option Value
  | [], _ => none
  | (j, v) :: l, i => bif Nat.beq j i then some v else lvg l i
theorem lvg_mem : ∀ {l : List (Nat × Value)} {i : Nat} {v : Value}, lvg l i = some v → (i, v) ∈ l
  | [], _, _, h => by simp [lvg] at h
  | (j, w) :: l, i, v, h => by
    unfold lvg at h
    cases e : Nat.beq j i with
    | true => rw [e] at h; rw [Nat.eq_of_beq_eq_true e]; cases h; exact List.mem_cons_self
    | false => rw [e] at h; exact List.mem_cons_of_mem _ (lvg_mem h)
def lvd : List (Nat × Value) → Nat → List (Nat × Value)
  | [], _ => []
  | (j, w) :: l, i => bif Nat.beq j i then lvd l i else (j, w) :: lvd l i
def lvs : List (Nat × Value) → Nat → Value → List (Nat × Value)
  | [], i, v => [(i, v)]
  | (j, w) :: l, i, v => bif Nat.beq j i then (i, v) :: lvd l i else (j, w) :: lvs l i v
theorem lvd_mem : ∀ {l : List (Nat × Value)} {i : Nat} {q : Nat × Value}, q ∈ lvd l i → q ∈ l ∧ q.1 ≠ i
  | [], _, _, h => by simp [lvd] at h
  | (j, w) :: l, i, q, h => by
    unfold lvd at h
    cases e : Nat.beq j i with
    | true => rw [e] at h; exact ⟨List.mem_cons_of_mem _ (lvd_mem h).1, (lvd_mem h).2⟩
    | false =>
      rw [e] at h
      rcases List.mem_cons.mp h with h | h
      · subst h
        exact ⟨List.mem_cons_self, fun z => Nat.ne_of_beq_eq_false e z⟩
      · exact ⟨List.mem_cons_of_mem _ (lvd_mem h).1, (lvd_mem h).2⟩
theorem lvs_mem : ∀ {l : List (Nat × Value)} {i : Nat} {v : Value} {q : Nat × Value}, q ∈ lvs l i v → q = (i, v) ∨ (q ∈ l ∧ q.1 ≠ i)
  | [], _, _, _, h => by simp [lvs] at h; exact Or.inl h
  | (j, w) :: l, i, v, q, h => by
    unfold lvs at h
    cases e : Nat.beq j i with
    | true =>
      rw [e] at h
      rcases List.mem_cons.mp h with h | h
      · exact Or.inl h
      · exact Or.inr ⟨List.mem_cons_of_mem _ (lvd_mem h).1, (lvd_mem h).2⟩
    | false =>
      rw [e] at h
      rcases List.mem_cons.mp h with h | h
      · subst h
        exact Or.inr ⟨List.mem_cons_self, fun z => Nat.ne_of_beq_eq_false e z⟩
      · rcases lvs_mem h with h | h
        · exact Or.inl h
        · exact Or.inr ⟨List.mem_cons_of_mem _ h.1, h.2⟩
theorem lvs_has {ls : Array Slot} {nL i : Nat} {lv : List (Nat × Value)} {v : Value} (h : lv_has ls nL ((i, v) :: lv.filter (fun q => !(q.1 == i) && !(q.1 + 1 == i && q.2.category == 2)))) (hc : ∀ q ∈ lv, q.2.category = 1) : lv_has ls nL (lvs lv i v) := by
  refine ⟨h.1, h.2.1, fun q hq => ?_⟩
  rcases lvs_mem hq with rfl | ⟨h1, h2⟩
  · exact h.2.2 _ List.mem_cons_self
  · refine h.2.2 q (List.mem_cons_of_mem _ (List.mem_filter.mpr ⟨h1, ?_⟩))
    have h3 := hc q h1
    simp [h2, h3]
theorem lvs_cat {lv : List (Nat × Value)} {i : Nat} {v : Value} (hv : v.category = 1) (hc : ∀ q ∈ lv, q.2.category = 1) : ∀ q ∈ lvs lv i v, q.2.category = 1 := by
  intro q hq
  rcases lvs_mem hq with rfl | ⟨h1, -⟩
  · exact hv
  · exact hc q h1
def lvp (lv : List (Nat × Value)) (ks : List Nat) : List (Nat × Value) := ks.filterMap (fun i => (lvg lv i).map (fun v => (i, v)))
theorem lvp_mem {lv : List (Nat × Value)} {ks : List Nat} {q : Nat × Value} (h : q ∈ lvp lv ks) : q ∈ lv := by
  obtain ⟨i, -, hi⟩ := List.mem_filterMap.mp h
  cases e : lvg lv i with
  | none => rw [e] at hi; cases hi
  | some v => rw [e] at hi; cases hi; exact lvg_mem e
theorem cat_rf (r : Option Nat) : (va_rf r).category = 1 := by cases r <;> rfl
theorem cat_int (x : Int32) : (Value.int x).category = 1 := rfl
theorem cat_ref (x : Nat) : (Value.ref x).category = 1 := rfl
section ROWS
variable {g : GT} {K : MK} {R : Room} {Qf : QT} {kb nb nt : Nat} {h : Nat × Nat} {C M : St} {o : Int64} {pc : Nat} {lv : List (Nat × Value)} {st : List Value}
theorem V_sub (ks : List Nat) {lv' : List (Nat × Value)} (e : lvp lv ks = lv') (k : V g K R Qf kb nb nt h C M o pc lv' st) : V g K R Qf kb nb nt h C M o pc lv st := by
  intro p e1 s m args below meth c H locs k1 n1 ls X h1 h2 hR hS hl hc
  subst e
  exact k p e1 s m args below meth c H locs k1 n1 ls X h1 h2 hR hS ⟨hl.1, hl.2.1, fun q hq => hl.2.2 q (lvp_mem hq)⟩ (fun q hq => hc q (lvp_mem hq))
theorem V_mono {kb' nb' : Nat} (e1 : kb ≤ kb') (e2 : nb ≤ nb') (k : V g K R Qf kb' nb' nt h C M o pc lv st) : V g K R Qf kb nb nt h C M o pc lv st := by
  intro p e s m args below meth c H locs k1 n1 ls X h1 h2
  exact k p e s m args below meth c H locs k1 n1 ls X (Nat.le_trans h1 e1) (Nat.le_trans h2 e2)
theorem V_iconst {n : Int} {v : Int32} (hd : decode (kc K) pc = .ok (.iconst n, 1)) (hv : Int32.ofInt n = v) (k : V g K R Qf kb nb nt h C M o (pc + 1) lv (.int v :: st)) : V g K R Qf kb nb nt h C M o pc lv (st) := by
  intro p e s m args below meth c H locs k1 n1 ls X h1 h2 hR hS hl hc
  exact lv_iconst X.1 X.2.1 hd hv (k p e s m args below meth c H locs k1 n1 ls X h1 h2 hR hS hl hc)
theorem V_bipush {n : Int} {v : Int32} (hd : decode (kc K) pc = .ok (.bipush n, 2)) (hv : (Int8.ofInt n).toInt32 = v) (k : V g K R Qf kb nb nt h C M o (pc + 2) lv (.int v :: st)) : V g K R Qf kb nb nt h C M o pc lv (st) := by
  intro p e s m args below meth c H locs k1 n1 ls X h1 h2 hR hS hl hc
  exact lv_bipush X.1 X.2.1 hd hv (k p e s m args below meth c H locs k1 n1 ls X h1 h2 hR hS hl hc)
theorem V_sipush {n : Int} {v : Int32} (hd : decode (kc K) pc = .ok (.sipush n, 3)) (hv : (Int16.ofInt n).toInt32 = v) (k : V g K R Qf kb nb nt h C M o (pc + 3) lv (.int v :: st)) : V g K R Qf kb nb nt h C M o pc lv (st) := by
  intro p e s m args below meth c H locs k1 n1 ls X h1 h2 hR hS hl hc
  exact lv_sipush X.1 X.2.1 hd hv (k p e s m args below meth c H locs k1 n1 ls X h1 h2 hR hS hl hc)
theorem V_iload_n {i : Fin 4} {x : Int32} (hd : decode (kc K) pc = .ok (.iload_n i, 1)) (hv : lvg lv i = some (.int x)) (k : V g K R Qf kb nb nt h C M o (pc + 1) lv (.int x :: st)) : V g K R Qf kb nb nt h C M o pc lv (st) := by
  intro p e s m args below meth c H locs k1 n1 ls X h1 h2 hR hS hl hc
  exact lv_iload_n X.1 X.2.1 hd rfl (hl.2.2 _ (lvg_mem hv)) (k p e s m args below meth c H locs k1 n1 ls X h1 h2 hR hS hl hc)
theorem V_iload {i : Nat} {x : Int32} (hd : decode (kc K) pc = .ok (.iload i, 2)) (hv : lvg lv i = some (.int x)) (k : V g K R Qf kb nb nt h C M o (pc + 2) lv (.int x :: st)) : V g K R Qf kb nb nt h C M o pc lv (st) := by
  intro p e s m args below meth c H locs k1 n1 ls X h1 h2 hR hS hl hc
  exact lv_iload X.1 X.2.1 hd (hl.2.2 _ (lvg_mem hv)) (k p e s m args below meth c H locs k1 n1 ls X h1 h2 hR hS hl hc)
theorem V_aload_n {i : Fin 4} {x : Nat} (hd : decode (kc K) pc = .ok (.aload_n i, 1)) (hv : lvg lv i = some (.ref x)) (k : V g K R Qf kb nb nt h C M o (pc + 1) lv (.ref x :: st)) : V g K R Qf kb nb nt h C M o pc lv (st) := by
  intro p e s m args below meth c H locs k1 n1 ls X h1 h2 hR hS hl hc
  exact lv_aload_n X.1 X.2.1 hd rfl (hl.2.2 _ (lvg_mem hv)) (k p e s m args below meth c H locs k1 n1 ls X h1 h2 hR hS hl hc)
theorem V_aload {i : Nat} {x : Nat} (hd : decode (kc K) pc = .ok (.aload i, 2)) (hv : lvg lv i = some (.ref x)) (k : V g K R Qf kb nb nt h C M o (pc + 2) lv (.ref x :: st)) : V g K R Qf kb nb nt h C M o pc lv (st) := by
  intro p e s m args below meth c H locs k1 n1 ls X h1 h2 hR hS hl hc
  exact lv_aload X.1 X.2.1 hd (hl.2.2 _ (lvg_mem hv)) (k p e s m args below meth c H locs k1 n1 ls X h1 h2 hR hS hl hc)
theorem V_aload_nt {i : Fin 4} {r : Option Nat} (hd : decode (kc K) pc = .ok (.aload_n i, 1)) (hv : lvg lv i = some (va_rf r)) (k : V g K R Qf kb nb nt h C M o (pc + 1) lv (va_rf r :: st)) : V g K R Qf kb nb nt h C M o pc lv st := by
  intro p e s m args below meth c H locs k1 n1 ls X h1 h2 hR hS hl hc
  cases r with
  | none => exact lv_aload_nN X.1 X.2.1 hd rfl (hl.2.2 _ (lvg_mem hv)) (k p e s m args below meth c H locs k1 n1 ls X h1 h2 hR hS hl hc)
  | some x => exact lv_aload_n X.1 X.2.1 hd rfl (hl.2.2 _ (lvg_mem hv)) (k p e s m args below meth c H locs k1 n1 ls X h1 h2 hR hS hl hc)
theorem V_aloadt {i : Nat} {r : Option Nat} (hd : decode (kc K) pc = .ok (.aload i, 2)) (hv : lvg lv i = some (va_rf r)) (k : V g K R Qf kb nb nt h C M o (pc + 2) lv (va_rf r :: st)) : V g K R Qf kb nb nt h C M o pc lv st := by
  intro p e s m args below meth c H locs k1 n1 ls X h1 h2 hR hS hl hc
  cases r with
  | none => exact lv_aloadN X.1 X.2.1 hd (hl.2.2 _ (lvg_mem hv)) (k p e s m args below meth c H locs k1 n1 ls X h1 h2 hR hS hl hc)
  | some x => exact lv_aload X.1 X.2.1 hd (hl.2.2 _ (lvg_mem hv)) (k p e s m args below meth c H locs k1 n1 ls X h1 h2 hR hS hl hc)
theorem V_istore_n {i : Fin 4} {x : Int32} (hd : decode (kc K) pc = .ok (.istore_n i, 1)) (hi : (i : Nat) < kL K) (k : V g K R Qf kb nb nt h C M o (pc + 1) (lvs lv (i : Nat) (.int x)) st) : V g K R Qf kb nb nt h C M o pc lv (.int x :: st) := by
  intro p e s m args below meth c H locs k1 n1 ls X h1 h2 hR hS hl hc
  exact lv_istore_n X.1 X.2.1 hd rfl hl hi rfl (fun ls1 hl1 => k p e s m args below meth c H locs k1 n1 ls1 X h1 h2 hR hS (lvs_has hl1 hc) (lvs_cat rfl hc))
theorem V_istore {i : Nat} {x : Int32} (hd : decode (kc K) pc = .ok (.istore i, 2)) (hi : i < kL K) (k : V g K R Qf kb nb nt h C M o (pc + 2) (lvs lv i (.int x)) st) : V g K R Qf kb nb nt h C M o pc lv (.int x :: st) := by
  intro p e s m args below meth c H locs k1 n1 ls X h1 h2 hR hS hl hc
  exact lv_istore X.1 X.2.1 hd hl hi rfl (fun ls1 hl1 => k p e s m args below meth c H locs k1 n1 ls1 X h1 h2 hR hS (lvs_has hl1 hc) (lvs_cat rfl hc))
theorem V_astore_n {i : Fin 4} {x : Nat} (hd : decode (kc K) pc = .ok (.astore_n i, 1)) (hi : (i : Nat) < kL K) (k : V g K R Qf kb nb nt h C M o (pc + 1) (lvs lv (i : Nat) (.ref x)) st) : V g K R Qf kb nb nt h C M o pc lv (.ref x :: st) := by
  intro p e s m args below meth c H locs k1 n1 ls X h1 h2 hR hS hl hc
  exact lv_astore_n X.1 X.2.1 hd rfl hl hi rfl (fun ls1 hl1 => k p e s m args below meth c H locs k1 n1 ls1 X h1 h2 hR hS (lvs_has hl1 hc) (lvs_cat rfl hc))
theorem V_astore {i x : Nat} (hd : decode (kc K) pc = .ok (.astore i, 2)) (hi : i < kL K) (k : V g K R Qf kb nb nt h C M o (pc + 2) (lvs lv i (.ref x)) st) : V g K R Qf kb nb nt h C M o pc lv (.ref x :: st) := by
  intro p e s m args below meth c H locs k1 n1 ls X h1 h2 hR hS hl hc
  exact lv_astore X.1 X.2.1 hd hl hi rfl (fun ls1 hl1 => k p e s m args below meth c H locs k1 n1 ls1 X h1 h2 hR hS (lvs_has hl1 hc) (lvs_cat rfl hc))
theorem V_astore_nt {i : Fin 4} {r : Option Nat} (hd : decode (kc K) pc = .ok (.astore_n i, 1)) (hi : (i : Nat) < kL K) (k : V g K R Qf kb nb nt h C M o (pc + 1) (lvs lv (i : Nat) (va_rf r)) st) : V g K R Qf kb nb nt h C M o pc lv (va_rf r :: st) := by
  intro p e s m args below meth c H locs k1 n1 ls X h1 h2 hR hS hl hc
  cases r with
  | none => exact lv_astore_nN X.1 X.2.1 hd rfl hl hi rfl (fun ls1 hl1 => k p e s m args below meth c H locs k1 n1 ls1 X h1 h2 hR hS (lvs_has hl1 hc) (lvs_cat rfl hc))
  | some x => exact lv_astore_n X.1 X.2.1 hd rfl hl hi rfl (fun ls1 hl1 => k p e s m args below meth c H locs k1 n1 ls1 X h1 h2 hR hS (lvs_has hl1 hc) (lvs_cat rfl hc))
theorem V_astoret {i : Nat} {r : Option Nat} (hd : decode (kc K) pc = .ok (.astore i, 2)) (hi : i < kL K) (k : V g K R Qf kb nb nt h C M o (pc + 2) (lvs lv i (va_rf r)) st) : V g K R Qf kb nb nt h C M o pc lv (va_rf r :: st) := by
  intro p e s m args below meth c H locs k1 n1 ls X h1 h2 hR hS hl hc
  cases r with
  | none => exact lv_astoreN X.1 X.2.1 hd hl hi rfl (fun ls1 hl1 => k p e s m args below meth c H locs k1 n1 ls1 X h1 h2 hR hS (lvs_has hl1 hc) (lvs_cat rfl hc))
  | some x => exact lv_astore X.1 X.2.1 hd hl hi rfl (fun ls1 hl1 => k p e s m args below meth c H locs k1 n1 ls1 X h1 h2 hR hS (lvs_has hl1 hc) (lvs_cat rfl hc))
theorem V_iinc {i : Nat} {n : Int} {x v : Int32} (hd : decode (kc K) pc = .ok (.iinc i n, 3)) (hv : lvg lv i = some (.int x)) (hx : x + Int32.ofInt n = v) (hi : i < kL K) (k : V g K R Qf kb nb nt h C M o (pc + 3) (lvs lv i (.int v)) st) : V g K R Qf kb nb nt h C M o pc lv st := by
  intro p e s m args below meth c H locs k1 n1 ls X h1 h2 hR hS hl hc
  obtain ⟨q, hq⟩ := List.getElem?_of_mem (lvg_mem hv)
  exact lv_iinc X.1 X.2.1 hd hl hq hx hi rfl (fun ls1 hl1 => k p e s m args below meth c H locs k1 n1 ls1 X h1 h2 hR hS (lvs_has hl1 hc) (lvs_cat rfl hc))
theorem V_iadd {x y : Int32} (hd : decode (kc K) pc = .ok (.iadd, 1)) (k : V g K R Qf kb nb nt h C M o (pc + 1) lv (.int (x + y) :: st)) : V g K R Qf kb nb nt h C M o pc lv (.int y :: .int x :: st) := by
  intro p e s m args below meth c H locs k1 n1 ls X h1 h2 hR hS hl hc
  exact lv_iadd X.1 X.2.1 hd (k p e s m args below meth c H locs k1 n1 ls X h1 h2 hR hS hl hc)
theorem V_isub {x y : Int32} (hd : decode (kc K) pc = .ok (.isub, 1)) (k : V g K R Qf kb nb nt h C M o (pc + 1) lv (.int (x - y) :: st)) : V g K R Qf kb nb nt h C M o pc lv (.int y :: .int x :: st) := by
  intro p e s m args below meth c H locs k1 n1 ls X h1 h2 hR hS hl hc
  exact lv_isub X.1 X.2.1 hd (k p e s m args below meth c H locs k1 n1 ls X h1 h2 hR hS hl hc)
theorem V_imul {x y : Int32} (hd : decode (kc K) pc = .ok (.imul, 1)) (k : V g K R Qf kb nb nt h C M o (pc + 1) lv (.int (x * y) :: st)) : V g K R Qf kb nb nt h C M o pc lv (.int y :: .int x :: st) := by
  intro p e s m args below meth c H locs k1 n1 ls X h1 h2 hR hS hl hc
  exact lv_imul X.1 X.2.1 hd (k p e s m args below meth c H locs k1 n1 ls X h1 h2 hR hS hl hc)
theorem V_iand {x y : Int32} (hd : decode (kc K) pc = .ok (.iand, 1)) (k : V g K R Qf kb nb nt h C M o (pc + 1) lv (.int (x &&& y) :: st)) : V g K R Qf kb nb nt h C M o pc lv (.int y :: .int x :: st) := by
  intro p e s m args below meth c H locs k1 n1 ls X h1 h2 hR hS hl hc
  exact lv_iand X.1 X.2.1 hd (k p e s m args below meth c H locs k1 n1 ls X h1 h2 hR hS hl hc)
theorem V_ior {x y : Int32} (hd : decode (kc K) pc = .ok (.ior, 1)) (k : V g K R Qf kb nb nt h C M o (pc + 1) lv (.int (x ||| y) :: st)) : V g K R Qf kb nb nt h C M o pc lv (.int y :: .int x :: st) := by
  intro p e s m args below meth c H locs k1 n1 ls X h1 h2 hR hS hl hc
  exact lv_ior X.1 X.2.1 hd (k p e s m args below meth c H locs k1 n1 ls X h1 h2 hR hS hl hc)
theorem V_ishl {x y : Int32} (hd : decode (kc K) pc = .ok (.ishl, 1)) (k : V g K R Qf kb nb nt h C M o (pc + 1) lv (.int (x <<< (y &&& 31)) :: st)) : V g K R Qf kb nb nt h C M o pc lv (.int y :: .int x :: st) := by
  intro p e s m args below meth c H locs k1 n1 ls X h1 h2 hR hS hl hc
  exact lv_ishl X.1 X.2.1 hd (k p e s m args below meth c H locs k1 n1 ls X h1 h2 hR hS hl hc)
theorem V_iushr {x y : Int32} (hd : decode (kc K) pc = .ok (.iushr, 1)) (k : V g K R Qf kb nb nt h C M o (pc + 1) lv (.int (x.toUInt32 >>> (y.toUInt32 &&& Int32.toUInt32 31)).toInt32 :: st)) : V g K R Qf kb nb nt h C M o pc lv (.int y :: .int x :: st) := by
  intro p e s m args below meth c H locs k1 n1 ls X h1 h2 hR hS hl hc
  exact lv_iushr X.1 X.2.1 hd rfl (k p e s m args below meth c H locs k1 n1 ls X h1 h2 hR hS hl hc)
theorem V_idiv {x y : Int32} (hd : decode (kc K) pc = .ok (.idiv, 1)) (hy : y ≠ 0) (k : V g K R Qf kb nb nt h C M o (pc + 1) lv (.int (x / y) :: st)) : V g K R Qf kb nb nt h C M o pc lv (.int y :: .int x :: st) := by
  intro p e s m args below meth c H locs k1 n1 ls X h1 h2 hR hS hl hc
  exact lv_idiv X.1 X.2.1 hd hy (k p e s m args below meth c H locs k1 n1 ls X h1 h2 hR hS hl hc)
theorem V_irem {x y : Int32} (hd : decode (kc K) pc = .ok (.irem, 1)) (hy : y ≠ 0) (k : V g K R Qf kb nb nt h C M o (pc + 1) lv (.int (x - x / y * y) :: st)) : V g K R Qf kb nb nt h C M o pc lv (.int y :: .int x :: st) := by
  intro p e s m args below meth c H locs k1 n1 ls X h1 h2 hR hS hl hc
  exact lv_irem X.1 X.2.1 hd hy (k p e s m args below meth c H locs k1 n1 ls X h1 h2 hR hS hl hc)
theorem V_i2l {x : Int32} (hd : decode (kc K) pc = .ok (.i2l, 1)) (k : V g K R Qf kb nb nt h C M o (pc + 1) lv (.long x.toInt64 :: st)) : V g K R Qf kb nb nt h C M o pc lv (.int x :: st) := by
  intro p e s m args below meth c H locs k1 n1 ls X h1 h2 hR hS hl hc
  exact lv_i2l X.1 X.2.1 hd rfl (k p e s m args below meth c H locs k1 n1 ls X h1 h2 hR hS hl hc)
theorem V_dup {v : Value} (hd : decode (kc K) pc = .ok (.dup, 1)) (hv : v.category = 1) (k : V g K R Qf kb nb nt h C M o (pc + 1) lv (v :: v :: st)) : V g K R Qf kb nb nt h C M o pc lv (v :: st) := by
  intro p e s m args below meth c H locs k1 n1 ls X h1 h2 hR hS hl hc
  exact lv_dup X.1 X.2.1 hd hv (k p e s m args below meth c H locs k1 n1 ls X h1 h2 hR hS hl hc)
theorem V_null (hd : decode (kc K) pc = .ok (.aconst_null, 1)) (k : V g K R Qf kb nb nt h C M o (pc + 1) lv (.null :: st)) : V g K R Qf kb nb nt h C M o pc lv (st) := by
  intro p e s m args below meth c H locs k1 n1 ls X h1 h2 hR hS hl hc
  exact lv_null X.1 X.2.1 hd (k p e s m args below meth c H locs k1 n1 ls X h1 h2 hR hS hl hc)
theorem V_icmp_eq {x y : Int32} {off : Int} {tgt : Nat} (hd : decode (kc K) pc = .ok (.if_icmp .eq off, 3)) (ht : (pc : Int) + off = (tgt : Int)) (k1 : x = y → V g K R Qf kb nb nt h C M o tgt lv st) (k2 : ¬ (x = y) → V g K R Qf kb nb nt h C M o (pc + 3) lv st) : V g K R Qf kb nb nt h C M o pc lv (.int y :: .int x :: st) := by
  intro p e s m args below meth c H locs k3 n1 ls X h1 h2 hR hS hl hc
  exact lv_icmp_eq X.1 X.2.1 hd ht (fun q => k1 q p e s m args below meth c H locs k3 n1 ls X h1 h2 hR hS hl hc) (fun q => k2 q p e s m args below meth c H locs k3 n1 ls X h1 h2 hR hS hl hc)
theorem V_icmp_ne {x y : Int32} {off : Int} {tgt : Nat} (hd : decode (kc K) pc = .ok (.if_icmp .ne off, 3)) (ht : (pc : Int) + off = (tgt : Int)) (k1 : ¬ x = y → V g K R Qf kb nb nt h C M o tgt lv st) (k2 : x = y → V g K R Qf kb nb nt h C M o (pc + 3) lv st) : V g K R Qf kb nb nt h C M o pc lv (.int y :: .int x :: st) := by
  intro p e s m args below meth c H locs k3 n1 ls X h1 h2 hR hS hl hc
  exact lv_icmp_ne X.1 X.2.1 hd ht (fun q => k1 q p e s m args below meth c H locs k3 n1 ls X h1 h2 hR hS hl hc) (fun q => k2 q p e s m args below meth c H locs k3 n1 ls X h1 h2 hR hS hl hc)
theorem V_icmp_lt {x y : Int32} {off : Int} {tgt : Nat} (hd : decode (kc K) pc = .ok (.if_icmp .lt off, 3)) (ht : (pc : Int) + off = (tgt : Int)) (k1 : x < y → V g K R Qf kb nb nt h C M o tgt lv st) (k2 : ¬ (x < y) → V g K R Qf kb nb nt h C M o (pc + 3) lv st) : V g K R Qf kb nb nt h C M o pc lv (.int y :: .int x :: st) := by
  intro p e s m args below meth c H locs k3 n1 ls X h1 h2 hR hS hl hc
  exact lv_icmp_lt X.1 X.2.1 hd ht (fun q => k1 q p e s m args below meth c H locs k3 n1 ls X h1 h2 hR hS hl hc) (fun q => k2 q p e s m args below meth c H locs k3 n1 ls X h1 h2 hR hS hl hc)
theorem V_icmp_ge {x y : Int32} {off : Int} {tgt : Nat} (hd : decode (kc K) pc = .ok (.if_icmp .ge off, 3)) (ht : (pc : Int) + off = (tgt : Int)) (k1 : y ≤ x → V g K R Qf kb nb nt h C M o tgt lv st) (k2 : ¬ (y ≤ x) → V g K R Qf kb nb nt h C M o (pc + 3) lv st) : V g K R Qf kb nb nt h C M o pc lv (.int y :: .int x :: st) := by
  intro p e s m args below meth c H locs k3 n1 ls X h1 h2 hR hS hl hc
  exact lv_icmp_ge X.1 X.2.1 hd ht (fun q => k1 q p e s m args below meth c H locs k3 n1 ls X h1 h2 hR hS hl hc) (fun q => k2 q p e s m args below meth c H locs k3 n1 ls X h1 h2 hR hS hl hc)
theorem V_icmp_gt {x y : Int32} {off : Int} {tgt : Nat} (hd : decode (kc K) pc = .ok (.if_icmp .gt off, 3)) (ht : (pc : Int) + off = (tgt : Int)) (k1 : y < x → V g K R Qf kb nb nt h C M o tgt lv st) (k2 : ¬ (y < x) → V g K R Qf kb nb nt h C M o (pc + 3) lv st) : V g K R Qf kb nb nt h C M o pc lv (.int y :: .int x :: st) := by
  intro p e s m args below meth c H locs k3 n1 ls X h1 h2 hR hS hl hc
  exact lv_icmp_gt X.1 X.2.1 hd ht (fun q => k1 q p e s m args below meth c H locs k3 n1 ls X h1 h2 hR hS hl hc) (fun q => k2 q p e s m args below meth c H locs k3 n1 ls X h1 h2 hR hS hl hc)
theorem V_icmp_le {x y : Int32} {off : Int} {tgt : Nat} (hd : decode (kc K) pc = .ok (.if_icmp .le off, 3)) (ht : (pc : Int) + off = (tgt : Int)) (k1 : x ≤ y → V g K R Qf kb nb nt h C M o tgt lv st) (k2 : ¬ (x ≤ y) → V g K R Qf kb nb nt h C M o (pc + 3) lv st) : V g K R Qf kb nb nt h C M o pc lv (.int y :: .int x :: st) := by
  intro p e s m args below meth c H locs k3 n1 ls X h1 h2 hR hS hl hc
  exact lv_icmp_le X.1 X.2.1 hd ht (fun q => k1 q p e s m args below meth c H locs k3 n1 ls X h1 h2 hR hS hl hc) (fun q => k2 q p e s m args below meth c H locs k3 n1 ls X h1 h2 hR hS hl hc)
theorem V_if_eq {x : Int32} {off : Int} {tgt : Nat} (hd : decode (kc K) pc = .ok (.ifCond .eq off, 3)) (ht : (pc : Int) + off = (tgt : Int)) (k1 : x = 0 → V g K R Qf kb nb nt h C M o tgt lv st) (k2 : ¬ (x = 0) → V g K R Qf kb nb nt h C M o (pc + 3) lv st) : V g K R Qf kb nb nt h C M o pc lv (.int x :: st) := by
  intro p e s m args below meth c H locs k3 n1 ls X h1 h2 hR hS hl hc
  exact lv_if_eq X.1 X.2.1 hd ht (fun q => k1 q p e s m args below meth c H locs k3 n1 ls X h1 h2 hR hS hl hc) (fun q => k2 q p e s m args below meth c H locs k3 n1 ls X h1 h2 hR hS hl hc)
theorem V_if_ne {x : Int32} {off : Int} {tgt : Nat} (hd : decode (kc K) pc = .ok (.ifCond .ne off, 3)) (ht : (pc : Int) + off = (tgt : Int)) (k1 : ¬ x = 0 → V g K R Qf kb nb nt h C M o tgt lv st) (k2 : x = 0 → V g K R Qf kb nb nt h C M o (pc + 3) lv st) : V g K R Qf kb nb nt h C M o pc lv (.int x :: st) := by
  intro p e s m args below meth c H locs k3 n1 ls X h1 h2 hR hS hl hc
  exact lv_if_ne X.1 X.2.1 hd ht (fun q => k1 q p e s m args below meth c H locs k3 n1 ls X h1 h2 hR hS hl hc) (fun q => k2 q p e s m args below meth c H locs k3 n1 ls X h1 h2 hR hS hl hc)
theorem V_if_lt {x : Int32} {off : Int} {tgt : Nat} (hd : decode (kc K) pc = .ok (.ifCond .lt off, 3)) (ht : (pc : Int) + off = (tgt : Int)) (k1 : x < 0 → V g K R Qf kb nb nt h C M o tgt lv st) (k2 : ¬ (x < 0) → V g K R Qf kb nb nt h C M o (pc + 3) lv st) : V g K R Qf kb nb nt h C M o pc lv (.int x :: st) := by
  intro p e s m args below meth c H locs k3 n1 ls X h1 h2 hR hS hl hc
  exact lv_if_lt X.1 X.2.1 hd ht (fun q => k1 q p e s m args below meth c H locs k3 n1 ls X h1 h2 hR hS hl hc) (fun q => k2 q p e s m args below meth c H locs k3 n1 ls X h1 h2 hR hS hl hc)
theorem V_if_ge {x : Int32} {off : Int} {tgt : Nat} (hd : decode (kc K) pc = .ok (.ifCond .ge off, 3)) (ht : (pc : Int) + off = (tgt : Int)) (k1 : 0 ≤ x → V g K R Qf kb nb nt h C M o tgt lv st) (k2 : ¬ (0 ≤ x) → V g K R Qf kb nb nt h C M o (pc + 3) lv st) : V g K R Qf kb nb nt h C M o pc lv (.int x :: st) := by
  intro p e s m args below meth c H locs k3 n1 ls X h1 h2 hR hS hl hc
  exact lv_if_ge X.1 X.2.1 hd ht (fun q => k1 q p e s m args below meth c H locs k3 n1 ls X h1 h2 hR hS hl hc) (fun q => k2 q p e s m args below meth c H locs k3 n1 ls X h1 h2 hR hS hl hc)
theorem V_if_gt {x : Int32} {off : Int} {tgt : Nat} (hd : decode (kc K) pc = .ok (.ifCond .gt off, 3)) (ht : (pc : Int) + off = (tgt : Int)) (k1 : 0 < x → V g K R Qf kb nb nt h C M o tgt lv st) (k2 : ¬ (0 < x) → V g K R Qf kb nb nt h C M o (pc + 3) lv st) : V g K R Qf kb nb nt h C M o pc lv (.int x :: st) := by
  intro p e s m args below meth c H locs k3 n1 ls X h1 h2 hR hS hl hc
  exact lv_if_gt X.1 X.2.1 hd ht (fun q => k1 q p e s m args below meth c H locs k3 n1 ls X h1 h2 hR hS hl hc) (fun q => k2 q p e s m args below meth c H locs k3 n1 ls X h1 h2 hR hS hl hc)
theorem V_if_le {x : Int32} {off : Int} {tgt : Nat} (hd : decode (kc K) pc = .ok (.ifCond .le off, 3)) (ht : (pc : Int) + off = (tgt : Int)) (k1 : x ≤ 0 → V g K R Qf kb nb nt h C M o tgt lv st) (k2 : ¬ (x ≤ 0) → V g K R Qf kb nb nt h C M o (pc + 3) lv st) : V g K R Qf kb nb nt h C M o pc lv (.int x :: st) := by
  intro p e s m args below meth c H locs k3 n1 ls X h1 h2 hR hS hl hc
  exact lv_if_le X.1 X.2.1 hd ht (fun q => k1 q p e s m args below meth c H locs k3 n1 ls X h1 h2 hR hS hl hc) (fun q => k2 q p e s m args below meth c H locs k3 n1 ls X h1 h2 hR hS hl hc)
theorem V_goto {off : Int} {tgt : Nat} (hd : decode (kc K) pc = .ok (.goto off, 3)) (ht : (pc : Int) + off = (tgt : Int)) (k : V g K R Qf kb nb nt h C M o tgt lv st) : V g K R Qf kb nb nt h C M o pc lv st := by
  intro p e s m args below meth c H locs k1 n1 ls X h1 h2 hR hS hl hc
  exact lv_goto X.1 X.2.1 hd ht (k p e s m args below meth c H locs k1 n1 ls X h1 h2 hR hS hl hc)
theorem V_ifnull {r : Option Nat} {off : Int} {tgt : Nat} (hd : decode (kc K) pc = .ok (.ifnull off, 3)) (ht : (pc : Int) + off = (tgt : Int)) (k1 : r = none → V g K R Qf kb nb nt h C M o tgt lv st) (k2 : r ≠ none → V g K R Qf kb nb nt h C M o (pc + 3) lv st) : V g K R Qf kb nb nt h C M o pc lv (va_rf r :: st) := by
  intro p e s m args below meth c H locs k3 n1 ls X h1 h2 hR hS hl hc
  cases r with
  | none => exact lv_ifnullN X.1 X.2.1 hd ht (k1 rfl p e s m args below meth c H locs k3 n1 ls X h1 h2 hR hS hl hc)
  | some x => exact lv_ifnull X.1 X.2.1 hd (k2 (fun q => by cases q) p e s m args below meth c H locs k3 n1 ls X h1 h2 hR hS hl hc)
theorem V_ifnonnull {r : Option Nat} {off : Int} {tgt : Nat} (hd : decode (kc K) pc = .ok (.ifnonnull off, 3)) (ht : (pc : Int) + off = (tgt : Int)) (k1 : r ≠ none → V g K R Qf kb nb nt h C M o tgt lv st) (k2 : r = none → V g K R Qf kb nb nt h C M o (pc + 3) lv st) : V g K R Qf kb nb nt h C M o pc lv (va_rf r :: st) := by
  intro p e s m args below meth c H locs k3 n1 ls X h1 h2 hR hS hl hc
  cases r with
  | none => exact lv_ifnonnullN X.1 X.2.1 hd (k2 rfl p e s m args below meth c H locs k3 n1 ls X h1 h2 hR hS hl hc)
  | some x => exact lv_ifnonnull X.1 X.2.1 hd ht (k1 (fun q => by cases q) p e s m args below meth c H locs k3 n1 ls X h1 h2 hR hS hl hc)
theorem V_acmp_eq {rx ry : Option Nat} {off : Int} {tgt : Nat} (hd : decode (kc K) pc = .ok (.if_acmp .eq off, 3)) (ht : (pc : Int) + off = (tgt : Int)) (k1 : rx = ry → V g K R Qf kb nb nt h C M o tgt lv st) (k2 : ¬ rx = ry → V g K R Qf kb nb nt h C M o (pc + 3) lv st) : V g K R Qf kb nb nt h C M o pc lv (va_rf ry :: va_rf rx :: st) := by
  intro p e s m args below meth c H locs k3 n1 ls X h1 h2 hR hS hl hc
  exact lv_acmp_eq X.1 X.2.1 hd ht (fun q => k1 q p e s m args below meth c H locs k3 n1 ls X h1 h2 hR hS hl hc) (fun q => k2 q p e s m args below meth c H locs k3 n1 ls X h1 h2 hR hS hl hc)
theorem V_acmp_ne {rx ry : Option Nat} {off : Int} {tgt : Nat} (hd : decode (kc K) pc = .ok (.if_acmp .ne off, 3)) (ht : (pc : Int) + off = (tgt : Int)) (k1 : ¬ rx = ry → V g K R Qf kb nb nt h C M o tgt lv st) (k2 : rx = ry → V g K R Qf kb nb nt h C M o (pc + 3) lv st) : V g K R Qf kb nb nt h C M o pc lv (va_rf ry :: va_rf rx :: st) := by
  intro p e s m args below meth c H locs k3 n1 ls X h1 h2 hR hS hl hc
  exact lv_acmp_ne X.1 X.2.1 hd ht (fun q => k1 q p e s m args below meth c H locs k3 n1 ls X h1 h2 hR hS hl hc) (fun q => k2 q p e s m args below meth c H locs k3 n1 ls X h1 h2 hR hS hl hc)
theorem V_ldc {index : Nat} {v : Int32} (hd : decode (kc K) pc = .ok (.ldc index, 2)) (hw : Cond.constant (ko K) index v ∈ gtbl) (k : V g K R Qf kb nb nt h C M o (pc + 2) lv (.int v :: st)) : V g K R Qf kb nb nt h C M o pc lv st := by
  intro p e s m args below meth c H locs k1 n1 ls X h1 h2 hR hS hl hc
  exact lv_ldc X.1 X.2.1 X.2.2.2.2.1 (X.2.2.2.2.2.1 _ hw) hd (k p e s m args below meth c H locs k1 n1 ls X h1 h2 hR hS hl hc)
theorem V_ldcw {index : Nat} {v : Int32} (hd : decode (kc K) pc = .ok (.ldc_w index, 3)) (hw : Cond.constant (ko K) index v ∈ gtbl) (k : V g K R Qf kb nb nt h C M o (pc + 3) lv (.int v :: st)) : V g K R Qf kb nb nt h C M o pc lv st := by
  intro p e s m args below meth c H locs k1 n1 ls X h1 h2 hR hS hl hc
  exact lv_ldcw X.1 X.2.1 X.2.2.2.2.1 (X.2.2.2.2.2.1 _ hw) hd (k p e s m args below meth c H locs k1 n1 ls X h1 h2 hR hS hl hc)
theorem V_lcmp {x y : Int64} (hd : decode (kc K) pc = .ok (.lcmp, 1)) (k : V g K R Qf kb nb nt h C M o (pc + 1) lv (.int (lg_cmp x y) :: st)) : V g K R Qf kb nb nt h C M o pc lv (.long y :: .long x :: st) := by
  intro p e s m args below meth c H locs k1 n1 ls X h1 h2 hR hS hl hc
  exact W.lcmp X.1 X.2.1 hd (k p e s m args below meth c H locs k1 n1 ls X h1 h2 hR hS hl hc)
end ROWS
end
section
/-! rows that read and write the cells of our world -/
theorem uin_0 : ∀ w ∈ u_ws RX0 TX0 6, w ∈ gtbl := fun w h => List.mem_filter.mpr ⟨(goodIn_r (big := lw_tbl) (u_ws RX0 TX0 6) [136, 138, 140, 142, 144, 146] (by decide +kernel) (by decide +kernel) w h).1, List.all_eq_true.mp (show (u_ws RX0 TX0 6).all goodWord = true by decide +kernel) w h⟩
theorem uin_1 : ∀ w ∈ u_ws RX1 TX1 6, w ∈ gtbl := fun w h => List.mem_filter.mpr ⟨(goodIn_r (big := lw_tbl) (u_ws RX1 TX1 6) [93, 95, 97, 99, 101, 103] (by decide +kernel) (by decide +kernel) w h).1, List.all_eq_true.mp (show (u_ws RX1 TX1 6).all goodWord = true by decide +kernel) w h⟩
theorem uin_2 : ∀ w ∈ u_ws RX2 TX2 3, w ∈ gtbl := fun w h => List.mem_filter.mpr ⟨(goodIn_r (big := lw_tbl) (u_ws RX2 TX2 3) [116, 118, 120] (by decide +kernel) (by decide +kernel) w h).1, List.all_eq_true.mp (show (u_ws RX2 TX2 3).all goodWord = true by decide +kernel) w h⟩
theorem uin_3 : ∀ w ∈ u_ws RX3 TX3 15, w ∈ gtbl := fun w h => List.mem_filter.mpr ⟨(goodIn_r (big := lw_tbl) (u_ws RX3 TX3 15) [460, 462, 464, 466, 468, 470, 472, 474, 476, 478, 480, 482, 484, 486, 488] (by decide +kernel) (by decide +kernel) w h).1, List.all_eq_true.mp (show (u_ws RX3 TX3 15).all goodWord = true by decide +kernel) w h⟩
theorem uin_4 : ∀ w ∈ u_ws RX4 TX4 6, w ∈ gtbl := fun w h => List.mem_filter.mpr ⟨(goodIn_r (big := lw_tbl) (u_ws RX4 TX4 6) [155, 157, 159, 161, 163, 165] (by decide +kernel) (by decide +kernel) w h).1, List.all_eq_true.mp (show (u_ws RX4 TX4 6).all goodWord = true by decide +kernel) w h⟩
theorem uin_5 : ∀ w ∈ u_ws RX5 TX5 32, w ∈ gtbl := fun w h => List.mem_filter.mpr ⟨(goodIn_r (big := lw_tbl) (u_ws RX5 TX5 32) [775, 777, 779, 781, 783, 785, 787, 789, 791, 793, 795, 797, 799, 801, 803, 805, 807, 809, 811, 813, 815, 817, 819, 821, 823, 825, 827, 829, 831, 833, 835, 837] (by decide +kernel) (by decide +kernel) w h).1, List.all_eq_true.mp (show (u_ws RX5 TX5 32).all goodWord = true by decide +kernel) w h⟩
def inr (i : Int32) (n j : Nat) : Prop := vp_in i n ∧ i.toNatClampNeg = j
theorem inr_nI {n j : Nat} (hj : j < n) (hn : n < 2 ^ 31) : inr (nI j) n j := ⟨vp_in_nI hj hn, nI_clamp (Nat.lt_trans hj hn)⟩
theorem inr_lt {i : Int32} {n j : Nat} (h : inr i n j) : j < n := by
  obtain ⟨h1, h2⟩ := h
  rw [← h2]
  exact Nat.not_le.mp fun q => h1 (Or.inr q)
theorem inr_of {i : Int32} {n : Nat} (h : vp_in i n) : inr i n i.toNatClampNeg := ⟨h, rfl⟩
section HEAP
variable {g : GT} {K : MK} {R : Room} {Qf : QT} {kb nb nt : Nat} {h : Nat × Nat} {C M : St} {o : Int64} {pc : Nat} {lv : List (Nat × Value)} {st : List Value}
theorem V_getf {ci kf index n N : Nat} {T : u_T} {Cn : String} {fs : List Value} {v : Value} (hd : decode (kc K) pc = .ok (.getfield index, 3)) (hw : Cond.fieldLink (ko K) index (T kf).1 (T kf).2.1 (T kf).2.2.1 ∈ gtbl) (hu : ∀ w ∈ u_ws Cn T N, w ∈ gtbl) (hcl : vwCl[ci]? = some (Cn, T, N)) (hk : kf < N) (hn : n < 73 + 4 * nt) (he : ent g h C M o n = .inr (ci, fs)) (hv : fs[kf]? = some v) (k : V g K R Qf kb nb nt h C M o (pc + 3) lv (v :: st)) : V g K R Qf kb nb nt h C M o pc lv (.ref (hp g h n) :: st) := by
  intro p e s m args below meth c H locs k1 n1 ls X h1 h2 hR hS hl hc
  obtain ⟨x1, x2, x3, x4, x5, x6, x7, x8, x9⟩ := id X
  exact va_get x1 x2 x6 hu x5 x9.1 hR.1 n ((wld_at hn).trans (by rw [he])) hcl kf hk (x6 _ hw) (fun _ q => q) hv hd (k p e s m args below meth c H locs k1 n1 ls X h1 h2 hR hS hl hc)
theorem V_putf {ci kf index n N : Nat} {T : u_T} {Cn : String} {fs : List Value} {v : Value} {ty : FieldType} {ty0 : Nat → FieldType} {C' M' : St} {o' : Int64} (hd : decode (kc K) pc = .ok (.putfield index, 3)) (hw : Cond.fieldLink (ko K) index (T kf).1 (T kf).2.1 (T kf).2.2.1 ∈ gtbl) (hu : ∀ w ∈ u_ws Cn T N, w ∈ gtbl) (hty : ∀ k, k < N → parseFieldDescriptor (T k).2.2.1 = some (ty0 k)) (hnm : ∀ a, a < N → ∀ b, b < N → a ≠ b → (T a).2.1 ≠ (T b).2.1) (hcl : vwCl[ci]? = some (Cn, T, N)) (hk : kf < N) (hfin : (T kf).2.2.2 = false) (hdt : parseFieldDescriptor (T kf).2.2.1 = some ty) (hnar : narrow ty v = v) (hfit : fits ty v = true) (hlen : kf < fs.length) (hn : n < 73 + 4 * nt) (he : ent g h C M o n = .inr (ci, fs)) (e1 : ent g h C' M' o' n = .inr (ci, fs.set kf v)) (e2 : ∀ m, m ≠ n → ent g h C' M' o' m = ent g h C M o m) (k : V g K R Qf kb nb nt h C' M' o' (pc + 3) lv st) : V g K R Qf kb nb nt h C M o pc lv (v :: .ref (hp g h n) :: st) := by
  intro p e s m args below meth c H locs k1 n1 ls X h1 h2 hR hS hl hc
  obtain ⟨x1, x2, x3, x4, x5, x6, x7, x8, x9⟩ := id X
  refine va_put x1 x2 x6 hu ty0 hty hnm x5 x9.1 hR.1 hR.2 hS n ((wld_at hn).trans (by rw [he])) hcl kf hk (x6 _ hw) (fun _ q => q) hfin hdt hnar hfit hlen hd (fun H1 locs1 hP hD hS1 => ?_)
  rw [wld_set hn e1 e2] at hP hD
  exact k p e s m args below meth c H1 locs1 k1 n1 ls X h1 h2 ⟨hP, hD⟩ hS1 hl hc
theorem V_iald {n nn t0 : Nat} {f : Nat → Int32} {i : Int32} {j : Nat} (hd : decode (kc K) pc = .ok (.iaload, 1)) (hn : n < 73 + 4 * nt) (he : ent g h C M o n = iA g 0 nn f) (hi : inr i nn j) (k : V g K R Qf kb nb nt h C M o (pc + 1) lv (.int (f j) :: st)) : V g K R Qf kb nb nt h C M o pc lv (.int i :: .ref (hp g h n) :: st) := by
  intro p e s m args below meth c H locs k1 n1 ls X h1 h2 hR hS hl hc
  obtain ⟨x1, x2, x3, x4, x5, x6, x7, x8, x9⟩ := id X
  have q := k p e s m args below meth c H locs k1 n1 ls X h1 h2 hR hS hl hc
  rw [← hi.2] at q
  exact va_iald x1 x2 x9.1 hR.1 n 0 ((wld_at hn).trans (by rw [he]; rfl)) rfl hi.1 hd q
theorem V_iast {n nn : Nat} {f : Nat → Int32} {i x : Int32} {j : Nat} {C' M' : St} {o' : Int64} (hd : decode (kc K) pc = .ok (.iastore, 1)) (hn : n < 73 + 4 * nt) (he : ent g h C M o n = iA g 0 nn f) (hi : inr i nn j) (e1 : ent g h C' M' o' n = iA g 0 nn (upd f j x)) (e2 : ∀ m, m ≠ n → ent g h C' M' o' m = ent g h C M o m) (k : V g K R Qf kb nb nt h C' M' o' (pc + 1) lv st) : V g K R Qf kb nb nt h C M o pc lv (.int x :: .int i :: .ref (hp g h n) :: st) := by
  intro p e s m args below meth c H locs k1 n1 ls X h1 h2 hR hS hl hc
  obtain ⟨x1, x2, x3, x4, x5, x6, x7, x8, x9⟩ := id X
  rw [← hi.2] at e1
  refine va_iast x1 x2 x9.1 hR.1 hR.2 hS n 0 ((wld_at hn).trans (by rw [he]; rfl)) rfl hi.1 hd (fun H1 locs1 hP hD hS1 => ?_)
  rw [show (Sum.inl (gc g 0, nn, Sum.inl (upd f i.toNatClampNeg x)) : va_E) = iA g 0 nn (upd f i.toNatClampNeg x) from rfl, wld_set hn e1 e2] at hP hD
  exact k p e s m args below meth c H1 locs1 k1 n1 ls X h1 h2 ⟨hP, hD⟩ hS1 hl hc
theorem V_zald {n nn : Nat} {f : Nat → Int32} {i : Int32} {j : Nat} (hd : decode (kc K) pc = .ok (.baload, 1)) (hn : n < 73 + 4 * nt) (he : ent g h C M o n = iA g 1 nn f) (hi : inr i nn j) (k : V g K R Qf kb nb nt h C M o (pc + 1) lv (.int (f j) :: st)) : V g K R Qf kb nb nt h C M o pc lv (.int i :: .ref (hp g h n) :: st) := by
  intro p e s m args below meth c H locs k1 n1 ls X h1 h2 hR hS hl hc
  obtain ⟨x1, x2, x3, x4, x5, x6, x7, x8, x9⟩ := id X
  have q := k p e s m args below meth c H locs k1 n1 ls X h1 h2 hR hS hl hc
  rw [← hi.2] at q
  exact va_zald x1 x2 x9.1 hR.1 n 1 ((wld_at hn).trans (by rw [he]; rfl)) rfl hi.1 hd q
theorem V_zast {n nn : Nat} {f : Nat → Int32} {i x : Int32} {j : Nat} {C' M' : St} {o' : Int64} (hd : decode (kc K) pc = .ok (.bastore, 1)) (hn : n < 73 + 4 * nt) (he : ent g h C M o n = iA g 1 nn f) (hi : inr i nn j) (hb : vp_nar .boolean x = x) (e1 : ent g h C' M' o' n = iA g 1 nn (upd f j x)) (e2 : ∀ m, m ≠ n → ent g h C' M' o' m = ent g h C M o m) (k : V g K R Qf kb nb nt h C' M' o' (pc + 1) lv st) : V g K R Qf kb nb nt h C M o pc lv (.int x :: .int i :: .ref (hp g h n) :: st) := by
  intro p e s m args below meth c H locs k1 n1 ls X h1 h2 hR hS hl hc
  obtain ⟨x1, x2, x3, x4, x5, x6, x7, x8, x9⟩ := id X
  rw [← hi.2] at e1
  refine va_zast x1 x2 x9.1 hR.1 hR.2 hS n 1 ((wld_at hn).trans (by rw [he]; rfl)) rfl hi.1 hd (fun H1 locs1 hP hD hS1 => ?_)
  rw [hb, show (Sum.inl (gc g 1, nn, Sum.inl (upd f i.toNatClampNeg x)) : va_E) = iA g 1 nn (upd f i.toNatClampNeg x) from rfl, wld_set hn e1 e2] at hP hD
  exact k p e s m args below meth c H1 locs1 k1 n1 ls X h1 h2 ⟨hP, hD⟩ hS1 hl hc
theorem V_aald {n nn t0 : Nat} {Cn : String} {f : Nat → Option Nat} {i : Int32} {j : Nat} (hd : decode (kc K) pc = .ok (.aaload, 1)) (hn : n < 73 + 4 * nt) (he : ent g h C M o n = rA g t0 nn f) (ht : (gtys g)[t0]? = some (gc g t0, .object Cn)) (hi : inr i nn j) (k : V g K R Qf kb nb nt h C M o (pc + 1) lv (va_rf (f j) :: st)) : V g K R Qf kb nb nt h C M o pc lv (.int i :: .ref (hp g h n) :: st) := by
  intro p e s m args below meth c H locs k1 n1 ls X h1 h2 hR hS hl hc
  obtain ⟨x1, x2, x3, x4, x5, x6, x7, x8, x9⟩ := id X
  have q := k p e s m args below meth c H locs k1 n1 ls X h1 h2 hR hS hl hc
  rw [← hi.2] at q
  exact va_aldq x1 x2 x9.1 hR.1 n t0 ((wld_at hn).trans (by rw [he]; rfl)) ht hi.1 hd q
theorem V_alen {n nn : Nat} {f : Nat → Int32} {v : Int32} (hd : decode (kc K) pc = .ok (.arraylength, 1)) (hn : n < 73 + 4 * nt) (he : ent g h C M o n = iA g 0 nn f) (hv : Int32.ofNat nn = v) (k : V g K R Qf kb nb nt h C M o (pc + 1) lv (.int v :: st)) : V g K R Qf kb nb nt h C M o pc lv (.ref (hp g h n) :: st) := by
  intro p e s m args below meth c H locs k1 n1 ls X h1 h2 hR hS hl hc
  obtain ⟨x1, x2, x3, x4, x5, x6, x7, x8, x9⟩ := id X
  exact va_alen x1 x2 x9.1 hR.1 n 0 ((wld_at hn).trans (by rw [he]; rfl)) rfl hv hd (k p e s m args below meth c H locs k1 n1 ls X h1 h2 hR hS hl hc)
theorem V_alenR {n nn t0 : Nat} {Cn : String} {f : Nat → Option Nat} {v : Int32} (hd : decode (kc K) pc = .ok (.arraylength, 1)) (hn : n < 73 + 4 * nt) (he : ent g h C M o n = rA g t0 nn f) (ht : (gtys g)[t0]? = some (gc g t0, .object Cn)) (hv : Int32.ofNat nn = v) (k : V g K R Qf kb nb nt h C M o (pc + 1) lv (.int v :: st)) : V g K R Qf kb nb nt h C M o pc lv (.ref (hp g h n) :: st) := by
  intro p e s m args below meth c H locs k1 n1 ls X h1 h2 hR hS hl hc
  obtain ⟨x1, x2, x3, x4, x5, x6, x7, x8, x9⟩ := id X
  exact va_alen x1 x2 x9.1 hR.1 n t0 ((wld_at hn).trans (by rw [he]; rfl)) ht hv hd (k p e s m args below meth c H locs k1 n1 ls X h1 h2 hR hS hl hc)
/-- a transaction that is there -/
def tok (nt : Nat) (t : Int32) : Prop := ¬ t < 0 ∧ t.toNatClampNeg < nt
theorem tok_rf {g : GT} {nt : Nat} {t : Int32} (ht : tok nt t) : va_rf (trO g t) = .ref (hp g h (73 + 4 * t.toNatClampNeg)) := by
  unfold trO
  rw [if_neg ht.1, hp_ad (by omega) (by omega)]
  rfl
theorem tr_null {g : GT} : va_rf (trO g (-1)) = .null := by
  unfold trO
  rw [if_pos (by decide)]
  rfl
theorem V_nullt (hd : decode (kc K) pc = .ok (.aconst_null, 1)) (k : V g K R Qf kb nb nt h C M o (pc + 1) lv (va_rf (trO g (-1)) :: st)) : V g K R Qf kb nb nt h C M o pc lv st := by
  rw [tr_null] at k
  exact V_null hd k
theorem gf_X4_11 (ho : ko K = RX4) (hd : decode (kc K) pc = .ok (.getfield 11, 3)) (k : V g K R Qf kb nb nt h C M o (pc + 3) lv (.ref (ad g 1) :: st)) : V g K R Qf kb nb nt h C M o pc lv (.ref (ad g 0) :: st) := by
  rw [← hp_ad (g := g) (h := h) (n := 0) (by decide) (by decide)]
  exact V_getf (ci := 4) (kf := 1) (T := TX4) (N := 6) (Cn := RX4) (n := 0) hd (by rw [ho]; exact w_101) uin_4 rfl (by decide) (by omega) (ent_fix (by decide)) rfl k
theorem gf_X4_17 (ho : ko K = RX4) (hd : decode (kc K) pc = .ok (.getfield 17, 3)) (k : V g K R Qf kb nb nt h C M o (pc + 3) lv (.ref (ad g 2) :: st)) : V g K R Qf kb nb nt h C M o pc lv (.ref (ad g 0) :: st) := by
  rw [← hp_ad (g := g) (h := h) (n := 0) (by decide) (by decide)]
  exact V_getf (ci := 4) (kf := 2) (T := TX4) (N := 6) (Cn := RX4) (n := 0) hd (by rw [ho]; exact w_102) uin_4 rfl (by decide) (by omega) (ent_fix (by decide)) rfl k
theorem gf_X4_23 (ho : ko K = RX4) (hd : decode (kc K) pc = .ok (.getfield 23, 3)) (k : V g K R Qf kb nb nt h C M o (pc + 3) lv (.ref (ad g 3) :: st)) : V g K R Qf kb nb nt h C M o pc lv (.ref (ad g 0) :: st) := by
  rw [← hp_ad (g := g) (h := h) (n := 0) (by decide) (by decide)]
  exact V_getf (ci := 4) (kf := 3) (T := TX4) (N := 6) (Cn := RX4) (n := 0) hd (by rw [ho]; exact w_103) uin_4 rfl (by decide) (by omega) (ent_fix (by decide)) rfl k
theorem gf_X4_30 (ho : ko K = RX4) (hd : decode (kc K) pc = .ok (.getfield 30, 3)) (k : V g K R Qf kb nb nt h C M o (pc + 3) lv (.ref (ad g 4) :: st)) : V g K R Qf kb nb nt h C M o pc lv (.ref (ad g 0) :: st) := by
  rw [← hp_ad (g := g) (h := h) (n := 0) (by decide) (by decide)]
  exact V_getf (ci := 4) (kf := 5) (T := TX4) (N := 6) (Cn := RX4) (n := 0) hd (by rw [ho]; exact w_105) uin_4 rfl (by decide) (by omega) (ent_fix (by decide)) rfl k
theorem gf_X4_36 {i : Nat} (ho : ko K = RX4) (hd : decode (kc K) pc = .ok (.getfield 36, 3)) (hi : i < 32) (k : V g K R Qf kb nb nt h C M o (pc + 3) lv (.int (C 5 i) :: st)) : V g K R Qf kb nb nt h C M o pc lv (.ref (ad g (41 + i)) :: st) := by
  rw [← hp_ad (g := g) (h := h) (n := 41 + i) (by omega) (by omega)]
  exact V_getf (ci := 0) (kf := 1) (T := TX0) (N := 6) (Cn := RX0) (n := (41 + i)) hd (by rw [ho]; exact w_80) uin_0 rfl (by decide) (by omega) (ent_cell hi) rfl k
theorem pf_X4_36 {i : Nat} {x : Int32} (ho : ko K = RX4) (hd : decode (kc K) pc = .ok (.putfield 36, 3)) (hi : i < 32) (hb : narrow .boolean (.int x) = .int x) (hf : fits .boolean (.int x) = true) (k : V g K R Qf kb nb nt h (up C 5 i x) M o (pc + 3) lv st) : V g K R Qf kb nb nt h C M o pc lv (.int x :: .ref (ad g (41 + i)) :: st) := by
  rw [← hp_ad (g := g) (h := h) (n := 41 + i) (by omega) (by omega)]
  exact V_putf (ci := 0) (kf := 1) (T := TX0) (N := 6) (Cn := RX0) (n := (41 + i)) (ty := .boolean) hd (by rw [ho]; exact w_80) uin_0 tyX0_ok nmX0 rfl (by decide) rfl (by decide +kernel) hb hf (Nat.le_of_ble_eq_true rfl) (by omega) (ent_cell hi) (by rw [ent_cell hi]; unfold cellE; simp [up]) (fun m q => eC_5 q) k
theorem gf_X4_47 (ho : ko K = RX4) (hd : decode (kc K) pc = .ok (.getfield 47, 3)) (k : V g K R Qf kb nb nt h C M o (pc + 3) lv (.int (C 0 0) :: st)) : V g K R Qf kb nb nt h C M o pc lv (.ref (ad g 0) :: st) := by
  rw [← hp_ad (g := g) (h := h) (n := 0) (by decide) (by decide)]
  exact V_getf (ci := 4) (kf := 0) (T := TX4) (N := 6) (Cn := RX4) (n := 0) hd (by rw [ho]; exact w_100) uin_4 rfl (by decide) (by omega) (ent_fix (by decide)) rfl k
theorem pf_X4_47 {x : Int32} (ho : ko K = RX4) (hd : decode (kc K) pc = .ok (.putfield 47, 3)) (k : V g K R Qf kb nb nt h (up C 0 0 x) M o (pc + 3) lv st) : V g K R Qf kb nb nt h C M o pc lv (.int x :: .ref (ad g 0) :: st) := by
  rw [← hp_ad (g := g) (h := h) (n := 0) (by decide) (by decide)]
  exact V_putf (ci := 4) (kf := 0) (T := TX4) (N := 6) (Cn := RX4) (n := 0) (ty := .int) hd (by rw [ho]; exact w_100) uin_4 tyX4_ok nmX4 rfl (by decide) rfl (by decide +kernel) rfl rfl (Nat.le_of_ble_eq_true rfl) (by omega) (ent_fix (by decide)) (by rw [ent_fix (by decide)]; unfold fixE; simp [up]) (fun m q => eC_0 q) k
theorem gf_X4_62 {i : Nat} (ho : ko K = RX4) (hd : decode (kc K) pc = .ok (.getfield 62, 3)) (hi : i < 4) (k : V g K R Qf kb nb nt h C M o (pc + 3) lv (.int (C 1 i) :: st)) : V g K R Qf kb nb nt h C M o pc lv (.ref (ad g (37 + i)) :: st) := by
  rw [← hp_ad (g := g) (h := h) (n := 37 + i) (by omega) (by omega)]
  exact V_getf (ci := 2) (kf := 0) (T := TX2) (N := 3) (Cn := RX2) (n := (37 + i)) hd (by rw [ho]; exact w_64) uin_2 rfl (by decide) (by omega) (ent_node hi) rfl k
theorem pf_X4_62 {i : Nat} {x : Int32} (ho : ko K = RX4) (hd : decode (kc K) pc = .ok (.putfield 62, 3)) (hi : i < 4) (k : V g K R Qf kb nb nt h (up C 1 i x) M o (pc + 3) lv st) : V g K R Qf kb nb nt h C M o pc lv (.int x :: .ref (ad g (37 + i)) :: st) := by
  rw [← hp_ad (g := g) (h := h) (n := 37 + i) (by omega) (by omega)]
  exact V_putf (ci := 2) (kf := 0) (T := TX2) (N := 3) (Cn := RX2) (n := (37 + i)) (ty := .int) hd (by rw [ho]; exact w_64) uin_2 tyX2_ok nmX2 rfl (by decide) rfl (by decide +kernel) rfl rfl (Nat.le_of_ble_eq_true rfl) (by omega) (ent_node hi) (by rw [ent_node hi]; unfold nodeE; simp [up]) (fun m q => eC_1 q) k
theorem gf_X4_76 {i : Nat} (ho : ko K = RX4) (hd : decode (kc K) pc = .ok (.getfield 76, 3)) (hi : i < 4) (k : V g K R Qf kb nb nt h C M o (pc + 3) lv (.int (C 3 i) :: st)) : V g K R Qf kb nb nt h C M o pc lv (.ref (ad g (37 + i)) :: st) := by
  rw [← hp_ad (g := g) (h := h) (n := 37 + i) (by omega) (by omega)]
  exact V_getf (ci := 2) (kf := 2) (T := TX2) (N := 3) (Cn := RX2) (n := (37 + i)) hd (by rw [ho]; exact w_66) uin_2 rfl (by decide) (by omega) (ent_node hi) rfl k
theorem pf_X4_76 {i : Nat} {x : Int32} (ho : ko K = RX4) (hd : decode (kc K) pc = .ok (.putfield 76, 3)) (hi : i < 4) (hb : narrow .boolean (.int x) = .int x) (hf : fits .boolean (.int x) = true) (k : V g K R Qf kb nb nt h (up C 3 i x) M o (pc + 3) lv st) : V g K R Qf kb nb nt h C M o pc lv (.int x :: .ref (ad g (37 + i)) :: st) := by
  rw [← hp_ad (g := g) (h := h) (n := 37 + i) (by omega) (by omega)]
  exact V_putf (ci := 2) (kf := 2) (T := TX2) (N := 3) (Cn := RX2) (n := (37 + i)) (ty := .boolean) hd (by rw [ho]; exact w_66) uin_2 tyX2_ok nmX2 rfl (by decide) rfl (by decide +kernel) hb hf (Nat.le_of_ble_eq_true rfl) (by omega) (ent_node hi) (by rw [ent_node hi]; unfold nodeE; simp [up]) (fun m q => eC_3 q) k
theorem gf_X4_79 {i : Nat} (ho : ko K = RX4) (hd : decode (kc K) pc = .ok (.getfield 79, 3)) (hi : i < 32) (k : V g K R Qf kb nb nt h C M o (pc + 3) lv (.int (C 4 i) :: st)) : V g K R Qf kb nb nt h C M o pc lv (.ref (ad g (41 + i)) :: st) := by
  rw [← hp_ad (g := g) (h := h) (n := 41 + i) (by omega) (by omega)]
  exact V_getf (ci := 0) (kf := 0) (T := TX0) (N := 6) (Cn := RX0) (n := (41 + i)) hd (by rw [ho]; exact w_79) uin_0 rfl (by decide) (by omega) (ent_cell hi) rfl k
theorem pf_X4_79 {i : Nat} {x : Int32} (ho : ko K = RX4) (hd : decode (kc K) pc = .ok (.putfield 79, 3)) (hi : i < 32) (k : V g K R Qf kb nb nt h (up C 4 i x) M o (pc + 3) lv st) : V g K R Qf kb nb nt h C M o pc lv (.int x :: .ref (ad g (41 + i)) :: st) := by
  rw [← hp_ad (g := g) (h := h) (n := 41 + i) (by omega) (by omega)]
  exact V_putf (ci := 0) (kf := 0) (T := TX0) (N := 6) (Cn := RX0) (n := (41 + i)) (ty := .int) hd (by rw [ho]; exact w_79) uin_0 tyX0_ok nmX0 rfl (by decide) rfl (by decide +kernel) rfl rfl (Nat.le_of_ble_eq_true rfl) (by omega) (ent_cell hi) (by rw [ent_cell hi]; unfold cellE; simp [up]) (fun m q => eC_4 q) k
theorem gf_X4_82 {i : Nat} (ho : ko K = RX4) (hd : decode (kc K) pc = .ok (.getfield 82, 3)) (hi : i < 32) (k : V g K R Qf kb nb nt h C M o (pc + 3) lv (va_rf (trO g (C 6 i)) :: st)) : V g K R Qf kb nb nt h C M o pc lv (.ref (ad g (41 + i)) :: st) := by
  rw [← hp_ad (g := g) (h := h) (n := 41 + i) (by omega) (by omega)]
  exact V_getf (ci := 0) (kf := 2) (T := TX0) (N := 6) (Cn := RX0) (n := (41 + i)) hd (by rw [ho]; exact w_81) uin_0 rfl (by decide) (by omega) (ent_cell hi) rfl k
theorem pf_X4_82 {i : Nat} {x : Int32} (ho : ko K = RX4) (hd : decode (kc K) pc = .ok (.putfield 82, 3)) (hi : i < 32) (k : V g K R Qf kb nb nt h (up C 6 i x) M o (pc + 3) lv st) : V g K R Qf kb nb nt h C M o pc lv (va_rf (trO g x) :: .ref (ad g (41 + i)) :: st) := by
  rw [← hp_ad (g := g) (h := h) (n := 41 + i) (by omega) (by omega)]
  exact V_putf (ci := 0) (kf := 2) (T := TX0) (N := 6) (Cn := RX0) (n := (41 + i)) (ty := .object "Twinphase$Transaction") hd (by rw [ho]; exact w_81) uin_0 tyX0_ok nmX0 rfl (by decide) rfl (by decide +kernel) (by cases trO g x <;> rfl) (by cases trO g x <;> rfl) (Nat.le_of_ble_eq_true rfl) (by omega) (ent_cell hi) (by rw [ent_cell hi]; unfold cellE; simp [up]) (fun m q => eC_6 q) k
theorem gf_X4_86 {i : Nat} (ho : ko K = RX4) (hd : decode (kc K) pc = .ok (.getfield 86, 3)) (hi : i < 32) (k : V g K R Qf kb nb nt h C M o (pc + 3) lv (.int (C 7 i) :: st)) : V g K R Qf kb nb nt h C M o pc lv (.ref (ad g (41 + i)) :: st) := by
  rw [← hp_ad (g := g) (h := h) (n := 41 + i) (by omega) (by omega)]
  exact V_getf (ci := 0) (kf := 3) (T := TX0) (N := 6) (Cn := RX0) (n := (41 + i)) hd (by rw [ho]; exact w_82) uin_0 rfl (by decide) (by omega) (ent_cell hi) rfl k
theorem pf_X4_86 {i : Nat} {x : Int32} (ho : ko K = RX4) (hd : decode (kc K) pc = .ok (.putfield 86, 3)) (hi : i < 32) (hb : narrow .boolean (.int x) = .int x) (hf : fits .boolean (.int x) = true) (k : V g K R Qf kb nb nt h (up C 7 i x) M o (pc + 3) lv st) : V g K R Qf kb nb nt h C M o pc lv (.int x :: .ref (ad g (41 + i)) :: st) := by
  rw [← hp_ad (g := g) (h := h) (n := 41 + i) (by omega) (by omega)]
  exact V_putf (ci := 0) (kf := 3) (T := TX0) (N := 6) (Cn := RX0) (n := (41 + i)) (ty := .boolean) hd (by rw [ho]; exact w_82) uin_0 tyX0_ok nmX0 rfl (by decide) rfl (by decide +kernel) hb hf (Nat.le_of_ble_eq_true rfl) (by omega) (ent_cell hi) (by rw [ent_cell hi]; unfold cellE; simp [up]) (fun m q => eC_7 q) k
theorem gf_X4_115 (ho : ko K = RX4) (hd : decode (kc K) pc = .ok (.getfield 115, 3)) (k : V g K R Qf kb nb nt h C M o (pc + 3) lv (.int (C 10 0) :: st)) : V g K R Qf kb nb nt h C M o pc lv (.ref (ad g 0) :: st) := by
  rw [← hp_ad (g := g) (h := h) (n := 0) (by decide) (by decide)]
  exact V_getf (ci := 4) (kf := 4) (T := TX4) (N := 6) (Cn := RX4) (n := 0) hd (by rw [ho]; exact w_104) uin_4 rfl (by decide) (by omega) (ent_fix (by decide)) rfl k
theorem pf_X4_115 {x : Int32} (ho : ko K = RX4) (hd : decode (kc K) pc = .ok (.putfield 115, 3)) (k : V g K R Qf kb nb nt h (up C 10 0 x) M o (pc + 3) lv st) : V g K R Qf kb nb nt h C M o pc lv (.int x :: .ref (ad g 0) :: st) := by
  rw [← hp_ad (g := g) (h := h) (n := 0) (by decide) (by decide)]
  exact V_putf (ci := 4) (kf := 4) (T := TX4) (N := 6) (Cn := RX4) (n := 0) (ty := .int) hd (by rw [ho]; exact w_104) uin_4 tyX4_ok nmX4 rfl (by decide) rfl (by decide +kernel) rfl rfl (Nat.le_of_ble_eq_true rfl) (by omega) (ent_fix (by decide)) (by rw [ent_fix (by decide)]; unfold fixE; simp [up]) (fun m q => eC_10 q) k
theorem gf_X4_147 {t : Int32} (ho : ko K = RX4) (hd : decode (kc K) pc = .ok (.getfield 147, 3)) (ht : tok nt t) (k : V g K R Qf kb nb nt h C M o (pc + 3) lv (.int (C 15 t.toNatClampNeg) :: st)) : V g K R Qf kb nb nt h C M o pc lv (va_rf (trO g t) :: st) := by
  rw [tok_rf (h := h) ht]
  exact V_getf (ci := 3) (kf := 4) (T := TX3) (N := 15) (Cn := RX3) (n := (73 + 4 * t.toNatClampNeg)) hd (by rw [ho]; exact w_389) uin_3 rfl (by decide) (by have := ht.2; omega) ent_txO rfl k
theorem pf_X4_147 {t : Int32} {x : Int32} (ho : ko K = RX4) (hd : decode (kc K) pc = .ok (.putfield 147, 3)) (ht : tok nt t) (k : V g K R Qf kb nb nt h (up C 15 t.toNatClampNeg x) M o (pc + 3) lv st) : V g K R Qf kb nb nt h C M o pc lv (.int x :: va_rf (trO g t) :: st) := by
  rw [tok_rf (h := h) ht]
  exact V_putf (ci := 3) (kf := 4) (T := TX3) (N := 15) (Cn := RX3) (n := (73 + 4 * t.toNatClampNeg)) (ty := .int) hd (by rw [ho]; exact w_389) uin_3 tyX3_ok nmX3 rfl (by decide) rfl (by decide +kernel) rfl rfl (Nat.le_of_ble_eq_true rfl) (by have := ht.2; omega) ent_txO (by rw [ent_txO]; unfold txO; simp [up]) (fun m q => eC_15 q) k
theorem gf_X4_150 {t : Int32} (ho : ko K = RX4) (hd : decode (kc K) pc = .ok (.getfield 150, 3)) (ht : tok nt t) (k : V g K R Qf kb nb nt h C M o (pc + 3) lv (.int (C 12 t.toNatClampNeg) :: st)) : V g K R Qf kb nb nt h C M o pc lv (va_rf (trO g t) :: st) := by
  rw [tok_rf (h := h) ht]
  exact V_getf (ci := 3) (kf := 1) (T := TX3) (N := 15) (Cn := RX3) (n := (73 + 4 * t.toNatClampNeg)) hd (by rw [ho]; exact w_384) uin_3 rfl (by decide) (by have := ht.2; omega) ent_txO rfl k
theorem gf_X4_157 {t : Int32} (ho : ko K = RX4) (hd : decode (kc K) pc = .ok (.getfield 157, 3)) (ht : tok nt t) (k : V g K R Qf kb nb nt h C M o (pc + 3) lv (va_rf (trO g (C 19 t.toNatClampNeg)) :: st)) : V g K R Qf kb nb nt h C M o pc lv (va_rf (trO g t) :: st) := by
  rw [tok_rf (h := h) ht]
  exact V_getf (ci := 3) (kf := 8) (T := TX3) (N := 15) (Cn := RX3) (n := (73 + 4 * t.toNatClampNeg)) hd (by rw [ho]; exact w_398) uin_3 rfl (by decide) (by have := ht.2; omega) ent_txO rfl k
theorem pf_X4_157 {t : Int32} {x : Int32} (ho : ko K = RX4) (hd : decode (kc K) pc = .ok (.putfield 157, 3)) (ht : tok nt t) (k : V g K R Qf kb nb nt h (up C 19 t.toNatClampNeg x) M o (pc + 3) lv st) : V g K R Qf kb nb nt h C M o pc lv (va_rf (trO g x) :: va_rf (trO g t) :: st) := by
  rw [tok_rf (h := h) ht]
  exact V_putf (ci := 3) (kf := 8) (T := TX3) (N := 15) (Cn := RX3) (n := (73 + 4 * t.toNatClampNeg)) (ty := .object "Twinphase$Transaction") hd (by rw [ho]; exact w_398) uin_3 tyX3_ok nmX3 rfl (by decide) rfl (by decide +kernel) (by cases trO g x <;> rfl) (by cases trO g x <;> rfl) (Nat.le_of_ble_eq_true rfl) (by have := ht.2; omega) ent_txO (by rw [ent_txO]; unfold txO; simp [up]) (fun m q => eC_19 q) k
theorem gf_X4_160 {t : Int32} (ho : ko K = RX4) (hd : decode (kc K) pc = .ok (.getfield 160, 3)) (ht : tok nt t) (k : V g K R Qf kb nb nt h C M o (pc + 3) lv (.int (C 21 t.toNatClampNeg) :: st)) : V g K R Qf kb nb nt h C M o pc lv (va_rf (trO g t) :: st) := by
  rw [tok_rf (h := h) ht]
  exact V_getf (ci := 3) (kf := 10) (T := TX3) (N := 15) (Cn := RX3) (n := (73 + 4 * t.toNatClampNeg)) hd (by rw [ho]; exact w_402) uin_3 rfl (by decide) (by have := ht.2; omega) ent_txO rfl k
theorem pf_X4_160 {t : Int32} {x : Int32} (ho : ko K = RX4) (hd : decode (kc K) pc = .ok (.putfield 160, 3)) (ht : tok nt t) (k : V g K R Qf kb nb nt h (up C 21 t.toNatClampNeg x) M o (pc + 3) lv st) : V g K R Qf kb nb nt h C M o pc lv (.int x :: va_rf (trO g t) :: st) := by
  rw [tok_rf (h := h) ht]
  exact V_putf (ci := 3) (kf := 10) (T := TX3) (N := 15) (Cn := RX3) (n := (73 + 4 * t.toNatClampNeg)) (ty := .int) hd (by rw [ho]; exact w_402) uin_3 tyX3_ok nmX3 rfl (by decide) rfl (by decide +kernel) rfl rfl (Nat.le_of_ble_eq_true rfl) (by have := ht.2; omega) ent_txO (by rw [ent_txO]; unfold txO; simp [up]) (fun m q => eC_21 q) k
theorem gf_X4_163 {t : Int32} (ho : ko K = RX4) (hd : decode (kc K) pc = .ok (.getfield 163, 3)) (ht : tok nt t) (k : V g K R Qf kb nb nt h C M o (pc + 3) lv (.int (C 17 t.toNatClampNeg) :: st)) : V g K R Qf kb nb nt h C M o pc lv (va_rf (trO g t) :: st) := by
  rw [tok_rf (h := h) ht]
  exact V_getf (ci := 3) (kf := 6) (T := TX3) (N := 15) (Cn := RX3) (n := (73 + 4 * t.toNatClampNeg)) hd (by rw [ho]; exact w_394) uin_3 rfl (by decide) (by have := ht.2; omega) ent_txO rfl k
theorem pf_X4_163 {t : Int32} {x : Int32} (ho : ko K = RX4) (hd : decode (kc K) pc = .ok (.putfield 163, 3)) (ht : tok nt t) (k : V g K R Qf kb nb nt h (up C 17 t.toNatClampNeg x) M o (pc + 3) lv st) : V g K R Qf kb nb nt h C M o pc lv (.int x :: va_rf (trO g t) :: st) := by
  rw [tok_rf (h := h) ht]
  exact V_putf (ci := 3) (kf := 6) (T := TX3) (N := 15) (Cn := RX3) (n := (73 + 4 * t.toNatClampNeg)) (ty := .int) hd (by rw [ho]; exact w_394) uin_3 tyX3_ok nmX3 rfl (by decide) rfl (by decide +kernel) rfl rfl (Nat.le_of_ble_eq_true rfl) (by have := ht.2; omega) ent_txO (by rw [ent_txO]; unfold txO; simp [up]) (fun m q => eC_17 q) k
theorem gf_X4_172 {t : Int32} (ho : ko K = RX4) (hd : decode (kc K) pc = .ok (.getfield 172, 3)) (ht : tok nt t) (k : V g K R Qf kb nb nt h C M o (pc + 3) lv (.int (C 16 t.toNatClampNeg) :: st)) : V g K R Qf kb nb nt h C M o pc lv (va_rf (trO g t) :: st) := by
  rw [tok_rf (h := h) ht]
  exact V_getf (ci := 3) (kf := 5) (T := TX3) (N := 15) (Cn := RX3) (n := (73 + 4 * t.toNatClampNeg)) hd (by rw [ho]; exact w_391) uin_3 rfl (by decide) (by have := ht.2; omega) ent_txO rfl k
theorem pf_X4_172 {t : Int32} {x : Int32} (ho : ko K = RX4) (hd : decode (kc K) pc = .ok (.putfield 172, 3)) (ht : tok nt t) (k : V g K R Qf kb nb nt h (up C 16 t.toNatClampNeg x) M o (pc + 3) lv st) : V g K R Qf kb nb nt h C M o pc lv (.int x :: va_rf (trO g t) :: st) := by
  rw [tok_rf (h := h) ht]
  exact V_putf (ci := 3) (kf := 5) (T := TX3) (N := 15) (Cn := RX3) (n := (73 + 4 * t.toNatClampNeg)) (ty := .int) hd (by rw [ho]; exact w_391) uin_3 tyX3_ok nmX3 rfl (by decide) rfl (by decide +kernel) rfl rfl (Nat.le_of_ble_eq_true rfl) (by have := ht.2; omega) ent_txO (by rw [ent_txO]; unfold txO; simp [up]) (fun m q => eC_16 q) k
theorem gf_X4_189 {t : Int32} (ho : ko K = RX4) (hd : decode (kc K) pc = .ok (.getfield 189, 3)) (ht : tok nt t) (k : V g K R Qf kb nb nt h C M o (pc + 3) lv (.int (C 18 t.toNatClampNeg) :: st)) : V g K R Qf kb nb nt h C M o pc lv (va_rf (trO g t) :: st) := by
  rw [tok_rf (h := h) ht]
  exact V_getf (ci := 3) (kf := 7) (T := TX3) (N := 15) (Cn := RX3) (n := (73 + 4 * t.toNatClampNeg)) hd (by rw [ho]; exact w_396) uin_3 rfl (by decide) (by have := ht.2; omega) ent_txO rfl k
theorem pf_X4_189 {t : Int32} {x : Int32} (ho : ko K = RX4) (hd : decode (kc K) pc = .ok (.putfield 189, 3)) (ht : tok nt t) (k : V g K R Qf kb nb nt h (up C 18 t.toNatClampNeg x) M o (pc + 3) lv st) : V g K R Qf kb nb nt h C M o pc lv (.int x :: va_rf (trO g t) :: st) := by
  rw [tok_rf (h := h) ht]
  exact V_putf (ci := 3) (kf := 7) (T := TX3) (N := 15) (Cn := RX3) (n := (73 + 4 * t.toNatClampNeg)) (ty := .int) hd (by rw [ho]; exact w_396) uin_3 tyX3_ok nmX3 rfl (by decide) rfl (by decide +kernel) rfl rfl (Nat.le_of_ble_eq_true rfl) (by have := ht.2; omega) ent_txO (by rw [ent_txO]; unfold txO; simp [up]) (fun m q => eC_18 q) k
theorem gf_X4_199 {t : Int32} (ho : ko K = RX4) (hd : decode (kc K) pc = .ok (.getfield 199, 3)) (ht : tok nt t) (k : V g K R Qf kb nb nt h C M o (pc + 3) lv (.int (C 11 t.toNatClampNeg) :: st)) : V g K R Qf kb nb nt h C M o pc lv (va_rf (trO g t) :: st) := by
  rw [tok_rf (h := h) ht]
  exact V_getf (ci := 3) (kf := 0) (T := TX3) (N := 15) (Cn := RX3) (n := (73 + 4 * t.toNatClampNeg)) hd (by rw [ho]; exact w_382) uin_3 rfl (by decide) (by have := ht.2; omega) ent_txO rfl k
theorem gf_X4_202 {t : Int32} (ho : ko K = RX4) (hd : decode (kc K) pc = .ok (.getfield 202, 3)) (ht : tok nt t) (k : V g K R Qf kb nb nt h C M o (pc + 3) lv (.int (C 20 t.toNatClampNeg) :: st)) : V g K R Qf kb nb nt h C M o pc lv (va_rf (trO g t) :: st) := by
  rw [tok_rf (h := h) ht]
  exact V_getf (ci := 3) (kf := 9) (T := TX3) (N := 15) (Cn := RX3) (n := (73 + 4 * t.toNatClampNeg)) hd (by rw [ho]; exact w_400) uin_3 rfl (by decide) (by have := ht.2; omega) ent_txO rfl k
theorem pf_X4_202 {t : Int32} {x : Int32} (ho : ko K = RX4) (hd : decode (kc K) pc = .ok (.putfield 202, 3)) (ht : tok nt t) (k : V g K R Qf kb nb nt h (up C 20 t.toNatClampNeg x) M o (pc + 3) lv st) : V g K R Qf kb nb nt h C M o pc lv (.int x :: va_rf (trO g t) :: st) := by
  rw [tok_rf (h := h) ht]
  exact V_putf (ci := 3) (kf := 9) (T := TX3) (N := 15) (Cn := RX3) (n := (73 + 4 * t.toNatClampNeg)) (ty := .int) hd (by rw [ho]; exact w_400) uin_3 tyX3_ok nmX3 rfl (by decide) rfl (by decide +kernel) rfl rfl (Nat.le_of_ble_eq_true rfl) (by have := ht.2; omega) ent_txO (by rw [ent_txO]; unfold txO; simp [up]) (fun m q => eC_20 q) k
theorem gf_X4_217 {i : Nat} (ho : ko K = RX4) (hd : decode (kc K) pc = .ok (.getfield 217, 3)) (hi : i < 32) (k : V g K R Qf kb nb nt h C M o (pc + 3) lv (.int (C 8 i) :: st)) : V g K R Qf kb nb nt h C M o pc lv (.ref (ad g (41 + i)) :: st) := by
  rw [← hp_ad (g := g) (h := h) (n := 41 + i) (by omega) (by omega)]
  exact V_getf (ci := 0) (kf := 4) (T := TX0) (N := 6) (Cn := RX0) (n := (41 + i)) hd (by rw [ho]; exact w_84) uin_0 rfl (by decide) (by omega) (ent_cell hi) rfl k
theorem pf_X4_217 {i : Nat} {x : Int32} (ho : ko K = RX4) (hd : decode (kc K) pc = .ok (.putfield 217, 3)) (hi : i < 32) (k : V g K R Qf kb nb nt h (up C 8 i x) M o (pc + 3) lv st) : V g K R Qf kb nb nt h C M o pc lv (.int x :: .ref (ad g (41 + i)) :: st) := by
  rw [← hp_ad (g := g) (h := h) (n := 41 + i) (by omega) (by omega)]
  exact V_putf (ci := 0) (kf := 4) (T := TX0) (N := 6) (Cn := RX0) (n := (41 + i)) (ty := .int) hd (by rw [ho]; exact w_84) uin_0 tyX0_ok nmX0 rfl (by decide) rfl (by decide +kernel) rfl rfl (Nat.le_of_ble_eq_true rfl) (by omega) (ent_cell hi) (by rw [ent_cell hi]; unfold cellE; simp [up]) (fun m q => eC_8 q) k
theorem gf_X4_218 {i : Nat} (ho : ko K = RX4) (hd : decode (kc K) pc = .ok (.getfield 218, 3)) (hi : i < 32) (k : V g K R Qf kb nb nt h C M o (pc + 3) lv (.int (C 9 i) :: st)) : V g K R Qf kb nb nt h C M o pc lv (.ref (ad g (41 + i)) :: st) := by
  rw [← hp_ad (g := g) (h := h) (n := 41 + i) (by omega) (by omega)]
  exact V_getf (ci := 0) (kf := 5) (T := TX0) (N := 6) (Cn := RX0) (n := (41 + i)) hd (by rw [ho]; exact w_86) uin_0 rfl (by decide) (by omega) (ent_cell hi) rfl k
theorem pf_X4_218 {i : Nat} {x : Int32} (ho : ko K = RX4) (hd : decode (kc K) pc = .ok (.putfield 218, 3)) (hi : i < 32) (k : V g K R Qf kb nb nt h (up C 9 i x) M o (pc + 3) lv st) : V g K R Qf kb nb nt h C M o pc lv (.int x :: .ref (ad g (41 + i)) :: st) := by
  rw [← hp_ad (g := g) (h := h) (n := 41 + i) (by omega) (by omega)]
  exact V_putf (ci := 0) (kf := 5) (T := TX0) (N := 6) (Cn := RX0) (n := (41 + i)) (ty := .int) hd (by rw [ho]; exact w_86) uin_0 tyX0_ok nmX0 rfl (by decide) rfl (by decide +kernel) rfl rfl (Nat.le_of_ble_eq_true rfl) (by omega) (ent_cell hi) (by rw [ent_cell hi]; unfold cellE; simp [up]) (fun m q => eC_9 q) k
theorem gf_X4_277 {t : Int32} (ho : ko K = RX4) (hd : decode (kc K) pc = .ok (.getfield 277, 3)) (ht : tok nt t) (k : V g K R Qf kb nb nt h C M o (pc + 3) lv (.ref (ad g (73 + 4 * t.toNatClampNeg + 2)) :: st)) : V g K R Qf kb nb nt h C M o pc lv (va_rf (trO g t) :: st) := by
  rw [tok_rf (h := h) ht]
  exact V_getf (ci := 3) (kf := 13) (T := TX3) (N := 15) (Cn := RX3) (n := (73 + 4 * t.toNatClampNeg)) hd (by rw [ho]; exact w_408) uin_3 rfl (by decide) (by have := ht.2; omega) ent_txO rfl k
theorem gf_X4_285 {t : Int32} (ho : ko K = RX4) (hd : decode (kc K) pc = .ok (.getfield 285, 3)) (ht : tok nt t) (k : V g K R Qf kb nb nt h C M o (pc + 3) lv (.ref (ad g (73 + 4 * t.toNatClampNeg + 3)) :: st)) : V g K R Qf kb nb nt h C M o pc lv (va_rf (trO g t) :: st) := by
  rw [tok_rf (h := h) ht]
  exact V_getf (ci := 3) (kf := 14) (T := TX3) (N := 15) (Cn := RX3) (n := (73 + 4 * t.toNatClampNeg)) hd (by rw [ho]; exact w_410) uin_3 rfl (by decide) (by have := ht.2; omega) ent_txO rfl k
theorem gf_X4_288 {t : Int32} (ho : ko K = RX4) (hd : decode (kc K) pc = .ok (.getfield 288, 3)) (ht : tok nt t) (k : V g K R Qf kb nb nt h C M o (pc + 3) lv (.int (C 13 t.toNatClampNeg) :: st)) : V g K R Qf kb nb nt h C M o pc lv (va_rf (trO g t) :: st) := by
  rw [tok_rf (h := h) ht]
  exact V_getf (ci := 3) (kf := 2) (T := TX3) (N := 15) (Cn := RX3) (n := (73 + 4 * t.toNatClampNeg)) hd (by rw [ho]; exact w_386) uin_3 rfl (by decide) (by have := ht.2; omega) ent_txO rfl k
theorem gf_X0_9 {i : Nat} (ho : ko K = RX0) (hd : decode (kc K) pc = .ok (.getfield 9, 3)) (hi : i < 32) (k : V g K R Qf kb nb nt h C M o (pc + 3) lv (.int (C 9 i) :: st)) : V g K R Qf kb nb nt h C M o pc lv (.ref (ad g (41 + i)) :: st) := by
  rw [← hp_ad (g := g) (h := h) (n := 41 + i) (by omega) (by omega)]
  exact V_getf (ci := 0) (kf := 5) (T := TX0) (N := 6) (Cn := RX0) (n := (41 + i)) hd (by rw [ho]; exact w_85) uin_0 rfl (by decide) (by omega) (ent_cell hi) rfl k
theorem pf_X0_9 {i : Nat} {x : Int32} (ho : ko K = RX0) (hd : decode (kc K) pc = .ok (.putfield 9, 3)) (hi : i < 32) (k : V g K R Qf kb nb nt h (up C 9 i x) M o (pc + 3) lv st) : V g K R Qf kb nb nt h C M o pc lv (.int x :: .ref (ad g (41 + i)) :: st) := by
  rw [← hp_ad (g := g) (h := h) (n := 41 + i) (by omega) (by omega)]
  exact V_putf (ci := 0) (kf := 5) (T := TX0) (N := 6) (Cn := RX0) (n := (41 + i)) (ty := .int) hd (by rw [ho]; exact w_85) uin_0 tyX0_ok nmX0 rfl (by decide) rfl (by decide +kernel) rfl rfl (Nat.le_of_ble_eq_true rfl) (by omega) (ent_cell hi) (by rw [ent_cell hi]; unfold cellE; simp [up]) (fun m q => eC_9 q) k
theorem gf_X0_15 {i : Nat} (ho : ko K = RX0) (hd : decode (kc K) pc = .ok (.getfield 15, 3)) (hi : i < 32) (k : V g K R Qf kb nb nt h C M o (pc + 3) lv (.int (C 8 i) :: st)) : V g K R Qf kb nb nt h C M o pc lv (.ref (ad g (41 + i)) :: st) := by
  rw [← hp_ad (g := g) (h := h) (n := 41 + i) (by omega) (by omega)]
  exact V_getf (ci := 0) (kf := 4) (T := TX0) (N := 6) (Cn := RX0) (n := (41 + i)) hd (by rw [ho]; exact w_83) uin_0 rfl (by decide) (by omega) (ent_cell hi) rfl k
theorem pf_X0_15 {i : Nat} {x : Int32} (ho : ko K = RX0) (hd : decode (kc K) pc = .ok (.putfield 15, 3)) (hi : i < 32) (k : V g K R Qf kb nb nt h (up C 8 i x) M o (pc + 3) lv st) : V g K R Qf kb nb nt h C M o pc lv (.int x :: .ref (ad g (41 + i)) :: st) := by
  rw [← hp_ad (g := g) (h := h) (n := 41 + i) (by omega) (by omega)]
  exact V_putf (ci := 0) (kf := 4) (T := TX0) (N := 6) (Cn := RX0) (n := (41 + i)) (ty := .int) hd (by rw [ho]; exact w_83) uin_0 tyX0_ok nmX0 rfl (by decide) rfl (by decide +kernel) rfl rfl (Nat.le_of_ble_eq_true rfl) (by omega) (ent_cell hi) (by rw [ent_cell hi]; unfold cellE; simp [up]) (fun m q => eC_8 q) k
theorem gf_X1_9 (ho : ko K = RX1) (hd : decode (kc K) pc = .ok (.getfield 9, 3)) (k : V g K R Qf kb nb nt h C M o (pc + 3) lv (.ref h.1 :: st)) : V g K R Qf kb nb nt h C M o pc lv (.ref (ad g 4) :: st) := by
  rw [← hp_ad (g := g) (h := h) (n := 4) (by decide) (by decide)]
  exact V_getf (ci := 1) (kf := 0) (T := TX1) (N := 6) (Cn := RX1) (n := 4) hd (by rw [ho]; exact w_38) uin_1 rfl (by decide) (by omega) (ent_fix (by decide)) rfl k
theorem gf_X1_15 (ho : ko K = RX1) (hd : decode (kc K) pc = .ok (.getfield 15, 3)) (k : V g K R Qf kb nb nt h C M o (pc + 3) lv (.ref h.2 :: st)) : V g K R Qf kb nb nt h C M o pc lv (.ref (ad g 4) :: st) := by
  rw [← hp_ad (g := g) (h := h) (n := 4) (by decide) (by decide)]
  exact V_getf (ci := 1) (kf := 1) (T := TX1) (N := 6) (Cn := RX1) (n := 4) hd (by rw [ho]; exact w_39) uin_1 rfl (by decide) (by omega) (ent_fix (by decide)) rfl k
theorem gf_X1_20 (ho : ko K = RX1) (hd : decode (kc K) pc = .ok (.getfield 20, 3)) (k : V g K R Qf kb nb nt h C M o (pc + 3) lv (.ref (ad g 7) :: st)) : V g K R Qf kb nb nt h C M o pc lv (.ref (ad g 4) :: st) := by
  rw [← hp_ad (g := g) (h := h) (n := 4) (by decide) (by decide)]
  exact V_getf (ci := 1) (kf := 3) (T := TX1) (N := 6) (Cn := RX1) (n := 4) hd (by rw [ho]; exact w_41) uin_1 rfl (by decide) (by omega) (ent_fix (by decide)) rfl k
theorem gf_X1_24 (ho : ko K = RX1) (hd : decode (kc K) pc = .ok (.getfield 24, 3)) (k : V g K R Qf kb nb nt h C M o (pc + 3) lv (.ref (ad g 8) :: st)) : V g K R Qf kb nb nt h C M o pc lv (.ref (ad g 4) :: st) := by
  rw [← hp_ad (g := g) (h := h) (n := 4) (by decide) (by decide)]
  exact V_getf (ci := 1) (kf := 5) (T := TX1) (N := 6) (Cn := RX1) (n := 4) hd (by rw [ho]; exact w_43) uin_1 rfl (by decide) (by omega) (ent_fix (by decide)) rfl k
theorem gf_X1_27 (ho : ko K = RX1) (hd : decode (kc K) pc = .ok (.getfield 27, 3)) (k : V g K R Qf kb nb nt h C M o (pc + 3) lv (.int (C 26 0) :: st)) : V g K R Qf kb nb nt h C M o pc lv (.ref (ad g 4) :: st) := by
  rw [← hp_ad (g := g) (h := h) (n := 4) (by decide) (by decide)]
  exact V_getf (ci := 1) (kf := 2) (T := TX1) (N := 6) (Cn := RX1) (n := 4) hd (by rw [ho]; exact w_40) uin_1 rfl (by decide) (by omega) (ent_fix (by decide)) rfl k
theorem pf_X1_27 {x : Int32} (ho : ko K = RX1) (hd : decode (kc K) pc = .ok (.putfield 27, 3)) (k : V g K R Qf kb nb nt h (up C 26 0 x) M o (pc + 3) lv st) : V g K R Qf kb nb nt h C M o pc lv (.int x :: .ref (ad g 4) :: st) := by
  rw [← hp_ad (g := g) (h := h) (n := 4) (by decide) (by decide)]
  exact V_putf (ci := 1) (kf := 2) (T := TX1) (N := 6) (Cn := RX1) (n := 4) (ty := .int) hd (by rw [ho]; exact w_40) uin_1 tyX1_ok nmX1 rfl (by decide) rfl (by decide +kernel) rfl rfl (Nat.le_of_ble_eq_true rfl) (by omega) (ent_fix (by decide)) (by rw [ent_fix (by decide)]; unfold fixE; simp [up]) (fun m q => eC_26 q) k
theorem gf_X1_41 (ho : ko K = RX1) (hd : decode (kc K) pc = .ok (.getfield 41, 3)) (k : V g K R Qf kb nb nt h C M o (pc + 3) lv (.int (C 31 0) :: st)) : V g K R Qf kb nb nt h C M o pc lv (.ref (ad g 4) :: st) := by
  rw [← hp_ad (g := g) (h := h) (n := 4) (by decide) (by decide)]
  exact V_getf (ci := 1) (kf := 4) (T := TX1) (N := 6) (Cn := RX1) (n := 4) hd (by rw [ho]; exact w_42) uin_1 rfl (by decide) (by omega) (ent_fix (by decide)) rfl k
theorem pf_X1_41 {x : Int32} (ho : ko K = RX1) (hd : decode (kc K) pc = .ok (.putfield 41, 3)) (k : V g K R Qf kb nb nt h (up C 31 0 x) M o (pc + 3) lv st) : V g K R Qf kb nb nt h C M o pc lv (.int x :: .ref (ad g 4) :: st) := by
  rw [← hp_ad (g := g) (h := h) (n := 4) (by decide) (by decide)]
  exact V_putf (ci := 1) (kf := 4) (T := TX1) (N := 6) (Cn := RX1) (n := 4) (ty := .int) hd (by rw [ho]; exact w_42) uin_1 tyX1_ok nmX1 rfl (by decide) rfl (by decide +kernel) rfl rfl (Nat.le_of_ble_eq_true rfl) (by omega) (ent_fix (by decide)) (by rw [ent_fix (by decide)]; unfold fixE; simp [up]) (fun m q => eC_31 q) k
theorem gf_X1_44 {t : Int32} (ho : ko K = RX1) (hd : decode (kc K) pc = .ok (.getfield 44, 3)) (ht : tok nt t) (k : V g K R Qf kb nb nt h C M o (pc + 3) lv (.int (C 17 t.toNatClampNeg) :: st)) : V g K R Qf kb nb nt h C M o pc lv (va_rf (trO g t) :: st) := by
  rw [tok_rf (h := h) ht]
  exact V_getf (ci := 3) (kf := 6) (T := TX3) (N := 15) (Cn := RX3) (n := (73 + 4 * t.toNatClampNeg)) hd (by rw [ho]; exact w_393) uin_3 rfl (by decide) (by have := ht.2; omega) ent_txO rfl k
theorem pf_X1_44 {t : Int32} {x : Int32} (ho : ko K = RX1) (hd : decode (kc K) pc = .ok (.putfield 44, 3)) (ht : tok nt t) (k : V g K R Qf kb nb nt h (up C 17 t.toNatClampNeg x) M o (pc + 3) lv st) : V g K R Qf kb nb nt h C M o pc lv (.int x :: va_rf (trO g t) :: st) := by
  rw [tok_rf (h := h) ht]
  exact V_putf (ci := 3) (kf := 6) (T := TX3) (N := 15) (Cn := RX3) (n := (73 + 4 * t.toNatClampNeg)) (ty := .int) hd (by rw [ho]; exact w_393) uin_3 tyX3_ok nmX3 rfl (by decide) rfl (by decide +kernel) rfl rfl (Nat.le_of_ble_eq_true rfl) (by have := ht.2; omega) ent_txO (by rw [ent_txO]; unfold txO; simp [up]) (fun m q => eC_17 q) k
theorem gf_X1_59 {t : Int32} (ho : ko K = RX1) (hd : decode (kc K) pc = .ok (.getfield 59, 3)) (ht : tok nt t) (k : V g K R Qf kb nb nt h C M o (pc + 3) lv (.ref (ad g (73 + 4 * t.toNatClampNeg + 1)) :: st)) : V g K R Qf kb nb nt h C M o pc lv (va_rf (trO g t) :: st) := by
  rw [tok_rf (h := h) ht]
  exact V_getf (ci := 3) (kf := 12) (T := TX3) (N := 15) (Cn := RX3) (n := (73 + 4 * t.toNatClampNeg)) hd (by rw [ho]; exact w_405) uin_3 rfl (by decide) (by have := ht.2; omega) ent_txO rfl k
theorem gf_X1_65 {t : Int32} (ho : ko K = RX1) (hd : decode (kc K) pc = .ok (.getfield 65, 3)) (ht : tok nt t) (k : V g K R Qf kb nb nt h C M o (pc + 3) lv (.ref (ad g (73 + 4 * t.toNatClampNeg + 2)) :: st)) : V g K R Qf kb nb nt h C M o pc lv (va_rf (trO g t) :: st) := by
  rw [tok_rf (h := h) ht]
  exact V_getf (ci := 3) (kf := 13) (T := TX3) (N := 15) (Cn := RX3) (n := (73 + 4 * t.toNatClampNeg)) hd (by rw [ho]; exact w_407) uin_3 rfl (by decide) (by have := ht.2; omega) ent_txO rfl k
theorem gf_X2_9 {i : Nat} (ho : ko K = RX2) (hd : decode (kc K) pc = .ok (.getfield 9, 3)) (hi : i < 4) (k : V g K R Qf kb nb nt h C M o (pc + 3) lv (.int (C 1 i) :: st)) : V g K R Qf kb nb nt h C M o pc lv (.ref (ad g (37 + i)) :: st) := by
  rw [← hp_ad (g := g) (h := h) (n := 37 + i) (by omega) (by omega)]
  exact V_getf (ci := 2) (kf := 0) (T := TX2) (N := 3) (Cn := RX2) (n := (37 + i)) hd (by rw [ho]; exact w_63) uin_2 rfl (by decide) (by omega) (ent_node hi) rfl k
theorem pf_X2_9 {i : Nat} {x : Int32} (ho : ko K = RX2) (hd : decode (kc K) pc = .ok (.putfield 9, 3)) (hi : i < 4) (k : V g K R Qf kb nb nt h (up C 1 i x) M o (pc + 3) lv st) : V g K R Qf kb nb nt h C M o pc lv (.int x :: .ref (ad g (37 + i)) :: st) := by
  rw [← hp_ad (g := g) (h := h) (n := 37 + i) (by omega) (by omega)]
  exact V_putf (ci := 2) (kf := 0) (T := TX2) (N := 3) (Cn := RX2) (n := (37 + i)) (ty := .int) hd (by rw [ho]; exact w_63) uin_2 tyX2_ok nmX2 rfl (by decide) rfl (by decide +kernel) rfl rfl (Nat.le_of_ble_eq_true rfl) (by omega) (ent_node hi) (by rw [ent_node hi]; unfold nodeE; simp [up]) (fun m q => eC_1 q) k
theorem gf_X2_15 {i : Nat} (ho : ko K = RX2) (hd : decode (kc K) pc = .ok (.getfield 15, 3)) (hi : i < 4) (k : V g K R Qf kb nb nt h C M o (pc + 3) lv (.int (C 2 i) :: st)) : V g K R Qf kb nb nt h C M o pc lv (.ref (ad g (37 + i)) :: st) := by
  rw [← hp_ad (g := g) (h := h) (n := 37 + i) (by omega) (by omega)]
  exact V_getf (ci := 2) (kf := 1) (T := TX2) (N := 3) (Cn := RX2) (n := (37 + i)) hd (by rw [ho]; exact w_65) uin_2 rfl (by decide) (by omega) (ent_node hi) rfl k
theorem pf_X2_15 {i : Nat} {x : Int32} (ho : ko K = RX2) (hd : decode (kc K) pc = .ok (.putfield 15, 3)) (hi : i < 4) (k : V g K R Qf kb nb nt h (up C 2 i x) M o (pc + 3) lv st) : V g K R Qf kb nb nt h C M o pc lv (.int x :: .ref (ad g (37 + i)) :: st) := by
  rw [← hp_ad (g := g) (h := h) (n := 37 + i) (by omega) (by omega)]
  exact V_putf (ci := 2) (kf := 1) (T := TX2) (N := 3) (Cn := RX2) (n := (37 + i)) (ty := .int) hd (by rw [ho]; exact w_65) uin_2 tyX2_ok nmX2 rfl (by decide) rfl (by decide +kernel) rfl rfl (Nat.le_of_ble_eq_true rfl) (by omega) (ent_node hi) (by rw [ent_node hi]; unfold nodeE; simp [up]) (fun m q => eC_2 q) k
theorem gf_X3_9 {t : Int32} (ho : ko K = RX3) (hd : decode (kc K) pc = .ok (.getfield 9, 3)) (ht : tok nt t) (k : V g K R Qf kb nb nt h C M o (pc + 3) lv (.int (C 15 t.toNatClampNeg) :: st)) : V g K R Qf kb nb nt h C M o pc lv (va_rf (trO g t) :: st) := by
  rw [tok_rf (h := h) ht]
  exact V_getf (ci := 3) (kf := 4) (T := TX3) (N := 15) (Cn := RX3) (n := (73 + 4 * t.toNatClampNeg)) hd (by rw [ho]; exact w_388) uin_3 rfl (by decide) (by have := ht.2; omega) ent_txO rfl k
theorem pf_X3_9 {t : Int32} {x : Int32} (ho : ko K = RX3) (hd : decode (kc K) pc = .ok (.putfield 9, 3)) (ht : tok nt t) (k : V g K R Qf kb nb nt h (up C 15 t.toNatClampNeg x) M o (pc + 3) lv st) : V g K R Qf kb nb nt h C M o pc lv (.int x :: va_rf (trO g t) :: st) := by
  rw [tok_rf (h := h) ht]
  exact V_putf (ci := 3) (kf := 4) (T := TX3) (N := 15) (Cn := RX3) (n := (73 + 4 * t.toNatClampNeg)) (ty := .int) hd (by rw [ho]; exact w_388) uin_3 tyX3_ok nmX3 rfl (by decide) rfl (by decide +kernel) rfl rfl (Nat.le_of_ble_eq_true rfl) (by have := ht.2; omega) ent_txO (by rw [ent_txO]; unfold txO; simp [up]) (fun m q => eC_15 q) k
theorem gf_X3_15 {t : Int32} (ho : ko K = RX3) (hd : decode (kc K) pc = .ok (.getfield 15, 3)) (ht : tok nt t) (k : V g K R Qf kb nb nt h C M o (pc + 3) lv (.ref (ad g (73 + 4 * t.toNatClampNeg + 1)) :: st)) : V g K R Qf kb nb nt h C M o pc lv (va_rf (trO g t) :: st) := by
  rw [tok_rf (h := h) ht]
  exact V_getf (ci := 3) (kf := 12) (T := TX3) (N := 15) (Cn := RX3) (n := (73 + 4 * t.toNatClampNeg)) hd (by rw [ho]; exact w_404) uin_3 rfl (by decide) (by have := ht.2; omega) ent_txO rfl k
theorem gf_X3_19 {t : Int32} (ho : ko K = RX3) (hd : decode (kc K) pc = .ok (.getfield 19, 3)) (ht : tok nt t) (k : V g K R Qf kb nb nt h C M o (pc + 3) lv (.ref (ad g (73 + 4 * t.toNatClampNeg + 2)) :: st)) : V g K R Qf kb nb nt h C M o pc lv (va_rf (trO g t) :: st) := by
  rw [tok_rf (h := h) ht]
  exact V_getf (ci := 3) (kf := 13) (T := TX3) (N := 15) (Cn := RX3) (n := (73 + 4 * t.toNatClampNeg)) hd (by rw [ho]; exact w_406) uin_3 rfl (by decide) (by have := ht.2; omega) ent_txO rfl k
theorem gf_X3_22 {t : Int32} (ho : ko K = RX3) (hd : decode (kc K) pc = .ok (.getfield 22, 3)) (ht : tok nt t) (k : V g K R Qf kb nb nt h C M o (pc + 3) lv (.ref (ad g (73 + 4 * t.toNatClampNeg + 3)) :: st)) : V g K R Qf kb nb nt h C M o pc lv (va_rf (trO g t) :: st) := by
  rw [tok_rf (h := h) ht]
  exact V_getf (ci := 3) (kf := 14) (T := TX3) (N := 15) (Cn := RX3) (n := (73 + 4 * t.toNatClampNeg)) hd (by rw [ho]; exact w_409) uin_3 rfl (by decide) (by have := ht.2; omega) ent_txO rfl k
theorem gf_X3_25 {t : Int32} (ho : ko K = RX3) (hd : decode (kc K) pc = .ok (.getfield 25, 3)) (ht : tok nt t) (k : V g K R Qf kb nb nt h C M o (pc + 3) lv (.int (C 11 t.toNatClampNeg) :: st)) : V g K R Qf kb nb nt h C M o pc lv (va_rf (trO g t) :: st) := by
  rw [tok_rf (h := h) ht]
  exact V_getf (ci := 3) (kf := 0) (T := TX3) (N := 15) (Cn := RX3) (n := (73 + 4 * t.toNatClampNeg)) hd (by rw [ho]; exact w_381) uin_3 rfl (by decide) (by have := ht.2; omega) ent_txO rfl k
theorem gf_X3_28 {t : Int32} (ho : ko K = RX3) (hd : decode (kc K) pc = .ok (.getfield 28, 3)) (ht : tok nt t) (k : V g K R Qf kb nb nt h C M o (pc + 3) lv (.int (C 12 t.toNatClampNeg) :: st)) : V g K R Qf kb nb nt h C M o pc lv (va_rf (trO g t) :: st) := by
  rw [tok_rf (h := h) ht]
  exact V_getf (ci := 3) (kf := 1) (T := TX3) (N := 15) (Cn := RX3) (n := (73 + 4 * t.toNatClampNeg)) hd (by rw [ho]; exact w_383) uin_3 rfl (by decide) (by have := ht.2; omega) ent_txO rfl k
theorem gf_X3_31 {t : Int32} (ho : ko K = RX3) (hd : decode (kc K) pc = .ok (.getfield 31, 3)) (ht : tok nt t) (k : V g K R Qf kb nb nt h C M o (pc + 3) lv (.int (C 13 t.toNatClampNeg) :: st)) : V g K R Qf kb nb nt h C M o pc lv (va_rf (trO g t) :: st) := by
  rw [tok_rf (h := h) ht]
  exact V_getf (ci := 3) (kf := 2) (T := TX3) (N := 15) (Cn := RX3) (n := (73 + 4 * t.toNatClampNeg)) hd (by rw [ho]; exact w_385) uin_3 rfl (by decide) (by have := ht.2; omega) ent_txO rfl k
theorem gf_X3_34 {t : Int32} (ho : ko K = RX3) (hd : decode (kc K) pc = .ok (.getfield 34, 3)) (ht : tok nt t) (k : V g K R Qf kb nb nt h C M o (pc + 3) lv (.int (C 14 t.toNatClampNeg) :: st)) : V g K R Qf kb nb nt h C M o pc lv (va_rf (trO g t) :: st) := by
  rw [tok_rf (h := h) ht]
  exact V_getf (ci := 3) (kf := 3) (T := TX3) (N := 15) (Cn := RX3) (n := (73 + 4 * t.toNatClampNeg)) hd (by rw [ho]; exact w_387) uin_3 rfl (by decide) (by have := ht.2; omega) ent_txO rfl k
theorem gf_X3_37 {t : Int32} (ho : ko K = RX3) (hd : decode (kc K) pc = .ok (.getfield 37, 3)) (ht : tok nt t) (k : V g K R Qf kb nb nt h C M o (pc + 3) lv (.int (C 16 t.toNatClampNeg) :: st)) : V g K R Qf kb nb nt h C M o pc lv (va_rf (trO g t) :: st) := by
  rw [tok_rf (h := h) ht]
  exact V_getf (ci := 3) (kf := 5) (T := TX3) (N := 15) (Cn := RX3) (n := (73 + 4 * t.toNatClampNeg)) hd (by rw [ho]; exact w_390) uin_3 rfl (by decide) (by have := ht.2; omega) ent_txO rfl k
theorem pf_X3_37 {t : Int32} {x : Int32} (ho : ko K = RX3) (hd : decode (kc K) pc = .ok (.putfield 37, 3)) (ht : tok nt t) (k : V g K R Qf kb nb nt h (up C 16 t.toNatClampNeg x) M o (pc + 3) lv st) : V g K R Qf kb nb nt h C M o pc lv (.int x :: va_rf (trO g t) :: st) := by
  rw [tok_rf (h := h) ht]
  exact V_putf (ci := 3) (kf := 5) (T := TX3) (N := 15) (Cn := RX3) (n := (73 + 4 * t.toNatClampNeg)) (ty := .int) hd (by rw [ho]; exact w_390) uin_3 tyX3_ok nmX3 rfl (by decide) rfl (by decide +kernel) rfl rfl (Nat.le_of_ble_eq_true rfl) (by have := ht.2; omega) ent_txO (by rw [ent_txO]; unfold txO; simp [up]) (fun m q => eC_16 q) k
theorem gf_X3_40 {t : Int32} (ho : ko K = RX3) (hd : decode (kc K) pc = .ok (.getfield 40, 3)) (ht : tok nt t) (k : V g K R Qf kb nb nt h C M o (pc + 3) lv (.int (C 17 t.toNatClampNeg) :: st)) : V g K R Qf kb nb nt h C M o pc lv (va_rf (trO g t) :: st) := by
  rw [tok_rf (h := h) ht]
  exact V_getf (ci := 3) (kf := 6) (T := TX3) (N := 15) (Cn := RX3) (n := (73 + 4 * t.toNatClampNeg)) hd (by rw [ho]; exact w_392) uin_3 rfl (by decide) (by have := ht.2; omega) ent_txO rfl k
theorem pf_X3_40 {t : Int32} {x : Int32} (ho : ko K = RX3) (hd : decode (kc K) pc = .ok (.putfield 40, 3)) (ht : tok nt t) (k : V g K R Qf kb nb nt h (up C 17 t.toNatClampNeg x) M o (pc + 3) lv st) : V g K R Qf kb nb nt h C M o pc lv (.int x :: va_rf (trO g t) :: st) := by
  rw [tok_rf (h := h) ht]
  exact V_putf (ci := 3) (kf := 6) (T := TX3) (N := 15) (Cn := RX3) (n := (73 + 4 * t.toNatClampNeg)) (ty := .int) hd (by rw [ho]; exact w_392) uin_3 tyX3_ok nmX3 rfl (by decide) rfl (by decide +kernel) rfl rfl (Nat.le_of_ble_eq_true rfl) (by have := ht.2; omega) ent_txO (by rw [ent_txO]; unfold txO; simp [up]) (fun m q => eC_17 q) k
theorem gf_X3_43 {t : Int32} (ho : ko K = RX3) (hd : decode (kc K) pc = .ok (.getfield 43, 3)) (ht : tok nt t) (k : V g K R Qf kb nb nt h C M o (pc + 3) lv (.int (C 18 t.toNatClampNeg) :: st)) : V g K R Qf kb nb nt h C M o pc lv (va_rf (trO g t) :: st) := by
  rw [tok_rf (h := h) ht]
  exact V_getf (ci := 3) (kf := 7) (T := TX3) (N := 15) (Cn := RX3) (n := (73 + 4 * t.toNatClampNeg)) hd (by rw [ho]; exact w_395) uin_3 rfl (by decide) (by have := ht.2; omega) ent_txO rfl k
theorem pf_X3_43 {t : Int32} {x : Int32} (ho : ko K = RX3) (hd : decode (kc K) pc = .ok (.putfield 43, 3)) (ht : tok nt t) (k : V g K R Qf kb nb nt h (up C 18 t.toNatClampNeg x) M o (pc + 3) lv st) : V g K R Qf kb nb nt h C M o pc lv (.int x :: va_rf (trO g t) :: st) := by
  rw [tok_rf (h := h) ht]
  exact V_putf (ci := 3) (kf := 7) (T := TX3) (N := 15) (Cn := RX3) (n := (73 + 4 * t.toNatClampNeg)) (ty := .int) hd (by rw [ho]; exact w_395) uin_3 tyX3_ok nmX3 rfl (by decide) rfl (by decide +kernel) rfl rfl (Nat.le_of_ble_eq_true rfl) (by have := ht.2; omega) ent_txO (by rw [ent_txO]; unfold txO; simp [up]) (fun m q => eC_18 q) k
theorem gf_X3_46 {t : Int32} (ho : ko K = RX3) (hd : decode (kc K) pc = .ok (.getfield 46, 3)) (ht : tok nt t) (k : V g K R Qf kb nb nt h C M o (pc + 3) lv (va_rf (trO g (C 19 t.toNatClampNeg)) :: st)) : V g K R Qf kb nb nt h C M o pc lv (va_rf (trO g t) :: st) := by
  rw [tok_rf (h := h) ht]
  exact V_getf (ci := 3) (kf := 8) (T := TX3) (N := 15) (Cn := RX3) (n := (73 + 4 * t.toNatClampNeg)) hd (by rw [ho]; exact w_397) uin_3 rfl (by decide) (by have := ht.2; omega) ent_txO rfl k
theorem pf_X3_46 {t : Int32} {x : Int32} (ho : ko K = RX3) (hd : decode (kc K) pc = .ok (.putfield 46, 3)) (ht : tok nt t) (k : V g K R Qf kb nb nt h (up C 19 t.toNatClampNeg x) M o (pc + 3) lv st) : V g K R Qf kb nb nt h C M o pc lv (va_rf (trO g x) :: va_rf (trO g t) :: st) := by
  rw [tok_rf (h := h) ht]
  exact V_putf (ci := 3) (kf := 8) (T := TX3) (N := 15) (Cn := RX3) (n := (73 + 4 * t.toNatClampNeg)) (ty := .object "Twinphase$Transaction") hd (by rw [ho]; exact w_397) uin_3 tyX3_ok nmX3 rfl (by decide) rfl (by decide +kernel) (by cases trO g x <;> rfl) (by cases trO g x <;> rfl) (Nat.le_of_ble_eq_true rfl) (by have := ht.2; omega) ent_txO (by rw [ent_txO]; unfold txO; simp [up]) (fun m q => eC_19 q) k
theorem gf_X3_50 {t : Int32} (ho : ko K = RX3) (hd : decode (kc K) pc = .ok (.getfield 50, 3)) (ht : tok nt t) (k : V g K R Qf kb nb nt h C M o (pc + 3) lv (.int (C 22 t.toNatClampNeg) :: st)) : V g K R Qf kb nb nt h C M o pc lv (va_rf (trO g t) :: st) := by
  rw [tok_rf (h := h) ht]
  exact V_getf (ci := 3) (kf := 11) (T := TX3) (N := 15) (Cn := RX3) (n := (73 + 4 * t.toNatClampNeg)) hd (by rw [ho]; exact w_403) uin_3 rfl (by decide) (by have := ht.2; omega) ent_txO rfl k
theorem pf_X3_50 {t : Int32} {x : Int32} (ho : ko K = RX3) (hd : decode (kc K) pc = .ok (.putfield 50, 3)) (ht : tok nt t) (k : V g K R Qf kb nb nt h (up C 22 t.toNatClampNeg x) M o (pc + 3) lv st) : V g K R Qf kb nb nt h C M o pc lv (.int x :: va_rf (trO g t) :: st) := by
  rw [tok_rf (h := h) ht]
  exact V_putf (ci := 3) (kf := 11) (T := TX3) (N := 15) (Cn := RX3) (n := (73 + 4 * t.toNatClampNeg)) (ty := .int) hd (by rw [ho]; exact w_403) uin_3 tyX3_ok nmX3 rfl (by decide) rfl (by decide +kernel) rfl rfl (Nat.le_of_ble_eq_true rfl) (by have := ht.2; omega) ent_txO (by rw [ent_txO]; unfold txO; simp [up]) (fun m q => eC_22 q) k
theorem gf_X3_59 {t : Int32} (ho : ko K = RX3) (hd : decode (kc K) pc = .ok (.getfield 59, 3)) (ht : tok nt t) (k : V g K R Qf kb nb nt h C M o (pc + 3) lv (.int (C 20 t.toNatClampNeg) :: st)) : V g K R Qf kb nb nt h C M o pc lv (va_rf (trO g t) :: st) := by
  rw [tok_rf (h := h) ht]
  exact V_getf (ci := 3) (kf := 9) (T := TX3) (N := 15) (Cn := RX3) (n := (73 + 4 * t.toNatClampNeg)) hd (by rw [ho]; exact w_399) uin_3 rfl (by decide) (by have := ht.2; omega) ent_txO rfl k
theorem pf_X3_59 {t : Int32} {x : Int32} (ho : ko K = RX3) (hd : decode (kc K) pc = .ok (.putfield 59, 3)) (ht : tok nt t) (k : V g K R Qf kb nb nt h (up C 20 t.toNatClampNeg x) M o (pc + 3) lv st) : V g K R Qf kb nb nt h C M o pc lv (.int x :: va_rf (trO g t) :: st) := by
  rw [tok_rf (h := h) ht]
  exact V_putf (ci := 3) (kf := 9) (T := TX3) (N := 15) (Cn := RX3) (n := (73 + 4 * t.toNatClampNeg)) (ty := .int) hd (by rw [ho]; exact w_399) uin_3 tyX3_ok nmX3 rfl (by decide) rfl (by decide +kernel) rfl rfl (Nat.le_of_ble_eq_true rfl) (by have := ht.2; omega) ent_txO (by rw [ent_txO]; unfold txO; simp [up]) (fun m q => eC_20 q) k
theorem gf_X3_62 {t : Int32} (ho : ko K = RX3) (hd : decode (kc K) pc = .ok (.getfield 62, 3)) (ht : tok nt t) (k : V g K R Qf kb nb nt h C M o (pc + 3) lv (.int (C 21 t.toNatClampNeg) :: st)) : V g K R Qf kb nb nt h C M o pc lv (va_rf (trO g t) :: st) := by
  rw [tok_rf (h := h) ht]
  exact V_getf (ci := 3) (kf := 10) (T := TX3) (N := 15) (Cn := RX3) (n := (73 + 4 * t.toNatClampNeg)) hd (by rw [ho]; exact w_401) uin_3 rfl (by decide) (by have := ht.2; omega) ent_txO rfl k
theorem pf_X3_62 {t : Int32} {x : Int32} (ho : ko K = RX3) (hd : decode (kc K) pc = .ok (.putfield 62, 3)) (ht : tok nt t) (k : V g K R Qf kb nb nt h (up C 21 t.toNatClampNeg x) M o (pc + 3) lv st) : V g K R Qf kb nb nt h C M o pc lv (.int x :: va_rf (trO g t) :: st) := by
  rw [tok_rf (h := h) ht]
  exact V_putf (ci := 3) (kf := 10) (T := TX3) (N := 15) (Cn := RX3) (n := (73 + 4 * t.toNatClampNeg)) (ty := .int) hd (by rw [ho]; exact w_401) uin_3 tyX3_ok nmX3 rfl (by decide) rfl (by decide +kernel) rfl rfl (Nat.le_of_ble_eq_true rfl) (by have := ht.2; omega) ent_txO (by rw [ent_txO]; unfold txO; simp [up]) (fun m q => eC_21 q) k
theorem gf_X5_7 (ho : ko K = RX5) (hd : decode (kc K) pc = .ok (.getfield 7, 3)) (k : V g K R Qf kb nb nt h C M o (pc + 3) lv (.ref (ad g 11) :: st)) : V g K R Qf kb nb nt h C M o pc lv (.ref (ad g 10) :: st) := by
  rw [← hp_ad (g := g) (h := h) (n := 10) (by decide) (by decide)]
  exact V_getf (ci := 5) (kf := 1) (T := TX5) (N := 32) (Cn := RX5) (n := 10) hd (by rw [ho]; exact w_695) uin_5 rfl (by decide) (by omega) (ent_fix (by decide)) rfl k
theorem gf_X5_13 (ho : ko K = RX5) (hd : decode (kc K) pc = .ok (.getfield 13, 3)) (k : V g K R Qf kb nb nt h C M o (pc + 3) lv (.ref (ad g 12) :: st)) : V g K R Qf kb nb nt h C M o pc lv (.ref (ad g 10) :: st) := by
  rw [← hp_ad (g := g) (h := h) (n := 10) (by decide) (by decide)]
  exact V_getf (ci := 5) (kf := 2) (T := TX5) (N := 32) (Cn := RX5) (n := 10) hd (by rw [ho]; exact w_696) uin_5 rfl (by decide) (by omega) (ent_fix (by decide)) rfl k
theorem gf_X5_16 (ho : ko K = RX5) (hd : decode (kc K) pc = .ok (.getfield 16, 3)) (k : V g K R Qf kb nb nt h C M o (pc + 3) lv (.ref (ad g 13) :: st)) : V g K R Qf kb nb nt h C M o pc lv (.ref (ad g 10) :: st) := by
  rw [← hp_ad (g := g) (h := h) (n := 10) (by decide) (by decide)]
  exact V_getf (ci := 5) (kf := 3) (T := TX5) (N := 32) (Cn := RX5) (n := 10) hd (by rw [ho]; exact w_697) uin_5 rfl (by decide) (by omega) (ent_fix (by decide)) rfl k
theorem gf_X5_20 (ho : ko K = RX5) (hd : decode (kc K) pc = .ok (.getfield 20, 3)) (k : V g K R Qf kb nb nt h C M o (pc + 3) lv (.int (M 4 0) :: st)) : V g K R Qf kb nb nt h C M o pc lv (.ref (ad g 10) :: st) := by
  rw [← hp_ad (g := g) (h := h) (n := 10) (by decide) (by decide)]
  exact V_getf (ci := 5) (kf := 4) (T := TX5) (N := 32) (Cn := RX5) (n := 10) hd (by rw [ho]; exact w_698) uin_5 rfl (by decide) (by omega) (ent_fix (by decide)) rfl k
theorem pf_X5_20 {x : Int32} (ho : ko K = RX5) (hd : decode (kc K) pc = .ok (.putfield 20, 3)) (k : V g K R Qf kb nb nt h C (up M 4 0 x) o (pc + 3) lv st) : V g K R Qf kb nb nt h C M o pc lv (.int x :: .ref (ad g 10) :: st) := by
  rw [← hp_ad (g := g) (h := h) (n := 10) (by decide) (by decide)]
  exact V_putf (ci := 5) (kf := 4) (T := TX5) (N := 32) (Cn := RX5) (n := 10) (ty := .int) hd (by rw [ho]; exact w_698) uin_5 tyX5_ok nmX5 rfl (by decide) rfl (by decide +kernel) rfl rfl (Nat.le_of_ble_eq_true rfl) (by omega) (ent_fix (by decide)) (by rw [ent_fix (by decide)]; unfold fixE; simp [up]) (fun m q => eM_4 q) k
theorem gf_X5_24 (ho : ko K = RX5) (hd : decode (kc K) pc = .ok (.getfield 24, 3)) (k : V g K R Qf kb nb nt h C M o (pc + 3) lv (.ref (ad g 14) :: st)) : V g K R Qf kb nb nt h C M o pc lv (.ref (ad g 10) :: st) := by
  rw [← hp_ad (g := g) (h := h) (n := 10) (by decide) (by decide)]
  exact V_getf (ci := 5) (kf := 5) (T := TX5) (N := 32) (Cn := RX5) (n := 10) hd (by rw [ho]; exact w_699) uin_5 rfl (by decide) (by omega) (ent_fix (by decide)) rfl k
theorem gf_X5_27 (ho : ko K = RX5) (hd : decode (kc K) pc = .ok (.getfield 27, 3)) (k : V g K R Qf kb nb nt h C M o (pc + 3) lv (.ref (ad g 15) :: st)) : V g K R Qf kb nb nt h C M o pc lv (.ref (ad g 10) :: st) := by
  rw [← hp_ad (g := g) (h := h) (n := 10) (by decide) (by decide)]
  exact V_getf (ci := 5) (kf := 6) (T := TX5) (N := 32) (Cn := RX5) (n := 10) hd (by rw [ho]; exact w_700) uin_5 rfl (by decide) (by omega) (ent_fix (by decide)) rfl k
theorem gf_X5_30 (ho : ko K = RX5) (hd : decode (kc K) pc = .ok (.getfield 30, 3)) (k : V g K R Qf kb nb nt h C M o (pc + 3) lv (.ref (ad g 16) :: st)) : V g K R Qf kb nb nt h C M o pc lv (.ref (ad g 10) :: st) := by
  rw [← hp_ad (g := g) (h := h) (n := 10) (by decide) (by decide)]
  exact V_getf (ci := 5) (kf := 7) (T := TX5) (N := 32) (Cn := RX5) (n := 10) hd (by rw [ho]; exact w_701) uin_5 rfl (by decide) (by omega) (ent_fix (by decide)) rfl k
theorem gf_X5_33 (ho : ko K = RX5) (hd : decode (kc K) pc = .ok (.getfield 33, 3)) (k : V g K R Qf kb nb nt h C M o (pc + 3) lv (.ref (ad g 17) :: st)) : V g K R Qf kb nb nt h C M o pc lv (.ref (ad g 10) :: st) := by
  rw [← hp_ad (g := g) (h := h) (n := 10) (by decide) (by decide)]
  exact V_getf (ci := 5) (kf := 8) (T := TX5) (N := 32) (Cn := RX5) (n := 10) hd (by rw [ho]; exact w_702) uin_5 rfl (by decide) (by omega) (ent_fix (by decide)) rfl k
theorem gf_X5_36 (ho : ko K = RX5) (hd : decode (kc K) pc = .ok (.getfield 36, 3)) (k : V g K R Qf kb nb nt h C M o (pc + 3) lv (.ref (ad g 18) :: st)) : V g K R Qf kb nb nt h C M o pc lv (.ref (ad g 10) :: st) := by
  rw [← hp_ad (g := g) (h := h) (n := 10) (by decide) (by decide)]
  exact V_getf (ci := 5) (kf := 9) (T := TX5) (N := 32) (Cn := RX5) (n := 10) hd (by rw [ho]; exact w_703) uin_5 rfl (by decide) (by omega) (ent_fix (by decide)) rfl k
theorem gf_X5_39 (ho : ko K = RX5) (hd : decode (kc K) pc = .ok (.getfield 39, 3)) (k : V g K R Qf kb nb nt h C M o (pc + 3) lv (.ref (ad g 19) :: st)) : V g K R Qf kb nb nt h C M o pc lv (.ref (ad g 10) :: st) := by
  rw [← hp_ad (g := g) (h := h) (n := 10) (by decide) (by decide)]
  exact V_getf (ci := 5) (kf := 10) (T := TX5) (N := 32) (Cn := RX5) (n := 10) hd (by rw [ho]; exact w_704) uin_5 rfl (by decide) (by omega) (ent_fix (by decide)) rfl k
theorem gf_X5_42 (ho : ko K = RX5) (hd : decode (kc K) pc = .ok (.getfield 42, 3)) (k : V g K R Qf kb nb nt h C M o (pc + 3) lv (.ref (ad g 20) :: st)) : V g K R Qf kb nb nt h C M o pc lv (.ref (ad g 10) :: st) := by
  rw [← hp_ad (g := g) (h := h) (n := 10) (by decide) (by decide)]
  exact V_getf (ci := 5) (kf := 11) (T := TX5) (N := 32) (Cn := RX5) (n := 10) hd (by rw [ho]; exact w_705) uin_5 rfl (by decide) (by omega) (ent_fix (by decide)) rfl k
theorem gf_X5_45 (ho : ko K = RX5) (hd : decode (kc K) pc = .ok (.getfield 45, 3)) (k : V g K R Qf kb nb nt h C M o (pc + 3) lv (.ref (ad g 21) :: st)) : V g K R Qf kb nb nt h C M o pc lv (.ref (ad g 10) :: st) := by
  rw [← hp_ad (g := g) (h := h) (n := 10) (by decide) (by decide)]
  exact V_getf (ci := 5) (kf := 13) (T := TX5) (N := 32) (Cn := RX5) (n := 10) hd (by rw [ho]; exact w_707) uin_5 rfl (by decide) (by omega) (ent_fix (by decide)) rfl k
theorem gf_X5_48 (ho : ko K = RX5) (hd : decode (kc K) pc = .ok (.getfield 48, 3)) (k : V g K R Qf kb nb nt h C M o (pc + 3) lv (.ref (ad g 22) :: st)) : V g K R Qf kb nb nt h C M o pc lv (.ref (ad g 10) :: st) := by
  rw [← hp_ad (g := g) (h := h) (n := 10) (by decide) (by decide)]
  exact V_getf (ci := 5) (kf := 14) (T := TX5) (N := 32) (Cn := RX5) (n := 10) hd (by rw [ho]; exact w_708) uin_5 rfl (by decide) (by omega) (ent_fix (by decide)) rfl k
theorem gf_X5_51 (ho : ko K = RX5) (hd : decode (kc K) pc = .ok (.getfield 51, 3)) (k : V g K R Qf kb nb nt h C M o (pc + 3) lv (.ref (ad g 23) :: st)) : V g K R Qf kb nb nt h C M o pc lv (.ref (ad g 10) :: st) := by
  rw [← hp_ad (g := g) (h := h) (n := 10) (by decide) (by decide)]
  exact V_getf (ci := 5) (kf := 15) (T := TX5) (N := 32) (Cn := RX5) (n := 10) hd (by rw [ho]; exact w_709) uin_5 rfl (by decide) (by omega) (ent_fix (by decide)) rfl k
theorem gf_X5_54 (ho : ko K = RX5) (hd : decode (kc K) pc = .ok (.getfield 54, 3)) (k : V g K R Qf kb nb nt h C M o (pc + 3) lv (.ref (ad g 24) :: st)) : V g K R Qf kb nb nt h C M o pc lv (.ref (ad g 10) :: st) := by
  rw [← hp_ad (g := g) (h := h) (n := 10) (by decide) (by decide)]
  exact V_getf (ci := 5) (kf := 17) (T := TX5) (N := 32) (Cn := RX5) (n := 10) hd (by rw [ho]; exact w_711) uin_5 rfl (by decide) (by omega) (ent_fix (by decide)) rfl k
theorem gf_X5_57 (ho : ko K = RX5) (hd : decode (kc K) pc = .ok (.getfield 57, 3)) (k : V g K R Qf kb nb nt h C M o (pc + 3) lv (.ref (ad g 25) :: st)) : V g K R Qf kb nb nt h C M o pc lv (.ref (ad g 10) :: st) := by
  rw [← hp_ad (g := g) (h := h) (n := 10) (by decide) (by decide)]
  exact V_getf (ci := 5) (kf := 18) (T := TX5) (N := 32) (Cn := RX5) (n := 10) hd (by rw [ho]; exact w_712) uin_5 rfl (by decide) (by omega) (ent_fix (by decide)) rfl k
theorem gf_X5_60 (ho : ko K = RX5) (hd : decode (kc K) pc = .ok (.getfield 60, 3)) (k : V g K R Qf kb nb nt h C M o (pc + 3) lv (.ref (ad g 26) :: st)) : V g K R Qf kb nb nt h C M o pc lv (.ref (ad g 10) :: st) := by
  rw [← hp_ad (g := g) (h := h) (n := 10) (by decide) (by decide)]
  exact V_getf (ci := 5) (kf := 19) (T := TX5) (N := 32) (Cn := RX5) (n := 10) hd (by rw [ho]; exact w_713) uin_5 rfl (by decide) (by omega) (ent_fix (by decide)) rfl k
theorem gf_X5_63 (ho : ko K = RX5) (hd : decode (kc K) pc = .ok (.getfield 63, 3)) (k : V g K R Qf kb nb nt h C M o (pc + 3) lv (.ref (ad g 27) :: st)) : V g K R Qf kb nb nt h C M o pc lv (.ref (ad g 10) :: st) := by
  rw [← hp_ad (g := g) (h := h) (n := 10) (by decide) (by decide)]
  exact V_getf (ci := 5) (kf := 20) (T := TX5) (N := 32) (Cn := RX5) (n := 10) hd (by rw [ho]; exact w_714) uin_5 rfl (by decide) (by omega) (ent_fix (by decide)) rfl k
theorem gf_X5_66 (ho : ko K = RX5) (hd : decode (kc K) pc = .ok (.getfield 66, 3)) (k : V g K R Qf kb nb nt h C M o (pc + 3) lv (.ref (ad g 28) :: st)) : V g K R Qf kb nb nt h C M o pc lv (.ref (ad g 10) :: st) := by
  rw [← hp_ad (g := g) (h := h) (n := 10) (by decide) (by decide)]
  exact V_getf (ci := 5) (kf := 21) (T := TX5) (N := 32) (Cn := RX5) (n := 10) hd (by rw [ho]; exact w_715) uin_5 rfl (by decide) (by omega) (ent_fix (by decide)) rfl k
theorem gf_X5_69 (ho : ko K = RX5) (hd : decode (kc K) pc = .ok (.getfield 69, 3)) (k : V g K R Qf kb nb nt h C M o (pc + 3) lv (.ref (ad g 29) :: st)) : V g K R Qf kb nb nt h C M o pc lv (.ref (ad g 10) :: st) := by
  rw [← hp_ad (g := g) (h := h) (n := 10) (by decide) (by decide)]
  exact V_getf (ci := 5) (kf := 22) (T := TX5) (N := 32) (Cn := RX5) (n := 10) hd (by rw [ho]; exact w_716) uin_5 rfl (by decide) (by omega) (ent_fix (by decide)) rfl k
theorem gf_X5_72 (ho : ko K = RX5) (hd : decode (kc K) pc = .ok (.getfield 72, 3)) (k : V g K R Qf kb nb nt h C M o (pc + 3) lv (.ref (ad g 30) :: st)) : V g K R Qf kb nb nt h C M o pc lv (.ref (ad g 10) :: st) := by
  rw [← hp_ad (g := g) (h := h) (n := 10) (by decide) (by decide)]
  exact V_getf (ci := 5) (kf := 23) (T := TX5) (N := 32) (Cn := RX5) (n := 10) hd (by rw [ho]; exact w_717) uin_5 rfl (by decide) (by omega) (ent_fix (by decide)) rfl k
theorem gf_X5_75 (ho : ko K = RX5) (hd : decode (kc K) pc = .ok (.getfield 75, 3)) (k : V g K R Qf kb nb nt h C M o (pc + 3) lv (.ref (ad g 31) :: st)) : V g K R Qf kb nb nt h C M o pc lv (.ref (ad g 10) :: st) := by
  rw [← hp_ad (g := g) (h := h) (n := 10) (by decide) (by decide)]
  exact V_getf (ci := 5) (kf := 24) (T := TX5) (N := 32) (Cn := RX5) (n := 10) hd (by rw [ho]; exact w_718) uin_5 rfl (by decide) (by omega) (ent_fix (by decide)) rfl k
theorem gf_X5_78 (ho : ko K = RX5) (hd : decode (kc K) pc = .ok (.getfield 78, 3)) (k : V g K R Qf kb nb nt h C M o (pc + 3) lv (.ref (ad g 32) :: st)) : V g K R Qf kb nb nt h C M o pc lv (.ref (ad g 10) :: st) := by
  rw [← hp_ad (g := g) (h := h) (n := 10) (by decide) (by decide)]
  exact V_getf (ci := 5) (kf := 25) (T := TX5) (N := 32) (Cn := RX5) (n := 10) hd (by rw [ho]; exact w_719) uin_5 rfl (by decide) (by omega) (ent_fix (by decide)) rfl k
theorem gf_X5_81 (ho : ko K = RX5) (hd : decode (kc K) pc = .ok (.getfield 81, 3)) (k : V g K R Qf kb nb nt h C M o (pc + 3) lv (.ref (ad g 33) :: st)) : V g K R Qf kb nb nt h C M o pc lv (.ref (ad g 10) :: st) := by
  rw [← hp_ad (g := g) (h := h) (n := 10) (by decide) (by decide)]
  exact V_getf (ci := 5) (kf := 27) (T := TX5) (N := 32) (Cn := RX5) (n := 10) hd (by rw [ho]; exact w_721) uin_5 rfl (by decide) (by omega) (ent_fix (by decide)) rfl k
theorem gf_X5_84 (ho : ko K = RX5) (hd : decode (kc K) pc = .ok (.getfield 84, 3)) (k : V g K R Qf kb nb nt h C M o (pc + 3) lv (.ref (ad g 34) :: st)) : V g K R Qf kb nb nt h C M o pc lv (.ref (ad g 10) :: st) := by
  rw [← hp_ad (g := g) (h := h) (n := 10) (by decide) (by decide)]
  exact V_getf (ci := 5) (kf := 28) (T := TX5) (N := 32) (Cn := RX5) (n := 10) hd (by rw [ho]; exact w_722) uin_5 rfl (by decide) (by omega) (ent_fix (by decide)) rfl k
theorem gf_X5_87 (ho : ko K = RX5) (hd : decode (kc K) pc = .ok (.getfield 87, 3)) (k : V g K R Qf kb nb nt h C M o (pc + 3) lv (.ref (ad g 35) :: st)) : V g K R Qf kb nb nt h C M o pc lv (.ref (ad g 10) :: st) := by
  rw [← hp_ad (g := g) (h := h) (n := 10) (by decide) (by decide)]
  exact V_getf (ci := 5) (kf := 29) (T := TX5) (N := 32) (Cn := RX5) (n := 10) hd (by rw [ho]; exact w_723) uin_5 rfl (by decide) (by omega) (ent_fix (by decide)) rfl k
theorem gf_X5_90 (ho : ko K = RX5) (hd : decode (kc K) pc = .ok (.getfield 90, 3)) (k : V g K R Qf kb nb nt h C M o (pc + 3) lv (.ref (ad g 36) :: st)) : V g K R Qf kb nb nt h C M o pc lv (.ref (ad g 10) :: st) := by
  rw [← hp_ad (g := g) (h := h) (n := 10) (by decide) (by decide)]
  exact V_getf (ci := 5) (kf := 30) (T := TX5) (N := 32) (Cn := RX5) (n := 10) hd (by rw [ho]; exact w_724) uin_5 rfl (by decide) (by omega) (ent_fix (by decide)) rfl k
theorem gf_X5_93 (ho : ko K = RX5) (hd : decode (kc K) pc = .ok (.getfield 93, 3)) (k : V g K R Qf kb nb nt h C M o (pc + 3) lv (.int (M 31 0) :: st)) : V g K R Qf kb nb nt h C M o pc lv (.ref (ad g 10) :: st) := by
  rw [← hp_ad (g := g) (h := h) (n := 10) (by decide) (by decide)]
  exact V_getf (ci := 5) (kf := 31) (T := TX5) (N := 32) (Cn := RX5) (n := 10) hd (by rw [ho]; exact w_725) uin_5 rfl (by decide) (by omega) (ent_fix (by decide)) rfl k
theorem pf_X5_93 {x : Int32} (ho : ko K = RX5) (hd : decode (kc K) pc = .ok (.putfield 93, 3)) (k : V g K R Qf kb nb nt h C (up M 31 0 x) o (pc + 3) lv st) : V g K R Qf kb nb nt h C M o pc lv (.int x :: .ref (ad g 10) :: st) := by
  rw [← hp_ad (g := g) (h := h) (n := 10) (by decide) (by decide)]
  exact V_putf (ci := 5) (kf := 31) (T := TX5) (N := 32) (Cn := RX5) (n := 10) (ty := .int) hd (by rw [ho]; exact w_725) uin_5 tyX5_ok nmX5 rfl (by decide) rfl (by decide +kernel) rfl rfl (Nat.le_of_ble_eq_true rfl) (by omega) (ent_fix (by decide)) (by rw [ent_fix (by decide)]; unfold fixE; simp [up]) (fun m q => eM_31 q) k
theorem gf_X5_100 (ho : ko K = RX5) (hd : decode (kc K) pc = .ok (.getfield 100, 3)) (k : V g K R Qf kb nb nt h C M o (pc + 3) lv (.int (M 0 0) :: st)) : V g K R Qf kb nb nt h C M o pc lv (.ref (ad g 10) :: st) := by
  rw [← hp_ad (g := g) (h := h) (n := 10) (by decide) (by decide)]
  exact V_getf (ci := 5) (kf := 0) (T := TX5) (N := 32) (Cn := RX5) (n := 10) hd (by rw [ho]; exact w_694) uin_5 rfl (by decide) (by omega) (ent_fix (by decide)) rfl k
theorem pf_X5_100 {x : Int32} (ho : ko K = RX5) (hd : decode (kc K) pc = .ok (.putfield 100, 3)) (k : V g K R Qf kb nb nt h C (up M 0 0 x) o (pc + 3) lv st) : V g K R Qf kb nb nt h C M o pc lv (.int x :: .ref (ad g 10) :: st) := by
  rw [← hp_ad (g := g) (h := h) (n := 10) (by decide) (by decide)]
  exact V_putf (ci := 5) (kf := 0) (T := TX5) (N := 32) (Cn := RX5) (n := 10) (ty := .int) hd (by rw [ho]; exact w_694) uin_5 tyX5_ok nmX5 rfl (by decide) rfl (by decide +kernel) rfl rfl (Nat.le_of_ble_eq_true rfl) (by omega) (ent_fix (by decide)) (by rw [ent_fix (by decide)]; unfold fixE; simp [up]) (fun m q => eM_0 q) k
theorem gf_X5_125 (ho : ko K = RX5) (hd : decode (kc K) pc = .ok (.getfield 125, 3)) (k : V g K R Qf kb nb nt h C M o (pc + 3) lv (.int (M 16 0) :: st)) : V g K R Qf kb nb nt h C M o pc lv (.ref (ad g 10) :: st) := by
  rw [← hp_ad (g := g) (h := h) (n := 10) (by decide) (by decide)]
  exact V_getf (ci := 5) (kf := 16) (T := TX5) (N := 32) (Cn := RX5) (n := 10) hd (by rw [ho]; exact w_710) uin_5 rfl (by decide) (by omega) (ent_fix (by decide)) rfl k
theorem pf_X5_125 {x : Int32} (ho : ko K = RX5) (hd : decode (kc K) pc = .ok (.putfield 125, 3)) (k : V g K R Qf kb nb nt h C (up M 16 0 x) o (pc + 3) lv st) : V g K R Qf kb nb nt h C M o pc lv (.int x :: .ref (ad g 10) :: st) := by
  rw [← hp_ad (g := g) (h := h) (n := 10) (by decide) (by decide)]
  exact V_putf (ci := 5) (kf := 16) (T := TX5) (N := 32) (Cn := RX5) (n := 10) (ty := .int) hd (by rw [ho]; exact w_710) uin_5 tyX5_ok nmX5 rfl (by decide) rfl (by decide +kernel) rfl rfl (Nat.le_of_ble_eq_true rfl) (by omega) (ent_fix (by decide)) (by rw [ent_fix (by decide)]; unfold fixE; simp [up]) (fun m q => eM_16 q) k
theorem gf_X5_132 (ho : ko K = RX5) (hd : decode (kc K) pc = .ok (.getfield 132, 3)) (k : V g K R Qf kb nb nt h C M o (pc + 3) lv (.int (M 26 0) :: st)) : V g K R Qf kb nb nt h C M o pc lv (.ref (ad g 10) :: st) := by
  rw [← hp_ad (g := g) (h := h) (n := 10) (by decide) (by decide)]
  exact V_getf (ci := 5) (kf := 26) (T := TX5) (N := 32) (Cn := RX5) (n := 10) hd (by rw [ho]; exact w_720) uin_5 rfl (by decide) (by omega) (ent_fix (by decide)) rfl k
theorem pf_X5_132 {x : Int32} (ho : ko K = RX5) (hd : decode (kc K) pc = .ok (.putfield 132, 3)) (k : V g K R Qf kb nb nt h C (up M 26 0 x) o (pc + 3) lv st) : V g K R Qf kb nb nt h C M o pc lv (.int x :: .ref (ad g 10) :: st) := by
  rw [← hp_ad (g := g) (h := h) (n := 10) (by decide) (by decide)]
  exact V_putf (ci := 5) (kf := 26) (T := TX5) (N := 32) (Cn := RX5) (n := 10) (ty := .int) hd (by rw [ho]; exact w_720) uin_5 tyX5_ok nmX5 rfl (by decide) rfl (by decide +kernel) rfl rfl (Nat.le_of_ble_eq_true rfl) (by omega) (ent_fix (by decide)) (by rw [ent_fix (by decide)]; unfold fixE; simp [up]) (fun m q => eM_26 q) k
theorem gf_X5_135 (ho : ko K = RX5) (hd : decode (kc K) pc = .ok (.getfield 135, 3)) (k : V g K R Qf kb nb nt h C M o (pc + 3) lv (.int (M 12 0) :: st)) : V g K R Qf kb nb nt h C M o pc lv (.ref (ad g 10) :: st) := by
  rw [← hp_ad (g := g) (h := h) (n := 10) (by decide) (by decide)]
  exact V_getf (ci := 5) (kf := 12) (T := TX5) (N := 32) (Cn := RX5) (n := 10) hd (by rw [ho]; exact w_706) uin_5 rfl (by decide) (by omega) (ent_fix (by decide)) rfl k
theorem pf_X5_135 {x : Int32} (ho : ko K = RX5) (hd : decode (kc K) pc = .ok (.putfield 135, 3)) (k : V g K R Qf kb nb nt h C (up M 12 0 x) o (pc + 3) lv st) : V g K R Qf kb nb nt h C M o pc lv (.int x :: .ref (ad g 10) :: st) := by
  rw [← hp_ad (g := g) (h := h) (n := 10) (by decide) (by decide)]
  exact V_putf (ci := 5) (kf := 12) (T := TX5) (N := 32) (Cn := RX5) (n := 10) (ty := .int) hd (by rw [ho]; exact w_706) uin_5 tyX5_ok nmX5 rfl (by decide) rfl (by decide +kernel) rfl rfl (Nat.le_of_ble_eq_true rfl) (by omega) (ent_fix (by decide)) (by rw [ent_fix (by decide)]; unfold fixE; simp [up]) (fun m q => eM_12 q) k
theorem iald_ch {i : Int32} {j : Nat} (hd : decode (kc K) pc = .ok (.iaload, 1)) (hi : inr i (cap C) j) (k : V g K R Qf kb nb nt h C M o (pc + 1) lv (.int (C 28 j) :: st)) : V g K R Qf kb nb nt h C M o pc lv (.int i :: .ref (h.1) :: st) := by
  rw [show h.1 = hp g h 5 from rfl]
  exact V_iald (t0 := 0) (n := 5) (nn := (cap C)) (f := C 28) hd (by omega) (ent_fix (by decide)) hi k
theorem iast_ch {i x : Int32} {j : Nat} (hd : decode (kc K) pc = .ok (.iastore, 1)) (hi : inr i (cap C) j) (k : V g K R Qf kb nb nt h (up C 28 j x) M o (pc + 1) lv st) : V g K R Qf kb nb nt h C M o pc lv (.int x :: .int i :: .ref (h.1) :: st) := by
  rw [show h.1 = hp g h 5 from rfl]
  exact V_iast (n := 5) (nn := (cap C)) (f := C 28) hd (by omega) (ent_fix (by decide)) hi (by rw [ent_fix (by decide)]; unfold fixE; simp only [up_self, cap, capv, up_row (S := C) (i := j) (x := x) (show 27 ≠ 28 by decide), up_row (S := C) (i := j) (x := x) (show 34 ≠ 28 by decide)]) (fun m q => eC_28 q) k
theorem iald_va {i : Int32} {j : Nat} (hd : decode (kc K) pc = .ok (.iaload, 1)) (hi : inr i (capv C) j) (k : V g K R Qf kb nb nt h C M o (pc + 1) lv (.int (C 29 j) :: st)) : V g K R Qf kb nb nt h C M o pc lv (.int i :: .ref (h.2) :: st) := by
  rw [show h.2 = hp g h 6 from rfl]
  exact V_iald (t0 := 0) (n := 6) (nn := (capv C)) (f := C 29) hd (by omega) (ent_fix (by decide)) hi k
theorem iast_va {i x : Int32} {j : Nat} (hd : decode (kc K) pc = .ok (.iastore, 1)) (hi : inr i (capv C) j) (k : V g K R Qf kb nb nt h (up C 29 j x) M o (pc + 1) lv st) : V g K R Qf kb nb nt h C M o pc lv (.int x :: .int i :: .ref (h.2) :: st) := by
  rw [show h.2 = hp g h 6 from rfl]
  exact V_iast (n := 6) (nn := (capv C)) (f := C 29) hd (by omega) (ent_fix (by decide)) hi (by rw [ent_fix (by decide)]; unfold fixE; simp only [up_self, cap, capv, up_row (S := C) (i := j) (x := x) (show 27 ≠ 29 by decide), up_row (S := C) (i := j) (x := x) (show 34 ≠ 29 by decide)]) (fun m q => eC_29 q) k
theorem iald_re {i : Int32} {j : Nat} (hd : decode (kc K) pc = .ok (.iaload, 1)) (hi : inr i 32 j) (k : V g K R Qf kb nb nt h C M o (pc + 1) lv (.int (C 32 j) :: st)) : V g K R Qf kb nb nt h C M o pc lv (.int i :: .ref (ad g 8) :: st) := by
  rw [← hp_ad (g := g) (h := h) (n := 8) (by decide) (by decide)]
  exact V_iald (t0 := 0) (n := 8) (nn := 32) (f := C 32) hd (by omega) (ent_fix (by decide)) hi k
theorem iast_re {i x : Int32} {j : Nat} (hd : decode (kc K) pc = .ok (.iastore, 1)) (hi : inr i 32 j) (k : V g K R Qf kb nb nt h (up C 32 j x) M o (pc + 1) lv st) : V g K R Qf kb nb nt h C M o pc lv (.int x :: .int i :: .ref (ad g 8) :: st) := by
  rw [← hp_ad (g := g) (h := h) (n := 8) (by decide) (by decide)]
  exact V_iast (n := 8) (nn := 32) (f := C 32) hd (by omega) (ent_fix (by decide)) hi (by rw [ent_fix (by decide)]; unfold fixE; simp only [up_self]) (fun m q => eC_32 q) k
theorem iald_M1 {i : Int32} {j : Nat} (hd : decode (kc K) pc = .ok (.iaload, 1)) (hi : inr i 4 j) (k : V g K R Qf kb nb nt h C M o (pc + 1) lv (.int (M 1 j) :: st)) : V g K R Qf kb nb nt h C M o pc lv (.int i :: .ref (ad g 11) :: st) := by
  rw [← hp_ad (g := g) (h := h) (n := 11) (by decide) (by decide)]
  exact V_iald (t0 := 0) (n := 11) (nn := 4) (f := M 1) hd (by omega) (ent_fix (by decide)) hi k
theorem iast_M1 {i x : Int32} {j : Nat} (hd : decode (kc K) pc = .ok (.iastore, 1)) (hi : inr i 4 j) (k : V g K R Qf kb nb nt h C (up M 1 j x) o (pc + 1) lv st) : V g K R Qf kb nb nt h C M o pc lv (.int x :: .int i :: .ref (ad g 11) :: st) := by
  rw [← hp_ad (g := g) (h := h) (n := 11) (by decide) (by decide)]
  exact V_iast (n := 11) (nn := 4) (f := M 1) hd (by omega) (ent_fix (by decide)) hi (by rw [ent_fix (by decide)]; unfold fixE; simp only [up_self]) (fun m q => eM_1 q) k
theorem iald_M2 {i : Int32} {j : Nat} (hd : decode (kc K) pc = .ok (.iaload, 1)) (hi : inr i 4 j) (k : V g K R Qf kb nb nt h C M o (pc + 1) lv (.int (M 2 j) :: st)) : V g K R Qf kb nb nt h C M o pc lv (.int i :: .ref (ad g 12) :: st) := by
  rw [← hp_ad (g := g) (h := h) (n := 12) (by decide) (by decide)]
  exact V_iald (t0 := 0) (n := 12) (nn := 4) (f := M 2) hd (by omega) (ent_fix (by decide)) hi k
theorem iast_M2 {i x : Int32} {j : Nat} (hd : decode (kc K) pc = .ok (.iastore, 1)) (hi : inr i 4 j) (k : V g K R Qf kb nb nt h C (up M 2 j x) o (pc + 1) lv st) : V g K R Qf kb nb nt h C M o pc lv (.int x :: .int i :: .ref (ad g 12) :: st) := by
  rw [← hp_ad (g := g) (h := h) (n := 12) (by decide) (by decide)]
  exact V_iast (n := 12) (nn := 4) (f := M 2) hd (by omega) (ent_fix (by decide)) hi (by rw [ent_fix (by decide)]; unfold fixE; simp only [up_self]) (fun m q => eM_2 q) k
theorem zald_M3 {i : Int32} {j : Nat} (hd : decode (kc K) pc = .ok (.baload, 1)) (hi : inr i 4 j) (k : V g K R Qf kb nb nt h C M o (pc + 1) lv (.int (M 3 j) :: st)) : V g K R Qf kb nb nt h C M o pc lv (.int i :: .ref (ad g 13) :: st) := by
  rw [← hp_ad (g := g) (h := h) (n := 13) (by decide) (by decide)]
  exact V_zald (n := 13) (nn := 4) (f := M 3) hd (by omega) (ent_fix (by decide)) hi k
theorem zast_M3 {i x : Int32} {j : Nat} (hd : decode (kc K) pc = .ok (.bastore, 1)) (hi : inr i 4 j) (hb : vp_nar .boolean x = x) (k : V g K R Qf kb nb nt h C (up M 3 j x) o (pc + 1) lv st) : V g K R Qf kb nb nt h C M o pc lv (.int x :: .int i :: .ref (ad g 13) :: st) := by
  rw [← hp_ad (g := g) (h := h) (n := 13) (by decide) (by decide)]
  exact V_zast (n := 13) (nn := 4) (f := M 3) hd (by omega) (ent_fix (by decide)) hi hb (by rw [ent_fix (by decide)]; unfold fixE; simp only [up_self]) (fun m q => eM_3 q) k
theorem iald_M5 {i : Int32} {j : Nat} (hd : decode (kc K) pc = .ok (.iaload, 1)) (hi : inr i 32 j) (k : V g K R Qf kb nb nt h C M o (pc + 1) lv (.int (M 5 j) :: st)) : V g K R Qf kb nb nt h C M o pc lv (.int i :: .ref (ad g 14) :: st) := by
  rw [← hp_ad (g := g) (h := h) (n := 14) (by decide) (by decide)]
  exact V_iald (t0 := 0) (n := 14) (nn := 32) (f := M 5) hd (by omega) (ent_fix (by decide)) hi k
theorem iast_M5 {i x : Int32} {j : Nat} (hd : decode (kc K) pc = .ok (.iastore, 1)) (hi : inr i 32 j) (k : V g K R Qf kb nb nt h C (up M 5 j x) o (pc + 1) lv st) : V g K R Qf kb nb nt h C M o pc lv (.int x :: .int i :: .ref (ad g 14) :: st) := by
  rw [← hp_ad (g := g) (h := h) (n := 14) (by decide) (by decide)]
  exact V_iast (n := 14) (nn := 32) (f := M 5) hd (by omega) (ent_fix (by decide)) hi (by rw [ent_fix (by decide)]; unfold fixE; simp only [up_self]) (fun m q => eM_5 q) k
theorem iald_M6 {i : Int32} {j : Nat} (hd : decode (kc K) pc = .ok (.iaload, 1)) (hi : inr i 32 j) (k : V g K R Qf kb nb nt h C M o (pc + 1) lv (.int (M 6 j) :: st)) : V g K R Qf kb nb nt h C M o pc lv (.int i :: .ref (ad g 15) :: st) := by
  rw [← hp_ad (g := g) (h := h) (n := 15) (by decide) (by decide)]
  exact V_iald (t0 := 0) (n := 15) (nn := 32) (f := M 6) hd (by omega) (ent_fix (by decide)) hi k
theorem iast_M6 {i x : Int32} {j : Nat} (hd : decode (kc K) pc = .ok (.iastore, 1)) (hi : inr i 32 j) (k : V g K R Qf kb nb nt h C (up M 6 j x) o (pc + 1) lv st) : V g K R Qf kb nb nt h C M o pc lv (.int x :: .int i :: .ref (ad g 15) :: st) := by
  rw [← hp_ad (g := g) (h := h) (n := 15) (by decide) (by decide)]
  exact V_iast (n := 15) (nn := 32) (f := M 6) hd (by omega) (ent_fix (by decide)) hi (by rw [ent_fix (by decide)]; unfold fixE; simp only [up_self]) (fun m q => eM_6 q) k
theorem iald_M7 {i : Int32} {j : Nat} (hd : decode (kc K) pc = .ok (.iaload, 1)) (hi : inr i 32 j) (k : V g K R Qf kb nb nt h C M o (pc + 1) lv (.int (M 7 j) :: st)) : V g K R Qf kb nb nt h C M o pc lv (.int i :: .ref (ad g 16) :: st) := by
  rw [← hp_ad (g := g) (h := h) (n := 16) (by decide) (by decide)]
  exact V_iald (t0 := 0) (n := 16) (nn := 32) (f := M 7) hd (by omega) (ent_fix (by decide)) hi k
theorem iast_M7 {i x : Int32} {j : Nat} (hd : decode (kc K) pc = .ok (.iastore, 1)) (hi : inr i 32 j) (k : V g K R Qf kb nb nt h C (up M 7 j x) o (pc + 1) lv st) : V g K R Qf kb nb nt h C M o pc lv (.int x :: .int i :: .ref (ad g 16) :: st) := by
  rw [← hp_ad (g := g) (h := h) (n := 16) (by decide) (by decide)]
  exact V_iast (n := 16) (nn := 32) (f := M 7) hd (by omega) (ent_fix (by decide)) hi (by rw [ent_fix (by decide)]; unfold fixE; simp only [up_self]) (fun m q => eM_7 q) k
theorem zald_M8 {i : Int32} {j : Nat} (hd : decode (kc K) pc = .ok (.baload, 1)) (hi : inr i 32 j) (k : V g K R Qf kb nb nt h C M o (pc + 1) lv (.int (M 8 j) :: st)) : V g K R Qf kb nb nt h C M o pc lv (.int i :: .ref (ad g 17) :: st) := by
  rw [← hp_ad (g := g) (h := h) (n := 17) (by decide) (by decide)]
  exact V_zald (n := 17) (nn := 32) (f := M 8) hd (by omega) (ent_fix (by decide)) hi k
theorem zast_M8 {i x : Int32} {j : Nat} (hd : decode (kc K) pc = .ok (.bastore, 1)) (hi : inr i 32 j) (hb : vp_nar .boolean x = x) (k : V g K R Qf kb nb nt h C (up M 8 j x) o (pc + 1) lv st) : V g K R Qf kb nb nt h C M o pc lv (.int x :: .int i :: .ref (ad g 17) :: st) := by
  rw [← hp_ad (g := g) (h := h) (n := 17) (by decide) (by decide)]
  exact V_zast (n := 17) (nn := 32) (f := M 8) hd (by omega) (ent_fix (by decide)) hi hb (by rw [ent_fix (by decide)]; unfold fixE; simp only [up_self]) (fun m q => eM_8 q) k
theorem iald_M9 {i : Int32} {j : Nat} (hd : decode (kc K) pc = .ok (.iaload, 1)) (hi : inr i 32 j) (k : V g K R Qf kb nb nt h C M o (pc + 1) lv (.int (M 9 j) :: st)) : V g K R Qf kb nb nt h C M o pc lv (.int i :: .ref (ad g 18) :: st) := by
  rw [← hp_ad (g := g) (h := h) (n := 18) (by decide) (by decide)]
  exact V_iald (t0 := 0) (n := 18) (nn := 32) (f := M 9) hd (by omega) (ent_fix (by decide)) hi k
theorem iast_M9 {i x : Int32} {j : Nat} (hd : decode (kc K) pc = .ok (.iastore, 1)) (hi : inr i 32 j) (k : V g K R Qf kb nb nt h C (up M 9 j x) o (pc + 1) lv st) : V g K R Qf kb nb nt h C M o pc lv (.int x :: .int i :: .ref (ad g 18) :: st) := by
  rw [← hp_ad (g := g) (h := h) (n := 18) (by decide) (by decide)]
  exact V_iast (n := 18) (nn := 32) (f := M 9) hd (by omega) (ent_fix (by decide)) hi (by rw [ent_fix (by decide)]; unfold fixE; simp only [up_self]) (fun m q => eM_9 q) k
theorem iald_M10 {i : Int32} {j : Nat} (hd : decode (kc K) pc = .ok (.iaload, 1)) (hi : inr i 32 j) (k : V g K R Qf kb nb nt h C M o (pc + 1) lv (.int (M 10 j) :: st)) : V g K R Qf kb nb nt h C M o pc lv (.int i :: .ref (ad g 19) :: st) := by
  rw [← hp_ad (g := g) (h := h) (n := 19) (by decide) (by decide)]
  exact V_iald (t0 := 0) (n := 19) (nn := 32) (f := M 10) hd (by omega) (ent_fix (by decide)) hi k
theorem iast_M10 {i x : Int32} {j : Nat} (hd : decode (kc K) pc = .ok (.iastore, 1)) (hi : inr i 32 j) (k : V g K R Qf kb nb nt h C (up M 10 j x) o (pc + 1) lv st) : V g K R Qf kb nb nt h C M o pc lv (.int x :: .int i :: .ref (ad g 19) :: st) := by
  rw [← hp_ad (g := g) (h := h) (n := 19) (by decide) (by decide)]
  exact V_iast (n := 19) (nn := 32) (f := M 10) hd (by omega) (ent_fix (by decide)) hi (by rw [ent_fix (by decide)]; unfold fixE; simp only [up_self]) (fun m q => eM_10 q) k
theorem iald_M11 {i : Int32} {j : Nat} (hd : decode (kc K) pc = .ok (.iaload, 1)) (hi : inr i 32 j) (k : V g K R Qf kb nb nt h C M o (pc + 1) lv (.int (M 11 j) :: st)) : V g K R Qf kb nb nt h C M o pc lv (.int i :: .ref (ad g 20) :: st) := by
  rw [← hp_ad (g := g) (h := h) (n := 20) (by decide) (by decide)]
  exact V_iald (t0 := 0) (n := 20) (nn := 32) (f := M 11) hd (by omega) (ent_fix (by decide)) hi k
theorem iast_M11 {i x : Int32} {j : Nat} (hd : decode (kc K) pc = .ok (.iastore, 1)) (hi : inr i 32 j) (k : V g K R Qf kb nb nt h C (up M 11 j x) o (pc + 1) lv st) : V g K R Qf kb nb nt h C M o pc lv (.int x :: .int i :: .ref (ad g 20) :: st) := by
  rw [← hp_ad (g := g) (h := h) (n := 20) (by decide) (by decide)]
  exact V_iast (n := 20) (nn := 32) (f := M 11) hd (by omega) (ent_fix (by decide)) hi (by rw [ent_fix (by decide)]; unfold fixE; simp only [up_self]) (fun m q => eM_11 q) k
theorem iald_M13 {i : Int32} {j : Nat} (hd : decode (kc K) pc = .ok (.iaload, 1)) (hi : inr i 1300 j) (k : V g K R Qf kb nb nt h C M o (pc + 1) lv (.int (M 13 j) :: st)) : V g K R Qf kb nb nt h C M o pc lv (.int i :: .ref (ad g 21) :: st) := by
  rw [← hp_ad (g := g) (h := h) (n := 21) (by decide) (by decide)]
  exact V_iald (t0 := 0) (n := 21) (nn := 1300) (f := M 13) hd (by omega) (ent_fix (by decide)) hi k
theorem iast_M13 {i x : Int32} {j : Nat} (hd : decode (kc K) pc = .ok (.iastore, 1)) (hi : inr i 1300 j) (k : V g K R Qf kb nb nt h C (up M 13 j x) o (pc + 1) lv st) : V g K R Qf kb nb nt h C M o pc lv (.int x :: .int i :: .ref (ad g 21) :: st) := by
  rw [← hp_ad (g := g) (h := h) (n := 21) (by decide) (by decide)]
  exact V_iast (n := 21) (nn := 1300) (f := M 13) hd (by omega) (ent_fix (by decide)) hi (by rw [ent_fix (by decide)]; unfold fixE; simp only [up_self]) (fun m q => eM_13 q) k
theorem iald_M14 {i : Int32} {j : Nat} (hd : decode (kc K) pc = .ok (.iaload, 1)) (hi : inr i 1300 j) (k : V g K R Qf kb nb nt h C M o (pc + 1) lv (.int (M 14 j) :: st)) : V g K R Qf kb nb nt h C M o pc lv (.int i :: .ref (ad g 22) :: st) := by
  rw [← hp_ad (g := g) (h := h) (n := 22) (by decide) (by decide)]
  exact V_iald (t0 := 0) (n := 22) (nn := 1300) (f := M 14) hd (by omega) (ent_fix (by decide)) hi k
theorem iast_M14 {i x : Int32} {j : Nat} (hd : decode (kc K) pc = .ok (.iastore, 1)) (hi : inr i 1300 j) (k : V g K R Qf kb nb nt h C (up M 14 j x) o (pc + 1) lv st) : V g K R Qf kb nb nt h C M o pc lv (.int x :: .int i :: .ref (ad g 22) :: st) := by
  rw [← hp_ad (g := g) (h := h) (n := 22) (by decide) (by decide)]
  exact V_iast (n := 22) (nn := 1300) (f := M 14) hd (by omega) (ent_fix (by decide)) hi (by rw [ent_fix (by decide)]; unfold fixE; simp only [up_self]) (fun m q => eM_14 q) k
theorem iald_M15 {i : Int32} {j : Nat} (hd : decode (kc K) pc = .ok (.iaload, 1)) (hi : inr i 1300 j) (k : V g K R Qf kb nb nt h C M o (pc + 1) lv (.int (M 15 j) :: st)) : V g K R Qf kb nb nt h C M o pc lv (.int i :: .ref (ad g 23) :: st) := by
  rw [← hp_ad (g := g) (h := h) (n := 23) (by decide) (by decide)]
  exact V_iald (t0 := 0) (n := 23) (nn := 1300) (f := M 15) hd (by omega) (ent_fix (by decide)) hi k
theorem iast_M15 {i x : Int32} {j : Nat} (hd : decode (kc K) pc = .ok (.iastore, 1)) (hi : inr i 1300 j) (k : V g K R Qf kb nb nt h C (up M 15 j x) o (pc + 1) lv st) : V g K R Qf kb nb nt h C M o pc lv (.int x :: .int i :: .ref (ad g 23) :: st) := by
  rw [← hp_ad (g := g) (h := h) (n := 23) (by decide) (by decide)]
  exact V_iast (n := 23) (nn := 1300) (f := M 15) hd (by omega) (ent_fix (by decide)) hi (by rw [ent_fix (by decide)]; unfold fixE; simp only [up_self]) (fun m q => eM_15 q) k
theorem iald_M17 {i : Int32} {j : Nat} (hd : decode (kc K) pc = .ok (.iaload, 1)) (hi : inr i 40 j) (k : V g K R Qf kb nb nt h C M o (pc + 1) lv (.int (M 17 j) :: st)) : V g K R Qf kb nb nt h C M o pc lv (.int i :: .ref (ad g 24) :: st) := by
  rw [← hp_ad (g := g) (h := h) (n := 24) (by decide) (by decide)]
  exact V_iald (t0 := 0) (n := 24) (nn := 40) (f := M 17) hd (by omega) (ent_fix (by decide)) hi k
theorem iast_M17 {i x : Int32} {j : Nat} (hd : decode (kc K) pc = .ok (.iastore, 1)) (hi : inr i 40 j) (k : V g K R Qf kb nb nt h C (up M 17 j x) o (pc + 1) lv st) : V g K R Qf kb nb nt h C M o pc lv (.int x :: .int i :: .ref (ad g 24) :: st) := by
  rw [← hp_ad (g := g) (h := h) (n := 24) (by decide) (by decide)]
  exact V_iast (n := 24) (nn := 40) (f := M 17) hd (by omega) (ent_fix (by decide)) hi (by rw [ent_fix (by decide)]; unfold fixE; simp only [up_self]) (fun m q => eM_17 q) k
theorem iald_M18 {i : Int32} {j : Nat} (hd : decode (kc K) pc = .ok (.iaload, 1)) (hi : inr i 40 j) (k : V g K R Qf kb nb nt h C M o (pc + 1) lv (.int (M 18 j) :: st)) : V g K R Qf kb nb nt h C M o pc lv (.int i :: .ref (ad g 25) :: st) := by
  rw [← hp_ad (g := g) (h := h) (n := 25) (by decide) (by decide)]
  exact V_iald (t0 := 0) (n := 25) (nn := 40) (f := M 18) hd (by omega) (ent_fix (by decide)) hi k
theorem iast_M18 {i x : Int32} {j : Nat} (hd : decode (kc K) pc = .ok (.iastore, 1)) (hi : inr i 40 j) (k : V g K R Qf kb nb nt h C (up M 18 j x) o (pc + 1) lv st) : V g K R Qf kb nb nt h C M o pc lv (.int x :: .int i :: .ref (ad g 25) :: st) := by
  rw [← hp_ad (g := g) (h := h) (n := 25) (by decide) (by decide)]
  exact V_iast (n := 25) (nn := 40) (f := M 18) hd (by omega) (ent_fix (by decide)) hi (by rw [ent_fix (by decide)]; unfold fixE; simp only [up_self]) (fun m q => eM_18 q) k
theorem iald_M19 {i : Int32} {j : Nat} (hd : decode (kc K) pc = .ok (.iaload, 1)) (hi : inr i 40 j) (k : V g K R Qf kb nb nt h C M o (pc + 1) lv (.int (M 19 j) :: st)) : V g K R Qf kb nb nt h C M o pc lv (.int i :: .ref (ad g 26) :: st) := by
  rw [← hp_ad (g := g) (h := h) (n := 26) (by decide) (by decide)]
  exact V_iald (t0 := 0) (n := 26) (nn := 40) (f := M 19) hd (by omega) (ent_fix (by decide)) hi k
theorem iast_M19 {i x : Int32} {j : Nat} (hd : decode (kc K) pc = .ok (.iastore, 1)) (hi : inr i 40 j) (k : V g K R Qf kb nb nt h C (up M 19 j x) o (pc + 1) lv st) : V g K R Qf kb nb nt h C M o pc lv (.int x :: .int i :: .ref (ad g 26) :: st) := by
  rw [← hp_ad (g := g) (h := h) (n := 26) (by decide) (by decide)]
  exact V_iast (n := 26) (nn := 40) (f := M 19) hd (by omega) (ent_fix (by decide)) hi (by rw [ent_fix (by decide)]; unfold fixE; simp only [up_self]) (fun m q => eM_19 q) k
theorem iald_M20 {i : Int32} {j : Nat} (hd : decode (kc K) pc = .ok (.iaload, 1)) (hi : inr i 40 j) (k : V g K R Qf kb nb nt h C M o (pc + 1) lv (.int (M 20 j) :: st)) : V g K R Qf kb nb nt h C M o pc lv (.int i :: .ref (ad g 27) :: st) := by
  rw [← hp_ad (g := g) (h := h) (n := 27) (by decide) (by decide)]
  exact V_iald (t0 := 0) (n := 27) (nn := 40) (f := M 20) hd (by omega) (ent_fix (by decide)) hi k
theorem iast_M20 {i x : Int32} {j : Nat} (hd : decode (kc K) pc = .ok (.iastore, 1)) (hi : inr i 40 j) (k : V g K R Qf kb nb nt h C (up M 20 j x) o (pc + 1) lv st) : V g K R Qf kb nb nt h C M o pc lv (.int x :: .int i :: .ref (ad g 27) :: st) := by
  rw [← hp_ad (g := g) (h := h) (n := 27) (by decide) (by decide)]
  exact V_iast (n := 27) (nn := 40) (f := M 20) hd (by omega) (ent_fix (by decide)) hi (by rw [ent_fix (by decide)]; unfold fixE; simp only [up_self]) (fun m q => eM_20 q) k
theorem iald_M21 {i : Int32} {j : Nat} (hd : decode (kc K) pc = .ok (.iaload, 1)) (hi : inr i 40 j) (k : V g K R Qf kb nb nt h C M o (pc + 1) lv (.int (M 21 j) :: st)) : V g K R Qf kb nb nt h C M o pc lv (.int i :: .ref (ad g 28) :: st) := by
  rw [← hp_ad (g := g) (h := h) (n := 28) (by decide) (by decide)]
  exact V_iald (t0 := 0) (n := 28) (nn := 40) (f := M 21) hd (by omega) (ent_fix (by decide)) hi k
theorem iast_M21 {i x : Int32} {j : Nat} (hd : decode (kc K) pc = .ok (.iastore, 1)) (hi : inr i 40 j) (k : V g K R Qf kb nb nt h C (up M 21 j x) o (pc + 1) lv st) : V g K R Qf kb nb nt h C M o pc lv (.int x :: .int i :: .ref (ad g 28) :: st) := by
  rw [← hp_ad (g := g) (h := h) (n := 28) (by decide) (by decide)]
  exact V_iast (n := 28) (nn := 40) (f := M 21) hd (by omega) (ent_fix (by decide)) hi (by rw [ent_fix (by decide)]; unfold fixE; simp only [up_self]) (fun m q => eM_21 q) k
theorem iald_M22 {i : Int32} {j : Nat} (hd : decode (kc K) pc = .ok (.iaload, 1)) (hi : inr i 40 j) (k : V g K R Qf kb nb nt h C M o (pc + 1) lv (.int (M 22 j) :: st)) : V g K R Qf kb nb nt h C M o pc lv (.int i :: .ref (ad g 29) :: st) := by
  rw [← hp_ad (g := g) (h := h) (n := 29) (by decide) (by decide)]
  exact V_iald (t0 := 0) (n := 29) (nn := 40) (f := M 22) hd (by omega) (ent_fix (by decide)) hi k
theorem iast_M22 {i x : Int32} {j : Nat} (hd : decode (kc K) pc = .ok (.iastore, 1)) (hi : inr i 40 j) (k : V g K R Qf kb nb nt h C (up M 22 j x) o (pc + 1) lv st) : V g K R Qf kb nb nt h C M o pc lv (.int x :: .int i :: .ref (ad g 29) :: st) := by
  rw [← hp_ad (g := g) (h := h) (n := 29) (by decide) (by decide)]
  exact V_iast (n := 29) (nn := 40) (f := M 22) hd (by omega) (ent_fix (by decide)) hi (by rw [ent_fix (by decide)]; unfold fixE; simp only [up_self]) (fun m q => eM_22 q) k
theorem iald_M23 {i : Int32} {j : Nat} (hd : decode (kc K) pc = .ok (.iaload, 1)) (hi : inr i 40 j) (k : V g K R Qf kb nb nt h C M o (pc + 1) lv (.int (M 23 j) :: st)) : V g K R Qf kb nb nt h C M o pc lv (.int i :: .ref (ad g 30) :: st) := by
  rw [← hp_ad (g := g) (h := h) (n := 30) (by decide) (by decide)]
  exact V_iald (t0 := 0) (n := 30) (nn := 40) (f := M 23) hd (by omega) (ent_fix (by decide)) hi k
theorem iast_M23 {i x : Int32} {j : Nat} (hd : decode (kc K) pc = .ok (.iastore, 1)) (hi : inr i 40 j) (k : V g K R Qf kb nb nt h C (up M 23 j x) o (pc + 1) lv st) : V g K R Qf kb nb nt h C M o pc lv (.int x :: .int i :: .ref (ad g 30) :: st) := by
  rw [← hp_ad (g := g) (h := h) (n := 30) (by decide) (by decide)]
  exact V_iast (n := 30) (nn := 40) (f := M 23) hd (by omega) (ent_fix (by decide)) hi (by rw [ent_fix (by decide)]; unfold fixE; simp only [up_self]) (fun m q => eM_23 q) k
theorem iald_M24 {i : Int32} {j : Nat} (hd : decode (kc K) pc = .ok (.iaload, 1)) (hi : inr i 40 j) (k : V g K R Qf kb nb nt h C M o (pc + 1) lv (.int (M 24 j) :: st)) : V g K R Qf kb nb nt h C M o pc lv (.int i :: .ref (ad g 31) :: st) := by
  rw [← hp_ad (g := g) (h := h) (n := 31) (by decide) (by decide)]
  exact V_iald (t0 := 0) (n := 31) (nn := 40) (f := M 24) hd (by omega) (ent_fix (by decide)) hi k
theorem iast_M24 {i x : Int32} {j : Nat} (hd : decode (kc K) pc = .ok (.iastore, 1)) (hi : inr i 40 j) (k : V g K R Qf kb nb nt h C (up M 24 j x) o (pc + 1) lv st) : V g K R Qf kb nb nt h C M o pc lv (.int x :: .int i :: .ref (ad g 31) :: st) := by
  rw [← hp_ad (g := g) (h := h) (n := 31) (by decide) (by decide)]
  exact V_iast (n := 31) (nn := 40) (f := M 24) hd (by omega) (ent_fix (by decide)) hi (by rw [ent_fix (by decide)]; unfold fixE; simp only [up_self]) (fun m q => eM_24 q) k
theorem iald_M25 {i : Int32} {j : Nat} (hd : decode (kc K) pc = .ok (.iaload, 1)) (hi : inr i 40 j) (k : V g K R Qf kb nb nt h C M o (pc + 1) lv (.int (M 25 j) :: st)) : V g K R Qf kb nb nt h C M o pc lv (.int i :: .ref (ad g 32) :: st) := by
  rw [← hp_ad (g := g) (h := h) (n := 32) (by decide) (by decide)]
  exact V_iald (t0 := 0) (n := 32) (nn := 40) (f := M 25) hd (by omega) (ent_fix (by decide)) hi k
theorem iast_M25 {i x : Int32} {j : Nat} (hd : decode (kc K) pc = .ok (.iastore, 1)) (hi : inr i 40 j) (k : V g K R Qf kb nb nt h C (up M 25 j x) o (pc + 1) lv st) : V g K R Qf kb nb nt h C M o pc lv (.int x :: .int i :: .ref (ad g 32) :: st) := by
  rw [← hp_ad (g := g) (h := h) (n := 32) (by decide) (by decide)]
  exact V_iast (n := 32) (nn := 40) (f := M 25) hd (by omega) (ent_fix (by decide)) hi (by rw [ent_fix (by decide)]; unfold fixE; simp only [up_self]) (fun m q => eM_25 q) k
theorem iald_M27 {i : Int32} {j : Nat} (hd : decode (kc K) pc = .ok (.iaload, 1)) (hi : inr i 160 j) (k : V g K R Qf kb nb nt h C M o (pc + 1) lv (.int (M 27 j) :: st)) : V g K R Qf kb nb nt h C M o pc lv (.int i :: .ref (ad g 33) :: st) := by
  rw [← hp_ad (g := g) (h := h) (n := 33) (by decide) (by decide)]
  exact V_iald (t0 := 0) (n := 33) (nn := 160) (f := M 27) hd (by omega) (ent_fix (by decide)) hi k
theorem iast_M27 {i x : Int32} {j : Nat} (hd : decode (kc K) pc = .ok (.iastore, 1)) (hi : inr i 160 j) (k : V g K R Qf kb nb nt h C (up M 27 j x) o (pc + 1) lv st) : V g K R Qf kb nb nt h C M o pc lv (.int x :: .int i :: .ref (ad g 33) :: st) := by
  rw [← hp_ad (g := g) (h := h) (n := 33) (by decide) (by decide)]
  exact V_iast (n := 33) (nn := 160) (f := M 27) hd (by omega) (ent_fix (by decide)) hi (by rw [ent_fix (by decide)]; unfold fixE; simp only [up_self]) (fun m q => eM_27 q) k
theorem iald_M28 {i : Int32} {j : Nat} (hd : decode (kc K) pc = .ok (.iaload, 1)) (hi : inr i 1280 j) (k : V g K R Qf kb nb nt h C M o (pc + 1) lv (.int (M 28 j) :: st)) : V g K R Qf kb nb nt h C M o pc lv (.int i :: .ref (ad g 34) :: st) := by
  rw [← hp_ad (g := g) (h := h) (n := 34) (by decide) (by decide)]
  exact V_iald (t0 := 0) (n := 34) (nn := 1280) (f := M 28) hd (by omega) (ent_fix (by decide)) hi k
theorem iast_M28 {i x : Int32} {j : Nat} (hd : decode (kc K) pc = .ok (.iastore, 1)) (hi : inr i 1280 j) (k : V g K R Qf kb nb nt h C (up M 28 j x) o (pc + 1) lv st) : V g K R Qf kb nb nt h C M o pc lv (.int x :: .int i :: .ref (ad g 34) :: st) := by
  rw [← hp_ad (g := g) (h := h) (n := 34) (by decide) (by decide)]
  exact V_iast (n := 34) (nn := 1280) (f := M 28) hd (by omega) (ent_fix (by decide)) hi (by rw [ent_fix (by decide)]; unfold fixE; simp only [up_self]) (fun m q => eM_28 q) k
theorem iald_M29 {i : Int32} {j : Nat} (hd : decode (kc K) pc = .ok (.iaload, 1)) (hi : inr i 1280 j) (k : V g K R Qf kb nb nt h C M o (pc + 1) lv (.int (M 29 j) :: st)) : V g K R Qf kb nb nt h C M o pc lv (.int i :: .ref (ad g 35) :: st) := by
  rw [← hp_ad (g := g) (h := h) (n := 35) (by decide) (by decide)]
  exact V_iald (t0 := 0) (n := 35) (nn := 1280) (f := M 29) hd (by omega) (ent_fix (by decide)) hi k
theorem iast_M29 {i x : Int32} {j : Nat} (hd : decode (kc K) pc = .ok (.iastore, 1)) (hi : inr i 1280 j) (k : V g K R Qf kb nb nt h C (up M 29 j x) o (pc + 1) lv st) : V g K R Qf kb nb nt h C M o pc lv (.int x :: .int i :: .ref (ad g 35) :: st) := by
  rw [← hp_ad (g := g) (h := h) (n := 35) (by decide) (by decide)]
  exact V_iast (n := 35) (nn := 1280) (f := M 29) hd (by omega) (ent_fix (by decide)) hi (by rw [ent_fix (by decide)]; unfold fixE; simp only [up_self]) (fun m q => eM_29 q) k
theorem iald_M30 {i : Int32} {j : Nat} (hd : decode (kc K) pc = .ok (.iaload, 1)) (hi : inr i 32 j) (k : V g K R Qf kb nb nt h C M o (pc + 1) lv (.int (M 30 j) :: st)) : V g K R Qf kb nb nt h C M o pc lv (.int i :: .ref (ad g 36) :: st) := by
  rw [← hp_ad (g := g) (h := h) (n := 36) (by decide) (by decide)]
  exact V_iald (t0 := 0) (n := 36) (nn := 32) (f := M 30) hd (by omega) (ent_fix (by decide)) hi k
theorem iast_M30 {i x : Int32} {j : Nat} (hd : decode (kc K) pc = .ok (.iastore, 1)) (hi : inr i 32 j) (k : V g K R Qf kb nb nt h C (up M 30 j x) o (pc + 1) lv st) : V g K R Qf kb nb nt h C M o pc lv (.int x :: .int i :: .ref (ad g 36) :: st) := by
  rw [← hp_ad (g := g) (h := h) (n := 36) (by decide) (by decide)]
  exact V_iast (n := 36) (nn := 32) (f := M 30) hd (by omega) (ent_fix (by decide)) hi (by rw [ent_fix (by decide)]; unfold fixE; simp only [up_self]) (fun m q => eM_30 q) k
theorem iald_t0 {t i : Int32} {j : Nat} (ht : tok nt t) (hd : decode (kc K) pc = .ok (.iaload, 1)) (hi : inr i 32 j) (k : V g K R Qf kb nb nt h C M o (pc + 1) lv (.int (C (50 + 3 * t.toNatClampNeg) j) :: st)) : V g K R Qf kb nb nt h C M o pc lv (.int i :: .ref (ad g (73 + 4 * t.toNatClampNeg + 1)) :: st) := by
  have h9 := ht.2
  rw [← hp_ad (g := g) (h := h) (n := 73 + 4 * t.toNatClampNeg + 1) (by omega) (by omega)]
  exact V_iald (t0 := 0) (n := 73 + 4 * t.toNatClampNeg + 1) (nn := 32) (f := C (50 + 3 * t.toNatClampNeg)) hd (by omega) (ent_tx (r := 1) (by omega)) hi k
theorem iast_t0 {t i x : Int32} {j : Nat} (ht : tok nt t) (hd : decode (kc K) pc = .ok (.iastore, 1)) (hi : inr i 32 j) (k : V g K R Qf kb nb nt h (up C (50 + 3 * t.toNatClampNeg) j x) M o (pc + 1) lv st) : V g K R Qf kb nb nt h C M o pc lv (.int x :: .int i :: .ref (ad g (73 + 4 * t.toNatClampNeg + 1)) :: st) := by
  have h9 := ht.2
  rw [← hp_ad (g := g) (h := h) (n := 73 + 4 * t.toNatClampNeg + 1) (by omega) (by omega)]
  exact V_iast (n := 73 + 4 * t.toNatClampNeg + 1) (nn := 32) (f := C (50 + 3 * t.toNatClampNeg)) hd (by omega) (ent_tx (r := 1) (by omega)) hi (by rw [ent_tx (r := 1) (by omega)]; unfold txE; simp [up_self]) (fun m q => eC_t0 q) k
theorem iald_t1 {t i : Int32} {j : Nat} (ht : tok nt t) (hd : decode (kc K) pc = .ok (.iaload, 1)) (hi : inr i 32 j) (k : V g K R Qf kb nb nt h C M o (pc + 1) lv (.int (C (51 + 3 * t.toNatClampNeg) j) :: st)) : V g K R Qf kb nb nt h C M o pc lv (.int i :: .ref (ad g (73 + 4 * t.toNatClampNeg + 2)) :: st) := by
  have h9 := ht.2
  rw [← hp_ad (g := g) (h := h) (n := 73 + 4 * t.toNatClampNeg + 2) (by omega) (by omega)]
  exact V_iald (t0 := 0) (n := 73 + 4 * t.toNatClampNeg + 2) (nn := 32) (f := C (51 + 3 * t.toNatClampNeg)) hd (by omega) (ent_tx (r := 2) (by omega)) hi k
theorem iast_t1 {t i x : Int32} {j : Nat} (ht : tok nt t) (hd : decode (kc K) pc = .ok (.iastore, 1)) (hi : inr i 32 j) (k : V g K R Qf kb nb nt h (up C (51 + 3 * t.toNatClampNeg) j x) M o (pc + 1) lv st) : V g K R Qf kb nb nt h C M o pc lv (.int x :: .int i :: .ref (ad g (73 + 4 * t.toNatClampNeg + 2)) :: st) := by
  have h9 := ht.2
  rw [← hp_ad (g := g) (h := h) (n := 73 + 4 * t.toNatClampNeg + 2) (by omega) (by omega)]
  exact V_iast (n := 73 + 4 * t.toNatClampNeg + 2) (nn := 32) (f := C (51 + 3 * t.toNatClampNeg)) hd (by omega) (ent_tx (r := 2) (by omega)) hi (by rw [ent_tx (r := 2) (by omega)]; unfold txE; simp [up_self]) (fun m q => eC_t1 q) k
theorem iald_t2 {t i : Int32} {j : Nat} (ht : tok nt t) (hd : decode (kc K) pc = .ok (.iaload, 1)) (hi : inr i 4 j) (k : V g K R Qf kb nb nt h C M o (pc + 1) lv (.int (C (52 + 3 * t.toNatClampNeg) j) :: st)) : V g K R Qf kb nb nt h C M o pc lv (.int i :: .ref (ad g (73 + 4 * t.toNatClampNeg + 3)) :: st) := by
  have h9 := ht.2
  rw [← hp_ad (g := g) (h := h) (n := 73 + 4 * t.toNatClampNeg + 3) (by omega) (by omega)]
  exact V_iald (t0 := 0) (n := 73 + 4 * t.toNatClampNeg + 3) (nn := 4) (f := C (52 + 3 * t.toNatClampNeg)) hd (by omega) (ent_tx (r := 3) (by omega)) hi k
theorem iast_t2 {t i x : Int32} {j : Nat} (ht : tok nt t) (hd : decode (kc K) pc = .ok (.iastore, 1)) (hi : inr i 4 j) (k : V g K R Qf kb nb nt h (up C (52 + 3 * t.toNatClampNeg) j x) M o (pc + 1) lv st) : V g K R Qf kb nb nt h C M o pc lv (.int x :: .int i :: .ref (ad g (73 + 4 * t.toNatClampNeg + 3)) :: st) := by
  have h9 := ht.2
  rw [← hp_ad (g := g) (h := h) (n := 73 + 4 * t.toNatClampNeg + 3) (by omega) (by omega)]
  exact V_iast (n := 73 + 4 * t.toNatClampNeg + 3) (nn := 4) (f := C (52 + 3 * t.toNatClampNeg)) hd (by omega) (ent_tx (r := 3) (by omega)) hi (by rw [ent_tx (r := 3) (by omega)]; unfold txE; simp [up_self]) (fun m q => eC_t2 q) k
theorem aald_nodes {i : Int32} {j : Nat} (hd : decode (kc K) pc = .ok (.aaload, 1)) (hi : inr i 4 j) (k : V g K R Qf kb nb nt h C M o (pc + 1) lv (.ref (ad g (37 + j)) :: st)) : V g K R Qf kb nb nt h C M o pc lv (.int i :: .ref (ad g 1) :: st) := by
  rw [← hp_ad (g := g) (h := h) (n := 1) (by decide) (by decide)]
  exact V_aald (n := 1) (nn := 4) (t0 := 3) (Cn := RX2) (f := fun k => some (ad g (37 + k))) hd (by omega) (ent_fix (by decide)) rfl hi k
theorem aald_cells {i : Int32} {j : Nat} (hd : decode (kc K) pc = .ok (.aaload, 1)) (hi : inr i 32 j) (k : V g K R Qf kb nb nt h C M o (pc + 1) lv (.ref (ad g (41 + j)) :: st)) : V g K R Qf kb nb nt h C M o pc lv (.int i :: .ref (ad g 2) :: st) := by
  rw [← hp_ad (g := g) (h := h) (n := 2) (by decide) (by decide)]
  exact V_aald (n := 2) (nn := 32) (t0 := 4) (Cn := RX0) (f := fun k => some (ad g (41 + k))) hd (by omega) (ent_fix (by decide)) rfl hi k
theorem aald_trs {i : Int32} {j : Nat} (hd : decode (kc K) pc = .ok (.aaload, 1)) (hi : inr i 40 j) (k : V g K R Qf kb nb nt h C M o (pc + 1) lv (va_rf (trO g (C 33 j)) :: st)) : V g K R Qf kb nb nt h C M o pc lv (.int i :: .ref (ad g 3) :: st) := by
  rw [← hp_ad (g := g) (h := h) (n := 3) (by decide) (by decide)]
  exact V_aald (n := 3) (nn := 40) (t0 := 5) (Cn := RX3) (f := fun k => trO g (C 33 k)) hd (by omega) (ent_fix (by decide)) rfl hi k
theorem aald_ord {i : Int32} {j : Nat} (hd : decode (kc K) pc = .ok (.aaload, 1)) (hi : inr i 40 j) (k : V g K R Qf kb nb nt h C M o (pc + 1) lv (va_rf (trO g (C 30 j)) :: st)) : V g K R Qf kb nb nt h C M o pc lv (.int i :: .ref (ad g 7) :: st) := by
  rw [← hp_ad (g := g) (h := h) (n := 7) (by decide) (by decide)]
  exact V_aald (n := 7) (nn := 40) (t0 := 5) (Cn := RX3) (f := fun k => trO g (C 30 k)) hd (by omega) (ent_fix (by decide)) rfl hi k
theorem nI_self {x : Int32} (h : ¬ x < 0) : nI x.toNatClampNeg = x := by
  obtain ⟨j, hj, rfl⟩ := nI_of h
  rw [nI_clamp hj]
theorem tok_ext {nt : Nat} {x y : Int32} (hx : tok nt x) (hy : tok nt y) (e : x.toNatClampNeg = y.toNatClampNeg) : x = y := by
  rw [← nI_self hx.1, ← nI_self hy.1, e]
theorem trO_none {g : GT} {x : Int32} : trO g x = none ↔ x < 0 := by
  unfold trO
  by_cases h : x < 0 <;> simp [h]
def trv (nt : Nat) (x : Int32) : Prop := x = -1 ∨ tok nt x
theorem trO_inj {g : GT} {nt : Nat} {h : Nat × Nat} {C M : St} {o : Int64} {H : Heap} (hR : Rep g nt h C M o H) {x y : Int32} (hx : trv nt x) (hy : trv nt y) : trO g x = trO g y ↔ x = y := by
  constructor
  · intro e
    rcases hx with hx | hx
    · subst hx
      rcases hy with hy | hy
      · exact hy.symm
      · rw [trO_none.mpr (by decide)] at e
        exact absurd (trO_none.mp e.symm) hy.1
    · rcases hy with hy | hy
      · subst hy
        rw [trO_none.mpr (show (-1 : Int32) < 0 by decide)] at e
        exact absurd (trO_none.mp e) hx.1
      · have h1 := hx.2
        have h2 := hy.2
        unfold trO at e
        rw [if_neg hx.1, if_neg hy.1] at e
        have e2 := Option.some.inj e
        have e3 := hR.2.1 _ _ _ _ (wld_at (show 73 + 4 * x.toNatClampNeg < 73 + 4 * nt by omega)) (wld_at (show 73 + 4 * y.toNatClampNeg < 73 + 4 * nt by omega)) (by show hp g h _ = hp g h _; rw [hp_ad (by omega) (by omega), hp_ad (by omega) (by omega)]; exact e2)
        exact tok_ext hx hy (by omega)
  · intro e
    rw [e]
theorem V_acmpt_eq {x y : Int32} {off : Int} {tgt : Nat} (hd : decode (kc K) pc = .ok (.if_acmp .eq off, 3)) (ht : (pc : Int) + off = (tgt : Int)) (hx : trv nt x) (hy : trv nt y) (k1 : x = y → V g K R Qf kb nb nt h C M o tgt lv st) (k2 : ¬ x = y → V g K R Qf kb nb nt h C M o (pc + 3) lv st) : V g K R Qf kb nb nt h C M o pc lv (va_rf (trO g y) :: va_rf (trO g x) :: st) := by
  intro p e s m args below meth c H locs k3 n1 ls X h1 h2 hR hS hl hc
  have q := trO_inj hR hx hy
  exact lv_acmp_eq X.1 X.2.1 hd ht (fun z => k1 (q.mp z) p e s m args below meth c H locs k3 n1 ls X h1 h2 hR hS hl hc) (fun z => k2 (fun w => z (q.mpr w)) p e s m args below meth c H locs k3 n1 ls X h1 h2 hR hS hl hc)
theorem V_acmpt_ne {x y : Int32} {off : Int} {tgt : Nat} (hd : decode (kc K) pc = .ok (.if_acmp .ne off, 3)) (ht : (pc : Int) + off = (tgt : Int)) (hx : trv nt x) (hy : trv nt y) (k1 : ¬ x = y → V g K R Qf kb nb nt h C M o tgt lv st) (k2 : x = y → V g K R Qf kb nb nt h C M o (pc + 3) lv st) : V g K R Qf kb nb nt h C M o pc lv (va_rf (trO g y) :: va_rf (trO g x) :: st) := by
  intro p e s m args below meth c H locs k3 n1 ls X h1 h2 hR hS hl hc
  have q := trO_inj hR hx hy
  exact lv_acmp_ne X.1 X.2.1 hd ht (fun z => k1 (fun w => z (q.mpr w)) p e s m args below meth c H locs k3 n1 ls X h1 h2 hR hS hl hc) (fun z => k2 (q.mp z) p e s m args below meth c H locs k3 n1 ls X h1 h2 hR hS hl hc)
theorem V_ifnullt {x : Int32} {off : Int} {tgt : Nat} (hd : decode (kc K) pc = .ok (.ifnull off, 3)) (ht : (pc : Int) + off = (tgt : Int)) (k1 : x < 0 → V g K R Qf kb nb nt h C M o tgt lv st) (k2 : ¬ x < 0 → V g K R Qf kb nb nt h C M o (pc + 3) lv st) : V g K R Qf kb nb nt h C M o pc lv (va_rf (trO g x) :: st) := V_ifnull hd ht (fun q => k1 (trO_none.mp q)) (fun q => k2 (fun w => q (trO_none.mpr w)))
theorem V_ifnonnullt {x : Int32} {off : Int} {tgt : Nat} (hd : decode (kc K) pc = .ok (.ifnonnull off, 3)) (ht : (pc : Int) + off = (tgt : Int)) (k1 : ¬ x < 0 → V g K R Qf kb nb nt h C M o tgt lv st) (k2 : x < 0 → V g K R Qf kb nb nt h C M o (pc + 3) lv st) : V g K R Qf kb nb nt h C M o pc lv (va_rf (trO g x) :: st) := V_ifnonnull hd ht (fun q => k1 (fun w => q (trO_none.mpr w))) (fun q => k2 (trO_none.mp q))
theorem aast_ord {i t : Int32} {j : Nat} (ht : tok nt t) (hd : decode (kc K) pc = .ok (.aastore, 1)) (hi : inr i 40 j) (k : V g K R Qf kb nb nt h (up C 30 j t) M o (pc + 1) lv st) : V g K R Qf kb nb nt h C M o pc lv (va_rf (trO g t) :: .int i :: .ref (ad g 7) :: st) := by
  intro p e s m args below meth c H locs k1 n1 ls X h1 h2 hR hS hl hc
  obtain ⟨x1, x2, x3, x4, x5, x6, x7, x8, x9⟩ := id X
  have ht2 := ht.2
  have hq : trO g t = some (hp g h (73 + 4 * t.toNatClampNeg)) := by
    unfold trO
    rw [if_neg ht.1, hp_ad (by omega) (by omega)]
  rw [tok_rf (h := h) ht, ← hp_ad (g := g) (h := h) (n := 7) (by decide) (by decide)]
  refine va_astq x1 x2 x9.1 hR.1 hR.2 hS 7 5 (73 + 4 * t.toNatClampNeg) 3 (r := (RX3, TX3, 15)) (f := fun k => trO g (C 30 k)) ((wld_at (by omega)).trans (by rw [ent_fix (by decide)]; rfl)) rfl ((wld_at (by omega)).trans (by rw [ent_txO]; rfl)) rfl hi.1 hd (fun H1 locs1 hP hD hS1 => ?_)
  have e1 : ent g h (up C 30 j t) M o 7 = rA g 5 40 (va_up (fun k => trO g (C 30 k)) i.toNatClampNeg (some (hp g h (73 + 4 * t.toNatClampNeg)))) := by
    have e0 : (fun k => trO g (up C 30 j t 30 k)) = va_up (fun k => trO g (C 30 k)) i.toNatClampNeg (some (hp g h (73 + 4 * t.toNatClampNeg))) := by
      funext q
      rw [hi.2]
      by_cases e : q = j
      · subst e
        simp [up, va_up, hq]
      · simp [up, va_up, e]
    rw [ent_fix (by decide)]
    show rA g 5 40 (fun k => trO g (up C 30 j t 30 k)) = _
    rw [e0]
  have e3 := wld_set (nt := nt) (C' := up C 30 j t) (M' := M) (o' := o) (show 7 < 73 + 4 * nt by omega) e1 (fun m q => eC_30 q)
  unfold rA at e3
  rw [e3] at hP hD
  exact k p e s m args below meth c H1 locs1 k1 n1 ls X h1 h2 ⟨hP, hD⟩ hS1 hl hc
theorem aast_trs {i t : Int32} {j : Nat} (ht : tok nt t) (hd : decode (kc K) pc = .ok (.aastore, 1)) (hi : inr i 40 j) (k : V g K R Qf kb nb nt h (up C 33 j t) M o (pc + 1) lv st) : V g K R Qf kb nb nt h C M o pc lv (va_rf (trO g t) :: .int i :: .ref (ad g 3) :: st) := by
  intro p e s m args below meth c H locs k1 n1 ls X h1 h2 hR hS hl hc
  obtain ⟨x1, x2, x3, x4, x5, x6, x7, x8, x9⟩ := id X
  have ht2 := ht.2
  have hq : trO g t = some (hp g h (73 + 4 * t.toNatClampNeg)) := by
    unfold trO
    rw [if_neg ht.1, hp_ad (by omega) (by omega)]
  rw [tok_rf (h := h) ht, ← hp_ad (g := g) (h := h) (n := 3) (by decide) (by decide)]
  refine va_astq x1 x2 x9.1 hR.1 hR.2 hS 3 5 (73 + 4 * t.toNatClampNeg) 3 (r := (RX3, TX3, 15)) (f := fun k => trO g (C 33 k)) ((wld_at (by omega)).trans (by rw [ent_fix (by decide)]; rfl)) rfl ((wld_at (by omega)).trans (by rw [ent_txO]; rfl)) rfl hi.1 hd (fun H1 locs1 hP hD hS1 => ?_)
  have e1 : ent g h (up C 33 j t) M o 3 = rA g 5 40 (va_up (fun k => trO g (C 33 k)) i.toNatClampNeg (some (hp g h (73 + 4 * t.toNatClampNeg)))) := by
    have e0 : (fun k => trO g (up C 33 j t 33 k)) = va_up (fun k => trO g (C 33 k)) i.toNatClampNeg (some (hp g h (73 + 4 * t.toNatClampNeg))) := by
      funext q
      rw [hi.2]
      by_cases e : q = j
      · subst e
        simp [up, va_up, hq]
      · simp [up, va_up, e]
    rw [ent_fix (by decide)]
    show rA g 5 40 (fun k => trO g (up C 33 j t 33 k)) = _
    rw [e0]
  have e3 := wld_set (nt := nt) (C' := up C 33 j t) (M' := M) (o' := o) (show 3 < 73 + 4 * nt by omega) e1 (fun m q => eC_33 q)
  unfold rA at e3
  rw [e3] at hP hD
  exact k p e s m args below meth c H1 locs1 k1 n1 ls X h1 h2 ⟨hP, hD⟩ hS1 hl hc
end HEAP
end
section
/-! contracts over our world: entry, returns, throws, calls -/
abbrev PT : Type := Option Value → St → St → Int64 → Prop
abbrev XT : Type := String → St → St → Int64 → Prop
def vQ (g : GT) (nt : Nat) (Po : PT) : Array Value → State → Outcome → State → Prop := fun _ st oc t => ∃ (v : Option Value) (h : Nat × Nat) (C M : St) (o : Int64), oc = .returned v ∧ Po v C M o ∧ Rep g nt h C M o t.heap ∧ va_F (gA g) st t
def vX (g : GT) (nt : Nat) (Px : XT) : String → State → State → Prop := fun E st t => ∃ (h : Nat × Nat) (C M : St) (o : Int64), Px E C M o ∧ Rep g nt h C M o t.heap ∧ va_F (gA g) st t
def kR (K : MK) (mc ms : Nat) : Room := { frames := kf K, cells := mc, slots := ms, locals := klo K }
def MT (g : GT) (K : MK) (mc ms : Nat) (av : List Value) (nt : Nat) (C M : St) (o : Int64) (Po : PT) (Px : XT) : Prop := ∀ h, vx_Met (gl g) (ky K) (kws K) (kR K mc ms) (va_Pc av (World g nt h C M o)) (vQ g nt Po) (vX g nt Px) mc ms (gA g)
def qM (g : GT) (mc ms nt : Nat) (Po : PT) (Px : XT) : QT := fun below args s => vx_MQ below (vQ g nt Po) (vX g nt Px) args s mc ms (gA g)
def larg : Nat → List Value → List (Nat × Value)
  | _, [] => []
  | i, v :: vs => (i, v) :: larg (i + 1) vs
theorem lg_sl1 : ∀ {vs : List Value}, (∀ v ∈ vs, v.category = 1) → lg_sl vs = vs.map Slot.val
  | [], _ => rfl
  | v :: vs, h => by
    have h1 := h v List.mem_cons_self
    have ih := lg_sl1 (vs := vs) (fun w hw => h w (List.mem_cons_of_mem _ hw))
    unfold lg_sl at ih ⊢
    rw [List.flatMap_cons, ih, if_neg (by omega)]
    rfl
theorem lv_args1 : ∀ {vs : List Value} {i : Nat}, (∀ v ∈ vs, v.category = 1) → lv_args i vs = larg i vs
  | [], _, _ => rfl
  | v :: vs, i, h => by
    have h1 := h v List.mem_cons_self
    have ih := lv_args1 (vs := vs) (i := i + 1) (fun w hw => h w (List.mem_cons_of_mem _ hw))
    unfold lv_args larg
    rw [if_neg (by omega), ih]
theorem larg_cat : ∀ {vs : List Value} {i : Nat}, (∀ v ∈ vs, v.category = 1) → ∀ q ∈ larg i vs, q.2.category = 1
  | [], _, _, q, hq => by cases hq
  | v :: vs, i, h, q, hq => by
    rcases List.mem_cons.mp hq with rfl | hq
    · exact h v List.mem_cons_self
    · exact larg_cat (fun w hw => h w (List.mem_cons_of_mem _ hw)) q hq
theorem Sx.calling {g : GT} {U : State} (h : Sx g U) (j : JFrame) (mk : MethodId) (a : Array Value) : Sx g (U.calling j mk a) := by
  obtain ⟨h1, h2, h3, h4, h5, h7, h6⟩ := h
  refine ⟨va_K.moved (u := U) (U := U.calling j mk a) (Vm.Alike.refl U.vm) h1, vx_Zq.moved (u := U) (U := U.calling j mk a) (Vm.Alike.refl U.vm) h2, vx_Zq.moved (u := U) (U := U.calling j mk a) (Vm.Alike.refl U.vm) h3, fun q hq => ?_, fun q hq => cast_moved (u := U) (U := U.calling j mk a) (Vm.Alike.refl U.vm) (h5 q hq), fun q hq => dec_moved (u := U) (U := U.calling j mk a) (Vm.Alike.refl U.vm) (h7 q hq), h6⟩
  obtain ⟨x, hx⟩ := h4 q hq
  exact ⟨x, vk_R.same (u := U) (U := U.calling j mk a) rfl hx⟩
theorem blindW {av : List Value} {g : GT} {nt : Nat} {h : Nat × Nat} {C M : St} {o : Int64} : FrameBlind (va_Pc av (World g nt h C M o)) := by
  intro a U j mk q
  exact ⟨q.1, q.2.1, q.2.2.calling j mk a⟩
theorem MT_of {g : GT} {K : MK} {mc ms : Nat} {av : List Value} {nt : Nat} {C M : St} {o : Int64} {Po : PT} {Px : XT} (hy : plainName (ky K).cls = true) (hown : ko K = (ky K).cls) (hh : kh K = []) (hlen : av.length ≤ kL K) (hcat : ∀ v ∈ av, v.category = 1) (body : ∀ h, V g K (kR K mc ms) (qM g mc ms nt Po Px) 0 0 nt h C M o 0 (larg 0 av) []) : MT g K mc ms av nt C M o Po Px := by
  intro h
  refine vx_ofW (cc := kc K) (maxL := kL K) (ret := kr K) hy rfl ?_
  intro p e s m args below meth c s₁ B hml ht hv
  obtain ⟨rfl, hR, hSx⟩ := hv
  have hts := atoms_spec (ws := kws K) B.pre
  have hown' : s.vm.findClass (ko K) = some m.cls := by rw [hown]; exact findClass_of_methodNamed B.named
  have hl := lv_entry av (n := kL K) (by rw [lg_sl1 hcat, List.length_map]; exact hlen)
  rw [lv_args1 hcat] at hl
  rw [lg_entry_eq]
  have htab : c.exceptionTable.toList = tableOf (kh K) := by
    rw [hh]
    exact List.eq_nil_iff_forall_not_mem.mpr (fun x hx => ht x hx)
  exact body h p e s m _ below meth c s.heap [] 0 0 _ ⟨B.exec, B.bytes, B.returns, hml, hown', fun w hw => hts w (List.mem_cons_of_mem _ hw), B.notSynchronized, htab, hSx⟩ (Nat.le_refl _) (Nat.le_refl _) hR va_S.rf hl (larg_cat hcat)
section RET
variable {g : GT} {K : MK} {mc ms nt : Nat} {Po : PT} {Px : XT} {kb nb : Nat} {h : Nat × Nat} {C M : St} {o : Int64} {pc : Nat} {lv : List (Nat × Value)}
theorem V_iret {x : Int32} (hd : decode (kc K) pc = .ok (.ireturn, 1)) (hr : kr K = some .int) (hk : kb ≤ mc) (hn : nb ≤ ms) (hp : Po (some (.int x)) C M o) : V g K (kR K mc ms) (qM g mc ms nt Po Px) kb nb nt h C M o pc lv [.int x] := by
  intro p e s m args below meth c H locs k1 n1 ls X h1 h2 hR hS hl hc
  obtain ⟨x1, x2, x3, x4, x5, x6, hlocks, x8, x9⟩ := id X
  refine vx_ret ?_
  refine W.widen (k := mc) (n := ms) (Nat.le_trans h1 hk) (Nat.le_trans h2 hn) ?_
  exact W.iret x1 x2 (x3.trans hr) (fun t ht hW => ⟨_, h, C, M, o, rfl, hp, by rw [ht]; exact hR, hS.F ht⟩) hS.2.2 hd
theorem V_zret {x : Int32} (hd : decode (kc K) pc = .ok (.ireturn, 1)) (hr : kr K = some .boolean) (hb : narrow .boolean (.int x) = .int x) (hk : kb ≤ mc) (hn : nb ≤ ms) (hp : Po (some (.int x)) C M o) : V g K (kR K mc ms) (qM g mc ms nt Po Px) kb nb nt h C M o pc lv [.int x] := by
  intro p e s m args below meth c H locs k1 n1 ls X h1 h2 hR hS hl hc
  obtain ⟨x1, x2, x3, x4, x5, x6, hlocks, x8, x9⟩ := id X
  refine vx_ret ?_
  refine W.widen (k := mc) (n := ms) (Nat.le_trans h1 hk) (Nat.le_trans h2 hn) ?_
  exact W.zret x1 x2 (x3.trans hr) hb (fun t ht hW => ⟨_, h, C, M, o, rfl, hp, by rw [ht]; exact hR, hS.F ht⟩) hS.2.2 hd
theorem V_vret (hd : decode (kc K) pc = .ok (.return_, 1)) (hr : kr K = none) (hk : kb ≤ mc) (hn : nb ≤ ms) (hp : Po none C M o) : V g K (kR K mc ms) (qM g mc ms nt Po Px) kb nb nt h C M o pc lv [] := by
  intro p e s m args below meth c H locs k1 n1 ls X h1 h2 hR hS hl hc
  obtain ⟨x1, x2, x3, x4, x5, x6, hlocks, x8, x9⟩ := id X
  refine vx_ret ?_
  refine W.widen (k := mc) (n := ms) (Nat.le_trans h1 hk) (Nat.le_trans h2 hn) ?_
  exact W.vret x1 x2 (x3.trans hr) (fun t ht hW => ⟨_, h, C, M, o, rfl, hp, by rw [ht]; exact hR, hS.F ht⟩) hS.2.2 hd
theorem V_aret {r : Option Nat} {Cn : String} (hd : decode (kc K) pc = .ok (.areturn, 1)) (hr : kr K = some (.object Cn)) (hk : kb ≤ mc) (hn : nb ≤ ms) (hp : Po (some (va_rf r)) C M o) : V g K (kR K mc ms) (qM g mc ms nt Po Px) kb nb nt h C M o pc lv [va_rf r] := by
  intro p e s m args below meth c H locs k1 n1 ls X h1 h2 hR hS hl hc
  obtain ⟨x1, x2, x3, x4, x5, x6, hlocks, x8, x9⟩ := id X
  refine vx_ret ?_
  refine W.widen (k := mc) (n := ms) (Nat.le_trans h1 hk) (Nat.le_trans h2 hn) ?_
  exact W.aret x1 x2 (x3.trans hr) (Or.inl ⟨_, rfl⟩) (by cases r with | none => exact Or.inl rfl | some a => exact Or.inr ⟨a, rfl⟩) (fun t ht hW => ⟨_, h, C, M, o, rfl, hp, by rw [ht]; exact hR, hS.F ht⟩) hS.2.2 hd
theorem Rep.kept {g : GT} {nt : Nat} {h : Nat × Nat} {C M : St} {o : Int64} {H H1 : Heap} (hR : Rep g nt h C M o H) (hq : ∀ q : Nat, q < H.size → H1[q]? = H[q]?) : Rep g nt h C M o H1 := ⟨hR.1.kept (fun k q hk => hq q.1 (hR.1 k q hk).lt), hR.2⟩
theorem V_throw {cls text : String} {ik is ic : Nat} (ho : ko K = RX4) (hh : kh K = []) (hcls : Bundle.fit cls = true) (hk : Cond.classLink RX4 ik cls ∈ gtbl) (hini : Cond.initialized cls ∈ gtbl) (hstr : (RX4, is, text) ∈ strT) (hat : ∀ w ∈ vx_atS RX4 ic cls ["java/lang/RuntimeException", "java/lang/Exception"], w ∈ gtbl ∨ w = Cond.castable cls cls ∨ ∃ y ∈ decT, w = Cond.declares y) (hca : (cls, cls) ∈ castT) (hgood : ∀ w ∈ Cond.classLink RX4 ik cls :: Cond.initialized cls :: vx_atS RX4 ic cls ["java/lang/RuntimeException", "java/lang/Exception"], vx_ot w = true)
    (d0 : decode (kc K) pc = .ok (.new ik, 3)) (d3 : decode (kc K) (pc + 3) = .ok (.dup, 1)) (d4 : decode (kc K) (pc + 4) = .ok (.ldc is, 2)) (d6 : decode (kc K) (pc + 6) = .ok (.invokespecial ic, 3)) (d9 : decode (kc K) (pc + 9) = .ok (.athrow, 1)) (hf : 5 < kf K) (hlo : 82 ≤ klo K) (hc : kb + 1 ≤ mc) (hs : nb + 6 ≤ ms) (hp : Px cls C M o) : V g K (kR K mc ms) (qM g mc ms nt Po Px) kb nb nt h C M o pc lv [] := by
  intro p e s m args below meth c H locs k1 n1 ls X h1 h2 hR hS hl hcc
  obtain ⟨x1, x2, x3, x4, x5, x6, hlocks, x8, x9⟩ := id X
  obtain ⟨s1, s2, s3, s4, s5, s7, s6⟩ := id x9
  obtain ⟨sa, hsa⟩ := s4 _ hstr
  have x5' : s.vm.findClass RX4 = some m.cls := by rw [← ho]; exact x5
  refine vx_throwS (names := ["java/lang/RuntimeException", "java/lang/Exception"]) (A := gA g) (own := RX4) (cls := cls) (text := text) (ik := ik) (is := is) (ic := ic) (sa := sa) x1 x2 s6 x5' hcls (by decide +kernel) (x6 _ hk) (x6 _ hini) hsa (fun w hw => ?_) hgood s2 s3 hS (hl.1.trans x4.symm) d0 d3 d4 d6 d9 ?_ (by show 5 < _; exact hf) (by show _ ≤ klo K; simpa using hlo) (by show k1 + 1 ≤ mc; omega) (by show n1 + 6 ≤ ms; omega) hlocks ?_ hS.2.2 (by omega) (by omega)
  · rcases hat w hw with q | q | ⟨y, hy, q⟩
    · exact x6 w q
    · rw [q]
      exact cast_moved (Vm.Alike.refl s.vm) (s5 _ hca)
    · rw [q]
      exact dec_moved (Vm.Alike.refl s.vm) (s7 y hy)
  · have x8' : c.exceptionTable.toList = tableOf (kh K) := x8
    rw [x8', hh]
    intro x hx
    cases hx
  · intro t hA hz hq
    exact ⟨h, C, M, o, hp, Rep.kept hR hq, Nat.le_trans hS.1 hz, fun q h3 h4 => (hq q (Nat.lt_of_lt_of_le h3 hS.1)).trans (hS.2.1 q h3 h4)⟩
end RET
/-- a thrown exception over this frame -/
def VX (g : GT) (K : MK) (R : Room) (Qf : QT) (kb nb nt : Nat) (h : Nat × Nat) (C M : St) (o : Int64) (pc : Nat) (lv : List (Nat × Value)) (st : List Value) (E : String) : Prop :=
  ∀ (p : Program) (e : Env) (s : State) (m : MethodId) (args : Array Value) (below : List Frame) (meth : Method) (c : Code) (H : Heap) (locs : List Loc) (k n : Nat) (ls : Array Slot) (q9 : Nat) (ce : Cell),
    Cx g K p s m args meth c → k ≤ kb → n ≤ nb → Rep g nt h C M o H → va_S (gA g) s.heap H locs → lv_has ls (kL K) lv → (∀ q ∈ lv, q.2.category = 1) → H[q9]? = some ce → ce.vm = .none → s.vm.findClass E = some ce.cls →
    vx_W p (gl g) e R s m args below meth c H locs k n (Qf below args s) (F0 m pc ls st) q9
theorem VX_out {g : GT} {K : MK} {mc ms nt : Nat} {Po : PT} {Px : XT} {kb nb : Nat} {h : Nat × Nat} {C M : St} {o : Int64} {pc : Nat} {lv : List (Nat × Value)} {st : List Value} {E : String} (hh : kh K = []) (hk : kb ≤ mc) (hn : nb ≤ ms) (hp : Px E C M o) : VX g K (kR K mc ms) (qM g mc ms nt Po Px) kb nb nt h C M o pc lv st E := by
  intro p e s m args below meth c H locs k1 n1 ls q9 ce X h1 h2 hR hS hl hc hce hv hcl
  obtain ⟨x1, x2, x3, x4, x5, x6, hlocks, x8, x9⟩ := id X
  have x8' : c.exceptionTable.toList = tableOf (kh K) := x8
  refine vx_out (by rw [x8', hh]; intro x hx; cases hx) hlocks hce hv hcl (fun t ht hA => ⟨h, C, M, o, hp, by rw [ht]; exact hR, hS.F ht⟩) hS.2.2 (Nat.le_trans h1 hk) (Nat.le_trans h2 hn)
def LV (own : String) (idx : Nat) (Cn : String) (K : MK) (n : Nat) : Prop := Cond.methodLink own idx (ky K) ∈ gtbl ∧ Cond.instanceMethod (ky K) ∈ gtbl ∧ Cond.selects Cn (ky K) (ky K) ∈ gtbl ∧ Cond.initialized (ky K).cls ∈ gtbl ∧ Cond.code (ky K) (kc K) (kL K) (kr K) ∈ gtbl ∧ ((ky K).cls ≠ "java/lang/invoke/MethodHandle" ∧ (ky K).cls ≠ "java/lang/invoke/VarHandle" ∧ (parseMethodDescriptor (ky K).desc).map (fun d => d.parameters.length) = some n)
def LSt (own : String) (idx : Nat) (K : MK) (n : Nat) : Prop := Cond.methodLink own idx (ky K) ∈ gtbl ∧ Cond.static (ky K) ∈ gtbl ∧ Cond.initialized (ky K).cls ∈ gtbl ∧ Cond.code (ky K) (kc K) (kL K) (kr K) ∈ gtbl ∧ ((ky K).cls ≠ "java/lang/invoke/MethodHandle" ∧ (ky K).cls ≠ "java/lang/invoke/VarHandle" ∧ (parseMethodDescriptor (ky K).desc).map (fun d => d.parameters.length) = some n)
theorem good_kws {K : MK} (hc : Cond.code (ky K) (kc K) (kL K) (kr K) ∈ gtbl) : GoodIn gtbl (kws K) := by
  intro w hw
  rcases List.mem_cons.mp hw with rfl | hw
  · exact ⟨hc, good_of_word (gtbl_good hc)⟩
  · exact ⟨hw, good_of_word (gtbl_good hw)⟩
section CALL
variable {g : GT} {K : MK} {R : Room} {Qf : QT} {kb nb nt : Nat} {h : Nat × Nat} {C M : St} {o : Int64} {pc : Nat} {lv : List (Nat × Value)} {st : List Value} {Y : MK} {mc ms : Nat} {Po : PT} {Px : XT}
theorem V_run {As st0 : List Value} {p : Program} {e : Env} {s : State} {m : MethodId} {args : Array Value} {below : List Frame} {meth : Method} {c : Code} {H : Heap} {locs : List Loc} {k n : Nat} {ls : Array Slot}
    (hr : vx_Run p (gl g) e R s m args below meth c H locs k n mc ms (F0 m pc ls st0) st (vQ g nt Po As.toArray) (vX g nt Px) (gA g)) (X : Cx g K p s m args meth c) (h1 : k ≤ kb) (h2 : n ≤ nb) (hS : va_S (gA g) s.heap H locs) (hl : lv_has ls (kL K) lv) (hc : ∀ q ∈ lv, q.2.category = 1)
    (kk : ∀ v h' C' M' o', Po v C' M' o' → V g K R Qf (kb + mc) (nb + ms) nt h' C' M' o' (pc + 3) lv (v.toList ++ st)) (kx : ∀ E h' C' M' o', Px E C' M' o' → VX g K R Qf (kb + mc) (nb + ms) nt h' C' M' o' pc lv st E) : W p (gl g) e R s m args below meth c H locs k n (Qf below args s) (F0 m pc ls st0) := by
  intro T hT X0
  rcases hr T hT X0 with ⟨v, st₀, t, T', L, h0, X', hL, e1, e2, ⟨v', h', C', M', o', hv, hp, hR', hF⟩, stp⟩ | ⟨q, st₀, t, T', L, E, ce, h0, X', hL, e1, e2, ⟨h', C', M', o', hp, hR', hF⟩, hce, hcv, hcl, stp⟩
  · cases hv
    obtain ⟨k1, k2, k3⟩ := vx_keep h0 e1 hS (fun q _ z => z) (fun q z => z) hL hF
    obtain ⟨t2, a1, b1⟩ := kk v h' C' M' o' hp p e s m args below meth c T'.heap (locs ++ L) (k + mc) (n + ms) ls X (by omega) (by omega) (by rw [e1]; exact hR') k3 hl hc T' rfl X'
    exact ⟨t2, stp t2 a1, b1⟩
  · obtain ⟨k1, k2, k3⟩ := vx_keep h0 e1 hS (fun q _ z => z) (fun q z => z) hL hF
    obtain ⟨t2, a1, b1⟩ := kx E h' C' M' o' hp p e s m args below meth c T'.heap (locs ++ L) (k + mc) (n + ms) ls q ce X (by omega) (by omega) (by rw [e1]; exact hR') k3 hl hc (by rw [e1]; exact hce) hcv hcl T' rfl X'
    exact ⟨t2, stp.trans a1, b1⟩
def rcv (g : GT) (nt : Nat) (h : Nat × Nat) (C M : St) (o : Int64) (b : Nat) (Cn : String) : Prop := ∃ (n ci : Nat) (q : vw_C) (fs : List Value), n < 73 + 4 * nt ∧ b = hp g h n ∧ ent g h C M o n = .inr (ci, fs) ∧ vwCl[ci]? = some q ∧ q.1 = Cn
theorem V_callV {idx n b : Nat} {Cn : String} {As : List Value} (hM : MT g Y mc ms (.ref b :: As) nt C M o Po Px) (hL : LV (ko K) idx Cn Y n) (hd : decode (kc K) pc = .ok (.invokevirtual idx, 3)) (hn : As.length = n) (hrc : rcv g nt h C M o b Cn) (hro : kf Y + 1 ≤ R.frames ∧ 8 + (kL Y + 11) + klo Y ≤ R.locals) (hcs : kb + mc ≤ R.cells ∧ nb + ms ≤ R.slots) (hcat : (st.map fun v => v.category).sum ≤ 8)
    (kk : ∀ v h' C' M' o', Po v C' M' o' → V g K R Qf (kb + mc) (nb + ms) nt h' C' M' o' (pc + 3) lv (v.toList ++ st)) (kx : ∀ E h' C' M' o', Px E C' M' o' → VX g K R Qf (kb + mc) (nb + ms) nt h' C' M' o' pc lv st E) {st0 : List Value} (hst : st0 = As.reverse ++ .ref b :: st) : V g K R Qf kb nb nt h C M o pc lv st0 := by
  intro p e s m args below meth c H locs k1 n1 ls X h1 h2 hR hS hl hc
  subst hst
  obtain ⟨x1, x2, x3, x4, x5, x6, x7, x8, x9⟩ := id X
  obtain ⟨l1, l2, l3, l4, l5, l6⟩ := hL
  obtain ⟨n0, ci, q, fs, r1, r2, r3, r4, r5⟩ := hrc
  have hrecv := va_recv x9.1 hR.1 r4 (q0 := n0) (fs := fs) ((wld_at r1).trans (by rw [r3]))
  rw [r5, ← r2] at hrecv
  have hcb := callB_of (R := R) (own := ko K) (index := idx) (rm := kR Y mc ms) (mc := mc) (ms := ms) n x6 (good_kws l5) rfl rfl rfl (x6 _ l4) (x6 _ l1) l6 hro
  exact V_run (vx_runV ⟨x1, x2, x4, x5, x6⟩ (hM h) ⟨hcb, x6 _ l2, x6 _ l3⟩ ⟨blindW, hrecv, fun U hU hW => ⟨rfl, by rw [hU]; exact hR, x9.to hW (fun a ha hna => by rw [hU]; exact hS.2.1 a ha hna)⟩⟩ rfl hn hl.1 rfl (lv_room hcat) hd ⟨by omega, by omega⟩) X h1 h2 hS hl hc kk kx
theorem V_callS {idx n : Nat} {As : List Value} (hM : MT g Y mc ms As nt C M o Po Px) (hL : LSt (ko K) idx Y n) (hd : decode (kc K) pc = .ok (.invokestatic idx, 3)) (hn : As.length = n) (hro : kf Y + 1 ≤ R.frames ∧ 8 + (kL Y + 11) + klo Y ≤ R.locals) (hcs : kb + mc ≤ R.cells ∧ nb + ms ≤ R.slots) (hcat : (st.map fun v => v.category).sum ≤ 8)
    (kk : ∀ v h' C' M' o', Po v C' M' o' → V g K R Qf (kb + mc) (nb + ms) nt h' C' M' o' (pc + 3) lv (v.toList ++ st)) (kx : ∀ E h' C' M' o', Px E C' M' o' → VX g K R Qf (kb + mc) (nb + ms) nt h' C' M' o' pc lv st E) {st0 : List Value} (hst : st0 = As.reverse ++ st) : V g K R Qf kb nb nt h C M o pc lv st0 := by
  intro p e s m args below meth c H locs k1 n1 ls X h1 h2 hR hS hl hc
  subst hst
  obtain ⟨x1, x2, x3, x4, x5, x6, x7, x8, x9⟩ := id X
  obtain ⟨l1, l3, l4, l5, l6⟩ := hL
  have hcb := callB_of (R := R) (own := ko K) (index := idx) (rm := kR Y mc ms) (mc := mc) (ms := ms) n x6 (good_kws l5) rfl rfl rfl (x6 _ l4) (x6 _ l1) l6 hro
  exact V_run (vx_runS ⟨x1, x2, x4, x5, x6⟩ (hM h) ⟨hcb, x6 _ l3⟩ ⟨blindW, fun U hU hW => ⟨rfl, by rw [hU]; exact hR, x9.to hW (fun a ha hna => by rw [hU]; exact hS.2.1 a ha hna)⟩⟩ rfl hn hl.1 rfl (lv_room hcat) hd ⟨by omega, by omega⟩) X h1 h2 hS hl hc kk kx
theorem rcv_4 : rcv g nt h C M o (ad g 0) RX4 := ⟨0, 4, _, _, by omega, (hp_ad (by decide) (by decide)).symm, ent_fix (by decide), rfl, rfl⟩
theorem rcv_1 : rcv g nt h C M o (ad g 4) RX1 := ⟨4, 1, _, _, by omega, (hp_ad (by decide) (by decide)).symm, ent_fix (by decide), rfl, rfl⟩
theorem rcv_5 : rcv g nt h C M o (ad g 10) RX5 := ⟨10, 5, _, _, by omega, (hp_ad (by decide) (by decide)).symm, ent_fix (by decide), rfl, rfl⟩
theorem rcv_2 {i : Nat} (hi : i < 4) : rcv g nt h C M o (ad g (37 + i)) RX2 := ⟨37 + i, 2, _, _, by omega, (hp_ad (by omega) (by omega)).symm, ent_node hi, rfl, rfl⟩
theorem rcv_0 {i : Nat} (hi : i < 32) : rcv g nt h C M o (ad g (41 + i)) RX0 := ⟨41 + i, 0, _, _, by omega, (hp_ad (by omega) (by omega)).symm, ent_cell hi, rfl, rfl⟩
theorem rcv_3 {t : Int32} (ht : tok nt t) : rcv g nt h C M o (hp g h (73 + 4 * t.toNatClampNeg)) RX3 := ⟨73 + 4 * t.toNatClampNeg, 3, _, _, by have := ht.2; omega, rfl, ent_txO, rfl, rfl⟩
/-- returns x, the cells behind as C1, M1, o1 -/
def RET (g : GT) (Y : MK) (mc ms : Nat) (av : List Value) (nt : Nat) (C M : St) (o : Int64) (v : Option Value) (C1 M1 : St) (o1 : Int64) : Prop := MT g Y mc ms av nt C M o (fun v' C' M' o' => v' = v ∧ C' = C1 ∧ M' = M1 ∧ o' = o1) (fun _ _ _ _ => False)
/-- throws E, nothing changed -/
def THR (g : GT) (Y : MK) (mc ms : Nat) (av : List Value) (nt : Nat) (C M : St) (o : Int64) (E : String) : Prop := MT g Y mc ms av nt C M o (fun _ _ _ _ => False) (fun E' C' M' o' => E' = E ∧ C' = C ∧ M' = M ∧ o' = o)
theorem R_vb0 {idx : Nat} {Cn : String} {b : Nat} {w : Value} {C1 M1 : St} {o1 : Int64} (hM : RET g Y mc ms ([.ref b]) nt C M o (some w) C1 M1 o1) (hL : LV (ko K) idx Cn Y 0) (hd : decode (kc K) pc = .ok (.invokevirtual idx, 3)) (hrc : rcv g nt h C M o b Cn) (hro : kf Y + 1 ≤ R.frames ∧ 8 + (kL Y + 11) + klo Y ≤ R.locals) (hcs : kb + mc ≤ R.cells ∧ nb + ms ≤ R.slots) (hcat : (st.map fun v => v.category).sum ≤ 8) (kk : ∀ h1, V g K R Qf (kb + mc) (nb + ms) nt h1 C1 M1 o1 (pc + 3) lv (w :: st)) : V g K R Qf kb nb nt h C M o pc lv (.ref b :: st) := by
  exact V_callV hM hL hd rfl hrc hro hcs hcat (fun v h2 C2 M2 o2 q => by obtain ⟨rfl, rfl, rfl, rfl⟩ := q; exact kk h2) (fun _ _ _ _ _ q => q.elim) rfl
theorem R_vt0 {idx : Nat} {t : Int32} {w : Value} {C1 M1 : St} {o1 : Int64} (ht : tok nt t) (hM : RET g Y mc ms ([va_rf (trO g t)]) nt C M o (some w) C1 M1 o1) (hL : LV (ko K) idx RX3 Y 0) (hd : decode (kc K) pc = .ok (.invokevirtual idx, 3)) (hro : kf Y + 1 ≤ R.frames ∧ 8 + (kL Y + 11) + klo Y ≤ R.locals) (hcs : kb + mc ≤ R.cells ∧ nb + ms ≤ R.slots) (hcat : (st.map fun v => v.category).sum ≤ 8) (kk : ∀ h1, V g K R Qf (kb + mc) (nb + ms) nt h1 C1 M1 o1 (pc + 3) lv (w :: st)) : V g K R Qf kb nb nt h C M o pc lv (va_rf (trO g t) :: st) := by
  rw [tok_rf (h := h) ht] at hM ⊢
  exact V_callV hM hL hd rfl (rcv_3 ht) hro hcs hcat (fun v h2 C2 M2 o2 q => by obtain ⟨rfl, rfl, rfl, rfl⟩ := q; exact kk h2) (fun _ _ _ _ _ q => q.elim) rfl
theorem R_vs0 {idx : Nat} {w : Value} {C1 M1 : St} {o1 : Int64} (hM : RET g Y mc ms [] nt C M o (some w) C1 M1 o1) (hL : LSt (ko K) idx Y 0) (hd : decode (kc K) pc = .ok (.invokestatic idx, 3)) (hro : kf Y + 1 ≤ R.frames ∧ 8 + (kL Y + 11) + klo Y ≤ R.locals) (hcs : kb + mc ≤ R.cells ∧ nb + ms ≤ R.slots) (hcat : (st.map fun v => v.category).sum ≤ 8) (kk : ∀ h', V g K R Qf (kb + mc) (nb + ms) nt h' C1 M1 o1 (pc + 3) lv (w :: st)) : V g K R Qf kb nb nt h C M o pc lv (st) := by
  exact V_callS hM hL hd rfl hro hcs hcat (fun v h2 C2 M2 o2 q => by obtain ⟨rfl, rfl, rfl, rfl⟩ := q; exact kk h2) (fun _ _ _ _ _ q => q.elim) rfl
theorem R_nb0 {idx : Nat} {Cn : String} {b : Nat} {C1 M1 : St} {o1 : Int64} (hM : RET g Y mc ms ([.ref b]) nt C M o none C1 M1 o1) (hL : LV (ko K) idx Cn Y 0) (hd : decode (kc K) pc = .ok (.invokevirtual idx, 3)) (hrc : rcv g nt h C M o b Cn) (hro : kf Y + 1 ≤ R.frames ∧ 8 + (kL Y + 11) + klo Y ≤ R.locals) (hcs : kb + mc ≤ R.cells ∧ nb + ms ≤ R.slots) (hcat : (st.map fun v => v.category).sum ≤ 8) (kk : ∀ h1, V g K R Qf (kb + mc) (nb + ms) nt h1 C1 M1 o1 (pc + 3) lv (st)) : V g K R Qf kb nb nt h C M o pc lv (.ref b :: st) := by
  exact V_callV hM hL hd rfl hrc hro hcs hcat (fun v h2 C2 M2 o2 q => by obtain ⟨rfl, rfl, rfl, rfl⟩ := q; exact kk h2) (fun _ _ _ _ _ q => q.elim) rfl
theorem R_nt0 {idx : Nat} {t : Int32} {C1 M1 : St} {o1 : Int64} (ht : tok nt t) (hM : RET g Y mc ms ([va_rf (trO g t)]) nt C M o none C1 M1 o1) (hL : LV (ko K) idx RX3 Y 0) (hd : decode (kc K) pc = .ok (.invokevirtual idx, 3)) (hro : kf Y + 1 ≤ R.frames ∧ 8 + (kL Y + 11) + klo Y ≤ R.locals) (hcs : kb + mc ≤ R.cells ∧ nb + ms ≤ R.slots) (hcat : (st.map fun v => v.category).sum ≤ 8) (kk : ∀ h1, V g K R Qf (kb + mc) (nb + ms) nt h1 C1 M1 o1 (pc + 3) lv (st)) : V g K R Qf kb nb nt h C M o pc lv (va_rf (trO g t) :: st) := by
  rw [tok_rf (h := h) ht] at hM ⊢
  exact V_callV hM hL hd rfl (rcv_3 ht) hro hcs hcat (fun v h2 C2 M2 o2 q => by obtain ⟨rfl, rfl, rfl, rfl⟩ := q; exact kk h2) (fun _ _ _ _ _ q => q.elim) rfl
theorem R_ns0 {idx : Nat} {C1 M1 : St} {o1 : Int64} (hM : RET g Y mc ms [] nt C M o none C1 M1 o1) (hL : LSt (ko K) idx Y 0) (hd : decode (kc K) pc = .ok (.invokestatic idx, 3)) (hro : kf Y + 1 ≤ R.frames ∧ 8 + (kL Y + 11) + klo Y ≤ R.locals) (hcs : kb + mc ≤ R.cells ∧ nb + ms ≤ R.slots) (hcat : (st.map fun v => v.category).sum ≤ 8) (kk : ∀ h', V g K R Qf (kb + mc) (nb + ms) nt h' C1 M1 o1 (pc + 3) lv (st)) : V g K R Qf kb nb nt h C M o pc lv (st) := by
  exact V_callS hM hL hd rfl hro hcs hcat (fun v h2 C2 M2 o2 q => by obtain ⟨rfl, rfl, rfl, rfl⟩ := q; exact kk h2) (fun _ _ _ _ _ q => q.elim) rfl
theorem T_b0 {idx : Nat} {Cn : String} {b : Nat} {E : String} (hM : THR g Y mc ms ([.ref b]) nt C M o E) (hL : LV (ko K) idx Cn Y 0) (hd : decode (kc K) pc = .ok (.invokevirtual idx, 3)) (hrc : rcv g nt h C M o b Cn) (hro : kf Y + 1 ≤ R.frames ∧ 8 + (kL Y + 11) + klo Y ≤ R.locals) (hcs : kb + mc ≤ R.cells ∧ nb + ms ≤ R.slots) (hcat : (st.map fun v => v.category).sum ≤ 8) (kx : ∀ h', VX g K R Qf (kb + mc) (nb + ms) nt h' C M o pc lv st E) : V g K R Qf kb nb nt h C M o pc lv (.ref b :: st) := by
  exact V_callV hM hL hd rfl hrc hro hcs hcat (fun v h2 C2 M2 o2 q => q.elim) (fun _ h2 _ _ _ q => by obtain ⟨rfl, rfl, rfl, rfl⟩ := q; exact kx h2) rfl
theorem R_vb1 {idx : Nat} {Cn : String} {b : Nat} {a1 : Value} {w : Value} {C1 M1 : St} {o1 : Int64} (hM : RET g Y mc ms (.ref b :: [a1]) nt C M o (some w) C1 M1 o1) (hL : LV (ko K) idx Cn Y 1) (hd : decode (kc K) pc = .ok (.invokevirtual idx, 3)) (hrc : rcv g nt h C M o b Cn) (hro : kf Y + 1 ≤ R.frames ∧ 8 + (kL Y + 11) + klo Y ≤ R.locals) (hcs : kb + mc ≤ R.cells ∧ nb + ms ≤ R.slots) (hcat : (st.map fun v => v.category).sum ≤ 8) (kk : ∀ h1, V g K R Qf (kb + mc) (nb + ms) nt h1 C1 M1 o1 (pc + 3) lv (w :: st)) : V g K R Qf kb nb nt h C M o pc lv (a1 :: .ref b :: st) := by
  exact V_callV hM hL hd rfl hrc hro hcs hcat (fun v h2 C2 M2 o2 q => by obtain ⟨rfl, rfl, rfl, rfl⟩ := q; exact kk h2) (fun _ _ _ _ _ q => q.elim) rfl
theorem R_vt1 {idx : Nat} {t : Int32} {a1 : Value} {w : Value} {C1 M1 : St} {o1 : Int64} (ht : tok nt t) (hM : RET g Y mc ms (va_rf (trO g t) :: [a1]) nt C M o (some w) C1 M1 o1) (hL : LV (ko K) idx RX3 Y 1) (hd : decode (kc K) pc = .ok (.invokevirtual idx, 3)) (hro : kf Y + 1 ≤ R.frames ∧ 8 + (kL Y + 11) + klo Y ≤ R.locals) (hcs : kb + mc ≤ R.cells ∧ nb + ms ≤ R.slots) (hcat : (st.map fun v => v.category).sum ≤ 8) (kk : ∀ h1, V g K R Qf (kb + mc) (nb + ms) nt h1 C1 M1 o1 (pc + 3) lv (w :: st)) : V g K R Qf kb nb nt h C M o pc lv (a1 :: va_rf (trO g t) :: st) := by
  rw [tok_rf (h := h) ht] at hM ⊢
  exact V_callV hM hL hd rfl (rcv_3 ht) hro hcs hcat (fun v h2 C2 M2 o2 q => by obtain ⟨rfl, rfl, rfl, rfl⟩ := q; exact kk h2) (fun _ _ _ _ _ q => q.elim) rfl
theorem R_vs1 {idx : Nat} {a1 : Value} {w : Value} {C1 M1 : St} {o1 : Int64} (hM : RET g Y mc ms [a1] nt C M o (some w) C1 M1 o1) (hL : LSt (ko K) idx Y 1) (hd : decode (kc K) pc = .ok (.invokestatic idx, 3)) (hro : kf Y + 1 ≤ R.frames ∧ 8 + (kL Y + 11) + klo Y ≤ R.locals) (hcs : kb + mc ≤ R.cells ∧ nb + ms ≤ R.slots) (hcat : (st.map fun v => v.category).sum ≤ 8) (kk : ∀ h', V g K R Qf (kb + mc) (nb + ms) nt h' C1 M1 o1 (pc + 3) lv (w :: st)) : V g K R Qf kb nb nt h C M o pc lv (a1 :: st) := by
  exact V_callS hM hL hd rfl hro hcs hcat (fun v h2 C2 M2 o2 q => by obtain ⟨rfl, rfl, rfl, rfl⟩ := q; exact kk h2) (fun _ _ _ _ _ q => q.elim) rfl
theorem R_nb1 {idx : Nat} {Cn : String} {b : Nat} {a1 : Value} {C1 M1 : St} {o1 : Int64} (hM : RET g Y mc ms (.ref b :: [a1]) nt C M o none C1 M1 o1) (hL : LV (ko K) idx Cn Y 1) (hd : decode (kc K) pc = .ok (.invokevirtual idx, 3)) (hrc : rcv g nt h C M o b Cn) (hro : kf Y + 1 ≤ R.frames ∧ 8 + (kL Y + 11) + klo Y ≤ R.locals) (hcs : kb + mc ≤ R.cells ∧ nb + ms ≤ R.slots) (hcat : (st.map fun v => v.category).sum ≤ 8) (kk : ∀ h1, V g K R Qf (kb + mc) (nb + ms) nt h1 C1 M1 o1 (pc + 3) lv (st)) : V g K R Qf kb nb nt h C M o pc lv (a1 :: .ref b :: st) := by
  exact V_callV hM hL hd rfl hrc hro hcs hcat (fun v h2 C2 M2 o2 q => by obtain ⟨rfl, rfl, rfl, rfl⟩ := q; exact kk h2) (fun _ _ _ _ _ q => q.elim) rfl
theorem R_nt1 {idx : Nat} {t : Int32} {a1 : Value} {C1 M1 : St} {o1 : Int64} (ht : tok nt t) (hM : RET g Y mc ms (va_rf (trO g t) :: [a1]) nt C M o none C1 M1 o1) (hL : LV (ko K) idx RX3 Y 1) (hd : decode (kc K) pc = .ok (.invokevirtual idx, 3)) (hro : kf Y + 1 ≤ R.frames ∧ 8 + (kL Y + 11) + klo Y ≤ R.locals) (hcs : kb + mc ≤ R.cells ∧ nb + ms ≤ R.slots) (hcat : (st.map fun v => v.category).sum ≤ 8) (kk : ∀ h1, V g K R Qf (kb + mc) (nb + ms) nt h1 C1 M1 o1 (pc + 3) lv (st)) : V g K R Qf kb nb nt h C M o pc lv (a1 :: va_rf (trO g t) :: st) := by
  rw [tok_rf (h := h) ht] at hM ⊢
  exact V_callV hM hL hd rfl (rcv_3 ht) hro hcs hcat (fun v h2 C2 M2 o2 q => by obtain ⟨rfl, rfl, rfl, rfl⟩ := q; exact kk h2) (fun _ _ _ _ _ q => q.elim) rfl
theorem R_ns1 {idx : Nat} {a1 : Value} {C1 M1 : St} {o1 : Int64} (hM : RET g Y mc ms [a1] nt C M o none C1 M1 o1) (hL : LSt (ko K) idx Y 1) (hd : decode (kc K) pc = .ok (.invokestatic idx, 3)) (hro : kf Y + 1 ≤ R.frames ∧ 8 + (kL Y + 11) + klo Y ≤ R.locals) (hcs : kb + mc ≤ R.cells ∧ nb + ms ≤ R.slots) (hcat : (st.map fun v => v.category).sum ≤ 8) (kk : ∀ h', V g K R Qf (kb + mc) (nb + ms) nt h' C1 M1 o1 (pc + 3) lv (st)) : V g K R Qf kb nb nt h C M o pc lv (a1 :: st) := by
  exact V_callS hM hL hd rfl hro hcs hcat (fun v h2 C2 M2 o2 q => by obtain ⟨rfl, rfl, rfl, rfl⟩ := q; exact kk h2) (fun _ _ _ _ _ q => q.elim) rfl
theorem T_b1 {idx : Nat} {Cn : String} {b : Nat} {a1 : Value} {E : String} (hM : THR g Y mc ms (.ref b :: [a1]) nt C M o E) (hL : LV (ko K) idx Cn Y 1) (hd : decode (kc K) pc = .ok (.invokevirtual idx, 3)) (hrc : rcv g nt h C M o b Cn) (hro : kf Y + 1 ≤ R.frames ∧ 8 + (kL Y + 11) + klo Y ≤ R.locals) (hcs : kb + mc ≤ R.cells ∧ nb + ms ≤ R.slots) (hcat : (st.map fun v => v.category).sum ≤ 8) (kx : ∀ h', VX g K R Qf (kb + mc) (nb + ms) nt h' C M o pc lv st E) : V g K R Qf kb nb nt h C M o pc lv (a1 :: .ref b :: st) := by
  exact V_callV hM hL hd rfl hrc hro hcs hcat (fun v h2 C2 M2 o2 q => q.elim) (fun _ h2 _ _ _ q => by obtain ⟨rfl, rfl, rfl, rfl⟩ := q; exact kx h2) rfl
theorem R_vb2 {idx : Nat} {Cn : String} {b : Nat} {a1 a2 : Value} {w : Value} {C1 M1 : St} {o1 : Int64} (hM : RET g Y mc ms (.ref b :: [a1, a2]) nt C M o (some w) C1 M1 o1) (hL : LV (ko K) idx Cn Y 2) (hd : decode (kc K) pc = .ok (.invokevirtual idx, 3)) (hrc : rcv g nt h C M o b Cn) (hro : kf Y + 1 ≤ R.frames ∧ 8 + (kL Y + 11) + klo Y ≤ R.locals) (hcs : kb + mc ≤ R.cells ∧ nb + ms ≤ R.slots) (hcat : (st.map fun v => v.category).sum ≤ 8) (kk : ∀ h1, V g K R Qf (kb + mc) (nb + ms) nt h1 C1 M1 o1 (pc + 3) lv (w :: st)) : V g K R Qf kb nb nt h C M o pc lv (a2 :: a1 :: .ref b :: st) := by
  exact V_callV hM hL hd rfl hrc hro hcs hcat (fun v h2 C2 M2 o2 q => by obtain ⟨rfl, rfl, rfl, rfl⟩ := q; exact kk h2) (fun _ _ _ _ _ q => q.elim) rfl
theorem R_vt2 {idx : Nat} {t : Int32} {a1 a2 : Value} {w : Value} {C1 M1 : St} {o1 : Int64} (ht : tok nt t) (hM : RET g Y mc ms (va_rf (trO g t) :: [a1, a2]) nt C M o (some w) C1 M1 o1) (hL : LV (ko K) idx RX3 Y 2) (hd : decode (kc K) pc = .ok (.invokevirtual idx, 3)) (hro : kf Y + 1 ≤ R.frames ∧ 8 + (kL Y + 11) + klo Y ≤ R.locals) (hcs : kb + mc ≤ R.cells ∧ nb + ms ≤ R.slots) (hcat : (st.map fun v => v.category).sum ≤ 8) (kk : ∀ h1, V g K R Qf (kb + mc) (nb + ms) nt h1 C1 M1 o1 (pc + 3) lv (w :: st)) : V g K R Qf kb nb nt h C M o pc lv (a2 :: a1 :: va_rf (trO g t) :: st) := by
  rw [tok_rf (h := h) ht] at hM ⊢
  exact V_callV hM hL hd rfl (rcv_3 ht) hro hcs hcat (fun v h2 C2 M2 o2 q => by obtain ⟨rfl, rfl, rfl, rfl⟩ := q; exact kk h2) (fun _ _ _ _ _ q => q.elim) rfl
theorem R_vs2 {idx : Nat} {a1 a2 : Value} {w : Value} {C1 M1 : St} {o1 : Int64} (hM : RET g Y mc ms [a1, a2] nt C M o (some w) C1 M1 o1) (hL : LSt (ko K) idx Y 2) (hd : decode (kc K) pc = .ok (.invokestatic idx, 3)) (hro : kf Y + 1 ≤ R.frames ∧ 8 + (kL Y + 11) + klo Y ≤ R.locals) (hcs : kb + mc ≤ R.cells ∧ nb + ms ≤ R.slots) (hcat : (st.map fun v => v.category).sum ≤ 8) (kk : ∀ h', V g K R Qf (kb + mc) (nb + ms) nt h' C1 M1 o1 (pc + 3) lv (w :: st)) : V g K R Qf kb nb nt h C M o pc lv (a2 :: a1 :: st) := by
  exact V_callS hM hL hd rfl hro hcs hcat (fun v h2 C2 M2 o2 q => by obtain ⟨rfl, rfl, rfl, rfl⟩ := q; exact kk h2) (fun _ _ _ _ _ q => q.elim) rfl
theorem R_nb2 {idx : Nat} {Cn : String} {b : Nat} {a1 a2 : Value} {C1 M1 : St} {o1 : Int64} (hM : RET g Y mc ms (.ref b :: [a1, a2]) nt C M o none C1 M1 o1) (hL : LV (ko K) idx Cn Y 2) (hd : decode (kc K) pc = .ok (.invokevirtual idx, 3)) (hrc : rcv g nt h C M o b Cn) (hro : kf Y + 1 ≤ R.frames ∧ 8 + (kL Y + 11) + klo Y ≤ R.locals) (hcs : kb + mc ≤ R.cells ∧ nb + ms ≤ R.slots) (hcat : (st.map fun v => v.category).sum ≤ 8) (kk : ∀ h1, V g K R Qf (kb + mc) (nb + ms) nt h1 C1 M1 o1 (pc + 3) lv (st)) : V g K R Qf kb nb nt h C M o pc lv (a2 :: a1 :: .ref b :: st) := by
  exact V_callV hM hL hd rfl hrc hro hcs hcat (fun v h2 C2 M2 o2 q => by obtain ⟨rfl, rfl, rfl, rfl⟩ := q; exact kk h2) (fun _ _ _ _ _ q => q.elim) rfl
theorem R_nt2 {idx : Nat} {t : Int32} {a1 a2 : Value} {C1 M1 : St} {o1 : Int64} (ht : tok nt t) (hM : RET g Y mc ms (va_rf (trO g t) :: [a1, a2]) nt C M o none C1 M1 o1) (hL : LV (ko K) idx RX3 Y 2) (hd : decode (kc K) pc = .ok (.invokevirtual idx, 3)) (hro : kf Y + 1 ≤ R.frames ∧ 8 + (kL Y + 11) + klo Y ≤ R.locals) (hcs : kb + mc ≤ R.cells ∧ nb + ms ≤ R.slots) (hcat : (st.map fun v => v.category).sum ≤ 8) (kk : ∀ h1, V g K R Qf (kb + mc) (nb + ms) nt h1 C1 M1 o1 (pc + 3) lv (st)) : V g K R Qf kb nb nt h C M o pc lv (a2 :: a1 :: va_rf (trO g t) :: st) := by
  rw [tok_rf (h := h) ht] at hM ⊢
  exact V_callV hM hL hd rfl (rcv_3 ht) hro hcs hcat (fun v h2 C2 M2 o2 q => by obtain ⟨rfl, rfl, rfl, rfl⟩ := q; exact kk h2) (fun _ _ _ _ _ q => q.elim) rfl
theorem R_ns2 {idx : Nat} {a1 a2 : Value} {C1 M1 : St} {o1 : Int64} (hM : RET g Y mc ms [a1, a2] nt C M o none C1 M1 o1) (hL : LSt (ko K) idx Y 2) (hd : decode (kc K) pc = .ok (.invokestatic idx, 3)) (hro : kf Y + 1 ≤ R.frames ∧ 8 + (kL Y + 11) + klo Y ≤ R.locals) (hcs : kb + mc ≤ R.cells ∧ nb + ms ≤ R.slots) (hcat : (st.map fun v => v.category).sum ≤ 8) (kk : ∀ h', V g K R Qf (kb + mc) (nb + ms) nt h' C1 M1 o1 (pc + 3) lv (st)) : V g K R Qf kb nb nt h C M o pc lv (a2 :: a1 :: st) := by
  exact V_callS hM hL hd rfl hro hcs hcat (fun v h2 C2 M2 o2 q => by obtain ⟨rfl, rfl, rfl, rfl⟩ := q; exact kk h2) (fun _ _ _ _ _ q => q.elim) rfl
theorem T_b2 {idx : Nat} {Cn : String} {b : Nat} {a1 a2 : Value} {E : String} (hM : THR g Y mc ms (.ref b :: [a1, a2]) nt C M o E) (hL : LV (ko K) idx Cn Y 2) (hd : decode (kc K) pc = .ok (.invokevirtual idx, 3)) (hrc : rcv g nt h C M o b Cn) (hro : kf Y + 1 ≤ R.frames ∧ 8 + (kL Y + 11) + klo Y ≤ R.locals) (hcs : kb + mc ≤ R.cells ∧ nb + ms ≤ R.slots) (hcat : (st.map fun v => v.category).sum ≤ 8) (kx : ∀ h', VX g K R Qf (kb + mc) (nb + ms) nt h' C M o pc lv st E) : V g K R Qf kb nb nt h C M o pc lv (a2 :: a1 :: .ref b :: st) := by
  exact V_callV hM hL hd rfl hrc hro hcs hcat (fun v h2 C2 M2 o2 q => q.elim) (fun _ h2 _ _ _ q => by obtain ⟨rfl, rfl, rfl, rfl⟩ := q; exact kx h2) rfl
theorem R_vb3 {idx : Nat} {Cn : String} {b : Nat} {a1 a2 a3 : Value} {w : Value} {C1 M1 : St} {o1 : Int64} (hM : RET g Y mc ms (.ref b :: [a1, a2, a3]) nt C M o (some w) C1 M1 o1) (hL : LV (ko K) idx Cn Y 3) (hd : decode (kc K) pc = .ok (.invokevirtual idx, 3)) (hrc : rcv g nt h C M o b Cn) (hro : kf Y + 1 ≤ R.frames ∧ 8 + (kL Y + 11) + klo Y ≤ R.locals) (hcs : kb + mc ≤ R.cells ∧ nb + ms ≤ R.slots) (hcat : (st.map fun v => v.category).sum ≤ 8) (kk : ∀ h1, V g K R Qf (kb + mc) (nb + ms) nt h1 C1 M1 o1 (pc + 3) lv (w :: st)) : V g K R Qf kb nb nt h C M o pc lv (a3 :: a2 :: a1 :: .ref b :: st) := by
  exact V_callV hM hL hd rfl hrc hro hcs hcat (fun v h2 C2 M2 o2 q => by obtain ⟨rfl, rfl, rfl, rfl⟩ := q; exact kk h2) (fun _ _ _ _ _ q => q.elim) rfl
theorem R_vt3 {idx : Nat} {t : Int32} {a1 a2 a3 : Value} {w : Value} {C1 M1 : St} {o1 : Int64} (ht : tok nt t) (hM : RET g Y mc ms (va_rf (trO g t) :: [a1, a2, a3]) nt C M o (some w) C1 M1 o1) (hL : LV (ko K) idx RX3 Y 3) (hd : decode (kc K) pc = .ok (.invokevirtual idx, 3)) (hro : kf Y + 1 ≤ R.frames ∧ 8 + (kL Y + 11) + klo Y ≤ R.locals) (hcs : kb + mc ≤ R.cells ∧ nb + ms ≤ R.slots) (hcat : (st.map fun v => v.category).sum ≤ 8) (kk : ∀ h1, V g K R Qf (kb + mc) (nb + ms) nt h1 C1 M1 o1 (pc + 3) lv (w :: st)) : V g K R Qf kb nb nt h C M o pc lv (a3 :: a2 :: a1 :: va_rf (trO g t) :: st) := by
  rw [tok_rf (h := h) ht] at hM ⊢
  exact V_callV hM hL hd rfl (rcv_3 ht) hro hcs hcat (fun v h2 C2 M2 o2 q => by obtain ⟨rfl, rfl, rfl, rfl⟩ := q; exact kk h2) (fun _ _ _ _ _ q => q.elim) rfl
theorem R_vs3 {idx : Nat} {a1 a2 a3 : Value} {w : Value} {C1 M1 : St} {o1 : Int64} (hM : RET g Y mc ms [a1, a2, a3] nt C M o (some w) C1 M1 o1) (hL : LSt (ko K) idx Y 3) (hd : decode (kc K) pc = .ok (.invokestatic idx, 3)) (hro : kf Y + 1 ≤ R.frames ∧ 8 + (kL Y + 11) + klo Y ≤ R.locals) (hcs : kb + mc ≤ R.cells ∧ nb + ms ≤ R.slots) (hcat : (st.map fun v => v.category).sum ≤ 8) (kk : ∀ h', V g K R Qf (kb + mc) (nb + ms) nt h' C1 M1 o1 (pc + 3) lv (w :: st)) : V g K R Qf kb nb nt h C M o pc lv (a3 :: a2 :: a1 :: st) := by
  exact V_callS hM hL hd rfl hro hcs hcat (fun v h2 C2 M2 o2 q => by obtain ⟨rfl, rfl, rfl, rfl⟩ := q; exact kk h2) (fun _ _ _ _ _ q => q.elim) rfl
theorem R_nb3 {idx : Nat} {Cn : String} {b : Nat} {a1 a2 a3 : Value} {C1 M1 : St} {o1 : Int64} (hM : RET g Y mc ms (.ref b :: [a1, a2, a3]) nt C M o none C1 M1 o1) (hL : LV (ko K) idx Cn Y 3) (hd : decode (kc K) pc = .ok (.invokevirtual idx, 3)) (hrc : rcv g nt h C M o b Cn) (hro : kf Y + 1 ≤ R.frames ∧ 8 + (kL Y + 11) + klo Y ≤ R.locals) (hcs : kb + mc ≤ R.cells ∧ nb + ms ≤ R.slots) (hcat : (st.map fun v => v.category).sum ≤ 8) (kk : ∀ h1, V g K R Qf (kb + mc) (nb + ms) nt h1 C1 M1 o1 (pc + 3) lv (st)) : V g K R Qf kb nb nt h C M o pc lv (a3 :: a2 :: a1 :: .ref b :: st) := by
  exact V_callV hM hL hd rfl hrc hro hcs hcat (fun v h2 C2 M2 o2 q => by obtain ⟨rfl, rfl, rfl, rfl⟩ := q; exact kk h2) (fun _ _ _ _ _ q => q.elim) rfl
theorem R_nt3 {idx : Nat} {t : Int32} {a1 a2 a3 : Value} {C1 M1 : St} {o1 : Int64} (ht : tok nt t) (hM : RET g Y mc ms (va_rf (trO g t) :: [a1, a2, a3]) nt C M o none C1 M1 o1) (hL : LV (ko K) idx RX3 Y 3) (hd : decode (kc K) pc = .ok (.invokevirtual idx, 3)) (hro : kf Y + 1 ≤ R.frames ∧ 8 + (kL Y + 11) + klo Y ≤ R.locals) (hcs : kb + mc ≤ R.cells ∧ nb + ms ≤ R.slots) (hcat : (st.map fun v => v.category).sum ≤ 8) (kk : ∀ h1, V g K R Qf (kb + mc) (nb + ms) nt h1 C1 M1 o1 (pc + 3) lv (st)) : V g K R Qf kb nb nt h C M o pc lv (a3 :: a2 :: a1 :: va_rf (trO g t) :: st) := by
  rw [tok_rf (h := h) ht] at hM ⊢
  exact V_callV hM hL hd rfl (rcv_3 ht) hro hcs hcat (fun v h2 C2 M2 o2 q => by obtain ⟨rfl, rfl, rfl, rfl⟩ := q; exact kk h2) (fun _ _ _ _ _ q => q.elim) rfl
theorem R_ns3 {idx : Nat} {a1 a2 a3 : Value} {C1 M1 : St} {o1 : Int64} (hM : RET g Y mc ms [a1, a2, a3] nt C M o none C1 M1 o1) (hL : LSt (ko K) idx Y 3) (hd : decode (kc K) pc = .ok (.invokestatic idx, 3)) (hro : kf Y + 1 ≤ R.frames ∧ 8 + (kL Y + 11) + klo Y ≤ R.locals) (hcs : kb + mc ≤ R.cells ∧ nb + ms ≤ R.slots) (hcat : (st.map fun v => v.category).sum ≤ 8) (kk : ∀ h', V g K R Qf (kb + mc) (nb + ms) nt h' C1 M1 o1 (pc + 3) lv (st)) : V g K R Qf kb nb nt h C M o pc lv (a3 :: a2 :: a1 :: st) := by
  exact V_callS hM hL hd rfl hro hcs hcat (fun v h2 C2 M2 o2 q => by obtain ⟨rfl, rfl, rfl, rfl⟩ := q; exact kk h2) (fun _ _ _ _ _ q => q.elim) rfl
theorem T_b3 {idx : Nat} {Cn : String} {b : Nat} {a1 a2 a3 : Value} {E : String} (hM : THR g Y mc ms (.ref b :: [a1, a2, a3]) nt C M o E) (hL : LV (ko K) idx Cn Y 3) (hd : decode (kc K) pc = .ok (.invokevirtual idx, 3)) (hrc : rcv g nt h C M o b Cn) (hro : kf Y + 1 ≤ R.frames ∧ 8 + (kL Y + 11) + klo Y ≤ R.locals) (hcs : kb + mc ≤ R.cells ∧ nb + ms ≤ R.slots) (hcat : (st.map fun v => v.category).sum ≤ 8) (kx : ∀ h', VX g K R Qf (kb + mc) (nb + ms) nt h' C M o pc lv st E) : V g K R Qf kb nb nt h C M o pc lv (a3 :: a2 :: a1 :: .ref b :: st) := by
  exact V_callV hM hL hd rfl hrc hro hcs hcat (fun v h2 C2 M2 o2 q => q.elim) (fun _ h2 _ _ _ q => by obtain ⟨rfl, rfl, rfl, rfl⟩ := q; exact kx h2) rfl
theorem V_max {idx : Nat} {x y : Int32} (hL : Cond.methodLink (ko K) idx Lib.Math.max.name ∈ gtbl) (hd : decode (kc K) pc = .ok (.invokestatic idx, 3)) (hro : 1 ≤ R.frames ∧ (st.map fun v => v.category).sum + 13 ≤ R.locals) (hcs : kb ≤ R.cells ∧ nb ≤ R.slots) (k : V g K R Qf kb nb nt h C M o (pc + 3) lv (.int (if x < y then y else x) :: st)) : V g K R Qf kb nb nt h C M o pc lv (.int y :: .int x :: st) := by
  intro p e s m args below meth c H locs k1 n1 ls X h1 h2 hR hS hl hc
  obtain ⟨x1, x2, x3, x4, x5, x6, x7, x8, x9⟩ := id X
  exact va_mmax x1 x2 (x4.trans hl.1.symm) x5 (x6 _ hL) (x6 _ w_128) (x6 _ w_12) (x6 _ w_129) hro.1 hro.2 (by omega) (by omega) hd (k p e s m args below meth c H locs k1 n1 ls X h1 h2 hR hS hl hc)
theorem V_min {idx : Nat} {x y : Int32} (hL : Cond.methodLink (ko K) idx Lib.Math.min.name ∈ gtbl) (hd : decode (kc K) pc = .ok (.invokestatic idx, 3)) (hro : 1 ≤ R.frames ∧ (st.map fun v => v.category).sum + 13 ≤ R.locals) (hcs : kb ≤ R.cells ∧ nb ≤ R.slots) (k : V g K R Qf kb nb nt h C M o (pc + 3) lv (.int (if y < x then y else x) :: st)) : V g K R Qf kb nb nt h C M o pc lv (.int y :: .int x :: st) := by
  intro p e s m args below meth c H locs k1 n1 ls X h1 h2 hR hS hl hc
  obtain ⟨x1, x2, x3, x4, x5, x6, x7, x8, x9⟩ := id X
  exact va_mmin x1 x2 (x4.trans hl.1.symm) x5 (x6 _ hL) (x6 _ w_139) (x6 _ w_12) (x6 _ w_140) hro.1 hro.2 (by omega) (by omega) hd (k p e s m args below meth c H locs k1 n1 ls X h1 h2 hR hS hl hc)
end CALL
end
section
/-! the methods: code, locals, answer, room; and the links of their calls -/
def K_X0_init : MK := (RX0, yX0_init, cX0_init, 1, none, 1, 20, [])
def K_X0_noteReader : MK := (RX0, yX0_noteReader, cX0_noteReader, 3, none, 0, 0, [])
def K_X0_noteSeveral : MK := (RX0, yX0_noteSeveral, cX0_noteSeveral, 2, none, 0, 0, [])
def K_X1_init : MK := (RX1, yX1_init, cX1_init, 1, none, 1, 20, [])
def K_J7_copyOf_59c91 : MK := (RJ7, yJ7_copyOf_59c91, cJ7_copyOf_59c91, 3, (some (.array .int)), 3, 60, [])
def K_X1_addChange : MK := (RX1, yX1_addChange, cX1_addChange, 6, none, 4, 82, [])
def K_X1_placeUpTo : MK := (RX1, yX1_placeUpTo, cX1_placeUpTo, 4, (some .int), 0, 0, [])
def K_X1_stampUpTo : MK := (RX1, yX1_stampUpTo, cX1_stampUpTo, 4, (some .int), 1, 23, [])
def K_X1_valueUpTo : MK := (RX1, yX1_valueUpTo, cX1_valueUpTo, 4, (some .int), 1, 23, [])
def K_X1_countOf : MK := (RX1, yX1_countOf, cX1_countOf, 4, (some .int), 0, 0, [])
def K_X1_changeAt : MK := (RX1, yX1_changeAt, cX1_changeAt, 3, (some .int), 0, 0, [])
def K_X1_addCommitted : MK := (RX1, yX1_addCommitted, cX1_addCommitted, 3, none, 0, 0, [])
def K_X1_committedAt : MK := (RX1, yX1_committedAt, cX1_committedAt, 2, (some (.object "Twinphase$Transaction")), 0, 0, [])
def K_J7_fill_53178 : MK := (RJ7, yJ7_fill_53178, cJ7_fill_53178, 4, none, 0, 0, [])
def K_X3_hasRead : MK := (RX3, yX3_hasRead, cX3_hasRead, 2, (some .boolean), 0, 0, [])
def K_X3_writes : MK := (RX3, yX3_writes, cX3_writes, 2, (some .boolean), 0, 0, [])
def K_X1_redo : MK := (RX1, yX1_redo, cX1_redo, 4, (some .int), 1, 21, [])
def K_X1_countUnexplained : MK := (RX1, yX1_countUnexplained, cX1_countUnexplained, 3, (some .int), 2, 44, [])
def K_X2_init : MK := (RX2, yX2_init, cX2_init, 1, none, 1, 20, [])
def K_X2_meetStamp : MK := (RX2, yX2_meetStamp, cX2_meetStamp, 2, none, 1, 21, [])
def K_X2_tellStamp : MK := (RX2, yX2_tellStamp, cX2_tellStamp, 2, (some .int), 2, 42, [])
def K_X3_init : MK := (RX3, yX3_init, cX3_init, 6, none, 1, 20, [])
def K_X3_isVanished : MK := (RX3, yX3_isVanished, cX3_isVanished, 2, (some .boolean), 0, 0, [])
def K_X3_waitsFor : MK := (RX3, yX3_waitsFor, cX3_waitsFor, 1, (some (.object "Twinphase$Transaction")), 0, 0, [])
def K_X3_yieldsBefore : MK := (RX3, yX3_yieldsBefore, cX3_yieldsBefore, 2, (some .boolean), 0, 0, [])
def K_X3_hasAsked : MK := (RX3, yX3_hasAsked, cX3_hasAsked, 2, (some .boolean), 0, 0, [])
def K_X3_noteClock : MK := (RX3, yX3_noteClock, cX3_noteClock, 3, none, 1, 21, [])
def K_X3_noteRead : MK := (RX3, yX3_noteRead, cX3_noteRead, 3, (some .int), 0, 0, [])
def K_X3_noteWrite : MK := (RX3, yX3_noteWrite, cX3_noteWrite, 3, none, 0, 0, [])
def K_X3_forgetAll : MK := (RX3, yX3_forgetAll, cX3_forgetAll, 2, none, 1, 21, [])
def K_X3_raiseStamps : MK := (RX3, yX3_raiseStamps, cX3_raiseStamps, 2, none, 1, 21, [])
def K_X4_init : MK := (RX4, yX4_init, cX4_init, 2, none, 2, 40, [])
def K_X4_pass : MK := (RX4, yX4_pass, cX4_pass, 2, (some .int), 6, 90, [])
def K_X4_needNode : MK := (RX4, yX4_needNode, cX4_needNode, 2, none, 6, 90, [])
def K_X4_skew : MK := (RX4, yX4_skew, cX4_skew, 4, (some .int), 7, 111, [])
def K_X4_needUp : MK := (RX4, yX4_needUp, cX4_needUp, 2, none, 6, 90, [])
def K_X4_clock : MK := (RX4, yX4_clock, cX4_clock, 2, (some .int), 7, 111, [])
def K_X4_closedStamp : MK := (RX4, yX4_closedStamp, cX4_closedStamp, 1, (some .int), 1, 21, [])
def K_X4_closed : MK := (RX4, yX4_closed, cX4_closed, 1, (some .int), 2, 41, [])
def K_X4_down : MK := (RX4, yX4_down, cX4_down, 7, (some .int), 7, 111, [])
def K_X4_up : MK := (RX4, yX4_up, cX4_up, 7, (some .int), 7, 111, [])
def K_X4_sync : MK := (RX4, yX4_sync, cX4_sync, 7, (some .int), 7, 111, [])
def K_X4_rangeOf : MK := (RX4, yX4_rangeOf, cX4_rangeOf, 4, (some .int), 0, 0, [])
def K_X4_split : MK := (RX4, yX4_split, cX4_split, 2, (some .int), 6, 90, [])
def K_X4_firstKeyOf : MK := (RX4, yX4_firstKeyOf, cX4_firstKeyOf, 4, (some .int), 0, 0, [])
def K_X4_merge : MK := (RX4, yX4_merge, cX4_merge, 4, (some .int), 6, 90, [])
def K_X4_move : MK := (RX4, yX4_move, cX4_move, 8, (some .int), 7, 111, [])
def K_X4_begin : MK := (RX4, yX4_begin, cX4_begin, 4, (some .int), 7, 111, [])
def K_X4_needTransaction : MK := (RX4, yX4_needTransaction, cX4_needTransaction, 2, none, 6, 90, [])
def K_X4_needKey : MK := (RX4, yX4_needKey, cX4_needKey, 2, none, 6, 90, [])
def K_X4_refusalAt : MK := (RX4, yX4_refusalAt, cX4_refusalAt, 3, (some .int), 0, 0, [])
def K_X4_askNode : MK := (RX4, yX4_askNode, cX4_askNode, 3, none, 3, 63, [])
def K_X4_hasAllIntents : MK := (RX4, yX4_hasAllIntents, cX4_hasAllIntents, 3, (some .boolean), 1, 21, [])
def K_X4_decideStaged : MK := (RX4, yX4_decideStaged, cX4_decideStaged, 3, none, 5, 107, [])
def K_X4_meetIntent : MK := (RX4, yX4_meetIntent, cX4_meetIntent, 4, (some (.object "Twinphase$Transaction")), 6, 129, [])
def K_X4_victimOfRing : MK := (RX4, yX4_victimOfRing, cX4_victimOfRing, 5, (some (.object "Twinphase$Transaction")), 1, 21, [])
def K_X4_waitFor : MK := (RX4, yX4_waitFor, cX4_waitFor, 4, (some .int), 2, 45, [])
def K_X4_refreshReads : MK := (RX4, yX4_refreshReads, cX4_refreshReads, 5, (some .boolean), 7, 152, [])
def K_X4_restartAt : MK := (RX4, yX4_restartAt, cX4_restartAt, 7, (some .int), 2, 42, [])
def K_X4_lookToRead : MK := (RX4, yX4_lookToRead, cX4_lookToRead, 6, (some .int), 8, 176, [])
def K_X4_get : MK := (RX4, yX4_get, cX4_get, 7, (some .int), 9, 201, [])
def K_X4_lookToWrite : MK := (RX4, yX4_lookToWrite, cX4_lookToWrite, 7, (some .int), 7, 152, [])
def K_X4_put : MK := (RX4, yX4_put, cX4_put, 8, (some .int), 8, 178, [])
def K_X4_writesOnDownNode : MK := (RX4, yX4_writesOnDownNode, cX4_writesOnDownNode, 3, (some .boolean), 1, 21, [])
def K_X4_commit : MK := (RX4, yX4_commit, cX4_commit, 4, (some .int), 8, 176, [])
def K_X4_abort : MK := (RX4, yX4_abort, cX4_abort, 2, (some .int), 7, 111, [])
def K_X4_recover : MK := (RX4, yX4_recover, cX4_recover, 3, (some .int), 7, 129, [])
def K_X4_beat : MK := (RX4, yX4_beat, cX4_beat, 2, (some .int), 7, 111, [])
def K_X4_needWhat : MK := (RX4, yX4_needWhat, cX4_needWhat, 2, none, 6, 90, [])
def K_J6_bitCount_0f7a4 : MK := (RJ6, yJ6_bitCount_0f7a4, cJ6_bitCount_0f7a4, 1, (some .int), 0, 0, [])
def K_X4_told : MK := (RX4, yX4_told, cX4_told, 4, (some .int), 7, 111, [])
def K_X4_key : MK := (RX4, yX4_key, cX4_key, 4, (some .int), 7, 111, [])
def K_X4_asOf : MK := (RX4, yX4_asOf, cX4_asOf, 4, (some .int), 7, 111, [])
def K_X4_resolvedStamp : MK := (RX4, yX4_resolvedStamp, cX4_resolvedStamp, 3, (some .int), 2, 41, [])
def K_X4_resolved : MK := (RX4, yX4_resolved, cX4_resolved, 1, (some .int), 3, 63, [])
def K_X4_needPlace : MK := (RX4, yX4_needPlace, cX4_needPlace, 2, none, 6, 90, [])
def K_X4_feed : MK := (RX4, yX4_feed, cX4_feed, 2, (some .int), 7, 111, [])
def K_X4_order : MK := (RX4, yX4_order, cX4_order, 3, (some .int), 7, 111, [])
def K_X4_judged : MK := (RX4, yX4_judged, cX4_judged, 1, (some .int), 3, 66, [])
def K_X5_init : MK := (RX5, yX5_init, cX5_init, 2, none, 1, 20, [])
def K_X5_thrown : MK := (RX5, yX5_thrown, cX5_thrown, 1, (some .int), 0, 0, [])
def K_X5_in : MK := (RX5, yX5_in, cX5_in, 3, (some .boolean), 0, 0, [])
def K_X5_greater : MK := (RX5, yX5_greater, cX5_greater, 2, (some .int), 0, 0, [])
def K_X5_pass : MK := (RX5, yX5_pass, cX5_pass, 2, (some .int), 1, 22, [])
def K_X5_skew : MK := (RX5, yX5_skew, cX5_skew, 4, (some .int), 1, 22, [])
def K_X5_asks : MK := (RX5, yX5_asks, cX5_asks, 2, (some .int), 1, 21, [])
def K_X5_clock : MK := (RX5, yX5_clock, cX5_clock, 2, (some .int), 2, 42, [])
def K_X5_closedNow : MK := (RX5, yX5_closedNow, cX5_closedNow, 1, (some .int), 1, 21, [])
def K_X5_closed : MK := (RX5, yX5_closed, cX5_closed, 1, (some .int), 2, 41, [])
def K_X5_rangeOf : MK := (RX5, yX5_rangeOf, cX5_rangeOf, 3, (some .int), 0, 0, [])
def K_X5_nodeOf : MK := (RX5, yX5_nodeOf, cX5_nodeOf, 2, (some .int), 1, 22, [])
def K_X5_down : MK := (RX5, yX5_down, cX5_down, 4, (some .int), 2, 43, [])
def K_X5_covers : MK := (RX5, yX5_covers, cX5_covers, 3, none, 0, 0, [])
def K_X5_up : MK := (RX5, yX5_up, cX5_up, 4, (some .int), 2, 43, [])
def K_X5_sync : MK := (RX5, yX5_sync, cX5_sync, 4, (some .int), 2, 43, [])
def K_X5_split : MK := (RX5, yX5_split, cX5_split, 4, (some .int), 1, 22, [])
def K_X5_merge : MK := (RX5, yX5_merge, cX5_merge, 3, (some .int), 1, 22, [])
def K_X5_move : MK := (RX5, yX5_move, cX5_move, 6, (some .int), 2, 42, [])
def K_X5_forgets : MK := (RX5, yX5_forgets, cX5_forgets, 3, none, 0, 0, [])
def K_X5_begin : MK := (RX5, yX5_begin, cX5_begin, 5, (some .int), 2, 42, [])
def K_X5_isVanished : MK := (RX5, yX5_isVanished, cX5_isVanished, 2, (some .boolean), 0, 0, [])
def K_X5_commits : MK := (RX5, yX5_commits, cX5_commits, 3, none, 0, 0, [])
def K_X5_hasAllIntents : MK := (RX5, yX5_hasAllIntents, cX5_hasAllIntents, 4, (some .boolean), 0, 0, [])
def K_X5_recovers : MK := (RX5, yX5_recovers, cX5_recovers, 2, none, 1, 23, [])
def K_X5_meets : MK := (RX5, yX5_meets, cX5_meets, 4, (some .int), 2, 44, [])
def K_X5_latest : MK := (RX5, yX5_latest, cX5_latest, 5, (some .int), 1, 21, [])
def K_X5_valueAt : MK := (RX5, yX5_valueAt, cX5_valueAt, 6, (some .int), 2, 45, [])
def K_X5_marks : MK := (RX5, yX5_marks, cX5_marks, 4, none, 0, 0, [])
def K_X5_refreshes : MK := (RX5, yX5_refreshes, cX5_refreshes, 5, (some .boolean), 3, 67, [])
def K_X5_restarts : MK := (RX5, yX5_restarts, cX5_restarts, 4, (some .int), 1, 22, [])
def K_X5_waitsFor : MK := (RX5, yX5_waitsFor, cX5_waitsFor, 2, (some .int), 0, 0, [])
def K_X5_comesAnew : MK := (RX5, yX5_comesAnew, cX5_comesAnew, 6, (some .boolean), 1, 21, [])
def K_X5_waitAnswer : MK := (RX5, yX5_waitAnswer, cX5_waitAnswer, 2, (some .int), 0, 0, [])
def K_X5_opens : MK := (RX5, yX5_opens, cX5_opens, 5, (some .int), 2, 43, [])
def K_X5_areThere : MK := (RX5, yX5_areThere, cX5_areThere, 3, (some .boolean), 1, 22, [])
def K_X5_get : MK := (RX5, yX5_get, cX5_get, 10, (some .int), 4, 91, [])
def K_X5_put : MK := (RX5, yX5_put, cX5_put, 7, (some .int), 3, 67, [])
def K_X5_counts : MK := (RX5, yX5_counts, cX5_counts, 5, (some .int), 0, 0, [])
def K_X5_isTransaction : MK := (RX5, yX5_isTransaction, cX5_isTransaction, 2, (some .boolean), 1, 22, [])
def K_X5_commit : MK := (RX5, yX5_commit, cX5_commit, 6, (some .int), 4, 91, [])
def K_X5_abort : MK := (RX5, yX5_abort, cX5_abort, 2, (some .int), 2, 43, [])
def K_X5_recover : MK := (RX5, yX5_recover, cX5_recover, 2, (some .int), 2, 44, [])
def K_X5_beat : MK := (RX5, yX5_beat, cX5_beat, 2, (some .int), 2, 43, [])
def K_X5_told : MK := (RX5, yX5_told, cX5_told, 4, (some .int), 1, 24, [])
def K_X5_key : MK := (RX5, yX5_key, cX5_key, 5, (some .int), 2, 43, [])
def K_X5_asOf : MK := (RX5, yX5_asOf, cX5_asOf, 4, (some .int), 3, 70, [])
def K_X5_resolvedNow : MK := (RX5, yX5_resolvedNow, cX5_resolvedNow, 3, (some .int), 2, 41, [])
def K_X5_resolved : MK := (RX5, yX5_resolved, cX5_resolved, 1, (some .int), 3, 63, [])
def K_X5_feed : MK := (RX5, yX5_feed, cX5_feed, 8, (some .int), 3, 63, [])
def K_X5_isAhead : MK := (RX5, yX5_isAhead, cX5_isAhead, 3, (some .boolean), 0, 0, [])
def K_X5_next : MK := (RX5, yX5_next, cX5_next, 5, (some .int), 1, 22, [])
def K_X5_order : MK := (RX5, yX5_order, cX5_order, 4, (some .int), 2, 46, [])
def K_X5_judged : MK := (RX5, yX5_judged, cX5_judged, 4, (some .int), 2, 46, [])
def K_J9_max_7cf53 : MK := (RJ9, yJ9_max_7cf53, cJ9_max_7cf53, 2, (some .int), 0, 0, [])
def K_J9_min_7cf53 : MK := (RJ9, yJ9_min_7cf53, cJ9_min_7cf53, 2, (some .int), 0, 0, [])
def K_L_pass : MK := (RL, yL_pass, cL_pass, 4, (some .int), 7, 111, [(0, 9, 12, 13), (0, 9, 15, 15)])
def K_L_skew : MK := (RL, yL_skew, cL_skew, 5, (some .int), 8, 134, [(0, 10, 13, 21), (0, 10, 17, 13)])
def K_L_clock : MK := (RL, yL_clock, cL_clock, 4, (some .int), 8, 132, [(0, 9, 12, 21), (0, 9, 15, 15)])
def K_L_down : MK := (RL, yL_down, cL_down, 4, (some .int), 8, 137, [(0, 9, 12, 21), (0, 9, 15, 15)])
def K_L_up : MK := (RL, yL_up, cL_up, 4, (some .int), 8, 137, [(0, 9, 12, 21), (0, 9, 15, 15)])
def K_L_sync : MK := (RL, yL_sync, cL_sync, 4, (some .int), 8, 137, [(0, 9, 12, 21), (0, 9, 15, 15)])
def K_L_split : MK := (RL, yL_split, cL_split, 4, (some .int), 7, 111, [(0, 9, 12, 21), (0, 9, 15, 15)])
def K_L_merge : MK := (RL, yL_merge, cL_merge, 4, (some .int), 7, 113, [(0, 9, 12, 21), (0, 9, 15, 15)])
def K_L_move : MK := (RL, yL_move, cL_move, 5, (some .int), 8, 138, [(0, 10, 13, 21), (0, 10, 17, 15)])
def K_L_begin : MK := (RL, yL_begin, cL_begin, 5, (some .int), 8, 134, [(0, 10, 13, 21), (0, 10, 17, 13), (0, 10, 21, 15)])
def K_L_get : MK := (RL, yL_get, cL_get, 5, (some .int), 10, 227, [(0, 10, 13, 21)])
def K_L_put : MK := (RL, yL_put, cL_put, 6, (some .int), 9, 205, [(0, 12, 15, 21), (0, 12, 19, 13)])
def K_L_commit : MK := (RL, yL_commit, cL_commit, 5, (some .int), 9, 199, [(0, 10, 13, 21)])
def K_L_abort : MK := (RL, yL_abort, cL_abort, 4, (some .int), 8, 132, [(0, 9, 12, 21)])
def K_L_recover : MK := (RL, yL_recover, cL_recover, 4, (some .int), 8, 151, [(0, 9, 12, 21)])
def K_L_beat : MK := (RL, yL_beat, cL_beat, 4, (some .int), 8, 132, [(0, 9, 12, 21)])
def K_L_told : MK := (RL, yL_told, cL_told, 5, (some .int), 8, 134, [(0, 10, 13, 21), (0, 10, 17, 13)])
def K_L_key : MK := (RL, yL_key, cL_key, 5, (some .int), 8, 134, [(0, 10, 13, 21), (0, 10, 17, 13)])
def K_L_asOf : MK := (RL, yL_asOf, cL_asOf, 5, (some .int), 8, 134, [(0, 10, 13, 21), (0, 10, 17, 13)])
def K_L_feed : MK := (RL, yL_feed, cL_feed, 4, (some .int), 8, 132, [(0, 9, 12, 21)])
def K_L_order : MK := (RL, yL_order, cL_order, 4, (some .int), 8, 133, [(0, 9, 12, 21)])
theorem lk_X1_31 : LSt RX1 31 K_J7_copyOf_59c91 2 := ⟨w_503, w_504, w_14, w_505, by decide +kernel⟩
theorem lk_X1_37 : LV RX1 37 RX1 K_X1_placeUpTo 2 := ⟨w_541, w_542, w_543, w_2, w_544, by decide +kernel⟩
theorem lk_X1_55 : LV RX1 55 RX3 K_X3_hasRead 1 := ⟨w_156, w_157, w_158, w_13, w_159, by decide +kernel⟩
theorem lk_X1_62 : LV RX1 62 RX3 K_X3_writes 1 := ⟨w_160, w_161, w_162, w_13, w_163, by decide +kernel⟩
theorem lk_X1_47 : LSt RX1 47 K_J7_fill_53178 2 := ⟨w_149, w_150, w_14, w_151, by decide +kernel⟩
theorem lk_X1_51 : LV RX1 51 RX1 K_X1_redo 1 := ⟨w_152, w_153, w_154, w_2, w_155, by decide +kernel⟩
theorem lk_X2_24 : LV RX2 24 RX2 K_X2_meetStamp 1 := ⟨w_303, w_304, w_305, w_3, w_306, by decide +kernel⟩
theorem lk_X4_56 : LV RX4 56 RX4 K_X4_needNode 1 := ⟨w_265, w_267, sp_3, w_1, w_268, by decide +kernel⟩
theorem lk_X4_65 : LV RX4 65 RX4 K_X4_needUp 1 := ⟨w_293, w_295, sp_4, w_1, w_296, by decide +kernel⟩
theorem lk_X4_68 : LV RX4 68 RX2 K_X2_tellStamp 1 := ⟨w_298, w_299, w_300, w_3, w_301, by decide +kernel⟩
theorem lk_X4_72 : LV RX4 72 RX4 K_X4_closedStamp 0 := ⟨w_123, w_125, sp_0, w_1, w_126, by decide +kernel⟩
theorem lk_X4_91 : LV RX4 91 RX0 K_X0_noteSeveral 1 := ⟨w_322, w_323, w_324, w_4, w_325, by decide +kernel⟩
theorem lk_X4_101 : LV RX4 101 RX4 K_X4_rangeOf 1 := ⟨w_342, w_344, sp_5, w_1, w_345, by decide +kernel⟩
theorem lk_X4_106 : LV RX4 106 RX4 K_X4_firstKeyOf 1 := ⟨w_354, w_356, sp_6, w_1, w_357, by decide +kernel⟩
theorem lk_X4_257 : LV RX4 257 RX2 K_X2_meetStamp 1 := ⟨w_467, w_304, w_305, w_3, w_306, by decide +kernel⟩
theorem lk_X4_260 : LV RX4 260 RX3 K_X3_hasAsked 1 := ⟨w_468, w_469, w_470, w_13, w_471, by decide +kernel⟩
theorem lk_X4_263 : LV RX4 263 RX3 K_X3_noteClock 2 := ⟨w_472, w_473, w_474, w_13, w_475, by decide +kernel⟩
theorem lk_X4_274 : LV RX4 274 RX3 K_X3_writes 1 := ⟨w_482, w_161, w_162, w_13, w_163, by decide +kernel⟩
theorem lk_X4_182 : LV RX4 182 RX4 K_X4_hasAllIntents 1 := ⟨w_491, w_493, sp_14, w_1, w_494, by decide +kernel⟩
theorem lk_X4_317 : LV RX4 317 RX1 K_X1_addCommitted 1 := ⟨w_495, w_496, w_497, w_2, w_498, by decide +kernel⟩
theorem lk_X4_320 : LV RX4 320 RX1 K_X1_addChange 3 := ⟨w_499, w_500, w_501, w_2, w_502, by decide +kernel⟩
theorem lk_X4_185 : LV RX4 185 RX4 K_X4_decideStaged 1 := ⟨w_487, w_489, sp_13, w_1, w_490, by decide +kernel⟩
theorem lk_X4_210 : LV RX4 210 RX3 K_X3_isVanished 1 := ⟨w_517, w_518, w_519, w_13, w_520, by decide +kernel⟩
theorem lk_X4_195 : LV RX4 195 RX3 K_X3_waitsFor 0 := ⟨w_529, w_530, w_531, w_13, w_532, by decide +kernel⟩
theorem lk_X4_271 : LV RX4 271 RX3 K_X3_yieldsBefore 1 := ⟨w_533, w_534, w_535, w_13, w_536, by decide +kernel⟩
theorem lk_X4_267 : LV RX4 267 RX4 K_X4_victimOfRing 1 := ⟨w_525, w_527, sp_16, w_1, w_528, by decide +kernel⟩
theorem lk_X4_304 : LV RX4 304 RX3 K_X3_hasRead 1 := ⟨w_549, w_157, w_158, w_13, w_159, by decide +kernel⟩
theorem lk_X4_281 : LV RX4 281 RX4 K_X4_meetIntent 2 := ⟨w_483, w_485, sp_12, w_1, w_486, by decide +kernel⟩
theorem lk_X4_295 : LV RX4 295 RX1 K_X1_stampUpTo 2 := ⟨w_537, w_538, w_539, w_2, w_540, by decide +kernel⟩
theorem lk_X4_298 : LV RX4 298 RX0 K_X0_noteReader 2 := ⟨w_550, w_551, w_552, w_4, w_553, by decide +kernel⟩
theorem lk_X4_307 : LV RX4 307 RX3 K_X3_raiseStamps 1 := ⟨w_554, w_555, w_556, w_13, w_557, by decide +kernel⟩
theorem lk_X4_310 : LV RX4 310 RX3 K_X3_forgetAll 1 := ⟨w_563, w_564, w_565, w_13, w_566, by decide +kernel⟩
theorem lk_X4_291 : LV RX4 291 RX4 K_X4_waitFor 2 := ⟨w_521, w_523, sp_15, w_1, w_524, by decide +kernel⟩
theorem lk_X4_175 : LV RX4 175 RX4 K_X4_refreshReads 2 := ⟨w_545, w_547, sp_17, w_1, w_548, by decide +kernel⟩
theorem lk_X4_179 : LV RX4 179 RX4 K_X4_restartAt 2 := ⟨w_559, w_561, sp_18, w_1, w_562, by decide +kernel⟩
theorem lk_X4_223 : LV RX4 223 RX1 K_X1_valueUpTo 2 := ⟨w_567, w_568, w_569, w_2, w_570, by decide +kernel⟩
theorem lk_X4_301 : LV RX4 301 RX3 K_X3_noteRead 2 := ⟨w_571, w_572, w_573, w_13, w_574, by decide +kernel⟩
theorem lk_X4_123 : LV RX4 123 RX4 K_X4_needTransaction 1 := ⟨w_449, w_451, sp_7, w_1, w_452, by decide +kernel⟩
theorem lk_X4_126 : LV RX4 126 RX4 K_X4_needKey 1 := ⟨w_454, w_456, sp_8, w_1, w_457, by decide +kernel⟩
theorem lk_X4_129 : LV RX4 129 RX4 K_X4_refusalAt 2 := ⟨w_459, w_461, sp_9, w_1, w_462, by decide +kernel⟩
theorem lk_X4_133 : LV RX4 133 RX4 K_X4_askNode 2 := ⟨w_463, w_465, sp_10, w_1, w_466, by decide +kernel⟩
theorem lk_X4_138 : LV RX4 138 RX4 K_X4_lookToRead 2 := ⟨w_478, w_480, sp_11, w_1, w_481, by decide +kernel⟩
theorem lk_X4_314 : LV RX4 314 RX3 K_X3_noteWrite 2 := ⟨w_588, w_589, w_590, w_13, w_591, by decide +kernel⟩
theorem lk_X4_143 : LV RX4 143 RX4 K_X4_lookToWrite 3 := ⟨w_583, w_585, sp_19, w_1, w_586, by decide +kernel⟩
theorem lk_X4_153 : LV RX4 153 RX4 K_X4_writesOnDownNode 1 := ⟨w_599, w_601, sp_20, w_1, w_602, by decide +kernel⟩
theorem lk_X4_192 : LV RX4 192 RX4 K_X4_needWhat 1 := ⟨w_631, w_633, sp_21, w_1, w_634, by decide +kernel⟩
theorem lk_X4_205 : LSt RX4 205 K_J6_bitCount_0f7a4 1 := ⟨w_636, w_637, w_16, w_638, by decide +kernel⟩
theorem lk_X4_214 : LV RX4 214 RX1 K_X1_countOf 1 := ⟨w_649, w_650, w_651, w_2, w_652, by decide +kernel⟩
theorem lk_X4_226 : LV RX4 226 RX4 K_X4_resolvedStamp 0 := ⟨w_134, w_136, sp_1, w_1, w_137, by decide +kernel⟩
theorem lk_X4_229 : LV RX4 229 RX4 K_X4_needPlace 1 := ⟨w_668, w_670, sp_22, w_1, w_671, by decide +kernel⟩
theorem lk_X4_232 : LV RX4 232 RX1 K_X1_changeAt 2 := ⟨w_673, w_674, w_675, w_2, w_676, by decide +kernel⟩
theorem lk_X4_235 : LV RX4 235 RX1 K_X1_committedAt 1 := ⟨w_684, w_685, w_686, w_2, w_687, by decide +kernel⟩
theorem lk_X4_239 : LV RX4 239 RX1 K_X1_countUnexplained 0 := ⟨w_145, w_146, w_147, w_2, w_148, by decide +kernel⟩
theorem lk_X5_96 : LSt RX5 96 K_X5_in 3 := ⟨w_800, w_801, w_5, w_802, by decide +kernel⟩
theorem lk_X5_103 : LSt RX5 103 K_X5_greater 2 := ⟨w_815, w_816, w_5, w_817, by decide +kernel⟩
theorem lk_X5_107 : LV RX5 107 RX5 K_X5_asks 1 := ⟨w_811, w_813, sp_23, w_5, w_814, by decide +kernel⟩
theorem lk_X5_111 : LV RX5 111 RX5 K_X5_closedNow 0 := ⟨w_822, w_824, sp_24, w_5, w_825, by decide +kernel⟩
theorem lk_X5_115 : LV RX5 115 RX5 K_X5_rangeOf 1 := ⟨w_834, w_836, sp_26, w_5, w_837, by decide +kernel⟩
theorem lk_X5_118 : LV RX5 118 RX5 K_X5_nodeOf 1 := ⟨w_830, w_832, sp_25, w_5, w_833, by decide +kernel⟩
theorem lk_X5_121 : LV RX5 121 RX5 K_X5_covers 2 := ⟨w_842, w_844, sp_27, w_5, w_845, by decide +kernel⟩
theorem lk_X5_128 : LV RX5 128 RX5 K_X5_forgets 1 := ⟨w_866, w_868, sp_28, w_5, w_869, by decide +kernel⟩
theorem lk_X5_138 : LV RX5 138 RX5 K_X5_hasAllIntents 1 := ⟨w_890, w_892, sp_33, w_5, w_893, by decide +kernel⟩
theorem lk_X5_142 : LV RX5 142 RX5 K_X5_commits 1 := ⟨w_894, w_896, sp_34, w_5, w_897, by decide +kernel⟩
theorem lk_X5_144 : LV RX5 144 RX5 K_X5_recovers 1 := ⟨w_886, w_888, sp_32, w_5, w_889, by decide +kernel⟩
theorem lk_X5_147 : LV RX5 147 RX5 K_X5_isVanished 1 := ⟨w_898, w_900, sp_35, w_5, w_901, by decide +kernel⟩
theorem lk_X5_150 : LV RX5 150 RX5 K_X5_latest 2 := ⟨w_914, w_916, sp_39, w_5, w_917, by decide +kernel⟩
theorem lk_X5_153 : LV RX5 153 RX5 K_X5_meets 2 := ⟨w_882, w_884, sp_31, w_5, w_885, by decide +kernel⟩
theorem lk_X5_156 : LV RX5 156 RX5 K_X5_marks 3 := ⟨w_922, w_924, sp_41, w_5, w_925, by decide +kernel⟩
theorem lk_X5_160 : LV RX5 160 RX5 K_X5_waitsFor 1 := ⟨w_906, w_908, sp_37, w_5, w_909, by decide +kernel⟩
theorem lk_X5_163 : LV RX5 163 RX5 K_X5_areThere 2 := ⟨w_874, w_876, sp_29, w_5, w_877, by decide +kernel⟩
theorem lk_X5_167 : LV RX5 167 RX5 K_X5_opens 2 := ⟨w_878, w_880, sp_30, w_5, w_881, by decide +kernel⟩
theorem lk_X5_170 : LV RX5 170 RX5 K_X5_comesAnew 2 := ⟨w_902, w_904, sp_36, w_5, w_905, by decide +kernel⟩
theorem lk_X5_173 : LV RX5 173 RX5 K_X5_waitAnswer 1 := ⟨w_910, w_912, sp_38, w_5, w_913, by decide +kernel⟩
theorem lk_X5_176 : LV RX5 176 RX5 K_X5_refreshes 2 := ⟨w_918, w_920, sp_40, w_5, w_921, by decide +kernel⟩
theorem lk_X5_179 : LV RX5 179 RX5 K_X5_restarts 2 := ⟨w_926, w_928, sp_42, w_5, w_929, by decide +kernel⟩
theorem lk_X5_182 : LV RX5 182 RX5 K_X5_valueAt 2 := ⟨w_930, w_932, sp_43, w_5, w_933, by decide +kernel⟩
theorem lk_X5_186 : LV RX5 186 RX5 K_X5_isTransaction 1 := ⟨w_943, w_945, sp_44, w_5, w_946, by decide +kernel⟩
theorem lk_X5_189 : LV RX5 189 RX5 K_X5_counts 2 := ⟨w_947, w_949, sp_45, w_5, w_950, by decide +kernel⟩
theorem lk_X5_193 : LV RX5 193 RX5 K_X5_resolvedNow 0 := ⟨w_979, w_981, sp_46, w_5, w_982, by decide +kernel⟩
theorem lk_X5_196 : LV RX5 196 RX5 K_X5_isAhead 2 := ⟨w_995, w_997, sp_48, w_5, w_998, by decide +kernel⟩
theorem lk_X5_199 : LV RX5 199 RX5 K_X5_next 1 := ⟨w_991, w_993, sp_47, w_5, w_994, by decide +kernel⟩
theorem lk_L_7 : LV RL 7 RX4 K_X4_pass 1 := ⟨w_169, w_170, w_171, w_1, w_172, by decide +kernel⟩
theorem lk_L_17 : LV RL 17 RX4 K_X4_skew 2 := ⟨w_261, w_262, w_263, w_1, w_264, by decide +kernel⟩
theorem lk_L_23 : LV RL 23 RX4 K_X4_clock 1 := ⟨w_289, w_290, w_291, w_1, w_292, by decide +kernel⟩
theorem lk_L_26 : LV RL 26 RX4 K_X4_down 1 := ⟨w_310, w_311, w_312, w_1, w_313, by decide +kernel⟩
theorem lk_L_29 : LV RL 29 RX4 K_X4_up 1 := ⟨w_317, w_318, w_319, w_1, w_320, by decide +kernel⟩
theorem lk_L_32 : LV RL 32 RX4 K_X4_sync 1 := ⟨w_329, w_330, w_331, w_1, w_332, by decide +kernel⟩
theorem lk_L_35 : LV RL 35 RX4 K_X4_split 1 := ⟨w_336, w_337, w_338, w_1, w_339, by decide +kernel⟩
theorem lk_L_38 : LV RL 38 RX4 K_X4_merge 1 := ⟨w_349, w_350, w_351, w_1, w_352, by decide +kernel⟩
theorem lk_L_41 : LV RL 41 RX4 K_X4_move 2 := ⟨w_362, w_363, w_364, w_1, w_365, by decide +kernel⟩
theorem lk_L_44 : LV RL 44 RX4 K_X4_begin 2 := ⟨w_370, w_371, w_372, w_1, w_373, by decide +kernel⟩
theorem lk_L_47 : LV RL 47 RX4 K_X4_get 2 := ⟨w_445, w_446, w_447, w_1, w_448, by decide +kernel⟩
theorem lk_L_50 : LV RL 50 RX4 K_X4_put 3 := ⟨w_578, w_579, w_580, w_1, w_581, by decide +kernel⟩
theorem lk_L_54 : LV RL 54 RX4 K_X4_commit 2 := ⟨w_595, w_596, w_597, w_1, w_598, by decide +kernel⟩
theorem lk_L_58 : LV RL 58 RX4 K_X4_abort 1 := ⟨w_606, w_607, w_608, w_1, w_609, by decide +kernel⟩
theorem lk_L_61 : LV RL 61 RX4 K_X4_recover 1 := ⟨w_613, w_614, w_615, w_1, w_616, by decide +kernel⟩
theorem lk_L_64 : LV RL 64 RX4 K_X4_beat 1 := ⟨w_620, w_621, w_622, w_1, w_623, by decide +kernel⟩
theorem lk_L_67 : LV RL 67 RX4 K_X4_told 2 := ⟨w_627, w_628, w_629, w_1, w_630, by decide +kernel⟩
theorem lk_L_70 : LV RL 70 RX4 K_X4_key 2 := ⟨w_645, w_646, w_647, w_1, w_648, by decide +kernel⟩
theorem lk_L_73 : LV RL 73 RX4 K_X4_asOf 2 := ⟨w_656, w_657, w_658, w_1, w_659, by decide +kernel⟩
theorem lk_L_76 : LV RL 76 RX4 K_X4_feed 1 := ⟨w_664, w_665, w_666, w_1, w_667, by decide +kernel⟩
theorem lk_L_79 : LV RL 79 RX4 K_X4_order 1 := ⟨w_680, w_681, w_682, w_1, w_683, by decide +kernel⟩
theorem lk_L_91 : LV RL 91 RX5 K_X5_pass 1 := ⟨w_796, w_797, w_798, w_5, w_799, by decide +kernel⟩
theorem lk_L_92 : LV RL 92 RX5 K_X5_thrown 0 := ⟨w_792, w_793, w_794, w_5, w_795, by decide +kernel⟩
theorem lk_L_99 : LV RL 99 RX5 K_X5_skew 2 := ⟨w_803, w_804, w_805, w_5, w_806, by decide +kernel⟩
theorem lk_L_102 : LV RL 102 RX5 K_X5_clock 1 := ⟨w_807, w_808, w_809, w_5, w_810, by decide +kernel⟩
theorem lk_L_103 : LV RL 103 RX4 K_X4_closed 0 := ⟨w_119, w_120, w_121, w_1, w_122, by decide +kernel⟩
theorem lk_L_106 : LV RL 106 RX5 K_X5_closed 0 := ⟨w_818, w_819, w_820, w_5, w_821, by decide +kernel⟩
theorem lk_L_109 : LV RL 109 RX5 K_X5_down 1 := ⟨w_826, w_827, w_828, w_5, w_829, by decide +kernel⟩
theorem lk_L_112 : LV RL 112 RX5 K_X5_up 1 := ⟨w_838, w_839, w_840, w_5, w_841, by decide +kernel⟩
theorem lk_L_115 : LV RL 115 RX5 K_X5_sync 1 := ⟨w_846, w_847, w_848, w_5, w_849, by decide +kernel⟩
theorem lk_L_118 : LV RL 118 RX5 K_X5_split 1 := ⟨w_850, w_851, w_852, w_5, w_853, by decide +kernel⟩
theorem lk_L_121 : LV RL 121 RX5 K_X5_merge 1 := ⟨w_854, w_855, w_856, w_5, w_857, by decide +kernel⟩
theorem lk_L_124 : LV RL 124 RX5 K_X5_move 2 := ⟨w_858, w_859, w_860, w_5, w_861, by decide +kernel⟩
theorem lk_L_127 : LV RL 127 RX5 K_X5_begin 2 := ⟨w_862, w_863, w_864, w_5, w_865, by decide +kernel⟩
theorem lk_L_130 : LV RL 130 RX5 K_X5_get 2 := ⟨w_870, w_871, w_872, w_5, w_873, by decide +kernel⟩
theorem lk_L_134 : LV RL 134 RX5 K_X5_put 3 := ⟨w_934, w_935, w_936, w_5, w_937, by decide +kernel⟩
theorem lk_L_138 : LV RL 138 RX5 K_X5_commit 2 := ⟨w_939, w_940, w_941, w_5, w_942, by decide +kernel⟩
theorem lk_L_141 : LV RL 141 RX5 K_X5_abort 1 := ⟨w_951, w_952, w_953, w_5, w_954, by decide +kernel⟩
theorem lk_L_144 : LV RL 144 RX5 K_X5_recover 1 := ⟨w_955, w_956, w_957, w_5, w_958, by decide +kernel⟩
theorem lk_L_147 : LV RL 147 RX5 K_X5_beat 1 := ⟨w_959, w_960, w_961, w_5, w_962, by decide +kernel⟩
theorem lk_L_150 : LV RL 150 RX5 K_X5_told 2 := ⟨w_963, w_964, w_965, w_5, w_966, by decide +kernel⟩
theorem lk_L_153 : LV RL 153 RX5 K_X5_key 2 := ⟨w_967, w_968, w_969, w_5, w_970, by decide +kernel⟩
theorem lk_L_156 : LV RL 156 RX5 K_X5_asOf 2 := ⟨w_971, w_972, w_973, w_5, w_974, by decide +kernel⟩
theorem lk_L_157 : LV RL 157 RX4 K_X4_resolved 0 := ⟨w_130, w_131, w_132, w_1, w_133, by decide +kernel⟩
theorem lk_L_160 : LV RL 160 RX5 K_X5_resolved 0 := ⟨w_975, w_976, w_977, w_5, w_978, by decide +kernel⟩
theorem lk_L_163 : LV RL 163 RX5 K_X5_feed 1 := ⟨w_983, w_984, w_985, w_5, w_986, by decide +kernel⟩
theorem lk_L_166 : LV RL 166 RX5 K_X5_order 1 := ⟨w_987, w_988, w_989, w_5, w_990, by decide +kernel⟩
theorem lk_L_167 : LV RL 167 RX4 K_X4_judged 0 := ⟨w_141, w_142, w_143, w_1, w_144, by decide +kernel⟩
theorem lk_L_170 : LV RL 170 RX5 K_X5_judged 0 := ⟨w_999, w_1000, w_1001, w_5, w_1002, by decide +kernel⟩
theorem thg_44 : ∀ w ∈ (vx_atS RX4 44 "java/lang/IllegalArgumentException" ["java/lang/RuntimeException", "java/lang/Exception"]).filter goodWord, w ∈ lw_tbl := by decide +kernel
theorem thb_44 : ∀ w ∈ (vx_atS RX4 44 "java/lang/IllegalArgumentException" ["java/lang/RuntimeException", "java/lang/Exception"]).filter (fun w => !goodWord w), w = Cond.castable "java/lang/IllegalArgumentException" "java/lang/IllegalArgumentException" ∨ ∃ y ∈ decT, w = Cond.declares y := by decide +kernel
theorem tha_44 : ∀ w ∈ vx_atS RX4 44 "java/lang/IllegalArgumentException" ["java/lang/RuntimeException", "java/lang/Exception"], w ∈ gtbl ∨ w = Cond.castable "java/lang/IllegalArgumentException" "java/lang/IllegalArgumentException" ∨ ∃ y ∈ decT, w = Cond.declares y := by
  intro w hw
  cases e : goodWord w with
  | true => exact Or.inl (List.mem_filter.mpr ⟨thg_44 w (List.mem_filter.mpr ⟨hw, e⟩), e⟩)
  | false => exact Or.inr (thb_44 w (List.mem_filter.mpr ⟨hw, by simp [e]⟩))
theorem tho_44 : ∀ w ∈ Cond.classLink RX4 40 "java/lang/IllegalArgumentException" :: Cond.initialized "java/lang/IllegalArgumentException" :: vx_atS RX4 44 "java/lang/IllegalArgumentException" ["java/lang/RuntimeException", "java/lang/Exception"], vx_ot w = true := by decide +kernel
theorem V_th44 {g : GT} {K : MK} {mc ms nt : Nat} {Po : PT} {Px : XT} {kb nb : Nat} {h : Nat × Nat} {C M : St} {o : Int64} {pc : Nat} {lv : List (Nat × Value)} {is : Nat} {text : String} (ho : ko K = RX4) (hh : kh K = []) (hstr : (RX4, is, text) ∈ strT) (d0 : decode (kc K) pc = .ok (.new 40, 3)) (d3 : decode (kc K) (pc + 3) = .ok (.dup, 1)) (d4 : decode (kc K) (pc + 4) = .ok (.ldc is, 2)) (d6 : decode (kc K) (pc + 6) = .ok (.invokespecial 44, 3)) (d9 : decode (kc K) (pc + 9) = .ok (.athrow, 1)) (hf : 5 < kf K) (hlo : 82 ≤ klo K) (hc : kb + 1 ≤ mc) (hs : nb + 6 ≤ ms) (hp : Px "java/lang/IllegalArgumentException" C M o) : V g K (kR K mc ms) (qM g mc ms nt Po Px) kb nb nt h C M o pc lv [] := V_throw ho hh (by decide +kernel) w_173 w_9 hstr tha_44 (by decide +kernel) tho_44 d0 d3 d4 d6 d9 hf hlo hc hs hp
theorem thg_55 : ∀ w ∈ (vx_atS RX4 55 "java/lang/IllegalStateException" ["java/lang/RuntimeException", "java/lang/Exception"]).filter goodWord, w ∈ lw_tbl := by decide +kernel
theorem thb_55 : ∀ w ∈ (vx_atS RX4 55 "java/lang/IllegalStateException" ["java/lang/RuntimeException", "java/lang/Exception"]).filter (fun w => !goodWord w), w = Cond.castable "java/lang/IllegalStateException" "java/lang/IllegalStateException" ∨ ∃ y ∈ decT, w = Cond.declares y := by decide +kernel
theorem tha_55 : ∀ w ∈ vx_atS RX4 55 "java/lang/IllegalStateException" ["java/lang/RuntimeException", "java/lang/Exception"], w ∈ gtbl ∨ w = Cond.castable "java/lang/IllegalStateException" "java/lang/IllegalStateException" ∨ ∃ y ∈ decT, w = Cond.declares y := by
  intro w hw
  cases e : goodWord w with
  | true => exact Or.inl (List.mem_filter.mpr ⟨thg_55 w (List.mem_filter.mpr ⟨hw, e⟩), e⟩)
  | false => exact Or.inr (thb_55 w (List.mem_filter.mpr ⟨hw, by simp [e]⟩))
theorem tho_55 : ∀ w ∈ Cond.classLink RX4 51 "java/lang/IllegalStateException" :: Cond.initialized "java/lang/IllegalStateException" :: vx_atS RX4 55 "java/lang/IllegalStateException" ["java/lang/RuntimeException", "java/lang/Exception"], vx_ot w = true := by decide +kernel
theorem V_th55 {g : GT} {K : MK} {mc ms nt : Nat} {Po : PT} {Px : XT} {kb nb : Nat} {h : Nat × Nat} {C M : St} {o : Int64} {pc : Nat} {lv : List (Nat × Value)} {is : Nat} {text : String} (ho : ko K = RX4) (hh : kh K = []) (hstr : (RX4, is, text) ∈ strT) (d0 : decode (kc K) pc = .ok (.new 51, 3)) (d3 : decode (kc K) (pc + 3) = .ok (.dup, 1)) (d4 : decode (kc K) (pc + 4) = .ok (.ldc is, 2)) (d6 : decode (kc K) (pc + 6) = .ok (.invokespecial 55, 3)) (d9 : decode (kc K) (pc + 9) = .ok (.athrow, 1)) (hf : 5 < kf K) (hlo : 82 ≤ klo K) (hc : kb + 1 ≤ mc) (hs : nb + 6 ≤ ms) (hp : Px "java/lang/IllegalStateException" C M o) : V g K (kR K mc ms) (qM g mc ms nt Po Px) kb nb nt h C M o pc lv [] := V_throw ho hh (by decide +kernel) w_241 w_10 hstr tha_55 (by decide +kernel) tho_55 d0 d3 d4 d6 d9 hf hlo hc hs hp
theorem thg_98 : ∀ w ∈ (vx_atS RX4 98 "java/lang/IndexOutOfBoundsException" ["java/lang/RuntimeException", "java/lang/Exception"]).filter goodWord, w ∈ lw_tbl := by decide +kernel
theorem thb_98 : ∀ w ∈ (vx_atS RX4 98 "java/lang/IndexOutOfBoundsException" ["java/lang/RuntimeException", "java/lang/Exception"]).filter (fun w => !goodWord w), w = Cond.castable "java/lang/IndexOutOfBoundsException" "java/lang/IndexOutOfBoundsException" ∨ ∃ y ∈ decT, w = Cond.declares y := by decide +kernel
theorem tha_98 : ∀ w ∈ vx_atS RX4 98 "java/lang/IndexOutOfBoundsException" ["java/lang/RuntimeException", "java/lang/Exception"], w ∈ gtbl ∨ w = Cond.castable "java/lang/IndexOutOfBoundsException" "java/lang/IndexOutOfBoundsException" ∨ ∃ y ∈ decT, w = Cond.declares y := by
  intro w hw
  cases e : goodWord w with
  | true => exact Or.inl (List.mem_filter.mpr ⟨thg_98 w (List.mem_filter.mpr ⟨hw, e⟩), e⟩)
  | false => exact Or.inr (thb_98 w (List.mem_filter.mpr ⟨hw, by simp [e]⟩))
theorem tho_98 : ∀ w ∈ Cond.classLink RX4 94 "java/lang/IndexOutOfBoundsException" :: Cond.initialized "java/lang/IndexOutOfBoundsException" :: vx_atS RX4 98 "java/lang/IndexOutOfBoundsException" ["java/lang/RuntimeException", "java/lang/Exception"], vx_ot w = true := by decide +kernel
theorem V_th98 {g : GT} {K : MK} {mc ms nt : Nat} {Po : PT} {Px : XT} {kb nb : Nat} {h : Nat × Nat} {C M : St} {o : Int64} {pc : Nat} {lv : List (Nat × Value)} {is : Nat} {text : String} (ho : ko K = RX4) (hh : kh K = []) (hstr : (RX4, is, text) ∈ strT) (d0 : decode (kc K) pc = .ok (.new 94, 3)) (d3 : decode (kc K) (pc + 3) = .ok (.dup, 1)) (d4 : decode (kc K) (pc + 4) = .ok (.ldc is, 2)) (d6 : decode (kc K) (pc + 6) = .ok (.invokespecial 98, 3)) (d9 : decode (kc K) (pc + 9) = .ok (.athrow, 1)) (hf : 5 < kf K) (hlo : 82 ≤ klo K) (hc : kb + 1 ≤ mc) (hs : nb + 6 ≤ ms) (hp : Px "java/lang/IndexOutOfBoundsException" C M o) : V g K (kR K mc ms) (qM g mc ms nt Po Px) kb nb nt h C M o pc lv [] := V_throw ho hh (by decide +kernel) w_269 w_11 hstr tha_98 (by decide +kernel) tho_98 d0 d3 d4 d6 d9 hf hlo hc hs hp
end
section
/-! bits (the family of the kit, pasted), small facts -/
/-! ===== Int32 by its bits: bt x i ===== -/
def bt (x : Int32) (i : Nat) : Bool := x.toBitVec.getLsbD i
theorem b_ext {x y : Int32} (h : ∀ i, i < 32 → bt x i = bt y i) : x = y := Int32.toBitVec_inj.mp (BitVec.eq_of_getLsbD_eq (fun i hi => h i hi))
theorem b_or (x y : Int32) (i : Nat) : bt (x ||| y) i = (bt x i || bt y i) := by unfold bt; rw [Int32.toBitVec_or, BitVec.getLsbD_or]
theorem b_and (x y : Int32) (i : Nat) : bt (x &&& y) i = (bt x i && bt y i) := by unfold bt; rw [Int32.toBitVec_and, BitVec.getLsbD_and]
theorem b_xor (x y : Int32) (i : Nat) : bt (x ^^^ y) i = (bt x i ^^ bt y i) := by unfold bt; rw [Int32.toBitVec_xor, BitVec.getLsbD_xor]
theorem b_big {x : Int32} {i : Nat} (h : 32 ≤ i) : bt x i = false := BitVec.getLsbD_of_ge _ _ h
theorem b_255 (i : Nat) : bt 255 i = decide (i < 8) := by
  rcases Nat.lt_or_ge i 32 with h | h
  · exact (by decide +kernel : ∀ i, i < 32 → bt 255 i = decide (i < 8)) i h
  · rw [b_big h, decide_eq_false (by omega)]
theorem b_65535 (i : Nat) : bt 65535 i = decide (i < 16) := by
  rcases Nat.lt_or_ge i 32 with h | h
  · exact (by decide +kernel : ∀ i, i < 32 → bt 65535 i = decide (i < 16)) i h
  · rw [b_big h, decide_eq_false (by omega)]
theorem b_m1 : ∀ i, i < 32 → bt (-1) i = true := by decide +kernel
theorem b_0 (i : Nat) : bt 0 i = false := BitVec.getLsbD_zero
theorem s_l : ∀ n, n < 32 → ((nI n &&& 31).toBitVec.smod 32).toNat = n := by decide +kernel
theorem s_u : ∀ n, n < 32 → (((nI n).toUInt32 &&& Int32.toUInt32 31).toBitVec % 32).toNat = n := by decide +kernel
theorem b_shl (n : Nat) (hn : n < 32) (x : Int32) {i : Nat} (hi : i < 32) : bt (x <<< (nI n &&& 31)) i = (decide (n ≤ i) && bt x (i - n)) := by
  unfold bt
  rw [Int32.toBitVec_shiftLeft]
  show (x.toBitVec <<< ((nI n &&& 31).toBitVec.smod 32).toNat).getLsbD i = _
  rw [s_l n hn, BitVec.getLsbD_shiftLeft]
  rcases Nat.lt_or_ge i n with h | h
  · simp [h, Nat.not_le.mpr h]
  · simp [hi, h, Nat.not_lt.mpr h]
theorem b_ushr (n : Nat) (hn : n < 32) (x : Int32) (i : Nat) : bt ((x.toUInt32 >>> ((nI n).toUInt32 &&& Int32.toUInt32 31)).toInt32) i = bt x (n + i) := by
  show (x.toUInt32 >>> ((nI n).toUInt32 &&& Int32.toUInt32 31)).toBitVec.getLsbD i = x.toUInt32.toBitVec.getLsbD (n + i)
  rw [UInt32.toBitVec_shiftRight]
  show (x.toUInt32.toBitVec >>> (((nI n).toUInt32 &&& Int32.toUInt32 31).toBitVec % 32).toNat).getLsbD i = _
  rw [s_u n hn, BitVec.getLsbD_ushiftRight]
theorem b_sshr (n : Nat) (hn : n < 32) (x : Int32) {i : Nat} (hi : i < 32) : bt (x >>> (nI n &&& 31)) i = if n + i < 32 then bt x (n + i) else bt x 31 := by
  unfold bt
  rw [Int32.toBitVec_shiftRight]
  show (x.toBitVec.sshiftRight ((nI n &&& 31).toBitVec.smod 32).toNat).getLsbD i = _
  rw [s_l n hn, BitVec.getLsbD_sshiftRight, BitVec.msb_eq_getLsbD_last]
  simp [hi]

theorem vin_lt {x : Int32} {n : Nat} (h : vp_in x n) : x.toNatClampNeg < n := Nat.not_le.mp fun q => h (Or.inr q)
theorem inc1 (i : Nat) : nI i + Int32.ofInt 1 = nI (i + 1) := nI_1 i
theorem dec1 (i : Nat) : nI (i + 1) + Int32.ofInt (-1) = nI i := pk_m1 i
theorem inr_pred {p n : Nat} (h : p < n) (hn : n < 2 ^ 31) : inr (nI (p + 1) - 1) n p := by rw [nI_pred]; exact inr_nI h hn
theorem ge_nI {n i : Nat} (h : n ≤ i) (hi : i < 2 ^ 31) : nI n ≤ nI i := nI_le h hi
theorem nge_nI {n i : Nat} (h : i < n) (hn : n < 2 ^ 31) : ¬ nI n ≤ nI i := nI_ge h hn
theorem g32 {i : Nat} (h : i < 32) : ¬ (32 : Int32) ≤ nI i := nI_ge (b := 32) h (by decide)
theorem l32 {i : Nat} (h : i = 32) : (32 : Int32) ≤ nI i := by subst h; decide
theorem g4 {i : Nat} (h : i < 4) : ¬ (4 : Int32) ≤ nI i := nI_ge (b := 4) h (by decide)
theorem int_lt_irrefl {x : Int32} : ¬ x < x := Int32.lt_irrefl
theorem trv_tok {nt : Nat} {x : Int32} (h : trv nt x) (hx : ¬ x < 0) : tok nt x := by
  rcases h with h | h
  · subst h; exact absurd (by decide) hx
  · exact h
theorem tok_nn {nt : Nat} {x : Int32} (h : tok nt x) : ¬ x < 0 := h.1
def bI (b : Bool) : Int32 := if b then 1 else 0
def setb (x : Int32) (n : Nat) : Int32 := x ||| ((1 : Int32) <<< (nI n &&& 31))
theorem b_one (i : Nat) : bt 1 i = decide (i = 0) := by
  rcases Nat.lt_or_ge i 32 with h | h
  · exact (by decide +kernel : ∀ i, i < 32 → bt 1 i = decide (i = 0)) i h
  · rw [b_big h, decide_eq_false (by omega)]
theorem bt_setb {x : Int32} {n i : Nat} (hn : n < 32) (hi : i < 32) : bt (setb x n) i = (bt x i || decide (i = n)) := by
  unfold setb
  rw [b_or, b_shl n hn 1 hi, b_one]
  congr 1
  by_cases e : i = n
  · subst e; simp
  · by_cases l : n ≤ i
    · simp [e, l]; omega
    · simp [e, l]
theorem bitc {x : Int32} {n : Nat} (hn : n < 32) : ((x.toUInt32 >>> ((nI n).toUInt32 &&& Int32.toUInt32 31)).toInt32 &&& 1) = 0 ↔ bt x n = false := by
  have key : ∀ i, i < 32 → bt ((x.toUInt32 >>> ((nI n).toUInt32 &&& Int32.toUInt32 31)).toInt32 &&& 1) i = (decide (i = 0) && bt x n) := by
    intro i hi
    rw [b_and, b_ushr n hn, b_one]
    by_cases e : i = 0
    · subst e; simp
    · simp [e]
  constructor
  · intro h
    have h0 := key 0 (by omega)
    rw [h, b_0] at h0
    simpa using h0.symm
  · intro h
    refine b_ext (fun i hi => ?_)
    rw [key i hi, h, b_0]
    simp
theorem bitF {x : Int32} {n : Nat} (hn : n < 32) (h : ((x.toUInt32 >>> ((nI n).toUInt32 &&& Int32.toUInt32 31)).toInt32 &&& 1) = 0) : bt x n = false := (bitc hn).mp h
theorem bitT {x : Int32} {n : Nat} (hn : n < 32) (h : ¬ ((x.toUInt32 >>> ((nI n).toUInt32 &&& Int32.toUInt32 31)).toInt32 &&& 1) = 0) : bt x n = true := by
  cases e : bt x n with
  | true => rfl
  | false => exact absurd ((bitc hn).mpr e) h
theorem narB {b : Bool} : narrow .boolean (.int (bI b)) = .int (bI b) := by cases b <;> rfl
end
section
/-! class: leaves, and the first calls -/
def mx (a b : Int32) : Int32 := if a < b then b else a
def mn (a b : Int32) : Int32 := if b < a then b else a
def meetS (C : St) (n : Nat) (s : Int32) : St := up C 2 n (mx (C 2 n) s)
def tellS (C : St) (n : Nat) (time : Int32) : St := meetS C n (mx (10 * (time + C 1 n)) (C 2 n + 1))
def noteR (C : St) (k : Nat) (num st : Int32) : St := if st ≤ C 8 k then (if st = C 8 k then (if C 9 k = num then C else up C 9 k (-2)) else C) else up (up C 8 k st) 9 k num
def noteS (C : St) (k : Nat) (st : Int32) : St := if st ≤ C 8 k then C else up (up C 8 k st) 9 k (-2)
def closedS (C : St) : Int32 := mx 0 (10 * (C 0 0 - 15))
section B1
variable {g : GT} {nt : Nat} {C M : St} {o : Int64}
theorem ok_meetStamp {n : Nat} (hn : n < 4) {s : Int32} : RET g K_X2_meetStamp 0 0 [.ref (ad g (37 + n)), .int s] nt C M o none (meetS C n s) M o := by
  refine MT_of (by decide +kernel) rfl rfl (Nat.le_of_ble_eq_true rfl) (by simp [cat_rf, cat_int, cat_ref]) (fun h => ?_)
  refine V_aload_n (dG D_X2_meetStamp 0 rfl) rfl ?_
  refine V_aload_n (dG D_X2_meetStamp 1 rfl) rfl ?_
  refine gf_X2_15 rfl (dG D_X2_meetStamp 2 rfl) (by first | assumption | omega) ?_
  refine V_iload_n (dG D_X2_meetStamp 3 rfl) rfl ?_
  refine V_max w_302 (dG D_X2_meetStamp 4 rfl) ⟨(Nat.le_of_ble_eq_true rfl), (by first | exact Nat.le_of_ble_eq_true rfl | (simp only [List.map, List.sum, cat_rf, cat_int, cat_ref]; exact Nat.le_of_ble_eq_true rfl))⟩ ⟨(Nat.le_of_ble_eq_true rfl), (Nat.le_of_ble_eq_true rfl)⟩ ?_
  refine pf_X2_15 rfl (dG D_X2_meetStamp 5 rfl) (by first | assumption | omega) ?_
  exact V_vret (dG D_X2_meetStamp 6 rfl) rfl (Nat.le_of_ble_eq_true rfl) (Nat.le_of_ble_eq_true rfl) ⟨rfl, rfl, rfl, rfl⟩
theorem ok_tellStamp {n : Nat} (hn : n < 4) {time : Int32} : RET g K_X2_tellStamp 0 0 [.ref (ad g (37 + n)), .int time] nt C M o (some (.int (tellS C n time 2 n))) (tellS C n time) M o := by
  refine MT_of (by decide +kernel) rfl rfl (Nat.le_of_ble_eq_true rfl) (by simp [cat_rf, cat_int, cat_ref]) (fun h => ?_)
  refine V_aload_n (dG D_X2_tellStamp 0 rfl) rfl ?_
  refine V_bipush (v := 10) (dG D_X2_tellStamp 1 rfl) (by decide) ?_
  refine V_iload_n (dG D_X2_tellStamp 2 rfl) rfl ?_
  refine V_aload_n (dG D_X2_tellStamp 3 rfl) rfl ?_
  refine gf_X2_9 rfl (dG D_X2_tellStamp 4 rfl) (by first | assumption | omega) ?_
  refine V_iadd (dG D_X2_tellStamp 5 rfl) ?_
  refine V_imul (dG D_X2_tellStamp 6 rfl) ?_
  refine V_aload_n (dG D_X2_tellStamp 7 rfl) rfl ?_
  refine gf_X2_15 rfl (dG D_X2_tellStamp 8 rfl) (by first | assumption | omega) ?_
  refine V_iconst (v := 1) (dG D_X2_tellStamp 9 rfl) (by decide) ?_
  refine V_iadd (dG D_X2_tellStamp 10 rfl) ?_
  refine V_max w_302 (dG D_X2_tellStamp 11 rfl) ⟨(Nat.le_of_ble_eq_true rfl), (by first | exact Nat.le_of_ble_eq_true rfl | (simp only [List.map, List.sum, cat_rf, cat_int, cat_ref]; exact Nat.le_of_ble_eq_true rfl))⟩ ⟨(Nat.le_of_ble_eq_true rfl), (Nat.le_of_ble_eq_true rfl)⟩ ?_
  refine R_nb1 (ok_meetStamp (by assumption)) lk_X2_24 (dG D_X2_tellStamp 12 rfl) (rcv_2 (by first | assumption | omega)) ⟨Nat.le_of_ble_eq_true rfl, Nat.le_of_ble_eq_true rfl⟩ ⟨(Nat.le_of_ble_eq_true rfl), (Nat.le_of_ble_eq_true rfl)⟩ (by first | exact Nat.le_of_ble_eq_true rfl | simp [cat_rf, cat_int, cat_ref]) (fun h => ?_)
  refine V_aload_n (dG D_X2_tellStamp 13 rfl) rfl ?_
  refine gf_X2_15 rfl (dG D_X2_tellStamp 14 rfl) (by first | assumption | omega) ?_
  exact V_iret (dG D_X2_tellStamp 15 rfl) rfl (Nat.le_of_ble_eq_true rfl) (Nat.le_of_ble_eq_true rfl) ⟨rfl, rfl, rfl, rfl⟩
theorem ok_noteReader {k : Nat} (hk : k < 32) {num st : Int32} : RET g K_X0_noteReader 0 0 [.ref (ad g (41 + k)), .int num, .int st] nt C M o none (noteR C k num st) M o := by
  refine MT_of (by decide +kernel) rfl rfl (Nat.le_of_ble_eq_true rfl) (by simp [cat_rf, cat_int, cat_ref]) (fun h => ?_)
  refine V_iload_n (dG D_X0_noteReader 0 rfl) rfl ?_
  refine V_aload_n (dG D_X0_noteReader 1 rfl) rfl ?_
  refine gf_X0_15 rfl (dG D_X0_noteReader 2 rfl) (by first | assumption | omega) ?_
  refine V_icmp_le (tgt := 21) (dG D_X0_noteReader 3 rfl) (by decide) (fun c_5 => ?_) (fun c_5 => ?_)
  · skip
    refine V_iload_n (dG D_X0_noteReader 11 rfl) rfl ?_
    refine V_aload_n (dG D_X0_noteReader 12 rfl) rfl ?_
    refine gf_X0_15 rfl (dG D_X0_noteReader 13 rfl) (by first | assumption | omega) ?_
    refine V_icmp_ne (tgt := 43) (dG D_X0_noteReader 14 rfl) (by decide) (fun c_26 => ?_) (fun c_26 => ?_)
    · skip
      exact V_vret (dG D_X0_noteReader 22 rfl) rfl (Nat.le_of_ble_eq_true rfl) (Nat.le_of_ble_eq_true rfl) ⟨rfl, (by simp [noteR, c_5, c_26]), rfl, rfl⟩
    · skip
      refine V_aload_n (dG D_X0_noteReader 15 rfl) rfl ?_
      refine gf_X0_9 rfl (dG D_X0_noteReader 16 rfl) (by first | assumption | omega) ?_
      refine V_iload_n (dG D_X0_noteReader 17 rfl) rfl ?_
      refine V_icmp_eq (tgt := 43) (dG D_X0_noteReader 18 rfl) (by decide) (fun c_34 => ?_) (fun c_34 => ?_)
      · skip
        exact V_vret (dG D_X0_noteReader 22 rfl) rfl (Nat.le_of_ble_eq_true rfl) (Nat.le_of_ble_eq_true rfl) ⟨rfl, (by simp [noteR, c_5, c_26, c_34]), rfl, rfl⟩
      · skip
        refine V_aload_n (dG D_X0_noteReader 19 rfl) rfl ?_
        refine V_bipush (v := -2) (dG D_X0_noteReader 20 rfl) (by decide) ?_
        refine pf_X0_9 rfl (dG D_X0_noteReader 21 rfl) (by first | assumption | omega) ?_
        exact V_vret (dG D_X0_noteReader 22 rfl) rfl (Nat.le_of_ble_eq_true rfl) (Nat.le_of_ble_eq_true rfl) ⟨rfl, (by simp [noteR, c_5, c_26, c_34]), rfl, rfl⟩
  · skip
    refine V_aload_n (dG D_X0_noteReader 4 rfl) rfl ?_
    refine V_iload_n (dG D_X0_noteReader 5 rfl) rfl ?_
    refine pf_X0_15 rfl (dG D_X0_noteReader 6 rfl) (by first | assumption | omega) ?_
    refine V_aload_n (dG D_X0_noteReader 7 rfl) rfl ?_
    refine V_iload_n (dG D_X0_noteReader 8 rfl) rfl ?_
    refine pf_X0_9 rfl (dG D_X0_noteReader 9 rfl) (by first | assumption | omega) ?_
    refine V_goto (tgt := 43) (dG D_X0_noteReader 10 rfl) (by decide) ?_
    exact V_vret (dG D_X0_noteReader 22 rfl) rfl (Nat.le_of_ble_eq_true rfl) (Nat.le_of_ble_eq_true rfl) ⟨rfl, (by simp [noteR, c_5]), rfl, rfl⟩
theorem ok_noteSeveral {k : Nat} (hk : k < 32) {st : Int32} : RET g K_X0_noteSeveral 0 0 [.ref (ad g (41 + k)), .int st] nt C M o none (noteS C k st) M o := by
  refine MT_of (by decide +kernel) rfl rfl (Nat.le_of_ble_eq_true rfl) (by simp [cat_rf, cat_int, cat_ref]) (fun h => ?_)
  refine V_iload_n (dG D_X0_noteSeveral 0 rfl) rfl ?_
  refine V_aload_n (dG D_X0_noteSeveral 1 rfl) rfl ?_
  refine gf_X0_15 rfl (dG D_X0_noteSeveral 2 rfl) (by first | assumption | omega) ?_
  refine V_icmp_le (tgt := 19) (dG D_X0_noteSeveral 3 rfl) (by decide) (fun c_5 => ?_) (fun c_5 => ?_)
  · skip
    exact V_vret (dG D_X0_noteSeveral 10 rfl) rfl (Nat.le_of_ble_eq_true rfl) (Nat.le_of_ble_eq_true rfl) ⟨rfl, (by simp [noteS, c_5]), rfl, rfl⟩
  · skip
    refine V_aload_n (dG D_X0_noteSeveral 4 rfl) rfl ?_
    refine V_iload_n (dG D_X0_noteSeveral 5 rfl) rfl ?_
    refine pf_X0_15 rfl (dG D_X0_noteSeveral 6 rfl) (by first | assumption | omega) ?_
    refine V_aload_n (dG D_X0_noteSeveral 7 rfl) rfl ?_
    refine V_bipush (v := -2) (dG D_X0_noteSeveral 8 rfl) (by decide) ?_
    refine pf_X0_9 rfl (dG D_X0_noteSeveral 9 rfl) (by first | assumption | omega) ?_
    exact V_vret (dG D_X0_noteSeveral 10 rfl) rfl (Nat.le_of_ble_eq_true rfl) (Nat.le_of_ble_eq_true rfl) ⟨rfl, (by simp [noteS, c_5]), rfl, rfl⟩
theorem ok_closedStamp : RET g K_X4_closedStamp 0 0 [.ref (ad g 0)] nt C M o (some (.int (closedS C))) C M o := by
  refine MT_of (by decide +kernel) rfl rfl (Nat.le_of_ble_eq_true rfl) (by simp [cat_rf, cat_int, cat_ref]) (fun h => ?_)
  refine V_iconst (v := 0) (dG D_X4_closedStamp 0 rfl) (by decide) ?_
  refine V_bipush (v := 10) (dG D_X4_closedStamp 1 rfl) (by decide) ?_
  refine V_aload_n (dG D_X4_closedStamp 2 rfl) rfl ?_
  refine gf_X4_47 rfl (dG D_X4_closedStamp 3 rfl) ?_
  refine V_bipush (v := 15) (dG D_X4_closedStamp 4 rfl) (by decide) ?_
  refine V_isub (dG D_X4_closedStamp 5 rfl) ?_
  refine V_imul (dG D_X4_closedStamp 6 rfl) ?_
  refine V_max w_127 (dG D_X4_closedStamp 7 rfl) ⟨(Nat.le_of_ble_eq_true rfl), (by first | exact Nat.le_of_ble_eq_true rfl | (simp only [List.map, List.sum, cat_rf, cat_int, cat_ref]; exact Nat.le_of_ble_eq_true rfl))⟩ ⟨(Nat.le_of_ble_eq_true rfl), (Nat.le_of_ble_eq_true rfl)⟩ ?_
  exact V_iret (dG D_X4_closedStamp 8 rfl) rfl (Nat.le_of_ble_eq_true rfl) (Nat.le_of_ble_eq_true rfl) ⟨rfl, rfl, rfl, rfl⟩
theorem ok_closed : RET g K_X4_closed 0 0 [.ref (ad g 0)] nt C M o (some (.int (closedS C))) C M o := by
  refine MT_of (by decide +kernel) rfl rfl (Nat.le_of_ble_eq_true rfl) (by simp [cat_rf, cat_int, cat_ref]) (fun h => ?_)
  refine V_aload_n (dG D_X4_closed 0 rfl) rfl ?_
  refine R_vb0 ok_closedStamp lk_X4_72 (dG D_X4_closed 1 rfl) rcv_4 ⟨Nat.le_of_ble_eq_true rfl, Nat.le_of_ble_eq_true rfl⟩ ⟨(Nat.le_of_ble_eq_true rfl), (Nat.le_of_ble_eq_true rfl)⟩ (by first | exact Nat.le_of_ble_eq_true rfl | simp [cat_rf, cat_int, cat_ref]) (fun h => ?_)
  exact V_iret (dG D_X4_closed 2 rfl) rfl (Nat.le_of_ble_eq_true rfl) (Nat.le_of_ble_eq_true rfl) ⟨rfl, rfl, rfl, rfl⟩
theorem ok_needNode {x : Int32} (h0 : ¬ x < 0) (h1 : x < 4) : RET g K_X4_needNode 0 0 [.ref (ad g 0), .int x] nt C M o none C M o := by
  refine MT_of (by decide +kernel) rfl rfl (Nat.le_of_ble_eq_true rfl) (by simp [cat_rf, cat_int, cat_ref]) (fun h => ?_)
  refine V_iload_n (dG D_X4_needNode 0 rfl) rfl ?_
  refine V_if_lt (tgt := 9) (dG D_X4_needNode 1 rfl) (by decide) (fun c_1 => absurd c_1 h0) (fun c_1 => ?_)
  refine V_iload_n (dG D_X4_needNode 2 rfl) rfl ?_
  refine V_iconst (v := 4) (dG D_X4_needNode 3 rfl) (by decide) ?_
  refine V_icmp_lt (tgt := 19) (dG D_X4_needNode 4 rfl) (by decide) (fun c_6 => ?_) (fun c_6 => absurd h1 c_6)
  exact V_vret (dG D_X4_needNode 10 rfl) rfl (Nat.le_of_ble_eq_true rfl) (Nat.le_of_ble_eq_true rfl) ⟨rfl, rfl, rfl, rfl⟩
theorem th_needNode {x : Int32} (h0 : x < 0 ∨ ¬ x < 4) : THR g K_X4_needNode 1 6 [.ref (ad g 0), .int x] nt C M o "java/lang/IndexOutOfBoundsException" := by
  refine MT_of (by decide +kernel) rfl rfl (Nat.le_of_ble_eq_true rfl) (by simp [cat_rf, cat_int, cat_ref]) (fun h => ?_)
  refine V_iload_n (dG D_X4_needNode 0 rfl) rfl ?_
  refine V_if_lt (tgt := 9) (dG D_X4_needNode 1 rfl) (by decide) (fun c_1 => ?_) (fun c_1 => ?_)
  · skip
    exact V_th98 (text := "no such node") rfl rfl (by decide +kernel) (dG D_X4_needNode 5 rfl) (dG D_X4_needNode 6 rfl) (dG D_X4_needNode 7 rfl) (dG D_X4_needNode 8 rfl) (dG D_X4_needNode 9 rfl) (Nat.le_of_ble_eq_true rfl) (Nat.le_of_ble_eq_true rfl) (Nat.le_of_ble_eq_true rfl) (Nat.le_of_ble_eq_true rfl) ⟨rfl, rfl, rfl, rfl⟩
  · skip
    refine V_iload_n (dG D_X4_needNode 2 rfl) rfl ?_
    refine V_iconst (v := 4) (dG D_X4_needNode 3 rfl) (by decide) ?_
    refine V_icmp_lt (tgt := 19) (dG D_X4_needNode 4 rfl) (by decide) (fun c_6 => absurd c_6 (h0.resolve_left c_1)) (fun c_6 => ?_)
    exact V_th98 (text := "no such node") rfl rfl (by decide +kernel) (dG D_X4_needNode 5 rfl) (dG D_X4_needNode 6 rfl) (dG D_X4_needNode 7 rfl) (dG D_X4_needNode 8 rfl) (dG D_X4_needNode 9 rfl) (Nat.le_of_ble_eq_true rfl) (Nat.le_of_ble_eq_true rfl) (Nat.le_of_ble_eq_true rfl) (Nat.le_of_ble_eq_true rfl) ⟨rfl, rfl, rfl, rfl⟩
end B1
end
section
/-! class: the transaction's own methods -/
def vanB (C : St) (i : Nat) (time : Int32) : Int32 := if C 15 i = 0 ∨ C 15 i = 1 then (if time ≤ C 18 i + 20 then 0 else 1) else 0
def wfS (C : St) (i : Nat) : Int32 := if C 15 i = 0 ∧ ¬ C 19 i < 0 ∧ C 15 (C 19 i).toNatClampNeg = 0 then C 19 i else -1
def ybB (C : St) (i j : Nat) : Int32 := if C 13 i < C 13 j then 1 else if C 13 i = C 13 j then (if C 11 i ≤ C 11 j then 0 else 1) else 0
def noteClockS (C : St) (i n : Nat) (stamp : Int32) : St := up (up C 22 i (setb (C 22 i) n)) (52 + 3 * i) n (mn (C 14 i) stamp)
def noteReadS (C : St) (i k : Nat) (v : Int32) : St := up (up C 20 i (setb (C 20 i) k)) (50 + 3 * i) k v
def noteWriteS (C : St) (i k : Nat) (v : Int32) : St := up (up C 21 i (setb (C 21 i) k)) (51 + 3 * i) k v
def forgetS (C : St) (i : Nat) (s : Int32) : St := up (up (up (up C 20 i 0) 21 i 0) 17 i (mx s (C 17 i))) 16 i (mx s (C 17 i))
def raiseS (C : St) (i : Nat) (s : Int32) : St := up (up C 16 i s) 17 i (mx (C 17 i) s)
section B2
variable {g : GT} {nt : Nat} {C M : St} {o : Int64} {t : Int32}
theorem ok_isVanished (ht : tok nt t) {time : Int32} : RET g K_X3_isVanished 0 0 [va_rf (trO g t), .int time] nt C M o (some (.int (vanB C t.toNatClampNeg time))) C M o := by
  refine MT_of (by decide +kernel) rfl rfl (Nat.le_of_ble_eq_true rfl) (by simp [cat_rf, cat_int, cat_ref]) (fun h => ?_)
  refine V_aload_nt (dG D_X3_isVanished 0 rfl) rfl ?_
  refine gf_X3_9 rfl (dG D_X3_isVanished 1 rfl) (by assumption) ?_
  refine V_if_eq (tgt := 15) (dG D_X3_isVanished 2 rfl) (by decide) (fun c_4 => ?_) (fun c_4 => ?_)
  · skip
    refine V_iload_n (dG D_X3_isVanished 7 rfl) rfl ?_
    refine V_aload_nt (dG D_X3_isVanished 8 rfl) rfl ?_
    refine gf_X3_43 rfl (dG D_X3_isVanished 9 rfl) (by assumption) ?_
    refine V_bipush (v := 20) (dG D_X3_isVanished 10 rfl) (by decide) ?_
    refine V_iadd (dG D_X3_isVanished 11 rfl) ?_
    refine V_icmp_le (tgt := 30) (dG D_X3_isVanished 12 rfl) (by decide) (fun c_23 => ?_) (fun c_23 => ?_)
    · skip
      refine V_iconst (v := 0) (dG D_X3_isVanished 15 rfl) (by decide) ?_
      exact V_zret (dG D_X3_isVanished 16 rfl) rfl (by first | rfl | assumption) (Nat.le_of_ble_eq_true rfl) (Nat.le_of_ble_eq_true rfl) ⟨(by simp [vanB, c_4, c_23]), rfl, rfl, rfl⟩
    · skip
      refine V_iconst (v := 1) (dG D_X3_isVanished 13 rfl) (by decide) ?_
      refine V_goto (tgt := 31) (dG D_X3_isVanished 14 rfl) (by decide) ?_
      exact V_zret (dG D_X3_isVanished 16 rfl) rfl (by first | rfl | assumption) (Nat.le_of_ble_eq_true rfl) (Nat.le_of_ble_eq_true rfl) ⟨(by simp [vanB, c_4, c_23]), rfl, rfl, rfl⟩
  · skip
    refine V_aload_nt (dG D_X3_isVanished 3 rfl) rfl ?_
    refine gf_X3_9 rfl (dG D_X3_isVanished 4 rfl) (by assumption) ?_
    refine V_iconst (v := 1) (dG D_X3_isVanished 5 rfl) (by decide) ?_
    refine V_icmp_ne (tgt := 30) (dG D_X3_isVanished 6 rfl) (by decide) (fun c_12 => ?_) (fun c_12 => ?_)
    · skip
      refine V_iconst (v := 0) (dG D_X3_isVanished 15 rfl) (by decide) ?_
      exact V_zret (dG D_X3_isVanished 16 rfl) rfl (by first | rfl | assumption) (Nat.le_of_ble_eq_true rfl) (Nat.le_of_ble_eq_true rfl) ⟨(by simp [vanB, c_4, c_12]), rfl, rfl, rfl⟩
    · skip
      refine V_iload_n (dG D_X3_isVanished 7 rfl) rfl ?_
      refine V_aload_nt (dG D_X3_isVanished 8 rfl) rfl ?_
      refine gf_X3_43 rfl (dG D_X3_isVanished 9 rfl) (by assumption) ?_
      refine V_bipush (v := 20) (dG D_X3_isVanished 10 rfl) (by decide) ?_
      refine V_iadd (dG D_X3_isVanished 11 rfl) ?_
      refine V_icmp_le (tgt := 30) (dG D_X3_isVanished 12 rfl) (by decide) (fun c_23 => ?_) (fun c_23 => ?_)
      · skip
        refine V_iconst (v := 0) (dG D_X3_isVanished 15 rfl) (by decide) ?_
        exact V_zret (dG D_X3_isVanished 16 rfl) rfl (by first | rfl | assumption) (Nat.le_of_ble_eq_true rfl) (Nat.le_of_ble_eq_true rfl) ⟨(by simp [vanB, c_4, c_12, c_23]), rfl, rfl, rfl⟩
      · skip
        refine V_iconst (v := 1) (dG D_X3_isVanished 13 rfl) (by decide) ?_
        refine V_goto (tgt := 31) (dG D_X3_isVanished 14 rfl) (by decide) ?_
        exact V_zret (dG D_X3_isVanished 16 rfl) rfl (by first | rfl | assumption) (Nat.le_of_ble_eq_true rfl) (Nat.le_of_ble_eq_true rfl) ⟨(by simp [vanB, c_4, c_12, c_23]), rfl, rfl, rfl⟩
theorem ok_waitsFor (ht : tok nt t) (hw : trv nt (C 19 t.toNatClampNeg)) : RET g K_X3_waitsFor 0 0 [va_rf (trO g t)] nt C M o (some (va_rf (trO g (wfS C t.toNatClampNeg)))) C M o := by
  refine MT_of (by decide +kernel) rfl rfl (Nat.le_of_ble_eq_true rfl) (by simp [cat_rf, cat_int, cat_ref]) (fun h => ?_)
  refine V_aload_nt (dG D_X3_waitsFor 0 rfl) rfl ?_
  refine gf_X3_9 rfl (dG D_X3_waitsFor 1 rfl) (by assumption) ?_
  refine V_if_ne (tgt := 31) (dG D_X3_waitsFor 2 rfl) (by decide) (fun c_4 => ?_) (fun c_4 => ?_)
  · skip
    refine V_nullt (dG D_X3_waitsFor 13 rfl) ?_
    exact V_aret (dG D_X3_waitsFor 14 rfl) rfl (Nat.le_of_ble_eq_true rfl) (Nat.le_of_ble_eq_true rfl) ⟨(by simp [wfS, trO_none, c_4]), rfl, rfl, rfl⟩
  · skip
    refine V_aload_nt (dG D_X3_waitsFor 3 rfl) rfl ?_
    refine gf_X3_46 rfl (dG D_X3_waitsFor 4 rfl) (by assumption) ?_
    refine V_ifnullt (tgt := 31) (dG D_X3_waitsFor 5 rfl) (by decide) (fun c_11 => ?_) (fun c_11 => ?_)
    · skip
      refine V_nullt (dG D_X3_waitsFor 13 rfl) ?_
      exact V_aret (dG D_X3_waitsFor 14 rfl) rfl (Nat.le_of_ble_eq_true rfl) (Nat.le_of_ble_eq_true rfl) ⟨(by simp [wfS, trO_none, c_4, c_11]), rfl, rfl, rfl⟩
    · skip
      refine V_aload_nt (dG D_X3_waitsFor 6 rfl) rfl ?_
      refine gf_X3_46 rfl (dG D_X3_waitsFor 7 rfl) (by assumption) ?_
      refine gf_X3_9 rfl (dG D_X3_waitsFor 8 rfl) (trv_tok hw c_11) ?_
      refine V_if_ne (tgt := 31) (dG D_X3_waitsFor 9 rfl) (by decide) (fun c_21 => ?_) (fun c_21 => ?_)
      · skip
        refine V_nullt (dG D_X3_waitsFor 13 rfl) ?_
        exact V_aret (dG D_X3_waitsFor 14 rfl) rfl (Nat.le_of_ble_eq_true rfl) (Nat.le_of_ble_eq_true rfl) ⟨(by simp [wfS, trO_none, c_4, c_11, c_21]), rfl, rfl, rfl⟩
      · skip
        refine V_aload_nt (dG D_X3_waitsFor 10 rfl) rfl ?_
        refine gf_X3_46 rfl (dG D_X3_waitsFor 11 rfl) (by assumption) ?_
        refine V_goto (tgt := 32) (dG D_X3_waitsFor 12 rfl) (by decide) ?_
        exact V_aret (dG D_X3_waitsFor 14 rfl) rfl (Nat.le_of_ble_eq_true rfl) (Nat.le_of_ble_eq_true rfl) ⟨(by simp [wfS, trO_none, c_4, c_11, c_21]), rfl, rfl, rfl⟩
theorem ok_yieldsBefore (ht : tok nt t) {u : Int32} (hu : tok nt u) : RET g K_X3_yieldsBefore 0 0 [va_rf (trO g t), va_rf (trO g u)] nt C M o (some (.int (ybB C t.toNatClampNeg u.toNatClampNeg))) C M o := by
  refine MT_of (by decide +kernel) rfl rfl (Nat.le_of_ble_eq_true rfl) (by simp [cat_rf, cat_int, cat_ref]) (fun h => ?_)
  refine V_aload_nt (dG D_X3_yieldsBefore 0 rfl) rfl ?_
  refine gf_X3_31 rfl (dG D_X3_yieldsBefore 1 rfl) (by assumption) ?_
  refine V_aload_nt (dG D_X3_yieldsBefore 2 rfl) rfl ?_
  refine gf_X3_31 rfl (dG D_X3_yieldsBefore 3 rfl) (by assumption) ?_
  refine V_icmp_lt (tgt := 33) (dG D_X3_yieldsBefore 4 rfl) (by decide) (fun c_8 => ?_) (fun c_8 => ?_)
  · skip
    refine V_iconst (v := 1) (dG D_X3_yieldsBefore 15 rfl) (by decide) ?_
    refine V_goto (tgt := 38) (dG D_X3_yieldsBefore 16 rfl) (by decide) ?_
    exact V_zret (dG D_X3_yieldsBefore 18 rfl) rfl (by first | rfl | assumption) (Nat.le_of_ble_eq_true rfl) (Nat.le_of_ble_eq_true rfl) ⟨(by simp [ybB, c_8]), rfl, rfl, rfl⟩
  · skip
    refine V_aload_nt (dG D_X3_yieldsBefore 5 rfl) rfl ?_
    refine gf_X3_31 rfl (dG D_X3_yieldsBefore 6 rfl) (by assumption) ?_
    refine V_aload_nt (dG D_X3_yieldsBefore 7 rfl) rfl ?_
    refine gf_X3_31 rfl (dG D_X3_yieldsBefore 8 rfl) (by assumption) ?_
    refine V_icmp_ne (tgt := 37) (dG D_X3_yieldsBefore 9 rfl) (by decide) (fun c_19 => ?_) (fun c_19 => ?_)
    · skip
      refine V_iconst (v := 0) (dG D_X3_yieldsBefore 17 rfl) (by decide) ?_
      exact V_zret (dG D_X3_yieldsBefore 18 rfl) rfl (by first | rfl | assumption) (Nat.le_of_ble_eq_true rfl) (Nat.le_of_ble_eq_true rfl) ⟨(by simp [ybB, c_8, c_19]), rfl, rfl, rfl⟩
    · skip
      refine V_aload_nt (dG D_X3_yieldsBefore 10 rfl) rfl ?_
      refine gf_X3_25 rfl (dG D_X3_yieldsBefore 11 rfl) (by assumption) ?_
      refine V_aload_nt (dG D_X3_yieldsBefore 12 rfl) rfl ?_
      refine gf_X3_25 rfl (dG D_X3_yieldsBefore 13 rfl) (by assumption) ?_
      refine V_icmp_le (tgt := 37) (dG D_X3_yieldsBefore 14 rfl) (by decide) (fun c_30 => ?_) (fun c_30 => ?_)
      · skip
        refine V_iconst (v := 0) (dG D_X3_yieldsBefore 17 rfl) (by decide) ?_
        exact V_zret (dG D_X3_yieldsBefore 18 rfl) rfl (by first | rfl | assumption) (Nat.le_of_ble_eq_true rfl) (Nat.le_of_ble_eq_true rfl) ⟨(by simp [ybB, c_8, c_19, c_30]), rfl, rfl, rfl⟩
      · skip
        refine V_iconst (v := 1) (dG D_X3_yieldsBefore 15 rfl) (by decide) ?_
        refine V_goto (tgt := 38) (dG D_X3_yieldsBefore 16 rfl) (by decide) ?_
        exact V_zret (dG D_X3_yieldsBefore 18 rfl) rfl (by first | rfl | assumption) (Nat.le_of_ble_eq_true rfl) (Nat.le_of_ble_eq_true rfl) ⟨(by simp [ybB, c_8, c_19, c_30]), rfl, rfl, rfl⟩
theorem ok_hasAsked (ht : tok nt t) {n : Nat} (hn : n < 4) : RET g K_X3_hasAsked 0 0 [va_rf (trO g t), .int (nI n)] nt C M o (some (.int (bI (bt (C 22 t.toNatClampNeg) n)))) C M o := by
  refine MT_of (by decide +kernel) rfl rfl (Nat.le_of_ble_eq_true rfl) (by simp [cat_rf, cat_int, cat_ref]) (fun h => ?_)
  refine V_aload_nt (dG D_X3_hasAsked 0 rfl) rfl ?_
  refine gf_X3_50 rfl (dG D_X3_hasAsked 1 rfl) (by assumption) ?_
  refine V_iload_n (dG D_X3_hasAsked 2 rfl) rfl ?_
  refine V_iushr (dG D_X3_hasAsked 3 rfl) ?_
  refine V_iconst (v := 1) (dG D_X3_hasAsked 4 rfl) (by decide) ?_
  refine V_iand (dG D_X3_hasAsked 5 rfl) ?_
  refine V_if_eq (tgt := 15) (dG D_X3_hasAsked 6 rfl) (by decide) (fun c_8 => ?_) (fun c_8 => ?_)
  · skip
    have hb := bitF (show n < 32 by omega) c_8
    refine V_iconst (v := 0) (dG D_X3_hasAsked 9 rfl) (by decide) ?_
    exact V_zret (dG D_X3_hasAsked 10 rfl) rfl rfl (Nat.le_of_ble_eq_true rfl) (Nat.le_of_ble_eq_true rfl) ⟨by rw [hb]; rfl, rfl, rfl, rfl⟩
  · skip
    have hb := bitT (show n < 32 by omega) c_8
    refine V_iconst (v := 1) (dG D_X3_hasAsked 7 rfl) (by decide) ?_
    refine V_goto (tgt := 16) (dG D_X3_hasAsked 8 rfl) (by decide) ?_
    exact V_zret (dG D_X3_hasAsked 10 rfl) rfl rfl (Nat.le_of_ble_eq_true rfl) (Nat.le_of_ble_eq_true rfl) ⟨by rw [hb]; rfl, rfl, rfl, rfl⟩
theorem ok_hasRead (ht : tok nt t) {n : Nat} (hn : n < 32) : RET g K_X3_hasRead 0 0 [va_rf (trO g t), .int (nI n)] nt C M o (some (.int (bI (bt (C 20 t.toNatClampNeg) n)))) C M o := by
  refine MT_of (by decide +kernel) rfl rfl (Nat.le_of_ble_eq_true rfl) (by simp [cat_rf, cat_int, cat_ref]) (fun h => ?_)
  refine V_aload_nt (dG D_X3_hasRead 0 rfl) rfl ?_
  refine gf_X3_59 rfl (dG D_X3_hasRead 1 rfl) (by assumption) ?_
  refine V_iload_n (dG D_X3_hasRead 2 rfl) rfl ?_
  refine V_iushr (dG D_X3_hasRead 3 rfl) ?_
  refine V_iconst (v := 1) (dG D_X3_hasRead 4 rfl) (by decide) ?_
  refine V_iand (dG D_X3_hasRead 5 rfl) ?_
  refine V_if_eq (tgt := 15) (dG D_X3_hasRead 6 rfl) (by decide) (fun c_8 => ?_) (fun c_8 => ?_)
  · skip
    have hb := bitF (show n < 32 by omega) c_8
    refine V_iconst (v := 0) (dG D_X3_hasRead 9 rfl) (by decide) ?_
    exact V_zret (dG D_X3_hasRead 10 rfl) rfl rfl (Nat.le_of_ble_eq_true rfl) (Nat.le_of_ble_eq_true rfl) ⟨by rw [hb]; rfl, rfl, rfl, rfl⟩
  · skip
    have hb := bitT (show n < 32 by omega) c_8
    refine V_iconst (v := 1) (dG D_X3_hasRead 7 rfl) (by decide) ?_
    refine V_goto (tgt := 16) (dG D_X3_hasRead 8 rfl) (by decide) ?_
    exact V_zret (dG D_X3_hasRead 10 rfl) rfl rfl (Nat.le_of_ble_eq_true rfl) (Nat.le_of_ble_eq_true rfl) ⟨by rw [hb]; rfl, rfl, rfl, rfl⟩
theorem ok_writes (ht : tok nt t) {n : Nat} (hn : n < 32) : RET g K_X3_writes 0 0 [va_rf (trO g t), .int (nI n)] nt C M o (some (.int (bI (bt (C 21 t.toNatClampNeg) n)))) C M o := by
  refine MT_of (by decide +kernel) rfl rfl (Nat.le_of_ble_eq_true rfl) (by simp [cat_rf, cat_int, cat_ref]) (fun h => ?_)
  refine V_aload_nt (dG D_X3_writes 0 rfl) rfl ?_
  refine gf_X3_62 rfl (dG D_X3_writes 1 rfl) (by assumption) ?_
  refine V_iload_n (dG D_X3_writes 2 rfl) rfl ?_
  refine V_iushr (dG D_X3_writes 3 rfl) ?_
  refine V_iconst (v := 1) (dG D_X3_writes 4 rfl) (by decide) ?_
  refine V_iand (dG D_X3_writes 5 rfl) ?_
  refine V_if_eq (tgt := 15) (dG D_X3_writes 6 rfl) (by decide) (fun c_8 => ?_) (fun c_8 => ?_)
  · skip
    have hb := bitF (show n < 32 by omega) c_8
    refine V_iconst (v := 0) (dG D_X3_writes 9 rfl) (by decide) ?_
    exact V_zret (dG D_X3_writes 10 rfl) rfl rfl (Nat.le_of_ble_eq_true rfl) (Nat.le_of_ble_eq_true rfl) ⟨by rw [hb]; rfl, rfl, rfl, rfl⟩
  · skip
    have hb := bitT (show n < 32 by omega) c_8
    refine V_iconst (v := 1) (dG D_X3_writes 7 rfl) (by decide) ?_
    refine V_goto (tgt := 16) (dG D_X3_writes 8 rfl) (by decide) ?_
    exact V_zret (dG D_X3_writes 10 rfl) rfl rfl (Nat.le_of_ble_eq_true rfl) (Nat.le_of_ble_eq_true rfl) ⟨by rw [hb]; rfl, rfl, rfl, rfl⟩
theorem ok_noteClock (ht : tok nt t) {n : Nat} (hn : n < 4) {s : Int32} : RET g K_X3_noteClock 0 0 [va_rf (trO g t), .int (nI n), .int s] nt C M o none (noteClockS C t.toNatClampNeg n s) M o := by
  refine MT_of (by decide +kernel) rfl rfl (Nat.le_of_ble_eq_true rfl) (by simp [cat_rf, cat_int, cat_ref]) (fun h => ?_)
  refine V_aload_nt (dG D_X3_noteClock 0 rfl) rfl ?_
  refine V_dup (dG D_X3_noteClock 1 rfl) (cat_rf _) ?_
  refine gf_X3_50 rfl (dG D_X3_noteClock 2 rfl) (by assumption) ?_
  refine V_iconst (v := 1) (dG D_X3_noteClock 3 rfl) (by decide) ?_
  refine V_iload_n (dG D_X3_noteClock 4 rfl) rfl ?_
  refine V_ishl (dG D_X3_noteClock 5 rfl) ?_
  refine V_ior (dG D_X3_noteClock 6 rfl) ?_
  refine pf_X3_50 rfl (dG D_X3_noteClock 7 rfl) (by assumption) ?_
  refine V_aload_nt (dG D_X3_noteClock 8 rfl) rfl ?_
  refine gf_X3_22 rfl (dG D_X3_noteClock 9 rfl) (by assumption) ?_
  refine V_iload_n (dG D_X3_noteClock 10 rfl) rfl ?_
  refine V_aload_nt (dG D_X3_noteClock 11 rfl) rfl ?_
  refine gf_X3_34 rfl (dG D_X3_noteClock 12 rfl) (by assumption) ?_
  refine V_iload_n (dG D_X3_noteClock 13 rfl) rfl ?_
  refine V_min w_476 (dG D_X3_noteClock 14 rfl) ⟨(Nat.le_of_ble_eq_true rfl), (by first | exact Nat.le_of_ble_eq_true rfl | (simp only [List.map, List.sum, cat_rf, cat_int, cat_ref]; exact Nat.le_of_ble_eq_true rfl))⟩ ⟨(Nat.le_of_ble_eq_true rfl), (Nat.le_of_ble_eq_true rfl)⟩ ?_
  refine iast_t2 (by assumption) (dG D_X3_noteClock 15 rfl) (by first | assumption | exact inr_nI (by first | assumption | omega) (by decide) | exact inr_of (by assumption)) ?_
  exact V_vret (dG D_X3_noteClock 16 rfl) rfl (Nat.le_of_ble_eq_true rfl) (Nat.le_of_ble_eq_true rfl) ⟨rfl, rfl, rfl, rfl⟩
theorem ok_noteRead (ht : tok nt t) {n : Nat} (hn : n < 32) {v : Int32} : RET g K_X3_noteRead 0 0 [va_rf (trO g t), .int (nI n), .int v] nt C M o (some (.int v)) (noteReadS C t.toNatClampNeg n v) M o := by
  refine MT_of (by decide +kernel) rfl rfl (Nat.le_of_ble_eq_true rfl) (by simp [cat_rf, cat_int, cat_ref]) (fun h => ?_)
  refine V_aload_nt (dG D_X3_noteRead 0 rfl) rfl ?_
  refine V_dup (dG D_X3_noteRead 1 rfl) (cat_rf _) ?_
  refine gf_X3_59 rfl (dG D_X3_noteRead 2 rfl) (by assumption) ?_
  refine V_iconst (v := 1) (dG D_X3_noteRead 3 rfl) (by decide) ?_
  refine V_iload_n (dG D_X3_noteRead 4 rfl) rfl ?_
  refine V_ishl (dG D_X3_noteRead 5 rfl) ?_
  refine V_ior (dG D_X3_noteRead 6 rfl) ?_
  refine pf_X3_59 rfl (dG D_X3_noteRead 7 rfl) (by assumption) ?_
  refine V_aload_nt (dG D_X3_noteRead 8 rfl) rfl ?_
  refine gf_X3_15 rfl (dG D_X3_noteRead 9 rfl) (by assumption) ?_
  refine V_iload_n (dG D_X3_noteRead 10 rfl) rfl ?_
  refine V_iload_n (dG D_X3_noteRead 11 rfl) rfl ?_
  refine iast_t0 (by assumption) (dG D_X3_noteRead 12 rfl) (by first | assumption | exact inr_nI (by first | assumption | omega) (by decide) | exact inr_of (by assumption)) ?_
  refine V_iload_n (dG D_X3_noteRead 13 rfl) rfl ?_
  exact V_iret (dG D_X3_noteRead 14 rfl) rfl (Nat.le_of_ble_eq_true rfl) (Nat.le_of_ble_eq_true rfl) ⟨rfl, rfl, rfl, rfl⟩
theorem ok_noteWrite (ht : tok nt t) {n : Nat} (hn : n < 32) {v : Int32} : RET g K_X3_noteWrite 0 0 [va_rf (trO g t), .int (nI n), .int v] nt C M o none (noteWriteS C t.toNatClampNeg n v) M o := by
  refine MT_of (by decide +kernel) rfl rfl (Nat.le_of_ble_eq_true rfl) (by simp [cat_rf, cat_int, cat_ref]) (fun h => ?_)
  refine V_aload_nt (dG D_X3_noteWrite 0 rfl) rfl ?_
  refine V_dup (dG D_X3_noteWrite 1 rfl) (cat_rf _) ?_
  refine gf_X3_62 rfl (dG D_X3_noteWrite 2 rfl) (by assumption) ?_
  refine V_iconst (v := 1) (dG D_X3_noteWrite 3 rfl) (by decide) ?_
  refine V_iload_n (dG D_X3_noteWrite 4 rfl) rfl ?_
  refine V_ishl (dG D_X3_noteWrite 5 rfl) ?_
  refine V_ior (dG D_X3_noteWrite 6 rfl) ?_
  refine pf_X3_62 rfl (dG D_X3_noteWrite 7 rfl) (by assumption) ?_
  refine V_aload_nt (dG D_X3_noteWrite 8 rfl) rfl ?_
  refine gf_X3_19 rfl (dG D_X3_noteWrite 9 rfl) (by assumption) ?_
  refine V_iload_n (dG D_X3_noteWrite 10 rfl) rfl ?_
  refine V_iload_n (dG D_X3_noteWrite 11 rfl) rfl ?_
  refine iast_t1 (by assumption) (dG D_X3_noteWrite 12 rfl) (by first | assumption | exact inr_nI (by first | assumption | omega) (by decide) | exact inr_of (by assumption)) ?_
  exact V_vret (dG D_X3_noteWrite 13 rfl) rfl (Nat.le_of_ble_eq_true rfl) (Nat.le_of_ble_eq_true rfl) ⟨rfl, rfl, rfl, rfl⟩
theorem ok_forgetAll (ht : tok nt t) {s : Int32} : RET g K_X3_forgetAll 0 0 [va_rf (trO g t), .int s] nt C M o none (forgetS C t.toNatClampNeg s) M o := by
  refine MT_of (by decide +kernel) rfl rfl (Nat.le_of_ble_eq_true rfl) (by simp [cat_rf, cat_int, cat_ref]) (fun h => ?_)
  refine V_aload_nt (dG D_X3_forgetAll 0 rfl) rfl ?_
  refine V_iconst (v := 0) (dG D_X3_forgetAll 1 rfl) (by decide) ?_
  refine pf_X3_59 rfl (dG D_X3_forgetAll 2 rfl) (by assumption) ?_
  refine V_aload_nt (dG D_X3_forgetAll 3 rfl) rfl ?_
  refine V_iconst (v := 0) (dG D_X3_forgetAll 4 rfl) (by decide) ?_
  refine pf_X3_62 rfl (dG D_X3_forgetAll 5 rfl) (by assumption) ?_
  refine V_aload_nt (dG D_X3_forgetAll 6 rfl) rfl ?_
  refine V_iload_n (dG D_X3_forgetAll 7 rfl) rfl ?_
  refine V_aload_nt (dG D_X3_forgetAll 8 rfl) rfl ?_
  refine gf_X3_40 rfl (dG D_X3_forgetAll 9 rfl) (by assumption) ?_
  refine V_max w_558 (dG D_X3_forgetAll 10 rfl) ⟨(Nat.le_of_ble_eq_true rfl), (by first | exact Nat.le_of_ble_eq_true rfl | (simp only [List.map, List.sum, cat_rf, cat_int, cat_ref]; exact Nat.le_of_ble_eq_true rfl))⟩ ⟨(Nat.le_of_ble_eq_true rfl), (Nat.le_of_ble_eq_true rfl)⟩ ?_
  refine pf_X3_40 rfl (dG D_X3_forgetAll 11 rfl) (by assumption) ?_
  refine V_aload_nt (dG D_X3_forgetAll 12 rfl) rfl ?_
  refine V_aload_nt (dG D_X3_forgetAll 13 rfl) rfl ?_
  refine gf_X3_40 rfl (dG D_X3_forgetAll 14 rfl) (by assumption) ?_
  refine pf_X3_37 rfl (dG D_X3_forgetAll 15 rfl) (by assumption) ?_
  exact V_vret (dG D_X3_forgetAll 16 rfl) rfl (Nat.le_of_ble_eq_true rfl) (Nat.le_of_ble_eq_true rfl) ⟨rfl, (by simp [forgetS, up, mx]), rfl, rfl⟩
theorem ok_raiseStamps (ht : tok nt t) {s : Int32} : RET g K_X3_raiseStamps 0 0 [va_rf (trO g t), .int s] nt C M o none (raiseS C t.toNatClampNeg s) M o := by
  refine MT_of (by decide +kernel) rfl rfl (Nat.le_of_ble_eq_true rfl) (by simp [cat_rf, cat_int, cat_ref]) (fun h => ?_)
  refine V_aload_nt (dG D_X3_raiseStamps 0 rfl) rfl ?_
  refine V_iload_n (dG D_X3_raiseStamps 1 rfl) rfl ?_
  refine pf_X3_37 rfl (dG D_X3_raiseStamps 2 rfl) (by assumption) ?_
  refine V_aload_nt (dG D_X3_raiseStamps 3 rfl) rfl ?_
  refine V_aload_nt (dG D_X3_raiseStamps 4 rfl) rfl ?_
  refine gf_X3_40 rfl (dG D_X3_raiseStamps 5 rfl) (by assumption) ?_
  refine V_iload_n (dG D_X3_raiseStamps 6 rfl) rfl ?_
  refine V_max w_558 (dG D_X3_raiseStamps 7 rfl) ⟨(Nat.le_of_ble_eq_true rfl), (by first | exact Nat.le_of_ble_eq_true rfl | (simp only [List.map, List.sum, cat_rf, cat_int, cat_ref]; exact Nat.le_of_ble_eq_true rfl))⟩ ⟨(Nat.le_of_ble_eq_true rfl), (Nat.le_of_ble_eq_true rfl)⟩ ?_
  refine pf_X3_40 rfl (dG D_X3_raiseStamps 8 rfl) (by assumption) ?_
  exact V_vret (dG D_X3_raiseStamps 9 rfl) rfl (Nat.le_of_ble_eq_true rfl) (Nat.le_of_ble_eq_true rfl) ⟨rfl, rfl, rfl, rfl⟩
end B2
end
section
/-! class: the history's reading methods, the counting of bits -/
theorem decm (x : Int32) : x + Int32.ofInt (-1) = x - 1 := by rw [Int32.sub_eq_add_neg]; rfl
def rm32 (x : Int32) : Int32 := x - x / 32 * 32
def plS (C : St) (key st : Int32) : Nat → Int32
  | 0 => -1
  | p + 1 => if rm32 (C 28 p) = key then (if st < C 28 p / 32 then plS C key st p else nI p) else plS C key st p
theorem plS_in {C : St} {key st : Int32} : ∀ {p : Nat}, p < 2 ^ 31 → plS C key st p < 0 ∨ ∃ j, j < p ∧ plS C key st p = nI j
  | 0, _ => Or.inl (show (-1 : Int32) < 0 by decide)
  | p + 1, hp => by
    have ih := plS_in (C := C) (key := key) (st := st) (p := p) (by omega)
    unfold plS
    split
    · split
      · rcases ih with h | ⟨j, h1, h2⟩
        · exact Or.inl h
        · exact Or.inr ⟨j, by omega, h2⟩
      · exact Or.inr ⟨p, by omega, rfl⟩
    · rcases ih with h | ⟨j, h1, h2⟩
      · exact Or.inl h
      · exact Or.inr ⟨j, by omega, h2⟩
def stU (C : St) (c : Nat) (key st : Int32) : Int32 := if 0 ≤ plS C key st c then C 28 (plS C key st c).toNatClampNeg / 32 else 0
def vaU (C : St) (c : Nat) (key st : Int32) : Int32 := if 0 ≤ plS C key st c then C 29 (plS C key st c).toNatClampNeg else 1000
def cntS (C : St) (key : Int32) : Nat → Nat → Int32 → Int32
  | 0, _, acc => acc
  | n + 1, i, acc => cntS C key n (i + 1) (if rm32 (C 28 i) = key then acc + 1 else acc)
def chA (C : St) (place st : Int32) : Int32 := if C 26 0 ≤ place then -1 else if st < C 28 place.toNatClampNeg / 32 then -1 else C 28 place.toNatClampNeg
def coA (C : St) (place : Int32) : Int32 := if C 31 0 ≤ place then -1 else C 30 place.toNatClampNeg
theorem pl_in {C : St} {key st : Int32} {c N : Nat} (h1 : c ≤ N) (h2 : N < 2 ^ 31) (h : 0 ≤ plS C key st c) : inr (plS C key st c) N (plS C key st c).toNatClampNeg := by
  rcases plS_in (C := C) (key := key) (st := st) (p := c) (by omega) with q | ⟨j, q1, q2⟩
  · exact absurd q (Int32.not_lt.mpr h)
  · rw [q2, nI_clamp (by omega)]
    exact inr_nI (by omega) h2
theorem chA_in {C : St} {c : Nat} {place : Int32} (hc : cap C < 2 ^ 31) (hcn : C 26 0 = nI c) (hle : c ≤ cap C) (hp : ¬ place < 0) (h : ¬ C 26 0 ≤ place) : inr place (cap C) place.toNatClampNeg := by
  obtain ⟨j, hj, rfl⟩ := nI_of hp
  rw [hcn] at h
  rw [nI_clamp hj]
  refine inr_nI ?_ hc
  rcases Nat.lt_or_ge j c with q | q
  · omega
  · exact absurd (nI_le q hj) h
theorem coA_in {C : St} {k : Nat} {place : Int32} (hk : k ≤ 40) (hkn : C 31 0 = nI k) (hp : ¬ place < 0) (h : ¬ C 31 0 ≤ place) : inr place 40 place.toNatClampNeg := by
  obtain ⟨j, hj, rfl⟩ := nI_of hp
  rw [hkn] at h
  rw [nI_clamp hj]
  refine inr_nI ?_ (by decide)
  rcases Nat.lt_or_ge j k with q | q
  · omega
  · exact absurd (nI_le q hj) h
section B3
variable {g : GT} {nt : Nat} {C M : St} {o : Int64}
theorem lp_placeUpTo {key st : Int32} (hc : cap C < 2 ^ 31) : ∀ (p : Nat) (_ : p ≤ cap C) (h : Nat × Nat), V g K_X1_placeUpTo (kR K_X1_placeUpTo 0 0) (qM g 0 0 nt (fun v9 C9 M9 o9 => v9 = some (.int (plS C key st p)) ∧ C9 = C ∧ M9 = M ∧ o9 = o) (fun _ _ _ _ => False)) 0 0 nt h C M o 7 [(0, .ref (ad g 4)), (1, .int key), (2, .int st), (3, .int (nI p - 1))] [] := by
  intro p
  induction p with
  | zero =>
    intro hp h
    refine V_iload_n (dG D_X1_placeUpTo 5 rfl) rfl ?_
    refine V_if_lt (tgt := 45) (dG D_X1_placeUpTo 6 rfl) (by decide) (fun c_8 => ?_) (fun c_8 => absurd (by decide) c_8)
    refine V_iconst (v := -1) (dG D_X1_placeUpTo 27 rfl) (by decide) ?_
    exact V_iret (dG D_X1_placeUpTo 28 rfl) rfl (Nat.le_of_ble_eq_true rfl) (Nat.le_of_ble_eq_true rfl) ⟨rfl, rfl, rfl, rfl⟩
  | succ p ih =>
    intro hp h
    rw [nI_pred]
    refine V_iload_n (dG D_X1_placeUpTo 5 rfl) rfl ?_
    refine V_if_lt (tgt := 45) (dG D_X1_placeUpTo 6 rfl) (by decide) (fun c_8 => absurd c_8 (nI_pos (by omega))) (fun c_8 => ?_)
    refine V_aload_n (dG D_X1_placeUpTo 7 rfl) rfl ?_
    refine gf_X1_9 rfl (dG D_X1_placeUpTo 8 rfl) ?_
    refine V_iload_n (dG D_X1_placeUpTo 9 rfl) rfl ?_
    refine iald_ch (dG D_X1_placeUpTo 10 rfl) (by first | assumption | exact inr_nI (by first | assumption | omega) (by first | decide | assumption | omega) | exact inr_of (by assumption)) ?_
    refine V_bipush (v := 32) (dG D_X1_placeUpTo 11 rfl) (by decide) ?_
    refine V_irem (dG D_X1_placeUpTo 12 rfl) (by decide) ?_
    refine V_iload_n (dG D_X1_placeUpTo 13 rfl) rfl ?_
    refine V_icmp_ne (tgt := 39) (dG D_X1_placeUpTo 14 rfl) (by decide) (fun c_21 => ?_) (fun c_21 => ?_)
    · skip
      refine V_iinc (dG D_X1_placeUpTo 25 rfl) rfl (decm _) (Nat.le_of_ble_eq_true rfl) ?_
      refine V_goto (tgt := 7) (dG D_X1_placeUpTo 26 rfl) (by decide) ?_
      rw [show plS C key st (p + 1) = plS C key st p from by simp [plS, rm32, c_8, c_21]]
      exact ih (by omega) h
    · skip
      refine V_aload_n (dG D_X1_placeUpTo 15 rfl) rfl ?_
      refine gf_X1_9 rfl (dG D_X1_placeUpTo 16 rfl) ?_
      refine V_iload_n (dG D_X1_placeUpTo 17 rfl) rfl ?_
      refine iald_ch (dG D_X1_placeUpTo 18 rfl) (by first | assumption | exact inr_nI (by first | assumption | omega) (by first | decide | assumption | omega) | exact inr_of (by assumption)) ?_
      refine V_bipush (v := 32) (dG D_X1_placeUpTo 19 rfl) (by decide) ?_
      refine V_idiv (dG D_X1_placeUpTo 20 rfl) (by decide) ?_
      refine V_iload_n (dG D_X1_placeUpTo 21 rfl) rfl ?_
      refine V_icmp_gt (tgt := 39) (dG D_X1_placeUpTo 22 rfl) (by decide) (fun c_34 => ?_) (fun c_34 => ?_)
      · skip
        refine V_iinc (dG D_X1_placeUpTo 25 rfl) rfl (decm _) (Nat.le_of_ble_eq_true rfl) ?_
        refine V_goto (tgt := 7) (dG D_X1_placeUpTo 26 rfl) (by decide) ?_
        rw [show plS C key st (p + 1) = plS C key st p from by simp [plS, rm32, c_8, c_21, c_34]]
        exact ih (by omega) h
      · skip
        refine V_iload_n (dG D_X1_placeUpTo 23 rfl) rfl ?_
        exact V_iret (dG D_X1_placeUpTo 24 rfl) rfl (Nat.le_of_ble_eq_true rfl) (Nat.le_of_ble_eq_true rfl) ⟨(by simp [plS, rm32, c_8, c_21, c_34]), rfl, rfl, rfl⟩
theorem ok_placeUpTo {c : Nat} {key st : Int32} (hc : cap C < 2 ^ 31) (hcn : C 26 0 = nI c) (hle : c ≤ cap C) : RET g K_X1_placeUpTo 0 0 [.ref (ad g 4), .int key, .int st] nt C M o (some (.int (plS C key st c))) C M o := by
  refine MT_of (by decide +kernel) rfl rfl (Nat.le_of_ble_eq_true rfl) (by simp [cat_rf, cat_int, cat_ref]) (fun h => ?_)
  refine V_aload_n (dG D_X1_placeUpTo 0 rfl) rfl ?_
  refine gf_X1_27 rfl (dG D_X1_placeUpTo 1 rfl) ?_
  refine V_iconst (v := 1) (dG D_X1_placeUpTo 2 rfl) (by decide) ?_
  refine V_isub (dG D_X1_placeUpTo 3 rfl) ?_
  refine V_istore_n (dG D_X1_placeUpTo 4 rfl) (Nat.le_of_ble_eq_true rfl) ?_
  rw [hcn]
  exact lp_placeUpTo hc c hle h
theorem ok_stampUpTo {c : Nat} {key st : Int32} (hc : cap C < 2 ^ 31) (hcn : C 26 0 = nI c) (hle : c ≤ cap C) : RET g K_X1_stampUpTo 0 0 [.ref (ad g 4), .int key, .int st] nt C M o (some (.int (stU C c key st))) C M o := by
  refine MT_of (by decide +kernel) rfl rfl (Nat.le_of_ble_eq_true rfl) (by simp [cat_rf, cat_int, cat_ref]) (fun h => ?_)
  refine V_aload_n (dG D_X1_stampUpTo 0 rfl) rfl ?_
  refine V_iload_n (dG D_X1_stampUpTo 1 rfl) rfl ?_
  refine V_iload_n (dG D_X1_stampUpTo 2 rfl) rfl ?_
  refine R_vb2 (ok_placeUpTo hc hcn hle) lk_X1_37 (dG D_X1_stampUpTo 3 rfl) rcv_1 ⟨Nat.le_of_ble_eq_true rfl, Nat.le_of_ble_eq_true rfl⟩ ⟨(Nat.le_of_ble_eq_true rfl), (Nat.le_of_ble_eq_true rfl)⟩ (by first | exact Nat.le_of_ble_eq_true rfl | simp [cat_rf, cat_int, cat_ref]) (fun h => ?_)
  refine V_istore_n (dG D_X1_stampUpTo 4 rfl) (Nat.le_of_ble_eq_true rfl) ?_
  refine V_iload_n (dG D_X1_stampUpTo 5 rfl) rfl ?_
  refine V_if_ge (tgt := 15) (dG D_X1_stampUpTo 6 rfl) (by decide) (fun c_8 => ?_) (fun c_8 => ?_)
  · skip
    refine V_aload_n (dG D_X1_stampUpTo 9 rfl) rfl ?_
    refine gf_X1_9 rfl (dG D_X1_stampUpTo 10 rfl) ?_
    refine V_iload_n (dG D_X1_stampUpTo 11 rfl) rfl ?_
    refine iald_ch (dG D_X1_stampUpTo 12 rfl) (pl_in (by omega) (by omega) c_8) ?_
    refine V_bipush (v := 32) (dG D_X1_stampUpTo 13 rfl) (by decide) ?_
    refine V_idiv (dG D_X1_stampUpTo 14 rfl) (by decide) ?_
    exact V_iret (dG D_X1_stampUpTo 15 rfl) rfl (Nat.le_of_ble_eq_true rfl) (Nat.le_of_ble_eq_true rfl) ⟨(by simp [stU, c_8]), rfl, rfl, rfl⟩
  · skip
    refine V_iconst (v := 0) (dG D_X1_stampUpTo 7 rfl) (by decide) ?_
    refine V_goto (tgt := 24) (dG D_X1_stampUpTo 8 rfl) (by decide) ?_
    exact V_iret (dG D_X1_stampUpTo 15 rfl) rfl (Nat.le_of_ble_eq_true rfl) (Nat.le_of_ble_eq_true rfl) ⟨(by simp [stU, c_8]), rfl, rfl, rfl⟩
theorem ok_valueUpTo {c : Nat} {key st : Int32} (hc : cap C < 2 ^ 31) (hcn : C 26 0 = nI c) (hle : c ≤ cap C) (hcv : capv C < 2 ^ 31) (hlev : c ≤ capv C) : RET g K_X1_valueUpTo 0 0 [.ref (ad g 4), .int key, .int st] nt C M o (some (.int (vaU C c key st))) C M o := by
  refine MT_of (by decide +kernel) rfl rfl (Nat.le_of_ble_eq_true rfl) (by simp [cat_rf, cat_int, cat_ref]) (fun h => ?_)
  refine V_aload_n (dG D_X1_valueUpTo 0 rfl) rfl ?_
  refine V_iload_n (dG D_X1_valueUpTo 1 rfl) rfl ?_
  refine V_iload_n (dG D_X1_valueUpTo 2 rfl) rfl ?_
  refine R_vb2 (ok_placeUpTo hc hcn hle) lk_X1_37 (dG D_X1_valueUpTo 3 rfl) rcv_1 ⟨Nat.le_of_ble_eq_true rfl, Nat.le_of_ble_eq_true rfl⟩ ⟨(Nat.le_of_ble_eq_true rfl), (Nat.le_of_ble_eq_true rfl)⟩ (by first | exact Nat.le_of_ble_eq_true rfl | simp [cat_rf, cat_int, cat_ref]) (fun h => ?_)
  refine V_istore_n (dG D_X1_valueUpTo 4 rfl) (Nat.le_of_ble_eq_true rfl) ?_
  refine V_iload_n (dG D_X1_valueUpTo 5 rfl) rfl ?_
  refine V_if_ge (tgt := 17) (dG D_X1_valueUpTo 6 rfl) (by decide) (fun c_8 => ?_) (fun c_8 => ?_)
  · skip
    refine V_aload_n (dG D_X1_valueUpTo 9 rfl) rfl ?_
    refine gf_X1_15 rfl (dG D_X1_valueUpTo 10 rfl) ?_
    refine V_iload_n (dG D_X1_valueUpTo 11 rfl) rfl ?_
    refine iald_va (dG D_X1_valueUpTo 12 rfl) (pl_in (by omega) (by omega) c_8) ?_
    exact V_iret (dG D_X1_valueUpTo 13 rfl) rfl (Nat.le_of_ble_eq_true rfl) (Nat.le_of_ble_eq_true rfl) ⟨(by simp [vaU, c_8]), rfl, rfl, rfl⟩
  · skip
    refine V_sipush (v := 1000) (dG D_X1_valueUpTo 7 rfl) (by decide) ?_
    refine V_goto (tgt := 23) (dG D_X1_valueUpTo 8 rfl) (by decide) ?_
    exact V_iret (dG D_X1_valueUpTo 13 rfl) rfl (Nat.le_of_ble_eq_true rfl) (Nat.le_of_ble_eq_true rfl) ⟨(by simp [vaU, c_8]), rfl, rfl, rfl⟩
theorem lp_countOf {c : Nat} {key : Int32} (hc : cap C < 2 ^ 31) (hcn : C 26 0 = nI c) (hle : c ≤ cap C) : ∀ (n : Nat) {i : Nat} (_ : i + n = c) (acc : Int32) (h : Nat × Nat), V g K_X1_countOf (kR K_X1_countOf 0 0) (qM g 0 0 nt (fun v9 C9 M9 o9 => v9 = some (.int (cntS C key n i acc)) ∧ C9 = C ∧ M9 = M ∧ o9 = o) (fun _ _ _ _ => False)) 0 0 nt h C M o 4 [(0, .ref (ad g 4)), (1, .int key), (2, .int acc), (3, .int (nI i))] [] := by
  intro n
  induction n with
  | zero =>
    intro i hi acc h
    refine V_iload_n (dG D_X1_countOf 4 rfl) rfl ?_
    refine V_aload_n (dG D_X1_countOf 5 rfl) rfl ?_
    refine gf_X1_27 rfl (dG D_X1_countOf 6 rfl) ?_
    refine V_icmp_ge (tgt := 34) (dG D_X1_countOf 7 rfl) (by decide) (fun c_9 => ?_) (fun c_9 => absurd (by rw [hcn]; exact nI_le (by omega) (by omega)) c_9)
    refine V_iload_n (dG D_X1_countOf 19 rfl) rfl ?_
    exact V_iret (dG D_X1_countOf 20 rfl) rfl (Nat.le_of_ble_eq_true rfl) (Nat.le_of_ble_eq_true rfl) ⟨rfl, rfl, rfl, rfl⟩
  | succ n ih =>
    intro i hi acc h
    refine V_iload_n (dG D_X1_countOf 4 rfl) rfl ?_
    refine V_aload_n (dG D_X1_countOf 5 rfl) rfl ?_
    refine gf_X1_27 rfl (dG D_X1_countOf 6 rfl) ?_
    refine V_icmp_ge (tgt := 34) (dG D_X1_countOf 7 rfl) (by decide) (fun c_9 => absurd (show C 26 0 ≤ nI i from c_9) (by rw [hcn]; exact nI_ge (by omega) (by omega))) (fun c_9 => ?_)
    refine V_aload_n (dG D_X1_countOf 8 rfl) rfl ?_
    refine gf_X1_9 rfl (dG D_X1_countOf 9 rfl) ?_
    refine V_iload_n (dG D_X1_countOf 10 rfl) rfl ?_
    refine iald_ch (dG D_X1_countOf 11 rfl) (by first | assumption | exact inr_nI (by first | assumption | omega) (by first | decide | assumption | omega) | exact inr_of (by assumption)) ?_
    refine V_bipush (v := 32) (dG D_X1_countOf 12 rfl) (by decide) ?_
    refine V_irem (dG D_X1_countOf 13 rfl) (by decide) ?_
    refine V_iload_n (dG D_X1_countOf 14 rfl) rfl ?_
    refine V_icmp_ne (tgt := 28) (dG D_X1_countOf 15 rfl) (by decide) (fun c_22 => ?_) (fun c_22 => ?_)
    · skip
      refine V_iinc (dG D_X1_countOf 17 rfl) rfl (inc1 _) (Nat.le_of_ble_eq_true rfl) ?_
      refine V_goto (tgt := 4) (dG D_X1_countOf 18 rfl) (by decide) ?_
      rw [show cntS C key (n + 1) i acc = cntS C key n (i + 1) (if rm32 (C 28 i) = key then acc + 1 else acc) from by simp [cntS, c_9, c_22]]
      simp only [rm32, c_22, if_true, if_false]
      exact ih (by omega) _ h
    · skip
      refine V_iinc (dG D_X1_countOf 16 rfl) rfl rfl (Nat.le_of_ble_eq_true rfl) ?_
      refine V_iinc (dG D_X1_countOf 17 rfl) rfl (inc1 _) (Nat.le_of_ble_eq_true rfl) ?_
      refine V_goto (tgt := 4) (dG D_X1_countOf 18 rfl) (by decide) ?_
      rw [show cntS C key (n + 1) i acc = cntS C key n (i + 1) (if rm32 (C 28 i) = key then acc + 1 else acc) from by simp [cntS, c_9, c_22]]
      simp only [rm32, c_22, if_true, if_false]
      exact ih (by omega) _ h
theorem ok_countOf {c : Nat} {key : Int32} (hc : cap C < 2 ^ 31) (hcn : C 26 0 = nI c) (hle : c ≤ cap C) : RET g K_X1_countOf 0 0 [.ref (ad g 4), .int key] nt C M o (some (.int (cntS C key c 0 0))) C M o := by
  refine MT_of (by decide +kernel) rfl rfl (Nat.le_of_ble_eq_true rfl) (by simp [cat_rf, cat_int, cat_ref]) (fun h => ?_)
  refine V_iconst (v := 0) (dG D_X1_countOf 0 rfl) (by decide) ?_
  refine V_istore_n (dG D_X1_countOf 1 rfl) (Nat.le_of_ble_eq_true rfl) ?_
  refine V_iconst (v := 0) (dG D_X1_countOf 2 rfl) (by decide) ?_
  refine V_istore_n (dG D_X1_countOf 3 rfl) (Nat.le_of_ble_eq_true rfl) ?_
  exact lp_countOf hc hcn hle c (i := 0) (by omega) 0 h
theorem ok_changeAt {c : Nat} {place st : Int32} (hc : cap C < 2 ^ 31) (hcn : C 26 0 = nI c) (hle : c ≤ cap C) (hp : ¬ place < 0) : RET g K_X1_changeAt 0 0 [.ref (ad g 4), .int place, .int st] nt C M o (some (.int (chA C place st))) C M o := by
  refine MT_of (by decide +kernel) rfl rfl (Nat.le_of_ble_eq_true rfl) (by simp [cat_rf, cat_int, cat_ref]) (fun h => ?_)
  refine V_iload_n (dG D_X1_changeAt 0 rfl) rfl ?_
  refine V_aload_n (dG D_X1_changeAt 1 rfl) rfl ?_
  refine gf_X1_27 rfl (dG D_X1_changeAt 2 rfl) ?_
  refine V_icmp_ge (tgt := 30) (dG D_X1_changeAt 3 rfl) (by decide) (fun c_5 => ?_) (fun c_5 => ?_)
  · skip
    refine V_iconst (v := -1) (dG D_X1_changeAt 17 rfl) (by decide) ?_
    exact V_iret (dG D_X1_changeAt 18 rfl) rfl (Nat.le_of_ble_eq_true rfl) (Nat.le_of_ble_eq_true rfl) ⟨(by simp [chA, c_5]), rfl, rfl, rfl⟩
  · skip
    refine V_aload_n (dG D_X1_changeAt 4 rfl) rfl ?_
    refine gf_X1_9 rfl (dG D_X1_changeAt 5 rfl) ?_
    refine V_iload_n (dG D_X1_changeAt 6 rfl) rfl ?_
    refine iald_ch (dG D_X1_changeAt 7 rfl) (chA_in hc hcn hle hp c_5) ?_
    refine V_bipush (v := 32) (dG D_X1_changeAt 8 rfl) (by decide) ?_
    refine V_idiv (dG D_X1_changeAt 9 rfl) (by decide) ?_
    refine V_iload_n (dG D_X1_changeAt 10 rfl) rfl ?_
    refine V_icmp_gt (tgt := 30) (dG D_X1_changeAt 11 rfl) (by decide) (fun c_18 => ?_) (fun c_18 => ?_)
    · skip
      refine V_iconst (v := -1) (dG D_X1_changeAt 17 rfl) (by decide) ?_
      exact V_iret (dG D_X1_changeAt 18 rfl) rfl (Nat.le_of_ble_eq_true rfl) (Nat.le_of_ble_eq_true rfl) ⟨(by simp [chA, c_5, c_18]), rfl, rfl, rfl⟩
    · skip
      refine V_aload_n (dG D_X1_changeAt 12 rfl) rfl ?_
      refine gf_X1_9 rfl (dG D_X1_changeAt 13 rfl) ?_
      refine V_iload_n (dG D_X1_changeAt 14 rfl) rfl ?_
      refine iald_ch (dG D_X1_changeAt 15 rfl) (chA_in hc hcn hle hp c_5) ?_
      refine V_goto (tgt := 31) (dG D_X1_changeAt 16 rfl) (by decide) ?_
      exact V_iret (dG D_X1_changeAt 18 rfl) rfl (Nat.le_of_ble_eq_true rfl) (Nat.le_of_ble_eq_true rfl) ⟨(by simp [chA, c_5, c_18]), rfl, rfl, rfl⟩
theorem ok_committedAt {k : Nat} {place : Int32} (hk : k ≤ 40) (hkn : C 31 0 = nI k) (hp : ¬ place < 0) : RET g K_X1_committedAt 0 0 [.ref (ad g 4), .int place] nt C M o (some (va_rf (trO g (coA C place)))) C M o := by
  refine MT_of (by decide +kernel) rfl rfl (Nat.le_of_ble_eq_true rfl) (by simp [cat_rf, cat_int, cat_ref]) (fun h => ?_)
  refine V_iload_n (dG D_X1_committedAt 0 rfl) rfl ?_
  refine V_aload_n (dG D_X1_committedAt 1 rfl) rfl ?_
  refine gf_X1_41 rfl (dG D_X1_committedAt 2 rfl) ?_
  refine V_icmp_ge (tgt := 17) (dG D_X1_committedAt 3 rfl) (by decide) (fun c_5 => ?_) (fun c_5 => ?_)
  · skip
    refine V_nullt (dG D_X1_committedAt 9 rfl) ?_
    exact V_aret (dG D_X1_committedAt 10 rfl) rfl (Nat.le_of_ble_eq_true rfl) (Nat.le_of_ble_eq_true rfl) ⟨(by simp [coA, c_5]), rfl, rfl, rfl⟩
  · skip
    refine V_aload_n (dG D_X1_committedAt 4 rfl) rfl ?_
    refine gf_X1_20 rfl (dG D_X1_committedAt 5 rfl) ?_
    refine V_iload_n (dG D_X1_committedAt 6 rfl) rfl ?_
    refine aald_ord (dG D_X1_committedAt 7 rfl) (coA_in hk hkn hp c_5) ?_
    refine V_goto (tgt := 18) (dG D_X1_committedAt 8 rfl) (by decide) ?_
    exact V_aret (dG D_X1_committedAt 10 rfl) rfl (Nat.le_of_ble_eq_true rfl) (Nat.le_of_ble_eq_true rfl) ⟨(by simp [coA, c_5]), rfl, rfl, rfl⟩
end B3
end
section
/-! class: loops that count, sort and look -/
def acS (t : Int32) : Nat → St → St
  | 0, C => up C 30 0 t
  | p + 1, C => if C 17 (C 30 p).toNatClampNeg ≤ C 17 t.toNatClampNeg then up C 30 (p + 1) t else acS t p (up C 30 (p + 1) (C 30 p))
def addCoS (C : St) (k : Nat) (t : Int32) : St := if C 31 0 < 40 then up (acS t k C) 31 0 (acS t k C 31 0 + 1) else C
def rdN (C : St) (t : Nat) : Nat → Nat → Int32 → Int32
  | 0, _, acc => acc
  | n + 1, i, acc => rdN C t n (i + 1) (if bI (bt (C 20 t) i) = 0 then acc else if C (50 + 3 * t) i = C 32 i then acc else acc + 1)
def rdC (t : Nat) : Nat → Nat → St → St
  | 0, _, C => C
  | n + 1, i, C => rdC t n (i + 1) (if bI (bt (C 21 t) i) = 0 then C else up C 32 i (C (51 + 3 * t) i))
theorem rdC_row {t w : Nat} (hw : w ≠ 32) : ∀ {n i : Nat} {C : St}, rdC t n i C w = C w
  | 0, _, _ => rfl
  | n + 1, i, C => by
    unfold rdC
    rw [rdC_row hw]
    split
    · rfl
    · rw [up_row hw]
def fillS (v : Int32) : Nat → Nat → St → St
  | 0, _, C => C
  | n + 1, i, C => fillS v n (i + 1) (up C 32 i v)
theorem fillS_row {v : Int32} {w : Nat} (hw : w ≠ 32) : ∀ {n i : Nat} {C : St}, fillS v n i C w = C w
  | 0, _, _ => rfl
  | n + 1, i, C => by
    unfold fillS
    rw [fillS_row hw, up_row hw]
def cuS : Nat → Nat → Int32 → St → Int32 × St
  | 0, _, acc, C => (acc, C)
  | n + 1, i, acc, C => cuS n (i + 1) (acc + rdN C (C 30 i).toNatClampNeg 32 0 0) (rdC (C 30 i).toNatClampNeg 32 0 C)
def us (x y : Int32) : Int32 := (x.toUInt32 >>> (y.toUInt32 &&& Int32.toUInt32 31)).toInt32
def bc1 (x : Int32) : Int32 := x - (us x 1 &&& 1431655765)
def bc2 (x : Int32) : Int32 := (x &&& 858993459) + (us x 2 &&& 858993459)
def bc3 (x : Int32) : Int32 := x + us x 4 &&& 252645135
def bc4 (x : Int32) : Int32 := x + us x 8
def bc5 (x : Int32) : Int32 := x + us x 16
def bcS (x : Int32) : Int32 := bc5 (bc4 (bc3 (bc2 (bc1 x)))) &&& 63
def rgS (C : St) : Nat → Nat → Int32 → Int32
  | 0, _, acc => acc
  | n + 1, i, acc => rgS C n (i + 1) (if C 5 i = 0 then acc else acc + 1)
def fkS (C : St) (range : Int32) : Nat → Nat → Int32 → Int32
  | 0, _, _ => 32
  | n + 1, i, passed => if C 5 i = 0 then fkS C range n (i + 1) passed else if passed = range then nI i else fkS C range n (i + 1) (passed + 1)
def rsS (C : St) : Nat → Nat → Int32 → Int32
  | 0, _, acc => acc
  | n + 1, i, acc => rsS C n (i + 1) (if C 15 (C 33 i).toNatClampNeg = 1 then mn acc (C 17 (C 33 i).toNatClampNeg - 1) else acc)
def haS (C : St) (t : Int32) : Nat → Nat → Int32
  | 0, _ => 1
  | n + 1, i => if bI (bt (C 21 t.toNatClampNeg) i) = 0 then haS C t n (i + 1) else if C 6 i = t then haS C t n (i + 1) else 0
def wdS (C : St) (t : Nat) : Nat → Nat → Int32
  | 0, _ => 0
  | n + 1, i => if bI (bt (C 21 t) i) = 0 then wdS C t n (i + 1) else if C 3 (C 4 i).toNatClampNeg = 0 then wdS C t n (i + 1) else 1
theorem haS_bool {C : St} {t : Int32} : ∀ {n i : Nat}, haS C t n i = 0 ∨ haS C t n i = 1
  | 0, _ => Or.inr rfl
  | n + 1, i => by
    unfold haS
    split
    · exact haS_bool
    · split
      · exact haS_bool
      · exact Or.inl rfl
theorem wdS_bool {C : St} {t : Nat} : ∀ {n i : Nat}, wdS C t n i = 0 ∨ wdS C t n i = 1
  | 0, _ => Or.inl rfl
  | n + 1, i => by
    unfold wdS
    split
    · exact wdS_bool
    · split
      · exact wdS_bool
      · exact Or.inr rfl
section B4
variable {g : GT} {nt : Nat} {C M : St} {o : Int64} {t : Int32}
theorem lp_addCommitted (ht : tok nt t) : ∀ (p : Nat) {C : St} (_ : p < 40) (_ : ∀ q, q < p → tok nt (C 30 q)) (h : Nat × Nat), V g K_X1_addCommitted (kR K_X1_addCommitted 0 0) (qM g 0 0 nt (fun v9 C9 M9 o9 => v9 = none ∧ C9 = (up (acS t p C) 31 0 (acS t p C 31 0 + 1)) ∧ M9 = M ∧ o9 = o) (fun _ _ _ _ => False)) 0 0 nt h C M o 15 [(0, .ref (ad g 4)), (1, va_rf (trO g t)), (2, .int (nI p))] [] := by
  intro p
  induction p with
  | zero =>
    intro C hp hq h
    refine V_iload_n (dG D_X1_addCommitted 8 rfl) rfl ?_
    refine V_if_le (tgt := 57) (dG D_X1_addCommitted 9 rfl) (by decide) (fun c_16 => ?_) (fun c_16 => absurd (by decide) c_16)
    refine V_aload_n (dG D_X1_addCommitted 32 rfl) rfl ?_
    refine gf_X1_20 rfl (dG D_X1_addCommitted 33 rfl) ?_
    refine V_iload_n (dG D_X1_addCommitted 34 rfl) rfl ?_
    refine V_aload_nt (dG D_X1_addCommitted 35 rfl) rfl ?_
    refine aast_ord ht (dG D_X1_addCommitted 36 rfl) (inr_nI (n := 40) (j := 0) (by omega) (by decide)) ?_
    refine V_aload_n (dG D_X1_addCommitted 37 rfl) rfl ?_
    refine V_dup (dG D_X1_addCommitted 38 rfl) rfl ?_
    refine gf_X1_41 rfl (dG D_X1_addCommitted 39 rfl) ?_
    refine V_iconst (v := 1) (dG D_X1_addCommitted 40 rfl) (by decide) ?_
    refine V_iadd (dG D_X1_addCommitted 41 rfl) ?_
    refine pf_X1_41 rfl (dG D_X1_addCommitted 42 rfl) ?_
    exact V_vret (dG D_X1_addCommitted 43 rfl) rfl (Nat.le_of_ble_eq_true rfl) (Nat.le_of_ble_eq_true rfl) ⟨rfl, rfl, rfl, rfl⟩
  | succ p ih =>
    intro C hp hq h
    refine V_iload_n (dG D_X1_addCommitted 8 rfl) rfl ?_
    refine V_if_le (tgt := 57) (dG D_X1_addCommitted 9 rfl) (by decide) (fun c_16 => absurd c_16 (nI_nle (by omega) (by omega))) (fun c_16 => ?_)
    refine V_aload_n (dG D_X1_addCommitted 10 rfl) rfl ?_
    refine gf_X1_20 rfl (dG D_X1_addCommitted 11 rfl) ?_
    refine V_iload_n (dG D_X1_addCommitted 12 rfl) rfl ?_
    refine V_iconst (v := 1) (dG D_X1_addCommitted 13 rfl) (by decide) ?_
    refine V_isub (dG D_X1_addCommitted 14 rfl) ?_
    refine aald_ord (dG D_X1_addCommitted 15 rfl) (inr_pred (by omega) (by decide)) ?_
    refine gf_X1_44 rfl (dG D_X1_addCommitted 16 rfl) (hq p (by omega)) ?_
    refine V_aload_nt (dG D_X1_addCommitted 17 rfl) rfl ?_
    refine gf_X1_44 rfl (dG D_X1_addCommitted 18 rfl) (by assumption) ?_
    refine V_icmp_le (tgt := 57) (dG D_X1_addCommitted 19 rfl) (by decide) (fun c_34 => ?_) (fun c_34 => ?_)
    · skip
      refine V_aload_n (dG D_X1_addCommitted 32 rfl) rfl ?_
      refine gf_X1_20 rfl (dG D_X1_addCommitted 33 rfl) ?_
      refine V_iload_n (dG D_X1_addCommitted 34 rfl) rfl ?_
      refine V_aload_nt (dG D_X1_addCommitted 35 rfl) rfl ?_
      refine aast_ord ht (dG D_X1_addCommitted 36 rfl) (inr_nI (n := 40) (j := p + 1) (by omega) (by decide)) ?_
      refine V_aload_n (dG D_X1_addCommitted 37 rfl) rfl ?_
      refine V_dup (dG D_X1_addCommitted 38 rfl) rfl ?_
      refine gf_X1_41 rfl (dG D_X1_addCommitted 39 rfl) ?_
      refine V_iconst (v := 1) (dG D_X1_addCommitted 40 rfl) (by decide) ?_
      refine V_iadd (dG D_X1_addCommitted 41 rfl) ?_
      refine pf_X1_41 rfl (dG D_X1_addCommitted 42 rfl) ?_
      exact V_vret (dG D_X1_addCommitted 43 rfl) rfl (Nat.le_of_ble_eq_true rfl) (Nat.le_of_ble_eq_true rfl) ⟨rfl, by rw [show acS t (p + 1) C = up C 30 (p + 1) t from by simp [acS, c_34]], rfl, rfl⟩
    · skip
      refine V_aload_n (dG D_X1_addCommitted 20 rfl) rfl ?_
      refine gf_X1_20 rfl (dG D_X1_addCommitted 21 rfl) ?_
      refine V_iload_n (dG D_X1_addCommitted 22 rfl) rfl ?_
      refine V_aload_n (dG D_X1_addCommitted 23 rfl) rfl ?_
      refine gf_X1_20 rfl (dG D_X1_addCommitted 24 rfl) ?_
      refine V_iload_n (dG D_X1_addCommitted 25 rfl) rfl ?_
      refine V_iconst (v := 1) (dG D_X1_addCommitted 26 rfl) (by decide) ?_
      refine V_isub (dG D_X1_addCommitted 27 rfl) ?_
      refine aald_ord (dG D_X1_addCommitted 28 rfl) (inr_pred (by omega) (by decide)) ?_
      refine aast_ord (hq p (by omega)) (dG D_X1_addCommitted 29 rfl) (inr_nI (n := 40) (j := p + 1) (by omega) (by decide)) ?_
      refine V_iinc (dG D_X1_addCommitted 30 rfl) rfl (dec1 _) (Nat.le_of_ble_eq_true rfl) ?_
      refine V_goto (tgt := 15) (dG D_X1_addCommitted 31 rfl) (by decide) ?_
      rw [show acS t (p + 1) C = acS t p (up C 30 (p + 1) (C 30 p)) from by simp [acS, c_16, c_34]]
      exact ih (by omega) (fun q h9 => by rw [up_ne (Or.inr (by omega))]; exact hq q (by omega)) h
theorem ok_addCommitted (ht : tok nt t) {k : Nat} (hk : k ≤ 40) (hkn : C 31 0 = nI k) (hq : ∀ q, q < k → tok nt (C 30 q)) : RET g K_X1_addCommitted 0 0 [.ref (ad g 4), va_rf (trO g t)] nt C M o none (addCoS C k t) M o := by
  refine MT_of (by decide +kernel) rfl rfl (Nat.le_of_ble_eq_true rfl) (by simp [cat_rf, cat_int, cat_ref]) (fun h => ?_)
  refine V_aload_n (dG D_X1_addCommitted 0 rfl) rfl ?_
  refine gf_X1_41 rfl (dG D_X1_addCommitted 1 rfl) ?_
  refine V_bipush (v := 40) (dG D_X1_addCommitted 2 rfl) (by decide) ?_
  refine V_icmp_lt (tgt := 10) (dG D_X1_addCommitted 3 rfl) (by decide) (fun c_6 => ?_) (fun c_6 => ?_)
  · skip
    refine V_aload_n (dG D_X1_addCommitted 5 rfl) rfl ?_
    refine gf_X1_41 rfl (dG D_X1_addCommitted 6 rfl) ?_
    refine V_istore_n (dG D_X1_addCommitted 7 rfl) (Nat.le_of_ble_eq_true rfl) ?_
    have h9 : k < 40 := by rcases Nat.lt_or_ge k 40 with q | q; exact q; exact absurd c_6 (by rw [hkn, show k = 40 by omega]; decide)
    rw [show addCoS C k t = up (acS t k C) 31 0 (acS t k C 31 0 + 1) from by simp [addCoS, c_6], hkn]
    exact lp_addCommitted ht k h9 hq h
  · skip
    exact V_vret (dG D_X1_addCommitted 4 rfl) rfl (Nat.le_of_ble_eq_true rfl) (Nat.le_of_ble_eq_true rfl) ⟨rfl, (by simp [addCoS, c_6]), rfl, rfl⟩
theorem lp_redo2 (ht : tok nt t) {acc : Int32} : ∀ (n : Nat) {i : Nat} {C : St} (_ : i + n = 32) (h : Nat × Nat), V g K_X1_redo (kR K_X1_redo 0 0) (qM g 0 0 nt (fun v9 C9 M9 o9 => v9 = some (.int acc) ∧ C9 = rdC t.toNatClampNeg n i C ∧ M9 = M ∧ o9 = o) (fun _ _ _ _ => False)) 0 0 nt h C M o 44 [(0, .ref (ad g 4)), (1, va_rf (trO g t)), (2, .int acc), (3, .int (nI i))] [] := by
  intro n
  induction n with
  | zero =>
    intro i C hi h
    refine V_iload_n (dG D_X1_redo 25 rfl) rfl ?_
    refine V_bipush (v := 32) (dG D_X1_redo 26 rfl) (by decide) ?_
    refine V_icmp_ge (tgt := 76) (dG D_X1_redo 27 rfl) (by decide) (fun c_47 => ?_) (fun c_47 => absurd (l32 (by omega)) c_47)
    refine V_iload_n (dG D_X1_redo 42 rfl) rfl ?_
    exact V_iret (dG D_X1_redo 43 rfl) rfl (Nat.le_of_ble_eq_true rfl) (Nat.le_of_ble_eq_true rfl) ⟨rfl, rfl, rfl, rfl⟩
  | succ n ih =>
    intro i C hi h
    refine V_iload_n (dG D_X1_redo 25 rfl) rfl ?_
    refine V_bipush (v := 32) (dG D_X1_redo 26 rfl) (by decide) ?_
    refine V_icmp_ge (tgt := 76) (dG D_X1_redo 27 rfl) (by decide) (fun c_47 => absurd c_47 (g32 (by omega))) (fun c_47 => ?_)
    refine V_aload_nt (dG D_X1_redo 28 rfl) rfl ?_
    refine V_iload_n (dG D_X1_redo 29 rfl) rfl ?_
    refine R_vt1 (by assumption) (ok_writes ht (show i < 32 by omega)) lk_X1_62 (dG D_X1_redo 30 rfl) ⟨Nat.le_of_ble_eq_true rfl, Nat.le_of_ble_eq_true rfl⟩ ⟨(Nat.le_of_ble_eq_true rfl), (Nat.le_of_ble_eq_true rfl)⟩ (by first | exact Nat.le_of_ble_eq_true rfl | simp [cat_rf, cat_int, cat_ref]) (fun h => ?_)
    refine V_if_eq (tgt := 70) (dG D_X1_redo 31 rfl) (by decide) (fun c_55 => ?_) (fun c_55 => ?_)
    · skip
      refine V_iinc (dG D_X1_redo 40 rfl) rfl (inc1 _) (Nat.le_of_ble_eq_true rfl) ?_
      refine V_goto (tgt := 44) (dG D_X1_redo 41 rfl) (by decide) ?_
      rw [show rdC t.toNatClampNeg (n + 1) i C = rdC t.toNatClampNeg n (i + 1) (if bI (bt (C 21 t.toNatClampNeg) i) = 0 then C else up C 32 i (C (51 + 3 * t.toNatClampNeg) i)) from by simp [rdC, c_47, c_55]]
      simp only [c_55, if_true, if_false]
      exact ih (by omega) h
    · skip
      refine V_aload_n (dG D_X1_redo 32 rfl) rfl ?_
      refine gf_X1_24 rfl (dG D_X1_redo 33 rfl) ?_
      refine V_iload_n (dG D_X1_redo 34 rfl) rfl ?_
      refine V_aload_nt (dG D_X1_redo 35 rfl) rfl ?_
      refine gf_X1_65 rfl (dG D_X1_redo 36 rfl) (by assumption) ?_
      refine V_iload_n (dG D_X1_redo 37 rfl) rfl ?_
      refine iald_t1 (by assumption) (dG D_X1_redo 38 rfl) (inr_nI (by omega) (by decide)) ?_
      refine iast_re (dG D_X1_redo 39 rfl) (inr_nI (by omega) (by decide)) ?_
      refine V_iinc (dG D_X1_redo 40 rfl) rfl (inc1 _) (Nat.le_of_ble_eq_true rfl) ?_
      refine V_goto (tgt := 44) (dG D_X1_redo 41 rfl) (by decide) ?_
      rw [show rdC t.toNatClampNeg (n + 1) i C = rdC t.toNatClampNeg n (i + 1) (if bI (bt (C 21 t.toNatClampNeg) i) = 0 then C else up C 32 i (C (51 + 3 * t.toNatClampNeg) i)) from by simp [rdC, c_47, c_55]]
      simp only [c_55, if_true, if_false]
      exact ih (by omega) h
theorem lp_redo1 (ht : tok nt t) : ∀ (n : Nat) {i : Nat} (_ : i + n = 32) (acc : Int32) (h : Nat × Nat), V g K_X1_redo (kR K_X1_redo 0 0) (qM g 0 0 nt (fun v9 C9 M9 o9 => v9 = some (.int (rdN C t.toNatClampNeg n i acc)) ∧ C9 = rdC t.toNatClampNeg 32 0 C ∧ M9 = M ∧ o9 = o) (fun _ _ _ _ => False)) 0 0 nt h C M o 4 [(0, .ref (ad g 4)), (1, va_rf (trO g t)), (2, .int acc), (3, .int (nI i))] [] := by
  intro n
  induction n with
  | zero =>
    intro i hi acc h
    refine V_iload_n (dG D_X1_redo 4 rfl) rfl ?_
    refine V_bipush (v := 32) (dG D_X1_redo 5 rfl) (by decide) ?_
    refine V_icmp_ge (tgt := 42) (dG D_X1_redo 6 rfl) (by decide) (fun c_7 => ?_) (fun c_7 => absurd (l32 (by omega)) c_7)
    refine V_iconst (v := 0) (dG D_X1_redo 23 rfl) (by decide) ?_
    refine V_istore_n (dG D_X1_redo 24 rfl) (Nat.le_of_ble_eq_true rfl) ?_
    exact lp_redo2 ht 32 (i := 0) (by omega) h
  | succ n ih =>
    intro i hi acc h
    refine V_iload_n (dG D_X1_redo 4 rfl) rfl ?_
    refine V_bipush (v := 32) (dG D_X1_redo 5 rfl) (by decide) ?_
    refine V_icmp_ge (tgt := 42) (dG D_X1_redo 6 rfl) (by decide) (fun c_7 => absurd c_7 (g32 (by omega))) (fun c_7 => ?_)
    refine V_aload_nt (dG D_X1_redo 7 rfl) rfl ?_
    refine V_iload_n (dG D_X1_redo 8 rfl) rfl ?_
    refine R_vt1 (by assumption) (ok_hasRead ht (show i < 32 by omega)) lk_X1_55 (dG D_X1_redo 9 rfl) ⟨Nat.le_of_ble_eq_true rfl, Nat.le_of_ble_eq_true rfl⟩ ⟨(Nat.le_of_ble_eq_true rfl), (Nat.le_of_ble_eq_true rfl)⟩ (by first | exact Nat.le_of_ble_eq_true rfl | simp [cat_rf, cat_int, cat_ref]) (fun h => ?_)
    refine V_if_eq (tgt := 36) (dG D_X1_redo 10 rfl) (by decide) (fun c_15 => ?_) (fun c_15 => ?_)
    · skip
      refine V_iinc (dG D_X1_redo 21 rfl) rfl (inc1 _) (Nat.le_of_ble_eq_true rfl) ?_
      refine V_goto (tgt := 4) (dG D_X1_redo 22 rfl) (by decide) ?_
      rw [show rdN C t.toNatClampNeg (n + 1) i acc = rdN C t.toNatClampNeg n (i + 1) (acc) from by simp [rdN, c_7, c_15]]
      exact ih (by omega) _ h
    · skip
      refine V_aload_nt (dG D_X1_redo 11 rfl) rfl ?_
      refine gf_X1_59 rfl (dG D_X1_redo 12 rfl) (by assumption) ?_
      refine V_iload_n (dG D_X1_redo 13 rfl) rfl ?_
      refine iald_t0 (by assumption) (dG D_X1_redo 14 rfl) (inr_nI (by omega) (by decide)) ?_
      refine V_aload_n (dG D_X1_redo 15 rfl) rfl ?_
      refine gf_X1_24 rfl (dG D_X1_redo 16 rfl) ?_
      refine V_iload_n (dG D_X1_redo 17 rfl) rfl ?_
      refine iald_re (dG D_X1_redo 18 rfl) (inr_nI (by omega) (by decide)) ?_
      refine V_icmp_eq (tgt := 36) (dG D_X1_redo 19 rfl) (by decide) (fun c_30 => ?_) (fun c_30 => ?_)
      · skip
        refine V_iinc (dG D_X1_redo 21 rfl) rfl (inc1 _) (Nat.le_of_ble_eq_true rfl) ?_
        refine V_goto (tgt := 4) (dG D_X1_redo 22 rfl) (by decide) ?_
        rw [show rdN C t.toNatClampNeg (n + 1) i acc = rdN C t.toNatClampNeg n (i + 1) (acc) from by simp [rdN, c_7, c_15, c_30]]
        exact ih (by omega) _ h
      · skip
        refine V_iinc (dG D_X1_redo 20 rfl) rfl rfl (Nat.le_of_ble_eq_true rfl) ?_
        refine V_iinc (dG D_X1_redo 21 rfl) rfl (inc1 _) (Nat.le_of_ble_eq_true rfl) ?_
        refine V_goto (tgt := 4) (dG D_X1_redo 22 rfl) (by decide) ?_
        rw [show rdN C t.toNatClampNeg (n + 1) i acc = rdN C t.toNatClampNeg n (i + 1) (acc + 1) from by simp [rdN, c_7, c_15, c_30]]
        exact ih (by omega) _ h
theorem ok_redo (ht : tok nt t) : RET g K_X1_redo 0 0 [.ref (ad g 4), va_rf (trO g t)] nt C M o (some (.int (rdN C t.toNatClampNeg 32 0 0))) (rdC t.toNatClampNeg 32 0 C) M o := by
  refine MT_of (by decide +kernel) rfl rfl (Nat.le_of_ble_eq_true rfl) (by simp [cat_rf, cat_int, cat_ref]) (fun h => ?_)
  refine V_iconst (v := 0) (dG D_X1_redo 0 rfl) (by decide) ?_
  refine V_istore_n (dG D_X1_redo 1 rfl) (Nat.le_of_ble_eq_true rfl) ?_
  refine V_iconst (v := 0) (dG D_X1_redo 2 rfl) (by decide) ?_
  refine V_istore_n (dG D_X1_redo 3 rfl) (Nat.le_of_ble_eq_true rfl) ?_
  exact lp_redo1 ht 32 (i := 0) (by omega) 0 h
theorem lp_fill {v : Int32} : ∀ (n : Nat) {i : Nat} {C : St} (_ : i + n = 32) (h : Nat × Nat), V g K_J7_fill_53178 (kR K_J7_fill_53178 0 0) (qM g 0 0 nt (fun v9 C9 M9 o9 => v9 = none ∧ C9 = fillS v n i C ∧ M9 = M ∧ o9 = o) (fun _ _ _ _ => False)) 0 0 nt h C M o 5 [(0, .ref (ad g 8)), (1, .int v), (2, .int (nI i)), (3, .int 32)] [] := by
  intro n
  induction n with
  | zero =>
    intro i C hi h
    refine V_iload_n (dG D_J7_fill_53178 5 rfl) rfl ?_
    refine V_iload_n (dG D_J7_fill_53178 6 rfl) rfl ?_
    refine V_icmp_ge (tgt := 20) (dG D_J7_fill_53178 7 rfl) (by decide) (fun c_7 => ?_) (fun c_7 => absurd (l32 (by omega)) c_7)
    exact V_vret (dG D_J7_fill_53178 14 rfl) rfl (Nat.le_of_ble_eq_true rfl) (Nat.le_of_ble_eq_true rfl) ⟨rfl, rfl, rfl, rfl⟩
  | succ n ih =>
    intro i C hi h
    refine V_iload_n (dG D_J7_fill_53178 5 rfl) rfl ?_
    refine V_iload_n (dG D_J7_fill_53178 6 rfl) rfl ?_
    refine V_icmp_ge (tgt := 20) (dG D_J7_fill_53178 7 rfl) (by decide) (fun c_7 => absurd c_7 (g32 (by omega))) (fun c_7 => ?_)
    refine V_aload_n (dG D_J7_fill_53178 8 rfl) rfl ?_
    refine V_iload_n (dG D_J7_fill_53178 9 rfl) rfl ?_
    refine V_iload_n (dG D_J7_fill_53178 10 rfl) rfl ?_
    refine iast_re (dG D_J7_fill_53178 11 rfl) (inr_nI (by omega) (by decide)) ?_
    refine V_iinc (dG D_J7_fill_53178 12 rfl) rfl (inc1 _) (Nat.le_of_ble_eq_true rfl) ?_
    refine V_goto (tgt := 5) (dG D_J7_fill_53178 13 rfl) (by decide) ?_
    rw [show fillS v (n + 1) i C = fillS v n (i + 1) (up C 32 i v) from rfl]
    exact ih (by omega) h
theorem ok_fill {v : Int32} : RET g K_J7_fill_53178 0 0 [.ref (ad g 8), .int v] nt C M o none (fillS v 32 0 C) M o := by
  refine MT_of (by decide +kernel) rfl rfl (Nat.le_of_ble_eq_true rfl) (by simp [cat_rf, cat_int, cat_ref]) (fun h => ?_)
  refine V_iconst (v := 0) (dG D_J7_fill_53178 0 rfl) (by decide) ?_
  refine V_istore_n (dG D_J7_fill_53178 1 rfl) (Nat.le_of_ble_eq_true rfl) ?_
  refine V_aload_n (dG D_J7_fill_53178 2 rfl) rfl ?_
  rw [← hp_ad (g := g) (h := h) (n := 8) (by decide) (by decide)]
  refine V_alen (n := 8) (nn := 32) (f := C 32) (v := 32) (dG D_J7_fill_53178 3 rfl) (by omega) (ent_fix (by decide)) rfl ?_
  refine V_istore_n (dG D_J7_fill_53178 4 rfl) (Nat.le_of_ble_eq_true rfl) ?_
  exact lp_fill 32 (i := 0) (by omega) h
theorem ok_bitCount {x : Int32} : RET g K_J6_bitCount_0f7a4 0 0 [.int x] nt C M o (some (.int (bcS x))) C M o := by
  refine MT_of (by decide +kernel) rfl rfl (Nat.le_of_ble_eq_true rfl) (by simp [cat_rf, cat_int, cat_ref]) (fun h => ?_)
  refine V_iload_n (dG D_J6_bitCount_0f7a4 0 rfl) rfl ?_
  refine V_iload_n (dG D_J6_bitCount_0f7a4 1 rfl) rfl ?_
  refine V_iconst (v := 1) (dG D_J6_bitCount_0f7a4 2 rfl) (by decide) ?_
  refine V_iushr (dG D_J6_bitCount_0f7a4 3 rfl) ?_
  refine V_ldcw (v := 1431655765) (dG D_J6_bitCount_0f7a4 4 rfl) w_639 ?_
  refine V_iand (dG D_J6_bitCount_0f7a4 5 rfl) ?_
  refine V_isub (dG D_J6_bitCount_0f7a4 6 rfl) ?_
  refine V_istore_n (dG D_J6_bitCount_0f7a4 7 rfl) (Nat.le_of_ble_eq_true rfl) ?_
  refine V_iload_n (dG D_J6_bitCount_0f7a4 8 rfl) rfl ?_
  refine V_ldcw (v := 858993459) (dG D_J6_bitCount_0f7a4 9 rfl) w_640 ?_
  refine V_iand (dG D_J6_bitCount_0f7a4 10 rfl) ?_
  refine V_iload_n (dG D_J6_bitCount_0f7a4 11 rfl) rfl ?_
  refine V_iconst (v := 2) (dG D_J6_bitCount_0f7a4 12 rfl) (by decide) ?_
  refine V_iushr (dG D_J6_bitCount_0f7a4 13 rfl) ?_
  refine V_ldcw (v := 858993459) (dG D_J6_bitCount_0f7a4 14 rfl) w_640 ?_
  refine V_iand (dG D_J6_bitCount_0f7a4 15 rfl) ?_
  refine V_iadd (dG D_J6_bitCount_0f7a4 16 rfl) ?_
  refine V_istore_n (dG D_J6_bitCount_0f7a4 17 rfl) (Nat.le_of_ble_eq_true rfl) ?_
  refine V_iload_n (dG D_J6_bitCount_0f7a4 18 rfl) rfl ?_
  refine V_iload_n (dG D_J6_bitCount_0f7a4 19 rfl) rfl ?_
  refine V_iconst (v := 4) (dG D_J6_bitCount_0f7a4 20 rfl) (by decide) ?_
  refine V_iushr (dG D_J6_bitCount_0f7a4 21 rfl) ?_
  refine V_iadd (dG D_J6_bitCount_0f7a4 22 rfl) ?_
  refine V_ldcw (v := 252645135) (dG D_J6_bitCount_0f7a4 23 rfl) w_641 ?_
  refine V_iand (dG D_J6_bitCount_0f7a4 24 rfl) ?_
  refine V_istore_n (dG D_J6_bitCount_0f7a4 25 rfl) (Nat.le_of_ble_eq_true rfl) ?_
  refine V_iload_n (dG D_J6_bitCount_0f7a4 26 rfl) rfl ?_
  refine V_iload_n (dG D_J6_bitCount_0f7a4 27 rfl) rfl ?_
  refine V_bipush (v := 8) (dG D_J6_bitCount_0f7a4 28 rfl) (by decide) ?_
  refine V_iushr (dG D_J6_bitCount_0f7a4 29 rfl) ?_
  refine V_iadd (dG D_J6_bitCount_0f7a4 30 rfl) ?_
  refine V_istore_n (dG D_J6_bitCount_0f7a4 31 rfl) (Nat.le_of_ble_eq_true rfl) ?_
  refine V_iload_n (dG D_J6_bitCount_0f7a4 32 rfl) rfl ?_
  refine V_iload_n (dG D_J6_bitCount_0f7a4 33 rfl) rfl ?_
  refine V_bipush (v := 16) (dG D_J6_bitCount_0f7a4 34 rfl) (by decide) ?_
  refine V_iushr (dG D_J6_bitCount_0f7a4 35 rfl) ?_
  refine V_iadd (dG D_J6_bitCount_0f7a4 36 rfl) ?_
  refine V_istore_n (dG D_J6_bitCount_0f7a4 37 rfl) (Nat.le_of_ble_eq_true rfl) ?_
  refine V_iload_n (dG D_J6_bitCount_0f7a4 38 rfl) rfl ?_
  refine V_bipush (v := 63) (dG D_J6_bitCount_0f7a4 39 rfl) (by decide) ?_
  refine V_iand (dG D_J6_bitCount_0f7a4 40 rfl) ?_
  exact V_iret (dG D_J6_bitCount_0f7a4 41 rfl) rfl (Nat.le_of_ble_eq_true rfl) (Nat.le_of_ble_eq_true rfl) ⟨rfl, rfl, rfl, rfl⟩
theorem lp_cu {k : Nat} (hk : k ≤ 40) : ∀ (n : Nat) {i : Nat} {C : St} (_ : i + n = k) (_ : C 31 0 = nI k) (_ : ∀ q, q < k → tok nt (C 30 q)) (acc : Int32) (h : Nat × Nat), V g K_X1_countUnexplained (kR K_X1_countUnexplained 0 0) (qM g 0 0 nt (fun v9 C9 M9 o9 => v9 = some (.int (cuS n i acc C).1) ∧ C9 = (cuS n i acc C).2 ∧ M9 = M ∧ o9 = o) (fun _ _ _ _ => False)) 0 0 nt h C M o 14 [(0, .ref (ad g 4)), (1, .int acc), (2, .int (nI i))] [] := by
  intro n
  induction n with
  | zero =>
    intro i C hi hkn hq acc h
    refine V_iload_n (dG D_X1_countUnexplained 8 rfl) rfl ?_
    refine V_aload_n (dG D_X1_countUnexplained 9 rfl) rfl ?_
    refine gf_X1_41 rfl (dG D_X1_countUnexplained 10 rfl) ?_
    refine V_icmp_ge (tgt := 41) (dG D_X1_countUnexplained 11 rfl) (by decide) (fun c_19 => ?_) (fun c_19 => absurd (by rw [hkn]; exact nI_le (by omega) (by omega)) c_19)
    refine V_iload_n (dG D_X1_countUnexplained 23 rfl) rfl ?_
    exact V_iret (dG D_X1_countUnexplained 24 rfl) rfl (Nat.le_of_ble_eq_true rfl) (Nat.le_of_ble_eq_true rfl) ⟨rfl, rfl, rfl, rfl⟩
  | succ n ih =>
    intro i C hi hkn hq acc h
    refine V_iload_n (dG D_X1_countUnexplained 8 rfl) rfl ?_
    refine V_aload_n (dG D_X1_countUnexplained 9 rfl) rfl ?_
    refine gf_X1_41 rfl (dG D_X1_countUnexplained 10 rfl) ?_
    refine V_icmp_ge (tgt := 41) (dG D_X1_countUnexplained 11 rfl) (by decide) (fun c_19 => absurd (show C 31 0 ≤ nI i from c_19) (by rw [hkn]; exact nI_ge (by omega) (by omega))) (fun c_19 => ?_)
    refine V_iload_n (dG D_X1_countUnexplained 12 rfl) rfl ?_
    refine V_aload_n (dG D_X1_countUnexplained 13 rfl) rfl ?_
    refine V_aload_n (dG D_X1_countUnexplained 14 rfl) rfl ?_
    refine gf_X1_20 rfl (dG D_X1_countUnexplained 15 rfl) ?_
    refine V_iload_n (dG D_X1_countUnexplained 16 rfl) rfl ?_
    refine aald_ord (dG D_X1_countUnexplained 17 rfl) (inr_nI (by omega) (by decide)) ?_
    refine R_vb1 (ok_redo (hq i (by omega))) lk_X1_51 (dG D_X1_countUnexplained 18 rfl) rcv_1 ⟨Nat.le_of_ble_eq_true rfl, Nat.le_of_ble_eq_true rfl⟩ ⟨(Nat.le_of_ble_eq_true rfl), (Nat.le_of_ble_eq_true rfl)⟩ (by first | exact Nat.le_of_ble_eq_true rfl | simp [cat_rf, cat_int, cat_ref]) (fun h => ?_)
    refine V_iadd (dG D_X1_countUnexplained 19 rfl) ?_
    refine V_istore_n (dG D_X1_countUnexplained 20 rfl) (Nat.le_of_ble_eq_true rfl) ?_
    refine V_iinc (dG D_X1_countUnexplained 21 rfl) rfl (inc1 _) (Nat.le_of_ble_eq_true rfl) ?_
    refine V_goto (tgt := 14) (dG D_X1_countUnexplained 22 rfl) (by decide) ?_
    rw [show cuS (n + 1) i acc C = cuS n (i + 1) (acc + rdN C (C 30 i).toNatClampNeg 32 0 0) (rdC (C 30 i).toNatClampNeg 32 0 C) from rfl]
    exact ih (by omega) (by rw [rdC_row (by decide)]; exact hkn) (fun q h9 => by rw [rdC_row (by decide)]; exact hq q h9) _ h
theorem ok_countUnexplained {k : Nat} (hk : k ≤ 40) (hkn : C 31 0 = nI k) (hq : ∀ q, q < k → tok nt (C 30 q)) : RET g K_X1_countUnexplained 0 0 [.ref (ad g 4)] nt C M o (some (.int (cuS k 0 0 (fillS 1000 32 0 C)).1)) (cuS k 0 0 (fillS 1000 32 0 C)).2 M o := by
  refine MT_of (by decide +kernel) rfl rfl (Nat.le_of_ble_eq_true rfl) (by simp [cat_rf, cat_int, cat_ref]) (fun h => ?_)
  refine V_aload_n (dG D_X1_countUnexplained 0 rfl) rfl ?_
  refine gf_X1_24 rfl (dG D_X1_countUnexplained 1 rfl) ?_
  refine V_sipush (v := 1000) (dG D_X1_countUnexplained 2 rfl) (by decide) ?_
  refine R_ns2 ok_fill lk_X1_47 (dG D_X1_countUnexplained 3 rfl) ⟨Nat.le_of_ble_eq_true rfl, Nat.le_of_ble_eq_true rfl⟩ ⟨(Nat.le_of_ble_eq_true rfl), (Nat.le_of_ble_eq_true rfl)⟩ (by first | exact Nat.le_of_ble_eq_true rfl | simp [cat_rf, cat_int, cat_ref]) (fun h => ?_)
  refine V_iconst (v := 0) (dG D_X1_countUnexplained 4 rfl) (by decide) ?_
  refine V_istore_n (dG D_X1_countUnexplained 5 rfl) (Nat.le_of_ble_eq_true rfl) ?_
  refine V_iconst (v := 0) (dG D_X1_countUnexplained 6 rfl) (by decide) ?_
  refine V_istore_n (dG D_X1_countUnexplained 7 rfl) (Nat.le_of_ble_eq_true rfl) ?_
  exact lp_cu hk k (i := 0) (by omega) (by rw [fillS_row (by decide)]; exact hkn) (fun q h9 => by rw [fillS_row (by decide)]; exact hq q h9) 0 h
theorem lp_rangeOf {k : Nat} (hk : k < 32) : ∀ (n : Nat) {i : Nat} (_ : i + n = k + 1) (acc : Int32) (h : Nat × Nat), V g K_X4_rangeOf (kR K_X4_rangeOf 0 0) (qM g 0 0 nt (fun v9 C9 M9 o9 => v9 = some (.int (rgS C n i acc)) ∧ C9 = C ∧ M9 = M ∧ o9 = o) (fun _ _ _ _ => False)) 0 0 nt h C M o 4 [(0, .ref (ad g 0)), (1, .int (nI k)), (2, .int acc), (3, .int (nI i))] [] := by
  intro n
  induction n with
  | zero =>
    intro i hi acc h
    refine V_iload_n (dG D_X4_rangeOf 4 rfl) rfl ?_
    refine V_iload_n (dG D_X4_rangeOf 5 rfl) rfl ?_
    refine V_icmp_gt (tgt := 30) (dG D_X4_rangeOf 6 rfl) (by decide) (fun c_6 => ?_) (fun c_6 => absurd (nI_lt (by omega) (by omega)) c_6)
    refine V_iload_n (dG D_X4_rangeOf 16 rfl) rfl ?_
    exact V_iret (dG D_X4_rangeOf 17 rfl) rfl (Nat.le_of_ble_eq_true rfl) (Nat.le_of_ble_eq_true rfl) ⟨rfl, rfl, rfl, rfl⟩
  | succ n ih =>
    intro i hi acc h
    refine V_iload_n (dG D_X4_rangeOf 4 rfl) rfl ?_
    refine V_iload_n (dG D_X4_rangeOf 5 rfl) rfl ?_
    refine V_icmp_gt (tgt := 30) (dG D_X4_rangeOf 6 rfl) (by decide) (fun c_6 => absurd c_6 (nI_nlt (by omega) (by omega))) (fun c_6 => ?_)
    refine V_aload_n (dG D_X4_rangeOf 7 rfl) rfl ?_
    refine gf_X4_17 rfl (dG D_X4_rangeOf 8 rfl) ?_
    refine V_iload_n (dG D_X4_rangeOf 9 rfl) rfl ?_
    refine aald_cells (dG D_X4_rangeOf 10 rfl) (inr_nI (by omega) (by decide)) ?_
    refine gf_X4_36 rfl (dG D_X4_rangeOf 11 rfl) (by first | assumption | omega) ?_
    refine V_if_eq (tgt := 24) (dG D_X4_rangeOf 12 rfl) (by decide) (fun c_18 => ?_) (fun c_18 => ?_)
    · skip
      refine V_iinc (dG D_X4_rangeOf 14 rfl) rfl (inc1 _) (Nat.le_of_ble_eq_true rfl) ?_
      refine V_goto (tgt := 4) (dG D_X4_rangeOf 15 rfl) (by decide) ?_
      rw [show rgS C (n + 1) i acc = rgS C n (i + 1) (if C 5 i = 0 then acc else acc + 1) from by simp [rgS, c_6, c_18]]
      simp only [c_18, if_true, if_false]
      exact ih (by omega) _ h
    · skip
      refine V_iinc (dG D_X4_rangeOf 13 rfl) rfl rfl (Nat.le_of_ble_eq_true rfl) ?_
      refine V_iinc (dG D_X4_rangeOf 14 rfl) rfl (inc1 _) (Nat.le_of_ble_eq_true rfl) ?_
      refine V_goto (tgt := 4) (dG D_X4_rangeOf 15 rfl) (by decide) ?_
      rw [show rgS C (n + 1) i acc = rgS C n (i + 1) (if C 5 i = 0 then acc else acc + 1) from by simp [rgS, c_6, c_18]]
      simp only [c_18, if_true, if_false]
      exact ih (by omega) _ h
theorem ok_rangeOf {k : Nat} (hk : k < 32) : RET g K_X4_rangeOf 0 0 [.ref (ad g 0), .int (nI k)] nt C M o (some (.int (rgS C k 1 0))) C M o := by
  refine MT_of (by decide +kernel) rfl rfl (Nat.le_of_ble_eq_true rfl) (by simp [cat_rf, cat_int, cat_ref]) (fun h => ?_)
  refine V_iconst (v := 0) (dG D_X4_rangeOf 0 rfl) (by decide) ?_
  refine V_istore_n (dG D_X4_rangeOf 1 rfl) (Nat.le_of_ble_eq_true rfl) ?_
  refine V_iconst (v := 1) (dG D_X4_rangeOf 2 rfl) (by decide) ?_
  refine V_istore_n (dG D_X4_rangeOf 3 rfl) (Nat.le_of_ble_eq_true rfl) ?_
  exact lp_rangeOf hk k (i := 1) (by omega) 0 h
theorem lp_firstKeyOf {range : Int32} : ∀ (n : Nat) {i : Nat} (_ : i + n = 32) (acc : Int32) (h : Nat × Nat), V g K_X4_firstKeyOf (kR K_X4_firstKeyOf 0 0) (qM g 0 0 nt (fun v9 C9 M9 o9 => v9 = some (.int (fkS C range n i acc)) ∧ C9 = C ∧ M9 = M ∧ o9 = o) (fun _ _ _ _ => False)) 0 0 nt h C M o 4 [(0, .ref (ad g 0)), (1, .int range), (2, .int acc), (3, .int (nI i))] [] := by
  intro n
  induction n with
  | zero =>
    intro i hi acc h
    refine V_iload_n (dG D_X4_firstKeyOf 4 rfl) rfl ?_
    refine V_bipush (v := 32) (dG D_X4_firstKeyOf 5 rfl) (by decide) ?_
    refine V_icmp_ge (tgt := 38) (dG D_X4_firstKeyOf 6 rfl) (by decide) (fun c_7 => ?_) (fun c_7 => absurd (l32 (by omega)) c_7)
    refine V_bipush (v := 32) (dG D_X4_firstKeyOf 21 rfl) (by decide) ?_
    exact V_iret (dG D_X4_firstKeyOf 22 rfl) rfl (Nat.le_of_ble_eq_true rfl) (Nat.le_of_ble_eq_true rfl) ⟨rfl, rfl, rfl, rfl⟩
  | succ n ih =>
    intro i hi acc h
    refine V_iload_n (dG D_X4_firstKeyOf 4 rfl) rfl ?_
    refine V_bipush (v := 32) (dG D_X4_firstKeyOf 5 rfl) (by decide) ?_
    refine V_icmp_ge (tgt := 38) (dG D_X4_firstKeyOf 6 rfl) (by decide) (fun c_7 => absurd c_7 (g32 (by omega))) (fun c_7 => ?_)
    refine V_aload_n (dG D_X4_firstKeyOf 7 rfl) rfl ?_
    refine gf_X4_17 rfl (dG D_X4_firstKeyOf 8 rfl) ?_
    refine V_iload_n (dG D_X4_firstKeyOf 9 rfl) rfl ?_
    refine aald_cells (dG D_X4_firstKeyOf 10 rfl) (by first | assumption | exact inr_nI (by first | assumption | omega) (by first | decide | assumption | omega) | exact inr_of (by assumption)) ?_
    refine gf_X4_36 rfl (dG D_X4_firstKeyOf 11 rfl) (by first | assumption | omega) ?_
    refine V_if_eq (tgt := 32) (dG D_X4_firstKeyOf 12 rfl) (by decide) (fun c_19 => ?_) (fun c_19 => ?_)
    · skip
      refine V_iinc (dG D_X4_firstKeyOf 19 rfl) rfl (inc1 _) (Nat.le_of_ble_eq_true rfl) ?_
      refine V_goto (tgt := 4) (dG D_X4_firstKeyOf 20 rfl) (by decide) ?_
      rw [show fkS C range (n + 1) i acc = fkS C range n (i + 1) acc from by simp [fkS, c_7, c_19]]
      exact ih (by omega) _ h
    · skip
      refine V_iload_n (dG D_X4_firstKeyOf 13 rfl) rfl ?_
      refine V_iload_n (dG D_X4_firstKeyOf 14 rfl) rfl ?_
      refine V_icmp_ne (tgt := 29) (dG D_X4_firstKeyOf 15 rfl) (by decide) (fun c_24 => ?_) (fun c_24 => ?_)
      · skip
        refine V_iinc (dG D_X4_firstKeyOf 18 rfl) rfl rfl (Nat.le_of_ble_eq_true rfl) ?_
        refine V_iinc (dG D_X4_firstKeyOf 19 rfl) rfl (inc1 _) (Nat.le_of_ble_eq_true rfl) ?_
        refine V_goto (tgt := 4) (dG D_X4_firstKeyOf 20 rfl) (by decide) ?_
        rw [show fkS C range (n + 1) i acc = fkS C range n (i + 1) (acc + 1) from by simp [fkS, c_7, c_19, c_24]]
        exact ih (by omega) _ h
      · skip
        refine V_iload_n (dG D_X4_firstKeyOf 16 rfl) rfl ?_
        exact V_iret (dG D_X4_firstKeyOf 17 rfl) rfl (Nat.le_of_ble_eq_true rfl) (Nat.le_of_ble_eq_true rfl) ⟨(by simp [fkS, c_7, c_19, c_24]), rfl, rfl, rfl⟩
theorem ok_firstKeyOf {range : Int32} : RET g K_X4_firstKeyOf 0 0 [.ref (ad g 0), .int range] nt C M o (some (.int (fkS C range 32 0 0))) C M o := by
  refine MT_of (by decide +kernel) rfl rfl (Nat.le_of_ble_eq_true rfl) (by simp [cat_rf, cat_int, cat_ref]) (fun h => ?_)
  refine V_iconst (v := 0) (dG D_X4_firstKeyOf 0 rfl) (by decide) ?_
  refine V_istore_n (dG D_X4_firstKeyOf 1 rfl) (Nat.le_of_ble_eq_true rfl) ?_
  refine V_iconst (v := 0) (dG D_X4_firstKeyOf 2 rfl) (by decide) ?_
  refine V_istore_n (dG D_X4_firstKeyOf 3 rfl) (Nat.le_of_ble_eq_true rfl) ?_
  exact lp_firstKeyOf 32 (i := 0) (by omega) 0 h
theorem lp_resolved {b : Nat} (hb40 : b ≤ 40) (hb : C 10 0 = nI b) (h33 : ∀ i, i < b → tok nt (C 33 i)) : ∀ (n : Nat) {i : Nat} (_ : i + n = b) (acc : Int32) (h : Nat × Nat), V g K_X4_resolvedStamp (kR K_X4_resolvedStamp 0 0) (qM g 0 0 nt (fun v9 C9 M9 o9 => v9 = some (.int (rsS C n i acc)) ∧ C9 = C ∧ M9 = M ∧ o9 = o) (fun _ _ _ _ => False)) 0 0 nt h C M o 7 [(0, .ref (ad g 0)), (1, .int acc), (2, .int (nI i))] [] := by
  intro n
  induction n with
  | zero =>
    intro i hi acc h
    refine V_iload_n (dG D_X4_resolvedStamp 5 rfl) rfl ?_
    refine V_aload_n (dG D_X4_resolvedStamp 6 rfl) rfl ?_
    refine gf_X4_115 rfl (dG D_X4_resolvedStamp 7 rfl) ?_
    refine V_icmp_ge (tgt := 50) (dG D_X4_resolvedStamp 8 rfl) (by decide) (fun c_12 => ?_) (fun c_12 => absurd (by rw [hb]; exact nI_le (by omega) (by omega)) c_12)
    refine V_iload_n (dG D_X4_resolvedStamp 28 rfl) rfl ?_
    exact V_iret (dG D_X4_resolvedStamp 29 rfl) rfl (Nat.le_of_ble_eq_true rfl) (Nat.le_of_ble_eq_true rfl) ⟨rfl, rfl, rfl, rfl⟩
  | succ n ih =>
    intro i hi acc h
    refine V_iload_n (dG D_X4_resolvedStamp 5 rfl) rfl ?_
    refine V_aload_n (dG D_X4_resolvedStamp 6 rfl) rfl ?_
    refine gf_X4_115 rfl (dG D_X4_resolvedStamp 7 rfl) ?_
    refine V_icmp_ge (tgt := 50) (dG D_X4_resolvedStamp 8 rfl) (by decide) (fun c_12 => absurd (show C 10 0 ≤ nI i from c_12) (by rw [hb]; exact nI_ge (by omega) (by omega))) (fun c_12 => ?_)
    refine V_aload_n (dG D_X4_resolvedStamp 9 rfl) rfl ?_
    refine gf_X4_23 rfl (dG D_X4_resolvedStamp 10 rfl) ?_
    refine V_iload_n (dG D_X4_resolvedStamp 11 rfl) rfl ?_
    refine aald_trs (dG D_X4_resolvedStamp 12 rfl) (inr_nI (by omega) (by decide)) ?_
    refine gf_X4_147 rfl (dG D_X4_resolvedStamp 13 rfl) (h33 i (by omega)) ?_
    refine V_iconst (v := 1) (dG D_X4_resolvedStamp 14 rfl) (by decide) ?_
    refine V_icmp_ne (tgt := 44) (dG D_X4_resolvedStamp 15 rfl) (by decide) (fun c_25 => ?_) (fun c_25 => ?_)
    · skip
      refine V_iinc (dG D_X4_resolvedStamp 26 rfl) rfl (inc1 _) (Nat.le_of_ble_eq_true rfl) ?_
      refine V_goto (tgt := 7) (dG D_X4_resolvedStamp 27 rfl) (by decide) ?_
      rw [show rsS C (n + 1) i acc = rsS C n (i + 1) (if C 15 (C 33 i).toNatClampNeg = 1 then mn acc (C 17 (C 33 i).toNatClampNeg - 1) else acc) from by simp [rsS, c_12, c_25]]
      simp only [c_25, if_true, if_false, mn]
      exact ih (by omega) _ h
    · skip
      refine V_iload_n (dG D_X4_resolvedStamp 16 rfl) rfl ?_
      refine V_aload_n (dG D_X4_resolvedStamp 17 rfl) rfl ?_
      refine gf_X4_23 rfl (dG D_X4_resolvedStamp 18 rfl) ?_
      refine V_iload_n (dG D_X4_resolvedStamp 19 rfl) rfl ?_
      refine aald_trs (dG D_X4_resolvedStamp 20 rfl) (inr_nI (by omega) (by decide)) ?_
      refine gf_X4_163 rfl (dG D_X4_resolvedStamp 21 rfl) (h33 i (by omega)) ?_
      refine V_iconst (v := 1) (dG D_X4_resolvedStamp 22 rfl) (by decide) ?_
      refine V_isub (dG D_X4_resolvedStamp 23 rfl) ?_
      refine V_min w_138 (dG D_X4_resolvedStamp 24 rfl) ⟨(Nat.le_of_ble_eq_true rfl), (by first | exact Nat.le_of_ble_eq_true rfl | (simp only [List.map, List.sum, cat_rf, cat_int, cat_ref]; exact Nat.le_of_ble_eq_true rfl))⟩ ⟨(Nat.le_of_ble_eq_true rfl), (Nat.le_of_ble_eq_true rfl)⟩ ?_
      refine V_istore_n (dG D_X4_resolvedStamp 25 rfl) (Nat.le_of_ble_eq_true rfl) ?_
      refine V_iinc (dG D_X4_resolvedStamp 26 rfl) rfl (inc1 _) (Nat.le_of_ble_eq_true rfl) ?_
      refine V_goto (tgt := 7) (dG D_X4_resolvedStamp 27 rfl) (by decide) ?_
      rw [show rsS C (n + 1) i acc = rsS C n (i + 1) (if C 15 (C 33 i).toNatClampNeg = 1 then mn acc (C 17 (C 33 i).toNatClampNeg - 1) else acc) from by simp [rsS, c_12, c_25]]
      simp only [c_25, if_true, if_false, mn]
      exact ih (by omega) _ h
theorem ok_resolvedStamp {b : Nat} (hb40 : b ≤ 40) (hb : C 10 0 = nI b) (h33 : ∀ i, i < b → tok nt (C 33 i)) : RET g K_X4_resolvedStamp 0 0 [.ref (ad g 0)] nt C M o (some (.int (rsS C b 0 (closedS C)))) C M o := by
  refine MT_of (by decide +kernel) rfl rfl (Nat.le_of_ble_eq_true rfl) (by simp [cat_rf, cat_int, cat_ref]) (fun h => ?_)
  refine V_aload_n (dG D_X4_resolvedStamp 0 rfl) rfl ?_
  refine R_vb0 ok_closedStamp lk_X4_72 (dG D_X4_resolvedStamp 1 rfl) rcv_4 ⟨Nat.le_of_ble_eq_true rfl, Nat.le_of_ble_eq_true rfl⟩ ⟨(Nat.le_of_ble_eq_true rfl), (Nat.le_of_ble_eq_true rfl)⟩ (by first | exact Nat.le_of_ble_eq_true rfl | simp [cat_rf, cat_int, cat_ref]) (fun h => ?_)
  refine V_istore_n (dG D_X4_resolvedStamp 2 rfl) (Nat.le_of_ble_eq_true rfl) ?_
  refine V_iconst (v := 0) (dG D_X4_resolvedStamp 3 rfl) (by decide) ?_
  refine V_istore_n (dG D_X4_resolvedStamp 4 rfl) (Nat.le_of_ble_eq_true rfl) ?_
  exact lp_resolved hb40 hb h33 b (i := 0) (by omega) _ h
theorem lp_hasAll (ht : tok nt t) (wo : ∀ k, k < 32 → trv nt (C 6 k)) : ∀ (n : Nat) {i : Nat} (_ : i + n = 32) (h : Nat × Nat), V g K_X4_hasAllIntents (kR K_X4_hasAllIntents 0 0) (qM g 0 0 nt (fun v9 C9 M9 o9 => v9 = some (.int (haS C t n i)) ∧ C9 = C ∧ M9 = M ∧ o9 = o) (fun _ _ _ _ => False)) 0 0 nt h C M o 2 [(0, .ref (ad g 0)), (1, va_rf (trO g t)), (2, .int (nI i))] [] := by
  intro n
  induction n with
  | zero =>
    intro i hi h
    refine V_iload_n (dG D_X4_hasAllIntents 2 rfl) rfl ?_
    refine V_bipush (v := 32) (dG D_X4_hasAllIntents 3 rfl) (by decide) ?_
    refine V_icmp_ge (tgt := 37) (dG D_X4_hasAllIntents 4 rfl) (by decide) (fun c_5 => ?_) (fun c_5 => absurd (l32 (by omega)) c_5)
    refine V_iconst (v := 1) (dG D_X4_hasAllIntents 20 rfl) (by decide) ?_
    exact V_zret (dG D_X4_hasAllIntents 21 rfl) rfl (by first | rfl | assumption) (Nat.le_of_ble_eq_true rfl) (Nat.le_of_ble_eq_true rfl) ⟨rfl, rfl, rfl, rfl⟩
  | succ n ih =>
    intro i hi h
    refine V_iload_n (dG D_X4_hasAllIntents 2 rfl) rfl ?_
    refine V_bipush (v := 32) (dG D_X4_hasAllIntents 3 rfl) (by decide) ?_
    refine V_icmp_ge (tgt := 37) (dG D_X4_hasAllIntents 4 rfl) (by decide) (fun c_5 => absurd c_5 (g32 (by omega))) (fun c_5 => ?_)
    refine V_aload_nt (dG D_X4_hasAllIntents 5 rfl) rfl ?_
    refine V_iload_n (dG D_X4_hasAllIntents 6 rfl) rfl ?_
    refine R_vt1 (by assumption) (ok_writes ht (show i < 32 by omega)) lk_X4_274 (dG D_X4_hasAllIntents 7 rfl) ⟨Nat.le_of_ble_eq_true rfl, Nat.le_of_ble_eq_true rfl⟩ ⟨(Nat.le_of_ble_eq_true rfl), (Nat.le_of_ble_eq_true rfl)⟩ (by first | exact Nat.le_of_ble_eq_true rfl | simp [cat_rf, cat_int, cat_ref]) (fun h => ?_)
    refine V_if_eq (tgt := 31) (dG D_X4_hasAllIntents 8 rfl) (by decide) (fun c_13 => ?_) (fun c_13 => ?_)
    · skip
      refine V_iinc (dG D_X4_hasAllIntents 18 rfl) rfl (inc1 _) (Nat.le_of_ble_eq_true rfl) ?_
      refine V_goto (tgt := 2) (dG D_X4_hasAllIntents 19 rfl) (by decide) ?_
      rw [show haS C t (n + 1) i = haS C t n (i + 1) from by simp [haS, c_5, c_13]]
      exact ih (by omega) h
    · skip
      refine V_aload_n (dG D_X4_hasAllIntents 9 rfl) rfl ?_
      refine gf_X4_17 rfl (dG D_X4_hasAllIntents 10 rfl) ?_
      refine V_iload_n (dG D_X4_hasAllIntents 11 rfl) rfl ?_
      refine aald_cells (dG D_X4_hasAllIntents 12 rfl) (inr_nI (by omega) (by decide)) ?_
      refine gf_X4_82 rfl (dG D_X4_hasAllIntents 13 rfl) (by first | assumption | omega) ?_
      refine V_aload_nt (dG D_X4_hasAllIntents 14 rfl) rfl ?_
      refine V_acmpt_eq (tgt := 31) (dG D_X4_hasAllIntents 15 rfl) (by decide) (wo i (by omega)) (Or.inr ht) (fun c_26 => ?_) (fun c_26 => ?_)
      · skip
        refine V_iinc (dG D_X4_hasAllIntents 18 rfl) rfl (inc1 _) (Nat.le_of_ble_eq_true rfl) ?_
        refine V_goto (tgt := 2) (dG D_X4_hasAllIntents 19 rfl) (by decide) ?_
        rw [show haS C t (n + 1) i = haS C t n (i + 1) from by simp [haS, c_5, c_13, c_26]]
        exact ih (by omega) h
      · skip
        refine V_iconst (v := 0) (dG D_X4_hasAllIntents 16 rfl) (by decide) ?_
        exact V_zret (dG D_X4_hasAllIntents 17 rfl) rfl (by first | rfl | assumption) (Nat.le_of_ble_eq_true rfl) (Nat.le_of_ble_eq_true rfl) ⟨(by simp [haS, c_5, c_13, c_26]), rfl, rfl, rfl⟩
theorem ok_hasAllIntents (ht : tok nt t) (wo : ∀ k, k < 32 → trv nt (C 6 k)) : RET g K_X4_hasAllIntents 0 0 [.ref (ad g 0), va_rf (trO g t)] nt C M o (some (.int (haS C t 32 0))) C M o := by
  refine MT_of (by decide +kernel) rfl rfl (Nat.le_of_ble_eq_true rfl) (by simp [cat_rf, cat_int, cat_ref]) (fun h => ?_)
  refine V_iconst (v := 0) (dG D_X4_hasAllIntents 0 rfl) (by decide) ?_
  refine V_istore_n (dG D_X4_hasAllIntents 1 rfl) (Nat.le_of_ble_eq_true rfl) ?_
  exact lp_hasAll ht wo 32 (i := 0) (by omega) h
theorem lp_writesDown (ht : tok nt t) (wn : ∀ k, k < 32 → vp_in (C 4 k) 4) : ∀ (n : Nat) {i : Nat} (_ : i + n = 32) (h : Nat × Nat), V g K_X4_writesOnDownNode (kR K_X4_writesOnDownNode 0 0) (qM g 0 0 nt (fun v9 C9 M9 o9 => v9 = some (.int (wdS C t.toNatClampNeg n i)) ∧ C9 = C ∧ M9 = M ∧ o9 = o) (fun _ _ _ _ => False)) 0 0 nt h C M o 2 [(0, .ref (ad g 0)), (1, va_rf (trO g t)), (2, .int (nI i))] [] := by
  intro n
  induction n with
  | zero =>
    intro i hi h
    refine V_iload_n (dG D_X4_writesOnDownNode 2 rfl) rfl ?_
    refine V_bipush (v := 32) (dG D_X4_writesOnDownNode 3 rfl) (by decide) ?_
    refine V_icmp_ge (tgt := 44) (dG D_X4_writesOnDownNode 4 rfl) (by decide) (fun c_5 => ?_) (fun c_5 => absurd (l32 (by omega)) c_5)
    refine V_iconst (v := 0) (dG D_X4_writesOnDownNode 23 rfl) (by decide) ?_
    exact V_zret (dG D_X4_writesOnDownNode 24 rfl) rfl (by first | rfl | assumption) (Nat.le_of_ble_eq_true rfl) (Nat.le_of_ble_eq_true rfl) ⟨rfl, rfl, rfl, rfl⟩
  | succ n ih =>
    intro i hi h
    refine V_iload_n (dG D_X4_writesOnDownNode 2 rfl) rfl ?_
    refine V_bipush (v := 32) (dG D_X4_writesOnDownNode 3 rfl) (by decide) ?_
    refine V_icmp_ge (tgt := 44) (dG D_X4_writesOnDownNode 4 rfl) (by decide) (fun c_5 => absurd c_5 (g32 (by omega))) (fun c_5 => ?_)
    refine V_aload_nt (dG D_X4_writesOnDownNode 5 rfl) rfl ?_
    refine V_iload_n (dG D_X4_writesOnDownNode 6 rfl) rfl ?_
    refine R_vt1 (by assumption) (ok_writes ht (show i < 32 by omega)) lk_X4_274 (dG D_X4_writesOnDownNode 7 rfl) ⟨Nat.le_of_ble_eq_true rfl, Nat.le_of_ble_eq_true rfl⟩ ⟨(Nat.le_of_ble_eq_true rfl), (Nat.le_of_ble_eq_true rfl)⟩ (by first | exact Nat.le_of_ble_eq_true rfl | simp [cat_rf, cat_int, cat_ref]) (fun h => ?_)
    refine V_if_eq (tgt := 38) (dG D_X4_writesOnDownNode 8 rfl) (by decide) (fun c_13 => ?_) (fun c_13 => ?_)
    · skip
      refine V_iinc (dG D_X4_writesOnDownNode 21 rfl) rfl (inc1 _) (Nat.le_of_ble_eq_true rfl) ?_
      refine V_goto (tgt := 2) (dG D_X4_writesOnDownNode 22 rfl) (by decide) ?_
      rw [show wdS C t.toNatClampNeg (n + 1) i = wdS C t.toNatClampNeg n (i + 1) from by simp [wdS, c_5, c_13]]
      exact ih (by omega) h
    · skip
      refine V_aload_n (dG D_X4_writesOnDownNode 9 rfl) rfl ?_
      refine gf_X4_11 rfl (dG D_X4_writesOnDownNode 10 rfl) ?_
      refine V_aload_n (dG D_X4_writesOnDownNode 11 rfl) rfl ?_
      refine gf_X4_17 rfl (dG D_X4_writesOnDownNode 12 rfl) ?_
      refine V_iload_n (dG D_X4_writesOnDownNode 13 rfl) rfl ?_
      refine aald_cells (dG D_X4_writesOnDownNode 14 rfl) (inr_nI (by omega) (by decide)) ?_
      refine gf_X4_79 rfl (dG D_X4_writesOnDownNode 15 rfl) (by first | assumption | omega) ?_
      refine aald_nodes (dG D_X4_writesOnDownNode 16 rfl) (inr_of (wn i (by omega))) ?_
      refine gf_X4_76 rfl (dG D_X4_writesOnDownNode 17 rfl) (vin_lt (wn i (by omega))) ?_
      refine V_if_eq (tgt := 38) (dG D_X4_writesOnDownNode 18 rfl) (by decide) (fun c_33 => ?_) (fun c_33 => ?_)
      · skip
        refine V_iinc (dG D_X4_writesOnDownNode 21 rfl) rfl (inc1 _) (Nat.le_of_ble_eq_true rfl) ?_
        refine V_goto (tgt := 2) (dG D_X4_writesOnDownNode 22 rfl) (by decide) ?_
        rw [show wdS C t.toNatClampNeg (n + 1) i = wdS C t.toNatClampNeg n (i + 1) from by simp [wdS, c_5, c_13, c_33]]
        exact ih (by omega) h
      · skip
        refine V_iconst (v := 1) (dG D_X4_writesOnDownNode 19 rfl) (by decide) ?_
        exact V_zret (dG D_X4_writesOnDownNode 20 rfl) rfl (by first | rfl | assumption) (Nat.le_of_ble_eq_true rfl) (Nat.le_of_ble_eq_true rfl) ⟨(by simp [wdS, c_5, c_13, c_33]), rfl, rfl, rfl⟩
theorem ok_writesOnDownNode (ht : tok nt t) (wn : ∀ k, k < 32 → vp_in (C 4 k) 4) : RET g K_X4_writesOnDownNode 0 0 [.ref (ad g 0), va_rf (trO g t)] nt C M o (some (.int (wdS C t.toNatClampNeg 32 0))) C M o := by
  refine MT_of (by decide +kernel) rfl rfl (Nat.le_of_ble_eq_true rfl) (by simp [cat_rf, cat_int, cat_ref]) (fun h => ?_)
  refine V_iconst (v := 0) (dG D_X4_writesOnDownNode 0 rfl) (by decide) ?_
  refine V_istore_n (dG D_X4_writesOnDownNode 1 rfl) (Nat.le_of_ble_eq_true rfl) ?_
  exact lp_writesDown ht wn 32 (i := 0) (by omega) h
end B4
end
section
/-! Arrays.copyOf, and the two calls of it that let the history grow -/
set_option maxHeartbeats 4000000 in
theorem ok_copyOf {g : GT} {q0 n m : Nat} {f : Nat → Int32} (hnm : n < m) (hm : m < 1000000) (sz : Nat) (hq0 : q0 < sz) : Met (gl g) (ky K_J7_copyOf_59c91) (kws K_J7_copyOf_59c91) (kR K_J7_copyOf_59c91 1 m) (va_Pc [.ref q0, .int (nI m)] (fun U => U.heap.size = sz ∧ va_P (gD g) vwCl [(q0, iA g 0 n f)] U.heap ∧ va_K (gD g) vwCl (gtys g) U)) (va_Qr (fun (_ : Unit) => True) (fun _ a t => sz ≤ a ∧ va_P (gD g) vwCl [(q0, iA g 0 n f), (a, iA g 0 m (va_cpy f (fun _ => 0) 0 0 n))] t.heap) (fun q => sz ≤ q ∨ q = q0)) 1 m (fun q => sz ≤ q ∨ q = q0) := by
  refine Met.ofW (cc := kc K_J7_copyOf_59c91) (maxL := 3) (ret := some (.array .int)) (by decide +kernel) rfl ?_
  intro p e s m1 args below meth c s₁ B hml hv
  obtain ⟨rfl, hsz, hP, hK⟩ := hv
  have hx := B.exec
  have hb := B.bytes
  have hr := B.returns
  have hts := atoms_spec (ws := kws K_J7_copyOf_59c91) B.pre
  have hg : ∀ w ∈ gtbl, w.before _ s = true := fun w hw => hts w (List.mem_cons_of_mem _ hw)
  have hown : s.vm.findClass RJ7 = some m1.cls := findClass_of_methodNamed B.named
  have hlocks := B.notSynchronized
  have hD : va_D (fun q => sz ≤ q ∨ q = q0) [(q0, iA g 0 n f)] := by
    refine ⟨fun i j x y hi hj _ => ?_, fun k q hk => ?_⟩
    · have h1 := (List.getElem?_eq_some_iff.mp hi).1
      have h2 := (List.getElem?_eq_some_iff.mp hj).1
      simp at h1 h2
      omega
    · match k, hk with
      | 0, hk => cases hk; exact Or.inr rfl
  have hS : va_S (fun q => sz ≤ q ∨ q = q0) s.heap s.heap [] := va_S.rf
  have hl := lv_entry ([.ref q0, .int (nI m)]) (n := 3) (Nat.le_of_ble_eq_true rfl)
  rw [lg_entry_eq]
  generalize (lg_sl ([.ref q0, .int (nI m)]) ++ List.replicate (3 - (lg_sl ([.ref q0, .int (nI m)])).length) Slot.unset).toArray = ls at hl ⊢
  have hl : lv_has ls 3 [(0, .ref q0), (1, .int (nI m))] := hl
  have hle : nI n ≤ nI m := nI_le (by omega) (by omega)
  refine lv_iload_n hx hb (dG D_J7_copyOf_59c91 0 rfl) rfl (lv_at hl 1 rfl) ?_
  refine lv_aload_n hx hb (dG D_J7_copyOf_59c91 1 rfl) rfl (lv_at hl 0 rfl) ?_
  refine va_alen hx hb hK hP 0 0 (v := nI n) rfl rfl rfl (dG D_J7_copyOf_59c91 2 rfl) ?_
  refine lv_icmp_ne (tgt := 14) hx hb (dG D_J7_copyOf_59c91 3 rfl) (by decide) (fun c_3 => ?_) (fun c_3 => absurd ((nI_eq (by omega) (by omega)).mp c_3) (by omega))
  refine lv_iload_n hx hb (dG D_J7_copyOf_59c91 8 rfl) rfl (lv_at hl 1 rfl) ?_
  refine va_newa (atype := .int) hx hb (hg _ w_57) (ty := .int) rfl hK hP hD hS (fun q hq => Or.inl (by omega)) (n := nI m) (N' := m) (a0 := (m, .inl (fun _ => 0))) (fun cA => rfl) (nI_pos (by omega)) (nI_clamp (by omega)) (by show m * 4 ≤ _; omega) (Nat.le_refl 1) (by show 0 + m ≤ m; omega) (dG D_J7_copyOf_59c91 9 rfl) (fun a cA H hK1 hP hD hS => ?_)
  have hcA : cA = gc g 0 := by
    have e1 := (hK1.2 6 (cA, .int) rfl).2
    have e2 := (hK.2 0 (gc g 0, .int) rfl).2
    have e3 : s.vm.findClass ("[" ++ FieldType.int.toString) = some cA := e1
    have e4 : s.vm.findClass ("[" ++ FieldType.int.toString) = some (gc g 0) := e2
    rw [e3] at e4
    exact Option.some.inj e4
  subst hcA
  have ha : sz ≤ a := by
    rcases hD.2 1 _ rfl with h | h
    · exact h
    · exact absurd (hD.1 0 1 _ _ rfl rfl h.symm) (by decide)
  refine lv_astore_n (lv' := [(2, .ref a), (0, .ref q0), (1, .int (nI m))]) hx hb (dG D_J7_copyOf_59c91 10 rfl) rfl hl (by decide) rfl (fun ls hl => ?_)
  refine lv_aload_n hx hb (dG D_J7_copyOf_59c91 11 rfl) rfl (lv_at hl 1 rfl) ?_
  refine lv_iconst (v := 0) hx hb (dG D_J7_copyOf_59c91 12 rfl) (by decide) ?_
  refine lv_aload_n hx hb (dG D_J7_copyOf_59c91 13 rfl) rfl (lv_at hl 0 rfl) ?_
  refine lv_iconst (v := 0) hx hb (dG D_J7_copyOf_59c91 14 rfl) (by decide) ?_
  refine lv_aload_n hx hb (dG D_J7_copyOf_59c91 15 rfl) rfl (lv_at hl 1 rfl) ?_
  refine va_alen hx hb hK hP 0 0 (v := nI n) rfl rfl rfl (dG D_J7_copyOf_59c91 16 rfl) ?_
  refine lv_iload_n hx hb (dG D_J7_copyOf_59c91 17 rfl) rfl (lv_at hl 2 rfl) ?_
  refine va_mmin hx hb (hml.trans hl.1.symm) hown (hg _ w_513) (hg _ w_139) (hg _ w_12) (hg _ w_140) (Nat.le_of_ble_eq_true rfl) (Nat.le_of_ble_eq_true rfl) (Nat.le_refl 1) (by show 0 + m ≤ m; omega) (dG D_J7_copyOf_59c91 18 rfl) ?_
  rw [if_neg (show ¬ nI m < nI n from Int32.not_lt.mpr hle)]
  refine va_copyi hx hb (hml.trans hl.1.symm) hown (hg _ w_514) (hg _ w_516) (hg _ w_515) (hg _ w_15) hK hP hD hS 0 1 0 0 rfl rfl rfl rfl rfl (by decide) (by decide) (nI_pos (by omega)) (by rw [nI_clamp (by omega)]; exact Nat.le_of_eq (Nat.zero_add n)) (by rw [nI_clamp (by omega)]; show 0 + n ≤ m; omega) (fun i _ => rfl) (Nat.le_of_ble_eq_true rfl) (Nat.le_of_ble_eq_true rfl) (dG D_J7_copyOf_59c91 19 rfl) (fun H locs hP hD hS => ?_)
  rw [nI_clamp (show n < 2 ^ 31 by omega)] at hP
  refine lv_aload_n hx hb (dG D_J7_copyOf_59c91 20 rfl) rfl (lv_at hl 0 rfl) ?_
  refine W.widen (k := 1) (n := m) (Nat.le_refl 1) (by omega) ?_
  exact W.aret hx hb (v := .ref a) hr (Or.inr ⟨_, rfl⟩) (Or.inr ⟨a, rfl⟩) (fun t ht hW => ⟨⟨(), a, rfl, trivial, ha, by rw [ht]; exact hP⟩, hS.F ht⟩) hS.2.2 (dG D_J7_copyOf_59c91 21 rfl)
def upr (S : St) (v : Nat) (f : Nat → Int32) : St := fun w j => if w = v then f j else S w j

def growC5 (C : St) (m : Nat) : St := upr (up C 27 0 (nI m)) 28 (va_cpy (C 28) (fun _ => 0) 0 0 (cap C))
theorem growC5_row {C : St} {m w : Nat} (h1 : w ≠ 27) (h2 : w ≠ 28) : growC5 C m w = C w := by
  funext j
  simp [growC5, upr, up, h1, h2]
theorem ent_grow5 {g : GT} {h : Nat × Nat} {C M : St} {o : Int64} {m a j : Nat} (h4 : j ≠ 4) (h5 : j ≠ 5) : ent g (a, h.2) (growC5 C m) M o j = ent g h C M o j := by
  have r : ∀ w, w ≠ 27 → w ≠ 28 → growC5 C m w = C w := fun w q1 q2 => growC5_row q1 q2
  have r0 : ∀ i, growC5 C m (50 + 3 * i) = C (50 + 3 * i) := fun i => r _ (by omega) (by omega)
  have r1 : ∀ i, growC5 C m (51 + 3 * i) = C (51 + 3 * i) := fun i => r _ (by omega) (by omega)
  have r2 : ∀ i, growC5 C m (52 + 3 * i) = C (52 + 3 * i) := fun i => r _ (by omega) (by omega)
  unfold ent
  simp only [nodeE, cellE, txE, txO, capv, r0, r1, r2, r 0 (by decide) (by decide), r 1 (by decide) (by decide), r 2 (by decide) (by decide), r 3 (by decide) (by decide), r 4 (by decide) (by decide), r 5 (by decide) (by decide), r 6 (by decide) (by decide), r 7 (by decide) (by decide), r 8 (by decide) (by decide), r 9 (by decide) (by decide), r 10 (by decide) (by decide), r 11 (by decide) (by decide), r 12 (by decide) (by decide), r 13 (by decide) (by decide), r 14 (by decide) (by decide), r 15 (by decide) (by decide), r 16 (by decide) (by decide), r 17 (by decide) (by decide), r 18 (by decide) (by decide), r 19 (by decide) (by decide), r 20 (by decide) (by decide), r 21 (by decide) (by decide), r 22 (by decide) (by decide), r 26 (by decide) (by decide), r 29 (by decide) (by decide), r 30 (by decide) (by decide), r 31 (by decide) (by decide), r 32 (by decide) (by decide), r 33 (by decide) (by decide), r 34 (by decide) (by decide)]
  split
  · unfold fixE
    split <;> first | rfl | exact absurd rfl h4 | exact absurd rfl h5
  · rfl
section GROW5
variable {g : GT} {K : MK} {R : Room} {Qf : QT} {kb nb nt : Nat} {h : Nat × Nat} {C M : St} {o : Int64} {pc : Nat} {lv : List (Nat × Value)} {st : List Value}
set_option maxHeartbeats 4000000 in
theorem V_copy5 {m : Nat} (ho : ko K = RX1) (hd : decode (kc K) pc = .ok (.invokestatic 31, 3)) (hd2 : decode (kc K) (pc + 3) = .ok (.putfield 9, 3)) (hnm : cap C < m) (hm : m < 1000000) (hro : kf K_J7_copyOf_59c91 + 1 ≤ R.frames ∧ 8 + (kL K_J7_copyOf_59c91 + 11) + klo K_J7_copyOf_59c91 ≤ R.locals) (hcs : kb + 1 ≤ R.cells ∧ nb + m ≤ R.slots) (hcat : ((Value.ref (ad g 4) :: st).map fun v => v.category).sum ≤ 8)
    (k : ∀ h1, V g K R Qf (kb + 1) (nb + m) nt h1 (growC5 C m) M o (pc + 6) lv st) : V g K R Qf kb nb nt h C M o pc lv (.int (nI m) :: .ref h.1 :: .ref (ad g 4) :: st) := by
  intro p e s m1 args below meth c H locs k1 n1 ls X h1 h2 hR hS hl hc
  obtain ⟨x1, x2, x3, x4, x5, x6, x7, x8, x9⟩ := id X
  obtain ⟨l1, l3, l4, l5, l6⟩ := lk_X1_31
  have hz0 : ∀ j, j < 73 + 4 * nt → hp g h j < H.size := fun j hj => (hR.1 j _ (wld_at hj)).lt
  have hN : ∀ j, j < 73 + 4 * nt → gA g (hp g h j) := fun j hj => hR.2.2 j _ (wld_at hj)
  have e5 : ent g h C M o 5 = iA g 0 (cap C) (C 28) := ent_fix (by decide)
  have a5 := hR.1 5 _ (wld_at (show 5 < 73 + 4 * nt by omega))
  rw [e5] at a5
  have h5 : va_P (gD g) vwCl [(h.1, iA g 0 (cap C) (C 28))] H := by
    intro j q hj
    match j, hj with
    | 0, hj => cases hj; exact a5
  have x5' : s.vm.findClass RX1 = some m1.cls := by rw [← ho]; exact x5
  have hcb := callB_of (R := R) (own := RX1) (index := 31) (rm := kR K_J7_copyOf_59c91 1 m) (mc := 1) (ms := m) 2 x6 (good_kws l5) rfl rfl rfl (x6 _ l4) (x6 _ l1) l6 hro
  have hq0 : h.1 < H.size := hz0 5 (by omega)
  have hrun := va_runS (g := F0 m1 pc ls (.int (nI m) :: .ref h.1 :: .ref (ad g 4) :: st)) (l := gl g) (H := H) (locs := locs) (cells := k1) (slots := n1) (e := e) (below := below) (meth := meth) (rest := .ref (ad g 4) :: st) (As := [.ref h.1, .int (nI m)]) ⟨x1, x2, x4, x5', x6⟩ (ok_copyOf (g := g) (f := C 28) hnm hm H.size hq0) ⟨hcb, x6 _ l3⟩ ⟨fun a U j mk q => ⟨q.1, q.2.1, q.2.2.1, va_K.moved (u := U) (U := U.calling j mk a) (Vm.Alike.refl U.vm) q.2.2.2⟩, fun U hU hW => ⟨rfl, by rw [hU], by rw [hU]; exact h5, va_K.moved hW.alike x9.1⟩⟩ rfl rfl hl.1 rfl (lv_room hcat) hd ⟨by omega, by omega⟩
  have hsz : gN g ≤ H.size := Nat.le_trans (hN 0 (by omega)) (Nat.le_of_lt (hz0 0 (by omega)))
  refine va_callr hrun hS (fun q hq z => ?_) (fun q z => ?_) (fun u a t H1 locs1 ht hvm hpo hB hz hk hS1 => ?_)
  · rcases z with z | z
    · exact absurd z (by omega)
    · rw [z]; exact hN 5 (by omega)
  · rcases z with z | z
    · exact Nat.le_trans hsz z
    · rw [z]; exact hN 5 (by omega)
  obtain ⟨ha, hPa⟩ := hB
  rw [ht] at hPa
  have hPw : va_P (gD g) vwCl (wld g nt h C M o) H1 := by
    intro j q hj
    have hjl : j < 73 + 4 * nt := by have := (List.getElem?_eq_some_iff.mp hj).1; simpa [wld] using this
    by_cases e : j = 5
    · subst e
      have e6 := hj.symm.trans (wld_at hjl)
      rw [e5] at e6
      cases e6
      exact hPa 0 _ rfl
    · refine (hR.1 j q hj).kept (hk q.1 (hR.1 j q hj).lt ?_)
      rintro (z | z)
      · exact absurd (hR.1 j q hj).lt (by omega)
      · exact e (hR.2.1 j 5 q _ hj (wld_at (by omega)) z)
  have hP1 : va_P (gD g) vwCl [(a, iA g 0 m (va_cpy (C 28) (fun _ => 0) 0 0 (cap C)))] H1 := by
    intro j q hj
    match j, hj with
    | 0, hj => cases hj; exact hPa 1 _ rfl
  have hD1 : va_D (gA g) [(a, iA g 0 m (va_cpy (C 28) (fun _ => 0) 0 0 (cap C)))] := by
    refine ⟨fun i j x y hi hj _ => ?_, fun j q hj => ?_⟩
    · have q1 := (List.getElem?_eq_some_iff.mp hi).1
      have q2 := (List.getElem?_eq_some_iff.mp hj).1
      simp at q1 q2
      omega
    · match j, hj with
      | 0, hj => cases hj; exact Nat.le_trans hsz ha
  have hlen : (wld g nt h C M o).length = 73 + 4 * nt := by simp [wld]
  have hD2 := va_D.app hR.2 hD1 (fun i j x y hi hj q => by
    have q1 := (hR.1 i x hi).lt
    match j, hj with
    | 0, hj => cases hj; have q2 : x.1 = a := q; omega)
  have hP2 := va_P.app hPw hP1
  have e4 : ent g h C M o 4 = .inr (1, [.ref h.1, .ref h.2, .int (C 26 0), .ref (ad g 7), .int (C 31 0), .ref (ad g 8)]) := ent_fix (by decide)
  refine va_put (A := gA g) (ci := 1) (v := .ref a) (ty := .array .int) (C := RX1) (T := TX1) (N := 6) x1 x2 x6 uin_1 tyX1 tyX1_ok nmX1 x5' x9.1 hP2 hD2 hS1 4 (fs := [.ref h.1, .ref h.2, .int (C 26 0), .ref (ad g 7), .int (C 31 0), .ref (ad g 8)]) (by rw [List.getElem?_append_left (by omega), wld_at (by omega), e4, hp_ad (by decide) (by decide)]) rfl 0 (by decide) (x6 _ w_38) (fun _ q => q) rfl (by decide +kernel) rfl rfl (Nat.le_of_ble_eq_true rfl) hd2 (fun H2 locs2 hP3 hD3 hS3 => ?_)
  have key : ∀ j, j < 73 + 4 * nt → ∃ i, ((wld g nt h C M o ++ [(a, iA g 0 m (va_cpy (C 28) (fun _ => 0) 0 0 (cap C)))]).set 4 (ad g 4, .inr (1, [.ref h.1, .ref h.2, .int (C 26 0), .ref (ad g 7), .int (C 31 0), .ref (ad g 8)].set 0 (.ref a))))[i]? = some (hp g (a, h.2) j, ent g (a, h.2) (growC5 C m) M o j) ∧ (i = if j = 5 then 73 + 4 * nt else j) := by
    intro j hj
    by_cases e : j = 5
    · subst e
      refine ⟨73 + 4 * nt, ?_, by rw [if_pos rfl]⟩
      rw [List.getElem?_set_ne (by omega), List.getElem?_append_right (by omega), hlen, Nat.sub_self]
      have e7 : ent g (a, h.2) (growC5 C m) M o 5 = iA g 0 m (va_cpy (C 28) (fun _ => 0) 0 0 (cap C)) := by
        have c1 : cap (growC5 C m) = m := by
          show (nI m).toNatClampNeg = m
          exact nI_clamp (by omega)
        have c2 : growC5 C m 28 = va_cpy (C 28) (fun _ => 0) 0 0 (cap C) := rfl
        rw [ent_fix (by decide)]
        show iA g 0 (cap (growC5 C m)) (growC5 C m 28) = _
        rw [c1, c2]
      rw [e7]
      rfl
    · refine ⟨j, ?_, by rw [if_neg e]⟩
      by_cases e8 : j = 4
      · subst e8
        rw [List.getElem?_set_self (by simp [hlen]; omega), hp_ad (by decide) (by decide), ent_fix (by decide)]
        rfl
      · rw [List.getElem?_set_ne (fun q => e8 q.symm), List.getElem?_append_left (by omega), wld_at hj, ent_grow5 (h := h) e8 e]
        have e9 : hp g (a, h.2) j = hp g h j := by simp [hp, e]
        rw [e9]
  have hRep : Rep g nt (a, h.2) (growC5 C m) M o H2 := by
    refine ⟨fun j q hj => ?_, fun i j x y hi hj q => ?_, fun j q hj => ?_⟩
    · have hjl : j < 73 + 4 * nt := by have := (List.getElem?_eq_some_iff.mp hj).1; simpa [wld] using this
      obtain ⟨i, h7, -⟩ := key j hjl
      rw [wld_at hjl] at hj
      cases hj
      exact hP3 i _ h7
    · have hil : i < 73 + 4 * nt := by have := (List.getElem?_eq_some_iff.mp hi).1; simpa [wld] using this
      have hjl : j < 73 + 4 * nt := by have := (List.getElem?_eq_some_iff.mp hj).1; simpa [wld] using this
      obtain ⟨i1, a1, b1⟩ := key i hil
      obtain ⟨j1, a2, b2⟩ := key j hjl
      rw [wld_at hil] at hi
      rw [wld_at hjl] at hj
      cases hi
      cases hj
      have e10 := hD3.1 i1 j1 _ _ a1 a2 q
      rw [b1, b2] at e10
      split at e10 <;> split at e10 <;> omega
    · have hjl : j < 73 + 4 * nt := by have := (List.getElem?_eq_some_iff.mp hj).1; simpa [wld] using this
      obtain ⟨i, h7, -⟩ := key j hjl
      rw [wld_at hjl] at hj
      cases hj
      exact hD3.2 i _ h7
  exact k (a, h.2) p e s m1 args below meth c H2 locs2 (k1 + 1) (n1 + m) ls X (by omega) (by omega) hRep hS3 hl hc
end GROW5

def growC6 (C : St) (m : Nat) : St := upr (up C 34 0 (nI m)) 29 (va_cpy (C 29) (fun _ => 0) 0 0 (capv C))
theorem growC6_row {C : St} {m w : Nat} (h1 : w ≠ 34) (h2 : w ≠ 29) : growC6 C m w = C w := by
  funext j
  simp [growC6, upr, up, h1, h2]
theorem ent_grow6 {g : GT} {h : Nat × Nat} {C M : St} {o : Int64} {m a j : Nat} (h4 : j ≠ 4) (h5 : j ≠ 6) : ent g (h.1, a) (growC6 C m) M o j = ent g h C M o j := by
  have r : ∀ w, w ≠ 34 → w ≠ 29 → growC6 C m w = C w := fun w q1 q2 => growC6_row q1 q2
  have r0 : ∀ i, growC6 C m (50 + 3 * i) = C (50 + 3 * i) := fun i => r _ (by omega) (by omega)
  have r1 : ∀ i, growC6 C m (51 + 3 * i) = C (51 + 3 * i) := fun i => r _ (by omega) (by omega)
  have r2 : ∀ i, growC6 C m (52 + 3 * i) = C (52 + 3 * i) := fun i => r _ (by omega) (by omega)
  unfold ent
  simp only [nodeE, cellE, txE, txO, cap, r0, r1, r2, r 0 (by decide) (by decide), r 1 (by decide) (by decide), r 2 (by decide) (by decide), r 3 (by decide) (by decide), r 4 (by decide) (by decide), r 5 (by decide) (by decide), r 6 (by decide) (by decide), r 7 (by decide) (by decide), r 8 (by decide) (by decide), r 9 (by decide) (by decide), r 10 (by decide) (by decide), r 11 (by decide) (by decide), r 12 (by decide) (by decide), r 13 (by decide) (by decide), r 14 (by decide) (by decide), r 15 (by decide) (by decide), r 16 (by decide) (by decide), r 17 (by decide) (by decide), r 18 (by decide) (by decide), r 19 (by decide) (by decide), r 20 (by decide) (by decide), r 21 (by decide) (by decide), r 22 (by decide) (by decide), r 26 (by decide) (by decide), r 27 (by decide) (by decide), r 28 (by decide) (by decide), r 30 (by decide) (by decide), r 31 (by decide) (by decide), r 32 (by decide) (by decide), r 33 (by decide) (by decide)]
  split
  · unfold fixE
    split <;> first | rfl | exact absurd rfl h4 | exact absurd rfl h5
  · rfl
section GROW6
variable {g : GT} {K : MK} {R : Room} {Qf : QT} {kb nb nt : Nat} {h : Nat × Nat} {C M : St} {o : Int64} {pc : Nat} {lv : List (Nat × Value)} {st : List Value}
set_option maxHeartbeats 4000000 in
theorem V_copy6 {m : Nat} (ho : ko K = RX1) (hd : decode (kc K) pc = .ok (.invokestatic 31, 3)) (hd2 : decode (kc K) (pc + 3) = .ok (.putfield 15, 3)) (hnm : capv C < m) (hm : m < 1000000) (hro : kf K_J7_copyOf_59c91 + 1 ≤ R.frames ∧ 8 + (kL K_J7_copyOf_59c91 + 11) + klo K_J7_copyOf_59c91 ≤ R.locals) (hcs : kb + 1 ≤ R.cells ∧ nb + m ≤ R.slots) (hcat : ((Value.ref (ad g 4) :: st).map fun v => v.category).sum ≤ 8)
    (k : ∀ h1, V g K R Qf (kb + 1) (nb + m) nt h1 (growC6 C m) M o (pc + 6) lv st) : V g K R Qf kb nb nt h C M o pc lv (.int (nI m) :: .ref h.2 :: .ref (ad g 4) :: st) := by
  intro p e s m1 args below meth c H locs k1 n1 ls X h1 h2 hR hS hl hc
  obtain ⟨x1, x2, x3, x4, x5, x6, x7, x8, x9⟩ := id X
  obtain ⟨l1, l3, l4, l5, l6⟩ := lk_X1_31
  have hz0 : ∀ j, j < 73 + 4 * nt → hp g h j < H.size := fun j hj => (hR.1 j _ (wld_at hj)).lt
  have hN : ∀ j, j < 73 + 4 * nt → gA g (hp g h j) := fun j hj => hR.2.2 j _ (wld_at hj)
  have e5 : ent g h C M o 6 = iA g 0 (capv C) (C 29) := ent_fix (by decide)
  have a5 := hR.1 6 _ (wld_at (show 6 < 73 + 4 * nt by omega))
  rw [e5] at a5
  have h5 : va_P (gD g) vwCl [(h.2, iA g 0 (capv C) (C 29))] H := by
    intro j q hj
    match j, hj with
    | 0, hj => cases hj; exact a5
  have x5' : s.vm.findClass RX1 = some m1.cls := by rw [← ho]; exact x5
  have hcb := callB_of (R := R) (own := RX1) (index := 31) (rm := kR K_J7_copyOf_59c91 1 m) (mc := 1) (ms := m) 2 x6 (good_kws l5) rfl rfl rfl (x6 _ l4) (x6 _ l1) l6 hro
  have hq0 : h.2 < H.size := hz0 6 (by omega)
  have hrun := va_runS (g := F0 m1 pc ls (.int (nI m) :: .ref h.2 :: .ref (ad g 4) :: st)) (l := gl g) (H := H) (locs := locs) (cells := k1) (slots := n1) (e := e) (below := below) (meth := meth) (rest := .ref (ad g 4) :: st) (As := [.ref h.2, .int (nI m)]) ⟨x1, x2, x4, x5', x6⟩ (ok_copyOf (g := g) (f := C 29) hnm hm H.size hq0) ⟨hcb, x6 _ l3⟩ ⟨fun a U j mk q => ⟨q.1, q.2.1, q.2.2.1, va_K.moved (u := U) (U := U.calling j mk a) (Vm.Alike.refl U.vm) q.2.2.2⟩, fun U hU hW => ⟨rfl, by rw [hU], by rw [hU]; exact h5, va_K.moved hW.alike x9.1⟩⟩ rfl rfl hl.1 rfl (lv_room hcat) hd ⟨by omega, by omega⟩
  have hsz : gN g ≤ H.size := Nat.le_trans (hN 0 (by omega)) (Nat.le_of_lt (hz0 0 (by omega)))
  refine va_callr hrun hS (fun q hq z => ?_) (fun q z => ?_) (fun u a t H1 locs1 ht hvm hpo hB hz hk hS1 => ?_)
  · rcases z with z | z
    · exact absurd z (by omega)
    · rw [z]; exact hN 6 (by omega)
  · rcases z with z | z
    · exact Nat.le_trans hsz z
    · rw [z]; exact hN 6 (by omega)
  obtain ⟨ha, hPa⟩ := hB
  rw [ht] at hPa
  have hPw : va_P (gD g) vwCl (wld g nt h C M o) H1 := by
    intro j q hj
    have hjl : j < 73 + 4 * nt := by have := (List.getElem?_eq_some_iff.mp hj).1; simpa [wld] using this
    by_cases e : j = 6
    · subst e
      have e6 := hj.symm.trans (wld_at hjl)
      rw [e5] at e6
      cases e6
      exact hPa 0 _ rfl
    · refine (hR.1 j q hj).kept (hk q.1 (hR.1 j q hj).lt ?_)
      rintro (z | z)
      · exact absurd (hR.1 j q hj).lt (by omega)
      · exact e (hR.2.1 j 6 q _ hj (wld_at (by omega)) z)
  have hP1 : va_P (gD g) vwCl [(a, iA g 0 m (va_cpy (C 29) (fun _ => 0) 0 0 (capv C)))] H1 := by
    intro j q hj
    match j, hj with
    | 0, hj => cases hj; exact hPa 1 _ rfl
  have hD1 : va_D (gA g) [(a, iA g 0 m (va_cpy (C 29) (fun _ => 0) 0 0 (capv C)))] := by
    refine ⟨fun i j x y hi hj _ => ?_, fun j q hj => ?_⟩
    · have q1 := (List.getElem?_eq_some_iff.mp hi).1
      have q2 := (List.getElem?_eq_some_iff.mp hj).1
      simp at q1 q2
      omega
    · match j, hj with
      | 0, hj => cases hj; exact Nat.le_trans hsz ha
  have hlen : (wld g nt h C M o).length = 73 + 4 * nt := by simp [wld]
  have hD2 := va_D.app hR.2 hD1 (fun i j x y hi hj q => by
    have q1 := (hR.1 i x hi).lt
    match j, hj with
    | 0, hj => cases hj; have q2 : x.1 = a := q; omega)
  have hP2 := va_P.app hPw hP1
  have e4 : ent g h C M o 4 = .inr (1, [.ref h.1, .ref h.2, .int (C 26 0), .ref (ad g 7), .int (C 31 0), .ref (ad g 8)]) := ent_fix (by decide)
  refine va_put (A := gA g) (ci := 1) (v := .ref a) (ty := .array .int) (C := RX1) (T := TX1) (N := 6) x1 x2 x6 uin_1 tyX1 tyX1_ok nmX1 x5' x9.1 hP2 hD2 hS1 4 (fs := [.ref h.1, .ref h.2, .int (C 26 0), .ref (ad g 7), .int (C 31 0), .ref (ad g 8)]) (by rw [List.getElem?_append_left (by omega), wld_at (by omega), e4, hp_ad (by decide) (by decide)]) rfl 1 (by decide) (x6 _ w_39) (fun _ q => q) rfl (by decide +kernel) rfl rfl (Nat.le_of_ble_eq_true rfl) hd2 (fun H2 locs2 hP3 hD3 hS3 => ?_)
  have key : ∀ j, j < 73 + 4 * nt → ∃ i, ((wld g nt h C M o ++ [(a, iA g 0 m (va_cpy (C 29) (fun _ => 0) 0 0 (capv C)))]).set 4 (ad g 4, .inr (1, [.ref h.1, .ref h.2, .int (C 26 0), .ref (ad g 7), .int (C 31 0), .ref (ad g 8)].set 1 (.ref a))))[i]? = some (hp g (h.1, a) j, ent g (h.1, a) (growC6 C m) M o j) ∧ (i = if j = 6 then 73 + 4 * nt else j) := by
    intro j hj
    by_cases e : j = 6
    · subst e
      refine ⟨73 + 4 * nt, ?_, by rw [if_pos rfl]⟩
      rw [List.getElem?_set_ne (by omega), List.getElem?_append_right (by omega), hlen, Nat.sub_self]
      have e7 : ent g (h.1, a) (growC6 C m) M o 6 = iA g 0 m (va_cpy (C 29) (fun _ => 0) 0 0 (capv C)) := by
        have c1 : capv (growC6 C m) = m := by
          show (nI m).toNatClampNeg = m
          exact nI_clamp (by omega)
        have c2 : growC6 C m 29 = va_cpy (C 29) (fun _ => 0) 0 0 (capv C) := rfl
        rw [ent_fix (by decide)]
        show iA g 0 (capv (growC6 C m)) (growC6 C m 29) = _
        rw [c1, c2]
      rw [e7]
      rfl
    · refine ⟨j, ?_, by rw [if_neg e]⟩
      by_cases e8 : j = 4
      · subst e8
        rw [List.getElem?_set_self (by simp [hlen]; omega), hp_ad (by decide) (by decide), ent_fix (by decide)]
        rfl
      · rw [List.getElem?_set_ne (fun q => e8 q.symm), List.getElem?_append_left (by omega), wld_at hj, ent_grow6 (h := h) e8 e]
        have e9 : hp g (h.1, a) j = hp g h j := by simp [hp, e]
        rw [e9]
  have hRep : Rep g nt (h.1, a) (growC6 C m) M o H2 := by
    refine ⟨fun j q hj => ?_, fun i j x y hi hj q => ?_, fun j q hj => ?_⟩
    · have hjl : j < 73 + 4 * nt := by have := (List.getElem?_eq_some_iff.mp hj).1; simpa [wld] using this
      obtain ⟨i, h7, -⟩ := key j hjl
      rw [wld_at hjl] at hj
      cases hj
      exact hP3 i _ h7
    · have hil : i < 73 + 4 * nt := by have := (List.getElem?_eq_some_iff.mp hi).1; simpa [wld] using this
      have hjl : j < 73 + 4 * nt := by have := (List.getElem?_eq_some_iff.mp hj).1; simpa [wld] using this
      obtain ⟨i1, a1, b1⟩ := key i hil
      obtain ⟨j1, a2, b2⟩ := key j hjl
      rw [wld_at hil] at hi
      rw [wld_at hjl] at hj
      cases hi
      cases hj
      have e10 := hD3.1 i1 j1 _ _ a1 a2 q
      rw [b1, b2] at e10
      split at e10 <;> split at e10 <;> omega
    · have hjl : j < 73 + 4 * nt := by have := (List.getElem?_eq_some_iff.mp hj).1; simpa [wld] using this
      obtain ⟨i, h7, -⟩ := key j hjl
      rw [wld_at hjl] at hj
      cases hj
      exact hD3.2 i _ h7
  exact k (h.1, a) p e s m1 args below meth c H2 locs2 (k1 + 1) (n1 + m) ls X (by omega) (by omega) hRep hS3 hl hc
end GROW6
end
section
/-! what holds of the class's cells in every run, and the history's changes -/
def ct2 (C : St) : Nat → Nat
  | 0 => 0
  | n + 1 => ct2 C n + (if C 15 n = 2 then 1 else 0)
theorem ct2_le {C : St} : ∀ {n : Nat}, ct2 C n ≤ n
  | 0 => Nat.le_refl 0
  | n + 1 => by
    have := ct2_le (C := C) (n := n)
    unfold ct2
    split <;> omega
theorem ct2_congr {C C' : St} (h : C' 15 = C 15) : ∀ {n : Nat}, ct2 C' n = ct2 C n
  | 0 => rfl
  | n + 1 => by
    unfold ct2
    rw [ct2_congr h, h]
theorem ct2_out {C : St} {x : Int32} {i : Nat} : ∀ {n : Nat}, n ≤ i → ct2 (up C 15 i x) n = ct2 C n
  | 0, _ => rfl
  | n + 1, h => by
    unfold ct2
    rw [ct2_out (by omega), up_ne (Or.inr (by omega))]
theorem ct2_set {C : St} {i : Nat} (h2 : C 15 i ≠ 2) : ∀ {n : Nat}, i < n → ct2 (up C 15 i 2) n = ct2 C n + 1
  | 0, h => absurd h (Nat.not_lt_zero i)
  | n + 1, h => by
    unfold ct2
    by_cases e : i = n
    · subst e
      rw [ct2_out (Nat.le_refl i), up_eq, if_pos rfl, if_neg h2]
    · rw [ct2_set h2 (by omega), up_ne (Or.inr (by omega))]
      omega
theorem ct2_keep {C : St} {x : Int32} {i : Nat} (h2 : C 15 i ≠ 2) (hx : x ≠ 2) : ∀ {n : Nat}, ct2 (up C 15 i x) n = ct2 C n
  | 0 => rfl
  | n + 1 => by
    unfold ct2
    rw [ct2_keep h2 hx]
    by_cases e : n = i
    · subst e
      rw [up_eq, if_neg hx, if_neg h2]
    · rw [up_ne (Or.inr e)]
theorem ct2_lt {C : St} {i : Nat} (h2 : C 15 i ≠ 2) {n : Nat} (h : i < n) : ct2 C n < n := by
  have h1 := ct2_set h2 h
  have h3 := ct2_le (C := up C 15 i 2) (n := n)
  omega
/-- the history: c changes, k committed -/
def WFh (nt : Nat) (C : St) (c k : Nat) : Prop := C 26 0 = nI c ∧ C 31 0 = nI k ∧ c ≤ 32 * k ∧ k = ct2 C nt ∧ c ≤ cap C ∧ cap C = capv C ∧ 32 ≤ cap C ∧ cap C ≤ 2560 ∧ ∀ q, q < k → tok nt (C 30 q)
def WF (nt : Nat) (C : St) : Prop := nt ≤ 40 ∧ C 10 0 = nI nt ∧ (∀ i, i < nt → C 33 i = nI i) ∧ (∀ i, i < nt → trv nt (C 19 i)) ∧ (∀ k, k < 32 → trv nt (C 6 k)) ∧ (∀ k, k < 32 → vp_in (C 4 k) 4) ∧ (∀ i, i < nt → vp_in (C 12 i) 4) ∧ ∃ c k, WFh nt C c k
theorem WF.n40 {nt : Nat} {C : St} (h : WF nt C) : nt ≤ 40 := h.1
theorem WF.b {nt : Nat} {C : St} (h : WF nt C) : C 10 0 = nI nt := h.2.1
theorem WF.x33 {nt : Nat} {C : St} (h : WF nt C) : ∀ i, i < nt → C 33 i = nI i := h.2.2.1
theorem WF.aw {nt : Nat} {C : St} (h : WF nt C) : ∀ i, i < nt → trv nt (C 19 i) := h.2.2.2.1
theorem WF.wo {nt : Nat} {C : St} (h : WF nt C) : ∀ k, k < 32 → trv nt (C 6 k) := h.2.2.2.2.1
theorem WF.wn {nt : Nat} {C : St} (h : WF nt C) : ∀ k, k < 32 → vp_in (C 4 k) 4 := h.2.2.2.2.2.1
theorem WF.wh {nt : Nat} {C : St} (h : WF nt C) : ∀ i, i < nt → vp_in (C 12 i) 4 := h.2.2.2.2.2.2.1
theorem WF.hi {nt : Nat} {C : St} (h : WF nt C) : ∃ c k, WFh nt C c k := h.2.2.2.2.2.2.2
theorem tok_nI {nt i : Nat} (h : i < nt) (hn : nt ≤ 40) : tok nt (nI i) := by
  refine ⟨nI_pos (by omega), ?_⟩
  rw [nI_clamp (by omega)]
  exact h
theorem WF.t33 {nt : Nat} {C : St} (h : WF nt C) : ∀ i, i < nt → tok nt (C 33 i) := fun i hi => by rw [h.x33 i hi]; exact tok_nI hi h.n40
theorem WF.congr {nt : Nat} {C C' : St} (h : WF nt C) (e4 : C' 4 = C 4) (e6 : C' 6 = C 6) (e10 : C' 10 = C 10) (e12 : C' 12 = C 12) (e15 : C' 15 = C 15) (e19 : C' 19 = C 19) (e26 : C' 26 = C 26) (e27 : C' 27 = C 27) (e30 : C' 30 = C 30) (e31 : C' 31 = C 31) (e33 : C' 33 = C 33) (e34 : C' 34 = C 34) : WF nt C' := by
  obtain ⟨h1, h2, h3, h4, h5, h6, h7, c, k, h8⟩ := h
  refine ⟨h1, by rw [e10]; exact h2, by rw [e33]; exact h3, by rw [e19]; exact h4, by rw [e6]; exact h5, by rw [e4]; exact h6, by rw [e12]; exact h7, c, k, ?_⟩
  obtain ⟨q1, q2, q3, q4, q5, q6, q7, q8, q9⟩ := h8
  refine ⟨by rw [e26]; exact q1, by rw [e31]; exact q2, q3, by rw [ct2_congr e15]; exact q4, ?_, ?_, ?_, ?_, by rw [e30]; exact q9⟩
  · unfold cap; rw [e27]; exact q5
  · unfold cap capv; rw [e27, e34]; exact q6
  · unfold cap; rw [e27]; exact q7
  · unfold cap; rw [e27]; exact q8
theorem WF_up {nt : Nat} {C : St} (h : WF nt C) {v i : Nat} {x : Int32} (hv : v ≠ 4 ∧ v ≠ 6 ∧ v ≠ 10 ∧ v ≠ 12 ∧ v ≠ 15 ∧ v ≠ 19 ∧ v ≠ 26 ∧ v ≠ 27 ∧ v ≠ 30 ∧ v ≠ 31 ∧ v ≠ 33 ∧ v ≠ 34) : WF nt (up C v i x) := h.congr (up_row (fun q => hv.1 q.symm)) (up_row (fun q => hv.2.1 q.symm)) (up_row (fun q => hv.2.2.1 q.symm)) (up_row (fun q => hv.2.2.2.1 q.symm)) (up_row (fun q => hv.2.2.2.2.1 q.symm)) (up_row (fun q => hv.2.2.2.2.2.1 q.symm)) (up_row (fun q => hv.2.2.2.2.2.2.1 q.symm)) (up_row (fun q => hv.2.2.2.2.2.2.2.1 q.symm)) (up_row (fun q => hv.2.2.2.2.2.2.2.2.1 q.symm)) (up_row (fun q => hv.2.2.2.2.2.2.2.2.2.1 q.symm)) (up_row (fun q => hv.2.2.2.2.2.2.2.2.2.2.1 q.symm)) (up_row (fun q => hv.2.2.2.2.2.2.2.2.2.2.2 q.symm))
theorem WF_up6 {nt : Nat} {C : St} (h : WF nt C) {i : Nat} {x : Int32} (hx : trv nt x) : WF nt (up C 6 i x) := by
  obtain ⟨h1, h2, h3, h4, h5, h6, h7, c, k, q1, q2, q3, q4, q5, q6, q7, q8, q9⟩ := h
  refine ⟨h1, h2, h3, ?_, ?_, h6, h7, c, k, q1, q2, q3, ?_, q5, q6, q7, q8, q9⟩
  · intro j hj; rw [up_ne (Or.inl (by decide))]; exact h4 j hj
  · intro j hj
    by_cases e : j = i
    · subst e; rw [up_eq]; exact hx
    · rw [up_ne (Or.inr e)]; exact h5 j hj
  · rw [ct2_congr (up_row (by decide))]; exact q4
theorem WF_up19 {nt : Nat} {C : St} (h : WF nt C) {i : Nat} {x : Int32} (hx : trv nt x) : WF nt (up C 19 i x) := by
  obtain ⟨h1, h2, h3, h4, h5, h6, h7, c, k, q1, q2, q3, q4, q5, q6, q7, q8, q9⟩ := h
  refine ⟨h1, h2, h3, ?_, ?_, h6, h7, c, k, q1, q2, q3, ?_, q5, q6, q7, q8, q9⟩
  · intro j hj
    by_cases e : j = i
    · subst e; rw [up_eq]; exact hx
    · rw [up_ne (Or.inr e)]; exact h4 j hj
  · intro j hj; rw [up_ne (Or.inl (by decide))]; exact h5 j hj
  · rw [ct2_congr (up_row (by decide))]; exact q4
theorem WF_up15 {nt : Nat} {C : St} (h : WF nt C) {i : Nat} {x : Int32} (h2 : C 15 i ≠ 2) (hx : x ≠ 2) : WF nt (up C 15 i x) := by
  obtain ⟨h1, h3, h4, h5, h6, h7, h8, c, k, q1, q2, q3, q4, q5, q6, q7, q8, q9⟩ := h
  exact ⟨h1, h3, h4, h5, h6, h7, h8, c, k, q1, q2, q3, by rw [ct2_keep h2 hx]; exact q4, q5, q6, q7, q8, q9⟩
theorem trv_null {nt : Nat} : trv nt (-1) := Or.inl rfl
-- the changes
def cn (C : St) : Nat := (C 26 0).toNatClampNeg
def km (C : St) : Nat := (C 31 0).toNatClampNeg
def grC (C : St) : St := if C 26 0 = nI (cap C) then growC6 (growC5 C (2 * cap C)) (2 * cap C) else C
theorem grC_row {C : St} {w : Nat} (h1 : w ≠ 27) (h2 : w ≠ 28) (h3 : w ≠ 34) (h4 : w ≠ 29) : grC C w = C w := by
  unfold grC
  split
  · rw [growC6_row h3 h4, growC5_row h1 h2]
  · rfl
def inS (ch v : Int32) : Nat → St → St
  | 0, C => up (up C 28 0 ch) 29 0 v
  | p + 1, C => if C 28 p ≤ ch then up (up C 28 (p + 1) ch) 29 (p + 1) v else inS ch v p (up (up C 28 (p + 1) (C 28 p)) 29 (p + 1) (C 29 p))
theorem inS_row {ch v : Int32} {w : Nat} (h1 : w ≠ 28) (h2 : w ≠ 29) : ∀ {p : Nat} {C : St}, inS ch v p C w = C w
  | 0, C => by unfold inS; rw [up_row h2, up_row h1]
  | p + 1, C => by
    unfold inS
    split
    · rw [up_row h2, up_row h1]
    · rw [inS_row h1 h2, up_row h2, up_row h1]
def addS (C : St) (st key v : Int32) : St := up (inS (32 * st + key) v (cn C) (grC C)) 26 0 (C 26 0 + 1)
theorem addS_row {C : St} {st key v : Int32} {w : Nat} (h0 : w ≠ 26) (h1 : w ≠ 27) (h2 : w ≠ 28) (h3 : w ≠ 34) (h4 : w ≠ 29) : addS C st key v w = C w := by
  unfold addS
  rw [up_row h0, inS_row h2 h4, grC_row h1 h2 h3 h4]
theorem addS_27 {C : St} {st key v : Int32} : addS C st key v 27 = grC C 27 := by
  unfold addS
  rw [up_row (by decide), inS_row (by decide) (by decide)]
theorem addS_34 {C : St} {st key v : Int32} : addS C st key v 34 = grC C 34 := by
  unfold addS
  rw [up_row (by decide), inS_row (by decide) (by decide)]
theorem growC5_27 {C : St} {m : Nat} : growC5 C m 27 0 = nI m := rfl
theorem growC6_34 {C : St} {m : Nat} : growC6 C m 34 0 = nI m := rfl
theorem cap_grC {C : St} {c : Nat} (hcn : C 26 0 = nI c) (hle : c ≤ cap C) (hb : cap C ≤ 100000) : cap (grC C) = if c = cap C then 2 * cap C else cap C := by
  unfold grC
  by_cases e : c = cap C
  · rw [if_pos (by rw [hcn, e]), if_pos e]
    show (growC6 (growC5 C (2 * cap C)) (2 * cap C) 27 0).toNatClampNeg = _
    rw [growC6_row (by decide) (by decide), growC5_27]
    exact nI_clamp (by omega)
  · rw [if_neg (fun q => e ((nI_eq (by omega) (by omega)).mp (hcn.symm.trans q))), if_neg e]
theorem capv_grC {C : St} {c : Nat} (hcn : C 26 0 = nI c) (hle : c ≤ cap C) (hv : cap C = capv C) (hb : cap C ≤ 100000) : capv (grC C) = if c = cap C then 2 * cap C else cap C := by
  unfold grC
  by_cases e : c = cap C
  · rw [if_pos (by rw [hcn, e]), if_pos e]
    show (growC6 (growC5 C (2 * cap C)) (2 * cap C) 34 0).toNatClampNeg = _
    rw [growC6_34]
    exact nI_clamp (by omega)
  · rw [if_neg (fun q => e ((nI_eq (by omega) (by omega)).mp (hcn.symm.trans q))), if_neg e]
    exact hv.symm
theorem cap_addS {C : St} {st key v : Int32} : cap (addS C st key v) = cap (grC C) := by
  unfold cap
  rw [addS_27]
theorem capv_addS {C : St} {st key v : Int32} : capv (addS C st key v) = capv (grC C) := by
  unfold capv
  rw [addS_34]
section B6
variable {g : GT} {nt : Nat} {C M : St} {o : Int64} {t : Int32}
theorem lp_addChange {st key v ch : Int32} {mc ms kb nb : Nat} (hk : kb ≤ mc) (hn : nb ≤ ms) : ∀ (p : Nat) {C : St} (_ : p < cap C) (_ : cap C = capv C) (_ : cap C ≤ 100000) (h : Nat × Nat), V g K_X1_addChange (kR K_X1_addChange mc ms) (qM g mc ms nt (fun v9 C9 M9 o9 => v9 = none ∧ C9 = up (inS ch v p C) 26 0 (inS ch v p C 26 0 + 1) ∧ M9 = M ∧ o9 = o) (fun _ _ _ _ => False)) kb nb nt h C M o 60 [(0, .ref (ad g 4)), (1, .int st), (2, .int key), (3, .int v), (4, .int ch), (5, .int (nI p))] [] := by
  intro p
  induction p with
  | zero =>
    intro C hp hv hcb h
    refine V_iload (dG D_X1_addChange 33 rfl) rfl ?_
    refine V_if_le (tgt := 117) (dG D_X1_addChange 34 rfl) (by decide) (fun c_62 => ?_) (fun c_62 => absurd (by decide) c_62)
    refine V_aload_n (dG D_X1_addChange 65 rfl) rfl ?_
    refine gf_X1_9 rfl (dG D_X1_addChange 66 rfl) ?_
    refine V_iload (dG D_X1_addChange 67 rfl) rfl ?_
    refine V_iload (dG D_X1_addChange 68 rfl) rfl ?_
    refine iast_ch (dG D_X1_addChange 69 rfl) (inr_nI (n := cap C) (j := 0) (by omega) (by omega)) ?_
    refine V_aload_n (dG D_X1_addChange 70 rfl) rfl ?_
    refine gf_X1_15 rfl (dG D_X1_addChange 71 rfl) ?_
    refine V_iload (dG D_X1_addChange 72 rfl) rfl ?_
    refine V_iload_n (dG D_X1_addChange 73 rfl) rfl ?_
    refine iast_va (dG D_X1_addChange 74 rfl) (inr_nI (n := capv C) (j := 0) (by omega) (by omega)) ?_
    refine V_aload_n (dG D_X1_addChange 75 rfl) rfl ?_
    refine V_dup (dG D_X1_addChange 76 rfl) rfl ?_
    refine gf_X1_27 rfl (dG D_X1_addChange 77 rfl) ?_
    refine V_iconst (v := 1) (dG D_X1_addChange 78 rfl) (by decide) ?_
    refine V_iadd (dG D_X1_addChange 79 rfl) ?_
    refine pf_X1_27 rfl (dG D_X1_addChange 80 rfl) ?_
    exact V_vret (dG D_X1_addChange 81 rfl) rfl hk hn ⟨rfl, rfl, rfl, rfl⟩
  | succ p ih =>
    intro C hp hv hcb h
    refine V_iload (dG D_X1_addChange 33 rfl) rfl ?_
    refine V_if_le (tgt := 117) (dG D_X1_addChange 34 rfl) (by decide) (fun c_62 => absurd c_62 (nI_nle (by omega) (by omega))) (fun c_62 => ?_)
    refine V_aload_n (dG D_X1_addChange 35 rfl) rfl ?_
    refine gf_X1_9 rfl (dG D_X1_addChange 36 rfl) ?_
    refine V_iload (dG D_X1_addChange 37 rfl) rfl ?_
    refine V_iconst (v := 1) (dG D_X1_addChange 38 rfl) (by decide) ?_
    refine V_isub (dG D_X1_addChange 39 rfl) ?_
    refine iald_ch (dG D_X1_addChange 40 rfl) (show inr (nI (p + 1) - 1) (cap C) p from inr_pred (by omega) (by omega)) ?_
    refine V_iload (dG D_X1_addChange 41 rfl) rfl ?_
    refine V_icmp_le (tgt := 117) (dG D_X1_addChange 42 rfl) (by decide) (fun c_76 => ?_) (fun c_76 => ?_)
    · skip
      refine V_aload_n (dG D_X1_addChange 65 rfl) rfl ?_
      refine gf_X1_9 rfl (dG D_X1_addChange 66 rfl) ?_
      refine V_iload (dG D_X1_addChange 67 rfl) rfl ?_
      refine V_iload (dG D_X1_addChange 68 rfl) rfl ?_
      refine iast_ch (dG D_X1_addChange 69 rfl) (show inr (nI (p + 1)) (cap C) (p + 1) from inr_nI (by omega) (by omega)) ?_
      refine V_aload_n (dG D_X1_addChange 70 rfl) rfl ?_
      refine gf_X1_15 rfl (dG D_X1_addChange 71 rfl) ?_
      refine V_iload (dG D_X1_addChange 72 rfl) rfl ?_
      refine V_iload_n (dG D_X1_addChange 73 rfl) rfl ?_
      refine iast_va (dG D_X1_addChange 74 rfl) (show inr (nI (p + 1)) (capv C) (p + 1) from inr_nI (by omega) (by omega)) ?_
      refine V_aload_n (dG D_X1_addChange 75 rfl) rfl ?_
      refine V_dup (dG D_X1_addChange 76 rfl) rfl ?_
      refine gf_X1_27 rfl (dG D_X1_addChange 77 rfl) ?_
      refine V_iconst (v := 1) (dG D_X1_addChange 78 rfl) (by decide) ?_
      refine V_iadd (dG D_X1_addChange 79 rfl) ?_
      refine pf_X1_27 rfl (dG D_X1_addChange 80 rfl) ?_
      exact V_vret (dG D_X1_addChange 81 rfl) rfl hk hn ⟨rfl, by rw [show inS ch v (p + 1) C = up (up C 28 (p + 1) ch) 29 (p + 1) v from by simp [inS, c_76]], rfl, rfl⟩
    · skip
      refine V_aload_n (dG D_X1_addChange 43 rfl) rfl ?_
      refine gf_X1_9 rfl (dG D_X1_addChange 44 rfl) ?_
      refine V_iload (dG D_X1_addChange 45 rfl) rfl ?_
      refine V_aload_n (dG D_X1_addChange 46 rfl) rfl ?_
      refine gf_X1_9 rfl (dG D_X1_addChange 47 rfl) ?_
      refine V_iload (dG D_X1_addChange 48 rfl) rfl ?_
      refine V_iconst (v := 1) (dG D_X1_addChange 49 rfl) (by decide) ?_
      refine V_isub (dG D_X1_addChange 50 rfl) ?_
      refine iald_ch (dG D_X1_addChange 51 rfl) (show inr (nI (p + 1) - 1) (cap C) p from inr_pred (by omega) (by omega)) ?_
      refine iast_ch (dG D_X1_addChange 52 rfl) (show inr (nI (p + 1)) (cap C) (p + 1) from inr_nI (by omega) (by omega)) ?_
      refine V_aload_n (dG D_X1_addChange 53 rfl) rfl ?_
      refine gf_X1_15 rfl (dG D_X1_addChange 54 rfl) ?_
      refine V_iload (dG D_X1_addChange 55 rfl) rfl ?_
      refine V_aload_n (dG D_X1_addChange 56 rfl) rfl ?_
      refine gf_X1_15 rfl (dG D_X1_addChange 57 rfl) ?_
      refine V_iload (dG D_X1_addChange 58 rfl) rfl ?_
      refine V_iconst (v := 1) (dG D_X1_addChange 59 rfl) (by decide) ?_
      refine V_isub (dG D_X1_addChange 60 rfl) ?_
      refine iald_va (dG D_X1_addChange 61 rfl) (show inr (nI (p + 1) - 1) (capv C) p from inr_pred (by omega) (by omega)) ?_
      refine iast_va (dG D_X1_addChange 62 rfl) (show inr (nI (p + 1)) (capv C) (p + 1) from inr_nI (by omega) (by omega)) ?_
      refine V_iinc (dG D_X1_addChange 63 rfl) rfl (dec1 _) (Nat.le_of_ble_eq_true rfl) ?_
      refine V_goto (tgt := 60) (dG D_X1_addChange 64 rfl) (by decide) ?_
      rw [show inS ch v (p + 1) C = inS ch v p (up (up C 28 (p + 1) (C 28 p)) 29 (p + 1) (C 29 p)) from by simp [inS, c_76]]
      refine ih ?_ ?_ ?_ h
      · show p < cap C; omega
      · exact hv
      · exact hcb
theorem ok_addChange {c : Nat} {st key v : Int32} (hcn : C 26 0 = nI c) (hle : c ≤ cap C) (hv : cap C = capv C) (hb : cap C ≤ 50000) (h32 : 32 ≤ cap C) : RET g K_X1_addChange (cap (addS C st key v) - cap C) (4 * (cap (addS C st key v) - cap C)) [.ref (ad g 4), .int st, .int key, .int v] nt C M o none (addS C st key v) M o := by
  refine MT_of (by decide +kernel) rfl rfl (Nat.le_of_ble_eq_true rfl) (by simp [cat_rf, cat_int, cat_ref]) (fun h => ?_)
  have hc1 := cap_grC hcn hle (by omega)
  have hc2 := capv_grC hcn hle hv (by omega)
  have hc3 : cap (addS C st key v) = cap (grC C) := cap_addS
  obtain ⟨mc, hmc⟩ : ∃ z, z = cap (addS C st key v) - cap C := ⟨_, rfl⟩
  rw [← hmc]
  have hadd : addS C st key v = up (inS (32 * st + key) v c (grC C)) 26 0 (inS (32 * st + key) v c (grC C) 26 0 + 1) := by rw [inS_row (by decide) (by decide), grC_row (by decide) (by decide) (by decide) (by decide)]; unfold addS cn; rw [show (C 26 0).toNatClampNeg = c from by rw [hcn, nI_clamp (by omega)]]
  refine V_aload_n (dG D_X1_addChange 0 rfl) rfl ?_
  refine gf_X1_27 rfl (dG D_X1_addChange 1 rfl) ?_
  refine V_aload_n (dG D_X1_addChange 2 rfl) rfl ?_
  refine gf_X1_9 rfl (dG D_X1_addChange 3 rfl) ?_
  rw [show (.ref h.1 : Value) = .ref (hp g h 5) from rfl]
  refine V_alen (n := 5) (nn := cap C) (f := C 28) (v := nI (cap C)) (dG D_X1_addChange 4 rfl) (by omega) (ent_fix (by decide)) rfl ?_
  refine V_icmp_ne (tgt := 46) (dG D_X1_addChange 5 rfl) (by decide) (fun c_9 => ?_) (fun c_9 => ?_)
  · have hg : grC C = C := by unfold grC; rw [if_neg c_9]
    have hcc : c ≠ cap C := fun q => c_9 (by rw [hcn, q])
    rw [if_neg hcc] at hc1 hc2
    refine V_bipush (v := 32) (dG D_X1_addChange 24 rfl) (by decide) ?_
    refine V_iload_n (dG D_X1_addChange 25 rfl) rfl ?_
    refine V_imul (dG D_X1_addChange 26 rfl) ?_
    refine V_iload_n (dG D_X1_addChange 27 rfl) rfl ?_
    refine V_iadd (dG D_X1_addChange 28 rfl) ?_
    refine V_istore (dG D_X1_addChange 29 rfl) (Nat.le_of_ble_eq_true rfl) ?_
    refine V_aload_n (dG D_X1_addChange 30 rfl) rfl ?_
    refine gf_X1_27 rfl (dG D_X1_addChange 31 rfl) ?_
    refine V_istore (dG D_X1_addChange 32 rfl) (Nat.le_of_ble_eq_true rfl) ?_
    rw [hadd, hg, hcn]
    exact lp_addChange (Nat.zero_le _) (Nat.zero_le _) c (by omega) hv (by omega) h
  · have hg : grC C = growC6 (growC5 C (2 * cap C)) (2 * cap C) := by unfold grC; rw [if_pos c_9]
    have hcc : c = cap C := (nI_eq (by omega) (by omega)).mp (hcn.symm.trans c_9)
    rw [if_pos hcc] at hc1 hc2
    refine V_aload_n (dG D_X1_addChange 6 rfl) rfl ?_
    refine V_aload_n (dG D_X1_addChange 7 rfl) rfl ?_
    refine gf_X1_9 rfl (dG D_X1_addChange 8 rfl) ?_
    refine V_iconst (v := 2) (dG D_X1_addChange 9 rfl) (by decide) ?_
    refine V_aload_n (dG D_X1_addChange 10 rfl) rfl ?_
    refine gf_X1_27 rfl (dG D_X1_addChange 11 rfl) ?_
    refine V_imul (dG D_X1_addChange 12 rfl) ?_
    rw [show (2 : Int32) * C 26 0 = nI (2 * cap C) from by rw [hcn, hcc]; exact pk_mul 2 _]
    refine V_copy5 rfl (dG D_X1_addChange 13 rfl) (dG D_X1_addChange 14 rfl) (by omega) (by omega) ⟨Nat.le_of_ble_eq_true rfl, Nat.le_of_ble_eq_true rfl⟩ ⟨show 0 + 1 ≤ mc by omega, show 0 + 2 * cap C ≤ 4 * mc by omega⟩ (Nat.le_of_ble_eq_true rfl) (fun h => ?_)
    refine V_aload_n (dG D_X1_addChange 15 rfl) rfl ?_
    refine V_aload_n (dG D_X1_addChange 16 rfl) rfl ?_
    refine gf_X1_15 rfl (dG D_X1_addChange 17 rfl) ?_
    refine V_iconst (v := 2) (dG D_X1_addChange 18 rfl) (by decide) ?_
    refine V_aload_n (dG D_X1_addChange 19 rfl) rfl ?_
    refine gf_X1_27 rfl (dG D_X1_addChange 20 rfl) ?_
    refine V_imul (dG D_X1_addChange 21 rfl) ?_
    rw [show (2 : Int32) * growC5 C (2 * cap C) 26 0 = nI (2 * cap C) from by rw [growC5_row (by decide) (by decide), hcn, hcc]; exact pk_mul 2 _]
    refine V_copy6 rfl (dG D_X1_addChange 22 rfl) (dG D_X1_addChange 23 rfl) (show capv C < 2 * cap C by omega) (by omega) ⟨Nat.le_of_ble_eq_true rfl, Nat.le_of_ble_eq_true rfl⟩ ⟨show 0 + 1 + 1 ≤ mc by omega, show 0 + 2 * cap C + 2 * cap C ≤ 4 * mc by omega⟩ (Nat.le_of_ble_eq_true rfl) (fun h => ?_)
    rw [← hg]
    refine V_bipush (v := 32) (dG D_X1_addChange 24 rfl) (by decide) ?_
    refine V_iload_n (dG D_X1_addChange 25 rfl) rfl ?_
    refine V_imul (dG D_X1_addChange 26 rfl) ?_
    refine V_iload_n (dG D_X1_addChange 27 rfl) rfl ?_
    refine V_iadd (dG D_X1_addChange 28 rfl) ?_
    refine V_istore (dG D_X1_addChange 29 rfl) (Nat.le_of_ble_eq_true rfl) ?_
    refine V_aload_n (dG D_X1_addChange 30 rfl) rfl ?_
    refine gf_X1_27 rfl (dG D_X1_addChange 31 rfl) ?_
    refine V_istore (dG D_X1_addChange 32 rfl) (Nat.le_of_ble_eq_true rfl) ?_
    rw [hadd, show grC C 26 0 = nI c from by rw [grC_row (by decide) (by decide) (by decide) (by decide)]; exact hcn]
    exact lp_addChange (by omega) (by omega) c (by omega) (by omega) (by omega) h
end B6
end
section
/-! class: deciding one that is staged -/
def HH (C : St) (n : Nat) : Prop := ∃ c : Nat, C 26 0 = nI c ∧ c + n ≤ 1280 ∧ c ≤ cap C ∧ cap C = capv C ∧ 32 ≤ cap C ∧ cap C ≤ 2560
theorem HH.skip {C : St} {n : Nat} (h : HH C (n + 1)) : HH C n := by
  obtain ⟨c, h1, h2, h3⟩ := h
  exact ⟨c, h1, by omega, h3⟩
theorem HH_up {C : St} {n v i : Nat} {x : Int32} (h : HH C n) (h1 : 26 ≠ v) (h2 : 27 ≠ v) (h3 : 34 ≠ v) : HH (up C v i x) n := by
  obtain ⟨c, q1, q2, q3, q4, q5, q6⟩ := h
  have e1 : cap (up C v i x) = cap C := by unfold cap; rw [up_row h2]
  have e2 : capv (up C v i x) = capv C := by unfold capv; rw [up_row h3]
  exact ⟨c, by rw [up_row h1]; exact q1, q2, by rw [e1]; exact q3, by rw [e1, e2]; exact q4, by rw [e1]; exact q5, by rw [e1]; exact q6⟩
theorem HH.add {C : St} {n : Nat} {st key v : Int32} (h : HH C (n + 1)) : HH (addS C st key v) n := by
  obtain ⟨c, q1, q2, q3, q4, q5, q6⟩ := h
  have e1 := cap_grC q1 q3 (by omega)
  have e2 := capv_grC q1 q3 q4 (by omega)
  refine ⟨c + 1, ?_, by omega, ?_, ?_, ?_, ?_⟩
  · show up (inS (32 * st + key) v (cn C) (grC C)) 26 0 (C 26 0 + 1) 26 0 = _
    rw [up_eq, q1, nI_1]
  · rw [cap_addS, e1]; split <;> omega
  · rw [cap_addS, capv_addS, e1, e2]
  · rw [cap_addS, e1]; split <;> omega
  · rw [cap_addS, e1]; split <;> omega
theorem cap_add_le {C : St} {n : Nat} {st key v : Int32} (h : HH C n) : cap C ≤ cap (addS C st key v) := by
  obtain ⟨c, q1, q2, q3, q4, q5, q6⟩ := h
  rw [cap_addS, cap_grC q1 q3 (by omega)]
  split <;> omega
theorem cn_add {C : St} {n c : Nat} {st key v : Int32} (h : C 26 0 = nI c) : addS C st key v 26 0 = nI (c + 1) := by
  show up (inS (32 * st + key) v (cn C) (grC C)) 26 0 (C 26 0 + 1) 26 0 = _
  rw [up_eq, h, nI_1]
def ds1 (t i : Nat) (C : St) : St := addS (up C 6 i (-1)) (up C 6 i (-1) 17 t) (nI i) (up C 6 i (-1) (51 + 3 * t) i)
def dsL (t : Nat) : Nat → Nat → St → St
  | 0, _, C => C
  | n + 1, i, C => dsL t n (i + 1) (if bI (bt (C 21 t) i) = 0 then C else ds1 t i C)
theorem ds1_row {t i w : Nat} {C : St} (h6 : w ≠ 6) (h0 : w ≠ 26) (h1 : w ≠ 27) (h2 : w ≠ 28) (h3 : w ≠ 34) (h4 : w ≠ 29) : ds1 t i C w = C w := by
  unfold ds1
  rw [addS_row h0 h1 h2 h3 h4, up_row h6]
theorem HH.ds1 {C : St} {n t i : Nat} (h : HH C (n + 1)) : HH (ds1 t i C) n := (HH_up h (by decide) (by decide) (by decide)).add
theorem cap_ds1 {C : St} {n t i : Nat} (h : HH C n) : cap C ≤ cap (ds1 t i C) := by
  have e : cap (up C 6 i (-1)) = cap C := by unfold cap; rw [up_row (by decide)]
  have h1 := cap_add_le (st := up C 6 i (-1) 17 t) (key := nI i) (v := up C 6 i (-1) (51 + 3 * t) i) (HH_up (v := 6) (i := i) (x := -1) h (by decide) (by decide) (by decide))
  rw [e] at h1
  exact h1
theorem dsL_row {t w : Nat} (h6 : w ≠ 6) (h0 : w ≠ 26) (h1 : w ≠ 27) (h2 : w ≠ 28) (h3 : w ≠ 34) (h4 : w ≠ 29) : ∀ {n i : Nat} {C : St}, dsL t n i C w = C w
  | 0, _, _ => rfl
  | n + 1, i, C => by
    unfold dsL
    rw [dsL_row h6 h0 h1 h2 h3 h4]
    split
    · rfl
    · exact ds1_row h6 h0 h1 h2 h3 h4
theorem dsL_HH {t : Nat} : ∀ {n i : Nat} {C : St}, HH C n → HH (dsL t n i C) 0 ∧ cap C ≤ cap (dsL t n i C)
  | 0, _, _, h => ⟨h, Nat.le_refl _⟩
  | n + 1, i, C, h => by
    unfold dsL
    split
    · exact dsL_HH h.skip
    · have h1 := dsL_HH (t := t) (i := i + 1) (h.ds1 (t := t) (i := i))
      exact ⟨h1.1, Nat.le_trans (cap_ds1 h) h1.2⟩
theorem dsL_26 {t : Nat} : ∀ {n i : Nat} {C : St} {c : Nat}, C 26 0 = nI c → ∃ c', dsL t n i C 26 0 = nI c' ∧ c' ≤ c + n
  | 0, _, _, c, h => ⟨c, h, Nat.le_refl _⟩
  | n + 1, i, C, c, h => by
    unfold dsL
    split
    · obtain ⟨c', h1, h2⟩ := dsL_26 (t := t) (n := n) (i := i + 1) h
      exact ⟨c', h1, by omega⟩
    · obtain ⟨c', h1, h2⟩ := dsL_26 (t := t) (n := n) (i := i + 1) (C := ds1 t i C) (c := c + 1) (cn_add (n := 0) (by rw [up_row (by decide)]; exact h))
      exact ⟨c', h1, by omega⟩
theorem dsL_6 {t k : Nat} : ∀ {n i : Nat} {C : St}, dsL t n i C 6 k = C 6 k ∨ dsL t n i C 6 k = -1
  | 0, _, _ => Or.inl rfl
  | n + 1, i, C => by
    unfold dsL
    split
    · exact dsL_6
    · rcases dsL_6 (t := t) (k := k) (n := n) (i := i + 1) (C := ds1 t i C) with h | h
      · rw [h]
        have e : ds1 t i C 6 k = up C 6 i (-1) 6 k := by unfold ds1; rw [addS_row (by decide) (by decide) (by decide) (by decide) (by decide)]
        rw [e]
        by_cases q : k = i
        · subst q; rw [up_eq]; exact Or.inr rfl
        · rw [up_ne (Or.inr q)]; exact Or.inl rfl
      · exact Or.inr h
theorem acS_row {t : Int32} {w : Nat} (hw : w ≠ 30) : ∀ {p : Nat} {C : St}, acS t p C w = C w
  | 0, C => up_row hw
  | p + 1, C => by
    unfold acS
    split
    · exact up_row hw
    · rw [acS_row hw, up_row hw]
theorem acS_hi {t : Int32} : ∀ {p q : Nat} {C : St}, p < q → acS t p C 30 q = C 30 q
  | 0, q, C, h => up_ne (Or.inr (by omega))
  | p + 1, q, C, h => by
    unfold acS
    split
    · exact up_ne (Or.inr (by omega))
    · rw [acS_hi (by omega), up_ne (Or.inr (by omega))]
theorem acS_tok {nt : Nat} {t : Int32} (ht : tok nt t) : ∀ {p : Nat} {C : St}, (∀ q, q < p → tok nt (C 30 q)) → ∀ q, q < p + 1 → tok nt (acS t p C 30 q)
  | 0, C, _, q, hq => by
    have e : q = 0 := by omega
    subst e
    unfold acS
    rw [up_eq]
    exact ht
  | p + 1, C, h, q, hq => by
    unfold acS
    split
    · by_cases e : q = p + 1
      · subst e; rw [up_eq]; exact ht
      · rw [up_ne (Or.inr e)]; exact h q (by omega)
    · by_cases e : q = p + 1
      · subst e
        rw [acS_hi (by omega), up_eq]
        exact h p (by omega)
      · refine acS_tok ht (fun q2 h2 => ?_) q (by omega)
        rw [up_ne (Or.inr (by omega))]
        exact h q2 (by omega)
def dsC (C : St) (t : Int32) : St := addCoS (up C 15 t.toNatClampNeg 2) (km C) t
def decS (C : St) (t : Int32) : St := if haS C t 32 0 = 0 then up C 15 t.toNatClampNeg 3 else dsL t.toNatClampNeg 32 0 (dsC C t)
theorem addCoS_row {C : St} {k w : Nat} {t : Int32} (h0 : w ≠ 30) (h1 : w ≠ 31) : addCoS C k t w = C w := by
  unfold addCoS
  split
  · rw [up_row h1, acS_row h0]
  · rfl
theorem dsC_row {C : St} {t : Int32} {w : Nat} (h0 : w ≠ 30) (h1 : w ≠ 31) (h2 : w ≠ 15) : dsC C t w = C w := by
  unfold dsC
  rw [addCoS_row h0 h1, up_row h2]
theorem WF.k40 {nt : Nat} {C : St} {c k i : Nat} (h : WFh nt C c k) (h2 : C 15 i ≠ 2) (hi : i < nt) (hn : nt ≤ 40) : k < 40 := by
  have h4 := h.2.2.2.1
  have h5 := ct2_lt h2 hi
  omega
theorem WF.HHc {nt : Nat} {C : St} {t : Int32} (h : WF nt C) (ht : tok nt t) (h2 : C 15 t.toNatClampNeg ≠ 2) : HH (dsC C t) 32 := by
  obtain ⟨c, k, hw⟩ := h.hi
  have hk := WF.k40 hw h2 ht.2 h.n40
  obtain ⟨q1, q2, q3, q4, q5, q6, q7, q8, q9⟩ := hw
  have e1 : cap (dsC C t) = cap C := by unfold cap; rw [dsC_row (by decide) (by decide) (by decide)]
  have e2 : capv (dsC C t) = capv C := by unfold capv; rw [dsC_row (by decide) (by decide) (by decide)]
  exact ⟨c, by rw [dsC_row (by decide) (by decide) (by decide)]; exact q1, by omega, by rw [e1]; exact q5, by rw [e1, e2]; exact q6, by rw [e1]; exact q7, by rw [e1]; exact q8⟩
theorem cap_decS {nt : Nat} {C : St} {t : Int32} (h : WF nt C) (ht : tok nt t) (h2 : C 15 t.toNatClampNeg ≠ 2) : cap C ≤ cap (decS C t) := by
  unfold decS
  split
  · exact Nat.le_of_eq (by unfold cap; rw [up_row (by decide)])
  · have h1 := (dsL_HH (t := t.toNatClampNeg) (i := 0) (h.HHc ht h2)).2
    have e1 : cap (dsC C t) = cap C := by unfold cap; rw [dsC_row (by decide) (by decide) (by decide)]
    omega
theorem WF_dec {nt : Nat} {C : St} {t : Int32} (h : WF nt C) (ht : tok nt t) (h2 : C 15 t.toNatClampNeg ≠ 2) : WF nt (decS C t) := by
  unfold decS
  split
  · exact WF_up15 h h2 (by decide)
  · obtain ⟨c, k, hw⟩ := h.hi
    have hk := WF.k40 hw h2 ht.2 h.n40
    have hH := h.HHc ht h2
    obtain ⟨q1, q2, q3, q4, q5, q6, q7, q8, q9⟩ := hw
    have hkm : km C = k := by unfold km; rw [q2, nI_clamp (by omega)]
    have hr : ∀ {w : Nat}, w ≠ 6 → w ≠ 26 → w ≠ 27 → w ≠ 28 → w ≠ 34 → w ≠ 29 → w ≠ 30 → w ≠ 31 → w ≠ 15 → dsL t.toNatClampNeg 32 0 (dsC C t) w = C w := fun a1 a2 a3 a4 a5 a6 a7 a8 a9 => by rw [dsL_row a1 a2 a3 a4 a5 a6, dsC_row a7 a8 a9]
    obtain ⟨c', z1, z2⟩ := dsL_26 (t := t.toNatClampNeg) (n := 32) (i := 0) (C := dsC C t) (c := c) (by rw [dsC_row (by decide) (by decide) (by decide)]; exact q1)
    obtain ⟨⟨c2, y1, y2, y3, y4, y5, y6⟩, -⟩ := dsL_HH (t := t.toNatClampNeg) (i := 0) hH
    have hc2 : c2 = c' := by
      have e := y1.symm.trans z1
      exact (nI_eq (by omega) (by omega)).mp e
    subst hc2
    have e31 : dsC C t 31 0 = nI (k + 1) := by
      unfold dsC addCoS
      rw [if_pos (by rw [up_row (by decide), q2]; exact nI_lt (b := 40) hk (by decide)), up_eq, acS_row (by decide), up_row (by decide), q2, nI_1]
    refine ⟨h.n40, ?_, ?_, ?_, ?_, ?_, ?_, c2, k + 1, y1, ?_, by omega, ?_, y3, y4, y5, y6, ?_⟩
    · rw [hr (by decide) (by decide) (by decide) (by decide) (by decide) (by decide) (by decide) (by decide) (by decide)]; exact h.b
    · rw [hr (by decide) (by decide) (by decide) (by decide) (by decide) (by decide) (by decide) (by decide) (by decide)]; exact h.x33
    · rw [hr (by decide) (by decide) (by decide) (by decide) (by decide) (by decide) (by decide) (by decide) (by decide)]; exact h.aw
    · intro j hj
      rcases dsL_6 (t := t.toNatClampNeg) (k := j) (n := 32) (i := 0) (C := dsC C t) with e | e
      · rw [e, dsC_row (by decide) (by decide) (by decide)]; exact h.wo j hj
      · rw [e]; exact trv_null
    · rw [hr (by decide) (by decide) (by decide) (by decide) (by decide) (by decide) (by decide) (by decide) (by decide)]; exact h.wn
    · rw [hr (by decide) (by decide) (by decide) (by decide) (by decide) (by decide) (by decide) (by decide) (by decide)]; exact h.wh
    · rw [dsL_row (by decide) (by decide) (by decide) (by decide) (by decide) (by decide)]; exact e31
    · have e15 : dsL t.toNatClampNeg 32 0 (dsC C t) 15 = up C 15 t.toNatClampNeg 2 15 := by
        rw [dsL_row (by decide) (by decide) (by decide) (by decide) (by decide) (by decide)]
        unfold dsC
        rw [addCoS_row (by decide) (by decide)]
      rw [ct2_congr e15, ct2_set h2 ht.2, q4]
    · intro q hq
      rw [dsL_row (by decide) (by decide) (by decide) (by decide) (by decide) (by decide)]
      unfold dsC addCoS
      rw [if_pos (by rw [up_row (by decide), q2]; exact nI_lt (b := 40) hk (by decide)), up_row (by decide), hkm]
      refine acS_tok ht (fun q2 hq2 => ?_) q hq
      rw [up_row (by decide)]
      exact q9 q2 hq2
section B7
variable {g : GT} {nt : Nat} {C M : St} {o : Int64} {t : Int32}
theorem lp_decide (ht : tok nt t) {mc ms c0 : Nat} : ∀ (n : Nat) (i : Nat) (C : St) (_ : i + n = 32) (_ : HH C n) (_ : c0 ≤ cap C) (_ : cap (dsL t.toNatClampNeg n i C) - c0 ≤ mc) (_ : 4 * (cap (dsL t.toNatClampNeg n i C) - c0) ≤ ms) (h : Nat × Nat), V g K_X4_decideStaged (kR K_X4_decideStaged mc ms) (qM g mc ms nt (fun v9 C9 M9 o9 => v9 = none ∧ C9 = dsL t.toNatClampNeg n i C ∧ M9 = M ∧ o9 = o) (fun _ _ _ _ => False)) (cap C - c0) (4 * (cap C - c0)) nt h C M o 29 [(0, .ref (ad g 0)), (1, va_rf (trO g t)), (2, .int (nI i))] [] := by
  intro n
  induction n with
  | zero =>
    intro i C hi hH h0 hk hn h
    refine V_iload_n (dG D_X4_decideStaged 17 rfl) rfl ?_
    refine V_bipush (v := 32) (dG D_X4_decideStaged 18 rfl) (by decide) ?_
    refine V_icmp_ge (tgt := 77) (dG D_X4_decideStaged 19 rfl) (by decide) (fun c_32 => ?_) (fun c_32 => absurd (l32 (by omega)) c_32)
    exact V_vret (dG D_X4_decideStaged 42 rfl) rfl hk hn ⟨rfl, rfl, rfl, rfl⟩
  | succ n ih =>
    intro i C hi hH h0 hk hn h
    have hm := (dsL_HH (t := t.toNatClampNeg) (i := i) hH).2
    refine V_iload_n (dG D_X4_decideStaged 17 rfl) rfl ?_
    refine V_bipush (v := 32) (dG D_X4_decideStaged 18 rfl) (by decide) ?_
    refine V_icmp_ge (tgt := 77) (dG D_X4_decideStaged 19 rfl) (by decide) (fun c_32 => absurd c_32 (g32 (by omega))) (fun c_32 => ?_)
    refine V_aload_nt (dG D_X4_decideStaged 20 rfl) rfl ?_
    refine V_iload_n (dG D_X4_decideStaged 21 rfl) rfl ?_
    refine R_vt1 (by assumption) (ok_writes ht (show i < 32 by omega)) lk_X4_274 (dG D_X4_decideStaged 22 rfl) ⟨Nat.le_of_ble_eq_true rfl, Nat.le_of_ble_eq_true rfl⟩ ⟨show cap C - c0 + 0 ≤ mc by omega, show 4 * (cap C - c0) + 0 ≤ ms by omega⟩ (by first | exact Nat.le_of_ble_eq_true rfl | simp [cat_rf, cat_int, cat_ref]) (fun h => ?_)
    refine V_if_eq (tgt := 71) (dG D_X4_decideStaged 23 rfl) (by decide) (fun c_40 => ?_) (fun c_40 => ?_)
    · rw [show dsL t.toNatClampNeg (n + 1) i C = dsL t.toNatClampNeg n (i + 1) C from by simp [dsL, c_40]] at hk hn ⊢
      refine V_iinc (dG D_X4_decideStaged 40 rfl) rfl (inc1 _) (Nat.le_of_ble_eq_true rfl) ?_
      refine V_goto (tgt := 29) (dG D_X4_decideStaged 41 rfl) (by decide) ?_
      exact ih (i + 1) C (by omega) hH.skip h0 hk hn h
    · rw [show dsL t.toNatClampNeg (n + 1) i C = dsL t.toNatClampNeg n (i + 1) (ds1 t.toNatClampNeg i C) from by simp [dsL, c_40]] at hk hn ⊢
      have hm1 := cap_ds1 (t := t.toNatClampNeg) (i := i) hH
      have hm2 := (dsL_HH (t := t.toNatClampNeg) (i := i + 1) (hH.ds1 (t := t.toNatClampNeg) (i := i))).2
      obtain ⟨c, q1, q2, q3, q4, q5, q6⟩ := HH_up (v := 6) (i := i) (x := -1) hH (by decide) (by decide) (by decide)
      refine V_aload_n (dG D_X4_decideStaged 24 rfl) rfl ?_
      refine gf_X4_17 rfl (dG D_X4_decideStaged 25 rfl) ?_
      refine V_iload_n (dG D_X4_decideStaged 26 rfl) rfl ?_
      refine aald_cells (dG D_X4_decideStaged 27 rfl) (inr_nI (by omega) (by decide)) ?_
      refine V_nullt (dG D_X4_decideStaged 28 rfl) ?_
      refine pf_X4_82 rfl (dG D_X4_decideStaged 29 rfl) (by first | assumption | omega) ?_
      refine V_aload_n (dG D_X4_decideStaged 30 rfl) rfl ?_
      refine gf_X4_30 rfl (dG D_X4_decideStaged 31 rfl) ?_
      refine V_aload_nt (dG D_X4_decideStaged 32 rfl) rfl ?_
      refine gf_X4_163 rfl (dG D_X4_decideStaged 33 rfl) (by assumption) ?_
      refine V_iload_n (dG D_X4_decideStaged 34 rfl) rfl ?_
      refine V_aload_nt (dG D_X4_decideStaged 35 rfl) rfl ?_
      refine gf_X4_277 rfl (dG D_X4_decideStaged 36 rfl) (by assumption) ?_
      refine V_iload_n (dG D_X4_decideStaged 37 rfl) rfl ?_
      refine iald_t1 (by assumption) (dG D_X4_decideStaged 38 rfl) (inr_nI (by omega) (by decide)) ?_
      refine R_nb3 (ok_addChange q1 q3 q4 (by omega) q5) lk_X4_320 (dG D_X4_decideStaged 39 rfl) rcv_1 ⟨Nat.le_of_ble_eq_true rfl, Nat.le_of_ble_eq_true rfl⟩ ⟨show cap C - c0 + (cap (ds1 t.toNatClampNeg i C) - cap C) ≤ mc by omega, show 4 * (cap C - c0) + 4 * (cap (ds1 t.toNatClampNeg i C) - cap C) ≤ ms by omega⟩ (by first | exact Nat.le_of_ble_eq_true rfl | simp [cat_rf, cat_int, cat_ref]) (fun h => ?_)
      refine V_mono (kb' := cap (ds1 t.toNatClampNeg i C) - c0) (nb' := 4 * (cap (ds1 t.toNatClampNeg i C) - c0)) (show cap C - c0 + (cap (ds1 t.toNatClampNeg i C) - cap C) ≤ _ by omega) (show 4 * (cap C - c0) + 4 * (cap (ds1 t.toNatClampNeg i C) - cap C) ≤ _ by omega) ?_
      refine V_iinc (dG D_X4_decideStaged 40 rfl) rfl (inc1 _) (Nat.le_of_ble_eq_true rfl) ?_
      refine V_goto (tgt := 29) (dG D_X4_decideStaged 41 rfl) (by decide) ?_
      exact ih (i + 1) (ds1 t.toNatClampNeg i C) (by omega) hH.ds1 (by omega) hk hn h
theorem ok_decideStaged (ht : tok nt t) (hW : WF nt C) (h2 : C 15 t.toNatClampNeg ≠ 2) : RET g K_X4_decideStaged (cap (decS C t) - cap C) (4 * (cap (decS C t) - cap C)) [.ref (ad g 0), va_rf (trO g t)] nt C M o none (decS C t) M o := by
  refine MT_of (by decide +kernel) rfl rfl (Nat.le_of_ble_eq_true rfl) (by simp [cat_rf, cat_int, cat_ref]) (fun h => ?_)
  have hH := hW.HHc ht h2
  obtain ⟨c, k, hw⟩ := hW.hi
  have hk40 := WF.k40 hw h2 ht.2 hW.n40
  obtain ⟨w1, w2, w3, w4, w5, w6, w7, w8, w9⟩ := hw
  have hkm : km C = k := by unfold km; rw [w2, nI_clamp (by omega)]
  refine V_aload_n (dG D_X4_decideStaged 0 rfl) rfl ?_
  refine V_aload_nt (dG D_X4_decideStaged 1 rfl) rfl ?_
  refine R_vb1 (ok_hasAllIntents ht hW.wo) lk_X4_182 (dG D_X4_decideStaged 2 rfl) rcv_4 ⟨Nat.le_of_ble_eq_true rfl, Nat.le_of_ble_eq_true rfl⟩ ⟨Nat.zero_le _, Nat.zero_le _⟩ (by first | exact Nat.le_of_ble_eq_true rfl | simp [cat_rf, cat_int, cat_ref]) (fun h => ?_)
  refine V_if_ne (tgt := 14) (dG D_X4_decideStaged 3 rfl) (by decide) (fun c_5 => ?_) (fun c_5 => ?_)
  · rw [show decS C t = dsL t.toNatClampNeg 32 0 (dsC C t) from by simp [decS, c_5]]
    refine V_aload_nt (dG D_X4_decideStaged 8 rfl) rfl ?_
    refine V_iconst (v := 2) (dG D_X4_decideStaged 9 rfl) (by decide) ?_
    refine pf_X4_147 rfl (dG D_X4_decideStaged 10 rfl) (by assumption) ?_
    refine V_aload_n (dG D_X4_decideStaged 11 rfl) rfl ?_
    refine gf_X4_30 rfl (dG D_X4_decideStaged 12 rfl) ?_
    refine V_aload_nt (dG D_X4_decideStaged 13 rfl) rfl ?_
    refine R_nb1 (ok_addCommitted ht (k := k) (by omega) (show C 31 0 = nI k from w2) (fun q hq => show tok nt (C 30 q) from w9 q hq)) lk_X4_317 (dG D_X4_decideStaged 14 rfl) rcv_1 ⟨Nat.le_of_ble_eq_true rfl, Nat.le_of_ble_eq_true rfl⟩ ⟨Nat.zero_le _, Nat.zero_le _⟩ (by first | exact Nat.le_of_ble_eq_true rfl | simp [cat_rf, cat_int, cat_ref]) (fun h => ?_)
    refine V_iconst (v := 0) (dG D_X4_decideStaged 15 rfl) (by decide) ?_
    refine V_istore_n (dG D_X4_decideStaged 16 rfl) (Nat.le_of_ble_eq_true rfl) ?_
    have e9 : addCoS (up C 15 t.toNatClampNeg 2) k t = dsC C t := by unfold dsC; rw [hkm]
    rw [e9]
    have e1 : cap (dsC C t) = cap C := by unfold cap; rw [dsC_row (by decide) (by decide) (by decide)]
    have hmono := (dsL_HH (t := t.toNatClampNeg) (i := 0) hH).2
    refine V_mono (kb' := cap (dsC C t) - cap C) (nb' := 4 * (cap (dsC C t) - cap C)) (Nat.zero_le _) (Nat.zero_le _) ?_
    exact lp_decide ht 32 0 (dsC C t) (by omega) hH (by omega) (Nat.le_refl _) (Nat.le_refl _) h
  · rw [show decS C t = up C 15 t.toNatClampNeg 3 from by simp [decS, c_5]]
    refine V_aload_nt (dG D_X4_decideStaged 4 rfl) rfl ?_
    refine V_iconst (v := 3) (dG D_X4_decideStaged 5 rfl) (by decide) ?_
    refine pf_X4_147 rfl (dG D_X4_decideStaged 6 rfl) (by assumption) ?_
    exact V_vret (dG D_X4_decideStaged 7 rfl) rfl (Nat.zero_le _) (Nat.zero_le _) ⟨rfl, rfl, rfl, rfl⟩
end B7
end
section
theorem zz_look : (1:Nat) = 1 := rfl
end
