section
-- ===== PART A: goes FIRST, ahead of the names: the tables' words, and 'selects' of the private methods out of them =====
/-- a private method of a class that the tables say can be made, by its rows of tables_1 -/
def lw_okq (q : MethodName × Nat) : Prop := (q.1.cls ≠ "java/lang/invoke/MethodHandle" ∧ q.1.cls ≠ "java/lang/invoke/VarHandle") ∧ Cond.instantiable q.1.cls q.2 ∈ tables_1 ∧ Cond.privateMethod q.1 ∈ tables_1 ∧ Cond.instanceMethod q.1 ∈ tables_1
theorem lw_p0 : lw_okq (⟨"Twinphase", "closedStamp", "()I"⟩, 6) := ⟨⟨by decide +kernel, by decide +kernel⟩, List.mem_of_getElem? (i := 18) (by decide +kernel), List.mem_of_getElem? (i := 124) (by decide +kernel), List.mem_of_getElem? (i := 125) (by decide +kernel)⟩
theorem lw_p1 : lw_okq (⟨"Twinphase", "resolvedStamp", "()I"⟩, 6) := ⟨⟨by decide +kernel, by decide +kernel⟩, List.mem_of_getElem? (i := 18) (by decide +kernel), List.mem_of_getElem? (i := 135) (by decide +kernel), List.mem_of_getElem? (i := 136) (by decide +kernel)⟩
theorem lw_p2 : lw_okq (⟨"java/lang/Throwable", "fillInStackTrace", "(I)Ljava/lang/Throwable;"⟩, 6) := ⟨⟨by decide +kernel, by decide +kernel⟩, List.mem_of_getElem? (i := 212) (by decide +kernel), List.mem_of_getElem? (i := 210) (by decide +kernel), List.mem_of_getElem? (i := 211) (by decide +kernel)⟩
theorem lw_p3 : lw_okq (⟨"Twinphase", "needNode", "(I)V"⟩, 6) := ⟨⟨by decide +kernel, by decide +kernel⟩, List.mem_of_getElem? (i := 18) (by decide +kernel), List.mem_of_getElem? (i := 266) (by decide +kernel), List.mem_of_getElem? (i := 267) (by decide +kernel)⟩
theorem lw_p4 : lw_okq (⟨"Twinphase", "needUp", "(I)V"⟩, 6) := ⟨⟨by decide +kernel, by decide +kernel⟩, List.mem_of_getElem? (i := 18) (by decide +kernel), List.mem_of_getElem? (i := 294) (by decide +kernel), List.mem_of_getElem? (i := 295) (by decide +kernel)⟩
theorem lw_p5 : lw_okq (⟨"Twinphase", "rangeOf", "(I)I"⟩, 6) := ⟨⟨by decide +kernel, by decide +kernel⟩, List.mem_of_getElem? (i := 18) (by decide +kernel), List.mem_of_getElem? (i := 343) (by decide +kernel), List.mem_of_getElem? (i := 344) (by decide +kernel)⟩
theorem lw_p6 : lw_okq (⟨"Twinphase", "firstKeyOf", "(I)I"⟩, 6) := ⟨⟨by decide +kernel, by decide +kernel⟩, List.mem_of_getElem? (i := 18) (by decide +kernel), List.mem_of_getElem? (i := 355) (by decide +kernel), List.mem_of_getElem? (i := 356) (by decide +kernel)⟩
theorem lw_p7 : lw_okq (⟨"Twinphase", "needTransaction", "(I)V"⟩, 6) := ⟨⟨by decide +kernel, by decide +kernel⟩, List.mem_of_getElem? (i := 18) (by decide +kernel), List.mem_of_getElem? (i := 450) (by decide +kernel), List.mem_of_getElem? (i := 451) (by decide +kernel)⟩
theorem lw_p8 : lw_okq (⟨"Twinphase", "needKey", "(I)V"⟩, 6) := ⟨⟨by decide +kernel, by decide +kernel⟩, List.mem_of_getElem? (i := 18) (by decide +kernel), List.mem_of_getElem? (i := 455) (by decide +kernel), List.mem_of_getElem? (i := 456) (by decide +kernel)⟩
theorem lw_p9 : lw_okq (⟨"Twinphase", "refusalAt", "(LTwinphase$Transaction;I)I"⟩, 6) := ⟨⟨by decide +kernel, by decide +kernel⟩, List.mem_of_getElem? (i := 18) (by decide +kernel), List.mem_of_getElem? (i := 460) (by decide +kernel), List.mem_of_getElem? (i := 461) (by decide +kernel)⟩
theorem lw_p10 : lw_okq (⟨"Twinphase", "askNode", "(LTwinphase$Transaction;I)V"⟩, 6) := ⟨⟨by decide +kernel, by decide +kernel⟩, List.mem_of_getElem? (i := 18) (by decide +kernel), List.mem_of_getElem? (i := 464) (by decide +kernel), List.mem_of_getElem? (i := 465) (by decide +kernel)⟩
theorem lw_p11 : lw_okq (⟨"Twinphase", "lookToRead", "(LTwinphase$Transaction;I)I"⟩, 6) := ⟨⟨by decide +kernel, by decide +kernel⟩, List.mem_of_getElem? (i := 18) (by decide +kernel), List.mem_of_getElem? (i := 479) (by decide +kernel), List.mem_of_getElem? (i := 480) (by decide +kernel)⟩
theorem lw_p12 : lw_okq (⟨"Twinphase", "meetIntent", "(LTwinphase$Transaction;I)LTwinphase$Transaction;"⟩, 6) := ⟨⟨by decide +kernel, by decide +kernel⟩, List.mem_of_getElem? (i := 18) (by decide +kernel), List.mem_of_getElem? (i := 484) (by decide +kernel), List.mem_of_getElem? (i := 485) (by decide +kernel)⟩
theorem lw_p13 : lw_okq (⟨"Twinphase", "decideStaged", "(LTwinphase$Transaction;)V"⟩, 6) := ⟨⟨by decide +kernel, by decide +kernel⟩, List.mem_of_getElem? (i := 18) (by decide +kernel), List.mem_of_getElem? (i := 488) (by decide +kernel), List.mem_of_getElem? (i := 489) (by decide +kernel)⟩
theorem lw_p14 : lw_okq (⟨"Twinphase", "hasAllIntents", "(LTwinphase$Transaction;)Z"⟩, 6) := ⟨⟨by decide +kernel, by decide +kernel⟩, List.mem_of_getElem? (i := 18) (by decide +kernel), List.mem_of_getElem? (i := 492) (by decide +kernel), List.mem_of_getElem? (i := 493) (by decide +kernel)⟩
theorem lw_p15 : lw_okq (⟨"Twinphase", "waitFor", "(LTwinphase$Transaction;LTwinphase$Transaction;)I"⟩, 6) := ⟨⟨by decide +kernel, by decide +kernel⟩, List.mem_of_getElem? (i := 18) (by decide +kernel), List.mem_of_getElem? (i := 522) (by decide +kernel), List.mem_of_getElem? (i := 523) (by decide +kernel)⟩
def lw_privs_1 : List (MethodName × Nat) := [(⟨"Twinphase", "closedStamp", "()I"⟩, 6), (⟨"Twinphase", "resolvedStamp", "()I"⟩, 6), (⟨"java/lang/Throwable", "fillInStackTrace", "(I)Ljava/lang/Throwable;"⟩, 6), (⟨"Twinphase", "needNode", "(I)V"⟩, 6), (⟨"Twinphase", "needUp", "(I)V"⟩, 6), (⟨"Twinphase", "rangeOf", "(I)I"⟩, 6), (⟨"Twinphase", "firstKeyOf", "(I)I"⟩, 6), (⟨"Twinphase", "needTransaction", "(I)V"⟩, 6), (⟨"Twinphase", "needKey", "(I)V"⟩, 6), (⟨"Twinphase", "refusalAt", "(LTwinphase$Transaction;I)I"⟩, 6), (⟨"Twinphase", "askNode", "(LTwinphase$Transaction;I)V"⟩, 6), (⟨"Twinphase", "lookToRead", "(LTwinphase$Transaction;I)I"⟩, 6), (⟨"Twinphase", "meetIntent", "(LTwinphase$Transaction;I)LTwinphase$Transaction;"⟩, 6), (⟨"Twinphase", "decideStaged", "(LTwinphase$Transaction;)V"⟩, 6), (⟨"Twinphase", "hasAllIntents", "(LTwinphase$Transaction;)Z"⟩, 6), (⟨"Twinphase", "waitFor", "(LTwinphase$Transaction;LTwinphase$Transaction;)I"⟩, 6)]
theorem lw_r1 : ∀ q ∈ lw_privs_1, lw_okq q := List.forall_mem_cons.mpr ⟨lw_p0, List.forall_mem_cons.mpr ⟨lw_p1, List.forall_mem_cons.mpr ⟨lw_p2, List.forall_mem_cons.mpr ⟨lw_p3, List.forall_mem_cons.mpr ⟨lw_p4, List.forall_mem_cons.mpr ⟨lw_p5, List.forall_mem_cons.mpr ⟨lw_p6, List.forall_mem_cons.mpr ⟨lw_p7, List.forall_mem_cons.mpr ⟨lw_p8, List.forall_mem_cons.mpr ⟨lw_p9, List.forall_mem_cons.mpr ⟨lw_p10, List.forall_mem_cons.mpr ⟨lw_p11, List.forall_mem_cons.mpr ⟨lw_p12, List.forall_mem_cons.mpr ⟨lw_p13, List.forall_mem_cons.mpr ⟨lw_p14, List.forall_mem_cons.mpr ⟨lw_p15, fun _ h => absurd h List.not_mem_nil⟩⟩⟩⟩⟩⟩⟩⟩⟩⟩⟩⟩⟩⟩⟩⟩
theorem lw_p16 : lw_okq (⟨"Twinphase", "victimOfRing", "(LTwinphase$Transaction;)LTwinphase$Transaction;"⟩, 6) := ⟨⟨by decide +kernel, by decide +kernel⟩, List.mem_of_getElem? (i := 18) (by decide +kernel), List.mem_of_getElem? (i := 526) (by decide +kernel), List.mem_of_getElem? (i := 527) (by decide +kernel)⟩
theorem lw_p17 : lw_okq (⟨"Twinphase", "refreshReads", "(LTwinphase$Transaction;I)Z"⟩, 6) := ⟨⟨by decide +kernel, by decide +kernel⟩, List.mem_of_getElem? (i := 18) (by decide +kernel), List.mem_of_getElem? (i := 546) (by decide +kernel), List.mem_of_getElem? (i := 547) (by decide +kernel)⟩
theorem lw_p18 : lw_okq (⟨"Twinphase", "restartAt", "(LTwinphase$Transaction;I)I"⟩, 6) := ⟨⟨by decide +kernel, by decide +kernel⟩, List.mem_of_getElem? (i := 18) (by decide +kernel), List.mem_of_getElem? (i := 560) (by decide +kernel), List.mem_of_getElem? (i := 561) (by decide +kernel)⟩
theorem lw_p19 : lw_okq (⟨"Twinphase", "lookToWrite", "(LTwinphase$Transaction;II)I"⟩, 6) := ⟨⟨by decide +kernel, by decide +kernel⟩, List.mem_of_getElem? (i := 18) (by decide +kernel), List.mem_of_getElem? (i := 584) (by decide +kernel), List.mem_of_getElem? (i := 585) (by decide +kernel)⟩
theorem lw_p20 : lw_okq (⟨"Twinphase", "writesOnDownNode", "(LTwinphase$Transaction;)Z"⟩, 6) := ⟨⟨by decide +kernel, by decide +kernel⟩, List.mem_of_getElem? (i := 18) (by decide +kernel), List.mem_of_getElem? (i := 600) (by decide +kernel), List.mem_of_getElem? (i := 601) (by decide +kernel)⟩
theorem lw_p21 : lw_okq (⟨"Twinphase", "needWhat", "(I)V"⟩, 6) := ⟨⟨by decide +kernel, by decide +kernel⟩, List.mem_of_getElem? (i := 18) (by decide +kernel), List.mem_of_getElem? (i := 632) (by decide +kernel), List.mem_of_getElem? (i := 633) (by decide +kernel)⟩
theorem lw_p22 : lw_okq (⟨"Twinphase", "needPlace", "(I)V"⟩, 6) := ⟨⟨by decide +kernel, by decide +kernel⟩, List.mem_of_getElem? (i := 18) (by decide +kernel), List.mem_of_getElem? (i := 669) (by decide +kernel), List.mem_of_getElem? (i := 670) (by decide +kernel)⟩
theorem lw_p23 : lw_okq (⟨"TwinphaseModel", "asks", "(I)I"⟩, 32) := ⟨⟨by decide +kernel, by decide +kernel⟩, List.mem_of_getElem? (i := 689) (by decide +kernel), List.mem_of_getElem? (i := 812) (by decide +kernel), List.mem_of_getElem? (i := 813) (by decide +kernel)⟩
theorem lw_p24 : lw_okq (⟨"TwinphaseModel", "closedNow", "()I"⟩, 32) := ⟨⟨by decide +kernel, by decide +kernel⟩, List.mem_of_getElem? (i := 689) (by decide +kernel), List.mem_of_getElem? (i := 823) (by decide +kernel), List.mem_of_getElem? (i := 824) (by decide +kernel)⟩
theorem lw_p25 : lw_okq (⟨"TwinphaseModel", "nodeOf", "(I)I"⟩, 32) := ⟨⟨by decide +kernel, by decide +kernel⟩, List.mem_of_getElem? (i := 689) (by decide +kernel), List.mem_of_getElem? (i := 831) (by decide +kernel), List.mem_of_getElem? (i := 832) (by decide +kernel)⟩
theorem lw_p26 : lw_okq (⟨"TwinphaseModel", "rangeOf", "(I)I"⟩, 32) := ⟨⟨by decide +kernel, by decide +kernel⟩, List.mem_of_getElem? (i := 689) (by decide +kernel), List.mem_of_getElem? (i := 835) (by decide +kernel), List.mem_of_getElem? (i := 836) (by decide +kernel)⟩
theorem lw_p27 : lw_okq (⟨"TwinphaseModel", "covers", "(II)V"⟩, 32) := ⟨⟨by decide +kernel, by decide +kernel⟩, List.mem_of_getElem? (i := 689) (by decide +kernel), List.mem_of_getElem? (i := 843) (by decide +kernel), List.mem_of_getElem? (i := 844) (by decide +kernel)⟩
theorem lw_p28 : lw_okq (⟨"TwinphaseModel", "forgets", "(I)V"⟩, 32) := ⟨⟨by decide +kernel, by decide +kernel⟩, List.mem_of_getElem? (i := 689) (by decide +kernel), List.mem_of_getElem? (i := 867) (by decide +kernel), List.mem_of_getElem? (i := 868) (by decide +kernel)⟩
theorem lw_p29 : lw_okq (⟨"TwinphaseModel", "areThere", "(II)Z"⟩, 32) := ⟨⟨by decide +kernel, by decide +kernel⟩, List.mem_of_getElem? (i := 689) (by decide +kernel), List.mem_of_getElem? (i := 875) (by decide +kernel), List.mem_of_getElem? (i := 876) (by decide +kernel)⟩
theorem lw_p30 : lw_okq (⟨"TwinphaseModel", "opens", "(II)I"⟩, 32) := ⟨⟨by decide +kernel, by decide +kernel⟩, List.mem_of_getElem? (i := 689) (by decide +kernel), List.mem_of_getElem? (i := 879) (by decide +kernel), List.mem_of_getElem? (i := 880) (by decide +kernel)⟩
theorem lw_p31 : lw_okq (⟨"TwinphaseModel", "meets", "(II)I"⟩, 32) := ⟨⟨by decide +kernel, by decide +kernel⟩, List.mem_of_getElem? (i := 689) (by decide +kernel), List.mem_of_getElem? (i := 883) (by decide +kernel), List.mem_of_getElem? (i := 884) (by decide +kernel)⟩
def lw_privs_2 : List (MethodName × Nat) := [(⟨"Twinphase", "victimOfRing", "(LTwinphase$Transaction;)LTwinphase$Transaction;"⟩, 6), (⟨"Twinphase", "refreshReads", "(LTwinphase$Transaction;I)Z"⟩, 6), (⟨"Twinphase", "restartAt", "(LTwinphase$Transaction;I)I"⟩, 6), (⟨"Twinphase", "lookToWrite", "(LTwinphase$Transaction;II)I"⟩, 6), (⟨"Twinphase", "writesOnDownNode", "(LTwinphase$Transaction;)Z"⟩, 6), (⟨"Twinphase", "needWhat", "(I)V"⟩, 6), (⟨"Twinphase", "needPlace", "(I)V"⟩, 6), (⟨"TwinphaseModel", "asks", "(I)I"⟩, 32), (⟨"TwinphaseModel", "closedNow", "()I"⟩, 32), (⟨"TwinphaseModel", "nodeOf", "(I)I"⟩, 32), (⟨"TwinphaseModel", "rangeOf", "(I)I"⟩, 32), (⟨"TwinphaseModel", "covers", "(II)V"⟩, 32), (⟨"TwinphaseModel", "forgets", "(I)V"⟩, 32), (⟨"TwinphaseModel", "areThere", "(II)Z"⟩, 32), (⟨"TwinphaseModel", "opens", "(II)I"⟩, 32), (⟨"TwinphaseModel", "meets", "(II)I"⟩, 32)]
theorem lw_r2 : ∀ q ∈ lw_privs_2, lw_okq q := List.forall_mem_cons.mpr ⟨lw_p16, List.forall_mem_cons.mpr ⟨lw_p17, List.forall_mem_cons.mpr ⟨lw_p18, List.forall_mem_cons.mpr ⟨lw_p19, List.forall_mem_cons.mpr ⟨lw_p20, List.forall_mem_cons.mpr ⟨lw_p21, List.forall_mem_cons.mpr ⟨lw_p22, List.forall_mem_cons.mpr ⟨lw_p23, List.forall_mem_cons.mpr ⟨lw_p24, List.forall_mem_cons.mpr ⟨lw_p25, List.forall_mem_cons.mpr ⟨lw_p26, List.forall_mem_cons.mpr ⟨lw_p27, List.forall_mem_cons.mpr ⟨lw_p28, List.forall_mem_cons.mpr ⟨lw_p29, List.forall_mem_cons.mpr ⟨lw_p30, List.forall_mem_cons.mpr ⟨lw_p31, fun _ h => absurd h List.not_mem_nil⟩⟩⟩⟩⟩⟩⟩⟩⟩⟩⟩⟩⟩⟩⟩⟩
theorem lw_p32 : lw_okq (⟨"TwinphaseModel", "recovers", "(I)V"⟩, 32) := ⟨⟨by decide +kernel, by decide +kernel⟩, List.mem_of_getElem? (i := 689) (by decide +kernel), List.mem_of_getElem? (i := 887) (by decide +kernel), List.mem_of_getElem? (i := 888) (by decide +kernel)⟩
theorem lw_p33 : lw_okq (⟨"TwinphaseModel", "hasAllIntents", "(I)Z"⟩, 32) := ⟨⟨by decide +kernel, by decide +kernel⟩, List.mem_of_getElem? (i := 689) (by decide +kernel), List.mem_of_getElem? (i := 891) (by decide +kernel), List.mem_of_getElem? (i := 892) (by decide +kernel)⟩
theorem lw_p34 : lw_okq (⟨"TwinphaseModel", "commits", "(I)V"⟩, 32) := ⟨⟨by decide +kernel, by decide +kernel⟩, List.mem_of_getElem? (i := 689) (by decide +kernel), List.mem_of_getElem? (i := 895) (by decide +kernel), List.mem_of_getElem? (i := 896) (by decide +kernel)⟩
theorem lw_p35 : lw_okq (⟨"TwinphaseModel", "isVanished", "(I)Z"⟩, 32) := ⟨⟨by decide +kernel, by decide +kernel⟩, List.mem_of_getElem? (i := 689) (by decide +kernel), List.mem_of_getElem? (i := 899) (by decide +kernel), List.mem_of_getElem? (i := 900) (by decide +kernel)⟩
theorem lw_p36 : lw_okq (⟨"TwinphaseModel", "comesAnew", "(II)Z"⟩, 32) := ⟨⟨by decide +kernel, by decide +kernel⟩, List.mem_of_getElem? (i := 689) (by decide +kernel), List.mem_of_getElem? (i := 903) (by decide +kernel), List.mem_of_getElem? (i := 904) (by decide +kernel)⟩
theorem lw_p37 : lw_okq (⟨"TwinphaseModel", "waitsFor", "(I)I"⟩, 32) := ⟨⟨by decide +kernel, by decide +kernel⟩, List.mem_of_getElem? (i := 689) (by decide +kernel), List.mem_of_getElem? (i := 907) (by decide +kernel), List.mem_of_getElem? (i := 908) (by decide +kernel)⟩
theorem lw_p38 : lw_okq (⟨"TwinphaseModel", "waitAnswer", "(I)I"⟩, 32) := ⟨⟨by decide +kernel, by decide +kernel⟩, List.mem_of_getElem? (i := 689) (by decide +kernel), List.mem_of_getElem? (i := 911) (by decide +kernel), List.mem_of_getElem? (i := 912) (by decide +kernel)⟩
theorem lw_p39 : lw_okq (⟨"TwinphaseModel", "latest", "(II)I"⟩, 32) := ⟨⟨by decide +kernel, by decide +kernel⟩, List.mem_of_getElem? (i := 689) (by decide +kernel), List.mem_of_getElem? (i := 915) (by decide +kernel), List.mem_of_getElem? (i := 916) (by decide +kernel)⟩
theorem lw_p40 : lw_okq (⟨"TwinphaseModel", "refreshes", "(II)Z"⟩, 32) := ⟨⟨by decide +kernel, by decide +kernel⟩, List.mem_of_getElem? (i := 689) (by decide +kernel), List.mem_of_getElem? (i := 919) (by decide +kernel), List.mem_of_getElem? (i := 920) (by decide +kernel)⟩
theorem lw_p41 : lw_okq (⟨"TwinphaseModel", "marks", "(III)V"⟩, 32) := ⟨⟨by decide +kernel, by decide +kernel⟩, List.mem_of_getElem? (i := 689) (by decide +kernel), List.mem_of_getElem? (i := 923) (by decide +kernel), List.mem_of_getElem? (i := 924) (by decide +kernel)⟩
theorem lw_p42 : lw_okq (⟨"TwinphaseModel", "restarts", "(II)I"⟩, 32) := ⟨⟨by decide +kernel, by decide +kernel⟩, List.mem_of_getElem? (i := 689) (by decide +kernel), List.mem_of_getElem? (i := 927) (by decide +kernel), List.mem_of_getElem? (i := 928) (by decide +kernel)⟩
theorem lw_p43 : lw_okq (⟨"TwinphaseModel", "valueAt", "(II)I"⟩, 32) := ⟨⟨by decide +kernel, by decide +kernel⟩, List.mem_of_getElem? (i := 689) (by decide +kernel), List.mem_of_getElem? (i := 931) (by decide +kernel), List.mem_of_getElem? (i := 932) (by decide +kernel)⟩
theorem lw_p44 : lw_okq (⟨"TwinphaseModel", "isTransaction", "(I)Z"⟩, 32) := ⟨⟨by decide +kernel, by decide +kernel⟩, List.mem_of_getElem? (i := 689) (by decide +kernel), List.mem_of_getElem? (i := 944) (by decide +kernel), List.mem_of_getElem? (i := 945) (by decide +kernel)⟩
theorem lw_p45 : lw_okq (⟨"TwinphaseModel", "counts", "(I[I)I"⟩, 32) := ⟨⟨by decide +kernel, by decide +kernel⟩, List.mem_of_getElem? (i := 689) (by decide +kernel), List.mem_of_getElem? (i := 948) (by decide +kernel), List.mem_of_getElem? (i := 949) (by decide +kernel)⟩
theorem lw_p46 : lw_okq (⟨"TwinphaseModel", "resolvedNow", "()I"⟩, 32) := ⟨⟨by decide +kernel, by decide +kernel⟩, List.mem_of_getElem? (i := 689) (by decide +kernel), List.mem_of_getElem? (i := 980) (by decide +kernel), List.mem_of_getElem? (i := 981) (by decide +kernel)⟩
theorem lw_p47 : lw_okq (⟨"TwinphaseModel", "next", "(I)I"⟩, 32) := ⟨⟨by decide +kernel, by decide +kernel⟩, List.mem_of_getElem? (i := 689) (by decide +kernel), List.mem_of_getElem? (i := 992) (by decide +kernel), List.mem_of_getElem? (i := 993) (by decide +kernel)⟩
def lw_privs_3 : List (MethodName × Nat) := [(⟨"TwinphaseModel", "recovers", "(I)V"⟩, 32), (⟨"TwinphaseModel", "hasAllIntents", "(I)Z"⟩, 32), (⟨"TwinphaseModel", "commits", "(I)V"⟩, 32), (⟨"TwinphaseModel", "isVanished", "(I)Z"⟩, 32), (⟨"TwinphaseModel", "comesAnew", "(II)Z"⟩, 32), (⟨"TwinphaseModel", "waitsFor", "(I)I"⟩, 32), (⟨"TwinphaseModel", "waitAnswer", "(I)I"⟩, 32), (⟨"TwinphaseModel", "latest", "(II)I"⟩, 32), (⟨"TwinphaseModel", "refreshes", "(II)Z"⟩, 32), (⟨"TwinphaseModel", "marks", "(III)V"⟩, 32), (⟨"TwinphaseModel", "restarts", "(II)I"⟩, 32), (⟨"TwinphaseModel", "valueAt", "(II)I"⟩, 32), (⟨"TwinphaseModel", "isTransaction", "(I)Z"⟩, 32), (⟨"TwinphaseModel", "counts", "(I[I)I"⟩, 32), (⟨"TwinphaseModel", "resolvedNow", "()I"⟩, 32), (⟨"TwinphaseModel", "next", "(I)I"⟩, 32)]
theorem lw_r3 : ∀ q ∈ lw_privs_3, lw_okq q := List.forall_mem_cons.mpr ⟨lw_p32, List.forall_mem_cons.mpr ⟨lw_p33, List.forall_mem_cons.mpr ⟨lw_p34, List.forall_mem_cons.mpr ⟨lw_p35, List.forall_mem_cons.mpr ⟨lw_p36, List.forall_mem_cons.mpr ⟨lw_p37, List.forall_mem_cons.mpr ⟨lw_p38, List.forall_mem_cons.mpr ⟨lw_p39, List.forall_mem_cons.mpr ⟨lw_p40, List.forall_mem_cons.mpr ⟨lw_p41, List.forall_mem_cons.mpr ⟨lw_p42, List.forall_mem_cons.mpr ⟨lw_p43, List.forall_mem_cons.mpr ⟨lw_p44, List.forall_mem_cons.mpr ⟨lw_p45, List.forall_mem_cons.mpr ⟨lw_p46, List.forall_mem_cons.mpr ⟨lw_p47, fun _ h => absurd h List.not_mem_nil⟩⟩⟩⟩⟩⟩⟩⟩⟩⟩⟩⟩⟩⟩⟩⟩
theorem lw_p48 : lw_okq (⟨"TwinphaseModel", "isAhead", "(II)Z"⟩, 32) := ⟨⟨by decide +kernel, by decide +kernel⟩, List.mem_of_getElem? (i := 689) (by decide +kernel), List.mem_of_getElem? (i := 996) (by decide +kernel), List.mem_of_getElem? (i := 997) (by decide +kernel)⟩
def lw_privs_4 : List (MethodName × Nat) := [(⟨"TwinphaseModel", "isAhead", "(II)Z"⟩, 32)]
theorem lw_r4 : ∀ q ∈ lw_privs_4, lw_okq q := List.forall_mem_cons.mpr ⟨lw_p48, fun _ h => absurd h List.not_mem_nil⟩
def lw_privs : List (MethodName × Nat) := lw_privs_1 ++ (lw_privs_2 ++ (lw_privs_3 ++ (lw_privs_4)))
def lw_tbl : List Cond := k2_sels lw_privs ++ tables_1
theorem lw_privs_ok : ∀ q ∈ lw_privs, lw_okq q := by
  show ∀ q ∈ lw_privs_1 ++ (lw_privs_2 ++ (lw_privs_3 ++ (lw_privs_4))), lw_okq q
  exact List.forall_mem_append.mpr ⟨lw_r1, List.forall_mem_append.mpr ⟨lw_r2, List.forall_mem_append.mpr ⟨lw_r3, lw_r4⟩⟩⟩
-- ===== end of PART A; then your names; then what follows =====
end
section
/-! ===== BEGIN words of one list among another's, by their places ===== -/
theorem goodIn_r {big : List Cond} (ws : List Cond) (ps : List Nat) (hp : ws = ps.filterMap (fun i => big[i]?)) (h : ws.all goodWord = true) : GoodIn big ws := by
  intro w hw
  have h1 := List.all_eq_true.mp h w hw
  rw [hp] at hw
  obtain ⟨i, -, hi⟩ := List.mem_filterMap.mp hw
  have hm : w ∈ big := by first | exact List.mem_of_getElem? hi | exact List.getElem?_mem hi
  exact ⟨hm, good_of_word h1⟩
theorem goodIn_app {big a b : List Cond} (ha : GoodIn big a) (hb : GoodIn big b) : GoodIn big (a ++ b) := fun w h => (List.mem_append.mp h).elim (ha w) (hb w)
theorem goodIn_ca {big a b : List Cond} {c : Cond} (ha : GoodIn big (c :: a)) (hb : GoodIn big b) : GoodIn big (c :: (a ++ b)) := fun w h => (List.mem_cons.mp h).elim (fun e => ha w (List.mem_cons.mpr (Or.inl e))) (fun h => (List.mem_append.mp h).elim (fun h => ha w (List.mem_cons.mpr (Or.inr h))) (hb w))
theorem goodIn_sub {big ws : List Cond} (hm : ∀ w ∈ ws, w ∈ big) (h : ws.all goodWord = true) : GoodIn big ws := fun w hw => ⟨hm w hw, good_of_word (List.all_eq_true.mp h w hw)⟩
/-! ===== END ===== -/

/-! ===== BEGIN exceptions that leave a method, and their catching by the caller (launches without stack traces) ===== -/
section VXA
/-! The laws vx_back, vx_callV, vx_callS, vx_callSW, vx_throw0, vx_throwS follow proofs of the library, with one case more: JvmDerived/Free/Laws.lean (Back.of_free), Shelf42/LK1.lean (callV, callS), Shelf/KitTraced.lean (throwNew0V, throwNewS). -/
/-- where a method has thrown q: the class by its name, the cell, what was written, the world -/
def vx_T (XC : String → State → State → Prop) (st : State) (q : Addr) (t : State) (mc ms : Nat) (free : Addr → Prop) : Prop :=
  ∃ (E : String) (ce : Cell) (L : List Loc), XC E st t ∧ t.heap[q]? = some ce ∧ ce.vm = .none ∧ st.vm.findClass E = some ce.cls ∧ st.WarmedH t.vm ∧ st.sameButNew ({ t with vm := st.vm } : State) L mc ms ∧ ∀ z ∈ L, free z.base
def vx_Q (Qc : Array Value → State → Outcome → State → Prop) (XC : String → State → State → Prop) (mc ms : Nat) (free : Addr → Prop) : Array Value → State → Outcome → State → Prop := fun a st o t =>
  (Qc a st o t ∧ ∃ L, FrameEnd st o t L mc ms ∧ ∀ q ∈ L, free q.base) ∨ ∃ q, o = .threw q ∧ vx_T XC st q t mc ms free
/-- a callee that returns or throws -/
def vx_Met (l : Launch) (y : MethodName) (ws : List Cond) (rm : Room) (Pc : Array Value → State → Prop) (Qc : Array Value → State → Outcome → State → Prop) (XC : String → State → State → Prop) (mc ms : Nat) (free : Addr → Prop) : Prop :=
  MetFree l y (headSpec ws rm) Pc (fun _ _ _ _ _ => True) (vx_Q Qc XC mc ms free)
def vx_Post (XC : String → State → State → Prop) (mc ms : Nat) (free : Addr → Prop) : Pt → Array Value → Addr → Pt → Prop := fun A a q B =>
  ∃ (g : JFrame) (mk : MethodId) (t : State) (L : List Loc) (E : String) (ce : Cell), B.U.heap = t.heap ∧ B.U.vm = t.vm ∧ XC E (A.U.calling g mk a) t ∧ t.heap[q]? = some ce ∧ ce.vm = .none ∧ A.U.vm.findClass E = some ce.cls ∧ B.locs = A.locs ++ L ∧ (∀ z ∈ L, free z.base) ∧ B.cells = A.cells + mc ∧ B.slots = A.slots + ms
def vx_Back (l : Launch) (R : Room) (p : Program) (e : Env) (below : List Frame) (s : State) (sargs : Array Value) (y : MethodName) (len W9 : Nat)
    (Pre : Pt → Array Value → Prop) (Post : Pt → Array Value → Option Value → Pt → Prop) (PostX : Pt → Array Value → Addr → Pt → Prop) : Prop :=
  ∀ (m : MethodId) (meth : Method) (c : Code) (A : Pt) (g : JFrame) (ig : Instr) (mk : MethodId) (a : Array Value),
    Stand p l e R s m sargs below meth c A.U A.locs A.cells A.slots → g.method = m → g.locals.size = c.maxLocals → decode c.code g.pc = .ok (ig, len) →
    2 * g.monitorRoom + (g.stack.map fun v => v.category).sum ≤ W9 → A.U.methodNamed? y = some mk → Pre A a →
    (∃ (v : Option Value) (B : Pt), Stand p l e R s m sargs below meth c B.U B.locs B.cells B.slots ∧ Post A a v B ∧
      Steps p.tables e below (doInvoke e (A.U.setTop g) [] mk a).1 (B.U.setTop { g with pc := g.pc + len, stack := v.toList ++ g.stack })) ∨
    (∃ (q : Addr) (B : Pt), Stand p l e R s m sargs below meth c B.U B.locs B.cells B.slots ∧ PostX A a q B ∧
      Steps p.tables e below (doInvoke e (A.U.setTop g) [] mk a).1 ((B.U.setTop g).pushFrame (.throwing q)))
section Payer
variable {l : Launch} {R : Room} {p : Program} {e : Env} {below : List Frame} {s : State} {sargs : Array Value} {y : MethodName} {len W9 : Nat}
theorem vx_back {ws : List Cond} {rm : Room} {Pc : Array Value → State → Prop} {Qc : Array Value → State → Outcome → State → Prop} {XC : String → State → State → Prop} {mc ms : Nat} {free : Addr → Prop} {bytes : ByteArray} {maxL : Nat} {ret : Option FieldType}
    (hM : vx_Met l y ws rm Pc Qc XC mc ms free) (hblind : FrameBlind Pc) (hrc : rm.cells = mc) (hrs : rm.slots = ms)
    (hframes : rm.frames + 1 ≤ R.frames) (hlocals : W9 + (maxL + 11) + rm.locals ≤ R.locals)
    (hws : ∀ w ∈ ws, ∀ a' U, s.WarmedH U.vm → w.before a' U = true) (hcode : Cond.code y bytes maxL ret ∈ ws) (hinit : ∀ a' U, s.WarmedH U.vm → (Cond.initialized y.cls).before a' U = true) :
    vx_Back l R p e below s sargs y len W9 (PreOf R mc ms Pc) (PostOf Qc mc ms free) (vx_Post XC mc ms free) := by
  intro m meth c A g ig mk a X hg hsize hdg hW hn hp
  have h1 : (headSpec ws rm).pre.before a A.U = true := atoms_intro fun w hw => hws w hw _ _ X.warmed
  have h2 : (Cond.code y bytes maxL ret).before a A.U = true := hws _ hcode _ _ X.warmed
  have h3 : (Cond.initialized y.cls).before a A.U = true := hinit _ _ X.warmed
  have h4 : A.cells + (headSpec ws rm).room.cells ≤ R.cells := by rw [show (headSpec ws rm).room.cells = mc from hrc]; exact hp.1
  have h5 : A.slots + (headSpec ws rm).room.slots ≤ R.slots := by rw [show (headSpec ws rm).room.slots = ms from hrs]; exact hp.2.1
  have hPc : Pc a (A.U.calling g mk a) := hblind _ _ _ _ hp.2.2
  obtain ⟨U, Ls, c0, s0⟩ := A
  dsimp only [Pt.U, Pt.locs, Pt.cells, Pt.slots] at h1 h2 h3 h4 h5 X hn hPc ⊢
  obtain ⟨methY, cY, hmY, hcY, -, hlY, -, -, -, -⟩ := Cond.code_spec hn h2
  obtain ⟨kY, hkY, -⟩ := className_of_methodNamed hn
  have hinitY : kY.init = .initialized := Cond.initialized_spec (findClass_of_methodNamed hn) hkY h3
  have h : At U g.method c below := by rw [hg]; exact X.here
  have hlocals9 : W9 + (maxL + 11) + (headSpec ws rm).room.locals ≤ R.locals := hlocals
  have happ : (headSpec ws rm).appliesLoose y e.platform (U.calling g mk a) = true :=
    Spec.appliesLoose_calling (g := g) h hdg hn hkY hinitY
      (X.room_calling (g := g) (R' := (headSpec ws rm).room) hsize hmY hcY hframes (by rw [hlY]; omega) h4 h5) h1
  obtain ⟨mid, hmid⟩ := h.above
  have hfr : (U.setTop g).frames = (.java g :: mid) ++ below := by rw [State.frames_setTop' g h.top, hmid]; rfl
  obtain ⟨o, s₂, hsteps, -, hend, hq⟩ := Steps.callFree hM p X.admits X.cas X.clock (acts := []) hfr happ hPc trivial
  have hq' : vx_Q Qc XC mc ms free a (U.calling g mk a) o s₂ := hq
  rw [State.frames_setTop' g h.top] at hend
  obtain ⟨g₀, hg0⟩ := Option.isSome_iff_exists.mp h.top
  obtain ⟨r, hr⟩ := State.topJava?_eq_some.mp hg0
  have hr' : (({ U with heap := s₂.heap, slotsUsed := s₂.slotsUsed } : State).setVm s₂.vm).frames = .java g₀ :: r := hr
  rcases hq' with ⟨hqc, L, hfe, hL⟩ | ⟨q, rfl, E, ce, L, hx, hce, hcv, hcl, hW₂, hsm, hL⟩
  · obtain ⟨⟨v, rfl⟩, hW₂, e2, q2, q3, q4, q5, q6⟩ := id hfe
    have e3 : s₂ = ({ (U.calling g mk a).setFrames s₂.frames with heap := s₂.heap, slotsUsed := s₂.slotsUsed } : State).setVm s₂.vm := by
      have : s₂ = ({ s₂ with vm := (U.calling g mk a).vm } : State).setVm s₂.vm := rfl
      rw [e2] at this
      exact this
    obtain ⟨c₂, i₂, len₂, hc₂, hd₂, hf₂⟩ := hend
    have hW' : U.WarmedH s₂.vm := hW₂
    have hcc : c₂ = c := by
      have h1 : s₂.code? g.method = U.code? g.method := by
        rw [State.code?_eq, State.code?_eq, hW'.alike.method?]
      exact Option.some.inj (hc₂.symm.trans (h1.trans h.code))
    subst hcc
    have hlen : len₂ = len := by rw [hdg] at hd₂; cases hd₂; rfl
    subst hlen
    have hs₂ : s₂ = (({ U with heap := s₂.heap, slotsUsed := s₂.slotsUsed } : State).setVm s₂.vm).setTop { g with pc := g.pc + len₂, stack := v.toList ++ g.stack } := by
      refine e3.trans ?_
      rw [hf₂, State.calling_eq h.top, State.setFrames_setFrames, State.setTop_of_frames _ hr', hr]
      rfl
    have hsame : U.sameButNew ({ U with heap := s₂.heap, slotsUsed := s₂.slotsUsed } : State) L mc ms := by
      refine ⟨?_, q2, q3, q4, q5, q6⟩
      obtain ⟨t, ht, -⟩ := State.frames_cons hr
      show ({ U with heap := s₂.heap, slotsUsed := s₂.slotsUsed } : State) = { U.setFrames U.frames with heap := s₂.heap, slotsUsed := s₂.slotsUsed }
      rw [State.setFrames_self ht]
    subst hg
    refine Or.inl ⟨v, ⟨(({ U with heap := s₂.heap, slotsUsed := s₂.slotsUsed } : State).setVm s₂.vm), Ls ++ L, c0 + mc, s0 + ms⟩,
      ⟨X.admits, X.cas, X.clock, X.frames, X.room, X.hears, X.method, X.code, (X.here.setHeapUsed s₂.heap s₂.slotsUsed).setVm hW'.alike, X.tail, State.WarmedH.trans X.warmed hW', X.limits, X.bytes, X.same.trans (hsame.setVm s.vm)⟩,
      ⟨g, mk, s₂, L, rfl, rfl, hqc, rfl, hL, rfl, rfl⟩, ?_⟩
    show Steps p.tables e below _ ((({ U with heap := s₂.heap, slotsUsed := s₂.slotsUsed } : State).setVm s₂.vm).setTop { g with pc := g.pc + len₂, stack := v.toList ++ g.stack })
    rw [← hs₂]
    exact hsteps
  · obtain ⟨e2, q2, q3, q4, q5, q6⟩ := id hsm
    have e3 : s₂ = ({ (U.calling g mk a).setFrames s₂.frames with heap := s₂.heap, slotsUsed := s₂.slotsUsed } : State).setVm s₂.vm := by
      have : s₂ = ({ s₂ with vm := (U.calling g mk a).vm } : State).setVm s₂.vm := rfl
      rw [e2] at this
      exact this
    have hf₂ : s₂.frames = .throwing q :: .java g :: U.frames.tail := hend
    have hW' : U.WarmedH s₂.vm := hW₂
    have hs₂ : s₂ = ((({ U with heap := s₂.heap, slotsUsed := s₂.slotsUsed } : State).setVm s₂.vm).setTop g).pushFrame (.throwing q) := by
      refine e3.trans ?_
      rw [hf₂, State.calling_eq h.top, State.setFrames_setFrames, State.pushFrame, State.frames_setTop _ hr', State.setTop_of_frames _ hr', State.setFrames_setFrames, hr]
      rfl
    have hsame : U.sameButNew ({ U with heap := s₂.heap, slotsUsed := s₂.slotsUsed } : State) L mc ms := by
      refine ⟨?_, q2, q3, q4, q5, q6⟩
      obtain ⟨t, ht, -⟩ := State.frames_cons hr
      show ({ U with heap := s₂.heap, slotsUsed := s₂.slotsUsed } : State) = { U.setFrames U.frames with heap := s₂.heap, slotsUsed := s₂.slotsUsed }
      rw [State.setFrames_self ht]
    subst hg
    refine Or.inr ⟨q, ⟨(({ U with heap := s₂.heap, slotsUsed := s₂.slotsUsed } : State).setVm s₂.vm), Ls ++ L, c0 + mc, s0 + ms⟩,
      ⟨X.admits, X.cas, X.clock, X.frames, X.room, X.hears, X.method, X.code, (X.here.setHeapUsed s₂.heap s₂.slotsUsed).setVm hW'.alike, X.tail, State.WarmedH.trans X.warmed hW', X.limits, X.bytes, X.same.trans (hsame.setVm s.vm)⟩,
      ⟨g, mk, s₂, L, E, ce, rfl, rfl, hx, hce, hcv, hcl, rfl, hL, rfl, rfl⟩, ?_⟩
    show Steps p.tables e below _ (((({ U with heap := s₂.heap, slotsUsed := s₂.slotsUsed } : State).setVm s₂.vm).setTop g).pushFrame (.throwing q))
    rw [← hs₂]
    exact hsteps
end Payer
section Calls
variable {p : Program} {l : Launch} {e : Env} {R : Room} {s : State} {m : MethodId} {args : Array Value} {below : List Frame} {meth : Method} {c : Code} {T : State} {locs : List Loc} {cells slots : Nat}
theorem vx_callV (X : Stand p l e R s m args below meth c T locs cells slots) (hexec : p.tables.exec = Jvm.exec) {own C : String} {index : Nat} {y : MethodName} {bytes : ByteArray} {maxL : Nat} {ret : Option FieldType}
    (hown : s.vm.findClass own = some m.cls) (hlink : (Cond.methodLink own index y).before args s = true) (hinst : (Cond.instanceMethod y).before args s = true) (hsel : (Cond.selects C y y).before args s = true)
    (hcode : (Cond.code y bytes maxL ret).before args s = true) (hy : y.cls ≠ "java/lang/invoke/MethodHandle" ∧ y.cls ≠ "java/lang/invoke/VarHandle")
    {W9 : Nat} {Pre : Pt → Array Value → Prop} {Post : Pt → Array Value → Option Value → Pt → Prop} {PostX : Pt → Array Value → Addr → Pt → Prop} (hK : vx_Back l R p e below s args y 3 W9 Pre Post PostX)
    {b : Addr} {cellB : Cell} (hcell : T.heap[b]? = some cellB) (hobj : cellB.vm.isStatics = false) (hcls : s.vm.findClass C = some cellB.cls)
    {g : JFrame} (hg : g.method = m) (hsize : g.locals.size = c.maxLocals) {argsL rest : List Value} (hlen : ∀ sig, parseMethodDescriptor y.desc = some sig → argsL.length = sig.parameters.length)
    (hstack : g.stack = argsL.reverse ++ .ref b :: rest) (hW : 2 * g.monitorRoom + (rest.map fun v => v.category).sum ≤ W9) (hdg : decode c.code g.pc = .ok (.invokevirtual index, 3))
    (hpre : ∀ vm₁, s.WarmedH vm₁ → Pre ⟨T.setVm vm₁, locs, cells, slots⟩ (Value.ref b :: argsL).toArray) :
    (∃ (v : Option Value) (vm₁ : Vm) (B : Pt), s.WarmedH vm₁ ∧ Stand p l e R s m args below meth c B.U B.locs B.cells B.slots ∧ Post ⟨T.setVm vm₁, locs, cells, slots⟩ (Value.ref b :: argsL).toArray v B ∧
      ∀ target, Steps p.tables e below (B.U.setTop { g with pc := g.pc + 3, stack := v.toList ++ rest }) target → Steps p.tables e below (T.setTop g) target) ∨
    (∃ (q : Addr) (vm₁ : Vm) (B : Pt), s.WarmedH vm₁ ∧ Stand p l e R s m args below meth c B.U B.locs B.cells B.slots ∧ PostX ⟨T.setVm vm₁, locs, cells, slots⟩ (Value.ref b :: argsL).toArray q B ∧
      Steps p.tables e below (T.setTop g) ((B.U.setTop { g with stack := rest }).pushFrame (.throwing q))) := by
  obtain ⟨mk, methM, hnamed, hmethM, hstM, habM⟩ := Cond.instanceMethod_spec hinst
  obtain ⟨methM', cM, hmethM', -, -, -, -, -, -, hsigM⟩ := Cond.code_spec hnamed hcode
  cases hmethM.symm.trans hmethM'
  obtain ⟨c2, r2, m2, q1, q2, q3, q4, kP, hkP, hkPi⟩ := Cond.selects_spec hsel
  cases hcls.symm.trans q1
  cases (State.methodFound?_of_named hnamed hy).symm.trans q2
  cases hnamed.symm.trans q3
  have hselP : selectMethod e.platform s.vm cellB.cls mk = .method mk := by rw [Launch.admits_selectMethod X.admits]; exact q4
  obtain ⟨vm₁, X₁, hstep₁⟩ := X.invokevirtual hexec hown hlink hnamed hmethM hstM hkP hkPi hy (a := b) (cell := cellB) hcell
    (fun z h => by rw [h] at hobj; cases hobj) hselP hmethM habM hkP hkPi (g := g) hg (argsL := argsL) (rest := rest) (hlen _ hsigM) hstack hdg
  rcases hK m meth c ⟨T.setVm vm₁, locs, cells, slots⟩ { g with stack := rest } (.invokevirtual index) mk (Value.ref b :: argsL).toArray X₁ hg hsize hdg hW (X₁.named hnamed) (hpre vm₁ X₁.warmed) with ⟨v, B, X', hpost, hsteps⟩ | ⟨q, B, X', hpost, hsteps⟩
  · exact Or.inl ⟨v, vm₁, B, X₁.warmed, X', hpost, fun target h => hstep₁ _ fun acts => by rw [doInvoke_state]; exact hsteps.trans h⟩
  · exact Or.inr ⟨q, vm₁, B, X₁.warmed, X', hpost, hstep₁ _ fun acts => by rw [doInvoke_state]; exact hsteps⟩
theorem vx_callS (X : Stand p l e R s m args below meth c T locs cells slots) (hexec : p.tables.exec = Jvm.exec) {own : String} {index : Nat} {y : MethodName} {bytes : ByteArray} {maxL : Nat} {ret : Option FieldType}
    (hown : s.vm.findClass own = some m.cls) (hlink : (Cond.methodLink own index y).before args s = true) (hstat : (Cond.static y).before args s = true) (hinit : (Cond.initialized y.cls).before args s = true)
    (hcode : (Cond.code y bytes maxL ret).before args s = true) (hy : y.cls ≠ "java/lang/invoke/MethodHandle" ∧ y.cls ≠ "java/lang/invoke/VarHandle")
    {W9 : Nat} {Pre : Pt → Array Value → Prop} {Post : Pt → Array Value → Option Value → Pt → Prop} {PostX : Pt → Array Value → Addr → Pt → Prop} (hK : vx_Back l R p e below s args y 3 W9 Pre Post PostX)
    {g : JFrame} (hg : g.method = m) (hsize : g.locals.size = c.maxLocals) {argsL rest : List Value} (hlen : ∀ sig, parseMethodDescriptor y.desc = some sig → argsL.length = sig.parameters.length)
    (hstack : g.stack = argsL.reverse ++ rest) (hW : 2 * g.monitorRoom + (rest.map fun v => v.category).sum ≤ W9) (hdg : decode c.code g.pc = .ok (.invokestatic index, 3))
    (hpre : ∀ vm₁, s.WarmedH vm₁ → Pre ⟨T.setVm vm₁, locs, cells, slots⟩ argsL.toArray) :
    (∃ (v : Option Value) (vm₁ : Vm) (B : Pt), s.WarmedH vm₁ ∧ Stand p l e R s m args below meth c B.U B.locs B.cells B.slots ∧ Post ⟨T.setVm vm₁, locs, cells, slots⟩ argsL.toArray v B ∧
      ∀ target, Steps p.tables e below (B.U.setTop { g with pc := g.pc + 3, stack := v.toList ++ rest }) target → Steps p.tables e below (T.setTop g) target) ∨
    (∃ (q : Addr) (vm₁ : Vm) (B : Pt), s.WarmedH vm₁ ∧ Stand p l e R s m args below meth c B.U B.locs B.cells B.slots ∧ PostX ⟨T.setVm vm₁, locs, cells, slots⟩ argsL.toArray q B ∧
      Steps p.tables e below (T.setTop g) ((B.U.setTop { g with stack := rest }).pushFrame (.throwing q))) := by
  obtain ⟨mk, hnamed⟩ := Cond.code_named hcode
  obtain ⟨methM, cM, hmethM, -, -, -, -, -, -, hsigM⟩ := Cond.code_spec hnamed hcode
  have hstatic : methM.isStatic = true := Cond.static_spec hnamed hmethM hstat
  obtain ⟨kP, hkP, -⟩ := className_of_methodNamed hnamed
  have hinitP : kP.init = .initialized := Cond.initialized_spec (findClass_of_methodNamed hnamed) hkP hinit
  obtain ⟨vm₁, X₁, hstep₁⟩ := X.invokestatic hexec hown hlink hnamed hmethM hstatic hkP hinitP hy (g := g) hg (argsL := argsL) (rest := rest) (hlen _ hsigM) hstack hdg
  rcases hK m meth c ⟨T.setVm vm₁, locs, cells, slots⟩ { g with stack := rest } (.invokestatic index) mk argsL.toArray X₁ hg hsize hdg hW (X₁.named hnamed) (hpre vm₁ X₁.warmed) with ⟨v, B, X', hpost, hsteps⟩ | ⟨q, B, X', hpost, hsteps⟩
  · exact Or.inl ⟨v, vm₁, B, X₁.warmed, X', hpost, fun target h => hstep₁ _ fun acts => by rw [doInvoke_state]; exact hsteps.trans h⟩
  · exact Or.inr ⟨q, vm₁, B, X₁.warmed, X', hpost, hstep₁ _ fun acts => by rw [doInvoke_state]; exact hsteps⟩
end Calls
theorem vx_cls {s : State} {T : State} {vm₁ : Vm} {E : String} {k : ClassId} (hW : s.WarmedH vm₁) (h : (T.setVm vm₁).vm.findClass E = some k) : s.vm.findClass E = some k := by
  have h1 : vm₁.findClass E = some k := h
  rw [hW.alike.findClass] at h1
  exact h1
/-- the method's frame g, with q thrown over it -/
def vx_W (p : Program) (l : Launch) (e : Env) (R : Room) (s : State) (m : MethodId) (args : Array Value) (below : List Frame) (meth : Method) (c : Code) (H : Heap) (locs : List Loc) (cells slots : Nat) (Q : State → Prop) (g : JFrame) (q : Addr) : Prop :=
  ∀ T : State, T.heap = H → Stand p l e R s m args below meth c T locs cells slots → ∃ t, Steps p.tables e below ((T.setTop g).pushFrame (.throwing q)) t ∧ Q t
def vx_Run (p : Program) (l : Launch) (e : Env) (R : Room) (s : State) (m : MethodId) (args : Array Value) (below : List Frame) (meth : Method) (c : Code) (H : Heap) (locs : List Loc) (cells slots mc ms : Nat) (g : JFrame) (rest : List Value) (Qa : State → Outcome → State → Prop) (XC : String → State → State → Prop) (free : Addr → Prop) : Prop :=
  ∀ T : State, T.heap = H → Stand p l e R s m args below meth c T locs cells slots →
    (∃ (v : Option Value) (st₀ t T' : State) (L : List Loc), st₀.heap = H ∧ Stand p l e R s m args below meth c T' (locs ++ L) (cells + mc) (slots + ms) ∧ (∀ q ∈ L, free q.base) ∧ T'.heap = t.heap ∧ T'.vm = t.vm ∧ Qa st₀ (.returned v) t ∧
      Goes p e below T g T' { g with pc := g.pc + 3, stack := v.toList ++ rest }) ∨
    (∃ (q : Addr) (st₀ t T' : State) (L : List Loc) (E : String) (ce : Cell), st₀.heap = H ∧ Stand p l e R s m args below meth c T' (locs ++ L) (cells + mc) (slots + ms) ∧ (∀ z ∈ L, free z.base) ∧ T'.heap = t.heap ∧ T'.vm = t.vm ∧ XC E st₀ t ∧ t.heap[q]? = some ce ∧ ce.vm = .none ∧ s.vm.findClass E = some ce.cls ∧
      Steps p.tables e below (T.setTop g) ((T'.setTop { g with stack := rest }).pushFrame (.throwing q)))
def vx_X {S : Type} (px : S → Prop) (B : String → S → State → Prop) (A : Nat → Prop) : String → State → State → Prop := fun E st t => ∃ u : S, px u ∧ B E u t ∧ va_F A st t
section Runs
variable {p : Program} {l : Launch} {e : Env} {R : Room} {s : State} {m : MethodId} {args : Array Value} {below : List Frame} {meth : Method} {c : Code} {H : Heap} {locs : List Loc} {cells slots : Nat}
variable {y : MethodName} {bytes cc : ByteArray} {maxL nL mc ms n index : Nat} {ret : Option FieldType} {ws : List Cond} {rm : Room} {Pc : Array Value → State → Prop} {Qc : Array Value → State → Outcome → State → Prop} {XC : String → State → State → Prop} {free : Addr → Prop} {Ts : List Cond} {own C : String} {b : Addr} {As rest : List Value} {g : JFrame}
theorem vx_callBack (cb : CallB R s args own index y bytes maxL ret ws rm mc ms n) (hM : vx_Met l y ws rm Pc Qc XC mc ms free) (hbl : FrameBlind Pc) : vx_Back l R p e below s args y 3 8 (PreOf R mc ms Pc) (PostOf Qc mc ms free) (vx_Post XC mc ms free) := by
  obtain ⟨hrc, hrs, hfr, hlo, hws, hcw, -, hini, -⟩ := cb
  exact vx_back (bytes := bytes) (maxL := maxL) (ret := ret) hM hbl hrc hrs hfr hlo hws hcw (fun a' U hW => word_at hW (Or.inl (by first | rfl | simp [Cond.onTables, Cond.keeps, Cond.steady])) hini)
theorem vx_runV (S : CallFix p m c cc nL s args Ts own) (hM : vx_Met l y ws rm Pc Qc XC mc ms free) (cw : CallW R s args own C index y bytes maxL ret ws rm mc ms n) (hp : PreV s H C b Pc As)
    (hg : g.method = m) (hn : As.length = n) (hsize : g.locals.size = nL) (hstack : g.stack = As.reverse ++ .ref b :: rest) (hW : 2 * g.monitorRoom + (rest.map fun v => v.category).sum ≤ 8) (hdg : decode cc g.pc = .ok (.invokevirtual index, 3)) (hf : cells + mc ≤ R.cells ∧ slots + ms ≤ R.slots) :
    vx_Run p l e R s m args below meth c H locs cells slots mc ms g rest (Qc (Value.ref b :: As).toArray) XC free := by
  have hK : vx_Back l R p e below s args y 3 8 (PreOf R mc ms Pc) (PostOf Qc mc ms free) (vx_Post XC mc ms free) := vx_callBack cw.1 hM hp.1
  obtain ⟨⟨-, -, -, -, -, -, hcode, -, hy, hlen, hl⟩, hin, hse⟩ := cw
  obtain ⟨hx, hb, hml, ho, -⟩ := S
  obtain ⟨-, ⟨cellB, hcB, hoB, hclB⟩, hPc⟩ := hp
  intro T hT X
  rcases vx_callV X hx (C := C) (bytes := bytes) (maxL := maxL) (ret := ret) ho hl hin hse hcode hy hK (by rw [hT]; exact hcB) hoB hclB hg (hsize.trans hml.symm) (argsL := As) (rest := rest) (fun sig h => hn.trans (hlen sig h)) hstack hW (by rw [hb]; exact hdg)
    (fun vm₁ hW₁ => ⟨hf.1, hf.2, hPc (T.setVm vm₁) hT hW₁⟩) with ⟨v, vm₁, ⟨U', l2, c2, s2⟩, hW₁, X', ⟨g', mk, t, L, e1, e2, hq, h1, hL, h2, h3⟩, st⟩ | ⟨q, vm₁, ⟨U', l2, c2, s2⟩, hW₁, X', ⟨g', mk, t, L, E, ce, e1, e2, hq, hce, hcv, hcl, h1, hL, h2, h3⟩, st⟩
  · dsimp only [Pt.U, Pt.locs, Pt.cells, Pt.slots] at X' e1 e2 h1 h2 h3 st
    subst h1; subst h2; subst h3
    exact Or.inl ⟨v, (T.setVm vm₁).calling g' mk (Value.ref b :: As).toArray, t, U', L, hT, X', hL, e1, e2, hq, st⟩
  · dsimp only [Pt.U, Pt.locs, Pt.cells, Pt.slots] at X' e1 e2 h1 h2 h3 st hcl
    subst h1; subst h2; subst h3
    exact Or.inr ⟨q, (T.setVm vm₁).calling g' mk (Value.ref b :: As).toArray, t, U', L, E, ce, hT, X', hL, e1, e2, hq, hce, hcv, vx_cls hW₁ hcl, st⟩
theorem vx_runS (S : CallFix p m c cc nL s args Ts own) (hM : vx_Met l y ws rm Pc Qc XC mc ms free) (cw : CallB R s args own index y bytes maxL ret ws rm mc ms n ∧ (Cond.static y).before args s = true) (hp : PreS s H Pc As)
    (hg : g.method = m) (hn : As.length = n) (hsize : g.locals.size = nL) (hstack : g.stack = As.reverse ++ rest) (hW : 2 * g.monitorRoom + (rest.map fun v => v.category).sum ≤ 8) (hdg : decode cc g.pc = .ok (.invokestatic index, 3)) (hf : cells + mc ≤ R.cells ∧ slots + ms ≤ R.slots) :
    vx_Run p l e R s m args below meth c H locs cells slots mc ms g rest (Qc As.toArray) XC free := by
  have hK : vx_Back l R p e below s args y 3 8 (PreOf R mc ms Pc) (PostOf Qc mc ms free) (vx_Post XC mc ms free) := vx_callBack cw.1 hM hp.1
  obtain ⟨⟨-, -, -, -, -, -, hcode, hini, hy, hlen, hl⟩, hstt⟩ := cw
  obtain ⟨hx, hb, hml, ho, -⟩ := S
  intro T hT X
  rcases vx_callS X hx (bytes := bytes) (maxL := maxL) (ret := ret) ho hl hstt hini hcode hy hK hg (hsize.trans hml.symm) (argsL := As) (rest := rest) (fun sig h => hn.trans (hlen sig h)) hstack hW (by rw [hb]; exact hdg)
    (fun vm₁ hW₁ => ⟨hf.1, hf.2, hp.2 (T.setVm vm₁) hT hW₁⟩) with ⟨v, vm₁, ⟨U', l2, c2, s2⟩, hW₁, X', ⟨g', mk, t, L, e1, e2, hq, h1, hL, h2, h3⟩, st⟩ | ⟨q, vm₁, ⟨U', l2, c2, s2⟩, hW₁, X', ⟨g', mk, t, L, E, ce, e1, e2, hq, hce, hcv, hcl, h1, hL, h2, h3⟩, st⟩
  · dsimp only [Pt.U, Pt.locs, Pt.cells, Pt.slots] at X' e1 e2 h1 h2 h3 st
    subst h1; subst h2; subst h3
    exact Or.inl ⟨v, (T.setVm vm₁).calling g' mk As.toArray, t, U', L, hT, X', hL, e1, e2, hq, st⟩
  · dsimp only [Pt.U, Pt.locs, Pt.cells, Pt.slots] at X' e1 e2 h1 h2 h3 st hcl
    subst h1; subst h2; subst h3
    exact Or.inr ⟨q, (T.setVm vm₁).calling g' mk As.toArray, t, U', L, E, ce, hT, X', hL, e1, e2, hq, hce, hcv, vx_cls hW₁ hcl, st⟩
end Runs
section Rows
variable {p : Program} {l : Launch} {e : Env} {R : Room} {s : State} {m : MethodId} {args : Array Value} {below : List Frame} {meth : Method} {c : Code} {H : Heap} {locs : List Loc} {cells slots : Nat} {Q : State → Prop}
variable {mc ms : Nat} {free : Addr → Prop} {A0 A1 : Nat → Prop} {H0 : Heap} {a : Array Value} {pc : Nat} {ls : Array Slot} {st0 rest : List Value}
theorem vx_keep {st₀ t T' : State} {L : List Loc} (h0 : st₀.heap = H) (e1 : T'.heap = t.heap) (hS : va_S A0 H0 H locs) (hA : ∀ q, q < H.size → A1 q → A0 q) (hf : ∀ q, free q → A0 q) (hL : ∀ q ∈ L, free q.base) (hF : va_F A1 st₀ t) :
    H.size ≤ T'.heap.size ∧ (∀ q : Nat, q < H.size → ¬ A1 q → T'.heap[q]? = H[q]?) ∧ va_S A0 H0 T'.heap (locs ++ L) := by
  obtain ⟨hz, hk⟩ := hF
  rw [h0] at hz hk
  exact ⟨by rw [e1]; exact hz, fun q h1 h2 => by rw [e1]; exact hk q h1 h2,
    ⟨Nat.le_trans hS.1 (by rw [e1]; exact hz), fun q h1 h2 => by rw [e1, hk q (Nat.lt_of_lt_of_le h1 hS.1) (fun z => h2 (hA q (Nat.lt_of_lt_of_le h1 hS.1) z))]; exact hS.2.1 q h1 h2, fun q hq => by
      rcases List.mem_append.mp hq with h | h
      · exact hS.2.2 q h
      · exact hf _ (hL q h)⟩⟩
theorem vx_calli {S SX : Type} {post : Int32 → S → Prop} {px : SX → Prop} {B : S → State → Prop} {BX : String → SX → State → Prop} {AX : Nat → Prop} (hr : vx_Run p l e R s m args below meth c H locs cells slots mc ms (F0 m pc ls st0) rest (va_Qi post B A1 a) (vx_X px BX AX) free) (hS : va_S A0 H0 H locs) (hA : ∀ q, q < H.size → A1 q → A0 q) (hf : ∀ q, free q → A0 q) (hAX : ∀ q, q < H.size → AX q → A0 q)
    (kx : ∀ (E : String) (ce : Cell) (q9 : Addr) (u : SX) (t : State) (H1 : Heap) (locs1 : List Loc), t.heap = H1 → s.vm.Alike t.vm → px u → BX E u t → H.size ≤ H1.size → (∀ q : Nat, q < H.size → ¬ AX q → H1[q]? = H[q]?) → va_S A0 H0 H1 locs1 → H1[q9]? = some ce → ce.vm = .none → s.vm.findClass E = some ce.cls → vx_W p l e R s m args below meth c H1 locs1 (cells + mc) (slots + ms) Q (F0 m pc ls rest) q9)
    (kk : ∀ (r : Int32) (u : S) (t : State) (H1 : Heap) (locs1 : List Loc), t.heap = H1 → s.vm.Alike t.vm → post r u → B u t → H.size ≤ H1.size → (∀ q : Nat, q < H.size → ¬ A1 q → H1[q]? = H[q]?) → va_S A0 H0 H1 locs1 → W p l e R s m args below meth c H1 locs1 (cells + mc) (slots + ms) Q (F0 m (pc + 3) ls (.int r :: rest))) : W p l e R s m args below meth c H locs cells slots Q (F0 m pc ls st0) := by
  intro T hT X
  rcases hr T hT X with ⟨v, st₀, t, T', L, h0, X', hL, e1, e2, ⟨⟨r, u, hv, hp, hb⟩, hF⟩, st⟩ | ⟨q, st₀, t, T', L, E, ce, h0, X', hL, e1, e2, ⟨u, hp, hb, hF⟩, hce, hcv, hcl, st⟩
  · cases hv
    obtain ⟨k1, k2, k3⟩ := vx_keep h0 e1 hS hA hf hL hF
    obtain ⟨t2, a1, b1⟩ := kk r u t T'.heap (locs ++ L) e1.symm (by rw [← e2]; exact X'.warmed.alike) hp hb k1 k2 k3 T' rfl X'
    exact ⟨t2, st t2 a1, b1⟩
  · obtain ⟨k1, k2, k3⟩ := vx_keep h0 e1 hS hAX hf hL hF
    obtain ⟨t2, a1, b1⟩ := kx E ce q u t T'.heap (locs ++ L) e1.symm (by rw [← e2]; exact X'.warmed.alike) hp hb k1 k2 k3 (by rw [e1]; exact hce) hcv hcl T' rfl X'
    exact ⟨t2, st.trans a1, b1⟩
theorem vx_calll {S SX : Type} {post : Int64 → S → Prop} {px : SX → Prop} {B : S → State → Prop} {BX : String → SX → State → Prop} {AX : Nat → Prop} (hr : vx_Run p l e R s m args below meth c H locs cells slots mc ms (F0 m pc ls st0) rest (va_Ql post B A1 a) (vx_X px BX AX) free) (hS : va_S A0 H0 H locs) (hA : ∀ q, q < H.size → A1 q → A0 q) (hf : ∀ q, free q → A0 q) (hAX : ∀ q, q < H.size → AX q → A0 q)
    (kx : ∀ (E : String) (ce : Cell) (q9 : Addr) (u : SX) (t : State) (H1 : Heap) (locs1 : List Loc), t.heap = H1 → s.vm.Alike t.vm → px u → BX E u t → H.size ≤ H1.size → (∀ q : Nat, q < H.size → ¬ AX q → H1[q]? = H[q]?) → va_S A0 H0 H1 locs1 → H1[q9]? = some ce → ce.vm = .none → s.vm.findClass E = some ce.cls → vx_W p l e R s m args below meth c H1 locs1 (cells + mc) (slots + ms) Q (F0 m pc ls rest) q9)
    (kk : ∀ (r : Int64) (u : S) (t : State) (H1 : Heap) (locs1 : List Loc), t.heap = H1 → s.vm.Alike t.vm → post r u → B u t → H.size ≤ H1.size → (∀ q : Nat, q < H.size → ¬ A1 q → H1[q]? = H[q]?) → va_S A0 H0 H1 locs1 → W p l e R s m args below meth c H1 locs1 (cells + mc) (slots + ms) Q (F0 m (pc + 3) ls (.long r :: rest))) : W p l e R s m args below meth c H locs cells slots Q (F0 m pc ls st0) := by
  intro T hT X
  rcases hr T hT X with ⟨v, st₀, t, T', L, h0, X', hL, e1, e2, ⟨⟨r, u, hv, hp, hb⟩, hF⟩, st⟩ | ⟨q, st₀, t, T', L, E, ce, h0, X', hL, e1, e2, ⟨u, hp, hb, hF⟩, hce, hcv, hcl, st⟩
  · cases hv
    obtain ⟨k1, k2, k3⟩ := vx_keep h0 e1 hS hA hf hL hF
    obtain ⟨t2, a1, b1⟩ := kk r u t T'.heap (locs ++ L) e1.symm (by rw [← e2]; exact X'.warmed.alike) hp hb k1 k2 k3 T' rfl X'
    exact ⟨t2, st t2 a1, b1⟩
  · obtain ⟨k1, k2, k3⟩ := vx_keep h0 e1 hS hAX hf hL hF
    obtain ⟨t2, a1, b1⟩ := kx E ce q u t T'.heap (locs ++ L) e1.symm (by rw [← e2]; exact X'.warmed.alike) hp hb k1 k2 k3 (by rw [e1]; exact hce) hcv hcl T' rfl X'
    exact ⟨t2, st.trans a1, b1⟩
theorem vx_callf {S SX : Type} {post : UInt32 → S → Prop} {px : SX → Prop} {B : S → State → Prop} {BX : String → SX → State → Prop} {AX : Nat → Prop} (hr : vx_Run p l e R s m args below meth c H locs cells slots mc ms (F0 m pc ls st0) rest (va_Qf post B A1 a) (vx_X px BX AX) free) (hS : va_S A0 H0 H locs) (hA : ∀ q, q < H.size → A1 q → A0 q) (hf : ∀ q, free q → A0 q) (hAX : ∀ q, q < H.size → AX q → A0 q)
    (kx : ∀ (E : String) (ce : Cell) (q9 : Addr) (u : SX) (t : State) (H1 : Heap) (locs1 : List Loc), t.heap = H1 → s.vm.Alike t.vm → px u → BX E u t → H.size ≤ H1.size → (∀ q : Nat, q < H.size → ¬ AX q → H1[q]? = H[q]?) → va_S A0 H0 H1 locs1 → H1[q9]? = some ce → ce.vm = .none → s.vm.findClass E = some ce.cls → vx_W p l e R s m args below meth c H1 locs1 (cells + mc) (slots + ms) Q (F0 m pc ls rest) q9)
    (kk : ∀ (r : UInt32) (u : S) (t : State) (H1 : Heap) (locs1 : List Loc), t.heap = H1 → s.vm.Alike t.vm → post r u → B u t → H.size ≤ H1.size → (∀ q : Nat, q < H.size → ¬ A1 q → H1[q]? = H[q]?) → va_S A0 H0 H1 locs1 → W p l e R s m args below meth c H1 locs1 (cells + mc) (slots + ms) Q (F0 m (pc + 3) ls (.float r :: rest))) : W p l e R s m args below meth c H locs cells slots Q (F0 m pc ls st0) := by
  intro T hT X
  rcases hr T hT X with ⟨v, st₀, t, T', L, h0, X', hL, e1, e2, ⟨⟨r, u, hv, hp, hb⟩, hF⟩, st⟩ | ⟨q, st₀, t, T', L, E, ce, h0, X', hL, e1, e2, ⟨u, hp, hb, hF⟩, hce, hcv, hcl, st⟩
  · cases hv
    obtain ⟨k1, k2, k3⟩ := vx_keep h0 e1 hS hA hf hL hF
    obtain ⟨t2, a1, b1⟩ := kk r u t T'.heap (locs ++ L) e1.symm (by rw [← e2]; exact X'.warmed.alike) hp hb k1 k2 k3 T' rfl X'
    exact ⟨t2, st t2 a1, b1⟩
  · obtain ⟨k1, k2, k3⟩ := vx_keep h0 e1 hS hAX hf hL hF
    obtain ⟨t2, a1, b1⟩ := kx E ce q u t T'.heap (locs ++ L) e1.symm (by rw [← e2]; exact X'.warmed.alike) hp hb k1 k2 k3 (by rw [e1]; exact hce) hcv hcl T' rfl X'
    exact ⟨t2, st.trans a1, b1⟩
theorem vx_calld {S SX : Type} {post : UInt64 → S → Prop} {px : SX → Prop} {B : S → State → Prop} {BX : String → SX → State → Prop} {AX : Nat → Prop} (hr : vx_Run p l e R s m args below meth c H locs cells slots mc ms (F0 m pc ls st0) rest (va_Qd post B A1 a) (vx_X px BX AX) free) (hS : va_S A0 H0 H locs) (hA : ∀ q, q < H.size → A1 q → A0 q) (hf : ∀ q, free q → A0 q) (hAX : ∀ q, q < H.size → AX q → A0 q)
    (kx : ∀ (E : String) (ce : Cell) (q9 : Addr) (u : SX) (t : State) (H1 : Heap) (locs1 : List Loc), t.heap = H1 → s.vm.Alike t.vm → px u → BX E u t → H.size ≤ H1.size → (∀ q : Nat, q < H.size → ¬ AX q → H1[q]? = H[q]?) → va_S A0 H0 H1 locs1 → H1[q9]? = some ce → ce.vm = .none → s.vm.findClass E = some ce.cls → vx_W p l e R s m args below meth c H1 locs1 (cells + mc) (slots + ms) Q (F0 m pc ls rest) q9)
    (kk : ∀ (r : UInt64) (u : S) (t : State) (H1 : Heap) (locs1 : List Loc), t.heap = H1 → s.vm.Alike t.vm → post r u → B u t → H.size ≤ H1.size → (∀ q : Nat, q < H.size → ¬ A1 q → H1[q]? = H[q]?) → va_S A0 H0 H1 locs1 → W p l e R s m args below meth c H1 locs1 (cells + mc) (slots + ms) Q (F0 m (pc + 3) ls (.double r :: rest))) : W p l e R s m args below meth c H locs cells slots Q (F0 m pc ls st0) := by
  intro T hT X
  rcases hr T hT X with ⟨v, st₀, t, T', L, h0, X', hL, e1, e2, ⟨⟨r, u, hv, hp, hb⟩, hF⟩, st⟩ | ⟨q, st₀, t, T', L, E, ce, h0, X', hL, e1, e2, ⟨u, hp, hb, hF⟩, hce, hcv, hcl, st⟩
  · cases hv
    obtain ⟨k1, k2, k3⟩ := vx_keep h0 e1 hS hA hf hL hF
    obtain ⟨t2, a1, b1⟩ := kk r u t T'.heap (locs ++ L) e1.symm (by rw [← e2]; exact X'.warmed.alike) hp hb k1 k2 k3 T' rfl X'
    exact ⟨t2, st t2 a1, b1⟩
  · obtain ⟨k1, k2, k3⟩ := vx_keep h0 e1 hS hAX hf hL hF
    obtain ⟨t2, a1, b1⟩ := kx E ce q u t T'.heap (locs ++ L) e1.symm (by rw [← e2]; exact X'.warmed.alike) hp hb k1 k2 k3 (by rw [e1]; exact hce) hcv hcl T' rfl X'
    exact ⟨t2, st.trans a1, b1⟩
theorem vx_callv {S SX : Type} {post : S → Prop} {px : SX → Prop} {B : S → State → Prop} {BX : String → SX → State → Prop} {AX : Nat → Prop} (hr : vx_Run p l e R s m args below meth c H locs cells slots mc ms (F0 m pc ls st0) rest (va_Qv post B A1 a) (vx_X px BX AX) free) (hS : va_S A0 H0 H locs) (hA : ∀ q, q < H.size → A1 q → A0 q) (hf : ∀ q, free q → A0 q) (hAX : ∀ q, q < H.size → AX q → A0 q)
    (kx : ∀ (E : String) (ce : Cell) (q9 : Addr) (u : SX) (t : State) (H1 : Heap) (locs1 : List Loc), t.heap = H1 → s.vm.Alike t.vm → px u → BX E u t → H.size ≤ H1.size → (∀ q : Nat, q < H.size → ¬ AX q → H1[q]? = H[q]?) → va_S A0 H0 H1 locs1 → H1[q9]? = some ce → ce.vm = .none → s.vm.findClass E = some ce.cls → vx_W p l e R s m args below meth c H1 locs1 (cells + mc) (slots + ms) Q (F0 m pc ls rest) q9)
    (kk : ∀ (u : S) (t : State) (H1 : Heap) (locs1 : List Loc), t.heap = H1 → s.vm.Alike t.vm → post u → B u t → H.size ≤ H1.size → (∀ q : Nat, q < H.size → ¬ A1 q → H1[q]? = H[q]?) → va_S A0 H0 H1 locs1 → W p l e R s m args below meth c H1 locs1 (cells + mc) (slots + ms) Q (F0 m (pc + 3) ls (rest))) : W p l e R s m args below meth c H locs cells slots Q (F0 m pc ls st0) := by
  intro T hT X
  rcases hr T hT X with ⟨v, st₀, t, T', L, h0, X', hL, e1, e2, ⟨⟨u, hv, hp, hb⟩, hF⟩, st⟩ | ⟨q, st₀, t, T', L, E, ce, h0, X', hL, e1, e2, ⟨u, hp, hb, hF⟩, hce, hcv, hcl, st⟩
  · cases hv
    obtain ⟨k1, k2, k3⟩ := vx_keep h0 e1 hS hA hf hL hF
    obtain ⟨t2, a1, b1⟩ := kk u t T'.heap (locs ++ L) e1.symm (by rw [← e2]; exact X'.warmed.alike) hp hb k1 k2 k3 T' rfl X'
    exact ⟨t2, st t2 a1, b1⟩
  · obtain ⟨k1, k2, k3⟩ := vx_keep h0 e1 hS hAX hf hL hF
    obtain ⟨t2, a1, b1⟩ := kx E ce q u t T'.heap (locs ++ L) e1.symm (by rw [← e2]; exact X'.warmed.alike) hp hb k1 k2 k3 (by rw [e1]; exact hce) hcv hcl T' rfl X'
    exact ⟨t2, st.trans a1, b1⟩
/-- caught by the row x of this method's table; the rows ahead don't take it -/
theorem vx_catch {own name : String} {E : String} {ce : Cell} {q : Addr} (hown : s.vm.findClass own = some m.cls) (pre : List ExceptionTableEntry) (x : ExceptionTableEntry) (suf : List ExceptionTableEntry) (hsplit : c.exceptionTable.toList = pre ++ x :: suf)
    (hpass : ∀ z ∈ pre, covers z pc = false ∨ (z.catchType ≠ 0 ∧ ∃ nm : String, (Cond.classLink own z.catchType nm).before args s = true ∧ va_Nc E nm s)) (hx : covers x pc = true) (h0 : x.catchType ≠ 0)
    (hlink : (Cond.classLink own x.catchType name).before args s = true) (hcast : (Cond.castable E name).before args s = true) (hcell : H[q]? = some ce) (hv : ce.vm = .none) (hcl : s.vm.findClass E = some ce.cls)
    (kk : W p l e R s m args below meth c H locs cells slots Q (F0 m x.handlerPc ls [.ref q])) : vx_W p l e R s m args below meth c H locs cells slots Q (F0 m pc ls rest) q := by
  intro T hT X
  have hpl : e.platform.magicAccessors = ({} : Platform).magicAccessors := by rw [X.admits.platform]
  obtain ⟨c3, c4, hc3, hc4, hasg⟩ := Cond.castable_spec hcast
  cases Option.some.inj (hc3.symm.trans hcl)
  obtain ⟨c5, hc5, hcl5⟩ := Cond.classLink_spec hown hlink e.platform hpl
  cases Option.some.inj (hc4.symm.trans hc5)
  obtain ⟨vm', X', st⟩ := X.thenCaughtThrough q (g := F0 m pc ls rest) rfl (Steps.refl _) (by rw [hT]; exact hcell) (by rw [hv]; rfl) (by obtain ⟨k9, h9, -⟩ := Vm.findClass_spec hcl; exact ⟨k9, h9⟩) pre x suf hsplit
    (fun z hz => by
      rcases hpass z hz with h | ⟨hz0, nm, hl1, hn1⟩
      · exact Or.inl h
      · obtain ⟨c6, hc6, hcl6⟩ := Cond.classLink_spec hown hl1 e.platform hpl
        obtain ⟨a8, b8, h1, h2, h3⟩ := hn1
        cases Option.some.inj (h1.symm.trans hcl)
        cases Option.some.inj (h2.symm.trans hc6)
        exact Or.inr ⟨hz0, _, hcl6, h3⟩) hx (Or.inr ⟨h0, c4, hcl5, hasg⟩)
  obtain ⟨t, a1, b1⟩ := kk (T.setVm vm') hT X'
  exact ⟨t, st.trans a1, b1⟩
end Rows
section Ends
variable {p : Program} {l : Launch} {e : Env} {R : Room} {s : State} {m : MethodId} {args : Array Value} {below : List Frame} {meth : Method} {c : Code} {H : Heap} {locs : List Loc} {cells slots : Nat} {Q : State → Prop}
variable {mc ms : Nat} {free : Addr → Prop} {A0 A1 : Nat → Prop} {H0 : Heap} {a : Array Value} {ls : Array Slot} {st0 rest : List Value}
variable {Qc : Array Value → State → Outcome → State → Prop} {XC : String → State → State → Prop}
/-- what a body that may throw owes at its end -/
def vx_MQ (below : List Frame) (Qc : Array Value → State → Outcome → State → Prop) (XC : String → State → State → Prop) (a : Array Value) (s : State) (mc ms : Nat) (free : Addr → Prop) : State → Prop := fun t =>
  ∃ o, t.status = .running ∧ Ended t below o ∧ vx_Q Qc XC mc ms free a s o t
theorem vx_ret {g : JFrame} {mc ms : Nat} (k : W p l e R s m args below meth c H locs cells slots (MQ below Qc args s mc ms free) g) : W p l e R s m args below meth c H locs cells slots (vx_MQ below Qc XC args s mc ms free) g := by
  intro T hT X
  obtain ⟨t, a1, o, b1, b2, b3, b4⟩ := k T hT X
  exact ⟨t, a1, o, b1, b2, Or.inl ⟨b3, b4⟩⟩
/-- not caught here: it goes on to the caller -/
theorem vx_widen {g : JFrame} {q : Addr} {k n : Nat} (h1 : cells ≤ k) (h2 : slots ≤ n) (kk : vx_W p l e R s m args below meth c H locs k n Q g q) : vx_W p l e R s m args below meth c H locs cells slots Q g q := fun T hT X => kk T hT (stand_widen X h1 h2)
theorem vx_out {pc : Nat} {E : String} {ce : Cell} {q : Addr} {mc ms : Nat} (hout : ∀ x ∈ c.exceptionTable.toList, covers x pc = false) (hlocks : meth.locks = false) (hcell : H[q]? = some ce) (hv : ce.vm = .none) (hcl : s.vm.findClass E = some ce.cls)
    (hx : ∀ t : State, t.heap = H → s.vm.Alike t.vm → XC E s t) (hf : ∀ z ∈ locs, free z.base) (hc : cells ≤ mc) (hs : slots ≤ ms) :
    vx_W p l e R s m args below meth c H locs cells slots (vx_MQ below Qc XC args s mc ms free) (F0 m pc ls rest) q := by
  intro T hT X
  obtain ⟨st1, hrun, hend, hW, hsm⟩ := X.leaveThrown q (g := F0 m pc ls rest) rfl rfl rfl hout hlocks
  have hcell9 : (T.setFrames (.throwing q :: below)).heap[q]? = some ce := by
    show T.heap[q]? = some ce
    rw [hT]; exact hcell
  exact ⟨_, st1, .threw q, hrun, hend, Or.inr ⟨q, rfl, E, ce, locs, hx _ hT hW.alike, hcell9, hv, hcl, hW, hsm.mono hc hs, hf⟩⟩
theorem vx_frame {U : State} {k n : Nat} (h : s.sameButNew ({ U with vm := s.vm } : State) locs k n) : s.heap.size ≤ U.heap.size ∧ ∀ q : Nat, q < s.heap.size → (∀ z ∈ locs, z.base ≠ q) → U.heap[q]? = s.heap[q]? := by
  obtain ⟨-, h2, -, -, -, h6⟩ := h
  refine ⟨h2, fun q hq hz => ?_⟩
  obtain ⟨c9, e1, e2, e3, e4⟩ := h6 q _ (Array.getElem?_eq_getElem hq)
  have hs : c9.slots = (s.heap[q]).slots := Array.ext_getElem? fun i => e4 i fun hm => hz _ hm rfl
  have h9 : c9 = s.heap[q] := by
    rw [hs] at e2
    exact e2
  have e5 : U.heap[q]? = some c9 := e1
  rw [e5, h9, Array.getElem?_eq_getElem hq]
/-- the words of a throw but the four that speak of the heap -/
def vx_no (w : Cond) : Bool := decide (w ≠ .isRef (.static Bundle.tN "UNASSIGNED_STACK" Bundle.steD)) && decide (w ≠ .isRef (.static Bundle.tN "SUPPRESSED_SENTINEL" Bundle.listD)) && decide (w ≠ .laysStatic Bundle.tN "UNASSIGNED_STACK" Bundle.steD) && decide (w ≠ .laysStatic Bundle.tN "SUPPRESSED_SENTINEL" Bundle.listD)
def vx_at0 (own : String) (ic : Nat) (X : String) (names : List String) : List Cond := (Bundle.ownAtoms0 own ic X names).filter vx_no
def vx_atS (own : String) (ic : Nat) (X : String) (names : List String) : List Cond := (Bundle.ownAtoms own ic X names).filter vx_no
/-- a word that the tables alone decide, or a good one -/
def vx_ot (w : Cond) : Bool := w.onTables || goodWord w
theorem vx_ot_at {args a' : Array Value} {s U : State} {w : Cond} (hW : s.WarmedH U.vm) (hvm : s.vm = U.vm) (hg : vx_ot w = true) (h : w.before args s = true) : w.before a' U = true := by
  simp only [vx_ot, Bool.or_eq_true] at hg
  rcases hg with hg | hg
  · exact va_tabs hg hvm h
  · exact word_at hW (good_of_word hg) h
/-- a list's words: the good ones out of the method's own list, the others by premises of their own -/
theorem vx_hat {args : Array Value} {s : State} {L B : List Cond} (h1 : ∀ w ∈ L.filter goodWord, w.before args s = true) (h2 : ∀ w ∈ L.filter (fun w => !goodWord w), w ∈ B) (h3 : ∀ w ∈ B, w.before args s = true) : ∀ w ∈ L, w.before args s = true := by
  intro w hw
  by_cases g : goodWord w = true
  · exact h1 w (List.mem_filter.mpr ⟨hw, g⟩)
  · refine h3 w (h2 w (List.mem_filter.mpr ⟨hw, ?_⟩))
    show (!goodWord w) = true
    cases hgw : goodWord w
    · rfl
    · exact absurd hgw g
theorem vx_c {args : Array Value} {s : State} {w : Cond} {B : List Cond} (h : w.before args s = true) (t : ∀ w ∈ B, w.before args s = true) : ∀ w' ∈ w :: B, w'.before args s = true := fun w' h' => (List.mem_cons.mp h').elim (fun e => by rw [e]; exact h) (t w')
theorem vx_n {args : Array Value} {s : State} : ∀ w ∈ ([] : List Cond), w.before args s = true := fun _ h => nomatch h
theorem vx_own {args : Array Value} {s : State} {L : List Cond} (h1 : ∀ w ∈ L.filter vx_no, w.before args s = true)
    (hU : (Cond.isRef (.static Bundle.tN "UNASSIGNED_STACK" Bundle.steD)).before args s = true) (hN : (Cond.isRef (.static Bundle.tN "SUPPRESSED_SENTINEL" Bundle.listD)).before args s = true)
    (lU : (Cond.laysStatic Bundle.tN "UNASSIGNED_STACK" Bundle.steD).before args s = true) (lN : (Cond.laysStatic Bundle.tN "SUPPRESSED_SENTINEL" Bundle.listD).before args s = true) : ∀ w ∈ L, w.before args s = true := by
  intro w hw
  by_cases e1 : w = .isRef (.static Bundle.tN "UNASSIGNED_STACK" Bundle.steD)
  · rw [e1]; exact hU
  · by_cases e2 : w = .isRef (.static Bundle.tN "SUPPRESSED_SENTINEL" Bundle.listD)
    · rw [e2]; exact hN
    · by_cases e3 : w = .laysStatic Bundle.tN "UNASSIGNED_STACK" Bundle.steD
      · rw [e3]; exact lU
      · by_cases e4 : w = .laysStatic Bundle.tN "SUPPRESSED_SENTINEL" Bundle.listD
        · rw [e4]; exact lN
        · exact h1 w (List.mem_filter.mpr ⟨hw, by unfold vx_no; rw [decide_eq_true e1, decide_eq_true e2, decide_eq_true e3, decide_eq_true e4]; rfl⟩)
/-- where a static field lies, its class's statics cell in H -/
def vx_L (C n d : String) (A : Nat → Prop) (U : State) (H : Heap) : Prop := ∃ (c : ClassId) (k : Class) (i : Nat) (f : Field) (a : Nat) (cell : Cell), U.vm.findClass C = some c ∧ U.fieldFound? C n d = some (c, k, i, f) ∧ f.isStatic = true ∧ k.statics = some a ∧ H[a]? = some cell ∧ cell.vm.isStatics = true ∧ cell.cls = c ∧ f.slot < cell.slots.size ∧ k.staticTypes[f.slot]? = some f.type ∧ ¬ A a
theorem vx_L.moved {C n d : String} {A : Nat → Prop} {u U : State} {H : Heap} (hvm : u.vm.Alike U.vm) (h : vx_L C n d A u H) : vx_L C n d A U H := by
  obtain ⟨c, k, i, f, a, cell, h1, h2, h3, h4, h5, h6, h7, h8, h9, h10⟩ := h
  obtain ⟨k', hi', he⟩ := State.fieldFound?_setVm hvm h2
  exact ⟨c, k', i, f, a, cell, by rw [hvm.findClass]; exact h1, hi', h3, by rw [he]; exact h4, h5, h6, h7, h8, by rw [he]; exact h9, h10⟩
theorem vx_L.kept {C n d : String} {A : Nat → Prop} {U : State} {H H1 : Heap} (h : vx_L C n d A U H) (hq : ∀ a : Nat, a < H.size → ¬ A a → H1[a]? = H[a]?) : vx_L C n d A U H1 := by
  obtain ⟨c, k, i, f, a, cell, h1, h2, h3, h4, h5, h6, h7, h8, h9, h10⟩ := h
  exact ⟨c, k, i, f, a, cell, h1, h2, h3, h4, by rw [hq a (Array.getElem?_eq_some_iff.mp h5).1 h10]; exact h5, h6, h7, h8, h9, h10⟩
theorem vx_L.narrow {C n d : String} {A B : Nat → Prop} {U : State} {H : Heap} (h : vx_L C n d A U H) (hAB : ∀ q, B q → A q) : vx_L C n d B U H := by
  obtain ⟨c, k, i, f, a, cell, h1, h2, h3, h4, h5, h6, h7, h8, h9, h10⟩ := h
  exact ⟨c, k, i, f, a, cell, h1, h2, h3, h4, h5, h6, h7, h8, h9, fun z => h10 (hAB _ z)⟩
theorem vx_L.word {C n d : String} {A : Nat → Prop} {s : State} {args : Array Value} (h : vx_L C n d A s s.heap) : (Cond.laysStatic C n d).before args s = true := by
  obtain ⟨c, k, i, f, a, cell, h1, h2, h3, h4, h5, h6, h7, h8, h9, -⟩ := h
  show (Cond.laysStatic C n d).holds args s none s [] = true
  exact Cond.laysStatic_of h1 h2 h3 h4 h5 h6 h7 h8 h9
/-- .. and what it holds: null or some reference -/
def vx_Zq (C n d : String) (A : Nat → Prop) (U : State) (H : Heap) : Prop := va_Zq C n d A U H ∧ vx_L C n d A U H
theorem vx_Zq.moved {C n d : String} {A : Nat → Prop} {u U : State} {H : Heap} (hvm : u.vm.Alike U.vm) (h : vx_Zq C n d A u H) : vx_Zq C n d A U H := ⟨va_Zq.moved hvm h.1, vx_L.moved hvm h.2⟩
theorem vx_Zq.kept {C n d : String} {A : Nat → Prop} {U : State} {H H1 : Heap} (h : vx_Zq C n d A U H) (hq : ∀ a : Nat, a < H.size → ¬ A a → H1[a]? = H[a]?) : vx_Zq C n d A U H1 := ⟨va_Zq.kept h.1 hq, vx_L.kept h.2 hq⟩
theorem vx_Zq.narrow {C n d : String} {A B : Nat → Prop} {U : State} {H : Heap} (h : vx_Zq C n d A U H) (hAB : ∀ q, B q → A q) : vx_Zq C n d B U H := ⟨va_Zq.narrow h.1 hAB, vx_L.narrow h.2 hAB⟩
theorem vx_Zqof {args : Array Value} {s : State} {C n d : String} {A : Nat → Prop} (hl : (Cond.laysStatic C n d).before args s = true) (hini : (Cond.initialized C).before args s = true) (h : (Cond.isRef (.static C n d)).before args s = true) (hA : ∀ a : Nat, a < s.heap.size → ¬ A a) : vx_Zq C n d A s s.heap := by
  refine ⟨va_Zqof hl hini h hA, ?_⟩
  obtain ⟨c, k, i, f, a, cell, h1, h2, h3, h4, h5, h6, h7, h8, h9⟩ := Cond.laysStatic_spec hl
  exact ⟨c, k, i, f, a, cell, h1, h2, h3, h4, h5, h6, h7, h8, h9, hA a (Array.getElem?_eq_some_iff.mp h5).1⟩
theorem vx_isRef {C n d : String} {v : Value} {A : Nat → Prop} {s : State} {args : Array Value} (h : va_Z C n d v A s s.heap) (hv : v.isRef = true) : (Cond.isRef (.static C n d)).before args s = true := by
  obtain ⟨cf, kf, fi, f, a, cell, h1, h2, h3, h4, h5, h6, h7, -⟩ := h
  have he : (Term.static C n d).eval args s none [] s = some v := by
    simp [Term.eval, State.fieldNamed?, h1, h2, h4, h5, h6, h7]
  simp only [Cond.before, Cond.holds, Cond.value, he]
  cases v <;> simp_all [Value.isRef]
theorem vx_isRefq {C n d : String} {A : Nat → Prop} {s : State} {args : Array Value} (h : va_Zq C n d A s s.heap) : (Cond.isRef (.static C n d)).before args s = true := by
  rcases h with h | ⟨t, h⟩
  · exact vx_isRef h rfl
  · exact vx_isRef h rfl
/-- the same frame, seen from here: as if the method were called anew in this heap -/
theorem vx_rebase {T : State} (X : Stand p l e R s m args below meth c T locs cells slots) {R' : Room} (hf : R'.frames ≤ R.frames) (hl : R'.locals ≤ R.locals) (hc : cells + R'.cells ≤ R.cells) (hs : slots + R'.slots ≤ R.slots) :
    Stand p l e R' ((T.setVm s.vm).setFrames (.invoking m args :: below)) m args below meth c T [] 0 0 := by
  have htop : (T.setVm s.vm).topJava?.isSome := X.here.top
  have hF : ((T.setVm s.vm).setFrames (.invoking m args :: below)).frames = .invoking m args :: below := State.frames_setFrames _ (State.cur_lt_of_top htop)
  obtain ⟨g₀, hg0⟩ := Option.isSome_iff_exists.mp htop
  obtain ⟨r, hr⟩ := State.topJava?_eq_some.mp hg0
  have hl9 : e.platform.stackLimits (T.setVm s.vm).me = e.platform.stackLimits s.me := X.limits
  have hb9 : (T.setVm s.vm).me.stackBytes = s.me.stackBytes := X.bytes
  refine ⟨X.admits, X.cas, X.clock, hF, ?_, X.hears, X.method, X.code, X.here, X.tail, X.warmed, ?_, ?_, ?_⟩
  · have h := X.room
    have hU : ((T.setVm s.vm).setFrames (.invoking m args :: below)).localsInUse = s.localsInUse := by
      rw [State.localsInUse_invoking hF (meth := meth) (c := c) X.method X.code, State.localsInUse_invoking X.frames X.method X.code]
    simp only [State.hasRoom, Bool.and_eq_true, decide_eq_true_eq] at h ⊢
    obtain ⟨⟨⟨⟨h1, h2, h3, h4, h5, h6⟩, h7⟩, h8⟩, h9⟩ := h
    rw [X.frames, List.length_cons] at h2 h3
    have q1 := X.heapSize
    have q2 := X.used
    simp only [hF, hU, List.length_cons, State.stackLimits_setFrames, State.stackBytes_setFrames, hl9, hb9]
    refine ⟨⟨⟨⟨by omega, by omega, by omega, by omega, by omega, h6⟩, ?_⟩, ?_⟩, X.book⟩
    · show T.heap.size + R'.cells ≤ e.platform.maxCells
      omega
    · show T.slotsUsed + R'.slots ≤ e.platform.maxSlots
      omega
  · rw [State.stackLimits_setFrames]; rfl
  · rw [State.stackBytes_setFrames]; rfl
  · refine ⟨?_, Nat.le_refl _, Nat.le_refl _, ?_, ?_, fun a c9 h9 => ⟨c9, h9, rfl, rfl, fun _ _ => rfl⟩⟩
    · obtain ⟨t, ht, -⟩ := State.frames_cons hr
      show T.setVm s.vm = { ((T.setVm s.vm).setFrames (.invoking m args :: below)).setFrames (T.setVm s.vm).frames with heap := T.heap, slotsUsed := T.slotsUsed }
      rw [State.setFrames_setFrames, State.setFrames_self ht]
      rfl
    · show T.slotsUsed = T.slotsUsed + ((T.heap.toList.drop T.heap.size).map (·.slots.size)).sum
      rw [List.drop_eq_nil_of_le (Nat.le_of_eq Array.length_toList)]
      rfl
    · show ((T.heap.toList.drop T.heap.size).map (·.slots.size)).sum ≤ 0
      rw [List.drop_eq_nil_of_le (Nat.le_of_eq Array.length_toList)]
      exact Nat.le_refl _
/-- 'throw new E()': new; dup; invokespecial; athrow -/
theorem vx_throw0 {cc : ByteArray} {pc : Nat} (hexec : p.tables.exec = Jvm.exec) (hb : c.code = cc) (hl : l.stackTraces = false) {own cls : String} {names : List String} {ik ic mc ms : Nat} {A : Nat → Prop}
    (hown : s.vm.findClass own = some m.cls) (hcls : Bundle.fit cls = true) (hnames : ∀ n ∈ names, Bundle.fit n = true)
    (hk : (Cond.classLink own ik cls).before args s = true) (hini : (Cond.initialized cls).before args s = true) (hat : ∀ w ∈ vx_at0 own ic cls names, w.before args s = true)
    (hgood : ∀ w ∈ Cond.classLink own ik cls :: Cond.initialized cls :: vx_at0 own ic cls names, vx_ot w = true)
    (hU : vx_Zq Bundle.tN "UNASSIGNED_STACK" Bundle.steD A s s.heap) (hN : vx_Zq Bundle.tN "SUPPRESSED_SENTINEL" Bundle.listD A s s.heap) (hS : va_S A s.heap H locs) (hsize : ls.size = c.maxLocals)
    (d0 : decode cc pc = .ok (.new ik, 3)) (d3 : decode cc (pc + 3) = .ok (.dup, 1)) (d4 : decode cc (pc + 4) = .ok (.invokespecial ic, 3)) (d7 : decode cc (pc + 7) = .ok (.athrow, 1))
    (hout : ∀ x ∈ c.exceptionTable.toList, covers x (pc + 7) = false)
    (hRframes : names.length + 3 < R.frames) (hRlocals : (rest.map fun v => v.category).sum + (13 * (names.length + 1) + 42) ≤ R.locals) (hRcells : cells + 1 ≤ R.cells) (hRslots : slots + 6 ≤ R.slots) (hlocks : meth.locks = false)
    (hx : ∀ t : State, s.vm.Alike t.vm → H.size ≤ t.heap.size → (∀ q : Nat, q < H.size → t.heap[q]? = H[q]?) → XC cls s t)
    (hf : ∀ z ∈ locs, free z.base) (hc : cells + 1 ≤ mc) (hs : slots + 6 ≤ ms) :
    W p l e R s m args below meth c H locs cells slots (vx_MQ below Qc XC args s mc ms free) (F0 m pc ls rest) := by
  intro T hT X
  have htr : e.platform.stackTraces = false := (show e.platform.stackTraces = l.stackTraces by rw [X.admits.platform]).trans hl
  have Y := vx_rebase X (R' := { frames := R.frames, locals := R.locals, cells := 1, slots := 6 }) (Nat.le_refl _) (Nat.le_refl _) hRcells hRslots
  obtain ⟨s', hA⟩ : ∃ z, z = (T.setVm s.vm).setFrames (.invoking m args :: below) := ⟨_, rfl⟩
  rw [← hA] at Y
  have hvm : s'.vm = s.vm := by rw [hA]; rfl
  have hhp : s'.heap = H := by rw [hA]; exact hT
  have hW0 : s.WarmedH s'.vm := by rw [hvm]; exact State.WarmedH.refl s
  have hat' : ∀ w ∈ vx_at0 own ic cls names, w.before args s' = true := fun w hw => vx_ot_at hW0 hvm.symm (hgood w (List.mem_cons_of_mem _ (List.mem_cons_of_mem _ hw))) (hat w hw)
  have hk' : (Cond.classLink own ik cls).before args s' = true := vx_ot_at hW0 hvm.symm (hgood _ List.mem_cons_self) hk
  have hini' : (Cond.initialized cls).before args s' = true := vx_ot_at hW0 hvm.symm (hgood _ (List.mem_cons_of_mem _ List.mem_cons_self)) hini
  have hU' : vx_Zq Bundle.tN "UNASSIGNED_STACK" Bundle.steD A s' s'.heap := by rw [hhp]; exact vx_Zq.moved hW0.alike (hU.kept hS.2.1)
  have hN' : vx_Zq Bundle.tN "SUPPRESSED_SENTINEL" Bundle.listD A s' s'.heap := by rw [hhp]; exact vx_Zq.moved hW0.alike (hN.kept hS.2.1)
  have h : ∀ w ∈ Bundle.ownAtoms0 own ic cls names, w.before args s' = true := vx_own hat' (vx_isRefq hU'.1) (vx_isRefq hN'.1) hU'.2.word hN'.2.word
  have hown' : s'.vm.findClass own = some m.cls := by rw [hvm]; exact hown
  have hins : (Cond.instantiable cls 6).before args s' = true := h _ (by simp [Bundle.ownAtoms0])
  obtain ⟨vm₁, cX, kX, hfX, hkX, -, -, X₁, st1⟩ := Y.newCold hexec (own := own) (C := cls) (index := ik) (n := 6) hown' hk' hins hini'
    (g := F0 m pc ls rest) rfl (by rw [hb]; exact d0) (Nat.le_refl _) (Nat.le_refl _)
  generalize hT1 : (T.setVm vm₁).pushCell { cls := cX, slots := kX.instanceTypes.map defaultValue, vm := .none } = T1 at X₁ st1
  have hcat : (Value.ref T.heap.size).category = 1 := rfl
  have hcellA : T1.heap[T.heap.size]? = some (freshCell cX kX) := by rw [← hT1]; exact State.heap_pushCell_size _ _
  have d3' : decode c.code (pc + 3) = .ok (.dup, 1) := by rw [hb]; exact d3
  obtain ⟨U, hsteps, hrun, hend, hW, hsame, ce, hce, hO⟩ := X₁.ctorThrow0 hexec htr (own := own) (cls := cls) (names := names) (ic := ic) hown' hcls hnames h (fun x hx => nomatch hx) hfX hkX hcellA (by rw [hhp, hT]; exact Nat.le_refl _)
    (g := { method := m, pc := pc + 4, locals := ls, stack := .ref T.heap.size :: .ref T.heap.size :: rest, locked := none }) rfl hsize rfl rfl (rest := rest) rfl
    (by rw [hb]; exact d4) (by rw [hb]; exact d7) hout hRframes (by simp only [List.map_cons, List.sum_cons, hcat]; omega) hlocks
  obtain ⟨f1, f2⟩ := vx_frame hsame
  rw [hhp] at f1 f2
  have hWs : s.WarmedH U.vm := State.WarmedH.trans hW0 hW
  have hcl : s.vm.findClass cls = some ce.cls := by
    have h9 := hO.cls
    rw [hvm] at h9
    exact h9
  have hall : s.sameButNew ({ U with vm := s.vm } : State) locs mc ms := by
    subst hA
    obtain ⟨e1, e2⟩ := hsame
    rw [State.setFrames_setFrames] at e1
    have h2 : (T.setVm s.vm).sameButNew ({ U with vm := s.vm } : State) [] (0 + 1) (0 + 6) := ⟨e1, e2⟩
    have h3 := X.same.trans h2
    rw [List.append_nil] at h3
    exact h3.mono hc hs
  refine ⟨U, ?_, .threw T.heap.size, hrun, hend, Or.inr ⟨T.heap.size, rfl, cls, ce, locs, hx U hWs.alike f1 (fun q hq => f2 q hq (fun z hz => nomatch hz)), hce, hO.vm, hcl, hWs, hall, hf⟩⟩
  refine st1 _ ?_
  show Steps p.tables e below (T1.setTop { method := m, pc := pc + 3, locals := ls, stack := .ref T.heap.size :: rest, locked := none }) _
  jvm_step X₁.here [X₁.here.top, hexec, d3', Value.category]
  exact hsteps
/-- 'throw new E("text")': new; dup; ldc; invokespecial; athrow -/
theorem vx_throwS {cc : ByteArray} {pc : Nat} (hexec : p.tables.exec = Jvm.exec) (hb : c.code = cc) (hl : l.stackTraces = false) {own cls text : String} {names : List String} {ik is ic mc ms sa : Nat} {A : Nat → Prop}
    (hown : s.vm.findClass own = some m.cls) (hcls : Bundle.fit cls = true) (hnames : ∀ n ∈ names, Bundle.fit n = true)
    (hk : (Cond.classLink own ik cls).before args s = true) (hini : (Cond.initialized cls).before args s = true) (hstr : vk_R own is text sa s) (hat : ∀ w ∈ vx_atS own ic cls names, w.before args s = true)
    (hgood : ∀ w ∈ Cond.classLink own ik cls :: Cond.initialized cls :: vx_atS own ic cls names, vx_ot w = true)
    (hU : vx_Zq Bundle.tN "UNASSIGNED_STACK" Bundle.steD A s s.heap) (hN : vx_Zq Bundle.tN "SUPPRESSED_SENTINEL" Bundle.listD A s s.heap) (hS : va_S A s.heap H locs) (hsize : ls.size = c.maxLocals)
    (d0 : decode cc pc = .ok (.new ik, 3)) (d3 : decode cc (pc + 3) = .ok (.dup, 1)) (d4 : decode cc (pc + 4) = .ok (.ldc is, 2)) (d6 : decode cc (pc + 6) = .ok (.invokespecial ic, 3)) (d9 : decode cc (pc + 9) = .ok (.athrow, 1))
    (hout : ∀ x ∈ c.exceptionTable.toList, covers x (pc + 9) = false)
    (hRframes : names.length + 3 < R.frames) (hRlocals : (rest.map fun v => v.category).sum + (13 * (names.length + 1) + 43) ≤ R.locals) (hRcells : cells + 1 ≤ R.cells) (hRslots : slots + 6 ≤ R.slots) (hlocks : meth.locks = false)
    (hx : ∀ t : State, s.vm.Alike t.vm → H.size ≤ t.heap.size → (∀ q : Nat, q < H.size → t.heap[q]? = H[q]?) → XC cls s t)
    (hf : ∀ z ∈ locs, free z.base) (hc : cells + 1 ≤ mc) (hs : slots + 6 ≤ ms) :
    W p l e R s m args below meth c H locs cells slots (vx_MQ below Qc XC args s mc ms free) (F0 m pc ls rest) := by
  intro T hT X
  have htr : e.platform.stackTraces = false := (show e.platform.stackTraces = l.stackTraces by rw [X.admits.platform]).trans hl
  have Y := vx_rebase X (R' := { frames := R.frames, locals := R.locals, cells := 1, slots := 6 }) (Nat.le_refl _) (Nat.le_refl _) hRcells hRslots
  obtain ⟨s', hA⟩ : ∃ z, z = (T.setVm s.vm).setFrames (.invoking m args :: below) := ⟨_, rfl⟩
  rw [← hA] at Y
  have hvm : s'.vm = s.vm := by rw [hA]; rfl
  have hhp : s'.heap = H := by rw [hA]; exact hT
  have hW0 : s.WarmedH s'.vm := by rw [hvm]; exact State.WarmedH.refl s
  have hat' : ∀ w ∈ vx_atS own ic cls names, w.before args s' = true := fun w hw => vx_ot_at hW0 hvm.symm (hgood w (List.mem_cons_of_mem _ (List.mem_cons_of_mem _ hw))) (hat w hw)
  have hk' : (Cond.classLink own ik cls).before args s' = true := vx_ot_at hW0 hvm.symm (hgood _ List.mem_cons_self) hk
  have hini' : (Cond.initialized cls).before args s' = true := vx_ot_at hW0 hvm.symm (hgood _ (List.mem_cons_of_mem _ List.mem_cons_self)) hini
  have hU' : vx_Zq Bundle.tN "UNASSIGNED_STACK" Bundle.steD A s' s'.heap := by rw [hhp]; exact vx_Zq.moved hW0.alike (hU.kept hS.2.1)
  have hN' : vx_Zq Bundle.tN "SUPPRESSED_SENTINEL" Bundle.listD A s' s'.heap := by rw [hhp]; exact vx_Zq.moved hW0.alike (hN.kept hS.2.1)
  have h : ∀ w ∈ Bundle.ownAtoms own ic cls names, w.before args s' = true := vx_own hat' (vx_isRefq hU'.1) (vx_isRefq hN'.1) hU'.2.word hN'.2.word
  have hown' : s'.vm.findClass own = some m.cls := by rw [hvm]; exact hown
  have hins : (Cond.instantiable cls 6).before args s' = true := h _ (by simp [Bundle.ownAtoms])
  obtain ⟨vm₁, cX, kX, hfX, hkX, -, -, X₁, st1⟩ := Y.newCold hexec (own := own) (C := cls) (index := ik) (n := 6) hown' hk' hins hini'
    (g := F0 m pc ls rest) rfl (by rw [hb]; exact d0) (Nat.le_refl _) (Nat.le_refl _)
  generalize hT1 : (T.setVm vm₁).pushCell { cls := cX, slots := kX.instanceTypes.map defaultValue, vm := .none } = T1 at X₁ st1
  have hcat : (Value.ref T.heap.size).category = 1 := rfl
  have hcellA : T1.heap[T.heap.size]? = some (freshCell cX kX) := by rw [← hT1]; exact State.heap_pushCell_size _ _
  have d3' : decode c.code (pc + 3) = .ok (.dup, 1) := by rw [hb]; exact d3
  have d4' : decode c.code (pc + 4) = .ok (.ldc is, 2) := by rw [hb]; exact d4
  have hstr' : vk_R own is text sa s' := vk_R.warm hW0 hstr
  obtain ⟨U, hsteps, hrun, hend, hW, hsame, ce, hce, hO⟩ := X₁.ctorThrowS hexec htr (own := own) (cls := cls) (names := names) (ic := ic) hown' hcls hnames h (fun x hx => nomatch hx) hfX hkX hcellA (by rw [hhp, hT]; exact Nat.le_refl _) (msg := .ref sa) rfl
    (g := { method := m, pc := pc + 6, locals := ls, stack := .ref sa :: .ref T.heap.size :: .ref T.heap.size :: rest, locked := none }) rfl hsize rfl rfl (rest := rest) rfl
    (by rw [hb]; exact d6) (by rw [hb]; exact d9) hout hRframes (by simp only [List.map_cons, List.sum_cons, hcat]; omega) hlocks
  obtain ⟨f1, f2⟩ := vx_frame hsame
  rw [hhp] at f1 f2
  have hWs : s.WarmedH U.vm := State.WarmedH.trans hW0 hW
  have hcl : s.vm.findClass cls = some ce.cls := by
    have h9 := hO.cls
    rw [hvm] at h9
    exact h9
  have hall : s.sameButNew ({ U with vm := s.vm } : State) locs mc ms := by
    subst hA
    obtain ⟨e1, e2⟩ := hsame
    rw [State.setFrames_setFrames] at e1
    have h2 : (T.setVm s.vm).sameButNew ({ U with vm := s.vm } : State) [] (0 + 1) (0 + 6) := ⟨e1, e2⟩
    have h3 := X.same.trans h2
    rw [List.append_nil] at h3
    exact h3.mono hc hs
  refine ⟨U, ?_, .threw T.heap.size, hrun, hend, Or.inr ⟨T.heap.size, rfl, cls, ce, locs, hx U hWs.alike f1 (fun q hq => f2 q hq (fun z hz => nomatch hz)), hce, hO.vm, hcl, hWs, hall, hf⟩⟩
  refine st1 _ ?_
  show Steps p.tables e below (T1.setTop { method := m, pc := pc + 3, locals := ls, stack := .ref T.heap.size :: rest, locked := none }) _
  jvm_step X₁.here [X₁.here.top, hexec, d3', Value.category]
  exact X₁.ldcString hexec (own := own) (text := text) (index := is) (a := sa) hown' hstr'.1 hstr'.2
    (g := { method := m, pc := pc + 4, locals := ls, stack := .ref T.heap.size :: .ref T.heap.size :: rest, locked := none }) rfl d4' _ hsteps
/-- 'throw new E("text")', the text by a wide index -/
theorem vx_throwSW {cc : ByteArray} {pc : Nat} (hexec : p.tables.exec = Jvm.exec) (hb : c.code = cc) (hl : l.stackTraces = false) {own cls text : String} {names : List String} {ik is ic mc ms sa : Nat} {A : Nat → Prop}
    (hown : s.vm.findClass own = some m.cls) (hcls : Bundle.fit cls = true) (hnames : ∀ n ∈ names, Bundle.fit n = true)
    (hk : (Cond.classLink own ik cls).before args s = true) (hini : (Cond.initialized cls).before args s = true) (hstr : vk_R own is text sa s) (hat : ∀ w ∈ vx_atS own ic cls names, w.before args s = true)
    (hgood : ∀ w ∈ Cond.classLink own ik cls :: Cond.initialized cls :: vx_atS own ic cls names, vx_ot w = true)
    (hU : vx_Zq Bundle.tN "UNASSIGNED_STACK" Bundle.steD A s s.heap) (hN : vx_Zq Bundle.tN "SUPPRESSED_SENTINEL" Bundle.listD A s s.heap) (hS : va_S A s.heap H locs) (hsize : ls.size = c.maxLocals)
    (d0 : decode cc pc = .ok (.new ik, 3)) (d3 : decode cc (pc + 3) = .ok (.dup, 1)) (d4 : decode cc (pc + 4) = .ok (.ldc_w is, 3)) (d7 : decode cc (pc + 7) = .ok (.invokespecial ic, 3)) (d10 : decode cc (pc + 10) = .ok (.athrow, 1))
    (hout : ∀ x ∈ c.exceptionTable.toList, covers x (pc + 10) = false)
    (hRframes : names.length + 3 < R.frames) (hRlocals : (rest.map fun v => v.category).sum + (13 * (names.length + 1) + 43) ≤ R.locals) (hRcells : cells + 1 ≤ R.cells) (hRslots : slots + 6 ≤ R.slots) (hlocks : meth.locks = false)
    (hx : ∀ t : State, s.vm.Alike t.vm → H.size ≤ t.heap.size → (∀ q : Nat, q < H.size → t.heap[q]? = H[q]?) → XC cls s t)
    (hf : ∀ z ∈ locs, free z.base) (hc : cells + 1 ≤ mc) (hs : slots + 6 ≤ ms) :
    W p l e R s m args below meth c H locs cells slots (vx_MQ below Qc XC args s mc ms free) (F0 m pc ls rest) := by
  intro T hT X
  have htr : e.platform.stackTraces = false := (show e.platform.stackTraces = l.stackTraces by rw [X.admits.platform]).trans hl
  have Y := vx_rebase X (R' := { frames := R.frames, locals := R.locals, cells := 1, slots := 6 }) (Nat.le_refl _) (Nat.le_refl _) hRcells hRslots
  obtain ⟨s', hA⟩ : ∃ z, z = (T.setVm s.vm).setFrames (.invoking m args :: below) := ⟨_, rfl⟩
  rw [← hA] at Y
  have hvm : s'.vm = s.vm := by rw [hA]; rfl
  have hhp : s'.heap = H := by rw [hA]; exact hT
  have hW0 : s.WarmedH s'.vm := by rw [hvm]; exact State.WarmedH.refl s
  have hat' : ∀ w ∈ vx_atS own ic cls names, w.before args s' = true := fun w hw => vx_ot_at hW0 hvm.symm (hgood w (List.mem_cons_of_mem _ (List.mem_cons_of_mem _ hw))) (hat w hw)
  have hk' : (Cond.classLink own ik cls).before args s' = true := vx_ot_at hW0 hvm.symm (hgood _ List.mem_cons_self) hk
  have hini' : (Cond.initialized cls).before args s' = true := vx_ot_at hW0 hvm.symm (hgood _ (List.mem_cons_of_mem _ List.mem_cons_self)) hini
  have hU' : vx_Zq Bundle.tN "UNASSIGNED_STACK" Bundle.steD A s' s'.heap := by rw [hhp]; exact vx_Zq.moved hW0.alike (hU.kept hS.2.1)
  have hN' : vx_Zq Bundle.tN "SUPPRESSED_SENTINEL" Bundle.listD A s' s'.heap := by rw [hhp]; exact vx_Zq.moved hW0.alike (hN.kept hS.2.1)
  have h : ∀ w ∈ Bundle.ownAtoms own ic cls names, w.before args s' = true := vx_own hat' (vx_isRefq hU'.1) (vx_isRefq hN'.1) hU'.2.word hN'.2.word
  have hown' : s'.vm.findClass own = some m.cls := by rw [hvm]; exact hown
  have hins : (Cond.instantiable cls 6).before args s' = true := h _ (by simp [Bundle.ownAtoms])
  obtain ⟨vm₁, cX, kX, hfX, hkX, -, -, X₁, st1⟩ := Y.newCold hexec (own := own) (C := cls) (index := ik) (n := 6) hown' hk' hins hini'
    (g := F0 m pc ls rest) rfl (by rw [hb]; exact d0) (Nat.le_refl _) (Nat.le_refl _)
  generalize hT1 : (T.setVm vm₁).pushCell { cls := cX, slots := kX.instanceTypes.map defaultValue, vm := .none } = T1 at X₁ st1
  have hcat : (Value.ref T.heap.size).category = 1 := rfl
  have hcellA : T1.heap[T.heap.size]? = some (freshCell cX kX) := by rw [← hT1]; exact State.heap_pushCell_size _ _
  have d3' : decode c.code (pc + 3) = .ok (.dup, 1) := by rw [hb]; exact d3
  have d4' : decode c.code (pc + 4) = .ok (.ldc_w is, 3) := by rw [hb]; exact d4
  have hstr' : vk_R own is text sa s' := vk_R.warm hW0 hstr
  obtain ⟨U, hsteps, hrun, hend, hW, hsame, ce, hce, hO⟩ := X₁.ctorThrowS hexec htr (own := own) (cls := cls) (names := names) (ic := ic) hown' hcls hnames h (fun x hx => nomatch hx) hfX hkX hcellA (by rw [hhp, hT]; exact Nat.le_refl _) (msg := .ref sa) rfl
    (g := { method := m, pc := pc + 7, locals := ls, stack := .ref sa :: .ref T.heap.size :: .ref T.heap.size :: rest, locked := none }) rfl hsize rfl rfl (rest := rest) rfl
    (by rw [hb]; exact d7) (by rw [hb]; exact d10) hout hRframes (by simp only [List.map_cons, List.sum_cons, hcat]; omega) hlocks
  obtain ⟨f1, f2⟩ := vx_frame hsame
  rw [hhp] at f1 f2
  have hWs : s.WarmedH U.vm := State.WarmedH.trans hW0 hW
  have hcl : s.vm.findClass cls = some ce.cls := by
    have h9 := hO.cls
    rw [hvm] at h9
    exact h9
  have hall : s.sameButNew ({ U with vm := s.vm } : State) locs mc ms := by
    subst hA
    obtain ⟨e1, e2⟩ := hsame
    rw [State.setFrames_setFrames] at e1
    have h2 : (T.setVm s.vm).sameButNew ({ U with vm := s.vm } : State) [] (0 + 1) (0 + 6) := ⟨e1, e2⟩
    have h3 := X.same.trans h2
    rw [List.append_nil] at h3
    exact h3.mono hc hs
  refine ⟨U, ?_, .threw T.heap.size, hrun, hend, Or.inr ⟨T.heap.size, rfl, cls, ce, locs, hx U hWs.alike f1 (fun q hq => f2 q hq (fun z hz => nomatch hz)), hce, hO.vm, hcl, hWs, hall, hf⟩⟩
  refine st1 _ ?_
  show Steps p.tables e below (T1.setTop { method := m, pc := pc + 3, locals := ls, stack := .ref T.heap.size :: rest, locked := none }) _
  jvm_step X₁.here [X₁.here.top, hexec, d3', Value.category]
  exact X₁.ldcStringW hexec (own := own) (text := text) (index := is) (a := sa) hown' hstr'.1 hstr'.2
    (g := { method := m, pc := pc + 4, locals := ls, stack := .ref T.heap.size :: .ref T.heap.size :: rest, locked := none }) rfl d4' _ hsteps
end Ends
section Bodies
variable {l : Launch}
theorem vx_ofW {y : MethodName} {ws ws' : List Cond} {rm : Room} {Pc : Array Value → State → Prop} {Qc : Array Value → State → Outcome → State → Prop} {XC : String → State → State → Prop} {mc ms : Nat} {free : Addr → Prop} {cc : ByteArray} {maxL : Nat} {ret : Option FieldType}
    (hy : plainName y.cls = true) (hw : ws = Cond.code y cc maxL ret :: ws')
    (body : ∀ p e s m args below meth c s₁, BodyLoose p l y (headSpec ws rm) cc maxL ret e s m args below meth c s₁ → c.maxLocals = maxL → (∀ x ∈ c.exceptionTable.toList, False) → Pc args s →
      W p l e (headSpec ws rm).room s m args below meth c s.heap [] 0 0 (vx_MQ below Qc XC args s mc ms free) (entryFrame m args maxL)) : vx_Met l y ws rm Pc Qc XC mc ms free := by
  refine MetFree.of_bodyS (code := cc) (maxLocals := maxL) (ret := ret) hy ?_ ?_
  · intro args s m h hn
    obtain ⟨meth, c, h1, h2, h3, h4, h5, h6, -, -⟩ := Cond.code_spec hn (atoms_spec (ws := ws) h _ (by rw [hw]; exact List.mem_cons_self))
    exact ⟨meth, c, h1, h2, h3, h4, h5, h6⟩
  · intro p e s m args below meth c s₁ B hml hP _
    have hh0 : s₁.heap = s.heap := by rw [B.state]; rfl
    have ht : ∀ x ∈ c.exceptionTable.toList, False := by
      obtain ⟨meth9, c9, h1, h2, -, -, -, -, h7, -⟩ := Cond.code_spec B.named (atoms_spec (ws := ws) B.pre _ (by rw [hw]; exact List.mem_cons_self))
      cases Option.some.inj (h1.symm.trans B.method)
      cases Option.some.inj (h2.symm.trans (Stand.of_body B).code)
      intro x hx
      rw [Array.isEmpty_iff.mp h7] at hx
      cases hx
    obtain ⟨t, a1, o, b1, b2, b3⟩ := body p e s m args below meth c s₁ B hml ht hP s₁ hh0 (Stand.of_body B)
    exact ⟨t, o, a1, b1, b2, b3⟩
/-- the table of a body with handlers -/
theorem vx_table {p : Program} {x y : MethodName} {S : Spec} {cc bytes : ByteArray} {maxL maxL' : Nat} {ret ret' : Option FieldType} {e : Env} {s s₁ : State} {m : MethodId} {args : Array Value} {below : List Frame} {meth : Method} {c : Code} {hh : List (Nat × Nat × Nat × Nat)}
    (B : BodyLoose p l y S cc maxL ret e s m args below meth c s₁) (h : (Cond.codeWith y bytes maxL' ret' hh).before args s = true) : c.exceptionTable.toList = tableOf hh := by
  obtain ⟨m9, meth9, c9, hn9, h1, h2, -, -, h6, -⟩ := Cond.codeWith_spec h
  cases Option.some.inj (hn9.symm.trans B.named)
  cases Option.some.inj (h1.symm.trans B.method)
  cases Option.some.inj (h2.symm.trans (Stand.of_body B).code)
  rw [← h6, table_eq]
end Bodies
end VXA
/-! ===== END ===== -/
/-! ===== BEGIN a static call of a method with an exception table ===== -/
section VXS
variable {p : Program} {l : Launch} {e : Env} {R : Room} {s : State} {m : MethodId} {args : Array Value} {below : List Frame} {meth : Method} {c : Code} {T : State} {H : Heap} {locs : List Loc} {cells slots : Nat}
abbrev vx_CSW (R : Room) (s : State) (args : Array Value) (own : String) (index : Nat) (y : MethodName) (bytes : ByteArray) (maxL : Nat) (ret : Option FieldType) (hh : List (Nat × Nat × Nat × Nat)) (ws : List Cond) (rm : Room) (mc ms n : Nat) : Prop :=
  (rm.cells = mc ∧ rm.slots = ms ∧ rm.frames + 1 ≤ R.frames ∧ 8 + (maxL + 11) + rm.locals ≤ R.locals ∧ (∀ w ∈ ws, ∀ (a' : Array Value) (U : State), s.WarmedH U.vm → w.before a' U = true) ∧ Cond.codeWith y bytes maxL ret hh ∈ ws) ∧
  (Cond.codeWith y bytes maxL ret hh).before args s = true ∧ (Cond.initialized y.cls).before args s = true ∧ (y.cls ≠ "java/lang/invoke/MethodHandle" ∧ y.cls ≠ "java/lang/invoke/VarHandle") ∧
  (∀ sig, parseMethodDescriptor y.desc = some sig → n = sig.parameters.length) ∧ (Cond.methodLink own index y).before args s = true ∧ (Cond.static y).before args s = true
theorem vx_cwSW {own : String} {index maxL mc ms : Nat} {y : MethodName} {bytes : ByteArray} {ret : Option FieldType} {hh : List (Nat × Nat × Nat × Nat)} {Ts ws ws' : List Cond} {rm : Room} (n : Nat) (ht : ∀ w ∈ Ts, w.before args s = true) (hT : GoodIn Ts (va_wsS own index y ws)) (hw : ws = Cond.codeWith y bytes maxL ret hh :: ws') (hrc : rm.cells = mc) (hrs : rm.slots = ms)
    (hd : y.cls ≠ "java/lang/invoke/MethodHandle" ∧ y.cls ≠ "java/lang/invoke/VarHandle" ∧ (parseMethodDescriptor y.desc).map (fun d => d.parameters.length) = some n) (hR : rm.frames + 1 ≤ R.frames ∧ 8 + (maxL + 11) + rm.locals ≤ R.locals) :
    vx_CSW R s args own index y bytes maxL ret hh ws rm mc ms n := by
  have ok : ∀ w ∈ va_wsS own index y ws, w.before args s = true := fun w h => ht w (hT w h).1
  have hG : GoodIn Ts ws := fun w h => hT w (by unfold va_wsS; exact List.mem_append_right _ h)
  have hc : Cond.codeWith y bytes maxL ret hh ∈ ws := by rw [hw]; exact List.mem_cons_self
  refine ⟨⟨hrc, hrs, hR.1, hR.2, pay_in ht hG, hc⟩, ht _ (hG _ hc).1, ok _ (by simp [va_wsS]), ⟨hd.1, hd.2.1⟩, fun sig h => ?_, ok _ (by simp [va_wsS]), ok _ (by simp [va_wsS])⟩
  have h2 := hd.2.2
  rw [h] at h2
  exact (Option.some.inj h2).symm
theorem vx_callSW (X : Stand p l e R s m args below meth c T locs cells slots) (hexec : p.tables.exec = Jvm.exec) {own : String} {index : Nat} {y : MethodName} {bytes : ByteArray} {maxL : Nat} {ret : Option FieldType} {hh : List (Nat × Nat × Nat × Nat)}
    (hown : s.vm.findClass own = some m.cls) (hlink : (Cond.methodLink own index y).before args s = true) (hstat : (Cond.static y).before args s = true) (hinit : (Cond.initialized y.cls).before args s = true)
    (hcode : (Cond.codeWith y bytes maxL ret hh).before args s = true) (hy : y.cls ≠ "java/lang/invoke/MethodHandle" ∧ y.cls ≠ "java/lang/invoke/VarHandle")
    {W9 : Nat} {Pre : Pt → Array Value → Prop} {Post : Pt → Array Value → Option Value → Pt → Prop} (hK : Back l R p e below s args y 3 W9 Pre Post)
    {g : JFrame} (hg : g.method = m) (hsize : g.locals.size = c.maxLocals) {argsL rest : List Value} (hlen : ∀ sig, parseMethodDescriptor y.desc = some sig → argsL.length = sig.parameters.length)
    (hstack : g.stack = argsL.reverse ++ rest) (hW : 2 * g.monitorRoom + (rest.map fun v => v.category).sum ≤ W9) (hdg : decode c.code g.pc = .ok (.invokestatic index, 3))
    (hpre : ∀ vm₁, s.WarmedH vm₁ → Pre ⟨T.setVm vm₁, locs, cells, slots⟩ argsL.toArray) :
    ∃ (v : Option Value) (vm₁ : Vm) (B : Pt), s.WarmedH vm₁ ∧ Stand p l e R s m args below meth c B.U B.locs B.cells B.slots ∧ Post ⟨T.setVm vm₁, locs, cells, slots⟩ argsL.toArray v B ∧
      ∀ target, Steps p.tables e below (B.U.setTop { g with pc := g.pc + 3, stack := v.toList ++ rest }) target → Steps p.tables e below (T.setTop g) target := by
  obtain ⟨mk, methM, cM, hnamed, hmethM, -, -, -, -, -, -, hsigM⟩ := Cond.codeWith_spec hcode
  have hstatic : methM.isStatic = true := Cond.static_spec hnamed hmethM hstat
  obtain ⟨kP, hkP, -⟩ := className_of_methodNamed hnamed
  have hinitP : kP.init = .initialized := Cond.initialized_spec (findClass_of_methodNamed hnamed) hkP hinit
  obtain ⟨vm₁, X₁, hstep₁⟩ := X.invokestatic hexec hown hlink hnamed hmethM hstatic hkP hinitP hy (g := g) hg (argsL := argsL) (rest := rest) (hlen _ hsigM) hstack hdg
  obtain ⟨v, B, X', hpost, hsteps⟩ := hK m meth c ⟨T.setVm vm₁, locs, cells, slots⟩ { g with stack := rest } (.invokestatic index) mk argsL.toArray X₁ hg hsize hdg hW (X₁.named hnamed) (hpre vm₁ X₁.warmed)
  exact ⟨v, vm₁, B, X₁.warmed, X', hpost, fun target h => hstep₁ _ fun acts => by rw [doInvoke_state]; exact hsteps.trans h⟩
theorem vx_runSW {y : MethodName} {bytes cc : ByteArray} {maxL nL mc ms n index : Nat} {ret : Option FieldType} {hh : List (Nat × Nat × Nat × Nat)} {ws : List Cond} {rm : Room} {Pc : Array Value → State → Prop} {Qc : Array Value → State → Outcome → State → Prop} {free : Addr → Prop} {Ts : List Cond} {own : String} {As rest : List Value} {g : JFrame}
    (S : CallFix p m c cc nL s args Ts own) (hM : Met l y ws rm Pc Qc mc ms free) (cw : vx_CSW R s args own index y bytes maxL ret hh ws rm mc ms n) (hp : PreS s H Pc As)
    (hg : g.method = m) (hn : As.length = n) (hsize : g.locals.size = nL) (hstack : g.stack = As.reverse ++ rest) (hW : 2 * g.monitorRoom + (rest.map fun v => v.category).sum ≤ 8) (hdg : decode cc g.pc = .ok (.invokestatic index, 3)) (hf : cells + mc ≤ R.cells ∧ slots + ms ≤ R.slots) :
    va_Run p l e R s m args below meth c H locs cells slots mc ms g rest (Qc As.toArray) (free) := by
  obtain ⟨⟨hrc, hrs, hfr, hlo, hws, hcw⟩, hcode, hini, hy, hlen, hl, hstt⟩ := cw
  have hK : Back l R p e below s args y 3 8 (PreOf R mc ms Pc) (PostOf Qc mc ms free) := va_backW (hh := hh) (bytes := bytes) (maxL := maxL) (ret := ret) hM hp.1 hrc hrs hfr hlo hws hcw (fun a' U hW => word_at hW (Or.inl (by first | rfl | simp [Cond.onTables, Cond.keeps, Cond.steady])) hini)
  obtain ⟨hx, hb, hml, ho, -⟩ := S
  intro T hT X
  obtain ⟨v, vm₁, ⟨U', l2, c2, s2⟩, hW₁, X', ⟨g', mk, t, L, e1, e2, hq, h1, hL, h2, h3⟩, st⟩ := vx_callSW X hx (hh := hh) (bytes := bytes) (maxL := maxL) (ret := ret) ho hl hstt hini hcode hy hK hg (hsize.trans hml.symm) (argsL := As) (rest := rest) (fun sig h => hn.trans (hlen sig h)) hstack hW (by rw [hb]; exact hdg)
    (fun vm₁ hW₁ => ⟨hf.1, hf.2, hp.2 (T.setVm vm₁) hT hW₁⟩)
  dsimp only [Pt.U, Pt.locs, Pt.cells, Pt.slots] at X' e1 e2 h1 h2 h3 st
  subst h1; subst h2; subst h3
  exact ⟨v, (T.setVm vm₁).calling g' mk As.toArray, t, U', L, hT, X', hL, e1, e2, hq, st⟩
/-- not caught here, past rows that name other classes: it goes on to the caller -/
theorem vx_outP {p : Program} {l : Launch} {e : Env} {R : Room} {s : State} {m : MethodId} {args : Array Value} {below : List Frame} {meth : Method} {c : Code} {H : Heap} {locs : List Loc} {cells slots : Nat} {free : Addr → Prop} {ls : Array Slot} {rest : List Value} {Qc : Array Value → State → Outcome → State → Prop} {XC : String → State → State → Prop}
    {pc : Nat} {own E : String} {ce : Cell} {q : Addr} {mc ms : Nat} (hown : s.vm.findClass own = some m.cls) (hlocks : meth.locks = false)
    (hpass : ∀ z ∈ c.exceptionTable.toList, covers z pc = false ∨ (z.catchType ≠ 0 ∧ ∃ nm : String, (Cond.classLink own z.catchType nm).before args s = true ∧ va_Nc E nm s)) (hcell : H[q]? = some ce) (hv : ce.vm = .none) (hcl : s.vm.findClass E = some ce.cls)
    (hx : ∀ t : State, t.heap = H → s.vm.Alike t.vm → XC E s t) (hf : ∀ z ∈ locs, free z.base) (hc : cells ≤ mc) (hs : slots ≤ ms) :
    vx_W p l e R s m args below meth c H locs cells slots (vx_MQ below Qc XC args s mc ms free) (F0 m pc ls rest) q := by
  intro T hT X
  have hpl : e.platform.magicAccessors = ({} : Platform).magicAccessors := by rw [X.admits.platform]
  obtain ⟨vm', hW', X', st⟩ := X.outThrough hlocks q (g := F0 m pc ls rest) rfl rfl rfl (cell := ce) (by rw [hT]; exact hcell) (by rw [hv]; rfl)
    (by obtain ⟨k9, h9, -⟩ := Vm.findClass_spec hcl; exact ⟨k9, h9⟩) (fun z hz => by
      rcases hpass z hz with h | ⟨hz0, nm, hl1, hn1⟩
      · exact Or.inl h
      · obtain ⟨c6, hc6, hcl6⟩ := Cond.classLink_spec hown hl1 e.platform hpl
        obtain ⟨a8, b8, h1, h2, h3⟩ := hn1
        cases Option.some.inj (h1.symm.trans hcl)
        cases Option.some.inj (h2.symm.trans hc6)
        exact Or.inr ⟨hz0, _, hcl6, h3⟩)
  obtain ⟨g₀, hfr⟩ := X'.frames_eq
  have hcell9 : ((T.setVm vm').setFrames (.throwing q :: below)).heap[q]? = some ce := by
    show T.heap[q]? = some ce
    rw [hT]; exact hcell
  have hend : Ended ((T.setVm vm').setFrames (.throwing q :: below)) below (.threw q) := State.frames_setFrames _ (State.cur_lt_of_frames hfr)
  refine ⟨(T.setVm vm').setFrames (.throwing q :: below), ?_, .threw q, X'.here.running, hend, Or.inr ⟨q, rfl, E, ce, locs, hx _ hT (X'.ends _).1.alike, hcell9, hv, hcl, (X'.ends _).1, (X'.ends _).2.mono hc hs, hf⟩⟩
  rw [X.pushThrowing_eq]
  exact st
/-- a thing of a world lies in the heap -/
theorem vx_lt {D : va_G} {cl : List vw_C} {ws : va_W} {H1 : Heap} (h : va_P D cl ws H1) {k : Nat} {q : Nat × va_E} (hk : ws[k]? = some q) : q.1 < H1.size := (h k q hk).lt
end VXS
/-! ===== END ===== -/
/-! ===== BEGIN methods with a table of their own: called by a name, returning or throwing ===== -/
section VXH
/-! vx_backW, vx_callVX, vx_callSX, vx_callVW, vx_runVW, vx_runVX, vx_runSX, vx_ofWH follow the same proofs as their sisters above (Free/Laws.lean, Shelf42/LK1.lean); vx_outP calls Shelf42/NT130.lean (outThrough). -/
section
variable {l : Launch} {R : Room} {p : Program} {e : Env} {below : List Frame} {s : State} {sargs : Array Value} {y : MethodName} {len W9 : Nat}
theorem vx_backW {ws : List Cond} {rm : Room} {Pc : Array Value → State → Prop} {Qc : Array Value → State → Outcome → State → Prop} {XC : String → State → State → Prop} {mc ms : Nat} {free : Addr → Prop} {bytes : ByteArray} {maxL : Nat} {ret : Option FieldType} {hh : List (Nat × Nat × Nat × Nat)}
    (hM : vx_Met l y ws rm Pc Qc XC mc ms free) (hblind : FrameBlind Pc) (hrc : rm.cells = mc) (hrs : rm.slots = ms)
    (hframes : rm.frames + 1 ≤ R.frames) (hlocals : W9 + (maxL + 11) + rm.locals ≤ R.locals)
    (hws : ∀ w ∈ ws, ∀ a' U, s.WarmedH U.vm → w.before a' U = true) (hcode : Cond.codeWith y bytes maxL ret hh ∈ ws) (hinit : ∀ a' U, s.WarmedH U.vm → (Cond.initialized y.cls).before a' U = true) :
    vx_Back l R p e below s sargs y len W9 (PreOf R mc ms Pc) (PostOf Qc mc ms free) (vx_Post XC mc ms free) := by
  intro m meth c A g ig mk a X hg hsize hdg hW hn hp
  have h1 : (headSpec ws rm).pre.before a A.U = true := atoms_intro fun w hw => hws w hw _ _ X.warmed
  have h2 : (Cond.codeWith y bytes maxL ret hh).before a A.U = true := hws _ hcode _ _ X.warmed
  have h3 : (Cond.initialized y.cls).before a A.U = true := hinit _ _ X.warmed
  have h4 : A.cells + (headSpec ws rm).room.cells ≤ R.cells := by rw [show (headSpec ws rm).room.cells = mc from hrc]; exact hp.1
  have h5 : A.slots + (headSpec ws rm).room.slots ≤ R.slots := by rw [show (headSpec ws rm).room.slots = ms from hrs]; exact hp.2.1
  have hPc : Pc a (A.U.calling g mk a) := hblind _ _ _ _ hp.2.2
  obtain ⟨U, Ls, c0, s0⟩ := A
  dsimp only [Pt.U, Pt.locs, Pt.cells, Pt.slots] at h1 h2 h3 h4 h5 X hn hPc ⊢
  obtain ⟨m9, methY, cY, hn9, hmY, hcY, -, hlY, -⟩ := Cond.codeWith_spec h2
  cases Option.some.inj (hn9.symm.trans hn)
  obtain ⟨kY, hkY, -⟩ := className_of_methodNamed hn
  have hinitY : kY.init = .initialized := Cond.initialized_spec (findClass_of_methodNamed hn) hkY h3
  have h : At U g.method c below := by rw [hg]; exact X.here
  have hlocals9 : W9 + (maxL + 11) + (headSpec ws rm).room.locals ≤ R.locals := hlocals
  have happ : (headSpec ws rm).appliesLoose y e.platform (U.calling g mk a) = true :=
    Spec.appliesLoose_calling (g := g) h hdg hn hkY hinitY
      (X.room_calling (g := g) (R' := (headSpec ws rm).room) hsize hmY hcY hframes (by rw [hlY]; omega) h4 h5) h1
  obtain ⟨mid, hmid⟩ := h.above
  have hfr : (U.setTop g).frames = (.java g :: mid) ++ below := by rw [State.frames_setTop' g h.top, hmid]; rfl
  obtain ⟨o, s₂, hsteps, -, hend, hq⟩ := Steps.callFree hM p X.admits X.cas X.clock (acts := []) hfr happ hPc trivial
  have hq' : vx_Q Qc XC mc ms free a (U.calling g mk a) o s₂ := hq
  rw [State.frames_setTop' g h.top] at hend
  obtain ⟨g₀, hg0⟩ := Option.isSome_iff_exists.mp h.top
  obtain ⟨r, hr⟩ := State.topJava?_eq_some.mp hg0
  have hr' : (({ U with heap := s₂.heap, slotsUsed := s₂.slotsUsed } : State).setVm s₂.vm).frames = .java g₀ :: r := hr
  rcases hq' with ⟨hqc, L, hfe, hL⟩ | ⟨q, rfl, E, ce, L, hx, hce, hcv, hcl, hW₂, hsm, hL⟩
  · obtain ⟨⟨v, rfl⟩, hW₂, e2, q2, q3, q4, q5, q6⟩ := id hfe
    have e3 : s₂ = ({ (U.calling g mk a).setFrames s₂.frames with heap := s₂.heap, slotsUsed := s₂.slotsUsed } : State).setVm s₂.vm := by
      have : s₂ = ({ s₂ with vm := (U.calling g mk a).vm } : State).setVm s₂.vm := rfl
      rw [e2] at this
      exact this
    obtain ⟨c₂, i₂, len₂, hc₂, hd₂, hf₂⟩ := hend
    have hW' : U.WarmedH s₂.vm := hW₂
    have hcc : c₂ = c := by
      have h1 : s₂.code? g.method = U.code? g.method := by
        rw [State.code?_eq, State.code?_eq, hW'.alike.method?]
      exact Option.some.inj (hc₂.symm.trans (h1.trans h.code))
    subst hcc
    have hlen : len₂ = len := by rw [hdg] at hd₂; cases hd₂; rfl
    subst hlen
    have hs₂ : s₂ = (({ U with heap := s₂.heap, slotsUsed := s₂.slotsUsed } : State).setVm s₂.vm).setTop { g with pc := g.pc + len₂, stack := v.toList ++ g.stack } := by
      refine e3.trans ?_
      rw [hf₂, State.calling_eq h.top, State.setFrames_setFrames, State.setTop_of_frames _ hr', hr]
      rfl
    have hsame : U.sameButNew ({ U with heap := s₂.heap, slotsUsed := s₂.slotsUsed } : State) L mc ms := by
      refine ⟨?_, q2, q3, q4, q5, q6⟩
      obtain ⟨t, ht, -⟩ := State.frames_cons hr
      show ({ U with heap := s₂.heap, slotsUsed := s₂.slotsUsed } : State) = { U.setFrames U.frames with heap := s₂.heap, slotsUsed := s₂.slotsUsed }
      rw [State.setFrames_self ht]
    subst hg
    refine Or.inl ⟨v, ⟨(({ U with heap := s₂.heap, slotsUsed := s₂.slotsUsed } : State).setVm s₂.vm), Ls ++ L, c0 + mc, s0 + ms⟩,
      ⟨X.admits, X.cas, X.clock, X.frames, X.room, X.hears, X.method, X.code, (X.here.setHeapUsed s₂.heap s₂.slotsUsed).setVm hW'.alike, X.tail, State.WarmedH.trans X.warmed hW', X.limits, X.bytes, X.same.trans (hsame.setVm s.vm)⟩,
      ⟨g, mk, s₂, L, rfl, rfl, hqc, rfl, hL, rfl, rfl⟩, ?_⟩
    show Steps p.tables e below _ ((({ U with heap := s₂.heap, slotsUsed := s₂.slotsUsed } : State).setVm s₂.vm).setTop { g with pc := g.pc + len₂, stack := v.toList ++ g.stack })
    rw [← hs₂]
    exact hsteps
  · obtain ⟨e2, q2, q3, q4, q5, q6⟩ := id hsm
    have e3 : s₂ = ({ (U.calling g mk a).setFrames s₂.frames with heap := s₂.heap, slotsUsed := s₂.slotsUsed } : State).setVm s₂.vm := by
      have : s₂ = ({ s₂ with vm := (U.calling g mk a).vm } : State).setVm s₂.vm := rfl
      rw [e2] at this
      exact this
    have hf₂ : s₂.frames = .throwing q :: .java g :: U.frames.tail := hend
    have hW' : U.WarmedH s₂.vm := hW₂
    have hs₂ : s₂ = ((({ U with heap := s₂.heap, slotsUsed := s₂.slotsUsed } : State).setVm s₂.vm).setTop g).pushFrame (.throwing q) := by
      refine e3.trans ?_
      rw [hf₂, State.calling_eq h.top, State.setFrames_setFrames, State.pushFrame, State.frames_setTop _ hr', State.setTop_of_frames _ hr', State.setFrames_setFrames, hr]
      rfl
    have hsame : U.sameButNew ({ U with heap := s₂.heap, slotsUsed := s₂.slotsUsed } : State) L mc ms := by
      refine ⟨?_, q2, q3, q4, q5, q6⟩
      obtain ⟨t, ht, -⟩ := State.frames_cons hr
      show ({ U with heap := s₂.heap, slotsUsed := s₂.slotsUsed } : State) = { U.setFrames U.frames with heap := s₂.heap, slotsUsed := s₂.slotsUsed }
      rw [State.setFrames_self ht]
    subst hg
    refine Or.inr ⟨q, ⟨(({ U with heap := s₂.heap, slotsUsed := s₂.slotsUsed } : State).setVm s₂.vm), Ls ++ L, c0 + mc, s0 + ms⟩,
      ⟨X.admits, X.cas, X.clock, X.frames, X.room, X.hears, X.method, X.code, (X.here.setHeapUsed s₂.heap s₂.slotsUsed).setVm hW'.alike, X.tail, State.WarmedH.trans X.warmed hW', X.limits, X.bytes, X.same.trans (hsame.setVm s.vm)⟩,
      ⟨g, mk, s₂, L, E, ce, rfl, rfl, hx, hce, hcv, hcl, rfl, hL, rfl, rfl⟩, ?_⟩
    show Steps p.tables e below _ (((({ U with heap := s₂.heap, slotsUsed := s₂.slotsUsed } : State).setVm s₂.vm).setTop g).pushFrame (.throwing q))
    rw [← hs₂]
    exact hsteps
end
variable {p : Program} {l : Launch} {e : Env} {R : Room} {s : State} {m : MethodId} {args : Array Value} {below : List Frame} {meth : Method} {c : Code} {T : State} {H : Heap} {locs : List Loc} {cells slots : Nat}
theorem vx_callVX (X : Stand p l e R s m args below meth c T locs cells slots) (hexec : p.tables.exec = Jvm.exec) {own C : String} {index : Nat} {y : MethodName} {bytes : ByteArray} {maxL : Nat} {ret : Option FieldType} {hh : List (Nat × Nat × Nat × Nat)}
    (hown : s.vm.findClass own = some m.cls) (hlink : (Cond.methodLink own index y).before args s = true) (hinst : (Cond.instanceMethod y).before args s = true) (hsel : (Cond.selects C y y).before args s = true)
    (hcode : (Cond.codeWith y bytes maxL ret hh).before args s = true) (hy : y.cls ≠ "java/lang/invoke/MethodHandle" ∧ y.cls ≠ "java/lang/invoke/VarHandle")
    {W9 : Nat} {Pre : Pt → Array Value → Prop} {Post : Pt → Array Value → Option Value → Pt → Prop} {PostX : Pt → Array Value → Addr → Pt → Prop} (hK : vx_Back l R p e below s args y 3 W9 Pre Post PostX)
    {b : Addr} {cellB : Cell} (hcell : T.heap[b]? = some cellB) (hobj : cellB.vm.isStatics = false) (hcls : s.vm.findClass C = some cellB.cls)
    {g : JFrame} (hg : g.method = m) (hsize : g.locals.size = c.maxLocals) {argsL rest : List Value} (hlen : ∀ sig, parseMethodDescriptor y.desc = some sig → argsL.length = sig.parameters.length)
    (hstack : g.stack = argsL.reverse ++ .ref b :: rest) (hW : 2 * g.monitorRoom + (rest.map fun v => v.category).sum ≤ W9) (hdg : decode c.code g.pc = .ok (.invokevirtual index, 3))
    (hpre : ∀ vm₁, s.WarmedH vm₁ → Pre ⟨T.setVm vm₁, locs, cells, slots⟩ (Value.ref b :: argsL).toArray) :
    (∃ (v : Option Value) (vm₁ : Vm) (B : Pt), s.WarmedH vm₁ ∧ Stand p l e R s m args below meth c B.U B.locs B.cells B.slots ∧ Post ⟨T.setVm vm₁, locs, cells, slots⟩ (Value.ref b :: argsL).toArray v B ∧
      ∀ target, Steps p.tables e below (B.U.setTop { g with pc := g.pc + 3, stack := v.toList ++ rest }) target → Steps p.tables e below (T.setTop g) target) ∨
    (∃ (q : Addr) (vm₁ : Vm) (B : Pt), s.WarmedH vm₁ ∧ Stand p l e R s m args below meth c B.U B.locs B.cells B.slots ∧ PostX ⟨T.setVm vm₁, locs, cells, slots⟩ (Value.ref b :: argsL).toArray q B ∧
      Steps p.tables e below (T.setTop g) ((B.U.setTop { g with stack := rest }).pushFrame (.throwing q))) := by
  obtain ⟨mk, methM, hnamed, hmethM, hstM, habM⟩ := Cond.instanceMethod_spec hinst
  obtain ⟨m8, methM', cM, hn8, hmethM', -, -, -, -, -, -, hsigM⟩ := Cond.codeWith_spec hcode
  cases Option.some.inj (hn8.symm.trans hnamed)
  cases hmethM.symm.trans hmethM'
  obtain ⟨c2, r2, m2, q1, q2, q3, q4, kP, hkP, hkPi⟩ := Cond.selects_spec hsel
  cases hcls.symm.trans q1
  cases (State.methodFound?_of_named hnamed hy).symm.trans q2
  cases hnamed.symm.trans q3
  have hselP : selectMethod e.platform s.vm cellB.cls mk = .method mk := by rw [Launch.admits_selectMethod X.admits]; exact q4
  obtain ⟨vm₁, X₁, hstep₁⟩ := X.invokevirtual hexec hown hlink hnamed hmethM hstM hkP hkPi hy (a := b) (cell := cellB) hcell
    (fun z h => by rw [h] at hobj; cases hobj) hselP hmethM habM hkP hkPi (g := g) hg (argsL := argsL) (rest := rest) (hlen _ hsigM) hstack hdg
  rcases hK m meth c ⟨T.setVm vm₁, locs, cells, slots⟩ { g with stack := rest } (.invokevirtual index) mk (Value.ref b :: argsL).toArray X₁ hg hsize hdg hW (X₁.named hnamed) (hpre vm₁ X₁.warmed) with ⟨v, B, X', hpost, hsteps⟩ | ⟨q, B, X', hpost, hsteps⟩
  · exact Or.inl ⟨v, vm₁, B, X₁.warmed, X', hpost, fun target h => hstep₁ _ fun acts => by rw [doInvoke_state]; exact hsteps.trans h⟩
  · exact Or.inr ⟨q, vm₁, B, X₁.warmed, X', hpost, hstep₁ _ fun acts => by rw [doInvoke_state]; exact hsteps⟩
theorem vx_callSX (X : Stand p l e R s m args below meth c T locs cells slots) (hexec : p.tables.exec = Jvm.exec) {own : String} {index : Nat} {y : MethodName} {bytes : ByteArray} {maxL : Nat} {ret : Option FieldType} {hh : List (Nat × Nat × Nat × Nat)}
    (hown : s.vm.findClass own = some m.cls) (hlink : (Cond.methodLink own index y).before args s = true) (hstat : (Cond.static y).before args s = true) (hinit : (Cond.initialized y.cls).before args s = true)
    (hcode : (Cond.codeWith y bytes maxL ret hh).before args s = true) (hy : y.cls ≠ "java/lang/invoke/MethodHandle" ∧ y.cls ≠ "java/lang/invoke/VarHandle")
    {W9 : Nat} {Pre : Pt → Array Value → Prop} {Post : Pt → Array Value → Option Value → Pt → Prop} {PostX : Pt → Array Value → Addr → Pt → Prop} (hK : vx_Back l R p e below s args y 3 W9 Pre Post PostX)
    {g : JFrame} (hg : g.method = m) (hsize : g.locals.size = c.maxLocals) {argsL rest : List Value} (hlen : ∀ sig, parseMethodDescriptor y.desc = some sig → argsL.length = sig.parameters.length)
    (hstack : g.stack = argsL.reverse ++ rest) (hW : 2 * g.monitorRoom + (rest.map fun v => v.category).sum ≤ W9) (hdg : decode c.code g.pc = .ok (.invokestatic index, 3))
    (hpre : ∀ vm₁, s.WarmedH vm₁ → Pre ⟨T.setVm vm₁, locs, cells, slots⟩ argsL.toArray) :
    (∃ (v : Option Value) (vm₁ : Vm) (B : Pt), s.WarmedH vm₁ ∧ Stand p l e R s m args below meth c B.U B.locs B.cells B.slots ∧ Post ⟨T.setVm vm₁, locs, cells, slots⟩ argsL.toArray v B ∧
      ∀ target, Steps p.tables e below (B.U.setTop { g with pc := g.pc + 3, stack := v.toList ++ rest }) target → Steps p.tables e below (T.setTop g) target) ∨
    (∃ (q : Addr) (vm₁ : Vm) (B : Pt), s.WarmedH vm₁ ∧ Stand p l e R s m args below meth c B.U B.locs B.cells B.slots ∧ PostX ⟨T.setVm vm₁, locs, cells, slots⟩ argsL.toArray q B ∧
      Steps p.tables e below (T.setTop g) ((B.U.setTop { g with stack := rest }).pushFrame (.throwing q))) := by
  obtain ⟨mk, methM, cM, hnamed, hmethM, -, -, -, -, -, -, hsigM⟩ := Cond.codeWith_spec hcode
  have hstatic : methM.isStatic = true := Cond.static_spec hnamed hmethM hstat
  obtain ⟨kP, hkP, -⟩ := className_of_methodNamed hnamed
  have hinitP : kP.init = .initialized := Cond.initialized_spec (findClass_of_methodNamed hnamed) hkP hinit
  obtain ⟨vm₁, X₁, hstep₁⟩ := X.invokestatic hexec hown hlink hnamed hmethM hstatic hkP hinitP hy (g := g) hg (argsL := argsL) (rest := rest) (hlen _ hsigM) hstack hdg
  rcases hK m meth c ⟨T.setVm vm₁, locs, cells, slots⟩ { g with stack := rest } (.invokestatic index) mk argsL.toArray X₁ hg hsize hdg hW (X₁.named hnamed) (hpre vm₁ X₁.warmed) with ⟨v, B, X', hpost, hsteps⟩ | ⟨q, B, X', hpost, hsteps⟩
  · exact Or.inl ⟨v, vm₁, B, X₁.warmed, X', hpost, fun target h => hstep₁ _ fun acts => by rw [doInvoke_state]; exact hsteps.trans h⟩
  · exact Or.inr ⟨q, vm₁, B, X₁.warmed, X', hpost, hstep₁ _ fun acts => by rw [doInvoke_state]; exact hsteps⟩
theorem vx_callVW (X : Stand p l e R s m args below meth c T locs cells slots) (hexec : p.tables.exec = Jvm.exec) {own C : String} {index : Nat} {y : MethodName} {bytes : ByteArray} {maxL : Nat} {ret : Option FieldType} {hh : List (Nat × Nat × Nat × Nat)}
    (hown : s.vm.findClass own = some m.cls) (hlink : (Cond.methodLink own index y).before args s = true) (hinst : (Cond.instanceMethod y).before args s = true) (hsel : (Cond.selects C y y).before args s = true)
    (hcode : (Cond.codeWith y bytes maxL ret hh).before args s = true) (hy : y.cls ≠ "java/lang/invoke/MethodHandle" ∧ y.cls ≠ "java/lang/invoke/VarHandle")
    {W9 : Nat} {Pre : Pt → Array Value → Prop} {Post : Pt → Array Value → Option Value → Pt → Prop} (hK : Back l R p e below s args y 3 W9 Pre Post)
    {b : Addr} {cellB : Cell} (hcell : T.heap[b]? = some cellB) (hobj : cellB.vm.isStatics = false) (hcls : s.vm.findClass C = some cellB.cls)
    {g : JFrame} (hg : g.method = m) (hsize : g.locals.size = c.maxLocals) {argsL rest : List Value} (hlen : ∀ sig, parseMethodDescriptor y.desc = some sig → argsL.length = sig.parameters.length)
    (hstack : g.stack = argsL.reverse ++ .ref b :: rest) (hW : 2 * g.monitorRoom + (rest.map fun v => v.category).sum ≤ W9) (hdg : decode c.code g.pc = .ok (.invokevirtual index, 3))
    (hpre : ∀ vm₁, s.WarmedH vm₁ → Pre ⟨T.setVm vm₁, locs, cells, slots⟩ (Value.ref b :: argsL).toArray) :
    ∃ (v : Option Value) (vm₁ : Vm) (B : Pt), s.WarmedH vm₁ ∧ Stand p l e R s m args below meth c B.U B.locs B.cells B.slots ∧ Post ⟨T.setVm vm₁, locs, cells, slots⟩ (Value.ref b :: argsL).toArray v B ∧
      ∀ target, Steps p.tables e below (B.U.setTop { g with pc := g.pc + 3, stack := v.toList ++ rest }) target → Steps p.tables e below (T.setTop g) target := by
  obtain ⟨mk, methM, hnamed, hmethM, hstM, habM⟩ := Cond.instanceMethod_spec hinst
  obtain ⟨m8, methM', cM, hn8, hmethM', -, -, -, -, -, -, hsigM⟩ := Cond.codeWith_spec hcode
  cases Option.some.inj (hn8.symm.trans hnamed)
  cases hmethM.symm.trans hmethM'
  obtain ⟨c2, r2, m2, q1, q2, q3, q4, kP, hkP, hkPi⟩ := Cond.selects_spec hsel
  cases hcls.symm.trans q1
  cases (State.methodFound?_of_named hnamed hy).symm.trans q2
  cases hnamed.symm.trans q3
  have hselP : selectMethod e.platform s.vm cellB.cls mk = .method mk := by rw [Launch.admits_selectMethod X.admits]; exact q4
  obtain ⟨vm₁, X₁, hstep₁⟩ := X.invokevirtual hexec hown hlink hnamed hmethM hstM hkP hkPi hy (a := b) (cell := cellB) hcell
    (fun z h => by rw [h] at hobj; cases hobj) hselP hmethM habM hkP hkPi (g := g) hg (argsL := argsL) (rest := rest) (hlen _ hsigM) hstack hdg
  obtain ⟨v, B, X', hpost, hsteps⟩ := hK m meth c ⟨T.setVm vm₁, locs, cells, slots⟩ { g with stack := rest } (.invokevirtual index) mk (Value.ref b :: argsL).toArray X₁ hg hsize hdg hW (X₁.named hnamed) (hpre vm₁ X₁.warmed)
  exact ⟨v, vm₁, B, X₁.warmed, X', hpost, fun target h => hstep₁ _ fun acts => by rw [doInvoke_state]; exact hsteps.trans h⟩
abbrev vx_CVW (R : Room) (s : State) (args : Array Value) (own C : String) (index : Nat) (y : MethodName) (bytes : ByteArray) (maxL : Nat) (ret : Option FieldType) (hh : List (Nat × Nat × Nat × Nat)) (ws : List Cond) (rm : Room) (mc ms n : Nat) : Prop :=
  (rm.cells = mc ∧ rm.slots = ms ∧ rm.frames + 1 ≤ R.frames ∧ 8 + (maxL + 11) + rm.locals ≤ R.locals ∧ (∀ w ∈ ws, ∀ (a' : Array Value) (U : State), s.WarmedH U.vm → w.before a' U = true) ∧ Cond.codeWith y bytes maxL ret hh ∈ ws) ∧
  (Cond.codeWith y bytes maxL ret hh).before args s = true ∧ (Cond.initialized y.cls).before args s = true ∧ (y.cls ≠ "java/lang/invoke/MethodHandle" ∧ y.cls ≠ "java/lang/invoke/VarHandle") ∧
  (∀ sig, parseMethodDescriptor y.desc = some sig → n = sig.parameters.length) ∧ (Cond.methodLink own index y).before args s = true ∧ (Cond.instanceMethod y).before args s = true ∧ (Cond.selects C y y).before args s = true
theorem vx_cwVW {own C : String} {index maxL mc ms : Nat} {y : MethodName} {bytes : ByteArray} {ret : Option FieldType} {hh : List (Nat × Nat × Nat × Nat)} {Ts ws ws' : List Cond} {rm : Room} (n : Nat) (ht : ∀ w ∈ Ts, w.before args s = true) (hT : GoodIn Ts (wsV own index C y ws)) (hw : ws = Cond.codeWith y bytes maxL ret hh :: ws') (hrc : rm.cells = mc) (hrs : rm.slots = ms)
    (hd : y.cls = C ∧ y.cls ≠ "java/lang/invoke/MethodHandle" ∧ y.cls ≠ "java/lang/invoke/VarHandle" ∧ (parseMethodDescriptor y.desc).map (fun d => d.parameters.length) = some n) (hR : rm.frames + 1 ≤ R.frames ∧ 8 + (maxL + 11) + rm.locals ≤ R.locals) :
    vx_CVW R s args own C index y bytes maxL ret hh ws rm mc ms n := by
  obtain ⟨hC, hd⟩ := hd
  subst hC
  have ok : ∀ w ∈ wsV own index y.cls y ws, w.before args s = true := fun w h => ht w (hT w h).1
  have hG : GoodIn Ts ws := fun w h => hT w (by unfold wsV; exact List.mem_append_right _ h)
  have hc : Cond.codeWith y bytes maxL ret hh ∈ ws := by rw [hw]; exact List.mem_cons_self
  refine ⟨⟨hrc, hrs, hR.1, hR.2, pay_in ht hG, hc⟩, ht _ (hG _ hc).1, ok _ (by simp [wsV]), ⟨hd.1, hd.2.1⟩, fun sig h => ?_, ok _ (by simp [wsV]), ok _ (by simp [wsV]), ok _ (by simp [wsV])⟩
  have h2 := hd.2.2
  rw [h] at h2
  exact (Option.some.inj h2).symm
theorem vx_runVW {y : MethodName} {bytes cc : ByteArray} {maxL nL mc ms n index : Nat} {ret : Option FieldType} {hh : List (Nat × Nat × Nat × Nat)} {ws : List Cond} {rm : Room} {Pc : Array Value → State → Prop} {Qc : Array Value → State → Outcome → State → Prop} {free : Addr → Prop} {Ts : List Cond} {own C : String} {b : Addr} {As rest : List Value} {g : JFrame}
    (S : CallFix p m c cc nL s args Ts own) (hM : Met l y ws rm Pc Qc mc ms free) (cw : vx_CVW R s args own C index y bytes maxL ret hh ws rm mc ms n) (hp : PreV s H C b Pc As)
    (hg : g.method = m) (hn : As.length = n) (hsize : g.locals.size = nL) (hstack : g.stack = As.reverse ++ .ref b :: rest) (hW : 2 * g.monitorRoom + (rest.map fun v => v.category).sum ≤ 8) (hdg : decode cc g.pc = .ok (.invokevirtual index, 3)) (hf : cells + mc ≤ R.cells ∧ slots + ms ≤ R.slots) :
    va_Run p l e R s m args below meth c H locs cells slots mc ms g rest (Qc (Value.ref b :: As).toArray) free := by
  obtain ⟨⟨hrc, hrs, hfr, hlo, hws, hcw⟩, hcode, hini, hy, hlen, hl, hin, hse⟩ := cw
  have hK : Back l R p e below s args y 3 8 (PreOf R mc ms Pc) (PostOf Qc mc ms free) := va_backW (hh := hh) (bytes := bytes) (maxL := maxL) (ret := ret) hM hp.1 hrc hrs hfr hlo hws hcw (fun a' U hW => word_at hW (Or.inl (by first | rfl | simp [Cond.onTables, Cond.keeps, Cond.steady])) hini)
  obtain ⟨hx, hb, hml, ho, -⟩ := S
  obtain ⟨-, ⟨cellB, hcB, hoB, hclB⟩, hPc⟩ := hp
  intro T hT X
  obtain ⟨v, vm₁, ⟨U', l2, c2, s2⟩, hW₁, X', ⟨g', mk, t, L, e1, e2, hq, h1, hL, h2, h3⟩, st⟩ := vx_callVW X hx (C := C) (hh := hh) (bytes := bytes) (maxL := maxL) (ret := ret) ho hl hin hse hcode hy hK (by rw [hT]; exact hcB) hoB hclB hg (hsize.trans hml.symm) (argsL := As) (rest := rest) (fun sig h => hn.trans (hlen sig h)) hstack hW (by rw [hb]; exact hdg)
    (fun vm₁ hW₁ => ⟨hf.1, hf.2, hPc (T.setVm vm₁) hT hW₁⟩)
  dsimp only [Pt.U, Pt.locs, Pt.cells, Pt.slots] at X' e1 e2 h1 h2 h3 st
  subst h1; subst h2; subst h3
  exact ⟨v, (T.setVm vm₁).calling g' mk (Value.ref b :: As).toArray, t, U', L, hT, X', hL, e1, e2, hq, st⟩
section
variable {y : MethodName} {bytes cc : ByteArray} {maxL nL mc ms n index : Nat} {ret : Option FieldType} {ws : List Cond} {rm : Room} {Pc : Array Value → State → Prop} {Qc : Array Value → State → Outcome → State → Prop} {XC : String → State → State → Prop} {free : Addr → Prop} {Ts : List Cond} {own C : String} {b : Addr} {As rest : List Value} {g : JFrame}
theorem vx_runVX {hh : List (Nat × Nat × Nat × Nat)} (S : CallFix p m c cc nL s args Ts own) (hM : vx_Met l y ws rm Pc Qc XC mc ms free) (cw : vx_CVW R s args own C index y bytes maxL ret hh ws rm mc ms n) (hp : PreV s H C b Pc As)
    (hg : g.method = m) (hn : As.length = n) (hsize : g.locals.size = nL) (hstack : g.stack = As.reverse ++ .ref b :: rest) (hW : 2 * g.monitorRoom + (rest.map fun v => v.category).sum ≤ 8) (hdg : decode cc g.pc = .ok (.invokevirtual index, 3)) (hf : cells + mc ≤ R.cells ∧ slots + ms ≤ R.slots) :
    vx_Run p l e R s m args below meth c H locs cells slots mc ms g rest (Qc (Value.ref b :: As).toArray) XC free := by
  obtain ⟨⟨hrc, hrs, hfr, hlo, hws, hcw⟩, hcode, hini, hy, hlen, hl, hin, hse⟩ := cw
  have hK : vx_Back l R p e below s args y 3 8 (PreOf R mc ms Pc) (PostOf Qc mc ms free) (vx_Post XC mc ms free) := vx_backW (hh := hh) (bytes := bytes) (maxL := maxL) (ret := ret) hM hp.1 hrc hrs hfr hlo hws hcw (fun a' U hW => word_at hW (Or.inl (by first | rfl | simp [Cond.onTables, Cond.keeps, Cond.steady])) hini)
  obtain ⟨hx, hb, hml, ho, -⟩ := S
  obtain ⟨-, ⟨cellB, hcB, hoB, hclB⟩, hPc⟩ := hp
  intro T hT X
  rcases vx_callVX X hx (C := C) (hh := hh) (bytes := bytes) (maxL := maxL) (ret := ret) ho hl hin hse hcode hy hK (by rw [hT]; exact hcB) hoB hclB hg (hsize.trans hml.symm) (argsL := As) (rest := rest) (fun sig h => hn.trans (hlen sig h)) hstack hW (by rw [hb]; exact hdg)
    (fun vm₁ hW₁ => ⟨hf.1, hf.2, hPc (T.setVm vm₁) hT hW₁⟩) with ⟨v, vm₁, ⟨U', l2, c2, s2⟩, hW₁, X', ⟨g', mk, t, L, e1, e2, hq, h1, hL, h2, h3⟩, st⟩ | ⟨q, vm₁, ⟨U', l2, c2, s2⟩, hW₁, X', ⟨g', mk, t, L, E, ce, e1, e2, hq, hce, hcv, hcl, h1, hL, h2, h3⟩, st⟩
  · dsimp only [Pt.U, Pt.locs, Pt.cells, Pt.slots] at X' e1 e2 h1 h2 h3 st
    subst h1; subst h2; subst h3
    exact Or.inl ⟨v, (T.setVm vm₁).calling g' mk (Value.ref b :: As).toArray, t, U', L, hT, X', hL, e1, e2, hq, st⟩
  · dsimp only [Pt.U, Pt.locs, Pt.cells, Pt.slots] at X' e1 e2 h1 h2 h3 st hcl
    subst h1; subst h2; subst h3
    exact Or.inr ⟨q, (T.setVm vm₁).calling g' mk (Value.ref b :: As).toArray, t, U', L, E, ce, hT, X', hL, e1, e2, hq, hce, hcv, vx_cls hW₁ hcl, st⟩
theorem vx_runSX {hh : List (Nat × Nat × Nat × Nat)} (S : CallFix p m c cc nL s args Ts own) (hM : vx_Met l y ws rm Pc Qc XC mc ms free) (cw : vx_CSW R s args own index y bytes maxL ret hh ws rm mc ms n) (hp : PreS s H Pc As)
    (hg : g.method = m) (hn : As.length = n) (hsize : g.locals.size = nL) (hstack : g.stack = As.reverse ++ rest) (hW : 2 * g.monitorRoom + (rest.map fun v => v.category).sum ≤ 8) (hdg : decode cc g.pc = .ok (.invokestatic index, 3)) (hf : cells + mc ≤ R.cells ∧ slots + ms ≤ R.slots) :
    vx_Run p l e R s m args below meth c H locs cells slots mc ms g rest (Qc As.toArray) XC free := by
  obtain ⟨⟨hrc, hrs, hfr, hlo, hws, hcw⟩, hcode, hini, hy, hlen, hl, hstt⟩ := cw
  have hK : vx_Back l R p e below s args y 3 8 (PreOf R mc ms Pc) (PostOf Qc mc ms free) (vx_Post XC mc ms free) := vx_backW (hh := hh) (bytes := bytes) (maxL := maxL) (ret := ret) hM hp.1 hrc hrs hfr hlo hws hcw (fun a' U hW => word_at hW (Or.inl (by first | rfl | simp [Cond.onTables, Cond.keeps, Cond.steady])) hini)
  obtain ⟨hx, hb, hml, ho, -⟩ := S
  intro T hT X
  rcases vx_callSX X hx (hh := hh) (bytes := bytes) (maxL := maxL) (ret := ret) ho hl hstt hini hcode hy hK hg (hsize.trans hml.symm) (argsL := As) (rest := rest) (fun sig h => hn.trans (hlen sig h)) hstack hW (by rw [hb]; exact hdg)
    (fun vm₁ hW₁ => ⟨hf.1, hf.2, hp.2 (T.setVm vm₁) hT hW₁⟩) with ⟨v, vm₁, ⟨U', l2, c2, s2⟩, hW₁, X', ⟨g', mk, t, L, e1, e2, hq, h1, hL, h2, h3⟩, st⟩ | ⟨q, vm₁, ⟨U', l2, c2, s2⟩, hW₁, X', ⟨g', mk, t, L, E, ce, e1, e2, hq, hce, hcv, hcl, h1, hL, h2, h3⟩, st⟩
  · dsimp only [Pt.U, Pt.locs, Pt.cells, Pt.slots] at X' e1 e2 h1 h2 h3 st
    subst h1; subst h2; subst h3
    exact Or.inl ⟨v, (T.setVm vm₁).calling g' mk As.toArray, t, U', L, hT, X', hL, e1, e2, hq, st⟩
  · dsimp only [Pt.U, Pt.locs, Pt.cells, Pt.slots] at X' e1 e2 h1 h2 h3 st hcl
    subst h1; subst h2; subst h3
    exact Or.inr ⟨q, (T.setVm vm₁).calling g' mk As.toArray, t, U', L, E, ce, hT, X', hL, e1, e2, hq, hce, hcv, vx_cls hW₁ hcl, st⟩
end
end VXH
theorem vx_ofWH {l : Launch} {y : MethodName} {ws ws' : List Cond} {rm : Room} {Pc : Array Value → State → Prop} {Qc : Array Value → State → Outcome → State → Prop} {XC : String → State → State → Prop} {mc ms : Nat} {free : Addr → Prop} {cc : ByteArray} {maxL : Nat} {ret : Option FieldType} {hh : List (Nat × Nat × Nat × Nat)}
    (hy : plainName y.cls = true) (hw : ws = Cond.codeWith y cc maxL ret hh :: ws')
    (body : ∀ p e s m args below meth c s₁, BodyLoose p l y (headSpec ws rm) cc maxL ret e s m args below meth c s₁ → c.maxLocals = maxL → Pc args s →
      W p l e (headSpec ws rm).room s m args below meth c s.heap [] 0 0 (vx_MQ below Qc XC args s mc ms free) (entryFrame m args maxL)) : vx_Met l y ws rm Pc Qc XC mc ms free := by
  refine MetFree.of_bodyS (code := cc) (maxLocals := maxL) (ret := ret) hy ?_ ?_
  · intro args s m h hn
    obtain ⟨m9, meth, c, hn9, h1, h2, h3, h4, -, h5, h6, -⟩ := Cond.codeWith_spec (atoms_spec (ws := ws) h _ (by rw [hw]; exact List.mem_cons_self))
    cases hn.symm.trans hn9
    exact ⟨meth, c, h1, h2, h3, h4, h5, h6⟩
  · intro p e s m args below meth c s₁ B hml hP _
    have hh0 : s₁.heap = s.heap := by rw [B.state]; rfl
    obtain ⟨t, a1, o, b1, b2, b3⟩ := body p e s m args below meth c s₁ B hml hP s₁ hh0 (Stand.of_body B)
    exact ⟨t, o, a1, b1, b2, b3⟩
/-! ===== END ===== -/
end
section
/-! names of classes, fields, methods (printed by program from the claim, taken over) -/
def RX0 : String := "Twinphase$Cell"
def TX0 : u_T := fun k => match k with
  | 0 => ("Twinphase$Cell", "node", "I", false)
  | 1 => ("Twinphase$Cell", "beginsRange", "Z", false)
  | 2 => ("Twinphase$Cell", "owner", "LTwinphase$Transaction;", false)
  | 3 => ("Twinphase$Cell", "isSure", "Z", false)
  | 4 => ("Twinphase$Cell", "readStamp", "I", false)
  | _ => ("Twinphase$Cell", "readBy", "I", false)
def tyX0 : Nat → FieldType := fun k => match k with
  | 0 => .int
  | 1 => .boolean
  | 2 => .object "Twinphase$Transaction"
  | 3 => .boolean
  | 4 => .int
  | _ => .int
abbrev wsX00 : List Cond := u_ws RX0 TX0 6
theorem nmX0 : ∀ a, a < 6 → ∀ b, b < 6 → a ≠ b → (TX0 a).2.1 ≠ (TX0 b).2.1 := by decide +kernel
theorem tyX0_ok : ∀ k, k < 6 → parseFieldDescriptor (TX0 k).2.2.1 = some (tyX0 k) := by decide +kernel
abbrev cX0_init : ByteArray := prog_2_method_1_code
def yX0_init : MethodName := ⟨RX0, "<init>", "()V"⟩
abbrev cX0_noteReader : ByteArray := prog_2_method_2_code
def yX0_noteReader : MethodName := ⟨RX0, "noteReader", "(II)V"⟩
abbrev cX0_noteSeveral : ByteArray := prog_2_method_3_code
def yX0_noteSeveral : MethodName := ⟨RX0, "noteSeveral", "(I)V"⟩
def RX1 : String := "Twinphase$History"
def TX1 : u_T := fun k => match k with
  | 0 => ("Twinphase$History", "changes", "[I", false)
  | 1 => ("Twinphase$History", "values", "[I", false)
  | 2 => ("Twinphase$History", "count", "I", false)
  | 3 => ("Twinphase$History", "inOrder", "[LTwinphase$Transaction;", true)
  | 4 => ("Twinphase$History", "committed", "I", false)
  | _ => ("Twinphase$History", "redone", "[I", true)
def tyX1 : Nat → FieldType := fun k => match k with
  | 0 => .array .int
  | 1 => .array .int
  | 2 => .int
  | 3 => .array (.object "Twinphase$Transaction")
  | 4 => .int
  | _ => .array .int
abbrev wsX10 : List Cond := u_ws RX1 TX1 6
theorem nmX1 : ∀ a, a < 6 → ∀ b, b < 6 → a ≠ b → (TX1 a).2.1 ≠ (TX1 b).2.1 := by decide +kernel
theorem tyX1_ok : ∀ k, k < 6 → parseFieldDescriptor (TX1 k).2.2.1 = some (tyX1 k) := by decide +kernel
abbrev cX1_init : ByteArray := prog_3_method_1_code
def yX1_init : MethodName := ⟨RX1, "<init>", "()V"⟩
abbrev cX1_addChange : ByteArray := prog_3_method_2_code
def yX1_addChange : MethodName := ⟨RX1, "addChange", "(III)V"⟩
abbrev cX1_placeUpTo : ByteArray := prog_3_method_3_code
def yX1_placeUpTo : MethodName := ⟨RX1, "placeUpTo", "(II)I"⟩
abbrev cX1_stampUpTo : ByteArray := prog_3_method_4_code
def yX1_stampUpTo : MethodName := ⟨RX1, "stampUpTo", "(II)I"⟩
abbrev cX1_valueUpTo : ByteArray := prog_3_method_5_code
def yX1_valueUpTo : MethodName := ⟨RX1, "valueUpTo", "(II)I"⟩
abbrev cX1_countOf : ByteArray := prog_3_method_6_code
def yX1_countOf : MethodName := ⟨RX1, "countOf", "(I)I"⟩
abbrev cX1_changeAt : ByteArray := prog_3_method_7_code
def yX1_changeAt : MethodName := ⟨RX1, "changeAt", "(II)I"⟩
abbrev cX1_addCommitted : ByteArray := prog_3_method_8_code
def yX1_addCommitted : MethodName := ⟨RX1, "addCommitted", "(LTwinphase$Transaction;)V"⟩
abbrev cX1_committedAt : ByteArray := prog_3_method_9_code
def yX1_committedAt : MethodName := ⟨RX1, "committedAt", "(I)LTwinphase$Transaction;"⟩
abbrev cX1_countUnexplained : ByteArray := prog_3_method_10_code
def yX1_countUnexplained : MethodName := ⟨RX1, "countUnexplained", "()I"⟩
abbrev cX1_redo : ByteArray := prog_3_method_11_code
def yX1_redo : MethodName := ⟨RX1, "redo", "(LTwinphase$Transaction;)I"⟩
def RX2 : String := "Twinphase$Node"
def TX2 : u_T := fun k => match k with
  | 0 => ("Twinphase$Node", "ahead", "I", false)
  | 1 => ("Twinphase$Node", "greatestMet", "I", false)
  | _ => ("Twinphase$Node", "isDown", "Z", false)
def tyX2 : Nat → FieldType := fun k => match k with
  | 0 => .int
  | 1 => .int
  | _ => .boolean
abbrev wsX20 : List Cond := u_ws RX2 TX2 3
theorem nmX2 : ∀ a, a < 3 → ∀ b, b < 3 → a ≠ b → (TX2 a).2.1 ≠ (TX2 b).2.1 := by decide +kernel
theorem tyX2_ok : ∀ k, k < 3 → parseFieldDescriptor (TX2 k).2.2.1 = some (tyX2 k) := by decide +kernel
abbrev cX2_init : ByteArray := prog_4_method_1_code
def yX2_init : MethodName := ⟨RX2, "<init>", "()V"⟩
abbrev cX2_tellStamp : ByteArray := prog_4_method_2_code
def yX2_tellStamp : MethodName := ⟨RX2, "tellStamp", "(I)I"⟩
abbrev cX2_meetStamp : ByteArray := prog_4_method_3_code
def yX2_meetStamp : MethodName := ⟨RX2, "meetStamp", "(I)V"⟩
def RX3 : String := "Twinphase$Transaction"
def TX3 : u_T := fun k => match k with
  | 0 => ("Twinphase$Transaction", "number", "I", true)
  | 1 => ("Twinphase$Transaction", "home", "I", true)
  | 2 => ("Twinphase$Transaction", "rank", "I", true)
  | 3 => ("Twinphase$Transaction", "doubt", "I", true)
  | 4 => ("Twinphase$Transaction", "state", "I", false)
  | 5 => ("Twinphase$Transaction", "readStamp", "I", false)
  | 6 => ("Twinphase$Transaction", "writeStamp", "I", false)
  | 7 => ("Twinphase$Transaction", "lastBeat", "I", false)
  | 8 => ("Twinphase$Transaction", "awaited", "LTwinphase$Transaction;", false)
  | 9 => ("Twinphase$Transaction", "readKeys", "I", false)
  | 10 => ("Twinphase$Transaction", "writtenKeys", "I", false)
  | 11 => ("Twinphase$Transaction", "askedNodes", "I", false)
  | 12 => ("Twinphase$Transaction", "readValues", "[I", true)
  | 13 => ("Twinphase$Transaction", "writtenValues", "[I", true)
  | _ => ("Twinphase$Transaction", "doubts", "[I", true)
def tyX3 : Nat → FieldType := fun k => match k with
  | 0 => .int
  | 1 => .int
  | 2 => .int
  | 3 => .int
  | 4 => .int
  | 5 => .int
  | 6 => .int
  | 7 => .int
  | 8 => .object "Twinphase$Transaction"
  | 9 => .int
  | 10 => .int
  | 11 => .int
  | 12 => .array .int
  | 13 => .array .int
  | _ => .array .int
abbrev wsX30 : List Cond := u_ws RX3 TX3 15
theorem nmX3 : ∀ a, a < 15 → ∀ b, b < 15 → a ≠ b → (TX3 a).2.1 ≠ (TX3 b).2.1 := by decide +kernel
theorem tyX3_ok : ∀ k, k < 15 → parseFieldDescriptor (TX3 k).2.2.1 = some (tyX3 k) := by decide +kernel
abbrev cX3_init : ByteArray := prog_5_method_1_code
def yX3_init : MethodName := ⟨RX3, "<init>", "(IIIII)V"⟩
abbrev cX3_isVanished : ByteArray := prog_5_method_2_code
def yX3_isVanished : MethodName := ⟨RX3, "isVanished", "(I)Z"⟩
abbrev cX3_waitsFor : ByteArray := prog_5_method_3_code
def yX3_waitsFor : MethodName := ⟨RX3, "waitsFor", "()LTwinphase$Transaction;"⟩
abbrev cX3_yieldsBefore : ByteArray := prog_5_method_4_code
def yX3_yieldsBefore : MethodName := ⟨RX3, "yieldsBefore", "(LTwinphase$Transaction;)Z"⟩
abbrev cX3_hasAsked : ByteArray := prog_5_method_5_code
def yX3_hasAsked : MethodName := ⟨RX3, "hasAsked", "(I)Z"⟩
abbrev cX3_noteClock : ByteArray := prog_5_method_6_code
def yX3_noteClock : MethodName := ⟨RX3, "noteClock", "(II)V"⟩
abbrev cX3_hasRead : ByteArray := prog_5_method_7_code
def yX3_hasRead : MethodName := ⟨RX3, "hasRead", "(I)Z"⟩
abbrev cX3_noteRead : ByteArray := prog_5_method_8_code
def yX3_noteRead : MethodName := ⟨RX3, "noteRead", "(II)I"⟩
abbrev cX3_writes : ByteArray := prog_5_method_9_code
def yX3_writes : MethodName := ⟨RX3, "writes", "(I)Z"⟩
abbrev cX3_noteWrite : ByteArray := prog_5_method_10_code
def yX3_noteWrite : MethodName := ⟨RX3, "noteWrite", "(II)V"⟩
abbrev cX3_forgetAll : ByteArray := prog_5_method_11_code
def yX3_forgetAll : MethodName := ⟨RX3, "forgetAll", "(I)V"⟩
abbrev cX3_raiseStamps : ByteArray := prog_5_method_12_code
def yX3_raiseStamps : MethodName := ⟨RX3, "raiseStamps", "(I)V"⟩
def RX4 : String := "Twinphase"
def TX4 : u_T := fun k => match k with
  | 0 => ("Twinphase", "time", "I", false)
  | 1 => ("Twinphase", "nodes", "[LTwinphase$Node;", true)
  | 2 => ("Twinphase", "cells", "[LTwinphase$Cell;", true)
  | 3 => ("Twinphase", "transactions", "[LTwinphase$Transaction;", true)
  | 4 => ("Twinphase", "begun", "I", false)
  | _ => ("Twinphase", "history", "LTwinphase$History;", true)
def tyX4 : Nat → FieldType := fun k => match k with
  | 0 => .int
  | 1 => .array (.object "Twinphase$Node")
  | 2 => .array (.object "Twinphase$Cell")
  | 3 => .array (.object "Twinphase$Transaction")
  | 4 => .int
  | _ => .object "Twinphase$History"
abbrev wsX40 : List Cond := u_ws RX4 TX4 6
theorem nmX4 : ∀ a, a < 6 → ∀ b, b < 6 → a ≠ b → (TX4 a).2.1 ≠ (TX4 b).2.1 := by decide +kernel
theorem tyX4_ok : ∀ k, k < 6 → parseFieldDescriptor (TX4 k).2.2.1 = some (tyX4 k) := by decide +kernel
abbrev cX4_init : ByteArray := prog_1_method_1_code
def yX4_init : MethodName := ⟨RX4, "<init>", "()V"⟩
abbrev cX4_pass : ByteArray := prog_1_method_2_code
def yX4_pass : MethodName := ⟨RX4, "pass", "(I)I"⟩
abbrev cX4_skew : ByteArray := prog_1_method_3_code
def yX4_skew : MethodName := ⟨RX4, "skew", "(II)I"⟩
abbrev cX4_clock : ByteArray := prog_1_method_4_code
def yX4_clock : MethodName := ⟨RX4, "clock", "(I)I"⟩
abbrev cX4_closed : ByteArray := prog_1_method_5_code
def yX4_closed : MethodName := ⟨RX4, "closed", "()I"⟩
abbrev cX4_down : ByteArray := prog_1_method_6_code
def yX4_down : MethodName := ⟨RX4, "down", "(I)I"⟩
abbrev cX4_up : ByteArray := prog_1_method_7_code
def yX4_up : MethodName := ⟨RX4, "up", "(I)I"⟩
abbrev cX4_sync : ByteArray := prog_1_method_8_code
def yX4_sync : MethodName := ⟨RX4, "sync", "(I)I"⟩
abbrev cX4_split : ByteArray := prog_1_method_9_code
def yX4_split : MethodName := ⟨RX4, "split", "(I)I"⟩
abbrev cX4_merge : ByteArray := prog_1_method_10_code
def yX4_merge : MethodName := ⟨RX4, "merge", "(I)I"⟩
abbrev cX4_move : ByteArray := prog_1_method_11_code
def yX4_move : MethodName := ⟨RX4, "move", "(II)I"⟩
abbrev cX4_begin : ByteArray := prog_1_method_12_code
def yX4_begin : MethodName := ⟨RX4, "begin", "(II)I"⟩
abbrev cX4_get : ByteArray := prog_1_method_13_code
def yX4_get : MethodName := ⟨RX4, "get", "(II)I"⟩
abbrev cX4_put : ByteArray := prog_1_method_14_code
def yX4_put : MethodName := ⟨RX4, "put", "(III)I"⟩
abbrev cX4_commit : ByteArray := prog_1_method_15_code
def yX4_commit : MethodName := ⟨RX4, "commit", "(IZ)I"⟩
abbrev cX4_abort : ByteArray := prog_1_method_16_code
def yX4_abort : MethodName := ⟨RX4, "abort", "(I)I"⟩
abbrev cX4_recover : ByteArray := prog_1_method_17_code
def yX4_recover : MethodName := ⟨RX4, "recover", "(I)I"⟩
abbrev cX4_beat : ByteArray := prog_1_method_18_code
def yX4_beat : MethodName := ⟨RX4, "beat", "(I)I"⟩
abbrev cX4_told : ByteArray := prog_1_method_19_code
def yX4_told : MethodName := ⟨RX4, "told", "(II)I"⟩
abbrev cX4_key : ByteArray := prog_1_method_20_code
def yX4_key : MethodName := ⟨RX4, "key", "(II)I"⟩
abbrev cX4_asOf : ByteArray := prog_1_method_21_code
def yX4_asOf : MethodName := ⟨RX4, "asOf", "(II)I"⟩
abbrev cX4_resolved : ByteArray := prog_1_method_22_code
def yX4_resolved : MethodName := ⟨RX4, "resolved", "()I"⟩
abbrev cX4_feed : ByteArray := prog_1_method_23_code
def yX4_feed : MethodName := ⟨RX4, "feed", "(I)I"⟩
abbrev cX4_order : ByteArray := prog_1_method_24_code
def yX4_order : MethodName := ⟨RX4, "order", "(I)I"⟩
abbrev cX4_judged : ByteArray := prog_1_method_25_code
def yX4_judged : MethodName := ⟨RX4, "judged", "()I"⟩
abbrev cX4_needNode : ByteArray := prog_1_method_26_code
def yX4_needNode : MethodName := ⟨RX4, "needNode", "(I)V"⟩
abbrev cX4_needUp : ByteArray := prog_1_method_27_code
def yX4_needUp : MethodName := ⟨RX4, "needUp", "(I)V"⟩
abbrev cX4_needKey : ByteArray := prog_1_method_28_code
def yX4_needKey : MethodName := ⟨RX4, "needKey", "(I)V"⟩
abbrev cX4_needTransaction : ByteArray := prog_1_method_29_code
def yX4_needTransaction : MethodName := ⟨RX4, "needTransaction", "(I)V"⟩
abbrev cX4_needPlace : ByteArray := prog_1_method_30_code
def yX4_needPlace : MethodName := ⟨RX4, "needPlace", "(I)V"⟩
abbrev cX4_needWhat : ByteArray := prog_1_method_31_code
def yX4_needWhat : MethodName := ⟨RX4, "needWhat", "(I)V"⟩
abbrev cX4_closedStamp : ByteArray := prog_1_method_32_code
def yX4_closedStamp : MethodName := ⟨RX4, "closedStamp", "()I"⟩
abbrev cX4_resolvedStamp : ByteArray := prog_1_method_33_code
def yX4_resolvedStamp : MethodName := ⟨RX4, "resolvedStamp", "()I"⟩
abbrev cX4_rangeOf : ByteArray := prog_1_method_34_code
def yX4_rangeOf : MethodName := ⟨RX4, "rangeOf", "(I)I"⟩
abbrev cX4_firstKeyOf : ByteArray := prog_1_method_35_code
def yX4_firstKeyOf : MethodName := ⟨RX4, "firstKeyOf", "(I)I"⟩
abbrev cX4_refusalAt : ByteArray := prog_1_method_36_code
def yX4_refusalAt : MethodName := ⟨RX4, "refusalAt", "(LTwinphase$Transaction;I)I"⟩
abbrev cX4_askNode : ByteArray := prog_1_method_37_code
def yX4_askNode : MethodName := ⟨RX4, "askNode", "(LTwinphase$Transaction;I)V"⟩
abbrev cX4_meetIntent : ByteArray := prog_1_method_38_code
def yX4_meetIntent : MethodName := ⟨RX4, "meetIntent", "(LTwinphase$Transaction;I)LTwinphase$Transaction;"⟩
abbrev cX4_waitFor : ByteArray := prog_1_method_39_code
def yX4_waitFor : MethodName := ⟨RX4, "waitFor", "(LTwinphase$Transaction;LTwinphase$Transaction;)I"⟩
abbrev cX4_victimOfRing : ByteArray := prog_1_method_40_code
def yX4_victimOfRing : MethodName := ⟨RX4, "victimOfRing", "(LTwinphase$Transaction;)LTwinphase$Transaction;"⟩
abbrev cX4_lookToRead : ByteArray := prog_1_method_41_code
def yX4_lookToRead : MethodName := ⟨RX4, "lookToRead", "(LTwinphase$Transaction;I)I"⟩
abbrev cX4_refreshReads : ByteArray := prog_1_method_42_code
def yX4_refreshReads : MethodName := ⟨RX4, "refreshReads", "(LTwinphase$Transaction;I)Z"⟩
abbrev cX4_restartAt : ByteArray := prog_1_method_43_code
def yX4_restartAt : MethodName := ⟨RX4, "restartAt", "(LTwinphase$Transaction;I)I"⟩
abbrev cX4_lookToWrite : ByteArray := prog_1_method_44_code
def yX4_lookToWrite : MethodName := ⟨RX4, "lookToWrite", "(LTwinphase$Transaction;II)I"⟩
abbrev cX4_writesOnDownNode : ByteArray := prog_1_method_45_code
def yX4_writesOnDownNode : MethodName := ⟨RX4, "writesOnDownNode", "(LTwinphase$Transaction;)Z"⟩
abbrev cX4_hasAllIntents : ByteArray := prog_1_method_46_code
def yX4_hasAllIntents : MethodName := ⟨RX4, "hasAllIntents", "(LTwinphase$Transaction;)Z"⟩
abbrev cX4_decideStaged : ByteArray := prog_1_method_47_code
def yX4_decideStaged : MethodName := ⟨RX4, "decideStaged", "(LTwinphase$Transaction;)V"⟩
def RX5 : String := "TwinphaseModel"
def TX5 : u_T := fun k => match k with
  | 0 => ("TwinphaseModel", "time", "I", false)
  | 1 => ("TwinphaseModel", "skews", "[I", true)
  | 2 => ("TwinphaseModel", "met", "[I", true)
  | 3 => ("TwinphaseModel", "isDown", "[Z", true)
  | 4 => ("TwinphaseModel", "ranges", "I", false)
  | 5 => ("TwinphaseModel", "begins", "[I", true)
  | 6 => ("TwinphaseModel", "nodes", "[I", true)
  | 7 => ("TwinphaseModel", "owner", "[I", true)
  | 8 => ("TwinphaseModel", "isSure", "[Z", true)
  | 9 => ("TwinphaseModel", "meant", "[I", true)
  | 10 => ("TwinphaseModel", "readAt", "[I", true)
  | 11 => ("TwinphaseModel", "readBy", "[I", true)
  | 12 => ("TwinphaseModel", "versions", "I", false)
  | 13 => ("TwinphaseModel", "vKey", "[I", true)
  | 14 => ("TwinphaseModel", "vStamp", "[I", true)
  | 15 => ("TwinphaseModel", "vValue", "[I", true)
  | 16 => ("TwinphaseModel", "many", "I", false)
  | 17 => ("TwinphaseModel", "home", "[I", true)
  | 18 => ("TwinphaseModel", "rank", "[I", true)
  | 19 => ("TwinphaseModel", "reads", "[I", true)
  | 20 => ("TwinphaseModel", "writes", "[I", true)
  | 21 => ("TwinphaseModel", "doubt", "[I", true)
  | 22 => ("TwinphaseModel", "beaten", "[I", true)
  | 23 => ("TwinphaseModel", "state", "[I", true)
  | 24 => ("TwinphaseModel", "waits", "[I", true)
  | 25 => ("TwinphaseModel", "committedAs", "[I", true)
  | 26 => ("TwinphaseModel", "commits", "I", false)
  | 27 => ("TwinphaseModel", "doubtAt", "[I", true)
  | 28 => ("TwinphaseModel", "valueRead", "[I", true)
  | 29 => ("TwinphaseModel", "valueWritten", "[I", true)
  | 30 => ("TwinphaseModel", "once", "[I", true)
  | _ => ("TwinphaseModel", "thrown", "I", false)
def tyX5 : Nat → FieldType := fun k => match k with
  | 0 => .int
  | 1 => .array .int
  | 2 => .array .int
  | 3 => .array .boolean
  | 4 => .int
  | 5 => .array .int
  | 6 => .array .int
  | 7 => .array .int
  | 8 => .array .boolean
  | 9 => .array .int
  | 10 => .array .int
  | 11 => .array .int
  | 12 => .int
  | 13 => .array .int
  | 14 => .array .int
  | 15 => .array .int
  | 16 => .int
  | 17 => .array .int
  | 18 => .array .int
  | 19 => .array .int
  | 20 => .array .int
  | 21 => .array .int
  | 22 => .array .int
  | 23 => .array .int
  | 24 => .array .int
  | 25 => .array .int
  | 26 => .int
  | 27 => .array .int
  | 28 => .array .int
  | 29 => .array .int
  | 30 => .array .int
  | _ => .int
abbrev wsX50 : List Cond := u_ws RX5 TX5 32
theorem nmX5 : ∀ a, a < 32 → ∀ b, b < 32 → a ≠ b → (TX5 a).2.1 ≠ (TX5 b).2.1 := by decide +kernel
theorem tyX5_ok : ∀ k, k < 32 → parseFieldDescriptor (TX5 k).2.2.1 = some (tyX5 k) := by decide +kernel
abbrev cX5_init : ByteArray := prog_7_method_1_code
def yX5_init : MethodName := ⟨RX5, "<init>", "()V"⟩
abbrev cX5_thrown : ByteArray := prog_7_method_2_code
def yX5_thrown : MethodName := ⟨RX5, "thrown", "()I"⟩
abbrev cX5_in : ByteArray := prog_7_method_3_code
def yX5_in : MethodName := ⟨RX5, "in", "(III)Z"⟩
abbrev cX5_greater : ByteArray := prog_7_method_4_code
def yX5_greater : MethodName := ⟨RX5, "greater", "(II)I"⟩
abbrev cX5_pass : ByteArray := prog_7_method_5_code
def yX5_pass : MethodName := ⟨RX5, "pass", "(I)I"⟩
abbrev cX5_skew : ByteArray := prog_7_method_6_code
def yX5_skew : MethodName := ⟨RX5, "skew", "(II)I"⟩
abbrev cX5_asks : ByteArray := prog_7_method_7_code
def yX5_asks : MethodName := ⟨RX5, "asks", "(I)I"⟩
abbrev cX5_clock : ByteArray := prog_7_method_8_code
def yX5_clock : MethodName := ⟨RX5, "clock", "(I)I"⟩
abbrev cX5_closedNow : ByteArray := prog_7_method_9_code
def yX5_closedNow : MethodName := ⟨RX5, "closedNow", "()I"⟩
abbrev cX5_closed : ByteArray := prog_7_method_10_code
def yX5_closed : MethodName := ⟨RX5, "closed", "()I"⟩
abbrev cX5_rangeOf : ByteArray := prog_7_method_11_code
def yX5_rangeOf : MethodName := ⟨RX5, "rangeOf", "(I)I"⟩
abbrev cX5_nodeOf : ByteArray := prog_7_method_12_code
def yX5_nodeOf : MethodName := ⟨RX5, "nodeOf", "(I)I"⟩
abbrev cX5_down : ByteArray := prog_7_method_13_code
def yX5_down : MethodName := ⟨RX5, "down", "(I)I"⟩
abbrev cX5_covers : ByteArray := prog_7_method_14_code
def yX5_covers : MethodName := ⟨RX5, "covers", "(II)V"⟩
abbrev cX5_up : ByteArray := prog_7_method_15_code
def yX5_up : MethodName := ⟨RX5, "up", "(I)I"⟩
abbrev cX5_sync : ByteArray := prog_7_method_16_code
def yX5_sync : MethodName := ⟨RX5, "sync", "(I)I"⟩
abbrev cX5_split : ByteArray := prog_7_method_17_code
def yX5_split : MethodName := ⟨RX5, "split", "(I)I"⟩
abbrev cX5_merge : ByteArray := prog_7_method_18_code
def yX5_merge : MethodName := ⟨RX5, "merge", "(I)I"⟩
abbrev cX5_move : ByteArray := prog_7_method_19_code
def yX5_move : MethodName := ⟨RX5, "move", "(II)I"⟩
abbrev cX5_begin : ByteArray := prog_7_method_20_code
def yX5_begin : MethodName := ⟨RX5, "begin", "(II)I"⟩
abbrev cX5_forgets : ByteArray := prog_7_method_21_code
def yX5_forgets : MethodName := ⟨RX5, "forgets", "(I)V"⟩
abbrev cX5_isVanished : ByteArray := prog_7_method_22_code
def yX5_isVanished : MethodName := ⟨RX5, "isVanished", "(I)Z"⟩
abbrev cX5_commits : ByteArray := prog_7_method_23_code
def yX5_commits : MethodName := ⟨RX5, "commits", "(I)V"⟩
abbrev cX5_hasAllIntents : ByteArray := prog_7_method_24_code
def yX5_hasAllIntents : MethodName := ⟨RX5, "hasAllIntents", "(I)Z"⟩
abbrev cX5_recovers : ByteArray := prog_7_method_25_code
def yX5_recovers : MethodName := ⟨RX5, "recovers", "(I)V"⟩
abbrev cX5_meets : ByteArray := prog_7_method_26_code
def yX5_meets : MethodName := ⟨RX5, "meets", "(II)I"⟩
abbrev cX5_latest : ByteArray := prog_7_method_27_code
def yX5_latest : MethodName := ⟨RX5, "latest", "(II)I"⟩
abbrev cX5_valueAt : ByteArray := prog_7_method_28_code
def yX5_valueAt : MethodName := ⟨RX5, "valueAt", "(II)I"⟩
abbrev cX5_marks : ByteArray := prog_7_method_29_code
def yX5_marks : MethodName := ⟨RX5, "marks", "(III)V"⟩
abbrev cX5_refreshes : ByteArray := prog_7_method_30_code
def yX5_refreshes : MethodName := ⟨RX5, "refreshes", "(II)Z"⟩
abbrev cX5_restarts : ByteArray := prog_7_method_31_code
def yX5_restarts : MethodName := ⟨RX5, "restarts", "(II)I"⟩
abbrev cX5_waitsFor : ByteArray := prog_7_method_32_code
def yX5_waitsFor : MethodName := ⟨RX5, "waitsFor", "(I)I"⟩
abbrev cX5_comesAnew : ByteArray := prog_7_method_33_code
def yX5_comesAnew : MethodName := ⟨RX5, "comesAnew", "(II)Z"⟩
abbrev cX5_waitAnswer : ByteArray := prog_7_method_34_code
def yX5_waitAnswer : MethodName := ⟨RX5, "waitAnswer", "(I)I"⟩
abbrev cX5_opens : ByteArray := prog_7_method_35_code
def yX5_opens : MethodName := ⟨RX5, "opens", "(II)I"⟩
abbrev cX5_areThere : ByteArray := prog_7_method_36_code
def yX5_areThere : MethodName := ⟨RX5, "areThere", "(II)Z"⟩
abbrev cX5_get : ByteArray := prog_7_method_37_code
def yX5_get : MethodName := ⟨RX5, "get", "(II)I"⟩
abbrev cX5_put : ByteArray := prog_7_method_38_code
def yX5_put : MethodName := ⟨RX5, "put", "(III)I"⟩
abbrev cX5_counts : ByteArray := prog_7_method_39_code
def yX5_counts : MethodName := ⟨RX5, "counts", "(I[I)I"⟩
abbrev cX5_isTransaction : ByteArray := prog_7_method_40_code
def yX5_isTransaction : MethodName := ⟨RX5, "isTransaction", "(I)Z"⟩
abbrev cX5_commit : ByteArray := prog_7_method_41_code
def yX5_commit : MethodName := ⟨RX5, "commit", "(IZ)I"⟩
abbrev cX5_abort : ByteArray := prog_7_method_42_code
def yX5_abort : MethodName := ⟨RX5, "abort", "(I)I"⟩
abbrev cX5_recover : ByteArray := prog_7_method_43_code
def yX5_recover : MethodName := ⟨RX5, "recover", "(I)I"⟩
abbrev cX5_beat : ByteArray := prog_7_method_44_code
def yX5_beat : MethodName := ⟨RX5, "beat", "(I)I"⟩
abbrev cX5_told : ByteArray := prog_7_method_45_code
def yX5_told : MethodName := ⟨RX5, "told", "(II)I"⟩
abbrev cX5_key : ByteArray := prog_7_method_46_code
def yX5_key : MethodName := ⟨RX5, "key", "(II)I"⟩
abbrev cX5_asOf : ByteArray := prog_7_method_47_code
def yX5_asOf : MethodName := ⟨RX5, "asOf", "(II)I"⟩
abbrev cX5_resolvedNow : ByteArray := prog_7_method_48_code
def yX5_resolvedNow : MethodName := ⟨RX5, "resolvedNow", "()I"⟩
abbrev cX5_resolved : ByteArray := prog_7_method_49_code
def yX5_resolved : MethodName := ⟨RX5, "resolved", "()I"⟩
abbrev cX5_feed : ByteArray := prog_7_method_50_code
def yX5_feed : MethodName := ⟨RX5, "feed", "(I)I"⟩
abbrev cX5_next : ByteArray := prog_7_method_51_code
def yX5_next : MethodName := ⟨RX5, "next", "(I)I"⟩
abbrev cX5_isAhead : ByteArray := prog_7_method_52_code
def yX5_isAhead : MethodName := ⟨RX5, "isAhead", "(II)Z"⟩
abbrev cX5_order : ByteArray := prog_7_method_53_code
def yX5_order : MethodName := ⟨RX5, "order", "(I)I"⟩
abbrev cX5_judged : ByteArray := prog_7_method_54_code
def yX5_judged : MethodName := ⟨RX5, "judged", "()I"⟩
def RJ6 : String := "java/lang/Integer"
abbrev cJ6_bitCount_0f7a4 : ByteArray := prog_13_method_49_code
def yJ6_bitCount_0f7a4 : MethodName := ⟨RJ6, "bitCount", "(I)I"⟩
def RJ9 : String := "java/lang/Math"
abbrev cJ9_max_7cf53 : ByteArray := prog_14_method_65_code
def yJ9_max_7cf53 : MethodName := ⟨RJ9, "max", "(II)I"⟩
abbrev cJ9_min_7cf53 : ByteArray := prog_14_method_69_code
def yJ9_min_7cf53 : MethodName := ⟨RJ9, "min", "(II)I"⟩
def RJ0 : String := "java/lang/String"
def RJ10 : String := "java/lang/System"
def RJ7 : String := "java/util/Arrays"
abbrev cJ7_fill_53178 : ByteArray := prog_19_method_103_code
def yJ7_fill_53178 : MethodName := ⟨RJ7, "fill", "([II)V"⟩
abbrev cJ7_copyOf_59c91 : ByteArray := prog_19_method_123_code
def yJ7_copyOf_59c91 : MethodName := ⟨RJ7, "copyOf", "([II)[I"⟩
def RL : String := "TwinphaseLaw"
abbrev cL_pass : ByteArray := method_3_code
def yL_pass : MethodName := ⟨RL, "pass", "(LTwinphase;I[J)I"⟩
abbrev cL_skew : ByteArray := method_4_code
def yL_skew : MethodName := ⟨RL, "skew", "(LTwinphase;II[J)I"⟩
abbrev cL_clock : ByteArray := method_5_code
def yL_clock : MethodName := ⟨RL, "clock", "(LTwinphase;I[J)I"⟩
abbrev cL_down : ByteArray := method_6_code
def yL_down : MethodName := ⟨RL, "down", "(LTwinphase;I[J)I"⟩
abbrev cL_up : ByteArray := method_7_code
def yL_up : MethodName := ⟨RL, "up", "(LTwinphase;I[J)I"⟩
abbrev cL_sync : ByteArray := method_8_code
def yL_sync : MethodName := ⟨RL, "sync", "(LTwinphase;I[J)I"⟩
abbrev cL_split : ByteArray := method_9_code
def yL_split : MethodName := ⟨RL, "split", "(LTwinphase;I[J)I"⟩
abbrev cL_merge : ByteArray := method_10_code
def yL_merge : MethodName := ⟨RL, "merge", "(LTwinphase;I[J)I"⟩
abbrev cL_move : ByteArray := method_11_code
def yL_move : MethodName := ⟨RL, "move", "(LTwinphase;II[J)I"⟩
abbrev cL_begin : ByteArray := method_12_code
def yL_begin : MethodName := ⟨RL, "begin", "(LTwinphase;II[J)I"⟩
abbrev cL_get : ByteArray := method_13_code
def yL_get : MethodName := ⟨RL, "get", "(LTwinphase;II[J)I"⟩
abbrev cL_put : ByteArray := method_14_code
def yL_put : MethodName := ⟨RL, "put", "(LTwinphase;III[J)I"⟩
abbrev cL_commit : ByteArray := method_15_code
def yL_commit : MethodName := ⟨RL, "commit", "(LTwinphase;IZ[J)I"⟩
abbrev cL_abort : ByteArray := method_16_code
def yL_abort : MethodName := ⟨RL, "abort", "(LTwinphase;I[J)I"⟩
abbrev cL_recover : ByteArray := method_17_code
def yL_recover : MethodName := ⟨RL, "recover", "(LTwinphase;I[J)I"⟩
abbrev cL_beat : ByteArray := method_18_code
def yL_beat : MethodName := ⟨RL, "beat", "(LTwinphase;I[J)I"⟩
abbrev cL_told : ByteArray := method_19_code
def yL_told : MethodName := ⟨RL, "told", "(LTwinphase;II[J)I"⟩
abbrev cL_key : ByteArray := method_20_code
def yL_key : MethodName := ⟨RL, "key", "(LTwinphase;II[J)I"⟩
abbrev cL_asOf : ByteArray := method_21_code
def yL_asOf : MethodName := ⟨RL, "asOf", "(LTwinphase;II[J)I"⟩
abbrev cL_feed : ByteArray := method_22_code
def yL_feed : MethodName := ⟨RL, "feed", "(LTwinphase;I[J)I"⟩
abbrev cL_order : ByteArray := method_23_code
def yL_order : MethodName := ⟨RL, "order", "(LTwinphase;I[J)I"⟩
abbrev cL_law : ByteArray := code
def yL_law : MethodName := ⟨RL, "law", "([I)Z"⟩
abbrev vwCl : List vw_C := [(RX0, TX0, 6), (RX1, TX1, 6), (RX2, TX2, 3), (RX3, TX3, 15), (RX4, TX4, 6), (RX5, TX5, 32)]
end
section
/-! the instructions of each method, a table a method, held against decode by the kernel -/
def dT (c : ByteArray) (L : List (Nat × Instr × Nat)) : Bool := L.all (fun q => decide (decode c q.1 = .ok (q.2.1, q.2.2)))
theorem dG {c : ByteArray} {L : List (Nat × Instr × Nat)} {pc len : Nat} {ins : Instr} (h : dT c L = true) (i : Nat) (hi : L[i]? = some (pc, ins, len)) : decode c pc = .ok (ins, len) := by
  have h1 := List.all_eq_true.mp h _ (List.mem_of_getElem? hi)
  exact of_decide_eq_true h1
def I_X0_init : List (Nat × Instr × Nat) := [(0, .aload_n 0, 1), (1, .invokespecial 3, 3), (4, .aload_n 0, 1), (5, .iconst (-1), 1), (6, .putfield 9, 3), (9, .return_, 1)]
set_option maxRecDepth 100000 in
theorem D_X0_init : dT cX0_init I_X0_init = true := by decide +kernel
def I_X0_noteReader : List (Nat × Instr × Nat) := [(0, .iload_n 2, 1), (1, .aload_n 0, 1), (2, .getfield 15, 3), (5, .if_icmp .le 16, 3), (8, .aload_n 0, 1), (9, .iload_n 2, 1), (10, .putfield 15, 3), (13, .aload_n 0, 1), (14, .iload_n 1, 1), (15, .putfield 9, 3), (18, .goto 25, 3), (21, .iload_n 2, 1), (22, .aload_n 0, 1), (23, .getfield 15, 3), (26, .if_icmp .ne 17, 3), (29, .aload_n 0, 1), (30, .getfield 9, 3), (33, .iload_n 1, 1), (34, .if_icmp .eq 9, 3), (37, .aload_n 0, 1), (38, .bipush (-2), 2), (40, .putfield 9, 3), (43, .return_, 1)]
set_option maxRecDepth 100000 in
theorem D_X0_noteReader : dT cX0_noteReader I_X0_noteReader = true := by decide +kernel
def I_X0_noteSeveral : List (Nat × Instr × Nat) := [(0, .iload_n 1, 1), (1, .aload_n 0, 1), (2, .getfield 15, 3), (5, .if_icmp .le 14, 3), (8, .aload_n 0, 1), (9, .iload_n 1, 1), (10, .putfield 15, 3), (13, .aload_n 0, 1), (14, .bipush (-2), 2), (16, .putfield 9, 3), (19, .return_, 1)]
set_option maxRecDepth 100000 in
theorem D_X0_noteSeveral : dT cX0_noteSeveral I_X0_noteSeveral = true := by decide +kernel
def I_X1_init : List (Nat × Instr × Nat) := [(0, .aload_n 0, 1), (1, .invokespecial 3, 3), (4, .aload_n 0, 1), (5, .bipush 32, 2), (7, .newarray .int, 2), (9, .putfield 9, 3), (12, .aload_n 0, 1), (13, .bipush 32, 2), (15, .newarray .int, 2), (17, .putfield 15, 3), (20, .aload_n 0, 1), (21, .bipush 40, 2), (23, .anewarray 18, 3), (26, .putfield 20, 3), (29, .aload_n 0, 1), (30, .bipush 32, 2), (32, .newarray .int, 2), (34, .putfield 24, 3), (37, .return_, 1)]
set_option maxRecDepth 100000 in
theorem D_X1_init : dT cX1_init I_X1_init = true := by decide +kernel
def I_J7_copyOf_59c91 : List (Nat × Instr × Nat) := [(0, .iload_n 1, 1), (1, .aload_n 0, 1), (2, .arraylength, 1), (3, .if_icmp .ne 11, 3), (6, .aload_n 0, 1), (7, .invokevirtual 316, 3), (10, .checkcast 317, 3), (13, .areturn, 1), (14, .iload_n 1, 1), (15, .newarray .int, 2), (17, .astore_n 2, 1), (18, .aload_n 0, 1), (19, .iconst 0, 1), (20, .aload_n 2, 1), (21, .iconst 0, 1), (22, .aload_n 0, 1), (23, .arraylength, 1), (24, .iload_n 1, 1), (25, .invokestatic 304, 3), (28, .invokestatic 150, 3), (31, .aload_n 2, 1), (32, .areturn, 1)]
set_option maxRecDepth 100000 in
theorem D_J7_copyOf_59c91 : dT cJ7_copyOf_59c91 I_J7_copyOf_59c91 = true := by decide +kernel
def I_X1_addChange : List (Nat × Instr × Nat) := [(0, .aload_n 0, 1), (1, .getfield 27, 3), (4, .aload_n 0, 1), (5, .getfield 9, 3), (8, .arraylength, 1), (9, .if_icmp .ne 37, 3), (12, .aload_n 0, 1), (13, .aload_n 0, 1), (14, .getfield 9, 3), (17, .iconst 2, 1), (18, .aload_n 0, 1), (19, .getfield 27, 3), (22, .imul, 1), (23, .invokestatic 31, 3), (26, .putfield 9, 3), (29, .aload_n 0, 1), (30, .aload_n 0, 1), (31, .getfield 15, 3), (34, .iconst 2, 1), (35, .aload_n 0, 1), (36, .getfield 27, 3), (39, .imul, 1), (40, .invokestatic 31, 3), (43, .putfield 15, 3), (46, .bipush 32, 2), (48, .iload_n 1, 1), (49, .imul, 1), (50, .iload_n 2, 1), (51, .iadd, 1), (52, .istore 4, 2), (54, .aload_n 0, 1), (55, .getfield 27, 3), (58, .istore 5, 2), (60, .iload 5, 2), (62, .ifCond .le 55, 3), (65, .aload_n 0, 1), (66, .getfield 9, 3), (69, .iload 5, 2), (71, .iconst 1, 1), (72, .isub, 1), (73, .iaload, 1), (74, .iload 4, 2), (76, .if_icmp .le 41, 3), (79, .aload_n 0, 1), (80, .getfield 9, 3), (83, .iload 5, 2), (85, .aload_n 0, 1), (86, .getfield 9, 3), (89, .iload 5, 2), (91, .iconst 1, 1), (92, .isub, 1), (93, .iaload, 1), (94, .iastore, 1), (95, .aload_n 0, 1), (96, .getfield 15, 3), (99, .iload 5, 2), (101, .aload_n 0, 1), (102, .getfield 15, 3), (105, .iload 5, 2), (107, .iconst 1, 1), (108, .isub, 1), (109, .iaload, 1), (110, .iastore, 1), (111, .iinc 5 (-1), 3), (114, .goto (-54), 3), (117, .aload_n 0, 1), (118, .getfield 9, 3), (121, .iload 5, 2), (123, .iload 4, 2), (125, .iastore, 1), (126, .aload_n 0, 1), (127, .getfield 15, 3), (130, .iload 5, 2), (132, .iload_n 3, 1), (133, .iastore, 1), (134, .aload_n 0, 1), (135, .dup, 1), (136, .getfield 27, 3), (139, .iconst 1, 1), (140, .iadd, 1), (141, .putfield 27, 3), (144, .return_, 1)]
set_option maxRecDepth 100000 in
theorem D_X1_addChange : dT cX1_addChange I_X1_addChange = true := by decide +kernel
def I_X1_placeUpTo : List (Nat × Instr × Nat) := [(0, .aload_n 0, 1), (1, .getfield 27, 3), (4, .iconst 1, 1), (5, .isub, 1), (6, .istore_n 3, 1), (7, .iload_n 3, 1), (8, .ifCond .lt 37, 3), (11, .aload_n 0, 1), (12, .getfield 9, 3), (15, .iload_n 3, 1), (16, .iaload, 1), (17, .bipush 32, 2), (19, .irem, 1), (20, .iload_n 1, 1), (21, .if_icmp .ne 18, 3), (24, .aload_n 0, 1), (25, .getfield 9, 3), (28, .iload_n 3, 1), (29, .iaload, 1), (30, .bipush 32, 2), (32, .idiv, 1), (33, .iload_n 2, 1), (34, .if_icmp .gt 5, 3), (37, .iload_n 3, 1), (38, .ireturn, 1), (39, .iinc 3 (-1), 3), (42, .goto (-35), 3), (45, .iconst (-1), 1), (46, .ireturn, 1)]
set_option maxRecDepth 100000 in
theorem D_X1_placeUpTo : dT cX1_placeUpTo I_X1_placeUpTo = true := by decide +kernel
def I_X1_stampUpTo : List (Nat × Instr × Nat) := [(0, .aload_n 0, 1), (1, .iload_n 1, 1), (2, .iload_n 2, 1), (3, .invokevirtual 37, 3), (6, .istore_n 3, 1), (7, .iload_n 3, 1), (8, .ifCond .ge 7, 3), (11, .iconst 0, 1), (12, .goto 12, 3), (15, .aload_n 0, 1), (16, .getfield 9, 3), (19, .iload_n 3, 1), (20, .iaload, 1), (21, .bipush 32, 2), (23, .idiv, 1), (24, .ireturn, 1)]
set_option maxRecDepth 100000 in
theorem D_X1_stampUpTo : dT cX1_stampUpTo I_X1_stampUpTo = true := by decide +kernel
def I_X1_valueUpTo : List (Nat × Instr × Nat) := [(0, .aload_n 0, 1), (1, .iload_n 1, 1), (2, .iload_n 2, 1), (3, .invokevirtual 37, 3), (6, .istore_n 3, 1), (7, .iload_n 3, 1), (8, .ifCond .ge 9, 3), (11, .sipush 1000, 3), (14, .goto 9, 3), (17, .aload_n 0, 1), (18, .getfield 15, 3), (21, .iload_n 3, 1), (22, .iaload, 1), (23, .ireturn, 1)]
set_option maxRecDepth 100000 in
theorem D_X1_valueUpTo : dT cX1_valueUpTo I_X1_valueUpTo = true := by decide +kernel
def I_X1_countOf : List (Nat × Instr × Nat) := [(0, .iconst 0, 1), (1, .istore_n 2, 1), (2, .iconst 0, 1), (3, .istore_n 3, 1), (4, .iload_n 3, 1), (5, .aload_n 0, 1), (6, .getfield 27, 3), (9, .if_icmp .ge 25, 3), (12, .aload_n 0, 1), (13, .getfield 9, 3), (16, .iload_n 3, 1), (17, .iaload, 1), (18, .bipush 32, 2), (20, .irem, 1), (21, .iload_n 1, 1), (22, .if_icmp .ne 6, 3), (25, .iinc 2 1, 3), (28, .iinc 3 1, 3), (31, .goto (-27), 3), (34, .iload_n 2, 1), (35, .ireturn, 1)]
set_option maxRecDepth 100000 in
theorem D_X1_countOf : dT cX1_countOf I_X1_countOf = true := by decide +kernel
def I_X1_changeAt : List (Nat × Instr × Nat) := [(0, .iload_n 1, 1), (1, .aload_n 0, 1), (2, .getfield 27, 3), (5, .if_icmp .ge 25, 3), (8, .aload_n 0, 1), (9, .getfield 9, 3), (12, .iload_n 1, 1), (13, .iaload, 1), (14, .bipush 32, 2), (16, .idiv, 1), (17, .iload_n 2, 1), (18, .if_icmp .gt 12, 3), (21, .aload_n 0, 1), (22, .getfield 9, 3), (25, .iload_n 1, 1), (26, .iaload, 1), (27, .goto 4, 3), (30, .iconst (-1), 1), (31, .ireturn, 1)]
set_option maxRecDepth 100000 in
theorem D_X1_changeAt : dT cX1_changeAt I_X1_changeAt = true := by decide +kernel
def I_X1_addCommitted : List (Nat × Instr × Nat) := [(0, .aload_n 0, 1), (1, .getfield 41, 3), (4, .bipush 40, 2), (6, .if_icmp .lt 4, 3), (9, .return_, 1), (10, .aload_n 0, 1), (11, .getfield 41, 3), (14, .istore_n 2, 1), (15, .iload_n 2, 1), (16, .ifCond .le 41, 3), (19, .aload_n 0, 1), (20, .getfield 20, 3), (23, .iload_n 2, 1), (24, .iconst 1, 1), (25, .isub, 1), (26, .aaload, 1), (27, .getfield 44, 3), (30, .aload_n 1, 1), (31, .getfield 44, 3), (34, .if_icmp .le 23, 3), (37, .aload_n 0, 1), (38, .getfield 20, 3), (41, .iload_n 2, 1), (42, .aload_n 0, 1), (43, .getfield 20, 3), (46, .iload_n 2, 1), (47, .iconst 1, 1), (48, .isub, 1), (49, .aaload, 1), (50, .aastore, 1), (51, .iinc 2 (-1), 3), (54, .goto (-39), 3), (57, .aload_n 0, 1), (58, .getfield 20, 3), (61, .iload_n 2, 1), (62, .aload_n 1, 1), (63, .aastore, 1), (64, .aload_n 0, 1), (65, .dup, 1), (66, .getfield 41, 3), (69, .iconst 1, 1), (70, .iadd, 1), (71, .putfield 41, 3), (74, .return_, 1)]
set_option maxRecDepth 100000 in
theorem D_X1_addCommitted : dT cX1_addCommitted I_X1_addCommitted = true := by decide +kernel
def I_X1_committedAt : List (Nat × Instr × Nat) := [(0, .iload_n 1, 1), (1, .aload_n 0, 1), (2, .getfield 41, 3), (5, .if_icmp .ge 12, 3), (8, .aload_n 0, 1), (9, .getfield 20, 3), (12, .iload_n 1, 1), (13, .aaload, 1), (14, .goto 4, 3), (17, .aconst_null, 1), (18, .areturn, 1)]
set_option maxRecDepth 100000 in
theorem D_X1_committedAt : dT cX1_committedAt I_X1_committedAt = true := by decide +kernel
def I_J7_fill_53178 : List (Nat × Instr × Nat) := [(0, .iconst 0, 1), (1, .istore_n 2, 1), (2, .aload_n 0, 1), (3, .arraylength, 1), (4, .istore_n 3, 1), (5, .iload_n 2, 1), (6, .iload_n 3, 1), (7, .if_icmp .ge 13, 3), (10, .aload_n 0, 1), (11, .iload_n 2, 1), (12, .iload_n 1, 1), (13, .iastore, 1), (14, .iinc 2 1, 3), (17, .goto (-12), 3), (20, .return_, 1)]
set_option maxRecDepth 100000 in
theorem D_J7_fill_53178 : dT cJ7_fill_53178 I_J7_fill_53178 = true := by decide +kernel
def I_X3_hasRead : List (Nat × Instr × Nat) := [(0, .aload_n 0, 1), (1, .getfield 59, 3), (4, .iload_n 1, 1), (5, .iushr, 1), (6, .iconst 1, 1), (7, .iand, 1), (8, .ifCond .eq 7, 3), (11, .iconst 1, 1), (12, .goto 4, 3), (15, .iconst 0, 1), (16, .ireturn, 1)]
set_option maxRecDepth 100000 in
theorem D_X3_hasRead : dT cX3_hasRead I_X3_hasRead = true := by decide +kernel
def I_X3_writes : List (Nat × Instr × Nat) := [(0, .aload_n 0, 1), (1, .getfield 62, 3), (4, .iload_n 1, 1), (5, .iushr, 1), (6, .iconst 1, 1), (7, .iand, 1), (8, .ifCond .eq 7, 3), (11, .iconst 1, 1), (12, .goto 4, 3), (15, .iconst 0, 1), (16, .ireturn, 1)]
set_option maxRecDepth 100000 in
theorem D_X3_writes : dT cX3_writes I_X3_writes = true := by decide +kernel
def I_X1_redo : List (Nat × Instr × Nat) := [(0, .iconst 0, 1), (1, .istore_n 2, 1), (2, .iconst 0, 1), (3, .istore_n 3, 1), (4, .iload_n 3, 1), (5, .bipush 32, 2), (7, .if_icmp .ge 35, 3), (10, .aload_n 1, 1), (11, .iload_n 3, 1), (12, .invokevirtual 55, 3), (15, .ifCond .eq 21, 3), (18, .aload_n 1, 1), (19, .getfield 59, 3), (22, .iload_n 3, 1), (23, .iaload, 1), (24, .aload_n 0, 1), (25, .getfield 24, 3), (28, .iload_n 3, 1), (29, .iaload, 1), (30, .if_icmp .eq 6, 3), (33, .iinc 2 1, 3), (36, .iinc 3 1, 3), (39, .goto (-35), 3), (42, .iconst 0, 1), (43, .istore_n 3, 1), (44, .iload_n 3, 1), (45, .bipush 32, 2), (47, .if_icmp .ge 29, 3), (50, .aload_n 1, 1), (51, .iload_n 3, 1), (52, .invokevirtual 62, 3), (55, .ifCond .eq 15, 3), (58, .aload_n 0, 1), (59, .getfield 24, 3), (62, .iload_n 3, 1), (63, .aload_n 1, 1), (64, .getfield 65, 3), (67, .iload_n 3, 1), (68, .iaload, 1), (69, .iastore, 1), (70, .iinc 3 1, 3), (73, .goto (-29), 3), (76, .iload_n 2, 1), (77, .ireturn, 1)]
set_option maxRecDepth 100000 in
theorem D_X1_redo : dT cX1_redo I_X1_redo = true := by decide +kernel
def I_X1_countUnexplained : List (Nat × Instr × Nat) := [(0, .aload_n 0, 1), (1, .getfield 24, 3), (4, .sipush 1000, 3), (7, .invokestatic 47, 3), (10, .iconst 0, 1), (11, .istore_n 1, 1), (12, .iconst 0, 1), (13, .istore_n 2, 1), (14, .iload_n 2, 1), (15, .aload_n 0, 1), (16, .getfield 41, 3), (19, .if_icmp .ge 22, 3), (22, .iload_n 1, 1), (23, .aload_n 0, 1), (24, .aload_n 0, 1), (25, .getfield 20, 3), (28, .iload_n 2, 1), (29, .aaload, 1), (30, .invokevirtual 51, 3), (33, .iadd, 1), (34, .istore_n 1, 1), (35, .iinc 2 1, 3), (38, .goto (-24), 3), (41, .iload_n 1, 1), (42, .ireturn, 1)]
set_option maxRecDepth 100000 in
theorem D_X1_countUnexplained : dT cX1_countUnexplained I_X1_countUnexplained = true := by decide +kernel
def I_X2_init : List (Nat × Instr × Nat) := [(0, .aload_n 0, 1), (1, .invokespecial 3, 3), (4, .return_, 1)]
set_option maxRecDepth 100000 in
theorem D_X2_init : dT cX2_init I_X2_init = true := by decide +kernel
def I_X2_meetStamp : List (Nat × Instr × Nat) := [(0, .aload_n 0, 1), (1, .aload_n 0, 1), (2, .getfield 15, 3), (5, .iload_n 1, 1), (6, .invokestatic 18, 3), (9, .putfield 15, 3), (12, .return_, 1)]
set_option maxRecDepth 100000 in
theorem D_X2_meetStamp : dT cX2_meetStamp I_X2_meetStamp = true := by decide +kernel
def I_X2_tellStamp : List (Nat × Instr × Nat) := [(0, .aload_n 0, 1), (1, .bipush 10, 2), (3, .iload_n 1, 1), (4, .aload_n 0, 1), (5, .getfield 9, 3), (8, .iadd, 1), (9, .imul, 1), (10, .aload_n 0, 1), (11, .getfield 15, 3), (14, .iconst 1, 1), (15, .iadd, 1), (16, .invokestatic 18, 3), (19, .invokevirtual 24, 3), (22, .aload_n 0, 1), (23, .getfield 15, 3), (26, .ireturn, 1)]
set_option maxRecDepth 100000 in
theorem D_X2_tellStamp : dT cX2_tellStamp I_X2_tellStamp = true := by decide +kernel
def I_X3_init : List (Nat × Instr × Nat) := [(0, .aload_n 0, 1), (1, .invokespecial 3, 3), (4, .aload_n 0, 1), (5, .iconst 0, 1), (6, .putfield 9, 3), (9, .aload_n 0, 1), (10, .bipush 32, 2), (12, .newarray .int, 2), (14, .putfield 15, 3), (17, .aload_n 0, 1), (18, .bipush 32, 2), (20, .newarray .int, 2), (22, .putfield 19, 3), (25, .aload_n 0, 1), (26, .iconst 4, 1), (27, .newarray .int, 2), (29, .putfield 22, 3), (32, .aload_n 0, 1), (33, .iload_n 1, 1), (34, .putfield 25, 3), (37, .aload_n 0, 1), (38, .iload_n 2, 1), (39, .putfield 28, 3), (42, .aload_n 0, 1), (43, .iload_n 3, 1), (44, .putfield 31, 3), (47, .aload_n 0, 1), (48, .iload 4, 2), (50, .bipush 100, 2), (52, .iadd, 1), (53, .putfield 34, 3), (56, .aload_n 0, 1), (57, .iload 4, 2), (59, .putfield 37, 3), (62, .aload_n 0, 1), (63, .iload 4, 2), (65, .putfield 40, 3), (68, .aload_n 0, 1), (69, .iload 5, 2), (71, .putfield 43, 3), (74, .return_, 1)]
set_option maxRecDepth 100000 in
theorem D_X3_init : dT cX3_init I_X3_init = true := by decide +kernel
def I_X3_isVanished : List (Nat × Instr × Nat) := [(0, .aload_n 0, 1), (1, .getfield 9, 3), (4, .ifCond .eq 11, 3), (7, .aload_n 0, 1), (8, .getfield 9, 3), (11, .iconst 1, 1), (12, .if_icmp .ne 18, 3), (15, .iload_n 1, 1), (16, .aload_n 0, 1), (17, .getfield 43, 3), (20, .bipush 20, 2), (22, .iadd, 1), (23, .if_icmp .le 7, 3), (26, .iconst 1, 1), (27, .goto 4, 3), (30, .iconst 0, 1), (31, .ireturn, 1)]
set_option maxRecDepth 100000 in
theorem D_X3_isVanished : dT cX3_isVanished I_X3_isVanished = true := by decide +kernel
def I_X3_waitsFor : List (Nat × Instr × Nat) := [(0, .aload_n 0, 1), (1, .getfield 9, 3), (4, .ifCond .ne 27, 3), (7, .aload_n 0, 1), (8, .getfield 46, 3), (11, .ifnull 20, 3), (14, .aload_n 0, 1), (15, .getfield 46, 3), (18, .getfield 9, 3), (21, .ifCond .ne 10, 3), (24, .aload_n 0, 1), (25, .getfield 46, 3), (28, .goto 4, 3), (31, .aconst_null, 1), (32, .areturn, 1)]
set_option maxRecDepth 100000 in
theorem D_X3_waitsFor : dT cX3_waitsFor I_X3_waitsFor = true := by decide +kernel
def I_X3_yieldsBefore : List (Nat × Instr × Nat) := [(0, .aload_n 0, 1), (1, .getfield 31, 3), (4, .aload_n 1, 1), (5, .getfield 31, 3), (8, .if_icmp .lt 25, 3), (11, .aload_n 0, 1), (12, .getfield 31, 3), (15, .aload_n 1, 1), (16, .getfield 31, 3), (19, .if_icmp .ne 18, 3), (22, .aload_n 0, 1), (23, .getfield 25, 3), (26, .aload_n 1, 1), (27, .getfield 25, 3), (30, .if_icmp .le 7, 3), (33, .iconst 1, 1), (34, .goto 4, 3), (37, .iconst 0, 1), (38, .ireturn, 1)]
set_option maxRecDepth 100000 in
theorem D_X3_yieldsBefore : dT cX3_yieldsBefore I_X3_yieldsBefore = true := by decide +kernel
def I_X3_hasAsked : List (Nat × Instr × Nat) := [(0, .aload_n 0, 1), (1, .getfield 50, 3), (4, .iload_n 1, 1), (5, .iushr, 1), (6, .iconst 1, 1), (7, .iand, 1), (8, .ifCond .eq 7, 3), (11, .iconst 1, 1), (12, .goto 4, 3), (15, .iconst 0, 1), (16, .ireturn, 1)]
set_option maxRecDepth 100000 in
theorem D_X3_hasAsked : dT cX3_hasAsked I_X3_hasAsked = true := by decide +kernel
def I_X3_noteClock : List (Nat × Instr × Nat) := [(0, .aload_n 0, 1), (1, .dup, 1), (2, .getfield 50, 3), (5, .iconst 1, 1), (6, .iload_n 1, 1), (7, .ishl, 1), (8, .ior, 1), (9, .putfield 50, 3), (12, .aload_n 0, 1), (13, .getfield 22, 3), (16, .iload_n 1, 1), (17, .aload_n 0, 1), (18, .getfield 34, 3), (21, .iload_n 2, 1), (22, .invokestatic 53, 3), (25, .iastore, 1), (26, .return_, 1)]
set_option maxRecDepth 100000 in
theorem D_X3_noteClock : dT cX3_noteClock I_X3_noteClock = true := by decide +kernel
def I_X3_noteRead : List (Nat × Instr × Nat) := [(0, .aload_n 0, 1), (1, .dup, 1), (2, .getfield 59, 3), (5, .iconst 1, 1), (6, .iload_n 1, 1), (7, .ishl, 1), (8, .ior, 1), (9, .putfield 59, 3), (12, .aload_n 0, 1), (13, .getfield 15, 3), (16, .iload_n 1, 1), (17, .iload_n 2, 1), (18, .iastore, 1), (19, .iload_n 2, 1), (20, .ireturn, 1)]
set_option maxRecDepth 100000 in
theorem D_X3_noteRead : dT cX3_noteRead I_X3_noteRead = true := by decide +kernel
def I_X3_noteWrite : List (Nat × Instr × Nat) := [(0, .aload_n 0, 1), (1, .dup, 1), (2, .getfield 62, 3), (5, .iconst 1, 1), (6, .iload_n 1, 1), (7, .ishl, 1), (8, .ior, 1), (9, .putfield 62, 3), (12, .aload_n 0, 1), (13, .getfield 19, 3), (16, .iload_n 1, 1), (17, .iload_n 2, 1), (18, .iastore, 1), (19, .return_, 1)]
set_option maxRecDepth 100000 in
theorem D_X3_noteWrite : dT cX3_noteWrite I_X3_noteWrite = true := by decide +kernel
def I_X3_forgetAll : List (Nat × Instr × Nat) := [(0, .aload_n 0, 1), (1, .iconst 0, 1), (2, .putfield 59, 3), (5, .aload_n 0, 1), (6, .iconst 0, 1), (7, .putfield 62, 3), (10, .aload_n 0, 1), (11, .iload_n 1, 1), (12, .aload_n 0, 1), (13, .getfield 40, 3), (16, .invokestatic 65, 3), (19, .putfield 40, 3), (22, .aload_n 0, 1), (23, .aload_n 0, 1), (24, .getfield 40, 3), (27, .putfield 37, 3), (30, .return_, 1)]
set_option maxRecDepth 100000 in
theorem D_X3_forgetAll : dT cX3_forgetAll I_X3_forgetAll = true := by decide +kernel
def I_X3_raiseStamps : List (Nat × Instr × Nat) := [(0, .aload_n 0, 1), (1, .iload_n 1, 1), (2, .putfield 37, 3), (5, .aload_n 0, 1), (6, .aload_n 0, 1), (7, .getfield 40, 3), (10, .iload_n 1, 1), (11, .invokestatic 65, 3), (14, .putfield 40, 3), (17, .return_, 1)]
set_option maxRecDepth 100000 in
theorem D_X3_raiseStamps : dT cX3_raiseStamps I_X3_raiseStamps = true := by decide +kernel
def I_X4_init : List (Nat × Instr × Nat) := [(0, .aload_n 0, 1), (1, .invokespecial 1, 3), (4, .aload_n 0, 1), (5, .iconst 4, 1), (6, .anewarray 9, 3), (9, .putfield 11, 3), (12, .aload_n 0, 1), (13, .bipush 32, 2), (15, .anewarray 15, 3), (18, .putfield 17, 3), (21, .aload_n 0, 1), (22, .bipush 40, 2), (24, .anewarray 21, 3), (27, .putfield 23, 3), (30, .aload_n 0, 1), (31, .new 27, 3), (34, .dup, 1), (35, .invokespecial 29, 3), (38, .putfield 30, 3), (41, .iconst 0, 1), (42, .istore_n 1, 1), (43, .iload_n 1, 1), (44, .iconst 4, 1), (45, .if_icmp .ge 22, 3), (48, .aload_n 0, 1), (49, .getfield 11, 3), (52, .iload_n 1, 1), (53, .new 9, 3), (56, .dup, 1), (57, .invokespecial 34, 3), (60, .aastore, 1), (61, .iinc 1 1, 3), (64, .goto (-21), 3), (67, .iconst 0, 1), (68, .istore_n 1, 1), (69, .iload_n 1, 1), (70, .bipush 32, 2), (72, .if_icmp .ge 22, 3), (75, .aload_n 0, 1), (76, .getfield 17, 3), (79, .iload_n 1, 1), (80, .new 15, 3), (83, .dup, 1), (84, .invokespecial 35, 3), (87, .aastore, 1), (88, .iinc 1 1, 3), (91, .goto (-22), 3), (94, .aload_n 0, 1), (95, .getfield 17, 3), (98, .iconst 0, 1), (99, .aaload, 1), (100, .iconst 1, 1), (101, .putfield 36, 3), (104, .return_, 1)]
set_option maxRecDepth 100000 in
theorem D_X4_init : dT cX4_init I_X4_init = true := by decide +kernel
def I_X4_pass : List (Nat × Instr × Nat) := [(0, .iload_n 1, 1), (1, .iconst 1, 1), (2, .if_icmp .lt 9, 3), (5, .iload_n 1, 1), (6, .bipush 50, 2), (8, .if_icmp .le 13, 3), (11, .new 40, 3), (14, .dup, 1), (15, .ldc 42, 2), (17, .invokespecial 44, 3), (20, .athrow, 1), (21, .aload_n 0, 1), (22, .getfield 47, 3), (25, .iload_n 1, 1), (26, .iadd, 1), (27, .sipush 2000, 3), (30, .if_icmp .le 13, 3), (33, .new 51, 3), (36, .dup, 1), (37, .ldc 53, 2), (39, .invokespecial 55, 3), (42, .athrow, 1), (43, .aload_n 0, 1), (44, .dup, 1), (45, .getfield 47, 3), (48, .iload_n 1, 1), (49, .iadd, 1), (50, .putfield 47, 3), (53, .aload_n 0, 1), (54, .getfield 47, 3), (57, .ireturn, 1)]
set_option maxRecDepth 100000 in
theorem D_X4_pass : dT cX4_pass I_X4_pass = true := by decide +kernel
def I_X4_needNode : List (Nat × Instr × Nat) := [(0, .iload_n 1, 1), (1, .ifCond .lt 8, 3), (4, .iload_n 1, 1), (5, .iconst 4, 1), (6, .if_icmp .lt 13, 3), (9, .new 94, 3), (12, .dup, 1), (13, .ldc 242, 2), (15, .invokespecial 98, 3), (18, .athrow, 1), (19, .return_, 1)]
set_option maxRecDepth 100000 in
theorem D_X4_needNode : dT cX4_needNode I_X4_needNode = true := by decide +kernel
def I_X4_skew : List (Nat × Instr × Nat) := [(0, .aload_n 0, 1), (1, .iload_n 1, 1), (2, .invokevirtual 56, 3), (5, .iload_n 2, 1), (6, .bipush (-5), 2), (8, .if_icmp .lt 8, 3), (11, .iload_n 2, 1), (12, .iconst 5, 1), (13, .if_icmp .le 13, 3), (16, .new 40, 3), (19, .dup, 1), (20, .ldc 60, 2), (22, .invokespecial 44, 3), (25, .athrow, 1), (26, .aload_n 0, 1), (27, .getfield 11, 3), (30, .iload_n 1, 1), (31, .aaload, 1), (32, .getfield 62, 3), (35, .istore_n 3, 1), (36, .aload_n 0, 1), (37, .getfield 11, 3), (40, .iload_n 1, 1), (41, .aaload, 1), (42, .iload_n 2, 1), (43, .putfield 62, 3), (46, .iload_n 3, 1), (47, .ireturn, 1)]
set_option maxRecDepth 100000 in
theorem D_X4_skew : dT cX4_skew I_X4_skew = true := by decide +kernel
def I_X4_needUp : List (Nat × Instr × Nat) := [(0, .aload_n 0, 1), (1, .getfield 11, 3), (4, .iload_n 1, 1), (5, .aaload, 1), (6, .getfield 76, 3), (9, .ifCond .eq 13, 3), (12, .new 51, 3), (15, .dup, 1), (16, .ldc 244, 2), (18, .invokespecial 55, 3), (21, .athrow, 1), (22, .return_, 1)]
set_option maxRecDepth 100000 in
theorem D_X4_needUp : dT cX4_needUp I_X4_needUp = true := by decide +kernel
def I_X4_clock : List (Nat × Instr × Nat) := [(0, .aload_n 0, 1), (1, .iload_n 1, 1), (2, .invokevirtual 56, 3), (5, .aload_n 0, 1), (6, .iload_n 1, 1), (7, .invokevirtual 65, 3), (10, .aload_n 0, 1), (11, .getfield 11, 3), (14, .iload_n 1, 1), (15, .aaload, 1), (16, .aload_n 0, 1), (17, .getfield 47, 3), (20, .invokevirtual 68, 3), (23, .ireturn, 1)]
set_option maxRecDepth 100000 in
theorem D_X4_clock : dT cX4_clock I_X4_clock = true := by decide +kernel
def I_X4_closedStamp : List (Nat × Instr × Nat) := [(0, .iconst 0, 1), (1, .bipush 10, 2), (3, .aload_n 0, 1), (4, .getfield 47, 3), (7, .bipush 15, 2), (9, .isub, 1), (10, .imul, 1), (11, .invokestatic 166, 3), (14, .ireturn, 1)]
set_option maxRecDepth 100000 in
theorem D_X4_closedStamp : dT cX4_closedStamp I_X4_closedStamp = true := by decide +kernel
def I_X4_closed : List (Nat × Instr × Nat) := [(0, .aload_n 0, 1), (1, .invokevirtual 72, 3), (4, .ireturn, 1)]
set_option maxRecDepth 100000 in
theorem D_X4_closed : dT cX4_closed I_X4_closed = true := by decide +kernel
def I_X4_down : List (Nat × Instr × Nat) := [(0, .aload_n 0, 1), (1, .iload_n 1, 1), (2, .invokevirtual 56, 3), (5, .aload_n 0, 1), (6, .iload_n 1, 1), (7, .invokevirtual 65, 3), (10, .aload_n 0, 1), (11, .getfield 11, 3), (14, .iload_n 1, 1), (15, .aaload, 1), (16, .iconst 1, 1), (17, .putfield 76, 3), (20, .iconst 0, 1), (21, .istore_n 2, 1), (22, .aload_n 0, 1), (23, .getfield 17, 3), (26, .astore_n 3, 1), (27, .aload_n 3, 1), (28, .arraylength, 1), (29, .istore 4, 2), (31, .iconst 0, 1), (32, .istore 5, 2), (34, .iload 5, 2), (36, .iload 4, 2), (38, .if_icmp .ge 49, 3), (41, .aload_n 3, 1), (42, .iload 5, 2), (44, .aaload, 1), (45, .astore 6, 2), (47, .aload 6, 2), (49, .getfield 79, 3), (52, .iload_n 1, 1), (53, .if_icmp .ne 28, 3), (56, .aload 6, 2), (58, .getfield 82, 3), (61, .ifnull 20, 3), (64, .aload 6, 2), (66, .getfield 86, 3), (69, .ifCond .ne 12, 3), (72, .aload 6, 2), (74, .aconst_null, 1), (75, .putfield 82, 3), (78, .iinc 2 1, 3), (81, .iinc 5 1, 3), (84, .goto (-50), 3), (87, .iload_n 2, 1), (88, .ireturn, 1)]
set_option maxRecDepth 100000 in
theorem D_X4_down : dT cX4_down I_X4_down = true := by decide +kernel
def I_X4_up : List (Nat × Instr × Nat) := [(0, .aload_n 0, 1), (1, .iload_n 1, 1), (2, .invokevirtual 56, 3), (5, .aload_n 0, 1), (6, .getfield 11, 3), (9, .iload_n 1, 1), (10, .aaload, 1), (11, .getfield 76, 3), (14, .ifCond .ne 13, 3), (17, .new 51, 3), (20, .dup, 1), (21, .ldc 89, 2), (23, .invokespecial 55, 3), (26, .athrow, 1), (27, .aload_n 0, 1), (28, .getfield 11, 3), (31, .iload_n 1, 1), (32, .aaload, 1), (33, .iconst 0, 1), (34, .putfield 76, 3), (37, .aload_n 0, 1), (38, .getfield 11, 3), (41, .iload_n 1, 1), (42, .aaload, 1), (43, .aload_n 0, 1), (44, .getfield 47, 3), (47, .invokevirtual 68, 3), (50, .istore_n 2, 1), (51, .aload_n 0, 1), (52, .getfield 17, 3), (55, .astore_n 3, 1), (56, .aload_n 3, 1), (57, .arraylength, 1), (58, .istore 4, 2), (60, .iconst 0, 1), (61, .istore 5, 2), (63, .iload 5, 2), (65, .iload 4, 2), (67, .if_icmp .ge 30, 3), (70, .aload_n 3, 1), (71, .iload 5, 2), (73, .aaload, 1), (74, .astore 6, 2), (76, .aload 6, 2), (78, .getfield 79, 3), (81, .iload_n 1, 1), (82, .if_icmp .ne 9, 3), (85, .aload 6, 2), (87, .iload_n 2, 1), (88, .invokevirtual 91, 3), (91, .iinc 5 1, 3), (94, .goto (-31), 3), (97, .iload_n 2, 1), (98, .ireturn, 1)]
set_option maxRecDepth 100000 in
theorem D_X4_up : dT cX4_up I_X4_up = true := by decide +kernel
def I_X4_sync : List (Nat × Instr × Nat) := [(0, .aload_n 0, 1), (1, .iload_n 1, 1), (2, .invokevirtual 56, 3), (5, .aload_n 0, 1), (6, .iload_n 1, 1), (7, .invokevirtual 65, 3), (10, .iconst 0, 1), (11, .istore_n 2, 1), (12, .aload_n 0, 1), (13, .getfield 17, 3), (16, .astore_n 3, 1), (17, .aload_n 3, 1), (18, .arraylength, 1), (19, .istore 4, 2), (21, .iconst 0, 1), (22, .istore 5, 2), (24, .iload 5, 2), (26, .iload 4, 2), (28, .if_icmp .ge 49, 3), (31, .aload_n 3, 1), (32, .iload 5, 2), (34, .aaload, 1), (35, .astore 6, 2), (37, .aload 6, 2), (39, .getfield 79, 3), (42, .iload_n 1, 1), (43, .if_icmp .ne 28, 3), (46, .aload 6, 2), (48, .getfield 82, 3), (51, .ifnull 20, 3), (54, .aload 6, 2), (56, .getfield 86, 3), (59, .ifCond .ne 12, 3), (62, .aload 6, 2), (64, .iconst 1, 1), (65, .putfield 86, 3), (68, .iinc 2 1, 3), (71, .iinc 5 1, 3), (74, .goto (-50), 3), (77, .iload_n 2, 1), (78, .ireturn, 1)]
set_option maxRecDepth 100000 in
theorem D_X4_sync : dT cX4_sync I_X4_sync = true := by decide +kernel
def I_X4_rangeOf : List (Nat × Instr × Nat) := [(0, .iconst 0, 1), (1, .istore_n 2, 1), (2, .iconst 1, 1), (3, .istore_n 3, 1), (4, .iload_n 3, 1), (5, .iload_n 1, 1), (6, .if_icmp .gt 24, 3), (9, .aload_n 0, 1), (10, .getfield 17, 3), (13, .iload_n 3, 1), (14, .aaload, 1), (15, .getfield 36, 3), (18, .ifCond .eq 6, 3), (21, .iinc 2 1, 3), (24, .iinc 3 1, 3), (27, .goto (-23), 3), (30, .iload_n 2, 1), (31, .ireturn, 1)]
set_option maxRecDepth 100000 in
theorem D_X4_rangeOf : dT cX4_rangeOf I_X4_rangeOf = true := by decide +kernel
def I_X4_split : List (Nat × Instr × Nat) := [(0, .iload_n 1, 1), (1, .iconst 1, 1), (2, .if_icmp .lt 9, 3), (5, .iload_n 1, 1), (6, .bipush 32, 2), (8, .if_icmp .lt 13, 3), (11, .new 94, 3), (14, .dup, 1), (15, .ldc 96, 2), (17, .invokespecial 98, 3), (20, .athrow, 1), (21, .aload_n 0, 1), (22, .getfield 17, 3), (25, .iload_n 1, 1), (26, .aaload, 1), (27, .getfield 36, 3), (30, .ifCond .eq 13, 3), (33, .new 51, 3), (36, .dup, 1), (37, .ldc 99, 2), (39, .invokespecial 55, 3), (42, .athrow, 1), (43, .aload_n 0, 1), (44, .getfield 17, 3), (47, .iload_n 1, 1), (48, .aaload, 1), (49, .iconst 1, 1), (50, .putfield 36, 3), (53, .aload_n 0, 1), (54, .bipush 31, 2), (56, .invokevirtual 101, 3), (59, .iconst 1, 1), (60, .iadd, 1), (61, .ireturn, 1)]
set_option maxRecDepth 100000 in
theorem D_X4_split : dT cX4_split I_X4_split = true := by decide +kernel
def I_X4_firstKeyOf : List (Nat × Instr × Nat) := [(0, .iconst 0, 1), (1, .istore_n 2, 1), (2, .iconst 0, 1), (3, .istore_n 3, 1), (4, .iload_n 3, 1), (5, .bipush 32, 2), (7, .if_icmp .ge 31, 3), (10, .aload_n 0, 1), (11, .getfield 17, 3), (14, .iload_n 3, 1), (15, .aaload, 1), (16, .getfield 36, 3), (19, .ifCond .eq 13, 3), (22, .iload_n 2, 1), (23, .iload_n 1, 1), (24, .if_icmp .ne 5, 3), (27, .iload_n 3, 1), (28, .ireturn, 1), (29, .iinc 2 1, 3), (32, .iinc 3 1, 3), (35, .goto (-31), 3), (38, .bipush 32, 2), (40, .ireturn, 1)]
set_option maxRecDepth 100000 in
theorem D_X4_firstKeyOf : dT cX4_firstKeyOf I_X4_firstKeyOf = true := by decide +kernel
def I_X4_merge : List (Nat × Instr × Nat) := [(0, .aload_n 0, 1), (1, .bipush 31, 2), (3, .invokevirtual 101, 3), (6, .istore_n 2, 1), (7, .iload_n 1, 1), (8, .ifCond .lt 8, 3), (11, .iload_n 1, 1), (12, .iload_n 2, 1), (13, .if_icmp .lt 13, 3), (16, .new 94, 3), (19, .dup, 1), (20, .ldc 104, 2), (22, .invokespecial 98, 3), (25, .athrow, 1), (26, .aload_n 0, 1), (27, .iload_n 1, 1), (28, .iconst 1, 1), (29, .iadd, 1), (30, .invokevirtual 106, 3), (33, .istore_n 3, 1), (34, .aload_n 0, 1), (35, .getfield 17, 3), (38, .iload_n 3, 1), (39, .aaload, 1), (40, .getfield 79, 3), (43, .aload_n 0, 1), (44, .getfield 17, 3), (47, .iload_n 3, 1), (48, .iconst 1, 1), (49, .isub, 1), (50, .aaload, 1), (51, .getfield 79, 3), (54, .if_icmp .eq 13, 3), (57, .new 51, 3), (60, .dup, 1), (61, .ldc 109, 2), (63, .invokespecial 55, 3), (66, .athrow, 1), (67, .aload_n 0, 1), (68, .getfield 17, 3), (71, .iload_n 3, 1), (72, .aaload, 1), (73, .iconst 0, 1), (74, .putfield 36, 3), (77, .iload_n 2, 1), (78, .ireturn, 1)]
set_option maxRecDepth 100000 in
theorem D_X4_merge : dT cX4_merge I_X4_merge = true := by decide +kernel
def I_X4_move : List (Nat × Instr × Nat) := [(0, .iload_n 1, 1), (1, .ifCond .lt 13, 3), (4, .iload_n 1, 1), (5, .aload_n 0, 1), (6, .bipush 31, 2), (8, .invokevirtual 101, 3), (11, .if_icmp .le 13, 3), (14, .new 94, 3), (17, .dup, 1), (18, .ldc 111, 2), (20, .invokespecial 98, 3), (23, .athrow, 1), (24, .aload_n 0, 1), (25, .iload_n 2, 1), (26, .invokevirtual 56, 3), (29, .aload_n 0, 1), (30, .iload_n 1, 1), (31, .invokevirtual 106, 3), (34, .istore_n 3, 1), (35, .aload_n 0, 1), (36, .iload_n 1, 1), (37, .iconst 1, 1), (38, .iadd, 1), (39, .invokevirtual 106, 3), (42, .istore 4, 2), (44, .aload_n 0, 1), (45, .getfield 17, 3), (48, .iload_n 3, 1), (49, .aaload, 1), (50, .getfield 79, 3), (53, .istore 5, 2), (55, .aload_n 0, 1), (56, .iload 5, 2), (58, .invokevirtual 65, 3), (61, .aload_n 0, 1), (62, .iload_n 2, 1), (63, .invokevirtual 65, 3), (66, .aload_n 0, 1), (67, .getfield 11, 3), (70, .iload 5, 2), (72, .aaload, 1), (73, .aload_n 0, 1), (74, .getfield 47, 3), (77, .invokevirtual 68, 3), (80, .istore 6, 2), (82, .iload_n 3, 1), (83, .istore 7, 2), (85, .iload 7, 2), (87, .iload 4, 2), (89, .if_icmp .ge 32, 3), (92, .aload_n 0, 1), (93, .getfield 17, 3), (96, .iload 7, 2), (98, .aaload, 1), (99, .iload_n 2, 1), (100, .putfield 79, 3), (103, .aload_n 0, 1), (104, .getfield 17, 3), (107, .iload 7, 2), (109, .aaload, 1), (110, .iload 6, 2), (112, .invokevirtual 91, 3), (115, .iinc 7 1, 3), (118, .goto (-33), 3), (121, .iload 5, 2), (123, .ireturn, 1)]
set_option maxRecDepth 100000 in
theorem D_X4_move : dT cX4_move I_X4_move = true := by decide +kernel
def I_X4_begin : List (Nat × Instr × Nat) := [(0, .aload_n 0, 1), (1, .iload_n 1, 1), (2, .invokevirtual 56, 3), (5, .iload_n 2, 1), (6, .ifCond .lt 9, 3), (9, .iload_n 2, 1), (10, .bipush 9, 2), (12, .if_icmp .le 13, 3), (15, .new 40, 3), (18, .dup, 1), (19, .ldc 113, 2), (21, .invokespecial 44, 3), (24, .athrow, 1), (25, .aload_n 0, 1), (26, .iload_n 1, 1), (27, .invokevirtual 65, 3), (30, .aload_n 0, 1), (31, .getfield 115, 3), (34, .bipush 40, 2), (36, .if_icmp .lt 13, 3), (39, .new 51, 3), (42, .dup, 1), (43, .ldc 118, 2), (45, .invokespecial 55, 3), (48, .athrow, 1), (49, .aload_n 0, 1), (50, .getfield 115, 3), (53, .istore_n 3, 1), (54, .aload_n 0, 1), (55, .getfield 23, 3), (58, .iload_n 3, 1), (59, .new 21, 3), (62, .dup, 1), (63, .iload_n 3, 1), (64, .iload_n 1, 1), (65, .iload_n 2, 1), (66, .aload_n 0, 1), (67, .getfield 11, 3), (70, .iload_n 1, 1), (71, .aaload, 1), (72, .aload_n 0, 1), (73, .getfield 47, 3), (76, .invokevirtual 68, 3), (79, .aload_n 0, 1), (80, .getfield 47, 3), (83, .invokespecial 120, 3), (86, .aastore, 1), (87, .aload_n 0, 1), (88, .dup, 1), (89, .getfield 115, 3), (92, .iconst 1, 1), (93, .iadd, 1), (94, .putfield 115, 3), (97, .iload_n 3, 1), (98, .ireturn, 1)]
set_option maxRecDepth 100000 in
theorem D_X4_begin : dT cX4_begin I_X4_begin = true := by decide +kernel
def I_X4_needTransaction : List (Nat × Instr × Nat) := [(0, .iload_n 1, 1), (1, .ifCond .lt 11, 3), (4, .iload_n 1, 1), (5, .aload_n 0, 1), (6, .getfield 115, 3), (9, .if_icmp .lt 13, 3), (12, .new 94, 3), (15, .dup, 1), (16, .ldc 248, 2), (18, .invokespecial 98, 3), (21, .athrow, 1), (22, .return_, 1)]
set_option maxRecDepth 100000 in
theorem D_X4_needTransaction : dT cX4_needTransaction I_X4_needTransaction = true := by decide +kernel
def I_X4_needKey : List (Nat × Instr × Nat) := [(0, .iload_n 1, 1), (1, .ifCond .lt 9, 3), (4, .iload_n 1, 1), (5, .bipush 32, 2), (7, .if_icmp .lt 13, 3), (10, .new 94, 3), (13, .dup, 1), (14, .ldc 246, 2), (16, .invokespecial 98, 3), (19, .athrow, 1), (20, .return_, 1)]
set_option maxRecDepth 100000 in
theorem D_X4_needKey : dT cX4_needKey I_X4_needKey = true := by decide +kernel
def I_X4_refusalAt : List (Nat × Instr × Nat) := [(0, .aload_n 1, 1), (1, .getfield 147, 3), (4, .ifCond .eq 6, 3), (7, .bipush (-13), 2), (9, .ireturn, 1), (10, .aload_n 0, 1), (11, .getfield 11, 3), (14, .aload_n 1, 1), (15, .getfield 150, 3), (18, .aaload, 1), (19, .getfield 76, 3), (22, .ifCond .ne 23, 3), (25, .aload_n 0, 1), (26, .getfield 11, 3), (29, .aload_n 0, 1), (30, .getfield 17, 3), (33, .iload_n 2, 1), (34, .aaload, 1), (35, .getfield 79, 3), (38, .aaload, 1), (39, .getfield 76, 3), (42, .ifCond .eq 8, 3), (45, .bipush (-14), 2), (47, .goto 4, 3), (50, .iconst 0, 1), (51, .ireturn, 1)]
set_option maxRecDepth 100000 in
theorem D_X4_refusalAt : dT cX4_refusalAt I_X4_refusalAt = true := by decide +kernel
def I_X4_askNode : List (Nat × Instr × Nat) := [(0, .aload_n 1, 1), (1, .aconst_null, 1), (2, .putfield 157, 3), (5, .aload_n 0, 1), (6, .getfield 11, 3), (9, .iload_n 2, 1), (10, .aaload, 1), (11, .aload_n 1, 1), (12, .getfield 172, 3), (15, .invokevirtual 257, 3), (18, .aload_n 1, 1), (19, .iload_n 2, 1), (20, .invokevirtual 260, 3), (23, .ifCond .ne 21, 3), (26, .aload_n 1, 1), (27, .iload_n 2, 1), (28, .aload_n 0, 1), (29, .getfield 11, 3), (32, .iload_n 2, 1), (33, .aaload, 1), (34, .aload_n 0, 1), (35, .getfield 47, 3), (38, .invokevirtual 68, 3), (41, .invokevirtual 263, 3), (44, .return_, 1)]
set_option maxRecDepth 100000 in
theorem D_X4_askNode : dT cX4_askNode I_X4_askNode = true := by decide +kernel
def I_X4_hasAllIntents : List (Nat × Instr × Nat) := [(0, .iconst 0, 1), (1, .istore_n 2, 1), (2, .iload_n 2, 1), (3, .bipush 32, 2), (5, .if_icmp .ge 32, 3), (8, .aload_n 1, 1), (9, .iload_n 2, 1), (10, .invokevirtual 274, 3), (13, .ifCond .eq 18, 3), (16, .aload_n 0, 1), (17, .getfield 17, 3), (20, .iload_n 2, 1), (21, .aaload, 1), (22, .getfield 82, 3), (25, .aload_n 1, 1), (26, .if_acmp .eq 5, 3), (29, .iconst 0, 1), (30, .ireturn, 1), (31, .iinc 2 1, 3), (34, .goto (-32), 3), (37, .iconst 1, 1), (38, .ireturn, 1)]
set_option maxRecDepth 100000 in
theorem D_X4_hasAllIntents : dT cX4_hasAllIntents I_X4_hasAllIntents = true := by decide +kernel
def I_X4_decideStaged : List (Nat × Instr × Nat) := [(0, .aload_n 0, 1), (1, .aload_n 1, 1), (2, .invokevirtual 182, 3), (5, .ifCond .ne 9, 3), (8, .aload_n 1, 1), (9, .iconst 3, 1), (10, .putfield 147, 3), (13, .return_, 1), (14, .aload_n 1, 1), (15, .iconst 2, 1), (16, .putfield 147, 3), (19, .aload_n 0, 1), (20, .getfield 30, 3), (23, .aload_n 1, 1), (24, .invokevirtual 317, 3), (27, .iconst 0, 1), (28, .istore_n 2, 1), (29, .iload_n 2, 1), (30, .bipush 32, 2), (32, .if_icmp .ge 45, 3), (35, .aload_n 1, 1), (36, .iload_n 2, 1), (37, .invokevirtual 274, 3), (40, .ifCond .eq 31, 3), (43, .aload_n 0, 1), (44, .getfield 17, 3), (47, .iload_n 2, 1), (48, .aaload, 1), (49, .aconst_null, 1), (50, .putfield 82, 3), (53, .aload_n 0, 1), (54, .getfield 30, 3), (57, .aload_n 1, 1), (58, .getfield 163, 3), (61, .iload_n 2, 1), (62, .aload_n 1, 1), (63, .getfield 277, 3), (66, .iload_n 2, 1), (67, .iaload, 1), (68, .invokevirtual 320, 3), (71, .iinc 2 1, 3), (74, .goto (-45), 3), (77, .return_, 1)]
set_option maxRecDepth 100000 in
theorem D_X4_decideStaged : dT cX4_decideStaged I_X4_decideStaged = true := by decide +kernel
def I_X4_meetIntent : List (Nat × Instr × Nat) := [(0, .aload_n 0, 1), (1, .getfield 17, 3), (4, .iload_n 2, 1), (5, .aaload, 1), (6, .getfield 82, 3), (9, .astore_n 3, 1), (10, .aload_n 3, 1), (11, .ifnull 8, 3), (14, .aload_n 3, 1), (15, .aload_n 1, 1), (16, .if_acmp .ne 5, 3), (19, .aconst_null, 1), (20, .areturn, 1), (21, .aload_n 3, 1), (22, .getfield 147, 3), (25, .iconst 1, 1), (26, .if_icmp .ne 8, 3), (29, .aload_n 0, 1), (30, .aload_n 3, 1), (31, .invokevirtual 185, 3), (34, .aload_n 3, 1), (35, .getfield 147, 3), (38, .ifCond .ne 19, 3), (41, .aload_n 3, 1), (42, .aload_n 0, 1), (43, .getfield 47, 3), (46, .invokevirtual 210, 3), (49, .ifCond .eq 8, 3), (52, .aload_n 3, 1), (53, .iconst 3, 1), (54, .putfield 147, 3), (57, .aload_n 3, 1), (58, .getfield 147, 3), (61, .iconst 3, 1), (62, .if_icmp .ne 13, 3), (65, .aload_n 0, 1), (66, .getfield 17, 3), (69, .iload_n 2, 1), (70, .aaload, 1), (71, .aconst_null, 1), (72, .putfield 82, 3), (75, .aload_n 3, 1), (76, .getfield 147, 3), (79, .ifCond .ne 7, 3), (82, .aload_n 3, 1), (83, .goto 4, 3), (86, .aconst_null, 1), (87, .areturn, 1)]
set_option maxRecDepth 100000 in
theorem D_X4_meetIntent : dT cX4_meetIntent I_X4_meetIntent = true := by decide +kernel
def I_X4_victimOfRing : List (Nat × Instr × Nat) := [(0, .aload_n 1, 1), (1, .astore_n 2, 1), (2, .aload_n 1, 1), (3, .invokevirtual 195, 3), (6, .astore_n 3, 1), (7, .iconst 0, 1), (8, .istore 4, 2), (10, .iload 4, 2), (12, .bipush 40, 2), (14, .if_icmp .ge 33, 3), (17, .aload_n 3, 1), (18, .ifnull 29, 3), (21, .aload_n 3, 1), (22, .aload_n 1, 1), (23, .if_acmp .eq 24, 3), (26, .aload_n 3, 1), (27, .aload_n 2, 1), (28, .invokevirtual 271, 3), (31, .ifCond .eq 5, 3), (34, .aload_n 3, 1), (35, .astore_n 2, 1), (36, .aload_n 3, 1), (37, .invokevirtual 195, 3), (40, .astore_n 3, 1), (41, .iinc 4 1, 3), (44, .goto (-34), 3), (47, .aload_n 3, 1), (48, .aload_n 1, 1), (49, .if_acmp .ne 7, 3), (52, .aload_n 2, 1), (53, .goto 4, 3), (56, .aconst_null, 1), (57, .areturn, 1)]
set_option maxRecDepth 100000 in
theorem D_X4_victimOfRing : dT cX4_victimOfRing I_X4_victimOfRing = true := by decide +kernel
def I_X4_waitFor : List (Nat × Instr × Nat) := [(0, .aload_n 1, 1), (1, .aload_n 2, 1), (2, .putfield 157, 3), (5, .aload_n 0, 1), (6, .aload_n 1, 1), (7, .invokevirtual 267, 3), (10, .astore_n 3, 1), (11, .aload_n 3, 1), (12, .ifnonnull 6, 3), (15, .bipush (-11), 2), (17, .ireturn, 1), (18, .aload_n 1, 1), (19, .aconst_null, 1), (20, .putfield 157, 3), (23, .aload_n 3, 1), (24, .iconst 3, 1), (25, .putfield 147, 3), (28, .aload_n 3, 1), (29, .aload_n 1, 1), (30, .if_acmp .ne 8, 3), (33, .bipush (-13), 2), (35, .goto 5, 3), (38, .bipush (-99), 2), (40, .ireturn, 1)]
set_option maxRecDepth 100000 in
theorem D_X4_waitFor : dT cX4_waitFor I_X4_waitFor = true := by decide +kernel
def I_X4_refreshReads : List (Nat × Instr × Nat) := [(0, .iconst 0, 1), (1, .istore_n 3, 1), (2, .iload_n 3, 1), (3, .bipush 32, 2), (5, .if_icmp .ge 82, 3), (8, .aload_n 1, 1), (9, .iload_n 3, 1), (10, .invokevirtual 304, 3), (13, .ifCond .ne 6, 3), (16, .goto 65, 3), (19, .aload_n 0, 1), (20, .getfield 11, 3), (23, .aload_n 0, 1), (24, .getfield 17, 3), (27, .iload_n 3, 1), (28, .aaload, 1), (29, .getfield 79, 3), (32, .aaload, 1), (33, .getfield 76, 3), (36, .ifCond .eq 5, 3), (39, .iconst 0, 1), (40, .ireturn, 1), (41, .aload_n 0, 1), (42, .aload_n 1, 1), (43, .iload_n 3, 1), (44, .invokevirtual 281, 3), (47, .astore 4, 2), (49, .aload 4, 2), (51, .ifnull 12, 3), (54, .aload 4, 2), (56, .getfield 163, 3), (59, .iload_n 2, 1), (60, .if_icmp .le 19, 3), (63, .aload_n 0, 1), (64, .getfield 30, 3), (67, .iload_n 3, 1), (68, .iload_n 2, 1), (69, .invokevirtual 295, 3), (72, .aload_n 1, 1), (73, .getfield 172, 3), (76, .if_icmp .le 5, 3), (79, .iconst 0, 1), (80, .ireturn, 1), (81, .iinc 3 1, 3), (84, .goto (-82), 3), (87, .iconst 0, 1), (88, .istore_n 3, 1), (89, .iload_n 3, 1), (90, .bipush 32, 2), (92, .if_icmp .ge 31, 3), (95, .aload_n 1, 1), (96, .iload_n 3, 1), (97, .invokevirtual 304, 3), (100, .ifCond .eq 17, 3), (103, .aload_n 0, 1), (104, .getfield 17, 3), (107, .iload_n 3, 1), (108, .aaload, 1), (109, .aload_n 1, 1), (110, .getfield 199, 3), (113, .iload_n 2, 1), (114, .invokevirtual 298, 3), (117, .iinc 3 1, 3), (120, .goto (-31), 3), (123, .aload_n 1, 1), (124, .iload_n 2, 1), (125, .invokevirtual 307, 3), (128, .iconst 1, 1), (129, .ireturn, 1)]
set_option maxRecDepth 100000 in
theorem D_X4_refreshReads : dT cX4_refreshReads I_X4_refreshReads = true := by decide +kernel
def I_X4_restartAt : List (Nat × Instr × Nat) := [(0, .aload_n 0, 1), (1, .getfield 17, 3), (4, .astore_n 3, 1), (5, .aload_n 3, 1), (6, .arraylength, 1), (7, .istore 4, 2), (9, .iconst 0, 1), (10, .istore 5, 2), (12, .iload 5, 2), (14, .iload 4, 2), (16, .if_icmp .ge 30, 3), (19, .aload_n 3, 1), (20, .iload 5, 2), (22, .aaload, 1), (23, .astore 6, 2), (25, .aload 6, 2), (27, .getfield 82, 3), (30, .aload_n 1, 1), (31, .if_acmp .ne 9, 3), (34, .aload 6, 2), (36, .aconst_null, 1), (37, .putfield 82, 3), (40, .iinc 5 1, 3), (43, .goto (-31), 3), (46, .aload_n 1, 1), (47, .iload_n 2, 1), (48, .invokevirtual 310, 3), (51, .bipush (-12), 2), (53, .ireturn, 1)]
set_option maxRecDepth 100000 in
theorem D_X4_restartAt : dT cX4_restartAt I_X4_restartAt = true := by decide +kernel
def I_X4_lookToRead : List (Nat × Instr × Nat) := [(0, .aload_n 1, 1), (1, .iload_n 2, 1), (2, .invokevirtual 274, 3), (5, .ifCond .eq 10, 3), (8, .aload_n 1, 1), (9, .getfield 277, 3), (12, .iload_n 2, 1), (13, .iaload, 1), (14, .ireturn, 1), (15, .aload_n 0, 1), (16, .aload_n 1, 1), (17, .iload_n 2, 1), (18, .invokevirtual 281, 3), (21, .astore_n 3, 1), (22, .aload_n 1, 1), (23, .getfield 172, 3), (26, .aload_n 1, 1), (27, .getfield 285, 3), (30, .aload_n 0, 1), (31, .getfield 17, 3), (34, .iload_n 2, 1), (35, .aaload, 1), (36, .getfield 79, 3), (39, .iaload, 1), (40, .invokestatic 166, 3), (43, .istore 4, 2), (45, .aload_n 3, 1), (46, .ifnull 38, 3), (49, .aload_n 3, 1), (50, .getfield 163, 3), (53, .iload 4, 2), (55, .if_icmp .gt 29, 3), (58, .aload_n 1, 1), (59, .getfield 288, 3), (62, .aload_n 3, 1), (63, .getfield 288, 3), (66, .if_icmp .gt 10, 3), (69, .aload_n 0, 1), (70, .aload_n 1, 1), (71, .aload_n 3, 1), (72, .invokevirtual 291, 3), (75, .ireturn, 1), (76, .aload_n 3, 1), (77, .iload 4, 2), (79, .iconst 1, 1), (80, .iadd, 1), (81, .putfield 163, 3), (84, .aload_n 0, 1), (85, .getfield 30, 3), (88, .iload_n 2, 1), (89, .iload 4, 2), (91, .invokevirtual 295, 3), (94, .istore 5, 2), (96, .iload 5, 2), (98, .aload_n 1, 1), (99, .getfield 172, 3), (102, .if_icmp .le 26, 3), (105, .aload_n 0, 1), (106, .aload_n 1, 1), (107, .iload 5, 2), (109, .invokevirtual 175, 3), (112, .ifCond .eq 8, 3), (115, .bipush (-99), 2), (117, .goto 10, 3), (120, .aload_n 0, 1), (121, .aload_n 1, 1), (122, .iload 5, 2), (124, .invokevirtual 179, 3), (127, .ireturn, 1), (128, .aload_n 0, 1), (129, .getfield 17, 3), (132, .iload_n 2, 1), (133, .aaload, 1), (134, .aload_n 1, 1), (135, .getfield 199, 3), (138, .aload_n 1, 1), (139, .getfield 172, 3), (142, .invokevirtual 298, 3), (145, .aload_n 1, 1), (146, .iload_n 2, 1), (147, .aload_n 0, 1), (148, .getfield 30, 3), (151, .iload_n 2, 1), (152, .aload_n 1, 1), (153, .getfield 172, 3), (156, .invokevirtual 223, 3), (159, .invokevirtual 301, 3), (162, .ireturn, 1)]
set_option maxRecDepth 100000 in
theorem D_X4_lookToRead : dT cX4_lookToRead I_X4_lookToRead = true := by decide +kernel
def I_X4_get : List (Nat × Instr × Nat) := [(0, .aload_n 0, 1), (1, .iload_n 1, 1), (2, .invokevirtual 123, 3), (5, .aload_n 0, 1), (6, .iload_n 2, 1), (7, .invokevirtual 126, 3), (10, .aload_n 0, 1), (11, .getfield 23, 3), (14, .iload_n 1, 1), (15, .aaload, 1), (16, .astore_n 3, 1), (17, .aload_n 0, 1), (18, .aload_n 3, 1), (19, .iload_n 2, 1), (20, .invokevirtual 129, 3), (23, .istore 4, 2), (25, .iload 4, 2), (27, .ifCond .eq 6, 3), (30, .iload 4, 2), (32, .ireturn, 1), (33, .aload_n 0, 1), (34, .aload_n 3, 1), (35, .aload_n 0, 1), (36, .getfield 17, 3), (39, .iload_n 2, 1), (40, .aaload, 1), (41, .getfield 79, 3), (44, .invokevirtual 133, 3), (47, .bipush (-99), 2), (49, .istore 5, 2), (51, .iconst 0, 1), (52, .istore 6, 2), (54, .iload 6, 2), (56, .ldc 137, 2), (58, .if_icmp .ge 24, 3), (61, .iload 5, 2), (63, .bipush (-99), 2), (65, .if_icmp .ne 17, 3), (68, .aload_n 0, 1), (69, .aload_n 3, 1), (70, .iload_n 2, 1), (71, .invokevirtual 138, 3), (74, .istore 5, 2), (76, .iinc 6 1, 3), (79, .goto (-25), 3), (82, .iload 5, 2), (84, .ireturn, 1)]
set_option maxRecDepth 100000 in
theorem D_X4_get : dT cX4_get I_X4_get = true := by decide +kernel
def I_X4_lookToWrite : List (Nat × Instr × Nat) := [(0, .aload_n 0, 1), (1, .getfield 17, 3), (4, .iload_n 2, 1), (5, .aaload, 1), (6, .astore 4, 2), (8, .aload_n 0, 1), (9, .aload_n 1, 1), (10, .iload_n 2, 1), (11, .invokevirtual 281, 3), (14, .astore 5, 2), (16, .aload 5, 2), (18, .ifnull 29, 3), (21, .aload_n 1, 1), (22, .getfield 288, 3), (25, .aload 5, 2), (27, .getfield 288, 3), (30, .if_icmp .gt 11, 3), (33, .aload_n 0, 1), (34, .aload_n 1, 1), (35, .aload 5, 2), (37, .invokevirtual 291, 3), (40, .ireturn, 1), (41, .aload 5, 2), (43, .iconst 3, 1), (44, .putfield 147, 3), (47, .aload_n 0, 1), (48, .getfield 30, 3), (51, .iload_n 2, 1), (52, .ldc_w 313, 3), (55, .invokevirtual 295, 3), (58, .iconst 1, 1), (59, .iadd, 1), (60, .istore 6, 2), (62, .aload 4, 2), (64, .getfield 218, 3), (67, .aload_n 1, 1), (68, .getfield 199, 3), (71, .if_icmp .eq 17, 3), (74, .iload 6, 2), (76, .aload 4, 2), (78, .getfield 217, 3), (81, .iconst 1, 1), (82, .iadd, 1), (83, .invokestatic 166, 3), (86, .istore 6, 2), (88, .aload_n 1, 1), (89, .aload_n 1, 1), (90, .getfield 163, 3), (93, .iload 6, 2), (95, .invokestatic 166, 3), (98, .putfield 163, 3), (101, .aload_n 1, 1), (102, .iload_n 2, 1), (103, .iload_n 3, 1), (104, .invokevirtual 314, 3), (107, .aload 4, 2), (109, .aload_n 1, 1), (110, .putfield 82, 3), (113, .aload 4, 2), (115, .iconst 0, 1), (116, .putfield 86, 3), (119, .iconst 0, 1), (120, .ireturn, 1)]
set_option maxRecDepth 100000 in
theorem D_X4_lookToWrite : dT cX4_lookToWrite I_X4_lookToWrite = true := by decide +kernel
def I_X4_put : List (Nat × Instr × Nat) := [(0, .aload_n 0, 1), (1, .iload_n 1, 1), (2, .invokevirtual 123, 3), (5, .aload_n 0, 1), (6, .iload_n 2, 1), (7, .invokevirtual 126, 3), (10, .iload_n 3, 1), (11, .ifCond .lt 10, 3), (14, .iload_n 3, 1), (15, .sipush 1000, 3), (18, .if_icmp .le 13, 3), (21, .new 40, 3), (24, .dup, 1), (25, .ldc 141, 2), (27, .invokespecial 44, 3), (30, .athrow, 1), (31, .aload_n 0, 1), (32, .getfield 23, 3), (35, .iload_n 1, 1), (36, .aaload, 1), (37, .astore 4, 2), (39, .aload_n 0, 1), (40, .aload 4, 2), (42, .iload_n 2, 1), (43, .invokevirtual 129, 3), (46, .istore 5, 2), (48, .iload 5, 2), (50, .ifCond .eq 6, 3), (53, .iload 5, 2), (55, .ireturn, 1), (56, .aload_n 0, 1), (57, .aload 4, 2), (59, .aload_n 0, 1), (60, .getfield 17, 3), (63, .iload_n 2, 1), (64, .aaload, 1), (65, .getfield 79, 3), (68, .invokevirtual 133, 3), (71, .bipush (-99), 2), (73, .istore 6, 2), (75, .iconst 0, 1), (76, .istore 7, 2), (78, .iload 7, 2), (80, .ldc 137, 2), (82, .if_icmp .ge 26, 3), (85, .iload 6, 2), (87, .bipush (-99), 2), (89, .if_icmp .ne 19, 3), (92, .aload_n 0, 1), (93, .aload 4, 2), (95, .iload_n 2, 1), (96, .iload_n 3, 1), (97, .invokevirtual 143, 3), (100, .istore 6, 2), (102, .iinc 7 1, 3), (105, .goto (-27), 3), (108, .iload 6, 2), (110, .ireturn, 1)]
set_option maxRecDepth 100000 in
theorem D_X4_put : dT cX4_put I_X4_put = true := by decide +kernel
def I_X4_writesOnDownNode : List (Nat × Instr × Nat) := [(0, .iconst 0, 1), (1, .istore_n 2, 1), (2, .iload_n 2, 1), (3, .bipush 32, 2), (5, .if_icmp .ge 39, 3), (8, .aload_n 1, 1), (9, .iload_n 2, 1), (10, .invokevirtual 274, 3), (13, .ifCond .eq 25, 3), (16, .aload_n 0, 1), (17, .getfield 11, 3), (20, .aload_n 0, 1), (21, .getfield 17, 3), (24, .iload_n 2, 1), (25, .aaload, 1), (26, .getfield 79, 3), (29, .aaload, 1), (30, .getfield 76, 3), (33, .ifCond .eq 5, 3), (36, .iconst 1, 1), (37, .ireturn, 1), (38, .iinc 2 1, 3), (41, .goto (-39), 3), (44, .iconst 0, 1), (45, .ireturn, 1)]
set_option maxRecDepth 100000 in
theorem D_X4_writesOnDownNode : dT cX4_writesOnDownNode I_X4_writesOnDownNode = true := by decide +kernel
def I_X4_commit : List (Nat × Instr × Nat) := [(0, .aload_n 0, 1), (1, .iload_n 1, 1), (2, .invokevirtual 123, 3), (5, .aload_n 0, 1), (6, .getfield 23, 3), (9, .iload_n 1, 1), (10, .aaload, 1), (11, .astore_n 3, 1), (12, .aload_n 3, 1), (13, .getfield 147, 3), (16, .ifCond .eq 6, 3), (19, .bipush (-13), 2), (21, .ireturn, 1), (22, .aload_n 0, 1), (23, .getfield 11, 3), (26, .aload_n 3, 1), (27, .getfield 150, 3), (30, .aaload, 1), (31, .getfield 76, 3), (34, .ifCond .ne 11, 3), (37, .aload_n 0, 1), (38, .aload_n 3, 1), (39, .invokevirtual 153, 3), (42, .ifCond .eq 6, 3), (45, .bipush (-14), 2), (47, .ireturn, 1), (48, .aload_n 3, 1), (49, .aconst_null, 1), (50, .putfield 157, 3), (53, .aload_n 3, 1), (54, .getfield 160, 3), (57, .ifCond .eq 20, 3), (60, .aload_n 3, 1), (61, .aload_n 3, 1), (62, .getfield 163, 3), (65, .aload_n 0, 1), (66, .invokevirtual 72, 3), (69, .iconst 1, 1), (70, .iadd, 1), (71, .invokestatic 166, 3), (74, .putfield 163, 3), (77, .aload_n 3, 1), (78, .getfield 163, 3), (81, .aload_n 3, 1), (82, .getfield 172, 3), (85, .if_icmp .le 25, 3), (88, .aload_n 0, 1), (89, .aload_n 3, 1), (90, .aload_n 3, 1), (91, .getfield 163, 3), (94, .invokevirtual 175, 3), (97, .ifCond .ne 13, 3), (100, .aload_n 0, 1), (101, .aload_n 3, 1), (102, .aload_n 3, 1), (103, .getfield 163, 3), (106, .invokevirtual 179, 3), (109, .ireturn, 1), (110, .aload_n 3, 1), (111, .iconst 1, 1), (112, .putfield 147, 3), (115, .iload_n 2, 1), (116, .ifCond .eq 18, 3), (119, .aload_n 3, 1), (120, .getfield 160, 3), (123, .ifCond .eq 11, 3), (126, .aload_n 0, 1), (127, .aload_n 3, 1), (128, .invokevirtual 182, 3), (131, .ifCond .ne 8, 3), (134, .aload_n 0, 1), (135, .aload_n 3, 1), (136, .invokevirtual 185, 3), (139, .aload_n 3, 1), (140, .getfield 147, 3), (143, .iconst 3, 1), (144, .if_icmp .ne 8, 3), (147, .bipush (-13), 2), (149, .goto 4, 3), (152, .iconst 0, 1), (153, .ireturn, 1)]
set_option maxRecDepth 100000 in
theorem D_X4_commit : dT cX4_commit I_X4_commit = true := by decide +kernel
def I_X4_abort : List (Nat × Instr × Nat) := [(0, .aload_n 0, 1), (1, .iload_n 1, 1), (2, .invokevirtual 123, 3), (5, .aload_n 0, 1), (6, .getfield 23, 3), (9, .iload_n 1, 1), (10, .aaload, 1), (11, .getfield 147, 3), (14, .ifCond .eq 6, 3), (17, .bipush (-13), 2), (19, .ireturn, 1), (20, .aload_n 0, 1), (21, .getfield 23, 3), (24, .iload_n 1, 1), (25, .aaload, 1), (26, .iconst 3, 1), (27, .putfield 147, 3), (30, .iconst 0, 1), (31, .ireturn, 1)]
set_option maxRecDepth 100000 in
theorem D_X4_abort : dT cX4_abort I_X4_abort = true := by decide +kernel
def I_X4_recover : List (Nat × Instr × Nat) := [(0, .aload_n 0, 1), (1, .iload_n 1, 1), (2, .invokevirtual 123, 3), (5, .aload_n 0, 1), (6, .getfield 23, 3), (9, .iload_n 1, 1), (10, .aaload, 1), (11, .astore_n 2, 1), (12, .aload_n 2, 1), (13, .getfield 147, 3), (16, .iconst 1, 1), (17, .if_icmp .ne 8, 3), (20, .aload_n 0, 1), (21, .aload_n 2, 1), (22, .invokevirtual 185, 3), (25, .aload_n 2, 1), (26, .getfield 147, 3), (29, .ireturn, 1)]
set_option maxRecDepth 100000 in
theorem D_X4_recover : dT cX4_recover I_X4_recover = true := by decide +kernel
def I_X4_beat : List (Nat × Instr × Nat) := [(0, .aload_n 0, 1), (1, .iload_n 1, 1), (2, .invokevirtual 123, 3), (5, .aload_n 0, 1), (6, .getfield 23, 3), (9, .iload_n 1, 1), (10, .aaload, 1), (11, .getfield 147, 3), (14, .ifCond .eq 6, 3), (17, .bipush (-13), 2), (19, .ireturn, 1), (20, .aload_n 0, 1), (21, .getfield 23, 3), (24, .iload_n 1, 1), (25, .aaload, 1), (26, .aload_n 0, 1), (27, .getfield 47, 3), (30, .putfield 189, 3), (33, .iconst 0, 1), (34, .ireturn, 1)]
set_option maxRecDepth 100000 in
theorem D_X4_beat : dT cX4_beat I_X4_beat = true := by decide +kernel
def I_X4_needWhat : List (Nat × Instr × Nat) := [(0, .iload_n 1, 1), (1, .ifCond .lt 9, 3), (4, .iload_n 1, 1), (5, .bipush 6, 2), (7, .if_icmp .le 13, 3), (10, .new 40, 3), (13, .dup, 1), (14, .ldc 252, 2), (16, .invokespecial 44, 3), (19, .athrow, 1), (20, .return_, 1)]
set_option maxRecDepth 100000 in
theorem D_X4_needWhat : dT cX4_needWhat I_X4_needWhat = true := by decide +kernel
def I_J6_bitCount_0f7a4 : List (Nat × Instr × Nat) := [(0, .iload_n 0, 1), (1, .iload_n 0, 1), (2, .iconst 1, 1), (3, .iushr, 1), (4, .ldc_w 265, 3), (7, .iand, 1), (8, .isub, 1), (9, .istore_n 0, 1), (10, .iload_n 0, 1), (11, .ldc_w 266, 3), (14, .iand, 1), (15, .iload_n 0, 1), (16, .iconst 2, 1), (17, .iushr, 1), (18, .ldc_w 266, 3), (21, .iand, 1), (22, .iadd, 1), (23, .istore_n 0, 1), (24, .iload_n 0, 1), (25, .iload_n 0, 1), (26, .iconst 4, 1), (27, .iushr, 1), (28, .iadd, 1), (29, .ldc_w 267, 3), (32, .iand, 1), (33, .istore_n 0, 1), (34, .iload_n 0, 1), (35, .iload_n 0, 1), (36, .bipush 8, 2), (38, .iushr, 1), (39, .iadd, 1), (40, .istore_n 0, 1), (41, .iload_n 0, 1), (42, .iload_n 0, 1), (43, .bipush 16, 2), (45, .iushr, 1), (46, .iadd, 1), (47, .istore_n 0, 1), (48, .iload_n 0, 1), (49, .bipush 63, 2), (51, .iand, 1), (52, .ireturn, 1)]
set_option maxRecDepth 100000 in
theorem D_J6_bitCount_0f7a4 : dT cJ6_bitCount_0f7a4 I_J6_bitCount_0f7a4 = true := by decide +kernel
def I_X4_told : List (Nat × Instr × Nat) := [(0, .aload_n 0, 1), (1, .iload_n 1, 1), (2, .invokevirtual 123, 3), (5, .aload_n 0, 1), (6, .iload_n 2, 1), (7, .invokevirtual 192, 3), (10, .aload_n 0, 1), (11, .getfield 23, 3), (14, .iload_n 1, 1), (15, .aaload, 1), (16, .astore_n 3, 1), (17, .iload_n 2, 1), (18, .tableswitch 88 0 5 #[38, 43, 48, 53, 72, 80], 38), (56, .aload_n 3, 1), (57, .getfield 147, 3), (60, .ireturn, 1), (61, .aload_n 3, 1), (62, .getfield 172, 3), (65, .ireturn, 1), (66, .aload_n 3, 1), (67, .getfield 163, 3), (70, .ireturn, 1), (71, .aload_n 3, 1), (72, .invokevirtual 195, 3), (75, .ifnonnull 7, 3), (78, .iconst (-1), 1), (79, .goto 10, 3), (82, .aload_n 3, 1), (83, .invokevirtual 195, 3), (86, .getfield 199, 3), (89, .ireturn, 1), (90, .aload_n 3, 1), (91, .getfield 202, 3), (94, .invokestatic 205, 3), (97, .ireturn, 1), (98, .aload_n 3, 1), (99, .getfield 160, 3), (102, .invokestatic 205, 3), (105, .ireturn, 1), (106, .aload_n 3, 1), (107, .aload_n 0, 1), (108, .getfield 47, 3), (111, .invokevirtual 210, 3), (114, .ifCond .eq 7, 3), (117, .iconst 1, 1), (118, .goto 4, 3), (121, .iconst 0, 1), (122, .ireturn, 1)]
set_option maxRecDepth 100000 in
theorem D_X4_told : dT cX4_told I_X4_told = true := by decide +kernel
def I_X4_key : List (Nat × Instr × Nat) := [(0, .aload_n 0, 1), (1, .iload_n 1, 1), (2, .invokevirtual 126, 3), (5, .aload_n 0, 1), (6, .iload_n 2, 1), (7, .invokevirtual 192, 3), (10, .aload_n 0, 1), (11, .getfield 17, 3), (14, .iload_n 1, 1), (15, .aaload, 1), (16, .astore_n 3, 1), (17, .iload_n 2, 1), (18, .tableswitch 87 0 5 #[38, 47, 66, 71, 76, 82], 38), (56, .aload_n 0, 1), (57, .getfield 30, 3), (60, .iload_n 1, 1), (61, .invokevirtual 214, 3), (64, .ireturn, 1), (65, .aload_n 3, 1), (66, .getfield 82, 3), (69, .ifnonnull 7, 3), (72, .iconst (-1), 1), (73, .goto 10, 3), (76, .aload_n 3, 1), (77, .getfield 82, 3), (80, .getfield 199, 3), (83, .ireturn, 1), (84, .aload_n 3, 1), (85, .getfield 217, 3), (88, .ireturn, 1), (89, .aload_n 3, 1), (90, .getfield 218, 3), (93, .ireturn, 1), (94, .aload_n 0, 1), (95, .iload_n 1, 1), (96, .invokevirtual 101, 3), (99, .ireturn, 1), (100, .aload_n 3, 1), (101, .getfield 79, 3), (104, .ireturn, 1), (105, .aload_n 3, 1), (106, .getfield 82, 3), (109, .ifnull 14, 3), (112, .aload_n 3, 1), (113, .getfield 86, 3), (116, .ifCond .eq 7, 3), (119, .iconst 1, 1), (120, .goto 4, 3), (123, .iconst 0, 1), (124, .ireturn, 1)]
set_option maxRecDepth 100000 in
theorem D_X4_key : dT cX4_key I_X4_key = true := by decide +kernel
def I_X4_asOf : List (Nat × Instr × Nat) := [(0, .aload_n 0, 1), (1, .iload_n 1, 1), (2, .invokevirtual 126, 3), (5, .iload_n 2, 1), (6, .ifCond .lt 11, 3), (9, .iload_n 2, 1), (10, .aload_n 0, 1), (11, .invokevirtual 72, 3), (14, .if_icmp .le 13, 3), (17, .new 40, 3), (20, .dup, 1), (21, .ldc 221, 2), (23, .invokespecial 44, 3), (26, .athrow, 1), (27, .aload_n 0, 1), (28, .getfield 17, 3), (31, .iload_n 1, 1), (32, .aaload, 1), (33, .getfield 82, 3), (36, .astore_n 3, 1), (37, .aload_n 3, 1), (38, .ifnull 22, 3), (41, .aload_n 3, 1), (42, .getfield 147, 3), (45, .iconst 1, 1), (46, .if_icmp .ne 14, 3), (49, .aload_n 3, 1), (50, .getfield 163, 3), (53, .iload_n 2, 1), (54, .if_icmp .gt 6, 3), (57, .bipush (-11), 2), (59, .ireturn, 1), (60, .aload_n 0, 1), (61, .getfield 30, 3), (64, .iload_n 1, 1), (65, .iload_n 2, 1), (66, .invokevirtual 223, 3), (69, .ireturn, 1)]
set_option maxRecDepth 100000 in
theorem D_X4_asOf : dT cX4_asOf I_X4_asOf = true := by decide +kernel
def I_X4_resolvedStamp : List (Nat × Instr × Nat) := [(0, .aload_n 0, 1), (1, .invokevirtual 72, 3), (4, .istore_n 1, 1), (5, .iconst 0, 1), (6, .istore_n 2, 1), (7, .iload_n 2, 1), (8, .aload_n 0, 1), (9, .getfield 115, 3), (12, .if_icmp .ge 38, 3), (15, .aload_n 0, 1), (16, .getfield 23, 3), (19, .iload_n 2, 1), (20, .aaload, 1), (21, .getfield 147, 3), (24, .iconst 1, 1), (25, .if_icmp .ne 19, 3), (28, .iload_n 1, 1), (29, .aload_n 0, 1), (30, .getfield 23, 3), (33, .iload_n 2, 1), (34, .aaload, 1), (35, .getfield 163, 3), (38, .iconst 1, 1), (39, .isub, 1), (40, .invokestatic 254, 3), (43, .istore_n 1, 1), (44, .iinc 2 1, 3), (47, .goto (-40), 3), (50, .iload_n 1, 1), (51, .ireturn, 1)]
set_option maxRecDepth 100000 in
theorem D_X4_resolvedStamp : dT cX4_resolvedStamp I_X4_resolvedStamp = true := by decide +kernel
def I_X4_resolved : List (Nat × Instr × Nat) := [(0, .aload_n 0, 1), (1, .invokevirtual 226, 3), (4, .ireturn, 1)]
set_option maxRecDepth 100000 in
theorem D_X4_resolved : dT cX4_resolved I_X4_resolved = true := by decide +kernel
def I_X4_needPlace : List (Nat × Instr × Nat) := [(0, .iload_n 1, 1), (1, .ifCond .ge 13, 3), (4, .new 94, 3), (7, .dup, 1), (8, .ldc 250, 2), (10, .invokespecial 98, 3), (13, .athrow, 1), (14, .return_, 1)]
set_option maxRecDepth 100000 in
theorem D_X4_needPlace : dT cX4_needPlace I_X4_needPlace = true := by decide +kernel
def I_X4_feed : List (Nat × Instr × Nat) := [(0, .aload_n 0, 1), (1, .iload_n 1, 1), (2, .invokevirtual 229, 3), (5, .aload_n 0, 1), (6, .getfield 30, 3), (9, .iload_n 1, 1), (10, .aload_n 0, 1), (11, .invokevirtual 226, 3), (14, .invokevirtual 232, 3), (17, .ireturn, 1)]
set_option maxRecDepth 100000 in
theorem D_X4_feed : dT cX4_feed I_X4_feed = true := by decide +kernel
def I_X4_order : List (Nat × Instr × Nat) := [(0, .aload_n 0, 1), (1, .iload_n 1, 1), (2, .invokevirtual 229, 3), (5, .aload_n 0, 1), (6, .getfield 30, 3), (9, .iload_n 1, 1), (10, .invokevirtual 235, 3), (13, .astore_n 2, 1), (14, .aload_n 2, 1), (15, .ifnonnull 7, 3), (18, .iconst (-1), 1), (19, .goto 7, 3), (22, .aload_n 2, 1), (23, .getfield 199, 3), (26, .ireturn, 1)]
set_option maxRecDepth 100000 in
theorem D_X4_order : dT cX4_order I_X4_order = true := by decide +kernel
def I_X4_judged : List (Nat × Instr × Nat) := [(0, .aload_n 0, 1), (1, .getfield 30, 3), (4, .invokevirtual 239, 3), (7, .ireturn, 1)]
set_option maxRecDepth 100000 in
theorem D_X4_judged : dT cX4_judged I_X4_judged = true := by decide +kernel
def I_X5_init : List (Nat × Instr × Nat) := [(0, .aload_n 0, 1), (1, .invokespecial 1, 3), (4, .aload_n 0, 1), (5, .iconst 4, 1), (6, .newarray .int, 2), (8, .putfield 7, 3), (11, .aload_n 0, 1), (12, .iconst 4, 1), (13, .newarray .int, 2), (15, .putfield 13, 3), (18, .aload_n 0, 1), (19, .iconst 4, 1), (20, .newarray .boolean, 2), (22, .putfield 16, 3), (25, .aload_n 0, 1), (26, .iconst 1, 1), (27, .putfield 20, 3), (30, .aload_n 0, 1), (31, .bipush 32, 2), (33, .newarray .int, 2), (35, .putfield 24, 3), (38, .aload_n 0, 1), (39, .bipush 32, 2), (41, .newarray .int, 2), (43, .putfield 27, 3), (46, .aload_n 0, 1), (47, .bipush 32, 2), (49, .newarray .int, 2), (51, .putfield 30, 3), (54, .aload_n 0, 1), (55, .bipush 32, 2), (57, .newarray .boolean, 2), (59, .putfield 33, 3), (62, .aload_n 0, 1), (63, .bipush 32, 2), (65, .newarray .int, 2), (67, .putfield 36, 3), (70, .aload_n 0, 1), (71, .bipush 32, 2), (73, .newarray .int, 2), (75, .putfield 39, 3), (78, .aload_n 0, 1), (79, .bipush 32, 2), (81, .newarray .int, 2), (83, .putfield 42, 3), (86, .aload_n 0, 1), (87, .sipush 1300, 3), (90, .newarray .int, 2), (92, .putfield 45, 3), (95, .aload_n 0, 1), (96, .sipush 1300, 3), (99, .newarray .int, 2), (101, .putfield 48, 3), (104, .aload_n 0, 1), (105, .sipush 1300, 3), (108, .newarray .int, 2), (110, .putfield 51, 3), (113, .aload_n 0, 1), (114, .bipush 40, 2), (116, .newarray .int, 2), (118, .putfield 54, 3), (121, .aload_n 0, 1), (122, .bipush 40, 2), (124, .newarray .int, 2), (126, .putfield 57, 3), (129, .aload_n 0, 1), (130, .bipush 40, 2), (132, .newarray .int, 2), (134, .putfield 60, 3), (137, .aload_n 0, 1), (138, .bipush 40, 2), (140, .newarray .int, 2), (142, .putfield 63, 3), (145, .aload_n 0, 1), (146, .bipush 40, 2), (148, .newarray .int, 2), (150, .putfield 66, 3), (153, .aload_n 0, 1), (154, .bipush 40, 2), (156, .newarray .int, 2), (158, .putfield 69, 3), (161, .aload_n 0, 1), (162, .bipush 40, 2), (164, .newarray .int, 2), (166, .putfield 72, 3), (169, .aload_n 0, 1), (170, .bipush 40, 2), (172, .newarray .int, 2), (174, .putfield 75, 3), (177, .aload_n 0, 1), (178, .bipush 40, 2), (180, .newarray .int, 2), (182, .putfield 78, 3), (185, .aload_n 0, 1), (186, .sipush 160, 3), (189, .newarray .int, 2), (191, .putfield 81, 3), (194, .aload_n 0, 1), (195, .sipush 1280, 3), (198, .newarray .int, 2), (200, .putfield 84, 3), (203, .aload_n 0, 1), (204, .sipush 1280, 3), (207, .newarray .int, 2), (209, .putfield 87, 3), (212, .aload_n 0, 1), (213, .bipush 32, 2), (215, .newarray .int, 2), (217, .putfield 90, 3), (220, .iconst 0, 1), (221, .istore_n 1, 1), (222, .iload_n 1, 1), (223, .bipush 32, 2), (225, .if_icmp .ge 23, 3), (228, .aload_n 0, 1), (229, .getfield 30, 3), (232, .iload_n 1, 1), (233, .iconst (-1), 1), (234, .iastore, 1), (235, .aload_n 0, 1), (236, .getfield 42, 3), (239, .iload_n 1, 1), (240, .iconst (-1), 1), (241, .iastore, 1), (242, .iinc 1 1, 3), (245, .goto (-23), 3), (248, .return_, 1)]
set_option maxRecDepth 100000 in
theorem D_X5_init : dT cX5_init I_X5_init = true := by decide +kernel
def I_X5_thrown : List (Nat × Instr × Nat) := [(0, .aload_n 0, 1), (1, .getfield 93, 3), (4, .ireturn, 1)]
set_option maxRecDepth 100000 in
theorem D_X5_thrown : dT cX5_thrown I_X5_thrown = true := by decide +kernel
def I_X5_in : List (Nat × Instr × Nat) := [(0, .iload_n 0, 1), (1, .iload_n 1, 1), (2, .if_icmp .lt 12, 3), (5, .iload_n 0, 1), (6, .iload_n 2, 1), (7, .if_icmp .gt 7, 3), (10, .iconst 1, 1), (11, .goto 4, 3), (14, .iconst 0, 1), (15, .ireturn, 1)]
set_option maxRecDepth 100000 in
theorem D_X5_in : dT cX5_in I_X5_in = true := by decide +kernel
def I_X5_greater : List (Nat × Instr × Nat) := [(0, .iload_n 0, 1), (1, .iload_n 1, 1), (2, .if_icmp .le 7, 3), (5, .iload_n 0, 1), (6, .goto 4, 3), (9, .iload_n 1, 1), (10, .ireturn, 1)]
set_option maxRecDepth 100000 in
theorem D_X5_greater : dT cX5_greater I_X5_greater = true := by decide +kernel
def I_X5_pass : List (Nat × Instr × Nat) := [(0, .aload_n 0, 1), (1, .iload_n 1, 1), (2, .iconst 1, 1), (3, .bipush 50, 2), (5, .invokestatic 96, 3), (8, .ifCond .ne 7, 3), (11, .iconst 1, 1), (12, .goto 20, 3), (15, .aload_n 0, 1), (16, .getfield 100, 3), (19, .iload_n 1, 1), (20, .iadd, 1), (21, .sipush 2000, 3), (24, .if_icmp .le 7, 3), (27, .iconst 2, 1), (28, .goto 4, 3), (31, .iconst 0, 1), (32, .putfield 93, 3), (35, .aload_n 0, 1), (36, .dup, 1), (37, .getfield 100, 3), (40, .aload_n 0, 1), (41, .getfield 93, 3), (44, .ifCond .ne 7, 3), (47, .iload_n 1, 1), (48, .goto 4, 3), (51, .iconst 0, 1), (52, .iadd, 1), (53, .putfield 100, 3), (56, .aload_n 0, 1), (57, .getfield 93, 3), (60, .ifCond .ne 10, 3), (63, .aload_n 0, 1), (64, .getfield 100, 3), (67, .goto 4, 3), (70, .iconst 0, 1), (71, .ireturn, 1)]
set_option maxRecDepth 100000 in
theorem D_X5_pass : dT cX5_pass I_X5_pass = true := by decide +kernel
def I_X5_skew : List (Nat × Instr × Nat) := [(0, .aload_n 0, 1), (1, .iload_n 1, 1), (2, .iconst 0, 1), (3, .iconst 3, 1), (4, .invokestatic 96, 3), (7, .ifCond .ne 7, 3), (10, .iconst 1, 1), (11, .goto 18, 3), (14, .iload_n 2, 1), (15, .bipush (-5), 2), (17, .iconst 5, 1), (18, .invokestatic 96, 3), (21, .ifCond .ne 7, 3), (24, .iconst 2, 1), (25, .goto 4, 3), (28, .iconst 0, 1), (29, .putfield 93, 3), (32, .aload_n 0, 1), (33, .getfield 93, 3), (36, .ifCond .le 5, 3), (39, .iconst 0, 1), (40, .ireturn, 1), (41, .aload_n 0, 1), (42, .getfield 7, 3), (45, .iload_n 1, 1), (46, .iaload, 1), (47, .istore_n 3, 1), (48, .aload_n 0, 1), (49, .getfield 7, 3), (52, .iload_n 1, 1), (53, .iload_n 2, 1), (54, .iastore, 1), (55, .iload_n 3, 1), (56, .ireturn, 1)]
set_option maxRecDepth 100000 in
theorem D_X5_skew : dT cX5_skew I_X5_skew = true := by decide +kernel
def I_X5_asks : List (Nat × Instr × Nat) := [(0, .aload_n 0, 1), (1, .getfield 13, 3), (4, .iload_n 1, 1), (5, .bipush 10, 2), (7, .aload_n 0, 1), (8, .getfield 100, 3), (11, .aload_n 0, 1), (12, .getfield 7, 3), (15, .iload_n 1, 1), (16, .iaload, 1), (17, .iadd, 1), (18, .imul, 1), (19, .aload_n 0, 1), (20, .getfield 13, 3), (23, .iload_n 1, 1), (24, .iaload, 1), (25, .iconst 1, 1), (26, .iadd, 1), (27, .invokestatic 103, 3), (30, .iastore, 1), (31, .aload_n 0, 1), (32, .getfield 13, 3), (35, .iload_n 1, 1), (36, .iaload, 1), (37, .ireturn, 1)]
set_option maxRecDepth 100000 in
theorem D_X5_asks : dT cX5_asks I_X5_asks = true := by decide +kernel
def I_X5_clock : List (Nat × Instr × Nat) := [(0, .aload_n 0, 1), (1, .iload_n 1, 1), (2, .iconst 0, 1), (3, .iconst 3, 1), (4, .invokestatic 96, 3), (7, .ifCond .ne 7, 3), (10, .iconst 1, 1), (11, .goto 17, 3), (14, .aload_n 0, 1), (15, .getfield 16, 3), (18, .iload_n 1, 1), (19, .baload, 1), (20, .ifCond .eq 7, 3), (23, .iconst 2, 1), (24, .goto 4, 3), (27, .iconst 0, 1), (28, .putfield 93, 3), (31, .aload_n 0, 1), (32, .getfield 93, 3), (35, .ifCond .ne 11, 3), (38, .aload_n 0, 1), (39, .iload_n 1, 1), (40, .invokevirtual 107, 3), (43, .goto 4, 3), (46, .iconst 0, 1), (47, .ireturn, 1)]
set_option maxRecDepth 100000 in
theorem D_X5_clock : dT cX5_clock I_X5_clock = true := by decide +kernel
def I_X5_closedNow : List (Nat × Instr × Nat) := [(0, .iconst 0, 1), (1, .bipush 10, 2), (3, .aload_n 0, 1), (4, .getfield 100, 3), (7, .bipush 15, 2), (9, .isub, 1), (10, .imul, 1), (11, .invokestatic 103, 3), (14, .ireturn, 1)]
set_option maxRecDepth 100000 in
theorem D_X5_closedNow : dT cX5_closedNow I_X5_closedNow = true := by decide +kernel
def I_X5_closed : List (Nat × Instr × Nat) := [(0, .aload_n 0, 1), (1, .iconst 0, 1), (2, .putfield 93, 3), (5, .aload_n 0, 1), (6, .invokevirtual 111, 3), (9, .ireturn, 1)]
set_option maxRecDepth 100000 in
theorem D_X5_closed : dT cX5_closed I_X5_closed = true := by decide +kernel
def I_X5_rangeOf : List (Nat × Instr × Nat) := [(0, .iconst 0, 1), (1, .istore_n 2, 1), (2, .iload_n 2, 1), (3, .iconst 1, 1), (4, .iadd, 1), (5, .aload_n 0, 1), (6, .getfield 20, 3), (9, .if_icmp .ge 21, 3), (12, .aload_n 0, 1), (13, .getfield 24, 3), (16, .iload_n 2, 1), (17, .iconst 1, 1), (18, .iadd, 1), (19, .iaload, 1), (20, .iload_n 1, 1), (21, .if_icmp .gt 9, 3), (24, .iinc 2 1, 3), (27, .goto (-25), 3), (30, .iload_n 2, 1), (31, .ireturn, 1)]
set_option maxRecDepth 100000 in
theorem D_X5_rangeOf : dT cX5_rangeOf I_X5_rangeOf = true := by decide +kernel
def I_X5_nodeOf : List (Nat × Instr × Nat) := [(0, .aload_n 0, 1), (1, .getfield 27, 3), (4, .aload_n 0, 1), (5, .iload_n 1, 1), (6, .invokevirtual 115, 3), (9, .iaload, 1), (10, .ireturn, 1)]
set_option maxRecDepth 100000 in
theorem D_X5_nodeOf : dT cX5_nodeOf I_X5_nodeOf = true := by decide +kernel
end
section
def I_X5_down : List (Nat × Instr × Nat) := [(0, .aload_n 0, 1), (1, .iload_n 1, 1), (2, .iconst 0, 1), (3, .iconst 3, 1), (4, .invokestatic 96, 3), (7, .ifCond .ne 7, 3), (10, .iconst 1, 1), (11, .goto 17, 3), (14, .aload_n 0, 1), (15, .getfield 16, 3), (18, .iload_n 1, 1), (19, .baload, 1), (20, .ifCond .eq 7, 3), (23, .iconst 2, 1), (24, .goto 4, 3), (27, .iconst 0, 1), (28, .putfield 93, 3), (31, .aload_n 0, 1), (32, .getfield 93, 3), (35, .ifCond .le 5, 3), (38, .iconst 0, 1), (39, .ireturn, 1), (40, .aload_n 0, 1), (41, .getfield 16, 3), (44, .iload_n 1, 1), (45, .iconst 1, 1), (46, .bastore, 1), (47, .iconst 0, 1), (48, .istore_n 2, 1), (49, .iconst 0, 1), (50, .istore_n 3, 1), (51, .iload_n 3, 1), (52, .bipush 32, 2), (54, .if_icmp .ge 47, 3), (57, .aload_n 0, 1), (58, .iload_n 3, 1), (59, .invokevirtual 118, 3), (62, .iload_n 1, 1), (63, .if_icmp .ne 32, 3), (66, .aload_n 0, 1), (67, .getfield 30, 3), (70, .iload_n 3, 1), (71, .iaload, 1), (72, .iconst (-1), 1), (73, .if_icmp .eq 22, 3), (76, .aload_n 0, 1), (77, .getfield 33, 3), (80, .iload_n 3, 1), (81, .baload, 1), (82, .ifCond .ne 13, 3), (85, .aload_n 0, 1), (86, .getfield 30, 3), (89, .iload_n 3, 1), (90, .iconst (-1), 1), (91, .iastore, 1), (92, .iinc 2 1, 3), (95, .iinc 3 1, 3), (98, .goto (-47), 3), (101, .iload_n 2, 1), (102, .ireturn, 1)]
set_option maxRecDepth 100000 in
theorem D_X5_down : dT cX5_down I_X5_down = true := by decide +kernel
def I_X5_covers : List (Nat × Instr × Nat) := [(0, .iload_n 2, 1), (1, .aload_n 0, 1), (2, .getfield 39, 3), (5, .iload_n 1, 1), (6, .iaload, 1), (7, .if_icmp .le 18, 3), (10, .aload_n 0, 1), (11, .getfield 39, 3), (14, .iload_n 1, 1), (15, .iload_n 2, 1), (16, .iastore, 1), (17, .aload_n 0, 1), (18, .getfield 42, 3), (21, .iload_n 1, 1), (22, .bipush (-2), 2), (24, .iastore, 1), (25, .return_, 1)]
set_option maxRecDepth 100000 in
theorem D_X5_covers : dT cX5_covers I_X5_covers = true := by decide +kernel
def I_X5_up : List (Nat × Instr × Nat) := [(0, .aload_n 0, 1), (1, .iload_n 1, 1), (2, .iconst 0, 1), (3, .iconst 3, 1), (4, .invokestatic 96, 3), (7, .ifCond .ne 7, 3), (10, .iconst 1, 1), (11, .goto 17, 3), (14, .aload_n 0, 1), (15, .getfield 16, 3), (18, .iload_n 1, 1), (19, .baload, 1), (20, .ifCond .ne 7, 3), (23, .iconst 2, 1), (24, .goto 4, 3), (27, .iconst 0, 1), (28, .putfield 93, 3), (31, .aload_n 0, 1), (32, .getfield 93, 3), (35, .ifCond .le 5, 3), (38, .iconst 0, 1), (39, .ireturn, 1), (40, .aload_n 0, 1), (41, .getfield 16, 3), (44, .iload_n 1, 1), (45, .iconst 0, 1), (46, .bastore, 1), (47, .aload_n 0, 1), (48, .iload_n 1, 1), (49, .invokevirtual 107, 3), (52, .istore_n 2, 1), (53, .iconst 0, 1), (54, .istore_n 3, 1), (55, .iload_n 3, 1), (56, .bipush 32, 2), (58, .if_icmp .ge 24, 3), (61, .aload_n 0, 1), (62, .iload_n 3, 1), (63, .invokevirtual 118, 3), (66, .iload_n 1, 1), (67, .if_icmp .ne 9, 3), (70, .aload_n 0, 1), (71, .iload_n 3, 1), (72, .iload_n 2, 1), (73, .invokevirtual 121, 3), (76, .iinc 3 1, 3), (79, .goto (-24), 3), (82, .iload_n 2, 1), (83, .ireturn, 1)]
set_option maxRecDepth 100000 in
theorem D_X5_up : dT cX5_up I_X5_up = true := by decide +kernel
def I_X5_sync : List (Nat × Instr × Nat) := [(0, .aload_n 0, 1), (1, .iload_n 1, 1), (2, .iconst 0, 1), (3, .iconst 3, 1), (4, .invokestatic 96, 3), (7, .ifCond .ne 7, 3), (10, .iconst 1, 1), (11, .goto 17, 3), (14, .aload_n 0, 1), (15, .getfield 16, 3), (18, .iload_n 1, 1), (19, .baload, 1), (20, .ifCond .eq 7, 3), (23, .iconst 2, 1), (24, .goto 4, 3), (27, .iconst 0, 1), (28, .putfield 93, 3), (31, .iconst 0, 1), (32, .istore_n 2, 1), (33, .iconst 0, 1), (34, .istore_n 3, 1), (35, .iload_n 3, 1), (36, .bipush 32, 2), (38, .if_icmp .ge 54, 3), (41, .aload_n 0, 1), (42, .getfield 93, 3), (45, .ifCond .ne 47, 3), (48, .aload_n 0, 1), (49, .iload_n 3, 1), (50, .invokevirtual 118, 3), (53, .iload_n 1, 1), (54, .if_icmp .ne 32, 3), (57, .aload_n 0, 1), (58, .getfield 30, 3), (61, .iload_n 3, 1), (62, .iaload, 1), (63, .iconst (-1), 1), (64, .if_icmp .eq 22, 3), (67, .aload_n 0, 1), (68, .getfield 33, 3), (71, .iload_n 3, 1), (72, .baload, 1), (73, .ifCond .ne 13, 3), (76, .aload_n 0, 1), (77, .getfield 33, 3), (80, .iload_n 3, 1), (81, .iconst 1, 1), (82, .bastore, 1), (83, .iinc 2 1, 3), (86, .iinc 3 1, 3), (89, .goto (-54), 3), (92, .iload_n 2, 1), (93, .ireturn, 1)]
set_option maxRecDepth 100000 in
theorem D_X5_sync : dT cX5_sync I_X5_sync = true := by decide +kernel
def I_X5_split : List (Nat × Instr × Nat) := [(0, .aload_n 0, 1), (1, .iload_n 1, 1), (2, .iconst 1, 1), (3, .bipush 31, 2), (5, .invokestatic 96, 3), (8, .ifCond .ne 7, 3), (11, .iconst 1, 1), (12, .goto 22, 3), (15, .aload_n 0, 1), (16, .getfield 24, 3), (19, .aload_n 0, 1), (20, .iload_n 1, 1), (21, .invokevirtual 115, 3), (24, .iaload, 1), (25, .iload_n 1, 1), (26, .if_icmp .ne 7, 3), (29, .iconst 2, 1), (30, .goto 4, 3), (33, .iconst 0, 1), (34, .putfield 93, 3), (37, .aload_n 0, 1), (38, .getfield 93, 3), (41, .ifCond .le 5, 3), (44, .iconst 0, 1), (45, .ireturn, 1), (46, .aload_n 0, 1), (47, .iload_n 1, 1), (48, .invokevirtual 115, 3), (51, .iconst 1, 1), (52, .iadd, 1), (53, .istore_n 2, 1), (54, .aload_n 0, 1), (55, .getfield 20, 3), (58, .istore_n 3, 1), (59, .iload_n 3, 1), (60, .iload_n 2, 1), (61, .if_icmp .le 37, 3), (64, .aload_n 0, 1), (65, .getfield 24, 3), (68, .iload_n 3, 1), (69, .aload_n 0, 1), (70, .getfield 24, 3), (73, .iload_n 3, 1), (74, .iconst 1, 1), (75, .isub, 1), (76, .iaload, 1), (77, .iastore, 1), (78, .aload_n 0, 1), (79, .getfield 27, 3), (82, .iload_n 3, 1), (83, .aload_n 0, 1), (84, .getfield 27, 3), (87, .iload_n 3, 1), (88, .iconst 1, 1), (89, .isub, 1), (90, .iaload, 1), (91, .iastore, 1), (92, .iinc 3 (-1), 3), (95, .goto (-36), 3), (98, .aload_n 0, 1), (99, .getfield 24, 3), (102, .iload_n 2, 1), (103, .iload_n 1, 1), (104, .iastore, 1), (105, .aload_n 0, 1), (106, .getfield 27, 3), (109, .iload_n 2, 1), (110, .aload_n 0, 1), (111, .getfield 27, 3), (114, .iload_n 2, 1), (115, .iconst 1, 1), (116, .isub, 1), (117, .iaload, 1), (118, .iastore, 1), (119, .aload_n 0, 1), (120, .dup, 1), (121, .getfield 20, 3), (124, .iconst 1, 1), (125, .iadd, 1), (126, .putfield 20, 3), (129, .aload_n 0, 1), (130, .getfield 20, 3), (133, .ireturn, 1)]
set_option maxRecDepth 100000 in
theorem D_X5_split : dT cX5_split I_X5_split = true := by decide +kernel
def I_X5_merge : List (Nat × Instr × Nat) := [(0, .aload_n 0, 1), (1, .iload_n 1, 1), (2, .iconst 0, 1), (3, .aload_n 0, 1), (4, .getfield 20, 3), (7, .iconst 2, 1), (8, .isub, 1), (9, .invokestatic 96, 3), (12, .ifCond .ne 7, 3), (15, .iconst 1, 1), (16, .goto 25, 3), (19, .aload_n 0, 1), (20, .getfield 27, 3), (23, .iload_n 1, 1), (24, .iaload, 1), (25, .aload_n 0, 1), (26, .getfield 27, 3), (29, .iload_n 1, 1), (30, .iconst 1, 1), (31, .iadd, 1), (32, .iaload, 1), (33, .if_icmp .eq 7, 3), (36, .iconst 2, 1), (37, .goto 4, 3), (40, .iconst 0, 1), (41, .putfield 93, 3), (44, .aload_n 0, 1), (45, .getfield 93, 3), (48, .ifCond .le 5, 3), (51, .iconst 0, 1), (52, .ireturn, 1), (53, .aload_n 0, 1), (54, .dup, 1), (55, .getfield 20, 3), (58, .iconst 1, 1), (59, .isub, 1), (60, .putfield 20, 3), (63, .iload_n 1, 1), (64, .iconst 1, 1), (65, .iadd, 1), (66, .istore_n 2, 1), (67, .iload_n 2, 1), (68, .aload_n 0, 1), (69, .getfield 20, 3), (72, .if_icmp .ge 37, 3), (75, .aload_n 0, 1), (76, .getfield 24, 3), (79, .iload_n 2, 1), (80, .aload_n 0, 1), (81, .getfield 24, 3), (84, .iload_n 2, 1), (85, .iconst 1, 1), (86, .iadd, 1), (87, .iaload, 1), (88, .iastore, 1), (89, .aload_n 0, 1), (90, .getfield 27, 3), (93, .iload_n 2, 1), (94, .aload_n 0, 1), (95, .getfield 27, 3), (98, .iload_n 2, 1), (99, .iconst 1, 1), (100, .iadd, 1), (101, .iaload, 1), (102, .iastore, 1), (103, .iinc 2 1, 3), (106, .goto (-39), 3), (109, .aload_n 0, 1), (110, .getfield 20, 3), (113, .ireturn, 1)]
set_option maxRecDepth 100000 in
theorem D_X5_merge : dT cX5_merge I_X5_merge = true := by decide +kernel
def I_X5_move : List (Nat × Instr × Nat) := [(0, .aload_n 0, 1), (1, .iload_n 1, 1), (2, .iconst 0, 1), (3, .aload_n 0, 1), (4, .getfield 20, 3), (7, .iconst 1, 1), (8, .isub, 1), (9, .invokestatic 96, 3), (12, .ifCond .eq 12, 3), (15, .iload_n 2, 1), (16, .iconst 0, 1), (17, .iconst 3, 1), (18, .invokestatic 96, 3), (21, .ifCond .ne 7, 3), (24, .iconst 1, 1), (25, .goto 31, 3), (28, .aload_n 0, 1), (29, .getfield 16, 3), (32, .iload_n 2, 1), (33, .baload, 1), (34, .ifCond .ne 17, 3), (37, .aload_n 0, 1), (38, .getfield 16, 3), (41, .aload_n 0, 1), (42, .getfield 27, 3), (45, .iload_n 1, 1), (46, .iaload, 1), (47, .baload, 1), (48, .ifCond .eq 7, 3), (51, .iconst 2, 1), (52, .goto 4, 3), (55, .iconst 0, 1), (56, .putfield 93, 3), (59, .aload_n 0, 1), (60, .getfield 93, 3), (63, .ifCond .le 5, 3), (66, .iconst 0, 1), (67, .ireturn, 1), (68, .aload_n 0, 1), (69, .getfield 27, 3), (72, .iload_n 1, 1), (73, .iaload, 1), (74, .istore_n 3, 1), (75, .aload_n 0, 1), (76, .iload_n 3, 1), (77, .invokevirtual 107, 3), (80, .istore 4, 2), (82, .iconst 0, 1), (83, .istore 5, 2), (85, .iload 5, 2), (87, .bipush 32, 2), (89, .if_icmp .ge 27, 3), (92, .aload_n 0, 1), (93, .iload 5, 2), (95, .invokevirtual 115, 3), (98, .iload_n 1, 1), (99, .if_icmp .ne 11, 3), (102, .aload_n 0, 1), (103, .iload 5, 2), (105, .iload 4, 2), (107, .invokevirtual 121, 3), (110, .iinc 5 1, 3), (113, .goto (-28), 3), (116, .aload_n 0, 1), (117, .getfield 27, 3), (120, .iload_n 1, 1), (121, .iload_n 2, 1), (122, .iastore, 1), (123, .iload_n 3, 1), (124, .ireturn, 1)]
set_option maxRecDepth 100000 in
theorem D_X5_move : dT cX5_move I_X5_move = true := by decide +kernel
def I_X5_forgets : List (Nat × Instr × Nat) := [(0, .iconst 0, 1), (1, .istore_n 2, 1), (2, .iload_n 2, 1), (3, .bipush 32, 2), (5, .if_icmp .ge 33, 3), (8, .aload_n 0, 1), (9, .getfield 84, 3), (12, .bipush 32, 2), (14, .iload_n 1, 1), (15, .imul, 1), (16, .iload_n 2, 1), (17, .iadd, 1), (18, .iconst (-1), 1), (19, .iastore, 1), (20, .aload_n 0, 1), (21, .getfield 87, 3), (24, .bipush 32, 2), (26, .iload_n 1, 1), (27, .imul, 1), (28, .iload_n 2, 1), (29, .iadd, 1), (30, .iconst (-1), 1), (31, .iastore, 1), (32, .iinc 2 1, 3), (35, .goto (-33), 3), (38, .return_, 1)]
set_option maxRecDepth 100000 in
theorem D_X5_forgets : dT cX5_forgets I_X5_forgets = true := by decide +kernel
def I_X5_begin : List (Nat × Instr × Nat) := [(0, .aload_n 0, 1), (1, .iload_n 1, 1), (2, .iconst 0, 1), (3, .iconst 3, 1), (4, .invokestatic 96, 3), (7, .ifCond .ne 7, 3), (10, .iconst 1, 1), (11, .goto 40, 3), (14, .iload_n 2, 1), (15, .iconst 0, 1), (16, .bipush 9, 2), (18, .invokestatic 96, 3), (21, .ifCond .ne 7, 3), (24, .iconst 2, 1), (25, .goto 26, 3), (28, .aload_n 0, 1), (29, .getfield 16, 3), (32, .iload_n 1, 1), (33, .baload, 1), (34, .ifCond .ne 12, 3), (37, .aload_n 0, 1), (38, .getfield 125, 3), (41, .bipush 40, 2), (43, .if_icmp .ne 7, 3), (46, .iconst 3, 1), (47, .goto 4, 3), (50, .iconst 0, 1), (51, .putfield 93, 3), (54, .aload_n 0, 1), (55, .getfield 93, 3), (58, .ifCond .le 5, 3), (61, .iconst 0, 1), (62, .ireturn, 1), (63, .aload_n 0, 1), (64, .getfield 125, 3), (67, .istore_n 3, 1), (68, .aload_n 0, 1), (69, .dup, 1), (70, .getfield 125, 3), (73, .iconst 1, 1), (74, .iadd, 1), (75, .putfield 125, 3), (78, .aload_n 0, 1), (79, .getfield 54, 3), (82, .iload_n 3, 1), (83, .iload_n 1, 1), (84, .iastore, 1), (85, .aload_n 0, 1), (86, .getfield 57, 3), (89, .iload_n 3, 1), (90, .iload_n 2, 1), (91, .iastore, 1), (92, .aload_n 0, 1), (93, .getfield 60, 3), (96, .iload_n 3, 1), (97, .aload_n 0, 1), (98, .iload_n 1, 1), (99, .invokevirtual 107, 3), (102, .iastore, 1), (103, .aload_n 0, 1), (104, .getfield 63, 3), (107, .iload_n 3, 1), (108, .aload_n 0, 1), (109, .getfield 60, 3), (112, .iload_n 3, 1), (113, .iaload, 1), (114, .iastore, 1), (115, .aload_n 0, 1), (116, .getfield 66, 3), (119, .iload_n 3, 1), (120, .aload_n 0, 1), (121, .getfield 60, 3), (124, .iload_n 3, 1), (125, .iaload, 1), (126, .bipush 100, 2), (128, .iadd, 1), (129, .iastore, 1), (130, .aload_n 0, 1), (131, .getfield 69, 3), (134, .iload_n 3, 1), (135, .aload_n 0, 1), (136, .getfield 100, 3), (139, .iastore, 1), (140, .aload_n 0, 1), (141, .getfield 72, 3), (144, .iload_n 3, 1), (145, .iconst 0, 1), (146, .iastore, 1), (147, .aload_n 0, 1), (148, .getfield 75, 3), (151, .iload_n 3, 1), (152, .iconst (-1), 1), (153, .iastore, 1), (154, .iconst 0, 1), (155, .istore 4, 2), (157, .iload 4, 2), (159, .iconst 4, 1), (160, .if_icmp .ge 21, 3), (163, .aload_n 0, 1), (164, .getfield 81, 3), (167, .iconst 4, 1), (168, .iload_n 3, 1), (169, .imul, 1), (170, .iload 4, 2), (172, .iadd, 1), (173, .iconst (-1), 1), (174, .iastore, 1), (175, .iinc 4 1, 3), (178, .goto (-21), 3), (181, .aload_n 0, 1), (182, .iload_n 3, 1), (183, .invokevirtual 128, 3), (186, .iload_n 3, 1), (187, .ireturn, 1)]
set_option maxRecDepth 100000 in
theorem D_X5_begin : dT cX5_begin I_X5_begin = true := by decide +kernel
def I_X5_isVanished : List (Nat × Instr × Nat) := [(0, .aload_n 0, 1), (1, .getfield 72, 3), (4, .iload_n 1, 1), (5, .iaload, 1), (6, .ifCond .eq 13, 3), (9, .aload_n 0, 1), (10, .getfield 72, 3), (13, .iload_n 1, 1), (14, .iaload, 1), (15, .iconst 1, 1), (16, .if_icmp .ne 23, 3), (19, .aload_n 0, 1), (20, .getfield 100, 3), (23, .aload_n 0, 1), (24, .getfield 69, 3), (27, .iload_n 1, 1), (28, .iaload, 1), (29, .bipush 20, 2), (31, .iadd, 1), (32, .if_icmp .le 7, 3), (35, .iconst 1, 1), (36, .goto 4, 3), (39, .iconst 0, 1), (40, .ireturn, 1)]
set_option maxRecDepth 100000 in
theorem D_X5_isVanished : dT cX5_isVanished I_X5_isVanished = true := by decide +kernel
def I_X5_commits : List (Nat × Instr × Nat) := [(0, .aload_n 0, 1), (1, .getfield 72, 3), (4, .iload_n 1, 1), (5, .iconst 2, 1), (6, .iastore, 1), (7, .aload_n 0, 1), (8, .getfield 78, 3), (11, .iload_n 1, 1), (12, .aload_n 0, 1), (13, .getfield 132, 3), (16, .iastore, 1), (17, .aload_n 0, 1), (18, .dup, 1), (19, .getfield 132, 3), (22, .iconst 1, 1), (23, .iadd, 1), (24, .putfield 132, 3), (27, .iconst 0, 1), (28, .istore_n 2, 1), (29, .iload_n 2, 1), (30, .bipush 32, 2), (32, .if_icmp .ge 76, 3), (35, .aload_n 0, 1), (36, .getfield 30, 3), (39, .iload_n 2, 1), (40, .iaload, 1), (41, .iload_n 1, 1), (42, .if_icmp .ne 60, 3), (45, .aload_n 0, 1), (46, .getfield 45, 3), (49, .aload_n 0, 1), (50, .getfield 135, 3), (53, .iload_n 2, 1), (54, .iastore, 1), (55, .aload_n 0, 1), (56, .getfield 48, 3), (59, .aload_n 0, 1), (60, .getfield 135, 3), (63, .aload_n 0, 1), (64, .getfield 63, 3), (67, .iload_n 1, 1), (68, .iaload, 1), (69, .iastore, 1), (70, .aload_n 0, 1), (71, .getfield 51, 3), (74, .aload_n 0, 1), (75, .getfield 135, 3), (78, .aload_n 0, 1), (79, .getfield 36, 3), (82, .iload_n 2, 1), (83, .iaload, 1), (84, .iastore, 1), (85, .aload_n 0, 1), (86, .dup, 1), (87, .getfield 135, 3), (90, .iconst 1, 1), (91, .iadd, 1), (92, .putfield 135, 3), (95, .aload_n 0, 1), (96, .getfield 30, 3), (99, .iload_n 2, 1), (100, .iconst (-1), 1), (101, .iastore, 1), (102, .iinc 2 1, 3), (105, .goto (-76), 3), (108, .return_, 1)]
set_option maxRecDepth 100000 in
theorem D_X5_commits : dT cX5_commits I_X5_commits = true := by decide +kernel
def I_X5_hasAllIntents : List (Nat × Instr × Nat) := [(0, .iconst 1, 1), (1, .istore_n 2, 1), (2, .iconst 0, 1), (3, .istore_n 3, 1), (4, .iload_n 3, 1), (5, .bipush 32, 2), (7, .if_icmp .ge 44, 3), (10, .iload_n 2, 1), (11, .ifCond .eq 32, 3), (14, .aload_n 0, 1), (15, .getfield 87, 3), (18, .bipush 32, 2), (20, .iload_n 1, 1), (21, .imul, 1), (22, .iload_n 3, 1), (23, .iadd, 1), (24, .iaload, 1), (25, .iconst (-1), 1), (26, .if_icmp .eq 13, 3), (29, .aload_n 0, 1), (30, .getfield 30, 3), (33, .iload_n 3, 1), (34, .iaload, 1), (35, .iload_n 1, 1), (36, .if_icmp .ne 7, 3), (39, .iconst 1, 1), (40, .goto 4, 3), (43, .iconst 0, 1), (44, .istore_n 2, 1), (45, .iinc 3 1, 3), (48, .goto (-44), 3), (51, .iload_n 2, 1), (52, .ireturn, 1)]
set_option maxRecDepth 100000 in
theorem D_X5_hasAllIntents : dT cX5_hasAllIntents I_X5_hasAllIntents = true := by decide +kernel
def I_X5_recovers : List (Nat × Instr × Nat) := [(0, .aload_n 0, 1), (1, .iload_n 1, 1), (2, .invokevirtual 138, 3), (5, .ifCond .eq 11, 3), (8, .aload_n 0, 1), (9, .iload_n 1, 1), (10, .invokevirtual 142, 3), (13, .goto 10, 3), (16, .aload_n 0, 1), (17, .getfield 72, 3), (20, .iload_n 1, 1), (21, .iconst 3, 1), (22, .iastore, 1), (23, .return_, 1)]
set_option maxRecDepth 100000 in
theorem D_X5_recovers : dT cX5_recovers I_X5_recovers = true := by decide +kernel
def I_X5_meets : List (Nat × Instr × Nat) := [(0, .aload_n 0, 1), (1, .getfield 30, 3), (4, .iload_n 2, 1), (5, .iaload, 1), (6, .istore_n 3, 1), (7, .iload_n 3, 1), (8, .iconst (-1), 1), (9, .if_icmp .eq 8, 3), (12, .iload_n 3, 1), (13, .iload_n 1, 1), (14, .if_icmp .ne 5, 3), (17, .iconst (-1), 1), (18, .ireturn, 1), (19, .aload_n 0, 1), (20, .getfield 72, 3), (23, .iload_n 3, 1), (24, .iaload, 1), (25, .iconst 1, 1), (26, .if_icmp .ne 8, 3), (29, .aload_n 0, 1), (30, .iload_n 3, 1), (31, .invokevirtual 144, 3), (34, .aload_n 0, 1), (35, .iload_n 3, 1), (36, .invokevirtual 147, 3), (39, .ifCond .eq 10, 3), (42, .aload_n 0, 1), (43, .getfield 72, 3), (46, .iload_n 3, 1), (47, .iconst 3, 1), (48, .iastore, 1), (49, .aload_n 0, 1), (50, .getfield 72, 3), (53, .iload_n 3, 1), (54, .iaload, 1), (55, .iconst 3, 1), (56, .if_icmp .ne 10, 3), (59, .aload_n 0, 1), (60, .getfield 30, 3), (63, .iload_n 2, 1), (64, .iconst (-1), 1), (65, .iastore, 1), (66, .aload_n 0, 1), (67, .getfield 72, 3), (70, .iload_n 3, 1), (71, .iaload, 1), (72, .ifCond .ne 7, 3), (75, .iload_n 3, 1), (76, .goto 4, 3), (79, .iconst (-1), 1), (80, .ireturn, 1)]
set_option maxRecDepth 100000 in
theorem D_X5_meets : dT cX5_meets I_X5_meets = true := by decide +kernel
def I_X5_latest : List (Nat × Instr × Nat) := [(0, .iconst (-1), 1), (1, .istore_n 3, 1), (2, .iconst 0, 1), (3, .istore 4, 2), (5, .iload 4, 2), (7, .aload_n 0, 1), (8, .getfield 135, 3), (11, .if_icmp .ge 47, 3), (14, .aload_n 0, 1), (15, .getfield 45, 3), (18, .iload 4, 2), (20, .iaload, 1), (21, .iload_n 1, 1), (22, .if_icmp .ne 28, 3), (25, .aload_n 0, 1), (26, .getfield 48, 3), (29, .iload 4, 2), (31, .iaload, 1), (32, .iload_n 2, 1), (33, .if_icmp .gt 17, 3), (36, .iload_n 3, 1), (37, .aload_n 0, 1), (38, .getfield 48, 3), (41, .iload 4, 2), (43, .iaload, 1), (44, .invokestatic 103, 3), (47, .goto 4, 3), (50, .iload_n 3, 1), (51, .istore_n 3, 1), (52, .iinc 4 1, 3), (55, .goto (-50), 3), (58, .iload_n 3, 1), (59, .ireturn, 1)]
set_option maxRecDepth 100000 in
theorem D_X5_latest : dT cX5_latest I_X5_latest = true := by decide +kernel
def I_X5_valueAt : List (Nat × Instr × Nat) := [(0, .aload_n 0, 1), (1, .iload_n 1, 1), (2, .iload_n 2, 1), (3, .invokevirtual 150, 3), (6, .istore_n 3, 1), (7, .sipush 1000, 3), (10, .istore 4, 2), (12, .iconst 0, 1), (13, .istore 5, 2), (15, .iload 5, 2), (17, .aload_n 0, 1), (18, .getfield 135, 3), (21, .if_icmp .ge 45, 3), (24, .aload_n 0, 1), (25, .getfield 45, 3), (28, .iload 5, 2), (30, .iaload, 1), (31, .iload_n 1, 1), (32, .if_icmp .ne 24, 3), (35, .aload_n 0, 1), (36, .getfield 48, 3), (39, .iload 5, 2), (41, .iaload, 1), (42, .iload_n 3, 1), (43, .if_icmp .ne 13, 3), (46, .aload_n 0, 1), (47, .getfield 51, 3), (50, .iload 5, 2), (52, .iaload, 1), (53, .goto 5, 3), (56, .iload 4, 2), (58, .istore 4, 2), (60, .iinc 5 1, 3), (63, .goto (-48), 3), (66, .iload 4, 2), (68, .ireturn, 1)]
set_option maxRecDepth 100000 in
theorem D_X5_valueAt : dT cX5_valueAt I_X5_valueAt = true := by decide +kernel
def I_X5_marks : List (Nat × Instr × Nat) := [(0, .iload_n 3, 1), (1, .aload_n 0, 1), (2, .getfield 39, 3), (5, .iload_n 2, 1), (6, .iaload, 1), (7, .if_icmp .le 20, 3), (10, .aload_n 0, 1), (11, .getfield 39, 3), (14, .iload_n 2, 1), (15, .iload_n 3, 1), (16, .iastore, 1), (17, .aload_n 0, 1), (18, .getfield 42, 3), (21, .iload_n 2, 1), (22, .iload_n 1, 1), (23, .iastore, 1), (24, .goto 31, 3), (27, .iload_n 3, 1), (28, .aload_n 0, 1), (29, .getfield 39, 3), (32, .iload_n 2, 1), (33, .iaload, 1), (34, .if_icmp .ne 21, 3), (37, .aload_n 0, 1), (38, .getfield 42, 3), (41, .iload_n 2, 1), (42, .iaload, 1), (43, .iload_n 1, 1), (44, .if_icmp .eq 11, 3), (47, .aload_n 0, 1), (48, .getfield 42, 3), (51, .iload_n 2, 1), (52, .bipush (-2), 2), (54, .iastore, 1), (55, .return_, 1)]
set_option maxRecDepth 100000 in
theorem D_X5_marks : dT cX5_marks I_X5_marks = true := by decide +kernel
def I_X5_refreshes : List (Nat × Instr × Nat) := [(0, .iconst 0, 1), (1, .istore_n 3, 1), (2, .iload_n 3, 1), (3, .bipush 32, 2), (5, .if_icmp .ge 81, 3), (8, .aload_n 0, 1), (9, .getfield 84, 3), (12, .bipush 32, 2), (14, .iload_n 1, 1), (15, .imul, 1), (16, .iload_n 3, 1), (17, .iadd, 1), (18, .iaload, 1), (19, .iconst (-1), 1), (20, .if_icmp .eq 60, 3), (23, .aload_n 0, 1), (24, .getfield 16, 3), (27, .aload_n 0, 1), (28, .iload_n 3, 1), (29, .invokevirtual 118, 3), (32, .baload, 1), (33, .ifCond .eq 5, 3), (36, .iconst 0, 1), (37, .ireturn, 1), (38, .aload_n 0, 1), (39, .iload_n 1, 1), (40, .iload_n 3, 1), (41, .invokevirtual 153, 3), (44, .istore 4, 2), (46, .iload 4, 2), (48, .iconst (-1), 1), (49, .if_icmp .eq 14, 3), (52, .aload_n 0, 1), (53, .getfield 63, 3), (56, .iload 4, 2), (58, .iaload, 1), (59, .iload_n 2, 1), (60, .if_icmp .le 18, 3), (63, .aload_n 0, 1), (64, .iload_n 3, 1), (65, .iload_n 2, 1), (66, .invokevirtual 150, 3), (69, .aload_n 0, 1), (70, .getfield 60, 3), (73, .iload_n 1, 1), (74, .iaload, 1), (75, .if_icmp .le 5, 3), (78, .iconst 0, 1), (79, .ireturn, 1), (80, .iinc 3 1, 3), (83, .goto (-81), 3), (86, .iconst 0, 1), (87, .istore_n 3, 1), (88, .iload_n 3, 1), (89, .bipush 32, 2), (91, .if_icmp .ge 31, 3), (94, .aload_n 0, 1), (95, .getfield 84, 3), (98, .bipush 32, 2), (100, .iload_n 1, 1), (101, .imul, 1), (102, .iload_n 3, 1), (103, .iadd, 1), (104, .iaload, 1), (105, .iconst (-1), 1), (106, .if_icmp .eq 10, 3), (109, .aload_n 0, 1), (110, .iload_n 1, 1), (111, .iload_n 3, 1), (112, .iload_n 2, 1), (113, .invokevirtual 156, 3), (116, .iinc 3 1, 3), (119, .goto (-31), 3), (122, .iconst 1, 1), (123, .ireturn, 1)]
set_option maxRecDepth 100000 in
theorem D_X5_refreshes : dT cX5_refreshes I_X5_refreshes = true := by decide +kernel
def I_X5_restarts : List (Nat × Instr × Nat) := [(0, .iconst 0, 1), (1, .istore_n 3, 1), (2, .iload_n 3, 1), (3, .bipush 32, 2), (5, .if_icmp .ge 35, 3), (8, .aload_n 0, 1), (9, .getfield 30, 3), (12, .iload_n 3, 1), (13, .aload_n 0, 1), (14, .getfield 30, 3), (17, .iload_n 3, 1), (18, .iaload, 1), (19, .iload_n 1, 1), (20, .if_icmp .ne 7, 3), (23, .iconst (-1), 1), (24, .goto 9, 3), (27, .aload_n 0, 1), (28, .getfield 30, 3), (31, .iload_n 3, 1), (32, .iaload, 1), (33, .iastore, 1), (34, .iinc 3 1, 3), (37, .goto (-35), 3), (40, .aload_n 0, 1), (41, .iload_n 1, 1), (42, .invokevirtual 128, 3), (45, .aload_n 0, 1), (46, .getfield 60, 3), (49, .iload_n 1, 1), (50, .iload_n 2, 1), (51, .aload_n 0, 1), (52, .getfield 63, 3), (55, .iload_n 1, 1), (56, .iaload, 1), (57, .invokestatic 103, 3), (60, .iastore, 1), (61, .aload_n 0, 1), (62, .getfield 63, 3), (65, .iload_n 1, 1), (66, .aload_n 0, 1), (67, .getfield 60, 3), (70, .iload_n 1, 1), (71, .iaload, 1), (72, .iastore, 1), (73, .bipush (-12), 2), (75, .ireturn, 1)]
set_option maxRecDepth 100000 in
theorem D_X5_restarts : dT cX5_restarts I_X5_restarts = true := by decide +kernel
def I_X5_waitsFor : List (Nat × Instr × Nat) := [(0, .aload_n 0, 1), (1, .getfield 72, 3), (4, .iload_n 1, 1), (5, .iaload, 1), (6, .ifCond .ne 36, 3), (9, .aload_n 0, 1), (10, .getfield 75, 3), (13, .iload_n 1, 1), (14, .iaload, 1), (15, .iconst (-1), 1), (16, .if_icmp .eq 26, 3), (19, .aload_n 0, 1), (20, .getfield 72, 3), (23, .aload_n 0, 1), (24, .getfield 75, 3), (27, .iload_n 1, 1), (28, .iaload, 1), (29, .iaload, 1), (30, .ifCond .ne 12, 3), (33, .aload_n 0, 1), (34, .getfield 75, 3), (37, .iload_n 1, 1), (38, .iaload, 1), (39, .goto 4, 3), (42, .iconst (-1), 1), (43, .ireturn, 1)]
set_option maxRecDepth 100000 in
theorem D_X5_waitsFor : dT cX5_waitsFor I_X5_waitsFor = true := by decide +kernel
def I_X5_comesAnew : List (Nat × Instr × Nat) := [(0, .aload_n 0, 1), (1, .getfield 75, 3), (4, .iload_n 1, 1), (5, .iload_n 2, 1), (6, .iastore, 1), (7, .iload_n 1, 1), (8, .istore_n 3, 1), (9, .iload_n 2, 1), (10, .istore 4, 2), (12, .iconst 0, 1), (13, .istore 5, 2), (15, .iload 4, 2), (17, .iconst (-1), 1), (18, .if_icmp .eq 75, 3), (21, .iload 4, 2), (23, .iload_n 1, 1), (24, .if_icmp .eq 69, 3), (27, .iload 5, 2), (29, .bipush 40, 2), (31, .if_icmp .ge 62, 3), (34, .aload_n 0, 1), (35, .getfield 57, 3), (38, .iload 4, 2), (40, .iaload, 1), (41, .aload_n 0, 1), (42, .getfield 57, 3), (45, .iload_n 3, 1), (46, .iaload, 1), (47, .if_icmp .lt 25, 3), (50, .aload_n 0, 1), (51, .getfield 57, 3), (54, .iload 4, 2), (56, .iaload, 1), (57, .aload_n 0, 1), (58, .getfield 57, 3), (61, .iload_n 3, 1), (62, .iaload, 1), (63, .if_icmp .ne 14, 3), (66, .iload 4, 2), (68, .iload_n 3, 1), (69, .if_icmp .le 8, 3), (72, .iload 4, 2), (74, .goto 4, 3), (77, .iload_n 3, 1), (78, .istore_n 3, 1), (79, .aload_n 0, 1), (80, .iload 4, 2), (82, .invokevirtual 160, 3), (85, .istore 4, 2), (87, .iinc 5 1, 3), (90, .goto (-75), 3), (93, .iload 4, 2), (95, .iload_n 1, 1), (96, .if_icmp .eq 5, 3), (99, .iconst 0, 1), (100, .ireturn, 1), (101, .aload_n 0, 1), (102, .getfield 72, 3), (105, .iload_n 3, 1), (106, .iconst 3, 1), (107, .iastore, 1), (108, .aload_n 0, 1), (109, .getfield 75, 3), (112, .iload_n 1, 1), (113, .iconst (-1), 1), (114, .iastore, 1), (115, .iload_n 3, 1), (116, .iload_n 1, 1), (117, .if_icmp .eq 7, 3), (120, .iconst 1, 1), (121, .goto 4, 3), (124, .iconst 0, 1), (125, .ireturn, 1)]
set_option maxRecDepth 100000 in
theorem D_X5_comesAnew : dT cX5_comesAnew I_X5_comesAnew = true := by decide +kernel
def I_X5_waitAnswer : List (Nat × Instr × Nat) := [(0, .aload_n 0, 1), (1, .getfield 72, 3), (4, .iload_n 1, 1), (5, .iaload, 1), (6, .ifCond .ne 8, 3), (9, .bipush (-11), 2), (11, .goto 5, 3), (14, .bipush (-13), 2), (16, .ireturn, 1)]
set_option maxRecDepth 100000 in
theorem D_X5_waitAnswer : dT cX5_waitAnswer I_X5_waitAnswer = true := by decide +kernel
def I_X5_opens : List (Nat × Instr × Nat) := [(0, .aload_n 0, 1), (1, .getfield 72, 3), (4, .iload_n 1, 1), (5, .iaload, 1), (6, .ifCond .eq 6, 3), (9, .bipush (-13), 2), (11, .ireturn, 1), (12, .aload_n 0, 1), (13, .iload_n 2, 1), (14, .invokevirtual 118, 3), (17, .istore_n 3, 1), (18, .aload_n 0, 1), (19, .getfield 16, 3), (22, .aload_n 0, 1), (23, .getfield 54, 3), (26, .iload_n 1, 1), (27, .iaload, 1), (28, .baload, 1), (29, .ifCond .ne 12, 3), (32, .aload_n 0, 1), (33, .getfield 16, 3), (36, .iload_n 3, 1), (37, .baload, 1), (38, .ifCond .eq 6, 3), (41, .bipush (-14), 2), (43, .ireturn, 1), (44, .aload_n 0, 1), (45, .getfield 75, 3), (48, .iload_n 1, 1), (49, .iconst (-1), 1), (50, .iastore, 1), (51, .aload_n 0, 1), (52, .getfield 13, 3), (55, .iload_n 3, 1), (56, .aload_n 0, 1), (57, .getfield 13, 3), (60, .iload_n 3, 1), (61, .iaload, 1), (62, .aload_n 0, 1), (63, .getfield 60, 3), (66, .iload_n 1, 1), (67, .iaload, 1), (68, .invokestatic 103, 3), (71, .iastore, 1), (72, .aload_n 0, 1), (73, .getfield 81, 3), (76, .iconst 4, 1), (77, .iload_n 1, 1), (78, .imul, 1), (79, .iload_n 3, 1), (80, .iadd, 1), (81, .iaload, 1), (82, .iconst (-1), 1), (83, .if_icmp .ne 42, 3), (86, .aload_n 0, 1), (87, .iload_n 3, 1), (88, .invokevirtual 107, 3), (91, .istore 4, 2), (93, .aload_n 0, 1), (94, .getfield 81, 3), (97, .iconst 4, 1), (98, .iload_n 1, 1), (99, .imul, 1), (100, .iload_n 3, 1), (101, .iadd, 1), (102, .iload 4, 2), (104, .aload_n 0, 1), (105, .getfield 66, 3), (108, .iload_n 1, 1), (109, .iaload, 1), (110, .if_icmp .ge 8, 3), (113, .iload 4, 2), (115, .goto 9, 3), (118, .aload_n 0, 1), (119, .getfield 66, 3), (122, .iload_n 1, 1), (123, .iaload, 1), (124, .iastore, 1), (125, .iconst 0, 1), (126, .ireturn, 1)]
set_option maxRecDepth 100000 in
theorem D_X5_opens : dT cX5_opens I_X5_opens = true := by decide +kernel
def I_X5_areThere : List (Nat × Instr × Nat) := [(0, .aload_n 0, 1), (1, .iload_n 1, 1), (2, .iconst 0, 1), (3, .aload_n 0, 1), (4, .getfield 125, 3), (7, .iconst 1, 1), (8, .isub, 1), (9, .invokestatic 96, 3), (12, .ifCond .eq 17, 3), (15, .iload_n 2, 1), (16, .iconst 0, 1), (17, .bipush 31, 2), (19, .invokestatic 96, 3), (22, .ifCond .eq 7, 3), (25, .iconst 0, 1), (26, .goto 4, 3), (29, .iconst 1, 1), (30, .putfield 93, 3), (33, .aload_n 0, 1), (34, .getfield 93, 3), (37, .ifCond .ne 7, 3), (40, .iconst 1, 1), (41, .goto 4, 3), (44, .iconst 0, 1), (45, .ireturn, 1)]
set_option maxRecDepth 100000 in
theorem D_X5_areThere : dT cX5_areThere I_X5_areThere = true := by decide +kernel
def I_X5_get_0 : List (Nat × Instr × Nat) := [(0, .aload_n 0, 1), (1, .iload_n 1, 1), (2, .iload_n 2, 1), (3, .invokevirtual 163, 3), (6, .ifCond .ne 5, 3), (9, .iconst 0, 1), (10, .ireturn, 1), (11, .iload_n 1, 1), (12, .istore_n 3, 1), (13, .aload_n 0, 1), (14, .iload_n 3, 1), (15, .iload_n 2, 1), (16, .invokevirtual 167, 3), (19, .istore 4, 2), (21, .iload 4, 2), (23, .ifCond .eq 6, 3), (26, .iload 4, 2), (28, .ireturn, 1), (29, .aload_n 0, 1), (30, .getfield 87, 3), (33, .bipush 32, 2), (35, .iload_n 3, 1), (36, .imul, 1), (37, .iload_n 2, 1), (38, .iadd, 1), (39, .iaload, 1), (40, .iconst (-1), 1), (41, .if_icmp .eq 15, 3), (44, .aload_n 0, 1), (45, .getfield 87, 3), (48, .bipush 32, 2), (50, .iload_n 3, 1), (51, .imul, 1), (52, .iload_n 2, 1), (53, .iadd, 1), (54, .iaload, 1), (55, .ireturn, 1), (56, .aload_n 0, 1), (57, .getfield 81, 3), (60, .iconst 4, 1), (61, .iload_n 3, 1), (62, .imul, 1), (63, .aload_n 0, 1), (64, .iload_n 2, 1), (65, .invokevirtual 118, 3), (68, .iadd, 1), (69, .iaload, 1), (70, .istore 5, 2)]
set_option maxRecDepth 100000 in
theorem D_X5_get_0 : dT cX5_get I_X5_get_0 = true := by decide +kernel
def I_X5_get_1 : List (Nat × Instr × Nat) := [(72, .iconst 1, 1), (73, .istore 6, 2), (75, .iload 6, 2), (77, .ifCond .eq 171, 3), (80, .iconst 0, 1), (81, .istore 6, 2), (83, .aload_n 0, 1), (84, .iload_n 3, 1), (85, .iload_n 2, 1), (86, .invokevirtual 153, 3), (89, .istore 7, 2), (91, .aload_n 0, 1), (92, .getfield 60, 3), (95, .iload_n 3, 1), (96, .iaload, 1), (97, .iload 5, 2), (99, .invokestatic 103, 3), (102, .istore 8, 2), (104, .iload 7, 2), (106, .iconst (-1), 1), (107, .if_icmp .eq 67, 3), (110, .aload_n 0, 1), (111, .getfield 63, 3), (114, .iload 7, 2), (116, .iaload, 1), (117, .iload 8, 2), (119, .if_icmp .gt 55, 3), (122, .aload_n 0, 1), (123, .getfield 57, 3), (126, .iload_n 3, 1), (127, .iaload, 1), (128, .aload_n 0, 1), (129, .getfield 57, 3), (132, .iload 7, 2), (134, .iaload, 1), (135, .if_icmp .le 17, 3), (138, .aload_n 0, 1), (139, .getfield 63, 3), (142, .iload 7, 2), (144, .iload 8, 2), (146, .iconst 1, 1), (147, .iadd, 1), (148, .iastore, 1), (149, .goto 25, 3), (152, .aload_n 0, 1), (153, .iload_n 3, 1), (154, .iload 7, 2), (156, .invokevirtual 170, 3)]
set_option maxRecDepth 100000 in
theorem D_X5_get_1 : dT cX5_get I_X5_get_1 = true := by decide +kernel
def I_X5_get_2 : List (Nat × Instr × Nat) := [(159, .ifCond .eq 9, 3), (162, .iconst 1, 1), (163, .istore 6, 2), (165, .goto 9, 3), (168, .aload_n 0, 1), (169, .iload_n 3, 1), (170, .invokevirtual 173, 3), (173, .ireturn, 1), (174, .aload_n 0, 1), (175, .iload_n 2, 1), (176, .iload 5, 2), (178, .invokevirtual 150, 3), (181, .istore 9, 2), (183, .iload 6, 2), (185, .ifCond .ne 60, 3), (188, .iload 9, 2), (190, .aload_n 0, 1), (191, .getfield 60, 3), (194, .iload_n 3, 1), (195, .iaload, 1), (196, .if_icmp .le 49, 3), (199, .aload_n 0, 1), (200, .iload_n 3, 1), (201, .iload 9, 2), (203, .invokevirtual 176, 3), (206, .ifCond .ne 11, 3), (209, .aload_n 0, 1), (210, .iload_n 3, 1), (211, .iload 9, 2), (213, .invokevirtual 179, 3), (216, .ireturn, 1), (217, .aload_n 0, 1), (218, .getfield 60, 3), (221, .iload_n 3, 1), (222, .iload 9, 2), (224, .iastore, 1), (225, .aload_n 0, 1), (226, .getfield 63, 3), (229, .iload_n 3, 1), (230, .aload_n 0, 1), (231, .getfield 63, 3), (234, .iload_n 3, 1), (235, .iaload, 1), (236, .iload 9, 2), (238, .invokestatic 103, 3), (241, .iastore, 1), (242, .iconst 1, 1), (243, .istore 6, 2)]
set_option maxRecDepth 100000 in
theorem D_X5_get_2 : dT cX5_get I_X5_get_2 = true := by decide +kernel
def I_X5_get_3 : List (Nat × Instr × Nat) := [(245, .goto (-170), 3), (248, .aload_n 0, 1), (249, .iload_n 2, 1), (250, .aload_n 0, 1), (251, .getfield 60, 3), (254, .iload_n 3, 1), (255, .iaload, 1), (256, .invokevirtual 182, 3), (259, .istore 7, 2), (261, .aload_n 0, 1), (262, .getfield 84, 3), (265, .bipush 32, 2), (267, .iload_n 3, 1), (268, .imul, 1), (269, .iload_n 2, 1), (270, .iadd, 1), (271, .iload 7, 2), (273, .iastore, 1), (274, .aload_n 0, 1), (275, .iload_n 3, 1), (276, .iload_n 2, 1), (277, .aload_n 0, 1), (278, .getfield 60, 3), (281, .iload_n 3, 1), (282, .iaload, 1), (283, .invokevirtual 156, 3), (286, .iload 7, 2), (288, .ireturn, 1)]
set_option maxRecDepth 100000 in
theorem D_X5_get_3 : dT cX5_get I_X5_get_3 = true := by decide +kernel
def I_X5_put_0 : List (Nat × Instr × Nat) := [(0, .aload_n 0, 1), (1, .iload_n 1, 1), (2, .iload_n 2, 1), (3, .invokevirtual 163, 3), (6, .ifCond .ne 5, 3), (9, .iconst 0, 1), (10, .ireturn, 1), (11, .aload_n 0, 1), (12, .iload_n 3, 1), (13, .iconst 0, 1), (14, .sipush 1000, 3), (17, .invokestatic 96, 3), (20, .ifCond .eq 7, 3), (23, .iconst 0, 1), (24, .goto 4, 3), (27, .iconst 2, 1), (28, .putfield 93, 3), (31, .aload_n 0, 1), (32, .getfield 93, 3), (35, .ifCond .le 5, 3), (38, .iconst 0, 1), (39, .ireturn, 1), (40, .iload_n 1, 1), (41, .istore 4, 2), (43, .aload_n 0, 1), (44, .iload 4, 2), (46, .iload_n 2, 1), (47, .invokevirtual 167, 3), (50, .istore 5, 2), (52, .iload 5, 2), (54, .ifCond .eq 6, 3), (57, .iload 5, 2), (59, .ireturn, 1), (60, .aload_n 0, 1), (61, .iload 4, 2), (63, .iload_n 2, 1), (64, .invokevirtual 153, 3), (67, .istore 6, 2), (69, .iload 6, 2), (71, .iconst (-1), 1), (72, .if_icmp .eq 68, 3), (75, .aload_n 0, 1), (76, .getfield 57, 3), (79, .iload 4, 2), (81, .iaload, 1), (82, .aload_n 0, 1), (83, .getfield 57, 3), (86, .iload 6, 2)]
set_option maxRecDepth 100000 in
theorem D_X5_put_0 : dT cX5_put I_X5_put_0 = true := by decide +kernel
def I_X5_put_1 : List (Nat × Instr × Nat) := [(88, .iaload, 1), (89, .if_icmp .le 21, 3), (92, .aload_n 0, 1), (93, .getfield 72, 3), (96, .iload 6, 2), (98, .iconst 3, 1), (99, .iastore, 1), (100, .aload_n 0, 1), (101, .getfield 30, 3), (104, .iload_n 2, 1), (105, .iconst (-1), 1), (106, .iastore, 1), (107, .goto 21, 3), (110, .aload_n 0, 1), (111, .iload 4, 2), (113, .iload 6, 2), (115, .invokevirtual 170, 3), (118, .ifCond .ne 10, 3), (121, .aload_n 0, 1), (122, .iload 4, 2), (124, .invokevirtual 173, 3), (127, .ireturn, 1), (128, .aload_n 0, 1), (129, .iload 4, 2), (131, .iload_n 2, 1), (132, .invokevirtual 153, 3), (135, .istore 6, 2), (137, .goto (-68), 3), (140, .aload_n 0, 1), (141, .getfield 63, 3), (144, .iload 4, 2), (146, .aload_n 0, 1), (147, .getfield 63, 3), (150, .iload 4, 2), (152, .iaload, 1), (153, .aload_n 0, 1), (154, .iload_n 2, 1), (155, .ldc 185, 2), (157, .invokevirtual 150, 3), (160, .iconst 1, 1), (161, .iadd, 1), (162, .invokestatic 103, 3), (165, .iastore, 1), (166, .aload_n 0, 1), (167, .getfield 63, 3), (170, .iload 4, 2), (172, .aload_n 0, 1), (173, .getfield 42, 3)]
set_option maxRecDepth 100000 in
theorem D_X5_put_1 : dT cX5_put I_X5_put_1 = true := by decide +kernel
def I_X5_put_2 : List (Nat × Instr × Nat) := [(176, .iload_n 2, 1), (177, .iaload, 1), (178, .iload 4, 2), (180, .if_icmp .ne 13, 3), (183, .aload_n 0, 1), (184, .getfield 63, 3), (187, .iload 4, 2), (189, .iaload, 1), (190, .goto 21, 3), (193, .aload_n 0, 1), (194, .getfield 63, 3), (197, .iload 4, 2), (199, .iaload, 1), (200, .aload_n 0, 1), (201, .getfield 39, 3), (204, .iload_n 2, 1), (205, .iaload, 1), (206, .iconst 1, 1), (207, .iadd, 1), (208, .invokestatic 103, 3), (211, .iastore, 1), (212, .aload_n 0, 1), (213, .getfield 30, 3), (216, .iload_n 2, 1), (217, .iload 4, 2), (219, .iastore, 1), (220, .aload_n 0, 1), (221, .getfield 33, 3), (224, .iload_n 2, 1), (225, .iconst 0, 1), (226, .bastore, 1), (227, .aload_n 0, 1), (228, .getfield 36, 3), (231, .iload_n 2, 1), (232, .iload_n 3, 1), (233, .iastore, 1), (234, .aload_n 0, 1), (235, .getfield 87, 3), (238, .bipush 32, 2), (240, .iload 4, 2), (242, .imul, 1), (243, .iload_n 2, 1), (244, .iadd, 1), (245, .iload_n 3, 1), (246, .iastore, 1), (247, .iconst 0, 1), (248, .ireturn, 1)]
set_option maxRecDepth 100000 in
theorem D_X5_put_2 : dT cX5_put I_X5_put_2 = true := by decide +kernel
def I_X5_counts : List (Nat × Instr × Nat) := [(0, .iconst 0, 1), (1, .istore_n 3, 1), (2, .iconst 0, 1), (3, .istore 4, 2), (5, .iload 4, 2), (7, .bipush 32, 2), (9, .if_icmp .ge 30, 3), (12, .iload_n 3, 1), (13, .aload_n 2, 1), (14, .bipush 32, 2), (16, .iload_n 1, 1), (17, .imul, 1), (18, .iload 4, 2), (20, .iadd, 1), (21, .iaload, 1), (22, .iconst (-1), 1), (23, .if_icmp .eq 7, 3), (26, .iconst 1, 1), (27, .goto 4, 3), (30, .iconst 0, 1), (31, .iadd, 1), (32, .istore_n 3, 1), (33, .iinc 4 1, 3), (36, .goto (-31), 3), (39, .iload_n 3, 1), (40, .ireturn, 1)]
set_option maxRecDepth 100000 in
theorem D_X5_counts : dT cX5_counts I_X5_counts = true := by decide +kernel
def I_X5_isTransaction : List (Nat × Instr × Nat) := [(0, .aload_n 0, 1), (1, .iload_n 1, 1), (2, .iconst 0, 1), (3, .aload_n 0, 1), (4, .getfield 125, 3), (7, .iconst 1, 1), (8, .isub, 1), (9, .invokestatic 96, 3), (12, .ifCond .eq 7, 3), (15, .iconst 0, 1), (16, .goto 4, 3), (19, .iconst 1, 1), (20, .putfield 93, 3), (23, .aload_n 0, 1), (24, .getfield 93, 3), (27, .ifCond .ne 7, 3), (30, .iconst 1, 1), (31, .goto 4, 3), (34, .iconst 0, 1), (35, .ireturn, 1)]
set_option maxRecDepth 100000 in
theorem D_X5_isTransaction : dT cX5_isTransaction I_X5_isTransaction = true := by decide +kernel
def I_X5_commit_0 : List (Nat × Instr × Nat) := [(0, .aload_n 0, 1), (1, .iload_n 1, 1), (2, .invokevirtual 186, 3), (5, .ifCond .ne 5, 3), (8, .iconst 0, 1), (9, .ireturn, 1), (10, .iload_n 1, 1), (11, .istore_n 3, 1), (12, .aload_n 0, 1), (13, .getfield 72, 3), (16, .iload_n 3, 1), (17, .iaload, 1), (18, .ifCond .eq 6, 3), (21, .bipush (-13), 2), (23, .ireturn, 1), (24, .aload_n 0, 1), (25, .getfield 16, 3), (28, .aload_n 0, 1), (29, .getfield 54, 3), (32, .iload_n 3, 1), (33, .iaload, 1), (34, .baload, 1), (35, .istore 4, 2), (37, .iconst 0, 1), (38, .istore 5, 2), (40, .iload 5, 2), (42, .bipush 32, 2), (44, .if_icmp .ge 51, 3), (47, .iload 4, 2), (49, .ifCond .ne 33, 3), (52, .aload_n 0, 1), (53, .getfield 87, 3), (56, .bipush 32, 2), (58, .iload_n 3, 1), (59, .imul, 1), (60, .iload 5, 2), (62, .iadd, 1), (63, .iaload, 1), (64, .iconst (-1), 1), (65, .if_icmp .eq 21, 3), (68, .aload_n 0, 1), (69, .getfield 16, 3), (72, .aload_n 0, 1), (73, .iload 5, 2), (75, .invokevirtual 118, 3), (78, .baload, 1), (79, .ifCond .eq 7, 3), (82, .iconst 1, 1)]
set_option maxRecDepth 100000 in
theorem D_X5_commit_0 : dT cX5_commit I_X5_commit_0 = true := by decide +kernel
def I_X5_commit_1 : List (Nat × Instr × Nat) := [(83, .goto 4, 3), (86, .iconst 0, 1), (87, .istore 4, 2), (89, .iinc 5 1, 3), (92, .goto (-52), 3), (95, .iload 4, 2), (97, .ifCond .eq 6, 3), (100, .bipush (-14), 2), (102, .ireturn, 1), (103, .aload_n 0, 1), (104, .getfield 75, 3), (107, .iload_n 3, 1), (108, .iconst (-1), 1), (109, .iastore, 1), (110, .aload_n 0, 1), (111, .iload_n 3, 1), (112, .aload_n 0, 1), (113, .getfield 87, 3), (116, .invokevirtual 189, 3), (119, .ifCond .le 7, 3), (122, .iconst 1, 1), (123, .goto 4, 3), (126, .iconst 0, 1), (127, .istore 5, 2), (129, .aload_n 0, 1), (130, .getfield 63, 3), (133, .iload_n 3, 1), (134, .iload 5, 2), (136, .ifCond .eq 21, 3), (139, .aload_n 0, 1), (140, .getfield 63, 3), (143, .iload_n 3, 1), (144, .iaload, 1), (145, .aload_n 0, 1), (146, .invokevirtual 111, 3), (149, .iconst 1, 1), (150, .iadd, 1), (151, .invokestatic 103, 3), (154, .goto 9, 3), (157, .aload_n 0, 1), (158, .getfield 63, 3), (161, .iload_n 3, 1), (162, .iaload, 1), (163, .iastore, 1), (164, .aload_n 0, 1), (165, .getfield 63, 3), (168, .iload_n 3, 1), (169, .iaload, 1)]
set_option maxRecDepth 100000 in
theorem D_X5_commit_1 : dT cX5_commit I_X5_commit_1 = true := by decide +kernel
def I_X5_commit_2 : List (Nat × Instr × Nat) := [(170, .aload_n 0, 1), (171, .getfield 60, 3), (174, .iload_n 3, 1), (175, .iaload, 1), (176, .if_icmp .le 41, 3), (179, .aload_n 0, 1), (180, .iload_n 3, 1), (181, .aload_n 0, 1), (182, .getfield 63, 3), (185, .iload_n 3, 1), (186, .iaload, 1), (187, .invokevirtual 176, 3), (190, .ifCond .ne 15, 3), (193, .aload_n 0, 1), (194, .iload_n 3, 1), (195, .aload_n 0, 1), (196, .getfield 63, 3), (199, .iload_n 3, 1), (200, .iaload, 1), (201, .invokevirtual 179, 3), (204, .ireturn, 1), (205, .aload_n 0, 1), (206, .getfield 60, 3), (209, .iload_n 3, 1), (210, .aload_n 0, 1), (211, .getfield 63, 3), (214, .iload_n 3, 1), (215, .iaload, 1), (216, .iastore, 1), (217, .aload_n 0, 1), (218, .iload_n 3, 1), (219, .invokevirtual 138, 3), (222, .ifCond .ne 13, 3), (225, .aload_n 0, 1), (226, .getfield 72, 3), (229, .iload_n 3, 1), (230, .iconst 3, 1), (231, .iastore, 1), (232, .bipush (-13), 2), (234, .ireturn, 1), (235, .iload_n 2, 1), (236, .ifCond .eq 18, 3), (239, .iload 5, 2), (241, .ifCond .eq 13, 3), (244, .aload_n 0, 1), (245, .getfield 72, 3), (248, .iload_n 3, 1), (249, .iconst 1, 1)]
set_option maxRecDepth 100000 in
theorem D_X5_commit_2 : dT cX5_commit I_X5_commit_2 = true := by decide +kernel
def I_X5_commit_3 : List (Nat × Instr × Nat) := [(250, .iastore, 1), (251, .goto 8, 3), (254, .aload_n 0, 1), (255, .iload_n 3, 1), (256, .invokevirtual 142, 3), (259, .iconst 0, 1), (260, .ireturn, 1)]
set_option maxRecDepth 100000 in
theorem D_X5_commit_3 : dT cX5_commit I_X5_commit_3 = true := by decide +kernel
def I_X5_abort : List (Nat × Instr × Nat) := [(0, .aload_n 0, 1), (1, .iload_n 1, 1), (2, .invokevirtual 186, 3), (5, .ifCond .ne 5, 3), (8, .iconst 0, 1), (9, .ireturn, 1), (10, .aload_n 0, 1), (11, .getfield 72, 3), (14, .iload_n 1, 1), (15, .iaload, 1), (16, .ifCond .eq 6, 3), (19, .bipush (-13), 2), (21, .ireturn, 1), (22, .aload_n 0, 1), (23, .getfield 72, 3), (26, .iload_n 1, 1), (27, .iconst 3, 1), (28, .iastore, 1), (29, .iconst 0, 1), (30, .ireturn, 1)]
set_option maxRecDepth 100000 in
theorem D_X5_abort : dT cX5_abort I_X5_abort = true := by decide +kernel
def I_X5_recover : List (Nat × Instr × Nat) := [(0, .aload_n 0, 1), (1, .iload_n 1, 1), (2, .invokevirtual 186, 3), (5, .ifCond .ne 5, 3), (8, .iconst 0, 1), (9, .ireturn, 1), (10, .aload_n 0, 1), (11, .getfield 72, 3), (14, .iload_n 1, 1), (15, .iaload, 1), (16, .iconst 1, 1), (17, .if_icmp .ne 8, 3), (20, .aload_n 0, 1), (21, .iload_n 1, 1), (22, .invokevirtual 144, 3), (25, .aload_n 0, 1), (26, .getfield 72, 3), (29, .iload_n 1, 1), (30, .iaload, 1), (31, .ireturn, 1)]
set_option maxRecDepth 100000 in
theorem D_X5_recover : dT cX5_recover I_X5_recover = true := by decide +kernel
def I_X5_beat : List (Nat × Instr × Nat) := [(0, .aload_n 0, 1), (1, .iload_n 1, 1), (2, .invokevirtual 186, 3), (5, .ifCond .ne 5, 3), (8, .iconst 0, 1), (9, .ireturn, 1), (10, .aload_n 0, 1), (11, .getfield 72, 3), (14, .iload_n 1, 1), (15, .iaload, 1), (16, .ifCond .eq 6, 3), (19, .bipush (-13), 2), (21, .ireturn, 1), (22, .aload_n 0, 1), (23, .getfield 69, 3), (26, .iload_n 1, 1), (27, .aload_n 0, 1), (28, .getfield 100, 3), (31, .iastore, 1), (32, .iconst 0, 1), (33, .ireturn, 1)]
set_option maxRecDepth 100000 in
theorem D_X5_beat : dT cX5_beat I_X5_beat = true := by decide +kernel
def I_X5_told : List (Nat × Instr × Nat) := [(0, .aload_n 0, 1), (1, .iload_n 1, 1), (2, .iconst 0, 1), (3, .aload_n 0, 1), (4, .getfield 125, 3), (7, .iconst 1, 1), (8, .isub, 1), (9, .invokestatic 96, 3), (12, .ifCond .ne 7, 3), (15, .iconst 1, 1), (16, .goto 18, 3), (19, .iload_n 2, 1), (20, .iconst 0, 1), (21, .bipush 6, 2), (23, .invokestatic 96, 3), (26, .ifCond .ne 7, 3), (29, .iconst 2, 1), (30, .goto 4, 3), (33, .iconst 0, 1), (34, .putfield 93, 3), (37, .aload_n 0, 1), (38, .getfield 93, 3), (41, .ifCond .le 5, 3), (44, .iconst 0, 1), (45, .ireturn, 1), (46, .iload_n 1, 1), (47, .istore_n 3, 1), (48, .iload_n 2, 1), (49, .ifCond .ne 12, 3), (52, .aload_n 0, 1), (53, .getfield 72, 3), (56, .iload_n 3, 1), (57, .iaload, 1), (58, .goto 91, 3), (61, .iload_n 2, 1), (62, .iconst 1, 1), (63, .if_icmp .ne 12, 3), (66, .aload_n 0, 1), (67, .getfield 60, 3), (70, .iload_n 3, 1), (71, .iaload, 1), (72, .goto 77, 3), (75, .iload_n 2, 1), (76, .iconst 2, 1), (77, .if_icmp .ne 12, 3), (80, .aload_n 0, 1), (81, .getfield 63, 3), (84, .iload_n 3, 1), (85, .iaload, 1), (86, .goto 63, 3), (89, .iload_n 2, 1), (90, .iconst 3, 1), (91, .if_icmp .ne 11, 3), (94, .aload_n 0, 1), (95, .iload_n 3, 1), (96, .invokevirtual 160, 3), (99, .goto 50, 3), (102, .iload_n 2, 1), (103, .iconst 4, 1), (104, .if_icmp .ne 15, 3), (107, .aload_n 0, 1), (108, .iload_n 3, 1), (109, .aload_n 0, 1), (110, .getfield 84, 3), (113, .invokevirtual 189, 3), (116, .goto 33, 3), (119, .iload_n 2, 1), (120, .iconst 5, 1), (121, .if_icmp .ne 15, 3), (124, .aload_n 0, 1), (125, .iload_n 3, 1), (126, .aload_n 0, 1), (127, .getfield 87, 3), (130, .invokevirtual 189, 3), (133, .goto 16, 3), (136, .aload_n 0, 1), (137, .iload_n 3, 1), (138, .invokevirtual 147, 3), (141, .ifCond .eq 7, 3), (144, .iconst 1, 1), (145, .goto 4, 3), (148, .iconst 0, 1), (149, .ireturn, 1)]
set_option maxRecDepth 100000 in
theorem D_X5_told : dT cX5_told I_X5_told = true := by decide +kernel
def I_X5_key : List (Nat × Instr × Nat) := [(0, .aload_n 0, 1), (1, .iload_n 1, 1), (2, .iconst 0, 1), (3, .bipush 31, 2), (5, .invokestatic 96, 3), (8, .ifCond .ne 7, 3), (11, .iconst 1, 1), (12, .goto 18, 3), (15, .iload_n 2, 1), (16, .iconst 0, 1), (17, .bipush 6, 2), (19, .invokestatic 96, 3), (22, .ifCond .ne 7, 3), (25, .iconst 2, 1), (26, .goto 4, 3), (29, .iconst 0, 1), (30, .putfield 93, 3), (33, .aload_n 0, 1), (34, .getfield 93, 3), (37, .ifCond .le 5, 3), (40, .iconst 0, 1), (41, .ireturn, 1), (42, .iconst 0, 1), (43, .istore_n 3, 1), (44, .iconst 0, 1), (45, .istore 4, 2), (47, .iload 4, 2), (49, .aload_n 0, 1), (50, .getfield 135, 3), (53, .if_icmp .ge 28, 3), (56, .iload_n 3, 1), (57, .aload_n 0, 1), (58, .getfield 45, 3), (61, .iload 4, 2), (63, .iaload, 1), (64, .iload_n 1, 1), (65, .if_icmp .ne 7, 3), (68, .iconst 1, 1), (69, .goto 4, 3), (72, .iconst 0, 1), (73, .iadd, 1), (74, .istore_n 3, 1), (75, .iinc 4 1, 3), (78, .goto (-31), 3), (81, .iload_n 2, 1), (82, .ifCond .ne 7, 3), (85, .iload_n 3, 1), (86, .goto 95, 3), (89, .iload_n 2, 1), (90, .iconst 1, 1), (91, .if_icmp .ne 12, 3), (94, .aload_n 0, 1), (95, .getfield 30, 3), (98, .iload_n 1, 1), (99, .iaload, 1), (100, .goto 81, 3), (103, .iload_n 2, 1), (104, .iconst 2, 1), (105, .if_icmp .ne 12, 3), (108, .aload_n 0, 1), (109, .getfield 39, 3), (112, .iload_n 1, 1), (113, .iaload, 1), (114, .goto 67, 3), (117, .iload_n 2, 1), (118, .iconst 3, 1), (119, .if_icmp .ne 12, 3), (122, .aload_n 0, 1), (123, .getfield 42, 3), (126, .iload_n 1, 1), (127, .iaload, 1), (128, .goto 53, 3), (131, .iload_n 2, 1), (132, .iconst 4, 1), (133, .if_icmp .ne 11, 3), (136, .aload_n 0, 1), (137, .iload_n 1, 1), (138, .invokevirtual 115, 3), (141, .goto 40, 3), (144, .iload_n 2, 1), (145, .iconst 5, 1), (146, .if_icmp .ne 11, 3), (149, .aload_n 0, 1), (150, .iload_n 1, 1), (151, .invokevirtual 118, 3), (154, .goto 27, 3), (157, .aload_n 0, 1), (158, .getfield 30, 3), (161, .iload_n 1, 1), (162, .iaload, 1), (163, .iconst (-1), 1), (164, .if_icmp .eq 16, 3), (167, .aload_n 0, 1), (168, .getfield 33, 3), (171, .iload_n 1, 1), (172, .baload, 1), (173, .ifCond .eq 7, 3), (176, .iconst 1, 1), (177, .goto 4, 3), (180, .iconst 0, 1), (181, .ireturn, 1)]
set_option maxRecDepth 100000 in
theorem D_X5_key : dT cX5_key I_X5_key = true := by decide +kernel
def I_X5_asOf : List (Nat × Instr × Nat) := [(0, .aload_n 0, 1), (1, .iload_n 1, 1), (2, .iconst 0, 1), (3, .bipush 31, 2), (5, .invokestatic 96, 3), (8, .ifCond .ne 7, 3), (11, .iconst 1, 1), (12, .goto 20, 3), (15, .iload_n 2, 1), (16, .iconst 0, 1), (17, .aload_n 0, 1), (18, .invokevirtual 111, 3), (21, .invokestatic 96, 3), (24, .ifCond .ne 7, 3), (27, .iconst 2, 1), (28, .goto 4, 3), (31, .iconst 0, 1), (32, .putfield 93, 3), (35, .aload_n 0, 1), (36, .getfield 93, 3), (39, .ifCond .le 5, 3), (42, .iconst 0, 1), (43, .ireturn, 1), (44, .aload_n 0, 1), (45, .getfield 30, 3), (48, .iload_n 1, 1), (49, .iaload, 1), (50, .istore_n 3, 1), (51, .iload_n 3, 1), (52, .iconst (-1), 1), (53, .if_icmp .eq 28, 3), (56, .aload_n 0, 1), (57, .getfield 72, 3), (60, .iload_n 3, 1), (61, .iaload, 1), (62, .iconst 1, 1), (63, .if_icmp .ne 18, 3), (66, .aload_n 0, 1), (67, .getfield 63, 3), (70, .iload_n 3, 1), (71, .iaload, 1), (72, .iload_n 2, 1), (73, .if_icmp .gt 8, 3), (76, .bipush (-11), 2), (78, .goto 9, 3), (81, .aload_n 0, 1), (82, .iload_n 1, 1), (83, .iload_n 2, 1), (84, .invokevirtual 182, 3), (87, .ireturn, 1)]
set_option maxRecDepth 100000 in
theorem D_X5_asOf : dT cX5_asOf I_X5_asOf = true := by decide +kernel
def I_X5_resolvedNow : List (Nat × Instr × Nat) := [(0, .aload_n 0, 1), (1, .invokevirtual 111, 3), (4, .istore_n 1, 1), (5, .iconst 0, 1), (6, .istore_n 2, 1), (7, .iload_n 2, 1), (8, .aload_n 0, 1), (9, .getfield 125, 3), (12, .if_icmp .ge 44, 3), (15, .aload_n 0, 1), (16, .getfield 72, 3), (19, .iload_n 2, 1), (20, .iaload, 1), (21, .iconst 1, 1), (22, .if_icmp .ne 26, 3), (25, .aload_n 0, 1), (26, .getfield 63, 3), (29, .iload_n 2, 1), (30, .iaload, 1), (31, .iconst 1, 1), (32, .isub, 1), (33, .iload_n 1, 1), (34, .if_icmp .ge 14, 3), (37, .aload_n 0, 1), (38, .getfield 63, 3), (41, .iload_n 2, 1), (42, .iaload, 1), (43, .iconst 1, 1), (44, .isub, 1), (45, .goto 4, 3), (48, .iload_n 1, 1), (49, .istore_n 1, 1), (50, .iinc 2 1, 3), (53, .goto (-46), 3), (56, .iload_n 1, 1), (57, .ireturn, 1)]
set_option maxRecDepth 100000 in
theorem D_X5_resolvedNow : dT cX5_resolvedNow I_X5_resolvedNow = true := by decide +kernel
def I_X5_resolved : List (Nat × Instr × Nat) := [(0, .aload_n 0, 1), (1, .iconst 0, 1), (2, .putfield 93, 3), (5, .aload_n 0, 1), (6, .invokevirtual 193, 3), (9, .ireturn, 1)]
set_option maxRecDepth 100000 in
theorem D_X5_resolved : dT cX5_resolved I_X5_resolved = true := by decide +kernel
def I_X5_feed : List (Nat × Instr × Nat) := [(0, .aload_n 0, 1), (1, .iload_n 1, 1), (2, .ifCond .ge 7, 3), (5, .iconst 1, 1), (6, .goto 4, 3), (9, .iconst 0, 1), (10, .putfield 93, 3), (13, .iconst (-1), 1), (14, .istore_n 2, 1), (15, .aload_n 0, 1), (16, .invokevirtual 193, 3), (19, .istore_n 3, 1), (20, .iconst 0, 1), (21, .istore 4, 2), (23, .iload 4, 2), (25, .iload_n 1, 1), (26, .if_icmp .gt 107, 3), (29, .aload_n 0, 1), (30, .getfield 93, 3), (33, .ifCond .ne 100, 3), (36, .iconst (-1), 1), (37, .istore 5, 2), (39, .iconst 0, 1), (40, .istore 6, 2), (42, .iload 6, 2), (44, .aload_n 0, 1), (45, .getfield 135, 3), (48, .if_icmp .ge 68, 3), (51, .bipush 32, 2), (53, .aload_n 0, 1), (54, .getfield 48, 3), (57, .iload 6, 2), (59, .iaload, 1), (60, .imul, 1), (61, .aload_n 0, 1), (62, .getfield 45, 3), (65, .iload 6, 2), (67, .iaload, 1), (68, .iadd, 1), (69, .istore 7, 2), (71, .aload_n 0, 1), (72, .getfield 48, 3), (75, .iload 6, 2), (77, .iaload, 1), (78, .iload_n 3, 1), (79, .if_icmp .gt 27, 3), (82, .iload 7, 2), (84, .iload_n 2, 1), (85, .if_icmp .le 21, 3), (88, .iload 5, 2), (90, .iconst (-1), 1), (91, .if_icmp .eq 10, 3), (94, .iload 7, 2), (96, .iload 5, 2), (98, .if_icmp .ge 8, 3), (101, .iload 7, 2), (103, .goto 5, 3), (106, .iload 5, 2), (108, .istore 5, 2), (110, .iinc 6 1, 3), (113, .goto (-71), 3), (116, .iload 5, 2), (118, .iconst (-1), 1), (119, .if_icmp .ne 5, 3), (122, .iconst (-1), 1), (123, .ireturn, 1), (124, .iload 5, 2), (126, .istore_n 2, 1), (127, .iinc 4 1, 3), (130, .goto (-107), 3), (133, .aload_n 0, 1), (134, .getfield 93, 3), (137, .ifCond .ne 7, 3), (140, .iload_n 2, 1), (141, .goto 4, 3), (144, .iconst 0, 1), (145, .ireturn, 1)]
set_option maxRecDepth 100000 in
theorem D_X5_feed : dT cX5_feed I_X5_feed = true := by decide +kernel
def I_X5_isAhead : List (Nat × Instr × Nat) := [(0, .aload_n 0, 1), (1, .getfield 63, 3), (4, .iload_n 1, 1), (5, .iaload, 1), (6, .aload_n 0, 1), (7, .getfield 63, 3), (10, .iload_n 2, 1), (11, .iaload, 1), (12, .if_icmp .lt 33, 3), (15, .aload_n 0, 1), (16, .getfield 63, 3), (19, .iload_n 1, 1), (20, .iaload, 1), (21, .aload_n 0, 1), (22, .getfield 63, 3), (25, .iload_n 2, 1), (26, .iaload, 1), (27, .if_icmp .ne 22, 3), (30, .aload_n 0, 1), (31, .getfield 78, 3), (34, .iload_n 1, 1), (35, .iaload, 1), (36, .aload_n 0, 1), (37, .getfield 78, 3), (40, .iload_n 2, 1), (41, .iaload, 1), (42, .if_icmp .ge 7, 3), (45, .iconst 1, 1), (46, .goto 4, 3), (49, .iconst 0, 1), (50, .ireturn, 1)]
set_option maxRecDepth 100000 in
theorem D_X5_isAhead : dT cX5_isAhead I_X5_isAhead = true := by decide +kernel
def I_X5_next : List (Nat × Instr × Nat) := [(0, .iconst (-1), 1), (1, .istore_n 2, 1), (2, .iconst 0, 1), (3, .istore_n 3, 1), (4, .iload_n 3, 1), (5, .aload_n 0, 1), (6, .getfield 125, 3), (9, .if_icmp .ge 65, 3), (12, .iload_n 1, 1), (13, .iconst (-1), 1), (14, .if_icmp .eq 12, 3), (17, .aload_n 0, 1), (18, .iload_n 1, 1), (19, .iload_n 3, 1), (20, .invokevirtual 196, 3), (23, .ifCond .eq 7, 3), (26, .iconst 1, 1), (27, .goto 4, 3), (30, .iconst 0, 1), (31, .istore 4, 2), (33, .aload_n 0, 1), (34, .getfield 72, 3), (37, .iload_n 3, 1), (38, .iaload, 1), (39, .iconst 2, 1), (40, .if_icmp .ne 26, 3), (43, .iload 4, 2), (45, .ifCond .eq 21, 3), (48, .iload_n 2, 1), (49, .iconst (-1), 1), (50, .if_icmp .eq 12, 3), (53, .aload_n 0, 1), (54, .iload_n 3, 1), (55, .iload_n 2, 1), (56, .invokevirtual 196, 3), (59, .ifCond .eq 7, 3), (62, .iload_n 3, 1), (63, .goto 4, 3), (66, .iload_n 2, 1), (67, .istore_n 2, 1), (68, .iinc 3 1, 3), (71, .goto (-67), 3), (74, .iload_n 2, 1), (75, .ireturn, 1)]
set_option maxRecDepth 100000 in
theorem D_X5_next : dT cX5_next I_X5_next = true := by decide +kernel
def I_X5_order : List (Nat × Instr × Nat) := [(0, .aload_n 0, 1), (1, .iload_n 1, 1), (2, .ifCond .ge 7, 3), (5, .iconst 1, 1), (6, .goto 4, 3), (9, .iconst 0, 1), (10, .putfield 93, 3), (13, .aload_n 0, 1), (14, .getfield 93, 3), (17, .ifCond .ne 11, 3), (20, .aload_n 0, 1), (21, .iconst (-1), 1), (22, .invokevirtual 199, 3), (25, .goto 4, 3), (28, .iconst (-1), 1), (29, .istore_n 2, 1), (30, .iconst 0, 1), (31, .istore_n 3, 1), (32, .iload_n 3, 1), (33, .iload_n 1, 1), (34, .if_icmp .ge 20, 3), (37, .iload_n 2, 1), (38, .iconst (-1), 1), (39, .if_icmp .eq 15, 3), (42, .aload_n 0, 1), (43, .iload_n 2, 1), (44, .invokevirtual 199, 3), (47, .istore_n 2, 1), (48, .iinc 3 1, 3), (51, .goto (-19), 3), (54, .aload_n 0, 1), (55, .getfield 93, 3), (58, .ifCond .ne 7, 3), (61, .iload_n 2, 1), (62, .goto 4, 3), (65, .iconst 0, 1), (66, .ireturn, 1)]
set_option maxRecDepth 100000 in
theorem D_X5_order : dT cX5_order I_X5_order = true := by decide +kernel
def I_X5_judged : List (Nat × Instr × Nat) := [(0, .aload_n 0, 1), (1, .iconst 0, 1), (2, .putfield 93, 3), (5, .iconst 0, 1), (6, .istore_n 1, 1), (7, .iload_n 1, 1), (8, .bipush 32, 2), (10, .if_icmp .ge 18, 3), (13, .aload_n 0, 1), (14, .getfield 90, 3), (17, .iload_n 1, 1), (18, .sipush 1000, 3), (21, .iastore, 1), (22, .iinc 1 1, 3), (25, .goto (-18), 3), (28, .iconst 0, 1), (29, .istore_n 1, 1), (30, .aload_n 0, 1), (31, .iconst (-1), 1), (32, .invokevirtual 199, 3), (35, .istore_n 2, 1), (36, .iload_n 2, 1), (37, .iconst (-1), 1), (38, .if_icmp .eq 124, 3), (41, .iconst 0, 1), (42, .istore_n 3, 1), (43, .iload_n 3, 1), (44, .bipush 32, 2), (46, .if_icmp .ge 52, 3), (49, .iload_n 1, 1), (50, .aload_n 0, 1), (51, .getfield 84, 3), (54, .bipush 32, 2), (56, .iload_n 2, 1), (57, .imul, 1), (58, .iload_n 3, 1), (59, .iadd, 1), (60, .iaload, 1), (61, .iconst (-1), 1), (62, .if_icmp .eq 27, 3), (65, .aload_n 0, 1), (66, .getfield 84, 3), (69, .bipush 32, 2), (71, .iload_n 2, 1), (72, .imul, 1), (73, .iload_n 3, 1), (74, .iadd, 1), (75, .iaload, 1), (76, .aload_n 0, 1), (77, .getfield 90, 3), (80, .iload_n 3, 1), (81, .iaload, 1), (82, .if_icmp .eq 7, 3), (85, .iconst 1, 1), (86, .goto 4, 3), (89, .iconst 0, 1), (90, .iadd, 1), (91, .istore_n 1, 1), (92, .iinc 3 1, 3), (95, .goto (-52), 3), (98, .iconst 0, 1), (99, .istore_n 3, 1), (100, .iload_n 3, 1), (101, .bipush 32, 2), (103, .if_icmp .ge 50, 3), (106, .aload_n 0, 1), (107, .getfield 90, 3), (110, .iload_n 3, 1), (111, .aload_n 0, 1), (112, .getfield 87, 3), (115, .bipush 32, 2), (117, .iload_n 2, 1), (118, .imul, 1), (119, .iload_n 3, 1), (120, .iadd, 1), (121, .iaload, 1), (122, .iconst (-1), 1), (123, .if_icmp .eq 17, 3), (126, .aload_n 0, 1), (127, .getfield 87, 3), (130, .bipush 32, 2), (132, .iload_n 2, 1), (133, .imul, 1), (134, .iload_n 3, 1), (135, .iadd, 1), (136, .iaload, 1), (137, .goto 9, 3), (140, .aload_n 0, 1), (141, .getfield 90, 3), (144, .iload_n 3, 1), (145, .iaload, 1), (146, .iastore, 1), (147, .iinc 3 1, 3), (150, .goto (-50), 3), (153, .aload_n 0, 1), (154, .iload_n 2, 1), (155, .invokevirtual 199, 3), (158, .istore_n 2, 1), (159, .goto (-123), 3), (162, .iload_n 1, 1), (163, .ireturn, 1)]
set_option maxRecDepth 100000 in
theorem D_X5_judged : dT cX5_judged I_X5_judged = true := by decide +kernel
def I_J9_max_7cf53 : List (Nat × Instr × Nat) := [(0, .iload_n 0, 1), (1, .iload_n 1, 1), (2, .if_icmp .lt 7, 3), (5, .iload_n 0, 1), (6, .goto 4, 3), (9, .iload_n 1, 1), (10, .ireturn, 1)]
set_option maxRecDepth 100000 in
theorem D_J9_max_7cf53 : dT cJ9_max_7cf53 I_J9_max_7cf53 = true := by decide +kernel
def I_J9_min_7cf53 : List (Nat × Instr × Nat) := [(0, .iload_n 0, 1), (1, .iload_n 1, 1), (2, .if_icmp .gt 7, 3), (5, .iload_n 0, 1), (6, .goto 4, 3), (9, .iload_n 1, 1), (10, .ireturn, 1)]
set_option maxRecDepth 100000 in
theorem D_J9_min_7cf53 : dT cJ9_min_7cf53 I_J9_min_7cf53 = true := by decide +kernel
def I_L_pass : List (Nat × Instr × Nat) := [(0, .aload_n 2, 1), (1, .iconst 0, 1), (2, .aload_n 0, 1), (3, .iload_n 1, 1), (4, .invokevirtual 7, 3), (7, .i2l, 1), (8, .lastore, 1), (9, .goto 9, 3), (12, .astore_n 3, 1), (13, .iconst 1, 1), (14, .ireturn, 1), (15, .astore_n 3, 1), (16, .iconst 2, 1), (17, .ireturn, 1), (18, .iconst 0, 1), (19, .ireturn, 1)]
set_option maxRecDepth 100000 in
theorem D_L_pass : dT cL_pass I_L_pass = true := by decide +kernel
def I_L_skew : List (Nat × Instr × Nat) := [(0, .aload_n 3, 1), (1, .iconst 0, 1), (2, .aload_n 0, 1), (3, .iload_n 1, 1), (4, .iload_n 2, 1), (5, .invokevirtual 17, 3), (8, .i2l, 1), (9, .lastore, 1), (10, .goto 11, 3), (13, .astore 4, 2), (15, .iconst 1, 1), (16, .ireturn, 1), (17, .astore 4, 2), (19, .iconst 2, 1), (20, .ireturn, 1), (21, .iconst 0, 1), (22, .ireturn, 1)]
set_option maxRecDepth 100000 in
theorem D_L_skew : dT cL_skew I_L_skew = true := by decide +kernel
def I_L_clock : List (Nat × Instr × Nat) := [(0, .aload_n 2, 1), (1, .iconst 0, 1), (2, .aload_n 0, 1), (3, .iload_n 1, 1), (4, .invokevirtual 23, 3), (7, .i2l, 1), (8, .lastore, 1), (9, .goto 9, 3), (12, .astore_n 3, 1), (13, .iconst 1, 1), (14, .ireturn, 1), (15, .astore_n 3, 1), (16, .iconst 2, 1), (17, .ireturn, 1), (18, .iconst 0, 1), (19, .ireturn, 1)]
set_option maxRecDepth 100000 in
theorem D_L_clock : dT cL_clock I_L_clock = true := by decide +kernel
def I_L_down : List (Nat × Instr × Nat) := [(0, .aload_n 2, 1), (1, .iconst 0, 1), (2, .aload_n 0, 1), (3, .iload_n 1, 1), (4, .invokevirtual 26, 3), (7, .i2l, 1), (8, .lastore, 1), (9, .goto 9, 3), (12, .astore_n 3, 1), (13, .iconst 1, 1), (14, .ireturn, 1), (15, .astore_n 3, 1), (16, .iconst 2, 1), (17, .ireturn, 1), (18, .iconst 0, 1), (19, .ireturn, 1)]
set_option maxRecDepth 100000 in
theorem D_L_down : dT cL_down I_L_down = true := by decide +kernel
def I_L_up : List (Nat × Instr × Nat) := [(0, .aload_n 2, 1), (1, .iconst 0, 1), (2, .aload_n 0, 1), (3, .iload_n 1, 1), (4, .invokevirtual 29, 3), (7, .i2l, 1), (8, .lastore, 1), (9, .goto 9, 3), (12, .astore_n 3, 1), (13, .iconst 1, 1), (14, .ireturn, 1), (15, .astore_n 3, 1), (16, .iconst 2, 1), (17, .ireturn, 1), (18, .iconst 0, 1), (19, .ireturn, 1)]
set_option maxRecDepth 100000 in
theorem D_L_up : dT cL_up I_L_up = true := by decide +kernel
def I_L_sync : List (Nat × Instr × Nat) := [(0, .aload_n 2, 1), (1, .iconst 0, 1), (2, .aload_n 0, 1), (3, .iload_n 1, 1), (4, .invokevirtual 32, 3), (7, .i2l, 1), (8, .lastore, 1), (9, .goto 9, 3), (12, .astore_n 3, 1), (13, .iconst 1, 1), (14, .ireturn, 1), (15, .astore_n 3, 1), (16, .iconst 2, 1), (17, .ireturn, 1), (18, .iconst 0, 1), (19, .ireturn, 1)]
set_option maxRecDepth 100000 in
theorem D_L_sync : dT cL_sync I_L_sync = true := by decide +kernel
def I_L_split : List (Nat × Instr × Nat) := [(0, .aload_n 2, 1), (1, .iconst 0, 1), (2, .aload_n 0, 1), (3, .iload_n 1, 1), (4, .invokevirtual 35, 3), (7, .i2l, 1), (8, .lastore, 1), (9, .goto 9, 3), (12, .astore_n 3, 1), (13, .iconst 1, 1), (14, .ireturn, 1), (15, .astore_n 3, 1), (16, .iconst 2, 1), (17, .ireturn, 1), (18, .iconst 0, 1), (19, .ireturn, 1)]
set_option maxRecDepth 100000 in
theorem D_L_split : dT cL_split I_L_split = true := by decide +kernel
def I_L_merge : List (Nat × Instr × Nat) := [(0, .aload_n 2, 1), (1, .iconst 0, 1), (2, .aload_n 0, 1), (3, .iload_n 1, 1), (4, .invokevirtual 38, 3), (7, .i2l, 1), (8, .lastore, 1), (9, .goto 9, 3), (12, .astore_n 3, 1), (13, .iconst 1, 1), (14, .ireturn, 1), (15, .astore_n 3, 1), (16, .iconst 2, 1), (17, .ireturn, 1), (18, .iconst 0, 1), (19, .ireturn, 1)]
set_option maxRecDepth 100000 in
theorem D_L_merge : dT cL_merge I_L_merge = true := by decide +kernel
def I_L_move : List (Nat × Instr × Nat) := [(0, .aload_n 3, 1), (1, .iconst 0, 1), (2, .aload_n 0, 1), (3, .iload_n 1, 1), (4, .iload_n 2, 1), (5, .invokevirtual 41, 3), (8, .i2l, 1), (9, .lastore, 1), (10, .goto 11, 3), (13, .astore 4, 2), (15, .iconst 1, 1), (16, .ireturn, 1), (17, .astore 4, 2), (19, .iconst 2, 1), (20, .ireturn, 1), (21, .iconst 0, 1), (22, .ireturn, 1)]
set_option maxRecDepth 100000 in
theorem D_L_move : dT cL_move I_L_move = true := by decide +kernel
def I_L_begin : List (Nat × Instr × Nat) := [(0, .aload_n 3, 1), (1, .iconst 0, 1), (2, .aload_n 0, 1), (3, .iload_n 1, 1), (4, .iload_n 2, 1), (5, .invokevirtual 44, 3), (8, .i2l, 1), (9, .lastore, 1), (10, .goto 15, 3), (13, .astore 4, 2), (15, .iconst 1, 1), (16, .ireturn, 1), (17, .astore 4, 2), (19, .iconst 2, 1), (20, .ireturn, 1), (21, .astore 4, 2), (23, .iconst 3, 1), (24, .ireturn, 1), (25, .iconst 0, 1), (26, .ireturn, 1)]
set_option maxRecDepth 100000 in
theorem D_L_begin : dT cL_begin I_L_begin = true := by decide +kernel
def I_L_get : List (Nat × Instr × Nat) := [(0, .aload_n 3, 1), (1, .iconst 0, 1), (2, .aload_n 0, 1), (3, .iload_n 1, 1), (4, .iload_n 2, 1), (5, .invokevirtual 47, 3), (8, .i2l, 1), (9, .lastore, 1), (10, .goto 7, 3), (13, .astore 4, 2), (15, .iconst 1, 1), (16, .ireturn, 1), (17, .iconst 0, 1), (18, .ireturn, 1)]
set_option maxRecDepth 100000 in
theorem D_L_get : dT cL_get I_L_get = true := by decide +kernel
def I_L_put : List (Nat × Instr × Nat) := [(0, .aload 4, 2), (2, .iconst 0, 1), (3, .aload_n 0, 1), (4, .iload_n 1, 1), (5, .iload_n 2, 1), (6, .iload_n 3, 1), (7, .invokevirtual 50, 3), (10, .i2l, 1), (11, .lastore, 1), (12, .goto 11, 3), (15, .astore 5, 2), (17, .iconst 1, 1), (18, .ireturn, 1), (19, .astore 5, 2), (21, .iconst 2, 1), (22, .ireturn, 1), (23, .iconst 0, 1), (24, .ireturn, 1)]
set_option maxRecDepth 100000 in
theorem D_L_put : dT cL_put I_L_put = true := by decide +kernel
def I_L_commit : List (Nat × Instr × Nat) := [(0, .aload_n 3, 1), (1, .iconst 0, 1), (2, .aload_n 0, 1), (3, .iload_n 1, 1), (4, .iload_n 2, 1), (5, .invokevirtual 54, 3), (8, .i2l, 1), (9, .lastore, 1), (10, .goto 7, 3), (13, .astore 4, 2), (15, .iconst 1, 1), (16, .ireturn, 1), (17, .iconst 0, 1), (18, .ireturn, 1)]
set_option maxRecDepth 100000 in
theorem D_L_commit : dT cL_commit I_L_commit = true := by decide +kernel
def I_L_abort : List (Nat × Instr × Nat) := [(0, .aload_n 2, 1), (1, .iconst 0, 1), (2, .aload_n 0, 1), (3, .iload_n 1, 1), (4, .invokevirtual 58, 3), (7, .i2l, 1), (8, .lastore, 1), (9, .goto 6, 3), (12, .astore_n 3, 1), (13, .iconst 1, 1), (14, .ireturn, 1), (15, .iconst 0, 1), (16, .ireturn, 1)]
set_option maxRecDepth 100000 in
theorem D_L_abort : dT cL_abort I_L_abort = true := by decide +kernel
def I_L_recover : List (Nat × Instr × Nat) := [(0, .aload_n 2, 1), (1, .iconst 0, 1), (2, .aload_n 0, 1), (3, .iload_n 1, 1), (4, .invokevirtual 61, 3), (7, .i2l, 1), (8, .lastore, 1), (9, .goto 6, 3), (12, .astore_n 3, 1), (13, .iconst 1, 1), (14, .ireturn, 1), (15, .iconst 0, 1), (16, .ireturn, 1)]
set_option maxRecDepth 100000 in
theorem D_L_recover : dT cL_recover I_L_recover = true := by decide +kernel
def I_L_beat : List (Nat × Instr × Nat) := [(0, .aload_n 2, 1), (1, .iconst 0, 1), (2, .aload_n 0, 1), (3, .iload_n 1, 1), (4, .invokevirtual 64, 3), (7, .i2l, 1), (8, .lastore, 1), (9, .goto 6, 3), (12, .astore_n 3, 1), (13, .iconst 1, 1), (14, .ireturn, 1), (15, .iconst 0, 1), (16, .ireturn, 1)]
set_option maxRecDepth 100000 in
theorem D_L_beat : dT cL_beat I_L_beat = true := by decide +kernel
def I_L_told : List (Nat × Instr × Nat) := [(0, .aload_n 3, 1), (1, .iconst 0, 1), (2, .aload_n 0, 1), (3, .iload_n 1, 1), (4, .iload_n 2, 1), (5, .invokevirtual 67, 3), (8, .i2l, 1), (9, .lastore, 1), (10, .goto 11, 3), (13, .astore 4, 2), (15, .iconst 1, 1), (16, .ireturn, 1), (17, .astore 4, 2), (19, .iconst 2, 1), (20, .ireturn, 1), (21, .iconst 0, 1), (22, .ireturn, 1)]
set_option maxRecDepth 100000 in
theorem D_L_told : dT cL_told I_L_told = true := by decide +kernel
def I_L_key : List (Nat × Instr × Nat) := [(0, .aload_n 3, 1), (1, .iconst 0, 1), (2, .aload_n 0, 1), (3, .iload_n 1, 1), (4, .iload_n 2, 1), (5, .invokevirtual 70, 3), (8, .i2l, 1), (9, .lastore, 1), (10, .goto 11, 3), (13, .astore 4, 2), (15, .iconst 1, 1), (16, .ireturn, 1), (17, .astore 4, 2), (19, .iconst 2, 1), (20, .ireturn, 1), (21, .iconst 0, 1), (22, .ireturn, 1)]
set_option maxRecDepth 100000 in
theorem D_L_key : dT cL_key I_L_key = true := by decide +kernel
def I_L_asOf : List (Nat × Instr × Nat) := [(0, .aload_n 3, 1), (1, .iconst 0, 1), (2, .aload_n 0, 1), (3, .iload_n 1, 1), (4, .iload_n 2, 1), (5, .invokevirtual 73, 3), (8, .i2l, 1), (9, .lastore, 1), (10, .goto 11, 3), (13, .astore 4, 2), (15, .iconst 1, 1), (16, .ireturn, 1), (17, .astore 4, 2), (19, .iconst 2, 1), (20, .ireturn, 1), (21, .iconst 0, 1), (22, .ireturn, 1)]
set_option maxRecDepth 100000 in
theorem D_L_asOf : dT cL_asOf I_L_asOf = true := by decide +kernel
def I_L_feed : List (Nat × Instr × Nat) := [(0, .aload_n 2, 1), (1, .iconst 0, 1), (2, .aload_n 0, 1), (3, .iload_n 1, 1), (4, .invokevirtual 76, 3), (7, .i2l, 1), (8, .lastore, 1), (9, .goto 6, 3), (12, .astore_n 3, 1), (13, .iconst 1, 1), (14, .ireturn, 1), (15, .iconst 0, 1), (16, .ireturn, 1)]
set_option maxRecDepth 100000 in
theorem D_L_feed : dT cL_feed I_L_feed = true := by decide +kernel
def I_L_order : List (Nat × Instr × Nat) := [(0, .aload_n 2, 1), (1, .iconst 0, 1), (2, .aload_n 0, 1), (3, .iload_n 1, 1), (4, .invokevirtual 79, 3), (7, .i2l, 1), (8, .lastore, 1), (9, .goto 6, 3), (12, .astore_n 3, 1), (13, .iconst 1, 1), (14, .ireturn, 1), (15, .iconst 0, 1), (16, .ireturn, 1)]
set_option maxRecDepth 100000 in
theorem D_L_order : dT cL_order I_L_order = true := by decide +kernel
def I_L_law_0 : List (Nat × Instr × Nat) := [(0, .new 8, 3), (3, .dup, 1), (4, .invokespecial 82, 3), (7, .astore_n 1, 1), (8, .new 83, 3), (11, .dup, 1), (12, .invokespecial 85, 3), (15, .astore_n 2, 1), (16, .iconst 1, 1), (17, .newarray .long, 2), (19, .astore_n 3, 1), (20, .iconst 0, 1), (21, .istore 4, 2), (23, .iload 4, 2), (25, .aload_n 0, 1), (26, .arraylength, 1), (27, .iconst 4, 1), (28, .isub, 1), (29, .if_icmp .gt 1476, 3), (32, .aload_n 0, 1), (33, .iload 4, 2), (35, .iaload, 1), (36, .bipush 31, 2), (38, .iand, 1), (39, .tableswitch 1460 0 23 #[109, 165, 233, 289, 302, 358, 414, 470, 526, 582, 650, 718, 786, 866, 950, 1006, 1062, 1118, 1186, 1254, 1322, 1335, 1391, 1447], 109), (148, .aload_n 1, 1), (149, .aload_n 0, 1), (150, .iload 4, 2), (152, .iconst 1, 1), (153, .iadd, 1), (154, .iaload, 1), (155, .aload_n 3, 1), (156, .invokestatic 86, 3), (159, .istore 5, 2), (161, .aload_n 2, 1), (162, .aload_n 0, 1), (163, .iload 4, 2), (165, .iconst 1, 1), (166, .iadd, 1), (167, .iaload, 1), (168, .invokevirtual 91, 3), (171, .istore 6, 2), (173, .aload_n 2, 1), (174, .invokevirtual 92, 3), (177, .iload 5, 2), (179, .if_icmp .eq 5, 3), (182, .iconst 0, 1), (183, .ireturn, 1)]
set_option maxRecDepth 100000 in
theorem D_L_law_0 : dT cL_law I_L_law_0 = true := by decide +kernel
def I_L_law_1 : List (Nat × Instr × Nat) := [(184, .iload 5, 2), (186, .ifCond .ne 15, 3), (189, .aload_n 3, 1), (190, .iconst 0, 1), (191, .laload, 1), (192, .iload 6, 2), (194, .i2l, 1), (195, .lcmp, 1), (196, .ifCond .eq 5, 3), (199, .iconst 0, 1), (200, .ireturn, 1), (201, .goto 1298, 3), (204, .aload_n 1, 1), (205, .aload_n 0, 1), (206, .iload 4, 2), (208, .iconst 1, 1), (209, .iadd, 1), (210, .iaload, 1), (211, .aload_n 0, 1), (212, .iload 4, 2), (214, .iconst 2, 1), (215, .iadd, 1), (216, .iaload, 1), (217, .aload_n 3, 1), (218, .invokestatic 96, 3), (221, .istore 5, 2), (223, .aload_n 2, 1), (224, .aload_n 0, 1), (225, .iload 4, 2), (227, .iconst 1, 1), (228, .iadd, 1), (229, .iaload, 1), (230, .aload_n 0, 1), (231, .iload 4, 2), (233, .iconst 2, 1), (234, .iadd, 1), (235, .iaload, 1), (236, .invokevirtual 99, 3), (239, .istore 6, 2), (241, .aload_n 2, 1), (242, .invokevirtual 92, 3), (245, .iload 5, 2), (247, .if_icmp .eq 5, 3), (250, .iconst 0, 1), (251, .ireturn, 1), (252, .iload 5, 2), (254, .ifCond .ne 15, 3), (257, .aload_n 3, 1)]
set_option maxRecDepth 100000 in
theorem D_L_law_1 : dT cL_law I_L_law_1 = true := by decide +kernel
def I_L_law_2 : List (Nat × Instr × Nat) := [(258, .iconst 0, 1), (259, .laload, 1), (260, .iload 6, 2), (262, .i2l, 1), (263, .lcmp, 1), (264, .ifCond .eq 5, 3), (267, .iconst 0, 1), (268, .ireturn, 1), (269, .goto 1230, 3), (272, .aload_n 1, 1), (273, .aload_n 0, 1), (274, .iload 4, 2), (276, .iconst 1, 1), (277, .iadd, 1), (278, .iaload, 1), (279, .aload_n 3, 1), (280, .invokestatic 100, 3), (283, .istore 5, 2), (285, .aload_n 2, 1), (286, .aload_n 0, 1), (287, .iload 4, 2), (289, .iconst 1, 1), (290, .iadd, 1), (291, .iaload, 1), (292, .invokevirtual 102, 3), (295, .istore 6, 2), (297, .aload_n 2, 1), (298, .invokevirtual 92, 3), (301, .iload 5, 2), (303, .if_icmp .eq 5, 3), (306, .iconst 0, 1), (307, .ireturn, 1), (308, .iload 5, 2), (310, .ifCond .ne 15, 3), (313, .aload_n 3, 1), (314, .iconst 0, 1), (315, .laload, 1), (316, .iload 6, 2), (318, .i2l, 1), (319, .lcmp, 1), (320, .ifCond .eq 5, 3), (323, .iconst 0, 1), (324, .ireturn, 1), (325, .goto 1174, 3), (328, .aload_n 1, 1), (329, .invokevirtual 103, 3), (332, .aload_n 2, 1), (333, .invokevirtual 106, 3)]
set_option maxRecDepth 100000 in
theorem D_L_law_2 : dT cL_law I_L_law_2 = true := by decide +kernel
def I_L_law_3 : List (Nat × Instr × Nat) := [(336, .if_icmp .eq 1163, 3), (339, .iconst 0, 1), (340, .ireturn, 1), (341, .aload_n 1, 1), (342, .aload_n 0, 1), (343, .iload 4, 2), (345, .iconst 1, 1), (346, .iadd, 1), (347, .iaload, 1), (348, .aload_n 3, 1), (349, .invokestatic 107, 3), (352, .istore 5, 2), (354, .aload_n 2, 1), (355, .aload_n 0, 1), (356, .iload 4, 2), (358, .iconst 1, 1), (359, .iadd, 1), (360, .iaload, 1), (361, .invokevirtual 109, 3), (364, .istore 6, 2), (366, .aload_n 2, 1), (367, .invokevirtual 92, 3), (370, .iload 5, 2), (372, .if_icmp .eq 5, 3), (375, .iconst 0, 1), (376, .ireturn, 1), (377, .iload 5, 2), (379, .ifCond .ne 15, 3), (382, .aload_n 3, 1), (383, .iconst 0, 1), (384, .laload, 1), (385, .iload 6, 2), (387, .i2l, 1), (388, .lcmp, 1), (389, .ifCond .eq 5, 3), (392, .iconst 0, 1), (393, .ireturn, 1), (394, .goto 1105, 3), (397, .aload_n 1, 1), (398, .aload_n 0, 1), (399, .iload 4, 2), (401, .iconst 1, 1), (402, .iadd, 1), (403, .iaload, 1), (404, .aload_n 3, 1), (405, .invokestatic 110, 3), (408, .istore 5, 2), (410, .aload_n 2, 1)]
set_option maxRecDepth 100000 in
theorem D_L_law_3 : dT cL_law I_L_law_3 = true := by decide +kernel
def I_L_law_4 : List (Nat × Instr × Nat) := [(411, .aload_n 0, 1), (412, .iload 4, 2), (414, .iconst 1, 1), (415, .iadd, 1), (416, .iaload, 1), (417, .invokevirtual 112, 3), (420, .istore 6, 2), (422, .aload_n 2, 1), (423, .invokevirtual 92, 3), (426, .iload 5, 2), (428, .if_icmp .eq 5, 3), (431, .iconst 0, 1), (432, .ireturn, 1), (433, .iload 5, 2), (435, .ifCond .ne 15, 3), (438, .aload_n 3, 1), (439, .iconst 0, 1), (440, .laload, 1), (441, .iload 6, 2), (443, .i2l, 1), (444, .lcmp, 1), (445, .ifCond .eq 5, 3), (448, .iconst 0, 1), (449, .ireturn, 1), (450, .goto 1049, 3), (453, .aload_n 1, 1), (454, .aload_n 0, 1), (455, .iload 4, 2), (457, .iconst 1, 1), (458, .iadd, 1), (459, .iaload, 1), (460, .aload_n 3, 1), (461, .invokestatic 113, 3), (464, .istore 5, 2), (466, .aload_n 2, 1), (467, .aload_n 0, 1), (468, .iload 4, 2), (470, .iconst 1, 1), (471, .iadd, 1), (472, .iaload, 1), (473, .invokevirtual 115, 3), (476, .istore 6, 2), (478, .aload_n 2, 1), (479, .invokevirtual 92, 3), (482, .iload 5, 2), (484, .if_icmp .eq 5, 3), (487, .iconst 0, 1), (488, .ireturn, 1)]
set_option maxRecDepth 100000 in
theorem D_L_law_4 : dT cL_law I_L_law_4 = true := by decide +kernel
def I_L_law_5 : List (Nat × Instr × Nat) := [(489, .iload 5, 2), (491, .ifCond .ne 15, 3), (494, .aload_n 3, 1), (495, .iconst 0, 1), (496, .laload, 1), (497, .iload 6, 2), (499, .i2l, 1), (500, .lcmp, 1), (501, .ifCond .eq 5, 3), (504, .iconst 0, 1), (505, .ireturn, 1), (506, .goto 993, 3), (509, .aload_n 1, 1), (510, .aload_n 0, 1), (511, .iload 4, 2), (513, .iconst 1, 1), (514, .iadd, 1), (515, .iaload, 1), (516, .aload_n 3, 1), (517, .invokestatic 116, 3), (520, .istore 5, 2), (522, .aload_n 2, 1), (523, .aload_n 0, 1), (524, .iload 4, 2), (526, .iconst 1, 1), (527, .iadd, 1), (528, .iaload, 1), (529, .invokevirtual 118, 3), (532, .istore 6, 2), (534, .aload_n 2, 1), (535, .invokevirtual 92, 3), (538, .iload 5, 2), (540, .if_icmp .eq 5, 3), (543, .iconst 0, 1), (544, .ireturn, 1), (545, .iload 5, 2), (547, .ifCond .ne 15, 3), (550, .aload_n 3, 1), (551, .iconst 0, 1), (552, .laload, 1), (553, .iload 6, 2), (555, .i2l, 1), (556, .lcmp, 1), (557, .ifCond .eq 5, 3), (560, .iconst 0, 1), (561, .ireturn, 1), (562, .goto 937, 3), (565, .aload_n 1, 1)]
set_option maxRecDepth 100000 in
theorem D_L_law_5 : dT cL_law I_L_law_5 = true := by decide +kernel
def I_L_law_6 : List (Nat × Instr × Nat) := [(566, .aload_n 0, 1), (567, .iload 4, 2), (569, .iconst 1, 1), (570, .iadd, 1), (571, .iaload, 1), (572, .aload_n 3, 1), (573, .invokestatic 119, 3), (576, .istore 5, 2), (578, .aload_n 2, 1), (579, .aload_n 0, 1), (580, .iload 4, 2), (582, .iconst 1, 1), (583, .iadd, 1), (584, .iaload, 1), (585, .invokevirtual 121, 3), (588, .istore 6, 2), (590, .aload_n 2, 1), (591, .invokevirtual 92, 3), (594, .iload 5, 2), (596, .if_icmp .eq 5, 3), (599, .iconst 0, 1), (600, .ireturn, 1), (601, .iload 5, 2), (603, .ifCond .ne 15, 3), (606, .aload_n 3, 1), (607, .iconst 0, 1), (608, .laload, 1), (609, .iload 6, 2), (611, .i2l, 1), (612, .lcmp, 1), (613, .ifCond .eq 5, 3), (616, .iconst 0, 1), (617, .ireturn, 1), (618, .goto 881, 3), (621, .aload_n 1, 1), (622, .aload_n 0, 1), (623, .iload 4, 2), (625, .iconst 1, 1), (626, .iadd, 1), (627, .iaload, 1), (628, .aload_n 0, 1), (629, .iload 4, 2), (631, .iconst 2, 1), (632, .iadd, 1), (633, .iaload, 1), (634, .aload_n 3, 1), (635, .invokestatic 122, 3), (638, .istore 5, 2)]
set_option maxRecDepth 100000 in
theorem D_L_law_6 : dT cL_law I_L_law_6 = true := by decide +kernel
def I_L_law_7 : List (Nat × Instr × Nat) := [(640, .aload_n 2, 1), (641, .aload_n 0, 1), (642, .iload 4, 2), (644, .iconst 1, 1), (645, .iadd, 1), (646, .iaload, 1), (647, .aload_n 0, 1), (648, .iload 4, 2), (650, .iconst 2, 1), (651, .iadd, 1), (652, .iaload, 1), (653, .invokevirtual 124, 3), (656, .istore 6, 2), (658, .aload_n 2, 1), (659, .invokevirtual 92, 3), (662, .iload 5, 2), (664, .if_icmp .eq 5, 3), (667, .iconst 0, 1), (668, .ireturn, 1), (669, .iload 5, 2), (671, .ifCond .ne 15, 3), (674, .aload_n 3, 1), (675, .iconst 0, 1), (676, .laload, 1), (677, .iload 6, 2), (679, .i2l, 1), (680, .lcmp, 1), (681, .ifCond .eq 5, 3), (684, .iconst 0, 1), (685, .ireturn, 1), (686, .goto 813, 3), (689, .aload_n 1, 1), (690, .aload_n 0, 1), (691, .iload 4, 2), (693, .iconst 1, 1), (694, .iadd, 1), (695, .iaload, 1), (696, .aload_n 0, 1), (697, .iload 4, 2), (699, .iconst 2, 1), (700, .iadd, 1), (701, .iaload, 1), (702, .aload_n 3, 1), (703, .invokestatic 125, 3), (706, .istore 5, 2), (708, .aload_n 2, 1), (709, .aload_n 0, 1), (710, .iload 4, 2)]
set_option maxRecDepth 100000 in
theorem D_L_law_7 : dT cL_law I_L_law_7 = true := by decide +kernel
def I_L_law_8 : List (Nat × Instr × Nat) := [(712, .iconst 1, 1), (713, .iadd, 1), (714, .iaload, 1), (715, .aload_n 0, 1), (716, .iload 4, 2), (718, .iconst 2, 1), (719, .iadd, 1), (720, .iaload, 1), (721, .invokevirtual 127, 3), (724, .istore 6, 2), (726, .aload_n 2, 1), (727, .invokevirtual 92, 3), (730, .iload 5, 2), (732, .if_icmp .eq 5, 3), (735, .iconst 0, 1), (736, .ireturn, 1), (737, .iload 5, 2), (739, .ifCond .ne 15, 3), (742, .aload_n 3, 1), (743, .iconst 0, 1), (744, .laload, 1), (745, .iload 6, 2), (747, .i2l, 1), (748, .lcmp, 1), (749, .ifCond .eq 5, 3), (752, .iconst 0, 1), (753, .ireturn, 1), (754, .goto 745, 3), (757, .aload_n 1, 1), (758, .aload_n 0, 1), (759, .iload 4, 2), (761, .iconst 1, 1), (762, .iadd, 1), (763, .iaload, 1), (764, .aload_n 0, 1), (765, .iload 4, 2), (767, .iconst 2, 1), (768, .iadd, 1), (769, .iaload, 1), (770, .aload_n 3, 1), (771, .invokestatic 128, 3), (774, .istore 5, 2), (776, .aload_n 2, 1), (777, .aload_n 0, 1), (778, .iload 4, 2), (780, .iconst 1, 1), (781, .iadd, 1), (782, .iaload, 1)]
set_option maxRecDepth 100000 in
theorem D_L_law_8 : dT cL_law I_L_law_8 = true := by decide +kernel
def I_L_law_9 : List (Nat × Instr × Nat) := [(783, .aload_n 0, 1), (784, .iload 4, 2), (786, .iconst 2, 1), (787, .iadd, 1), (788, .iaload, 1), (789, .invokevirtual 130, 3), (792, .istore 6, 2), (794, .aload_n 2, 1), (795, .invokevirtual 92, 3), (798, .iload 5, 2), (800, .if_icmp .eq 5, 3), (803, .iconst 0, 1), (804, .ireturn, 1), (805, .iload 5, 2), (807, .ifCond .ne 15, 3), (810, .aload_n 3, 1), (811, .iconst 0, 1), (812, .laload, 1), (813, .iload 6, 2), (815, .i2l, 1), (816, .lcmp, 1), (817, .ifCond .eq 5, 3), (820, .iconst 0, 1), (821, .ireturn, 1), (822, .goto 677, 3), (825, .aload_n 1, 1), (826, .aload_n 0, 1), (827, .iload 4, 2), (829, .iconst 1, 1), (830, .iadd, 1), (831, .iaload, 1), (832, .aload_n 0, 1), (833, .iload 4, 2), (835, .iconst 2, 1), (836, .iadd, 1), (837, .iaload, 1), (838, .aload_n 0, 1), (839, .iload 4, 2), (841, .iconst 3, 1), (842, .iadd, 1), (843, .iaload, 1), (844, .aload_n 3, 1), (845, .invokestatic 131, 3), (848, .istore 5, 2), (850, .aload_n 2, 1), (851, .aload_n 0, 1), (852, .iload 4, 2), (854, .iconst 1, 1)]
set_option maxRecDepth 100000 in
theorem D_L_law_9 : dT cL_law I_L_law_9 = true := by decide +kernel
def I_L_law_10 : List (Nat × Instr × Nat) := [(855, .iadd, 1), (856, .iaload, 1), (857, .aload_n 0, 1), (858, .iload 4, 2), (860, .iconst 2, 1), (861, .iadd, 1), (862, .iaload, 1), (863, .aload_n 0, 1), (864, .iload 4, 2), (866, .iconst 3, 1), (867, .iadd, 1), (868, .iaload, 1), (869, .invokevirtual 134, 3), (872, .istore 6, 2), (874, .aload_n 2, 1), (875, .invokevirtual 92, 3), (878, .iload 5, 2), (880, .if_icmp .eq 5, 3), (883, .iconst 0, 1), (884, .ireturn, 1), (885, .iload 5, 2), (887, .ifCond .ne 15, 3), (890, .aload_n 3, 1), (891, .iconst 0, 1), (892, .laload, 1), (893, .iload 6, 2), (895, .i2l, 1), (896, .lcmp, 1), (897, .ifCond .eq 5, 3), (900, .iconst 0, 1), (901, .ireturn, 1), (902, .goto 597, 3), (905, .aload_n 1, 1), (906, .aload_n 0, 1), (907, .iload 4, 2), (909, .iconst 1, 1), (910, .iadd, 1), (911, .iaload, 1), (912, .aload_n 0, 1), (913, .iload 4, 2), (915, .iconst 2, 1), (916, .iadd, 1), (917, .iaload, 1), (918, .ifCond .eq 7, 3), (921, .iconst 1, 1), (922, .goto 4, 3), (925, .iconst 0, 1), (926, .aload_n 3, 1)]
set_option maxRecDepth 100000 in
theorem D_L_law_10 : dT cL_law I_L_law_10 = true := by decide +kernel
def I_L_law_11 : List (Nat × Instr × Nat) := [(927, .invokestatic 135, 3), (930, .istore 5, 2), (932, .aload_n 2, 1), (933, .aload_n 0, 1), (934, .iload 4, 2), (936, .iconst 1, 1), (937, .iadd, 1), (938, .iaload, 1), (939, .aload_n 0, 1), (940, .iload 4, 2), (942, .iconst 2, 1), (943, .iadd, 1), (944, .iaload, 1), (945, .ifCond .eq 7, 3), (948, .iconst 1, 1), (949, .goto 4, 3), (952, .iconst 0, 1), (953, .invokevirtual 138, 3), (956, .istore 6, 2), (958, .aload_n 2, 1), (959, .invokevirtual 92, 3), (962, .iload 5, 2), (964, .if_icmp .eq 5, 3), (967, .iconst 0, 1), (968, .ireturn, 1), (969, .iload 5, 2), (971, .ifCond .ne 15, 3), (974, .aload_n 3, 1), (975, .iconst 0, 1), (976, .laload, 1), (977, .iload 6, 2), (979, .i2l, 1), (980, .lcmp, 1), (981, .ifCond .eq 5, 3), (984, .iconst 0, 1), (985, .ireturn, 1), (986, .goto 513, 3), (989, .aload_n 1, 1), (990, .aload_n 0, 1), (991, .iload 4, 2), (993, .iconst 1, 1), (994, .iadd, 1), (995, .iaload, 1), (996, .aload_n 3, 1), (997, .invokestatic 139, 3), (1000, .istore 5, 2), (1002, .aload_n 2, 1), (1003, .aload_n 0, 1)]
set_option maxRecDepth 100000 in
theorem D_L_law_11 : dT cL_law I_L_law_11 = true := by decide +kernel
def I_L_law_12 : List (Nat × Instr × Nat) := [(1004, .iload 4, 2), (1006, .iconst 1, 1), (1007, .iadd, 1), (1008, .iaload, 1), (1009, .invokevirtual 141, 3), (1012, .istore 6, 2), (1014, .aload_n 2, 1), (1015, .invokevirtual 92, 3), (1018, .iload 5, 2), (1020, .if_icmp .eq 5, 3), (1023, .iconst 0, 1), (1024, .ireturn, 1), (1025, .iload 5, 2), (1027, .ifCond .ne 15, 3), (1030, .aload_n 3, 1), (1031, .iconst 0, 1), (1032, .laload, 1), (1033, .iload 6, 2), (1035, .i2l, 1), (1036, .lcmp, 1), (1037, .ifCond .eq 5, 3), (1040, .iconst 0, 1), (1041, .ireturn, 1), (1042, .goto 457, 3), (1045, .aload_n 1, 1), (1046, .aload_n 0, 1), (1047, .iload 4, 2), (1049, .iconst 1, 1), (1050, .iadd, 1), (1051, .iaload, 1), (1052, .aload_n 3, 1), (1053, .invokestatic 142, 3), (1056, .istore 5, 2), (1058, .aload_n 2, 1), (1059, .aload_n 0, 1), (1060, .iload 4, 2), (1062, .iconst 1, 1), (1063, .iadd, 1), (1064, .iaload, 1), (1065, .invokevirtual 144, 3), (1068, .istore 6, 2), (1070, .aload_n 2, 1), (1071, .invokevirtual 92, 3), (1074, .iload 5, 2), (1076, .if_icmp .eq 5, 3), (1079, .iconst 0, 1), (1080, .ireturn, 1), (1081, .iload 5, 2)]
set_option maxRecDepth 100000 in
theorem D_L_law_12 : dT cL_law I_L_law_12 = true := by decide +kernel
def I_L_law_13 : List (Nat × Instr × Nat) := [(1083, .ifCond .ne 15, 3), (1086, .aload_n 3, 1), (1087, .iconst 0, 1), (1088, .laload, 1), (1089, .iload 6, 2), (1091, .i2l, 1), (1092, .lcmp, 1), (1093, .ifCond .eq 5, 3), (1096, .iconst 0, 1), (1097, .ireturn, 1), (1098, .goto 401, 3), (1101, .aload_n 1, 1), (1102, .aload_n 0, 1), (1103, .iload 4, 2), (1105, .iconst 1, 1), (1106, .iadd, 1), (1107, .iaload, 1), (1108, .aload_n 3, 1), (1109, .invokestatic 145, 3), (1112, .istore 5, 2), (1114, .aload_n 2, 1), (1115, .aload_n 0, 1), (1116, .iload 4, 2), (1118, .iconst 1, 1), (1119, .iadd, 1), (1120, .iaload, 1), (1121, .invokevirtual 147, 3), (1124, .istore 6, 2), (1126, .aload_n 2, 1), (1127, .invokevirtual 92, 3), (1130, .iload 5, 2), (1132, .if_icmp .eq 5, 3), (1135, .iconst 0, 1), (1136, .ireturn, 1), (1137, .iload 5, 2), (1139, .ifCond .ne 15, 3), (1142, .aload_n 3, 1), (1143, .iconst 0, 1), (1144, .laload, 1), (1145, .iload 6, 2), (1147, .i2l, 1), (1148, .lcmp, 1), (1149, .ifCond .eq 5, 3), (1152, .iconst 0, 1), (1153, .ireturn, 1), (1154, .goto 345, 3), (1157, .aload_n 1, 1), (1158, .aload_n 0, 1)]
set_option maxRecDepth 100000 in
theorem D_L_law_13 : dT cL_law I_L_law_13 = true := by decide +kernel
def I_L_law_14 : List (Nat × Instr × Nat) := [(1159, .iload 4, 2), (1161, .iconst 1, 1), (1162, .iadd, 1), (1163, .iaload, 1), (1164, .aload_n 0, 1), (1165, .iload 4, 2), (1167, .iconst 2, 1), (1168, .iadd, 1), (1169, .iaload, 1), (1170, .aload_n 3, 1), (1171, .invokestatic 148, 3), (1174, .istore 5, 2), (1176, .aload_n 2, 1), (1177, .aload_n 0, 1), (1178, .iload 4, 2), (1180, .iconst 1, 1), (1181, .iadd, 1), (1182, .iaload, 1), (1183, .aload_n 0, 1), (1184, .iload 4, 2), (1186, .iconst 2, 1), (1187, .iadd, 1), (1188, .iaload, 1), (1189, .invokevirtual 150, 3), (1192, .istore 6, 2), (1194, .aload_n 2, 1), (1195, .invokevirtual 92, 3), (1198, .iload 5, 2), (1200, .if_icmp .eq 5, 3), (1203, .iconst 0, 1), (1204, .ireturn, 1), (1205, .iload 5, 2), (1207, .ifCond .ne 15, 3), (1210, .aload_n 3, 1), (1211, .iconst 0, 1), (1212, .laload, 1), (1213, .iload 6, 2), (1215, .i2l, 1), (1216, .lcmp, 1), (1217, .ifCond .eq 5, 3), (1220, .iconst 0, 1), (1221, .ireturn, 1), (1222, .goto 277, 3), (1225, .aload_n 1, 1), (1226, .aload_n 0, 1), (1227, .iload 4, 2), (1229, .iconst 1, 1), (1230, .iadd, 1)]
set_option maxRecDepth 100000 in
theorem D_L_law_14 : dT cL_law I_L_law_14 = true := by decide +kernel
def I_L_law_15 : List (Nat × Instr × Nat) := [(1231, .iaload, 1), (1232, .aload_n 0, 1), (1233, .iload 4, 2), (1235, .iconst 2, 1), (1236, .iadd, 1), (1237, .iaload, 1), (1238, .aload_n 3, 1), (1239, .invokestatic 151, 3), (1242, .istore 5, 2), (1244, .aload_n 2, 1), (1245, .aload_n 0, 1), (1246, .iload 4, 2), (1248, .iconst 1, 1), (1249, .iadd, 1), (1250, .iaload, 1), (1251, .aload_n 0, 1), (1252, .iload 4, 2), (1254, .iconst 2, 1), (1255, .iadd, 1), (1256, .iaload, 1), (1257, .invokevirtual 153, 3), (1260, .istore 6, 2), (1262, .aload_n 2, 1), (1263, .invokevirtual 92, 3), (1266, .iload 5, 2), (1268, .if_icmp .eq 5, 3), (1271, .iconst 0, 1), (1272, .ireturn, 1), (1273, .iload 5, 2), (1275, .ifCond .ne 15, 3), (1278, .aload_n 3, 1), (1279, .iconst 0, 1), (1280, .laload, 1), (1281, .iload 6, 2), (1283, .i2l, 1), (1284, .lcmp, 1), (1285, .ifCond .eq 5, 3), (1288, .iconst 0, 1), (1289, .ireturn, 1), (1290, .goto 209, 3), (1293, .aload_n 1, 1), (1294, .aload_n 0, 1), (1295, .iload 4, 2), (1297, .iconst 1, 1), (1298, .iadd, 1), (1299, .iaload, 1), (1300, .aload_n 0, 1), (1301, .iload 4, 2)]
set_option maxRecDepth 100000 in
theorem D_L_law_15 : dT cL_law I_L_law_15 = true := by decide +kernel
def I_L_law_16 : List (Nat × Instr × Nat) := [(1303, .iconst 2, 1), (1304, .iadd, 1), (1305, .iaload, 1), (1306, .aload_n 3, 1), (1307, .invokestatic 154, 3), (1310, .istore 5, 2), (1312, .aload_n 2, 1), (1313, .aload_n 0, 1), (1314, .iload 4, 2), (1316, .iconst 1, 1), (1317, .iadd, 1), (1318, .iaload, 1), (1319, .aload_n 0, 1), (1320, .iload 4, 2), (1322, .iconst 2, 1), (1323, .iadd, 1), (1324, .iaload, 1), (1325, .invokevirtual 156, 3), (1328, .istore 6, 2), (1330, .aload_n 2, 1), (1331, .invokevirtual 92, 3), (1334, .iload 5, 2), (1336, .if_icmp .eq 5, 3), (1339, .iconst 0, 1), (1340, .ireturn, 1), (1341, .iload 5, 2), (1343, .ifCond .ne 15, 3), (1346, .aload_n 3, 1), (1347, .iconst 0, 1), (1348, .laload, 1), (1349, .iload 6, 2), (1351, .i2l, 1), (1352, .lcmp, 1), (1353, .ifCond .eq 5, 3), (1356, .iconst 0, 1), (1357, .ireturn, 1), (1358, .goto 141, 3), (1361, .aload_n 1, 1), (1362, .invokevirtual 157, 3), (1365, .aload_n 2, 1), (1366, .invokevirtual 160, 3), (1369, .if_icmp .eq 130, 3), (1372, .iconst 0, 1), (1373, .ireturn, 1), (1374, .aload_n 1, 1), (1375, .aload_n 0, 1), (1376, .iload 4, 2), (1378, .iconst 1, 1)]
set_option maxRecDepth 100000 in
theorem D_L_law_16 : dT cL_law I_L_law_16 = true := by decide +kernel
def I_L_law_17 : List (Nat × Instr × Nat) := [(1379, .iadd, 1), (1380, .iaload, 1), (1381, .aload_n 3, 1), (1382, .invokestatic 161, 3), (1385, .istore 5, 2), (1387, .aload_n 2, 1), (1388, .aload_n 0, 1), (1389, .iload 4, 2), (1391, .iconst 1, 1), (1392, .iadd, 1), (1393, .iaload, 1), (1394, .invokevirtual 163, 3), (1397, .istore 6, 2), (1399, .aload_n 2, 1), (1400, .invokevirtual 92, 3), (1403, .iload 5, 2), (1405, .if_icmp .eq 5, 3), (1408, .iconst 0, 1), (1409, .ireturn, 1), (1410, .iload 5, 2), (1412, .ifCond .ne 15, 3), (1415, .aload_n 3, 1), (1416, .iconst 0, 1), (1417, .laload, 1), (1418, .iload 6, 2), (1420, .i2l, 1), (1421, .lcmp, 1), (1422, .ifCond .eq 5, 3), (1425, .iconst 0, 1), (1426, .ireturn, 1), (1427, .goto 72, 3), (1430, .aload_n 1, 1), (1431, .aload_n 0, 1), (1432, .iload 4, 2), (1434, .iconst 1, 1), (1435, .iadd, 1), (1436, .iaload, 1), (1437, .aload_n 3, 1), (1438, .invokestatic 164, 3), (1441, .istore 5, 2), (1443, .aload_n 2, 1), (1444, .aload_n 0, 1), (1445, .iload 4, 2), (1447, .iconst 1, 1), (1448, .iadd, 1), (1449, .iaload, 1), (1450, .invokevirtual 166, 3), (1453, .istore 6, 2)]
set_option maxRecDepth 100000 in
theorem D_L_law_17 : dT cL_law I_L_law_17 = true := by decide +kernel
def I_L_law_18 : List (Nat × Instr × Nat) := [(1455, .aload_n 2, 1), (1456, .invokevirtual 92, 3), (1459, .iload 5, 2), (1461, .if_icmp .eq 5, 3), (1464, .iconst 0, 1), (1465, .ireturn, 1), (1466, .iload 5, 2), (1468, .ifCond .ne 15, 3), (1471, .aload_n 3, 1), (1472, .iconst 0, 1), (1473, .laload, 1), (1474, .iload 6, 2), (1476, .i2l, 1), (1477, .lcmp, 1), (1478, .ifCond .eq 5, 3), (1481, .iconst 0, 1), (1482, .ireturn, 1), (1483, .goto 16, 3), (1486, .aload_n 1, 1), (1487, .invokevirtual 167, 3), (1490, .aload_n 2, 1), (1491, .invokevirtual 170, 3), (1494, .if_icmp .eq 5, 3), (1497, .iconst 0, 1), (1498, .ireturn, 1), (1499, .iinc 4 4, 3), (1502, .goto (-1479), 3), (1505, .iconst 1, 1), (1506, .ireturn, 1)]
set_option maxRecDepth 100000 in
theorem D_L_law_18 : dT cL_law I_L_law_18 = true := by decide +kernel
end
section
theorem zz_look : (1:Nat) = 1 := rfl
end
