section
-- ===== PART A: goes FIRST, ahead of the names: the tables' words, and 'selects' of the private methods out of them =====
/-- a private method of a class that the tables say can be made, by its rows of tables_1 -/
def lw_okq (q : MethodName × Nat) : Prop := (q.1.cls ≠ "java/lang/invoke/MethodHandle" ∧ q.1.cls ≠ "java/lang/invoke/VarHandle") ∧ Cond.instantiable q.1.cls q.2 ∈ tables_1 ∧ Cond.privateMethod q.1 ∈ tables_1 ∧ Cond.instanceMethod q.1 ∈ tables_1
theorem lw_p0 : lw_okq (⟨"GeoThreads", "isLoad", "(II)Z"⟩, 6) := ⟨⟨by decide +kernel, by decide +kernel⟩, List.mem_of_getElem? (i := 16) (by decide +kernel), List.mem_of_getElem? (i := 381) (by decide +kernel), List.mem_of_getElem? (i := 382) (by decide +kernel)⟩
theorem lw_p1 : lw_okq (⟨"GeoThreads", "refusalOfTask", "()I"⟩, 6) := ⟨⟨by decide +kernel, by decide +kernel⟩, List.mem_of_getElem? (i := 16) (by decide +kernel), List.mem_of_getElem? (i := 385) (by decide +kernel), List.mem_of_getElem? (i := 386) (by decide +kernel)⟩
theorem lw_p2 : lw_okq (⟨"GeoThreads", "isThread", "(I)Z"⟩, 6) := ⟨⟨by decide +kernel, by decide +kernel⟩, List.mem_of_getElem? (i := 16) (by decide +kernel), List.mem_of_getElem? (i := 507) (by decide +kernel), List.mem_of_getElem? (i := 508) (by decide +kernel)⟩
theorem lw_p3 : lw_okq (⟨"GeoThreads$Course", "nextThread", "()I"⟩, 19) := ⟨⟨by decide +kernel, by decide +kernel⟩, List.mem_of_getElem? (i := 80) (by decide +kernel), List.mem_of_getElem? (i := 519) (by decide +kernel), List.mem_of_getElem? (i := 520) (by decide +kernel)⟩
theorem lw_p4 : lw_okq (⟨"GeoThreads$Course", "giveTurn", "(I)V"⟩, 19) := ⟨⟨by decide +kernel, by decide +kernel⟩, List.mem_of_getElem? (i := 80) (by decide +kernel), List.mem_of_getElem? (i := 523) (by decide +kernel), List.mem_of_getElem? (i := 524) (by decide +kernel)⟩
theorem lw_p5 : lw_okq (⟨"GeoThreads$Course", "takeNext", "(I)V"⟩, 19) := ⟨⟨by decide +kernel, by decide +kernel⟩, List.mem_of_getElem? (i := 80) (by decide +kernel), List.mem_of_getElem? (i := 527) (by decide +kernel), List.mem_of_getElem? (i := 528) (by decide +kernel)⟩
theorem lw_p6 : lw_okq (⟨"GeoThreads$Course", "leastThatFits", "()I"⟩, 19) := ⟨⟨by decide +kernel, by decide +kernel⟩, List.mem_of_getElem? (i := 80) (by decide +kernel), List.mem_of_getElem? (i := 531) (by decide +kernel), List.mem_of_getElem? (i := 532) (by decide +kernel)⟩
theorem lw_p7 : lw_okq (⟨"GeoThreads$Course", "write", "(III)V"⟩, 19) := ⟨⟨by decide +kernel, by decide +kernel⟩, List.mem_of_getElem? (i := 80) (by decide +kernel), List.mem_of_getElem? (i := 536) (by decide +kernel), List.mem_of_getElem? (i := 537) (by decide +kernel)⟩
theorem lw_p8 : lw_okq (⟨"GeoThreads$Course", "goOnWith", "(II)V"⟩, 19) := ⟨⟨by decide +kernel, by decide +kernel⟩, List.mem_of_getElem? (i := 80) (by decide +kernel), List.mem_of_getElem? (i := 540) (by decide +kernel), List.mem_of_getElem? (i := 541) (by decide +kernel)⟩
theorem lw_p9 : lw_okq (⟨"GeoThreads$Reader", "meetMissing", "(LGeoThreads$Work;)V"⟩, 5) := ⟨⟨by decide +kernel, by decide +kernel⟩, List.mem_of_getElem? (i := 432) (by decide +kernel), List.mem_of_getElem? (i := 554) (by decide +kernel), List.mem_of_getElem? (i := 555) (by decide +kernel)⟩
theorem lw_p10 : lw_okq (⟨"GeoThreads$Share", "stepInLine", "(LGeoThreads$Work;LGeoThreads$Hunt;)I"⟩, 7) := ⟨⟨by decide +kernel, by decide +kernel⟩, List.mem_of_getElem? (i := 480) (by decide +kernel), List.mem_of_getElem? (i := 576) (by decide +kernel), List.mem_of_getElem? (i := 577) (by decide +kernel)⟩
theorem lw_p11 : lw_okq (⟨"GeoThreads$Course", "leave", "(II)V"⟩, 19) := ⟨⟨by decide +kernel, by decide +kernel⟩, List.mem_of_getElem? (i := 80) (by decide +kernel), List.mem_of_getElem? (i := 604) (by decide +kernel), List.mem_of_getElem? (i := 605) (by decide +kernel)⟩
theorem lw_p12 : lw_okq (⟨"GeoThreads$Course", "lookWhatIsTaken", "()V"⟩, 19) := ⟨⟨by decide +kernel, by decide +kernel⟩, List.mem_of_getElem? (i := 80) (by decide +kernel), List.mem_of_getElem? (i := 608) (by decide +kernel), List.mem_of_getElem? (i := 609) (by decide +kernel)⟩
theorem lw_p13 : lw_okq (⟨"GeoThreads$Course", "takeWay", "(I)V"⟩, 19) := ⟨⟨by decide +kernel, by decide +kernel⟩, List.mem_of_getElem? (i := 80) (by decide +kernel), List.mem_of_getElem? (i := 623) (by decide +kernel), List.mem_of_getElem? (i := 624) (by decide +kernel)⟩
theorem lw_p14 : lw_okq (⟨"GeoThreads$Course", "endWaiting", "(II)V"⟩, 19) := ⟨⟨by decide +kernel, by decide +kernel⟩, List.mem_of_getElem? (i := 80) (by decide +kernel), List.mem_of_getElem? (i := 627) (by decide +kernel), List.mem_of_getElem? (i := 628) (by decide +kernel)⟩
theorem lw_p15 : lw_okq (⟨"GeoThreads$Course", "doFailedSharesAgain", "()V"⟩, 19) := ⟨⟨by decide +kernel, by decide +kernel⟩, List.mem_of_getElem? (i := 80) (by decide +kernel), List.mem_of_getElem? (i := 631) (by decide +kernel), List.mem_of_getElem? (i := 632) (by decide +kernel)⟩
def lw_privs_1 : List (MethodName × Nat) := [(⟨"GeoThreads", "isLoad", "(II)Z"⟩, 6), (⟨"GeoThreads", "refusalOfTask", "()I"⟩, 6), (⟨"GeoThreads", "isThread", "(I)Z"⟩, 6), (⟨"GeoThreads$Course", "nextThread", "()I"⟩, 19), (⟨"GeoThreads$Course", "giveTurn", "(I)V"⟩, 19), (⟨"GeoThreads$Course", "takeNext", "(I)V"⟩, 19), (⟨"GeoThreads$Course", "leastThatFits", "()I"⟩, 19), (⟨"GeoThreads$Course", "write", "(III)V"⟩, 19), (⟨"GeoThreads$Course", "goOnWith", "(II)V"⟩, 19), (⟨"GeoThreads$Reader", "meetMissing", "(LGeoThreads$Work;)V"⟩, 5), (⟨"GeoThreads$Share", "stepInLine", "(LGeoThreads$Work;LGeoThreads$Hunt;)I"⟩, 7), (⟨"GeoThreads$Course", "leave", "(II)V"⟩, 19), (⟨"GeoThreads$Course", "lookWhatIsTaken", "()V"⟩, 19), (⟨"GeoThreads$Course", "takeWay", "(I)V"⟩, 19), (⟨"GeoThreads$Course", "endWaiting", "(II)V"⟩, 19), (⟨"GeoThreads$Course", "doFailedSharesAgain", "()V"⟩, 19)]
theorem lw_r1 : ∀ q ∈ lw_privs_1, lw_okq q := List.forall_mem_cons.mpr ⟨lw_p0, List.forall_mem_cons.mpr ⟨lw_p1, List.forall_mem_cons.mpr ⟨lw_p2, List.forall_mem_cons.mpr ⟨lw_p3, List.forall_mem_cons.mpr ⟨lw_p4, List.forall_mem_cons.mpr ⟨lw_p5, List.forall_mem_cons.mpr ⟨lw_p6, List.forall_mem_cons.mpr ⟨lw_p7, List.forall_mem_cons.mpr ⟨lw_p8, List.forall_mem_cons.mpr ⟨lw_p9, List.forall_mem_cons.mpr ⟨lw_p10, List.forall_mem_cons.mpr ⟨lw_p11, List.forall_mem_cons.mpr ⟨lw_p12, List.forall_mem_cons.mpr ⟨lw_p13, List.forall_mem_cons.mpr ⟨lw_p14, List.forall_mem_cons.mpr ⟨lw_p15, fun _ h => absurd h List.not_mem_nil⟩⟩⟩⟩⟩⟩⟩⟩⟩⟩⟩⟩⟩⟩⟩⟩
theorem lw_p16 : lw_okq (⟨"GeoThreads", "isTask", "(I)Z"⟩, 6) := ⟨⟨by decide +kernel, by decide +kernel⟩, List.mem_of_getElem? (i := 16) (by decide +kernel), List.mem_of_getElem? (i := 645) (by decide +kernel), List.mem_of_getElem? (i := 646) (by decide +kernel)⟩
theorem lw_p17 : lw_okq (⟨"GeoThreads$Course", "endedAs", "(LGeoThreads$Course;I)Z"⟩, 19) := ⟨⟨by decide +kernel, by decide +kernel⟩, List.mem_of_getElem? (i := 80) (by decide +kernel), List.mem_of_getElem? (i := 738) (by decide +kernel), List.mem_of_getElem? (i := 739) (by decide +kernel)⟩
theorem lw_p18 : lw_okq (⟨"GeoThreadsModel", "begins", "()V"⟩, 36) := ⟨⟨by decide +kernel, by decide +kernel⟩, List.mem_of_getElem? (i := 745) (by decide +kernel), List.mem_of_getElem? (i := 751) (by decide +kernel), List.mem_of_getElem? (i := 752) (by decide +kernel)⟩
theorem lw_p19 : lw_okq (⟨"GeoThreadsModel", "isOpen", "()Z"⟩, 36) := ⟨⟨by decide +kernel, by decide +kernel⟩, List.mem_of_getElem? (i := 745) (by decide +kernel), List.mem_of_getElem? (i := 870) (by decide +kernel), List.mem_of_getElem? (i := 871) (by decide +kernel)⟩
theorem lw_p20 : lw_okq (⟨"GeoThreadsModel", "newLine", "(I)I"⟩, 36) := ⟨⟨by decide +kernel, by decide +kernel⟩, List.mem_of_getElem? (i := 745) (by decide +kernel), List.mem_of_getElem? (i := 874) (by decide +kernel), List.mem_of_getElem? (i := 875) (by decide +kernel)⟩
theorem lw_p21 : lw_okq (⟨"GeoThreadsModel", "isGrid", "(I)Z"⟩, 36) := ⟨⟨by decide +kernel, by decide +kernel⟩, List.mem_of_getElem? (i := 745) (by decide +kernel), List.mem_of_getElem? (i := 882) (by decide +kernel), List.mem_of_getElem? (i := 883) (by decide +kernel)⟩
theorem lw_p22 : lw_okq (⟨"GeoThreadsModel", "isLine", "(II)Z"⟩, 36) := ⟨⟨by decide +kernel, by decide +kernel⟩, List.mem_of_getElem? (i := 745) (by decide +kernel), List.mem_of_getElem? (i := 886) (by decide +kernel), List.mem_of_getElem? (i := 887) (by decide +kernel)⟩
theorem lw_p23 : lw_okq (⟨"GeoThreadsModel", "against", "(III)I"⟩, 36) := ⟨⟨by decide +kernel, by decide +kernel⟩, List.mem_of_getElem? (i := 745) (by decide +kernel), List.mem_of_getElem? (i := 894) (by decide +kernel), List.mem_of_getElem? (i := 895) (by decide +kernel)⟩
theorem lw_p24 : lw_okq (⟨"GeoThreadsModel", "mayNeed", "(II)Z"⟩, 36) := ⟨⟨by decide +kernel, by decide +kernel⟩, List.mem_of_getElem? (i := 745) (by decide +kernel), List.mem_of_getElem? (i := 920) (by decide +kernel), List.mem_of_getElem? (i := 921) (by decide +kernel)⟩
theorem lw_p25 : lw_okq (⟨"GeoThreadsModel", "comes", "(III)I"⟩, 36) := ⟨⟨by decide +kernel, by decide +kernel⟩, List.mem_of_getElem? (i := 745) (by decide +kernel), List.mem_of_getElem? (i := 924) (by decide +kernel), List.mem_of_getElem? (i := 925) (by decide +kernel)⟩
theorem lw_p26 : lw_okq (⟨"GeoThreadsModel", "turns", "(I)V"⟩, 36) := ⟨⟨by decide +kernel, by decide +kernel⟩, List.mem_of_getElem? (i := 745) (by decide +kernel), List.mem_of_getElem? (i := 948) (by decide +kernel), List.mem_of_getElem? (i := 949) (by decide +kernel)⟩
theorem lw_p27 : lw_okq (⟨"GeoThreadsModel", "takes", "(I)V"⟩, 36) := ⟨⟨by decide +kernel, by decide +kernel⟩, List.mem_of_getElem? (i := 745) (by decide +kernel), List.mem_of_getElem? (i := 952) (by decide +kernel), List.mem_of_getElem? (i := 953) (by decide +kernel)⟩
theorem lw_p28 : lw_okq (⟨"GeoThreadsModel", "at", "(II)I"⟩, 36) := ⟨⟨by decide +kernel, by decide +kernel⟩, List.mem_of_getElem? (i := 745) (by decide +kernel), List.mem_of_getElem? (i := 956) (by decide +kernel), List.mem_of_getElem? (i := 957) (by decide +kernel)⟩
theorem lw_p29 : lw_okq (⟨"GeoThreadsModel", "set", "(III)V"⟩, 36) := ⟨⟨by decide +kernel, by decide +kernel⟩, List.mem_of_getElem? (i := 745) (by decide +kernel), List.mem_of_getElem? (i := 960) (by decide +kernel), List.mem_of_getElem? (i := 961) (by decide +kernel)⟩
theorem lw_p30 : lw_okq (⟨"GeoThreadsModel", "more", "(II)V"⟩, 36) := ⟨⟨by decide +kernel, by decide +kernel⟩, List.mem_of_getElem? (i := 745) (by decide +kernel), List.mem_of_getElem? (i := 964) (by decide +kernel), List.mem_of_getElem? (i := 965) (by decide +kernel)⟩
theorem lw_p31 : lw_okq (⟨"GeoThreadsModel", "notes", "(I)V"⟩, 36) := ⟨⟨by decide +kernel, by decide +kernel⟩, List.mem_of_getElem? (i := 745) (by decide +kernel), List.mem_of_getElem? (i := 968) (by decide +kernel), List.mem_of_getElem? (i := 969) (by decide +kernel)⟩
def lw_privs_2 : List (MethodName × Nat) := [(⟨"GeoThreads", "isTask", "(I)Z"⟩, 6), (⟨"GeoThreads$Course", "endedAs", "(LGeoThreads$Course;I)Z"⟩, 19), (⟨"GeoThreadsModel", "begins", "()V"⟩, 36), (⟨"GeoThreadsModel", "isOpen", "()Z"⟩, 36), (⟨"GeoThreadsModel", "newLine", "(I)I"⟩, 36), (⟨"GeoThreadsModel", "isGrid", "(I)Z"⟩, 36), (⟨"GeoThreadsModel", "isLine", "(II)Z"⟩, 36), (⟨"GeoThreadsModel", "against", "(III)I"⟩, 36), (⟨"GeoThreadsModel", "mayNeed", "(II)Z"⟩, 36), (⟨"GeoThreadsModel", "comes", "(III)I"⟩, 36), (⟨"GeoThreadsModel", "turns", "(I)V"⟩, 36), (⟨"GeoThreadsModel", "takes", "(I)V"⟩, 36), (⟨"GeoThreadsModel", "at", "(II)I"⟩, 36), (⟨"GeoThreadsModel", "set", "(III)V"⟩, 36), (⟨"GeoThreadsModel", "more", "(II)V"⟩, 36), (⟨"GeoThreadsModel", "notes", "(I)V"⟩, 36)]
theorem lw_r2 : ∀ q ∈ lw_privs_2, lw_okq q := List.forall_mem_cons.mpr ⟨lw_p16, List.forall_mem_cons.mpr ⟨lw_p17, List.forall_mem_cons.mpr ⟨lw_p18, List.forall_mem_cons.mpr ⟨lw_p19, List.forall_mem_cons.mpr ⟨lw_p20, List.forall_mem_cons.mpr ⟨lw_p21, List.forall_mem_cons.mpr ⟨lw_p22, List.forall_mem_cons.mpr ⟨lw_p23, List.forall_mem_cons.mpr ⟨lw_p24, List.forall_mem_cons.mpr ⟨lw_p25, List.forall_mem_cons.mpr ⟨lw_p26, List.forall_mem_cons.mpr ⟨lw_p27, List.forall_mem_cons.mpr ⟨lw_p28, List.forall_mem_cons.mpr ⟨lw_p29, List.forall_mem_cons.mpr ⟨lw_p30, List.forall_mem_cons.mpr ⟨lw_p31, fun _ h => absurd h List.not_mem_nil⟩⟩⟩⟩⟩⟩⟩⟩⟩⟩⟩⟩⟩⟩⟩⟩
theorem lw_p32 : lw_okq (⟨"GeoThreadsModel", "step", "(I)I"⟩, 36) := ⟨⟨by decide +kernel, by decide +kernel⟩, List.mem_of_getElem? (i := 745) (by decide +kernel), List.mem_of_getElem? (i := 972) (by decide +kernel), List.mem_of_getElem? (i := 973) (by decide +kernel)⟩
theorem lw_p33 : lw_okq (⟨"GeoThreadsModel", "plain", "(I)I"⟩, 36) := ⟨⟨by decide +kernel, by decide +kernel⟩, List.mem_of_getElem? (i := 745) (by decide +kernel), List.mem_of_getElem? (i := 976) (by decide +kernel), List.mem_of_getElem? (i := 977) (by decide +kernel)⟩
theorem lw_p34 : lw_okq (⟨"GeoThreadsModel", "failed", "(II)I"⟩, 36) := ⟨⟨by decide +kernel, by decide +kernel⟩, List.mem_of_getElem? (i := 745) (by decide +kernel), List.mem_of_getElem? (i := 980) (by decide +kernel), List.mem_of_getElem? (i := 981) (by decide +kernel)⟩
theorem lw_p35 : lw_okq (⟨"GeoThreadsModel", "shared", "(I)I"⟩, 36) := ⟨⟨by decide +kernel, by decide +kernel⟩, List.mem_of_getElem? (i := 745) (by decide +kernel), List.mem_of_getElem? (i := 984) (by decide +kernel), List.mem_of_getElem? (i := 985) (by decide +kernel)⟩
theorem lw_p36 : lw_okq (⟨"GeoThreadsModel", "lineFault", "(II)I"⟩, 36) := ⟨⟨by decide +kernel, by decide +kernel⟩, List.mem_of_getElem? (i := 745) (by decide +kernel), List.mem_of_getElem? (i := 988) (by decide +kernel), List.mem_of_getElem? (i := 989) (by decide +kernel)⟩
theorem lw_p37 : lw_okq (⟨"GeoThreadsModel", "goes", "(III)I"⟩, 36) := ⟨⟨by decide +kernel, by decide +kernel⟩, List.mem_of_getElem? (i := 745) (by decide +kernel), List.mem_of_getElem? (i := 996) (by decide +kernel), List.mem_of_getElem? (i := 997) (by decide +kernel)⟩
theorem lw_p38 : lw_okq (⟨"GeoThreadsModel", "finds", "(IIJ)V"⟩, 36) := ⟨⟨by decide +kernel, by decide +kernel⟩, List.mem_of_getElem? (i := 745) (by decide +kernel), List.mem_of_getElem? (i := 1000) (by decide +kernel), List.mem_of_getElem? (i := 1001) (by decide +kernel)⟩
theorem lw_p39 : lw_okq (⟨"GeoThreadsModel", "read", "(I)I"⟩, 36) := ⟨⟨by decide +kernel, by decide +kernel⟩, List.mem_of_getElem? (i := 745) (by decide +kernel), List.mem_of_getElem? (i := 1004) (by decide +kernel), List.mem_of_getElem? (i := 1005) (by decide +kernel)⟩
theorem lw_p40 : lw_okq (⟨"GeoThreadsModel", "ends", "(III)V"⟩, 36) := ⟨⟨by decide +kernel, by decide +kernel⟩, List.mem_of_getElem? (i := 745) (by decide +kernel), List.mem_of_getElem? (i := 1008) (by decide +kernel), List.mem_of_getElem? (i := 1009) (by decide +kernel)⟩
theorem lw_p41 : lw_okq (⟨"GeoThreadsModel", "looks", "()V"⟩, 36) := ⟨⟨by decide +kernel, by decide +kernel⟩, List.mem_of_getElem? (i := 745) (by decide +kernel), List.mem_of_getElem? (i := 1012) (by decide +kernel), List.mem_of_getElem? (i := 1013) (by decide +kernel)⟩
theorem lw_p42 : lw_okq (⟨"GeoThreadsModel", "falls", "(II)V"⟩, 36) := ⟨⟨by decide +kernel, by decide +kernel⟩, List.mem_of_getElem? (i := 745) (by decide +kernel), List.mem_of_getElem? (i := 1016) (by decide +kernel), List.mem_of_getElem? (i := 1017) (by decide +kernel)⟩
theorem lw_p43 : lw_okq (⟨"GeoThreadsModel", "again", "()V"⟩, 36) := ⟨⟨by decide +kernel, by decide +kernel⟩, List.mem_of_getElem? (i := 745) (by decide +kernel), List.mem_of_getElem? (i := 1020) (by decide +kernel), List.mem_of_getElem? (i := 1021) (by decide +kernel)⟩
theorem lw_p44 : lw_okq (⟨"GeoThreadsModel", "isLost", "(II)Z"⟩, 36) := ⟨⟨by decide +kernel, by decide +kernel⟩, List.mem_of_getElem? (i := 745) (by decide +kernel), List.mem_of_getElem? (i := 1024) (by decide +kernel), List.mem_of_getElem? (i := 1025) (by decide +kernel)⟩
theorem lw_p45 : lw_okq (⟨"GeoThreadsModel", "isTask", "(I)Z"⟩, 36) := ⟨⟨by decide +kernel, by decide +kernel⟩, List.mem_of_getElem? (i := 745) (by decide +kernel), List.mem_of_getElem? (i := 1032) (by decide +kernel), List.mem_of_getElem? (i := 1033) (by decide +kernel)⟩
theorem lw_p46 : lw_okq (⟨"GeoThreadsModel", "answerOf", "(I)J"⟩, 36) := ⟨⟨by decide +kernel, by decide +kernel⟩, List.mem_of_getElem? (i := 745) (by decide +kernel), List.mem_of_getElem? (i := 1052) (by decide +kernel), List.mem_of_getElem? (i := 1053) (by decide +kernel)⟩
theorem lw_p47 : lw_okq (⟨"GeoThreadsModel", "keep", "()V"⟩, 36) := ⟨⟨by decide +kernel, by decide +kernel⟩, List.mem_of_getElem? (i := 745) (by decide +kernel), List.mem_of_getElem? (i := 1081) (by decide +kernel), List.mem_of_getElem? (i := 1082) (by decide +kernel)⟩
def lw_privs_3 : List (MethodName × Nat) := [(⟨"GeoThreadsModel", "step", "(I)I"⟩, 36), (⟨"GeoThreadsModel", "plain", "(I)I"⟩, 36), (⟨"GeoThreadsModel", "failed", "(II)I"⟩, 36), (⟨"GeoThreadsModel", "shared", "(I)I"⟩, 36), (⟨"GeoThreadsModel", "lineFault", "(II)I"⟩, 36), (⟨"GeoThreadsModel", "goes", "(III)I"⟩, 36), (⟨"GeoThreadsModel", "finds", "(IIJ)V"⟩, 36), (⟨"GeoThreadsModel", "read", "(I)I"⟩, 36), (⟨"GeoThreadsModel", "ends", "(III)V"⟩, 36), (⟨"GeoThreadsModel", "looks", "()V"⟩, 36), (⟨"GeoThreadsModel", "falls", "(II)V"⟩, 36), (⟨"GeoThreadsModel", "again", "()V"⟩, 36), (⟨"GeoThreadsModel", "isLost", "(II)Z"⟩, 36), (⟨"GeoThreadsModel", "isTask", "(I)Z"⟩, 36), (⟨"GeoThreadsModel", "answerOf", "(I)J"⟩, 36), (⟨"GeoThreadsModel", "keep", "()V"⟩, 36)]
theorem lw_r3 : ∀ q ∈ lw_privs_3, lw_okq q := List.forall_mem_cons.mpr ⟨lw_p32, List.forall_mem_cons.mpr ⟨lw_p33, List.forall_mem_cons.mpr ⟨lw_p34, List.forall_mem_cons.mpr ⟨lw_p35, List.forall_mem_cons.mpr ⟨lw_p36, List.forall_mem_cons.mpr ⟨lw_p37, List.forall_mem_cons.mpr ⟨lw_p38, List.forall_mem_cons.mpr ⟨lw_p39, List.forall_mem_cons.mpr ⟨lw_p40, List.forall_mem_cons.mpr ⟨lw_p41, List.forall_mem_cons.mpr ⟨lw_p42, List.forall_mem_cons.mpr ⟨lw_p43, List.forall_mem_cons.mpr ⟨lw_p44, List.forall_mem_cons.mpr ⟨lw_p45, List.forall_mem_cons.mpr ⟨lw_p46, List.forall_mem_cons.mpr ⟨lw_p47, fun _ h => absurd h List.not_mem_nil⟩⟩⟩⟩⟩⟩⟩⟩⟩⟩⟩⟩⟩⟩⟩⟩
theorem lw_p48 : lw_okq (⟨"GeoThreadsModel", "through", "(I)V"⟩, 36) := ⟨⟨by decide +kernel, by decide +kernel⟩, List.mem_of_getElem? (i := 745) (by decide +kernel), List.mem_of_getElem? (i := 1085) (by decide +kernel), List.mem_of_getElem? (i := 1086) (by decide +kernel)⟩
theorem lw_p49 : lw_okq (⟨"GeoThreadsModel", "isLikeFirst", "()Z"⟩, 36) := ⟨⟨by decide +kernel, by decide +kernel⟩, List.mem_of_getElem? (i := 745) (by decide +kernel), List.mem_of_getElem? (i := 1089) (by decide +kernel), List.mem_of_getElem? (i := 1090) (by decide +kernel)⟩
theorem lw_p50 : lw_okq (⟨"GeoThreadsModel", "bring", "()V"⟩, 36) := ⟨⟨by decide +kernel, by decide +kernel⟩, List.mem_of_getElem? (i := 745) (by decide +kernel), List.mem_of_getElem? (i := 1093) (by decide +kernel), List.mem_of_getElem? (i := 1094) (by decide +kernel)⟩
def lw_privs_4 : List (MethodName × Nat) := [(⟨"GeoThreadsModel", "through", "(I)V"⟩, 36), (⟨"GeoThreadsModel", "isLikeFirst", "()Z"⟩, 36), (⟨"GeoThreadsModel", "bring", "()V"⟩, 36)]
theorem lw_r4 : ∀ q ∈ lw_privs_4, lw_okq q := List.forall_mem_cons.mpr ⟨lw_p48, List.forall_mem_cons.mpr ⟨lw_p49, List.forall_mem_cons.mpr ⟨lw_p50, fun _ h => absurd h List.not_mem_nil⟩⟩⟩
def lw_privs : List (MethodName × Nat) := lw_privs_1 ++ (lw_privs_2 ++ (lw_privs_3 ++ (lw_privs_4)))
def lw_tbl : List Cond := k2_sels lw_privs ++ tables_1
theorem lw_privs_ok : ∀ q ∈ lw_privs, lw_okq q := by
  show ∀ q ∈ lw_privs_1 ++ (lw_privs_2 ++ (lw_privs_3 ++ (lw_privs_4))), lw_okq q
  exact List.forall_mem_append.mpr ⟨lw_r1, List.forall_mem_append.mpr ⟨lw_r2, List.forall_mem_append.mpr ⟨lw_r3, lw_r4⟩⟩⟩
/-- the streams that the claim lets the run draw from -/
abbrev lw_cs : List Choice := [Jvm.Choice.named "NaN.bits"]
theorem lw_bits : nanBits ∈ lw_cs := by first | decide | exact List.mem_cons_self | simp [lw_cs, nanBits]
end
section
def RX0 : String := "GeoThreads$Course"
def TX0 : u_T := fun k => match k with
  | 0 => ("GeoThreads$Course", "plan", "LGeoThreads$Plan;", true)
  | 1 => ("GeoThreads$Course", "memory", "I", true)
  | 2 => ("GeoThreads$Course", "bySchedule", "Z", true)
  | 3 => ("GeoThreads$Course", "works", "[LGeoThreads$Work;", true)
  | 4 => ("GeoThreads$Course", "hunts", "[LGeoThreads$Hunt;", true)
  | 5 => ("GeoThreads$Course", "spare", "LGeoThreads$Work;", true)
  | 6 => ("GeoThreads$Course", "held", "[I", true)
  | 7 => ("GeoThreads$Course", "ended", "[I", true)
  | 8 => ("GeoThreads$Course", "notes", "[I", true)
  | 9 => ("GeoThreads$Course", "noteCount", "I", false)
  | 10 => ("GeoThreads$Course", "threads", "I", false)
  | 11 => ("GeoThreads$Course", "free", "I", false)
  | 12 => ("GeoThreads$Course", "most", "I", false)
  | 13 => ("GeoThreads$Course", "turns", "I", false)
  | 14 => ("GeoThreads$Course", "passed", "I", false)
  | 15 => ("GeoThreads$Course", "taken", "I", false)
  | 16 => ("GeoThreads$Course", "status", "I", false)
  | 17 => ("GeoThreads$Course", "left", "I", false)
  | _ => ("GeoThreads$Course", "noneFits", "Z", false)
def tyX0 : Nat → FieldType := fun k => match k with
  | 0 => .object "GeoThreads$Plan"
  | 1 => .int
  | 2 => .boolean
  | 3 => .array (.object "GeoThreads$Work")
  | 4 => .array (.object "GeoThreads$Hunt")
  | 5 => .object "GeoThreads$Work"
  | 6 => .array .int
  | 7 => .array .int
  | 8 => .array .int
  | 9 => .int
  | 10 => .int
  | 11 => .int
  | 12 => .int
  | 13 => .int
  | 14 => .int
  | 15 => .int
  | 16 => .int
  | 17 => .int
  | _ => .boolean
theorem nmX0 : ∀ a, a < 19 → ∀ b, b < 19 → a ≠ b → (TX0 a).2.1 ≠ (TX0 b).2.1 := by decide +kernel
theorem tyX0_ok : ∀ k, k < 19 → parseFieldDescriptor (TX0 k).2.2.1 = some (tyX0 k) := by decide +kernel
abbrev cX0_init : ByteArray := prog_2_method_1_code
def yX0_init : MethodName := ⟨RX0, "<init>", "(LGeoThreads$Plan;IZ)V"⟩
abbrev cX0_begin : ByteArray := prog_2_method_2_code
def yX0_begin : MethodName := ⟨RX0, "begin", "(I)V"⟩
abbrev cX0_goOn : ByteArray := prog_2_method_3_code
def yX0_goOn : MethodName := ⟨RX0, "goOn", "(I)I"⟩
abbrev cX0_nextThread : ByteArray := prog_2_method_4_code
def yX0_nextThread : MethodName := ⟨RX0, "nextThread", "()I"⟩
abbrev cX0_giveTurn : ByteArray := prog_2_method_5_code
def yX0_giveTurn : MethodName := ⟨RX0, "giveTurn", "(I)V"⟩
abbrev cX0_takeNext : ByteArray := prog_2_method_6_code
def yX0_takeNext : MethodName := ⟨RX0, "takeNext", "(I)V"⟩
abbrev cX0_leastThatFits : ByteArray := prog_2_method_7_code
def yX0_leastThatFits : MethodName := ⟨RX0, "leastThatFits", "()I"⟩
abbrev cX0_goOnWith : ByteArray := prog_2_method_8_code
def yX0_goOnWith : MethodName := ⟨RX0, "goOnWith", "(II)V"⟩
abbrev cX0_leave : ByteArray := prog_2_method_9_code
def yX0_leave : MethodName := ⟨RX0, "leave", "(II)V"⟩
abbrev cX0_endWaiting : ByteArray := prog_2_method_10_code
def yX0_endWaiting : MethodName := ⟨RX0, "endWaiting", "(II)V"⟩
abbrev cX0_write : ByteArray := prog_2_method_11_code
def yX0_write : MethodName := ⟨RX0, "write", "(III)V"⟩
abbrev cX0_lookWhatIsTaken : ByteArray := prog_2_method_12_code
def yX0_lookWhatIsTaken : MethodName := ⟨RX0, "lookWhatIsTaken", "()V"⟩
abbrev cX0_takeWay : ByteArray := prog_2_method_13_code
def yX0_takeWay : MethodName := ⟨RX0, "takeWay", "(I)V"⟩
abbrev cX0_doFailedSharesAgain : ByteArray := prog_2_method_14_code
def yX0_doFailedSharesAgain : MethodName := ⟨RX0, "doFailedSharesAgain", "()V"⟩
abbrev cX0_breakOff : ByteArray := prog_2_method_15_code
def yX0_breakOff : MethodName := ⟨RX0, "breakOff", "(I)I"⟩
abbrev cX0_stopAll : ByteArray := prog_2_method_16_code
def yX0_stopAll : MethodName := ⟨RX0, "stopAll", "()I"⟩
abbrev cX0_answerOf : ByteArray := prog_2_method_17_code
def yX0_answerOf : MethodName := ⟨RX0, "answerOf", "(I)J"⟩
abbrev cX0_lostOf : ByteArray := prog_2_method_18_code
def yX0_lostOf : MethodName := ⟨RX0, "lostOf", "(I)I"⟩
abbrev cX0_foundAs : ByteArray := prog_2_method_19_code
def yX0_foundAs : MethodName := ⟨RX0, "foundAs", "(LGeoThreads$Course;)Z"⟩
abbrev cX0_endedAs : ByteArray := prog_2_method_20_code
def yX0_endedAs : MethodName := ⟨RX0, "endedAs", "(LGeoThreads$Course;I)Z"⟩
def RX1 : String := "GeoThreads$Grid"
def TX1 : u_T := fun k => match k with
  | 0 => ("GeoThreads$Grid", "kind", "I", true)
  | _ => ("GeoThreads$Grid", "lines", "[LGeoThreads$Line;", true)
def tyX1 : Nat → FieldType := fun k => match k with
  | 0 => .int
  | _ => .array (.object "GeoThreads$Line")
theorem nmX1 : ∀ a, a < 2 → ∀ b, b < 2 → a ≠ b → (TX1 a).2.1 ≠ (TX1 b).2.1 := by decide +kernel
theorem tyX1_ok : ∀ k, k < 2 → parseFieldDescriptor (TX1 k).2.2.1 = some (tyX1 k) := by decide +kernel
abbrev cX1_init : ByteArray := prog_3_method_1_code
def yX1_init : MethodName := ⟨RX1, "<init>", "(II)V"⟩
abbrev cX1_has : ByteArray := prog_3_method_2_code
def yX1_has : MethodName := ⟨RX1, "has", "(I)Z"⟩
abbrev cX1_faultOf : ByteArray := prog_3_method_3_code
def yX1_faultOf : MethodName := ⟨RX1, "faultOf", "(I)I"⟩
def RX2 : String := "GeoThreads$Hunt"
def TX2 : u_T := fun k => match k with
  | 0 => ("GeoThreads$Hunt", "value", "J", false)
  | 1 => ("GeoThreads$Hunt", "line", "I", false)
  | _ => ("GeoThreads$Hunt", "limit", "J", false)
def tyX2 : Nat → FieldType := fun k => match k with
  | 0 => .long
  | 1 => .int
  | _ => .long
theorem nmX2 : ∀ a, a < 3 → ∀ b, b < 3 → a ≠ b → (TX2 a).2.1 ≠ (TX2 b).2.1 := by decide +kernel
theorem tyX2_ok : ∀ k, k < 3 → parseFieldDescriptor (TX2 k).2.2.1 = some (tyX2 k) := by decide +kernel
abbrev cX2_init : ByteArray := prog_4_method_1_code
def yX2_init : MethodName := ⟨RX2, "<init>", "()V"⟩
abbrev cX2_begin : ByteArray := prog_4_method_2_code
def yX2_begin : MethodName := ⟨RX2, "begin", "(J)V"⟩
abbrev cX2_offer : ByteArray := prog_4_method_3_code
def yX2_offer : MethodName := ⟨RX2, "offer", "(JI)V"⟩
def RX3 : String := "GeoThreads$Line"
def TX3 : u_T := fun k => match k with
  | 0 => ("GeoThreads$Line", "kind", "I", true)
  | _ => ("GeoThreads$Line", "numbers", "[J", true)
def tyX3 : Nat → FieldType := fun k => match k with
  | 0 => .int
  | _ => .array .long
theorem nmX3 : ∀ a, a < 2 → ∀ b, b < 2 → a ≠ b → (TX3 a).2.1 ≠ (TX3 b).2.1 := by decide +kernel
theorem tyX3_ok : ∀ k, k < 2 → parseFieldDescriptor (TX3 k).2.2.1 = some (tyX3 k) := by decide +kernel
abbrev cX3_init : ByteArray := prog_5_method_1_code
def yX3_init : MethodName := ⟨RX3, "<init>", "(II)V"⟩
abbrev cX3_has : ByteArray := prog_5_method_2_code
def yX3_has : MethodName := ⟨RX3, "has", "(I)Z"⟩
abbrev cX3_worth : ByteArray := prog_5_method_3_code
def yX3_worth : MethodName := ⟨RX3, "worth", "(I)J"⟩
def RX4 : String := "GeoThreads$Plan"
def TX4 : u_T := fun k => match k with
  | 0 => ("GeoThreads$Plan", "grids", "[LGeoThreads$Grid;", true)
  | 1 => ("GeoThreads$Plan", "tasks", "[LGeoThreads$Task;", true)
  | 2 => ("GeoThreads$Plan", "searches", "[LGeoThreads$Search;", true)
  | 3 => ("GeoThreads$Plan", "schedule", "[I", true)
  | 4 => ("GeoThreads$Plan", "gridCount", "I", false)
  | 5 => ("GeoThreads$Plan", "taskCount", "I", false)
  | 6 => ("GeoThreads$Plan", "searchCount", "I", false)
  | _ => ("GeoThreads$Plan", "scheduled", "I", false)
def tyX4 : Nat → FieldType := fun k => match k with
  | 0 => .array (.object "GeoThreads$Grid")
  | 1 => .array (.object "GeoThreads$Task")
  | 2 => .array (.object "GeoThreads$Search")
  | 3 => .array .int
  | 4 => .int
  | 5 => .int
  | 6 => .int
  | _ => .int
theorem nmX4 : ∀ a, a < 8 → ∀ b, b < 8 → a ≠ b → (TX4 a).2.1 ≠ (TX4 b).2.1 := by decide +kernel
theorem tyX4_ok : ∀ k, k < 8 → parseFieldDescriptor (TX4 k).2.2.1 = some (tyX4 k) := by decide +kernel
abbrev cX4_init : ByteArray := prog_6_method_1_code
def yX4_init : MethodName := ⟨RX4, "<init>", "()V"⟩
abbrev cX4_gridAt : ByteArray := prog_6_method_2_code
def yX4_gridAt : MethodName := ⟨RX4, "gridAt", "(I)LGeoThreads$Grid;"⟩
abbrev cX4_addTask : ByteArray := prog_6_method_3_code
def yX4_addTask : MethodName := ⟨RX4, "addTask", "(LGeoThreads$Task;)I"⟩
def RX5 : String := "GeoThreads$Reader"
def TX5 : u_T := fun k => match k with
  | 0 => ("GeoThreads$Task", "sort", "I", true)
  | 1 => ("GeoThreads$Task", "need", "I", true)
  | 2 => ("GeoThreads$Task", "budget", "I", true)
  | 3 => ("GeoThreads$Reader", "grid", "LGeoThreads$Grid;", true)
  | _ => ("GeoThreads$Reader", "kind", "I", true)
def tyX5 : Nat → FieldType := fun k => match k with
  | 0 => .int
  | 1 => .int
  | 2 => .int
  | 3 => .object "GeoThreads$Grid"
  | _ => .int
theorem nmX5 : ∀ a, a < 5 → ∀ b, b < 5 → a ≠ b → (TX5 a).2.1 ≠ (TX5 b).2.1 := by decide +kernel
theorem tyX5_ok : ∀ k, k < 5 → parseFieldDescriptor (TX5 k).2.2.1 = some (tyX5 k) := by decide +kernel
abbrev cX5_init : ByteArray := prog_7_method_1_code
def yX5_init : MethodName := ⟨RX5, "<init>", "(ZLGeoThreads$Grid;III)V"⟩
abbrev cX5_rank : ByteArray := prog_7_method_2_code
def yX5_rank : MethodName := ⟨RX5, "rank", "()I"⟩
abbrev cX5_step : ByteArray := prog_7_method_3_code
def yX5_step : MethodName := ⟨RX5, "step", "(LGeoThreads$Work;[LGeoThreads$Hunt;)V"⟩
abbrev cX5_meetMissing : ByteArray := prog_7_method_4_code
def yX5_meetMissing : MethodName := ⟨RX5, "meetMissing", "(LGeoThreads$Work;)V"⟩
abbrev cX5_foundBy : ByteArray := prog_7_method_5_code
def yX5_foundBy : MethodName := ⟨RX5, "foundBy", "(LGeoThreads$Work;)J"⟩
def RX6 : String := "GeoThreads$Search"
def TX6 : u_T := fun k => match k with
  | 0 => ("GeoThreads$Search", "grid", "LGeoThreads$Grid;", true)
  | 1 => ("GeoThreads$Search", "kind", "I", true)
  | 2 => ("GeoThreads$Search", "divisor", "I", true)
  | _ => ("GeoThreads$Search", "limit", "J", true)
def tyX6 : Nat → FieldType := fun k => match k with
  | 0 => .object "GeoThreads$Grid"
  | 1 => .int
  | 2 => .int
  | _ => .long
theorem nmX6 : ∀ a, a < 4 → ∀ b, b < 4 → a ≠ b → (TX6 a).2.1 ≠ (TX6 b).2.1 := by decide +kernel
theorem tyX6_ok : ∀ k, k < 4 → parseFieldDescriptor (TX6 k).2.2.1 = some (tyX6 k) := by decide +kernel
abbrev cX6_init : ByteArray := prog_8_method_1_code
def yX6_init : MethodName := ⟨RX6, "<init>", "(LGeoThreads$Grid;IIJ)V"⟩
def RX7 : String := "GeoThreads$Share"
def TX7 : u_T := fun k => match k with
  | 0 => ("GeoThreads$Task", "sort", "I", true)
  | 1 => ("GeoThreads$Task", "need", "I", true)
  | 2 => ("GeoThreads$Task", "budget", "I", true)
  | 3 => ("GeoThreads$Share", "search", "LGeoThreads$Search;", true)
  | 4 => ("GeoThreads$Share", "number", "I", true)
  | 5 => ("GeoThreads$Share", "from", "I", true)
  | _ => ("GeoThreads$Share", "to", "I", true)
def tyX7 : Nat → FieldType := fun k => match k with
  | 0 => .int
  | 1 => .int
  | 2 => .int
  | 3 => .object "GeoThreads$Search"
  | 4 => .int
  | 5 => .int
  | _ => .int
theorem nmX7 : ∀ a, a < 7 → ∀ b, b < 7 → a ≠ b → (TX7 a).2.1 ≠ (TX7 b).2.1 := by decide +kernel
theorem tyX7_ok : ∀ k, k < 7 → parseFieldDescriptor (TX7 k).2.2.1 = some (tyX7 k) := by decide +kernel
abbrev cX7_init : ByteArray := prog_9_method_1_code
def yX7_init : MethodName := ⟨RX7, "<init>", "(LGeoThreads$Search;IIIII)V"⟩
abbrev cX7_rank : ByteArray := prog_9_method_2_code
def yX7_rank : MethodName := ⟨RX7, "rank", "()I"⟩
abbrev cX7_step : ByteArray := prog_9_method_3_code
def yX7_step : MethodName := ⟨RX7, "step", "(LGeoThreads$Work;[LGeoThreads$Hunt;)V"⟩
abbrev cX7_stepInLine : ByteArray := prog_9_method_4_code
def yX7_stepInLine : MethodName := ⟨RX7, "stepInLine", "(LGeoThreads$Work;LGeoThreads$Hunt;)I"⟩
abbrev cX7_doAgain : ByteArray := prog_9_method_5_code
def yX7_doAgain : MethodName := ⟨RX7, "doAgain", "(LGeoThreads$Work;LGeoThreads$Hunt;)I"⟩
abbrev cX7_foundBy : ByteArray := prog_9_method_6_code
def yX7_foundBy : MethodName := ⟨RX7, "foundBy", "(LGeoThreads$Work;)J"⟩
abbrev cX7_usedBy : ByteArray := prog_9_method_7_code
def yX7_usedBy : MethodName := ⟨RX7, "usedBy", "(LGeoThreads$Work;)I"⟩
def RX8 : String := "GeoThreads$Task"
def TX8 : u_T := fun k => match k with
  | _ => ("", "", "", false)
def tyX8 : Nat → FieldType := fun k => match k with
  | _ => .int
theorem nmX8 : ∀ a, a < 0 → ∀ b, b < 0 → a ≠ b → (TX8 a).2.1 ≠ (TX8 b).2.1 := by decide +kernel
theorem tyX8_ok : ∀ k, k < 0 → parseFieldDescriptor (TX8 k).2.2.1 = some (tyX8 k) := by decide +kernel
abbrev cX8_init : ByteArray := prog_10_method_1_code
def yX8_init : MethodName := ⟨RX8, "<init>", "(III)V"⟩
abbrev cX8_isWay : ByteArray := prog_10_method_2_code
def yX8_isWay : MethodName := ⟨RX8, "isWay", "()Z"⟩
abbrev cX8_usedBy : ByteArray := prog_10_method_6_code
def yX8_usedBy : MethodName := ⟨RX8, "usedBy", "(LGeoThreads$Work;)I"⟩
def RX9 : String := "GeoThreads$Way"
def TX9 : u_T := fun k => match k with
  | 0 => ("GeoThreads$Task", "sort", "I", true)
  | 1 => ("GeoThreads$Task", "need", "I", true)
  | 2 => ("GeoThreads$Task", "budget", "I", true)
  | 3 => ("GeoThreads$Way", "parts", "I", true)
  | 4 => ("GeoThreads$Way", "answer", "J", true)
  | _ => ("GeoThreads$Way", "fails", "I", true)
def tyX9 : Nat → FieldType := fun k => match k with
  | 0 => .int
  | 1 => .int
  | 2 => .int
  | 3 => .int
  | 4 => .long
  | _ => .int
theorem nmX9 : ∀ a, a < 6 → ∀ b, b < 6 → a ≠ b → (TX9 a).2.1 ≠ (TX9 b).2.1 := by decide +kernel
theorem tyX9_ok : ∀ k, k < 6 → parseFieldDescriptor (TX9 k).2.2.1 = some (tyX9 k) := by decide +kernel
abbrev cX9_init : ByteArray := prog_11_method_1_code
def yX9_init : MethodName := ⟨RX9, "<init>", "(ZIJIII)V"⟩
abbrev cX9_rank : ByteArray := prog_11_method_2_code
def yX9_rank : MethodName := ⟨RX9, "rank", "()I"⟩
abbrev cX9_step : ByteArray := prog_11_method_3_code
def yX9_step : MethodName := ⟨RX9, "step", "(LGeoThreads$Work;[LGeoThreads$Hunt;)V"⟩
abbrev cX9_foundBy : ByteArray := prog_11_method_4_code
def yX9_foundBy : MethodName := ⟨RX9, "foundBy", "(LGeoThreads$Work;)J"⟩
def RX10 : String := "GeoThreads$Work"
def TX10 : u_T := fun k => match k with
  | 0 => ("GeoThreads$Work", "state", "I", false)
  | 1 => ("GeoThreads$Work", "fault", "I", false)
  | 2 => ("GeoThreads$Work", "steps", "I", false)
  | 3 => ("GeoThreads$Work", "turns", "I", false)
  | 4 => ("GeoThreads$Work", "parts", "I", false)
  | 5 => ("GeoThreads$Work", "thread", "I", false)
  | 6 => ("GeoThreads$Work", "lost", "I", false)
  | 7 => ("GeoThreads$Work", "line", "I", false)
  | 8 => ("GeoThreads$Work", "place", "I", false)
  | 9 => ("GeoThreads$Work", "sum", "J", false)
  | 10 => ("GeoThreads$Work", "total", "J", false)
  | 11 => ("GeoThreads$Work", "toStop", "Z", false)
  | _ => ("GeoThreads$Work", "toInterrupt", "Z", false)
def tyX10 : Nat → FieldType := fun k => match k with
  | 0 => .int
  | 1 => .int
  | 2 => .int
  | 3 => .int
  | 4 => .int
  | 5 => .int
  | 6 => .int
  | 7 => .int
  | 8 => .int
  | 9 => .long
  | 10 => .long
  | 11 => .boolean
  | _ => .boolean
theorem nmX10 : ∀ a, a < 13 → ∀ b, b < 13 → a ≠ b → (TX10 a).2.1 ≠ (TX10 b).2.1 := by decide +kernel
theorem tyX10_ok : ∀ k, k < 13 → parseFieldDescriptor (TX10 k).2.2.1 = some (tyX10 k) := by decide +kernel
abbrev cX10_init : ByteArray := prog_12_method_1_code
def yX10_init : MethodName := ⟨RX10, "<init>", "()V"⟩
abbrev cX10_begin : ByteArray := prog_12_method_2_code
def yX10_begin : MethodName := ⟨RX10, "begin", "()V"⟩
abbrev cX10_isLeft : ByteArray := prog_12_method_3_code
def yX10_isLeft : MethodName := ⟨RX10, "isLeft", "()Z"⟩
abbrev cX10_fail : ByteArray := prog_12_method_4_code
def yX10_fail : MethodName := ⟨RX10, "fail", "(I)V"⟩
abbrev cX10_read : ByteArray := prog_12_method_5_code
def yX10_read : MethodName := ⟨RX10, "read", "(J)V"⟩
abbrev cX10_nextLine : ByteArray := prog_12_method_6_code
def yX10_nextLine : MethodName := ⟨RX10, "nextLine", "()V"⟩
def RX11 : String := "GeoThreads"
def TX11 : u_T := fun k => match k with
  | 0 => ("GeoThreads", "threads", "I", true)
  | 1 => ("GeoThreads", "memory", "I", true)
  | 2 => ("GeoThreads", "plan", "LGeoThreads$Plan;", true)
  | 3 => ("GeoThreads", "course", "LGeoThreads$Course;", true)
  | 4 => ("GeoThreads", "alone", "LGeoThreads$Course;", true)
  | _ => ("GeoThreads", "together", "LGeoThreads$Course;", true)
def tyX11 : Nat → FieldType := fun k => match k with
  | 0 => .int
  | 1 => .int
  | 2 => .object "GeoThreads$Plan"
  | 3 => .object "GeoThreads$Course"
  | 4 => .object "GeoThreads$Course"
  | _ => .object "GeoThreads$Course"
theorem nmX11 : ∀ a, a < 6 → ∀ b, b < 6 → a ≠ b → (TX11 a).2.1 ≠ (TX11 b).2.1 := by decide +kernel
theorem tyX11_ok : ∀ k, k < 6 → parseFieldDescriptor (TX11 k).2.2.1 = some (tyX11 k) := by decide +kernel
abbrev cX11_init : ByteArray := prog_1_method_1_code
def yX11_init : MethodName := ⟨RX11, "<init>", "(II)V"⟩
abbrev cX11_grid : ByteArray := prog_1_method_2_code
def yX11_grid : MethodName := ⟨RX11, "grid", "(III)I"⟩
abbrev cX11_line : ByteArray := prog_1_method_3_code
def yX11_line : MethodName := ⟨RX11, "line", "(III)I"⟩
abbrev cX11_put : ByteArray := prog_1_method_4_code
def yX11_put : MethodName := ⟨RX11, "put", "(IIIJ)I"⟩
abbrev cX11_item : ByteArray := prog_1_method_5_code
def yX11_item : MethodName := ⟨RX11, "item", "(IIII)J"⟩
abbrev cX11_lay : ByteArray := prog_1_method_6_code
def yX11_lay : MethodName := ⟨RX11, "lay", "(IIII)I"⟩
abbrev cX11_size : ByteArray := prog_1_method_7_code
def yX11_size : MethodName := ⟨RX11, "size", "(II)I"⟩
abbrev cX11_way : ByteArray := prog_1_method_8_code
def yX11_way : MethodName := ⟨RX11, "way", "(ZIJIII)I"⟩
abbrev cX11_reader : ByteArray := prog_1_method_9_code
def yX11_reader : MethodName := ⟨RX11, "reader", "(ZIIII)I"⟩
abbrev cX11_search : ByteArray := prog_1_method_10_code
def yX11_search : MethodName := ⟨RX11, "search", "(IIIJ)I"⟩
abbrev cX11_share : ByteArray := prog_1_method_11_code
def yX11_share : MethodName := ⟨RX11, "share", "(IIIII)I"⟩
abbrev cX11_turn : ByteArray := prog_1_method_12_code
def yX11_turn : MethodName := ⟨RX11, "turn", "(I)I"⟩
abbrev cX11_run : ByteArray := prog_1_method_13_code
def yX11_run : MethodName := ⟨RX11, "run", "(I)I"⟩
abbrev cX11_interrupt : ByteArray := prog_1_method_14_code
def yX11_interrupt : MethodName := ⟨RX11, "interrupt", "(I)I"⟩
abbrev cX11_close : ByteArray := prog_1_method_15_code
def yX11_close : MethodName := ⟨RX11, "close", "()I"⟩
abbrev cX11_anew : ByteArray := prog_1_method_16_code
def yX11_anew : MethodName := ⟨RX11, "anew", "()I"⟩
abbrev cX11_taken : ByteArray := prog_1_method_17_code
def yX11_taken : MethodName := ⟨RX11, "taken", "()I"⟩
abbrev cX11_answer : ByteArray := prog_1_method_18_code
def yX11_answer : MethodName := ⟨RX11, "answer", "(I)J"⟩
abbrev cX11_told : ByteArray := prog_1_method_19_code
def yX11_told : MethodName := ⟨RX11, "told", "(II)I"⟩
abbrev cX11_best : ByteArray := prog_1_method_20_code
def yX11_best : MethodName := ⟨RX11, "best", "(II)J"⟩
abbrev cX11_note : ByteArray := prog_1_method_21_code
def yX11_note : MethodName := ⟨RX11, "note", "(I)I"⟩
abbrev cX11_finished : ByteArray := prog_1_method_22_code
def yX11_finished : MethodName := ⟨RX11, "finished", "(I)I"⟩
abbrev cX11_count : ByteArray := prog_1_method_23_code
def yX11_count : MethodName := ⟨RX11, "count", "(I)I"⟩
abbrev cX11_equal : ByteArray := prog_1_method_24_code
def yX11_equal : MethodName := ⟨RX11, "equal", "(I)I"⟩
abbrev cX11_refusal : ByteArray := prog_1_method_25_code
def yX11_refusal : MethodName := ⟨RX11, "refusal", "(I)I"⟩
abbrev cX11_isKind : ByteArray := prog_1_method_26_code
def yX11_isKind : MethodName := ⟨RX11, "isKind", "(I)Z"⟩
abbrev cX11_isThread : ByteArray := prog_1_method_27_code
def yX11_isThread : MethodName := ⟨RX11, "isThread", "(I)Z"⟩
abbrev cX11_isTask : ByteArray := prog_1_method_28_code
def yX11_isTask : MethodName := ⟨RX11, "isTask", "(I)Z"⟩
abbrev cX11_isLoad : ByteArray := prog_1_method_29_code
def yX11_isLoad : MethodName := ⟨RX11, "isLoad", "(II)Z"⟩
abbrev cX11_refusalOfTask : ByteArray := prog_1_method_30_code
def yX11_refusalOfTask : MethodName := ⟨RX11, "refusalOfTask", "()I"⟩
abbrev cX11_newLine : ByteArray := prog_1_method_31_code
def yX11_newLine : MethodName := ⟨RX11, "newLine", "(II)LGeoThreads$Line;"⟩
abbrev cX11_numberOf : ByteArray := prog_1_method_32_code
def yX11_numberOf : MethodName := ⟨RX11, "numberOf", "(IJ)J"⟩
def RX12 : String := "GeoThreadsModel"
def TX12 : u_T := fun k => match k with
  | 0 => ("GeoThreadsModel", "thrown", "I", false)
  | 1 => ("GeoThreadsModel", "threads", "I", true)
  | 2 => ("GeoThreadsModel", "memory", "I", true)
  | 3 => ("GeoThreadsModel", "grids", "I", false)
  | 4 => ("GeoThreadsModel", "gridKind", "[I", true)
  | 5 => ("GeoThreadsModel", "gridSize", "[I", true)
  | 6 => ("GeoThreadsModel", "place", "[I", true)
  | 7 => ("GeoThreadsModel", "lines", "I", false)
  | 8 => ("GeoThreadsModel", "items", "[I", true)
  | 9 => ("GeoThreadsModel", "number", "[J", true)
  | 10 => ("GeoThreadsModel", "tasks", "I", false)
  | 11 => ("GeoThreadsModel", "sort", "[I", true)
  | 12 => ("GeoThreadsModel", "parts", "[I", true)
  | 13 => ("GeoThreadsModel", "told", "[J", true)
  | 14 => ("GeoThreadsModel", "fails", "[I", true)
  | 15 => ("GeoThreadsModel", "need", "[I", true)
  | 16 => ("GeoThreadsModel", "budget", "[I", true)
  | 17 => ("GeoThreadsModel", "one", "[I", true)
  | 18 => ("GeoThreadsModel", "two", "[I", true)
  | 19 => ("GeoThreadsModel", "three", "[I", true)
  | 20 => ("GeoThreadsModel", "searches", "I", false)
  | 21 => ("GeoThreadsModel", "searchGrid", "[I", true)
  | 22 => ("GeoThreadsModel", "searchKind", "[I", true)
  | 23 => ("GeoThreadsModel", "divisor", "[I", true)
  | 24 => ("GeoThreadsModel", "limitTold", "[J", true)
  | 25 => ("GeoThreadsModel", "scheduled", "I", false)
  | 26 => ("GeoThreadsModel", "schedule", "[I", true)
  | 27 => ("GeoThreadsModel", "now", "[I", true)
  | 28 => ("GeoThreadsModel", "kept", "[I", true)
  | 29 => ("GeoThreadsModel", "great", "[J", true)
  | 30 => ("GeoThreadsModel", "greatKept", "[J", true)
  | 31 => ("GeoThreadsModel", "going", "I", false)
  | 32 => ("GeoThreadsModel", "turnsTold", "I", false)
  | 33 => ("GeoThreadsModel", "sum", "J", false)
  | 34 => ("GeoThreadsModel", "first", "[I", true)
  | _ => ("GeoThreadsModel", "firstGreat", "[J", true)
def tyX12 : Nat → FieldType := fun k => match k with
  | 0 => .int
  | 1 => .int
  | 2 => .int
  | 3 => .int
  | 4 => .array .int
  | 5 => .array .int
  | 6 => .array .int
  | 7 => .int
  | 8 => .array .int
  | 9 => .array .long
  | 10 => .int
  | 11 => .array .int
  | 12 => .array .int
  | 13 => .array .long
  | 14 => .array .int
  | 15 => .array .int
  | 16 => .array .int
  | 17 => .array .int
  | 18 => .array .int
  | 19 => .array .int
  | 20 => .int
  | 21 => .array .int
  | 22 => .array .int
  | 23 => .array .int
  | 24 => .array .long
  | 25 => .int
  | 26 => .array .int
  | 27 => .array .int
  | 28 => .array .int
  | 29 => .array .long
  | 30 => .array .long
  | 31 => .int
  | 32 => .int
  | 33 => .long
  | 34 => .array .int
  | _ => .array .long
theorem nmX12 : ∀ a, a < 36 → ∀ b, b < 36 → a ≠ b → (TX12 a).2.1 ≠ (TX12 b).2.1 := by decide +kernel
theorem tyX12_ok : ∀ k, k < 36 → parseFieldDescriptor (TX12 k).2.2.1 = some (tyX12 k) := by decide +kernel
abbrev cX12_init : ByteArray := prog_14_method_1_code
def yX12_init : MethodName := ⟨RX12, "<init>", "(II)V"⟩
abbrev cX12_in : ByteArray := prog_14_method_3_code
def yX12_in : MethodName := ⟨RX12, "in", "(III)Z"⟩
abbrev cX12_begins : ByteArray := prog_14_method_4_code
def yX12_begins : MethodName := ⟨RX12, "begins", "()V"⟩
abbrev cX12_isOpen : ByteArray := prog_14_method_5_code
def yX12_isOpen : MethodName := ⟨RX12, "isOpen", "()Z"⟩
abbrev cX12_isGrid : ByteArray := prog_14_method_6_code
def yX12_isGrid : MethodName := ⟨RX12, "isGrid", "(I)Z"⟩
abbrev cX12_isTask : ByteArray := prog_14_method_7_code
def yX12_isTask : MethodName := ⟨RX12, "isTask", "(I)Z"⟩
abbrev cX12_newLine : ByteArray := prog_14_method_8_code
def yX12_newLine : MethodName := ⟨RX12, "newLine", "(I)I"⟩
abbrev cX12_grid : ByteArray := prog_14_method_9_code
def yX12_grid : MethodName := ⟨RX12, "grid", "(III)I"⟩
abbrev cX12_isLine : ByteArray := prog_14_method_10_code
def yX12_isLine : MethodName := ⟨RX12, "isLine", "(II)Z"⟩
abbrev cX12_line : ByteArray := prog_14_method_11_code
def yX12_line : MethodName := ⟨RX12, "line", "(III)I"⟩
abbrev cX12_against : ByteArray := prog_14_method_12_code
def yX12_against : MethodName := ⟨RX12, "against", "(III)I"⟩
abbrev cX12_asKind : ByteArray := prog_14_method_13_code
def yX12_asKind : MethodName := ⟨RX12, "asKind", "(IJ)J"⟩
abbrev cX12_put : ByteArray := prog_14_method_14_code
def yX12_put : MethodName := ⟨RX12, "put", "(IIIJ)I"⟩
abbrev cX12_item : ByteArray := prog_14_method_15_code
def yX12_item : MethodName := ⟨RX12, "item", "(IIII)J"⟩
abbrev cX12_lay : ByteArray := prog_14_method_16_code
def yX12_lay : MethodName := ⟨RX12, "lay", "(IIII)I"⟩
abbrev cX12_size : ByteArray := prog_14_method_17_code
def yX12_size : MethodName := ⟨RX12, "size", "(II)I"⟩
abbrev cX12_mayNeed : ByteArray := prog_14_method_18_code
def yX12_mayNeed : MethodName := ⟨RX12, "mayNeed", "(II)Z"⟩
abbrev cX12_comes : ByteArray := prog_14_method_19_code
def yX12_comes : MethodName := ⟨RX12, "comes", "(III)I"⟩
abbrev cX12_way : ByteArray := prog_14_method_20_code
def yX12_way : MethodName := ⟨RX12, "way", "(ZIJIII)I"⟩
abbrev cX12_reader : ByteArray := prog_14_method_21_code
def yX12_reader : MethodName := ⟨RX12, "reader", "(ZIIII)I"⟩
abbrev cX12_search : ByteArray := prog_14_method_22_code
def yX12_search : MethodName := ⟨RX12, "search", "(IIIJ)I"⟩
abbrev cX12_share : ByteArray := prog_14_method_23_code
def yX12_share : MethodName := ⟨RX12, "share", "(IIIII)I"⟩
abbrev cX12_turn : ByteArray := prog_14_method_24_code
def yX12_turn : MethodName := ⟨RX12, "turn", "(I)I"⟩
abbrev cX12_at : ByteArray := prog_14_method_25_code
def yX12_at : MethodName := ⟨RX12, "at", "(II)I"⟩
abbrev cX12_set : ByteArray := prog_14_method_26_code
def yX12_set : MethodName := ⟨RX12, "set", "(III)V"⟩
abbrev cX12_more : ByteArray := prog_14_method_27_code
def yX12_more : MethodName := ⟨RX12, "more", "(II)V"⟩
abbrev cX12_failed : ByteArray := prog_14_method_28_code
def yX12_failed : MethodName := ⟨RX12, "failed", "(II)I"⟩
abbrev cX12_worth : ByteArray := prog_14_method_29_code
def yX12_worth : MethodName := ⟨RX12, "worth", "(J)J"⟩
abbrev cX12_step : ByteArray := prog_14_method_30_code
def yX12_step : MethodName := ⟨RX12, "step", "(I)I"⟩
abbrev cX12_plain : ByteArray := prog_14_method_31_code
def yX12_plain : MethodName := ⟨RX12, "plain", "(I)I"⟩
abbrev cX12_read : ByteArray := prog_14_method_32_code
def yX12_read : MethodName := ⟨RX12, "read", "(I)I"⟩
abbrev cX12_lineFault : ByteArray := prog_14_method_33_code
def yX12_lineFault : MethodName := ⟨RX12, "lineFault", "(II)I"⟩
abbrev cX12_finds : ByteArray := prog_14_method_34_code
def yX12_finds : MethodName := ⟨RX12, "finds", "(IIJ)V"⟩
abbrev cX12_goes : ByteArray := prog_14_method_35_code
def yX12_goes : MethodName := ⟨RX12, "goes", "(III)I"⟩
abbrev cX12_shared : ByteArray := prog_14_method_36_code
def yX12_shared : MethodName := ⟨RX12, "shared", "(I)I"⟩
abbrev cX12_notes : ByteArray := prog_14_method_37_code
def yX12_notes : MethodName := ⟨RX12, "notes", "(I)V"⟩
abbrev cX12_ends : ByteArray := prog_14_method_38_code
def yX12_ends : MethodName := ⟨RX12, "ends", "(III)V"⟩
abbrev cX12_falls : ByteArray := prog_14_method_39_code
def yX12_falls : MethodName := ⟨RX12, "falls", "(II)V"⟩
abbrev cX12_takes : ByteArray := prog_14_method_40_code
def yX12_takes : MethodName := ⟨RX12, "takes", "(I)V"⟩
abbrev cX12_looks : ByteArray := prog_14_method_41_code
def yX12_looks : MethodName := ⟨RX12, "looks", "()V"⟩
abbrev cX12_turns : ByteArray := prog_14_method_42_code
def yX12_turns : MethodName := ⟨RX12, "turns", "(I)V"⟩
abbrev cX12_again : ByteArray := prog_14_method_43_code
def yX12_again : MethodName := ⟨RX12, "again", "()V"⟩
abbrev cX12_isLost : ByteArray := prog_14_method_44_code
def yX12_isLost : MethodName := ⟨RX12, "isLost", "(II)Z"⟩
abbrev cX12_run : ByteArray := prog_14_method_45_code
def yX12_run : MethodName := ⟨RX12, "run", "(I)I"⟩
abbrev cX12_interrupt : ByteArray := prog_14_method_46_code
def yX12_interrupt : MethodName := ⟨RX12, "interrupt", "(I)I"⟩
abbrev cX12_close : ByteArray := prog_14_method_47_code
def yX12_close : MethodName := ⟨RX12, "close", "()I"⟩
abbrev cX12_anew : ByteArray := prog_14_method_48_code
def yX12_anew : MethodName := ⟨RX12, "anew", "()I"⟩
abbrev cX12_taken : ByteArray := prog_14_method_49_code
def yX12_taken : MethodName := ⟨RX12, "taken", "()I"⟩
abbrev cX12_answerOf : ByteArray := prog_14_method_50_code
def yX12_answerOf : MethodName := ⟨RX12, "answerOf", "(I)J"⟩
abbrev cX12_answer : ByteArray := prog_14_method_51_code
def yX12_answer : MethodName := ⟨RX12, "answer", "(I)J"⟩
abbrev cX12_told : ByteArray := prog_14_method_52_code
def yX12_told : MethodName := ⟨RX12, "told", "(II)I"⟩
abbrev cX12_best : ByteArray := prog_14_method_53_code
def yX12_best : MethodName := ⟨RX12, "best", "(II)J"⟩
abbrev cX12_note : ByteArray := prog_14_method_54_code
def yX12_note : MethodName := ⟨RX12, "note", "(I)I"⟩
abbrev cX12_finished : ByteArray := prog_14_method_55_code
def yX12_finished : MethodName := ⟨RX12, "finished", "(I)I"⟩
abbrev cX12_count : ByteArray := prog_14_method_56_code
def yX12_count : MethodName := ⟨RX12, "count", "(I)I"⟩
abbrev cX12_keep : ByteArray := prog_14_method_57_code
def yX12_keep : MethodName := ⟨RX12, "keep", "()V"⟩
abbrev cX12_bring : ByteArray := prog_14_method_58_code
def yX12_bring : MethodName := ⟨RX12, "bring", "()V"⟩
abbrev cX12_through : ByteArray := prog_14_method_59_code
def yX12_through : MethodName := ⟨RX12, "through", "(I)V"⟩
abbrev cX12_equal : ByteArray := prog_14_method_60_code
def yX12_equal : MethodName := ⟨RX12, "equal", "(I)I"⟩
abbrev cX12_isLikeFirst : ByteArray := prog_14_method_61_code
def yX12_isLikeFirst : MethodName := ⟨RX12, "isLikeFirst", "()Z"⟩
def RL : String := "GeoThreadsLaw"
abbrev cL_cell : ByteArray := method_2_code
def yL_cell : MethodName := ⟨RL, "cell", "([II)I"⟩
abbrev cL_law : ByteArray := code
def yL_law : MethodName := ⟨RL, "law", "([I)Z"⟩
abbrev vwCl : List vw_C := [(RX0, TX0, 19), (RX1, TX1, 2), (RX2, TX2, 3), (RX3, TX3, 2), (RX4, TX4, 8), (RX5, TX5, 5), (RX6, TX6, 4), (RX7, TX7, 7), (RX9, TX9, 6), (RX10, TX10, 13), (RX11, TX11, 6), (RX12, TX12, 36)]
end
section
theorem dX0_init_0 : decode cX0_init 0 = .ok (.aload_n 0, 1) := by decide +kernel
theorem dX0_init_1 : decode cX0_init 1 = .ok (.invokespecial 3, 3) := by decide +kernel
theorem dX0_init_4 : decode cX0_init 4 = .ok (.aload_n 0, 1) := by decide +kernel
theorem dX0_init_5 : decode cX0_init 5 = .ok (.bipush 20, 2) := by decide +kernel
theorem dX0_init_7 : decode cX0_init 7 = .ok (.anewarray 9, 3) := by decide +kernel
theorem dX0_init_10 : decode cX0_init 10 = .ok (.putfield 11, 3) := by decide +kernel
theorem dX0_init_13 : decode cX0_init 13 = .ok (.aload_n 0, 1) := by decide +kernel
theorem dX0_init_14 : decode cX0_init 14 = .ok (.bipush 8, 2) := by decide +kernel
theorem dX0_init_16 : decode cX0_init 16 = .ok (.anewarray 17, 3) := by decide +kernel
theorem dX0_init_19 : decode cX0_init 19 = .ok (.putfield 19, 3) := by decide +kernel
theorem dX0_init_22 : decode cX0_init 22 = .ok (.aload_n 0, 1) := by decide +kernel
theorem dX0_init_23 : decode cX0_init 23 = .ok (.new 9, 3) := by decide +kernel
theorem dX0_init_26 : decode cX0_init 26 = .ok (.dup, 1) := by decide +kernel
theorem dX0_init_27 : decode cX0_init 27 = .ok (.invokespecial 23, 3) := by decide +kernel
theorem dX0_init_30 : decode cX0_init 30 = .ok (.putfield 24, 3) := by decide +kernel
theorem dX0_init_33 : decode cX0_init 33 = .ok (.aload_n 0, 1) := by decide +kernel
theorem dX0_init_34 : decode cX0_init 34 = .ok (.bipush 6, 2) := by decide +kernel
theorem dX0_init_36 : decode cX0_init 36 = .ok (.newarray .int, 2) := by decide +kernel
theorem dX0_init_38 : decode cX0_init 38 = .ok (.putfield 28, 3) := by decide +kernel
theorem dX0_init_41 : decode cX0_init 41 = .ok (.aload_n 0, 1) := by decide +kernel
theorem dX0_init_42 : decode cX0_init 42 = .ok (.bipush 6, 2) := by decide +kernel
theorem dX0_init_44 : decode cX0_init 44 = .ok (.newarray .int, 2) := by decide +kernel
theorem dX0_init_46 : decode cX0_init 46 = .ok (.putfield 32, 3) := by decide +kernel
theorem dX0_init_49 : decode cX0_init 49 = .ok (.aload_n 0, 1) := by decide +kernel
theorem dX0_init_50 : decode cX0_init 50 = .ok (.bipush 40, 2) := by decide +kernel
theorem dX0_init_52 : decode cX0_init 52 = .ok (.newarray .int, 2) := by decide +kernel
theorem dX0_init_54 : decode cX0_init 54 = .ok (.putfield 35, 3) := by decide +kernel
theorem dX0_init_57 : decode cX0_init 57 = .ok (.aload_n 0, 1) := by decide +kernel
theorem dX0_init_58 : decode cX0_init 58 = .ok (.iconst 1, 1) := by decide +kernel
theorem dX0_init_59 : decode cX0_init 59 = .ok (.putfield 38, 3) := by decide +kernel
theorem dX0_init_62 : decode cX0_init 62 = .ok (.aload_n 0, 1) := by decide +kernel
theorem dX0_init_63 : decode cX0_init 63 = .ok (.aload_n 1, 1) := by decide +kernel
theorem dX0_init_64 : decode cX0_init 64 = .ok (.putfield 42, 3) := by decide +kernel
theorem dX0_init_67 : decode cX0_init 67 = .ok (.aload_n 0, 1) := by decide +kernel
theorem dX0_init_68 : decode cX0_init 68 = .ok (.iload_n 2, 1) := by decide +kernel
theorem dX0_init_69 : decode cX0_init 69 = .ok (.putfield 46, 3) := by decide +kernel
theorem dX0_init_72 : decode cX0_init 72 = .ok (.aload_n 0, 1) := by decide +kernel
theorem dX0_init_73 : decode cX0_init 73 = .ok (.iload_n 3, 1) := by decide +kernel
theorem dX0_init_74 : decode cX0_init 74 = .ok (.putfield 49, 3) := by decide +kernel
theorem dX0_init_77 : decode cX0_init 77 = .ok (.iconst 0, 1) := by decide +kernel
theorem dX0_init_78 : decode cX0_init 78 = .ok (.istore 4, 2) := by decide +kernel
theorem dX0_init_80 : decode cX0_init 80 = .ok (.iload 4, 2) := by decide +kernel
theorem dX0_init_82 : decode cX0_init 82 = .ok (.bipush 20, 2) := by decide +kernel
theorem dX0_init_84 : decode cX0_init 84 = .ok (.if_icmp .ge 23, 3) := by decide +kernel
theorem dX0_init_87 : decode cX0_init 87 = .ok (.aload_n 0, 1) := by decide +kernel
theorem dX0_init_88 : decode cX0_init 88 = .ok (.getfield 11, 3) := by decide +kernel
theorem dX0_init_91 : decode cX0_init 91 = .ok (.iload 4, 2) := by decide +kernel
theorem dX0_init_93 : decode cX0_init 93 = .ok (.new 9, 3) := by decide +kernel
theorem dX0_init_96 : decode cX0_init 96 = .ok (.dup, 1) := by decide +kernel
theorem dX0_init_97 : decode cX0_init 97 = .ok (.invokespecial 23, 3) := by decide +kernel
theorem dX0_init_100 : decode cX0_init 100 = .ok (.aastore, 1) := by decide +kernel
theorem dX0_init_101 : decode cX0_init 101 = .ok (.iinc 4 1, 3) := by decide +kernel
theorem dX0_init_104 : decode cX0_init 104 = .ok (.goto (-24), 3) := by decide +kernel
theorem dX0_init_107 : decode cX0_init 107 = .ok (.iconst 0, 1) := by decide +kernel
theorem dX0_init_108 : decode cX0_init 108 = .ok (.istore 4, 2) := by decide +kernel
theorem dX0_init_110 : decode cX0_init 110 = .ok (.iload 4, 2) := by decide +kernel
theorem dX0_init_112 : decode cX0_init 112 = .ok (.bipush 8, 2) := by decide +kernel
theorem dX0_init_114 : decode cX0_init 114 = .ok (.if_icmp .ge 23, 3) := by decide +kernel
theorem dX0_init_117 : decode cX0_init 117 = .ok (.aload_n 0, 1) := by decide +kernel
theorem dX0_init_118 : decode cX0_init 118 = .ok (.getfield 19, 3) := by decide +kernel
theorem dX0_init_121 : decode cX0_init 121 = .ok (.iload 4, 2) := by decide +kernel
theorem dX0_init_123 : decode cX0_init 123 = .ok (.new 17, 3) := by decide +kernel
theorem dX0_init_126 : decode cX0_init 126 = .ok (.dup, 1) := by decide +kernel
theorem dX0_init_127 : decode cX0_init 127 = .ok (.invokespecial 53, 3) := by decide +kernel
theorem dX0_init_130 : decode cX0_init 130 = .ok (.aastore, 1) := by decide +kernel
theorem dX0_init_131 : decode cX0_init 131 = .ok (.iinc 4 1, 3) := by decide +kernel
theorem dX0_init_134 : decode cX0_init 134 = .ok (.goto (-24), 3) := by decide +kernel
theorem dX0_init_137 : decode cX0_init 137 = .ok (.return_, 1) := by decide +kernel
theorem dX0_begin_0 : decode cX0_begin 0 = .ok (.iconst 0, 1) := by decide +kernel
theorem dX0_begin_1 : decode cX0_begin 1 = .ok (.istore_n 2, 1) := by decide +kernel
theorem dX0_begin_2 : decode cX0_begin 2 = .ok (.iload_n 2, 1) := by decide +kernel
theorem dX0_begin_3 : decode cX0_begin 3 = .ok (.bipush 20, 2) := by decide +kernel
theorem dX0_begin_5 : decode cX0_begin 5 = .ok (.if_icmp .ge 18, 3) := by decide +kernel
theorem dX0_begin_8 : decode cX0_begin 8 = .ok (.aload_n 0, 1) := by decide +kernel
theorem dX0_begin_9 : decode cX0_begin 9 = .ok (.getfield 11, 3) := by decide +kernel
theorem dX0_begin_12 : decode cX0_begin 12 = .ok (.iload_n 2, 1) := by decide +kernel
theorem dX0_begin_13 : decode cX0_begin 13 = .ok (.aaload, 1) := by decide +kernel
theorem dX0_begin_14 : decode cX0_begin 14 = .ok (.invokevirtual 54, 3) := by decide +kernel
theorem dX0_begin_17 : decode cX0_begin 17 = .ok (.iinc 2 1, 3) := by decide +kernel
theorem dX0_begin_20 : decode cX0_begin 20 = .ok (.goto (-18), 3) := by decide +kernel
theorem dX0_begin_23 : decode cX0_begin 23 = .ok (.iconst 0, 1) := by decide +kernel
theorem dX0_begin_24 : decode cX0_begin 24 = .ok (.istore_n 2, 1) := by decide +kernel
theorem dX0_begin_25 : decode cX0_begin 25 = .ok (.iload_n 2, 1) := by decide +kernel
theorem dX0_begin_26 : decode cX0_begin 26 = .ok (.aload_n 0, 1) := by decide +kernel
theorem dX0_begin_27 : decode cX0_begin 27 = .ok (.getfield 42, 3) := by decide +kernel
theorem dX0_begin_30 : decode cX0_begin 30 = .ok (.getfield 57, 3) := by decide +kernel
theorem dX0_begin_33 : decode cX0_begin 33 = .ok (.if_icmp .ge 30, 3) := by decide +kernel
theorem dX0_begin_36 : decode cX0_begin 36 = .ok (.aload_n 0, 1) := by decide +kernel
theorem dX0_begin_37 : decode cX0_begin 37 = .ok (.getfield 19, 3) := by decide +kernel
theorem dX0_begin_40 : decode cX0_begin 40 = .ok (.iload_n 2, 1) := by decide +kernel
theorem dX0_begin_41 : decode cX0_begin 41 = .ok (.aaload, 1) := by decide +kernel
theorem dX0_begin_42 : decode cX0_begin 42 = .ok (.aload_n 0, 1) := by decide +kernel
theorem dX0_begin_43 : decode cX0_begin 43 = .ok (.getfield 42, 3) := by decide +kernel
theorem dX0_begin_46 : decode cX0_begin 46 = .ok (.getfield 62, 3) := by decide +kernel
theorem dX0_begin_49 : decode cX0_begin 49 = .ok (.iload_n 2, 1) := by decide +kernel
theorem dX0_begin_50 : decode cX0_begin 50 = .ok (.aaload, 1) := by decide +kernel
theorem dX0_begin_51 : decode cX0_begin 51 = .ok (.getfield 66, 3) := by decide +kernel
theorem dX0_begin_54 : decode cX0_begin 54 = .ok (.invokevirtual 72, 3) := by decide +kernel
theorem dX0_begin_57 : decode cX0_begin 57 = .ok (.iinc 2 1, 3) := by decide +kernel
theorem dX0_begin_60 : decode cX0_begin 60 = .ok (.goto (-35), 3) := by decide +kernel
theorem dX0_begin_63 : decode cX0_begin 63 = .ok (.iconst 0, 1) := by decide +kernel
theorem dX0_begin_64 : decode cX0_begin 64 = .ok (.istore_n 2, 1) := by decide +kernel
theorem dX0_begin_65 : decode cX0_begin 65 = .ok (.iload_n 2, 1) := by decide +kernel
theorem dX0_begin_66 : decode cX0_begin 66 = .ok (.bipush 6, 2) := by decide +kernel
theorem dX0_begin_68 : decode cX0_begin 68 = .ok (.if_icmp .ge 24, 3) := by decide +kernel
theorem dX0_begin_71 : decode cX0_begin 71 = .ok (.aload_n 0, 1) := by decide +kernel
theorem dX0_begin_72 : decode cX0_begin 72 = .ok (.getfield 28, 3) := by decide +kernel
theorem dX0_begin_75 : decode cX0_begin 75 = .ok (.iload_n 2, 1) := by decide +kernel
theorem dX0_begin_76 : decode cX0_begin 76 = .ok (.bipush (-9), 2) := by decide +kernel
theorem dX0_begin_78 : decode cX0_begin 78 = .ok (.iastore, 1) := by decide +kernel
theorem dX0_begin_79 : decode cX0_begin 79 = .ok (.aload_n 0, 1) := by decide +kernel
theorem dX0_begin_80 : decode cX0_begin 80 = .ok (.getfield 32, 3) := by decide +kernel
theorem dX0_begin_83 : decode cX0_begin 83 = .ok (.iload_n 2, 1) := by decide +kernel
theorem dX0_begin_84 : decode cX0_begin 84 = .ok (.iconst 0, 1) := by decide +kernel
theorem dX0_begin_85 : decode cX0_begin 85 = .ok (.iastore, 1) := by decide +kernel
theorem dX0_begin_86 : decode cX0_begin 86 = .ok (.iinc 2 1, 3) := by decide +kernel
theorem dX0_begin_89 : decode cX0_begin 89 = .ok (.goto (-24), 3) := by decide +kernel
theorem dX0_begin_92 : decode cX0_begin 92 = .ok (.aload_n 0, 1) := by decide +kernel
theorem dX0_begin_93 : decode cX0_begin 93 = .ok (.iload_n 1, 1) := by decide +kernel
theorem dX0_begin_94 : decode cX0_begin 94 = .ok (.putfield 38, 3) := by decide +kernel
theorem dX0_begin_97 : decode cX0_begin 97 = .ok (.aload_n 0, 1) := by decide +kernel
theorem dX0_begin_98 : decode cX0_begin 98 = .ok (.iconst 0, 1) := by decide +kernel
theorem dX0_begin_99 : decode cX0_begin 99 = .ok (.putfield 75, 3) := by decide +kernel
theorem dX0_begin_102 : decode cX0_begin 102 = .ok (.aload_n 0, 1) := by decide +kernel
theorem dX0_begin_103 : decode cX0_begin 103 = .ok (.aload_n 0, 1) := by decide +kernel
theorem dX0_begin_104 : decode cX0_begin 104 = .ok (.getfield 46, 3) := by decide +kernel
theorem dX0_begin_107 : decode cX0_begin 107 = .ok (.putfield 78, 3) := by decide +kernel
theorem dX0_begin_110 : decode cX0_begin 110 = .ok (.aload_n 0, 1) := by decide +kernel
theorem dX0_begin_111 : decode cX0_begin 111 = .ok (.iconst 0, 1) := by decide +kernel
theorem dX0_begin_112 : decode cX0_begin 112 = .ok (.putfield 81, 3) := by decide +kernel
theorem dX0_begin_115 : decode cX0_begin 115 = .ok (.aload_n 0, 1) := by decide +kernel
theorem dX0_begin_116 : decode cX0_begin 116 = .ok (.iconst 0, 1) := by decide +kernel
theorem dX0_begin_117 : decode cX0_begin 117 = .ok (.putfield 84, 3) := by decide +kernel
theorem dX0_begin_120 : decode cX0_begin 120 = .ok (.aload_n 0, 1) := by decide +kernel
theorem dX0_begin_121 : decode cX0_begin 121 = .ok (.iconst 0, 1) := by decide +kernel
theorem dX0_begin_122 : decode cX0_begin 122 = .ok (.putfield 87, 3) := by decide +kernel
theorem dX0_begin_125 : decode cX0_begin 125 = .ok (.aload_n 0, 1) := by decide +kernel
theorem dX0_begin_126 : decode cX0_begin 126 = .ok (.bipush (-9), 2) := by decide +kernel
theorem dX0_begin_128 : decode cX0_begin 128 = .ok (.putfield 90, 3) := by decide +kernel
theorem dX0_begin_131 : decode cX0_begin 131 = .ok (.aload_n 0, 1) := by decide +kernel
theorem dX0_begin_132 : decode cX0_begin 132 = .ok (.iconst 0, 1) := by decide +kernel
theorem dX0_begin_133 : decode cX0_begin 133 = .ok (.putfield 93, 3) := by decide +kernel
theorem dX0_begin_136 : decode cX0_begin 136 = .ok (.aload_n 0, 1) := by decide +kernel
theorem dX0_begin_137 : decode cX0_begin 137 = .ok (.iconst 0, 1) := by decide +kernel
theorem dX0_begin_138 : decode cX0_begin 138 = .ok (.putfield 96, 3) := by decide +kernel
theorem dX0_begin_141 : decode cX0_begin 141 = .ok (.aload_n 0, 1) := by decide +kernel
theorem dX0_begin_142 : decode cX0_begin 142 = .ok (.iconst 0, 1) := by decide +kernel
theorem dX0_begin_143 : decode cX0_begin 143 = .ok (.putfield 99, 3) := by decide +kernel
theorem dX0_begin_146 : decode cX0_begin 146 = .ok (.return_, 1) := by decide +kernel
theorem dX0_goOn_0 : decode cX0_goOn 0 = .ok (.aload_n 0, 1) := by decide +kernel
theorem dX0_goOn_1 : decode cX0_goOn 1 = .ok (.getfield 93, 3) := by decide +kernel
theorem dX0_goOn_4 : decode cX0_goOn 4 = .ok (.ifCond .ne 19, 3) := by decide +kernel
theorem dX0_goOn_7 : decode cX0_goOn 7 = .ok (.aload_n 0, 1) := by decide +kernel
theorem dX0_goOn_8 : decode cX0_goOn 8 = .ok (.iconst 1, 1) := by decide +kernel
theorem dX0_goOn_9 : decode cX0_goOn 9 = .ok (.putfield 93, 3) := by decide +kernel
theorem dX0_goOn_12 : decode cX0_goOn 12 = .ok (.aload_n 0, 1) := by decide +kernel
theorem dX0_goOn_13 : decode cX0_goOn 13 = .ok (.aload_n 0, 1) := by decide +kernel
theorem dX0_goOn_14 : decode cX0_goOn 14 = .ok (.getfield 42, 3) := by decide +kernel
theorem dX0_goOn_17 : decode cX0_goOn 17 = .ok (.getfield 102, 3) := by decide +kernel
theorem dX0_goOn_20 : decode cX0_goOn 20 = .ok (.putfield 96, 3) := by decide +kernel
theorem dX0_goOn_23 : decode cX0_goOn 23 = .ok (.iconst 0, 1) := by decide +kernel
theorem dX0_goOn_24 : decode cX0_goOn 24 = .ok (.istore_n 2, 1) := by decide +kernel
theorem dX0_goOn_25 : decode cX0_goOn 25 = .ok (.iload_n 2, 1) := by decide +kernel
theorem dX0_goOn_26 : decode cX0_goOn 26 = .ok (.iload_n 1, 1) := by decide +kernel
theorem dX0_goOn_27 : decode cX0_goOn 27 = .ok (.if_icmp .ge 24, 3) := by decide +kernel
theorem dX0_goOn_30 : decode cX0_goOn 30 = .ok (.aload_n 0, 1) := by decide +kernel
theorem dX0_goOn_31 : decode cX0_goOn 31 = .ok (.getfield 96, 3) := by decide +kernel
theorem dX0_goOn_34 : decode cX0_goOn 34 = .ok (.ifCond .le 17, 3) := by decide +kernel
theorem dX0_goOn_37 : decode cX0_goOn 37 = .ok (.aload_n 0, 1) := by decide +kernel
theorem dX0_goOn_38 : decode cX0_goOn 38 = .ok (.aload_n 0, 1) := by decide +kernel
theorem dX0_goOn_39 : decode cX0_goOn 39 = .ok (.invokevirtual 105, 3) := by decide +kernel
theorem dX0_goOn_42 : decode cX0_goOn 42 = .ok (.invokevirtual 109, 3) := by decide +kernel
theorem dX0_goOn_45 : decode cX0_goOn 45 = .ok (.iinc 2 1, 3) := by decide +kernel
theorem dX0_goOn_48 : decode cX0_goOn 48 = .ok (.goto (-23), 3) := by decide +kernel
theorem dX0_goOn_51 : decode cX0_goOn 51 = .ok (.aload_n 0, 1) := by decide +kernel
theorem dX0_goOn_52 : decode cX0_goOn 52 = .ok (.getfield 96, 3) := by decide +kernel
theorem dX0_goOn_55 : decode cX0_goOn 55 = .ok (.ifCond .le 5, 3) := by decide +kernel
theorem dX0_goOn_58 : decode cX0_goOn 58 = .ok (.iconst 0, 1) := by decide +kernel
theorem dX0_goOn_59 : decode cX0_goOn 59 = .ok (.ireturn, 1) := by decide +kernel
theorem dX0_goOn_60 : decode cX0_goOn 60 = .ok (.aload_n 0, 1) := by decide +kernel
theorem dX0_goOn_61 : decode cX0_goOn 61 = .ok (.invokevirtual 113, 3) := by decide +kernel
theorem dX0_goOn_64 : decode cX0_goOn 64 = .ok (.aload_n 0, 1) := by decide +kernel
theorem dX0_goOn_65 : decode cX0_goOn 65 = .ok (.iconst 2, 1) := by decide +kernel
theorem dX0_goOn_66 : decode cX0_goOn 66 = .ok (.putfield 93, 3) := by decide +kernel
theorem dX0_goOn_69 : decode cX0_goOn 69 = .ok (.aload_n 0, 1) := by decide +kernel
theorem dX0_goOn_70 : decode cX0_goOn 70 = .ok (.getfield 90, 3) := by decide +kernel
theorem dX0_goOn_73 : decode cX0_goOn 73 = .ok (.bipush (-9), 2) := by decide +kernel
theorem dX0_goOn_75 : decode cX0_goOn 75 = .ok (.if_icmp .ne 7, 3) := by decide +kernel
theorem dX0_goOn_78 : decode cX0_goOn 78 = .ok (.iconst 2, 1) := by decide +kernel
theorem dX0_goOn_79 : decode cX0_goOn 79 = .ok (.goto 4, 3) := by decide +kernel
theorem dX0_goOn_82 : decode cX0_goOn 82 = .ok (.iconst 1, 1) := by decide +kernel
theorem dX0_goOn_83 : decode cX0_goOn 83 = .ok (.ireturn, 1) := by decide +kernel
theorem dX0_nextThread_0 : decode cX0_nextThread 0 = .ok (.aload_n 0, 1) := by decide +kernel
theorem dX0_nextThread_1 : decode cX0_nextThread 1 = .ok (.getfield 49, 3) := by decide +kernel
theorem dX0_nextThread_4 : decode cX0_nextThread 4 = .ok (.ifCond .eq 13, 3) := by decide +kernel
theorem dX0_nextThread_7 : decode cX0_nextThread 7 = .ok (.aload_n 0, 1) := by decide +kernel
theorem dX0_nextThread_8 : decode cX0_nextThread 8 = .ok (.getfield 42, 3) := by decide +kernel
theorem dX0_nextThread_11 : decode cX0_nextThread 11 = .ok (.getfield 116, 3) := by decide +kernel
theorem dX0_nextThread_14 : decode cX0_nextThread 14 = .ok (.goto 4, 3) := by decide +kernel
theorem dX0_nextThread_17 : decode cX0_nextThread 17 = .ok (.iconst 0, 1) := by decide +kernel
theorem dX0_nextThread_18 : decode cX0_nextThread 18 = .ok (.istore_n 1, 1) := by decide +kernel
theorem dX0_nextThread_19 : decode cX0_nextThread 19 = .ok (.aload_n 0, 1) := by decide +kernel
theorem dX0_nextThread_20 : decode cX0_nextThread 20 = .ok (.getfield 84, 3) := by decide +kernel
theorem dX0_nextThread_23 : decode cX0_nextThread 23 = .ok (.iload_n 1, 1) := by decide +kernel
theorem dX0_nextThread_24 : decode cX0_nextThread 24 = .ok (.if_icmp .ge 18, 3) := by decide +kernel
theorem dX0_nextThread_27 : decode cX0_nextThread 27 = .ok (.aload_n 0, 1) := by decide +kernel
theorem dX0_nextThread_28 : decode cX0_nextThread 28 = .ok (.getfield 42, 3) := by decide +kernel
theorem dX0_nextThread_31 : decode cX0_nextThread 31 = .ok (.getfield 119, 3) := by decide +kernel
theorem dX0_nextThread_34 : decode cX0_nextThread 34 = .ok (.aload_n 0, 1) := by decide +kernel
theorem dX0_nextThread_35 : decode cX0_nextThread 35 = .ok (.getfield 84, 3) := by decide +kernel
theorem dX0_nextThread_38 : decode cX0_nextThread 38 = .ok (.iaload, 1) := by decide +kernel
theorem dX0_nextThread_39 : decode cX0_nextThread 39 = .ok (.goto 14, 3) := by decide +kernel
theorem dX0_nextThread_42 : decode cX0_nextThread 42 = .ok (.aload_n 0, 1) := by decide +kernel
theorem dX0_nextThread_43 : decode cX0_nextThread 43 = .ok (.getfield 84, 3) := by decide +kernel
theorem dX0_nextThread_46 : decode cX0_nextThread 46 = .ok (.iload_n 1, 1) := by decide +kernel
theorem dX0_nextThread_47 : decode cX0_nextThread 47 = .ok (.isub, 1) := by decide +kernel
theorem dX0_nextThread_48 : decode cX0_nextThread 48 = .ok (.aload_n 0, 1) := by decide +kernel
theorem dX0_nextThread_49 : decode cX0_nextThread 49 = .ok (.getfield 38, 3) := by decide +kernel
theorem dX0_nextThread_52 : decode cX0_nextThread 52 = .ok (.irem, 1) := by decide +kernel
theorem dX0_nextThread_53 : decode cX0_nextThread 53 = .ok (.ireturn, 1) := by decide +kernel
theorem dX0_giveTurn_0 : decode cX0_giveTurn 0 = .ok (.aload_n 0, 1) := by decide +kernel
theorem dX0_giveTurn_1 : decode cX0_giveTurn 1 = .ok (.dup, 1) := by decide +kernel
theorem dX0_giveTurn_2 : decode cX0_giveTurn 2 = .ok (.getfield 84, 3) := by decide +kernel
theorem dX0_giveTurn_5 : decode cX0_giveTurn 5 = .ok (.iconst 1, 1) := by decide +kernel
theorem dX0_giveTurn_6 : decode cX0_giveTurn 6 = .ok (.iadd, 1) := by decide +kernel
theorem dX0_giveTurn_7 : decode cX0_giveTurn 7 = .ok (.putfield 84, 3) := by decide +kernel
theorem dX0_giveTurn_10 : decode cX0_giveTurn 10 = .ok (.aload_n 0, 1) := by decide +kernel
theorem dX0_giveTurn_11 : decode cX0_giveTurn 11 = .ok (.getfield 96, 3) := by decide +kernel
theorem dX0_giveTurn_14 : decode cX0_giveTurn 14 = .ok (.istore_n 2, 1) := by decide +kernel
theorem dX0_giveTurn_15 : decode cX0_giveTurn 15 = .ok (.aload_n 0, 1) := by decide +kernel
theorem dX0_giveTurn_16 : decode cX0_giveTurn 16 = .ok (.getfield 28, 3) := by decide +kernel
theorem dX0_giveTurn_19 : decode cX0_giveTurn 19 = .ok (.iload_n 1, 1) := by decide +kernel
theorem dX0_giveTurn_20 : decode cX0_giveTurn 20 = .ok (.iaload, 1) := by decide +kernel
theorem dX0_giveTurn_21 : decode cX0_giveTurn 21 = .ok (.bipush (-9), 2) := by decide +kernel
theorem dX0_giveTurn_23 : decode cX0_giveTurn 23 = .ok (.if_icmp .ne 11, 3) := by decide +kernel
theorem dX0_giveTurn_26 : decode cX0_giveTurn 26 = .ok (.aload_n 0, 1) := by decide +kernel
theorem dX0_giveTurn_27 : decode cX0_giveTurn 27 = .ok (.iload_n 1, 1) := by decide +kernel
theorem dX0_giveTurn_28 : decode cX0_giveTurn 28 = .ok (.invokevirtual 122, 3) := by decide +kernel
theorem dX0_giveTurn_31 : decode cX0_giveTurn 31 = .ok (.goto 14, 3) := by decide +kernel
theorem dX0_giveTurn_34 : decode cX0_giveTurn 34 = .ok (.aload_n 0, 1) := by decide +kernel
theorem dX0_giveTurn_35 : decode cX0_giveTurn 35 = .ok (.aload_n 0, 1) := by decide +kernel
theorem dX0_giveTurn_36 : decode cX0_giveTurn 36 = .ok (.getfield 28, 3) := by decide +kernel
theorem dX0_giveTurn_39 : decode cX0_giveTurn 39 = .ok (.iload_n 1, 1) := by decide +kernel
theorem dX0_giveTurn_40 : decode cX0_giveTurn 40 = .ok (.iaload, 1) := by decide +kernel
theorem dX0_giveTurn_41 : decode cX0_giveTurn 41 = .ok (.iload_n 1, 1) := by decide +kernel
theorem dX0_giveTurn_42 : decode cX0_giveTurn 42 = .ok (.invokevirtual 125, 3) := by decide +kernel
theorem dX0_giveTurn_45 : decode cX0_giveTurn 45 = .ok (.aload_n 0, 1) := by decide +kernel
theorem dX0_giveTurn_46 : decode cX0_giveTurn 46 = .ok (.getfield 96, 3) := by decide +kernel
theorem dX0_giveTurn_49 : decode cX0_giveTurn 49 = .ok (.iload_n 2, 1) := by decide +kernel
theorem dX0_giveTurn_50 : decode cX0_giveTurn 50 = .ok (.if_icmp .ge 7, 3) := by decide +kernel
theorem dX0_giveTurn_53 : decode cX0_giveTurn 53 = .ok (.aload_n 0, 1) := by decide +kernel
theorem dX0_giveTurn_54 : decode cX0_giveTurn 54 = .ok (.invokevirtual 129, 3) := by decide +kernel
theorem dX0_giveTurn_57 : decode cX0_giveTurn 57 = .ok (.return_, 1) := by decide +kernel
theorem dX0_takeNext_0 : decode cX0_takeNext 0 = .ok (.aload_n 0, 1) := by decide +kernel
theorem dX0_takeNext_1 : decode cX0_takeNext 1 = .ok (.invokevirtual 132, 3) := by decide +kernel
theorem dX0_takeNext_4 : decode cX0_takeNext 4 = .ok (.istore_n 2, 1) := by decide +kernel
theorem dX0_takeNext_5 : decode cX0_takeNext 5 = .ok (.iload_n 2, 1) := by decide +kernel
theorem dX0_takeNext_6 : decode cX0_takeNext 6 = .ok (.bipush (-9), 2) := by decide +kernel
theorem dX0_takeNext_8 : decode cX0_takeNext 8 = .ok (.if_icmp .ne 14, 3) := by decide +kernel
theorem dX0_takeNext_11 : decode cX0_takeNext 11 = .ok (.aload_n 0, 1) := by decide +kernel
theorem dX0_takeNext_12 : decode cX0_takeNext 12 = .ok (.dup, 1) := by decide +kernel
theorem dX0_takeNext_13 : decode cX0_takeNext 13 = .ok (.getfield 87, 3) := by decide +kernel
theorem dX0_takeNext_16 : decode cX0_takeNext 16 = .ok (.iconst 1, 1) := by decide +kernel
theorem dX0_takeNext_17 : decode cX0_takeNext 17 = .ok (.iadd, 1) := by decide +kernel
theorem dX0_takeNext_18 : decode cX0_takeNext 18 = .ok (.putfield 87, 3) := by decide +kernel
theorem dX0_takeNext_21 : decode cX0_takeNext 21 = .ok (.return_, 1) := by decide +kernel
theorem dX0_takeNext_22 : decode cX0_takeNext 22 = .ok (.aload_n 0, 1) := by decide +kernel
theorem dX0_takeNext_23 : decode cX0_takeNext 23 = .ok (.getfield 11, 3) := by decide +kernel
theorem dX0_takeNext_26 : decode cX0_takeNext 26 = .ok (.iload_n 2, 1) := by decide +kernel
theorem dX0_takeNext_27 : decode cX0_takeNext 27 = .ok (.aaload, 1) := by decide +kernel
theorem dX0_takeNext_28 : decode cX0_takeNext 28 = .ok (.astore_n 3, 1) := by decide +kernel
theorem dX0_takeNext_29 : decode cX0_takeNext 29 = .ok (.aload_n 3, 1) := by decide +kernel
theorem dX0_takeNext_30 : decode cX0_takeNext 30 = .ok (.iconst 1, 1) := by decide +kernel
theorem dX0_takeNext_31 : decode cX0_takeNext 31 = .ok (.putfield 135, 3) := by decide +kernel
theorem dX0_takeNext_34 : decode cX0_takeNext 34 = .ok (.aload_n 3, 1) := by decide +kernel
theorem dX0_takeNext_35 : decode cX0_takeNext 35 = .ok (.iload_n 1, 1) := by decide +kernel
theorem dX0_takeNext_36 : decode cX0_takeNext 36 = .ok (.putfield 138, 3) := by decide +kernel
theorem dX0_takeNext_39 : decode cX0_takeNext 39 = .ok (.aload_n 3, 1) := by decide +kernel
theorem dX0_takeNext_40 : decode cX0_takeNext 40 = .ok (.dup, 1) := by decide +kernel
theorem dX0_takeNext_41 : decode cX0_takeNext 41 = .ok (.getfield 141, 3) := by decide +kernel
theorem dX0_takeNext_44 : decode cX0_takeNext 44 = .ok (.iconst 1, 1) := by decide +kernel
theorem dX0_takeNext_45 : decode cX0_takeNext 45 = .ok (.iadd, 1) := by decide +kernel
theorem dX0_takeNext_46 : decode cX0_takeNext 46 = .ok (.putfield 141, 3) := by decide +kernel
theorem dX0_takeNext_49 : decode cX0_takeNext 49 = .ok (.aload_n 0, 1) := by decide +kernel
theorem dX0_takeNext_50 : decode cX0_takeNext 50 = .ok (.getfield 28, 3) := by decide +kernel
theorem dX0_takeNext_53 : decode cX0_takeNext 53 = .ok (.iload_n 1, 1) := by decide +kernel
theorem dX0_takeNext_54 : decode cX0_takeNext 54 = .ok (.iload_n 2, 1) := by decide +kernel
theorem dX0_takeNext_55 : decode cX0_takeNext 55 = .ok (.iastore, 1) := by decide +kernel
theorem dX0_takeNext_56 : decode cX0_takeNext 56 = .ok (.aload_n 0, 1) := by decide +kernel
theorem dX0_takeNext_57 : decode cX0_takeNext 57 = .ok (.dup, 1) := by decide +kernel
theorem dX0_takeNext_58 : decode cX0_takeNext 58 = .ok (.getfield 78, 3) := by decide +kernel
theorem dX0_takeNext_61 : decode cX0_takeNext 61 = .ok (.aload_n 0, 1) := by decide +kernel
theorem dX0_takeNext_62 : decode cX0_takeNext 62 = .ok (.getfield 42, 3) := by decide +kernel
theorem dX0_takeNext_65 : decode cX0_takeNext 65 = .ok (.getfield 142, 3) := by decide +kernel
theorem dX0_takeNext_68 : decode cX0_takeNext 68 = .ok (.iload_n 2, 1) := by decide +kernel
theorem dX0_takeNext_69 : decode cX0_takeNext 69 = .ok (.aaload, 1) := by decide +kernel
theorem dX0_takeNext_70 : decode cX0_takeNext 70 = .ok (.getfield 146, 3) := by decide +kernel
theorem dX0_takeNext_73 : decode cX0_takeNext 73 = .ok (.isub, 1) := by decide +kernel
theorem dX0_takeNext_74 : decode cX0_takeNext 74 = .ok (.putfield 78, 3) := by decide +kernel
theorem dX0_takeNext_77 : decode cX0_takeNext 77 = .ok (.aload_n 0, 1) := by decide +kernel
theorem dX0_takeNext_78 : decode cX0_takeNext 78 = .ok (.aload_n 0, 1) := by decide +kernel
theorem dX0_takeNext_79 : decode cX0_takeNext 79 = .ok (.getfield 81, 3) := by decide +kernel
theorem dX0_takeNext_82 : decode cX0_takeNext 82 = .ok (.aload_n 0, 1) := by decide +kernel
theorem dX0_takeNext_83 : decode cX0_takeNext 83 = .ok (.getfield 46, 3) := by decide +kernel
theorem dX0_takeNext_86 : decode cX0_takeNext 86 = .ok (.aload_n 0, 1) := by decide +kernel
theorem dX0_takeNext_87 : decode cX0_takeNext 87 = .ok (.getfield 78, 3) := by decide +kernel
theorem dX0_takeNext_90 : decode cX0_takeNext 90 = .ok (.isub, 1) := by decide +kernel
theorem dX0_takeNext_91 : decode cX0_takeNext 91 = .ok (.invokestatic 151, 3) := by decide +kernel
theorem dX0_takeNext_94 : decode cX0_takeNext 94 = .ok (.putfield 81, 3) := by decide +kernel
theorem dX0_takeNext_97 : decode cX0_takeNext 97 = .ok (.aload_n 0, 1) := by decide +kernel
theorem dX0_takeNext_98 : decode cX0_takeNext 98 = .ok (.iload_n 2, 1) := by decide +kernel
theorem dX0_takeNext_99 : decode cX0_takeNext 99 = .ok (.iload_n 1, 1) := by decide +kernel
theorem dX0_takeNext_100 : decode cX0_takeNext 100 = .ok (.iconst 1, 1) := by decide +kernel
theorem dX0_takeNext_101 : decode cX0_takeNext 101 = .ok (.invokevirtual 157, 3) := by decide +kernel
theorem dX0_takeNext_104 : decode cX0_takeNext 104 = .ok (.return_, 1) := by decide +kernel
theorem dX0_leastThatFits_0 : decode cX0_leastThatFits 0 = .ok (.iconst 0, 1) := by decide +kernel
theorem dX0_leastThatFits_1 : decode cX0_leastThatFits 1 = .ok (.istore_n 1, 1) := by decide +kernel
theorem dX0_leastThatFits_2 : decode cX0_leastThatFits 2 = .ok (.iload_n 1, 1) := by decide +kernel
theorem dX0_leastThatFits_3 : decode cX0_leastThatFits 3 = .ok (.aload_n 0, 1) := by decide +kernel
theorem dX0_leastThatFits_4 : decode cX0_leastThatFits 4 = .ok (.getfield 42, 3) := by decide +kernel
theorem dX0_leastThatFits_7 : decode cX0_leastThatFits 7 = .ok (.getfield 102, 3) := by decide +kernel
theorem dX0_leastThatFits_10 : decode cX0_leastThatFits 10 = .ok (.if_icmp .ge 49, 3) := by decide +kernel
theorem dX0_leastThatFits_13 : decode cX0_leastThatFits 13 = .ok (.aload_n 0, 1) := by decide +kernel
theorem dX0_leastThatFits_14 : decode cX0_leastThatFits 14 = .ok (.getfield 99, 3) := by decide +kernel
theorem dX0_leastThatFits_17 : decode cX0_leastThatFits 17 = .ok (.ifCond .ne 42, 3) := by decide +kernel
theorem dX0_leastThatFits_20 : decode cX0_leastThatFits 20 = .ok (.aload_n 0, 1) := by decide +kernel
theorem dX0_leastThatFits_21 : decode cX0_leastThatFits 21 = .ok (.getfield 11, 3) := by decide +kernel
theorem dX0_leastThatFits_24 : decode cX0_leastThatFits 24 = .ok (.iload_n 1, 1) := by decide +kernel
theorem dX0_leastThatFits_25 : decode cX0_leastThatFits 25 = .ok (.aaload, 1) := by decide +kernel
theorem dX0_leastThatFits_26 : decode cX0_leastThatFits 26 = .ok (.getfield 135, 3) := by decide +kernel
theorem dX0_leastThatFits_29 : decode cX0_leastThatFits 29 = .ok (.ifCond .ne 24, 3) := by decide +kernel
theorem dX0_leastThatFits_32 : decode cX0_leastThatFits 32 = .ok (.aload_n 0, 1) := by decide +kernel
theorem dX0_leastThatFits_33 : decode cX0_leastThatFits 33 = .ok (.getfield 42, 3) := by decide +kernel
theorem dX0_leastThatFits_36 : decode cX0_leastThatFits 36 = .ok (.getfield 142, 3) := by decide +kernel
theorem dX0_leastThatFits_39 : decode cX0_leastThatFits 39 = .ok (.iload_n 1, 1) := by decide +kernel
theorem dX0_leastThatFits_40 : decode cX0_leastThatFits 40 = .ok (.aaload, 1) := by decide +kernel
theorem dX0_leastThatFits_41 : decode cX0_leastThatFits 41 = .ok (.getfield 146, 3) := by decide +kernel
theorem dX0_leastThatFits_44 : decode cX0_leastThatFits 44 = .ok (.aload_n 0, 1) := by decide +kernel
theorem dX0_leastThatFits_45 : decode cX0_leastThatFits 45 = .ok (.getfield 78, 3) := by decide +kernel
theorem dX0_leastThatFits_48 : decode cX0_leastThatFits 48 = .ok (.if_icmp .gt 5, 3) := by decide +kernel
theorem dX0_leastThatFits_51 : decode cX0_leastThatFits 51 = .ok (.iload_n 1, 1) := by decide +kernel
theorem dX0_leastThatFits_52 : decode cX0_leastThatFits 52 = .ok (.ireturn, 1) := by decide +kernel
theorem dX0_leastThatFits_53 : decode cX0_leastThatFits 53 = .ok (.iinc 1 1, 3) := by decide +kernel
theorem dX0_leastThatFits_56 : decode cX0_leastThatFits 56 = .ok (.goto (-54), 3) := by decide +kernel
theorem dX0_leastThatFits_59 : decode cX0_leastThatFits 59 = .ok (.aload_n 0, 1) := by decide +kernel
theorem dX0_leastThatFits_60 : decode cX0_leastThatFits 60 = .ok (.iconst 1, 1) := by decide +kernel
theorem dX0_leastThatFits_61 : decode cX0_leastThatFits 61 = .ok (.putfield 99, 3) := by decide +kernel
theorem dX0_leastThatFits_64 : decode cX0_leastThatFits 64 = .ok (.bipush (-9), 2) := by decide +kernel
theorem dX0_leastThatFits_66 : decode cX0_leastThatFits 66 = .ok (.ireturn, 1) := by decide +kernel
theorem dX0_goOnWith_0 : decode cX0_goOnWith 0 = .ok (.aload_n 0, 1) := by decide +kernel
theorem dX0_goOnWith_1 : decode cX0_goOnWith 1 = .ok (.getfield 42, 3) := by decide +kernel
theorem dX0_goOnWith_4 : decode cX0_goOnWith 4 = .ok (.getfield 142, 3) := by decide +kernel
theorem dX0_goOnWith_7 : decode cX0_goOnWith 7 = .ok (.iload_n 1, 1) := by decide +kernel
theorem dX0_goOnWith_8 : decode cX0_goOnWith 8 = .ok (.aaload, 1) := by decide +kernel
theorem dX0_goOnWith_9 : decode cX0_goOnWith 9 = .ok (.astore_n 3, 1) := by decide +kernel
theorem dX0_goOnWith_10 : decode cX0_goOnWith 10 = .ok (.aload_n 0, 1) := by decide +kernel
theorem dX0_goOnWith_11 : decode cX0_goOnWith 11 = .ok (.getfield 11, 3) := by decide +kernel
theorem dX0_goOnWith_14 : decode cX0_goOnWith 14 = .ok (.iload_n 1, 1) := by decide +kernel
theorem dX0_goOnWith_15 : decode cX0_goOnWith 15 = .ok (.aaload, 1) := by decide +kernel
theorem dX0_goOnWith_16 : decode cX0_goOnWith 16 = .ok (.astore 4, 2) := by decide +kernel
theorem dX0_goOnWith_18 : decode cX0_goOnWith 18 = .ok (.aload 4, 2) := by decide +kernel
theorem dX0_goOnWith_20 : decode cX0_goOnWith 20 = .ok (.dup, 1) := by decide +kernel
theorem dX0_goOnWith_21 : decode cX0_goOnWith 21 = .ok (.getfield 141, 3) := by decide +kernel
theorem dX0_goOnWith_24 : decode cX0_goOnWith 24 = .ok (.iconst 1, 1) := by decide +kernel
theorem dX0_goOnWith_25 : decode cX0_goOnWith 25 = .ok (.iadd, 1) := by decide +kernel
theorem dX0_goOnWith_26 : decode cX0_goOnWith 26 = .ok (.putfield 141, 3) := by decide +kernel
theorem dX0_goOnWith_29 : decode cX0_goOnWith 29 = .ok (.aload 4, 2) := by decide +kernel
theorem dX0_goOnWith_31 : decode cX0_goOnWith 31 = .ok (.getfield 161, 3) := by decide +kernel
theorem dX0_goOnWith_34 : decode cX0_goOnWith 34 = .ok (.ifCond .eq 12, 3) := by decide +kernel
theorem dX0_goOnWith_37 : decode cX0_goOnWith 37 = .ok (.aload 4, 2) := by decide +kernel
theorem dX0_goOnWith_39 : decode cX0_goOnWith 39 = .ok (.iconst 5, 1) := by decide +kernel
theorem dX0_goOnWith_40 : decode cX0_goOnWith 40 = .ok (.putfield 135, 3) := by decide +kernel
theorem dX0_goOnWith_43 : decode cX0_goOnWith 43 = .ok (.goto 70, 3) := by decide +kernel
theorem dX0_goOnWith_46 : decode cX0_goOnWith 46 = .ok (.aload 4, 2) := by decide +kernel
theorem dX0_goOnWith_48 : decode cX0_goOnWith 48 = .ok (.getfield 164, 3) := by decide +kernel
theorem dX0_goOnWith_51 : decode cX0_goOnWith 51 = .ok (.ifCond .eq 13, 3) := by decide +kernel
theorem dX0_goOnWith_54 : decode cX0_goOnWith 54 = .ok (.aload 4, 2) := by decide +kernel
theorem dX0_goOnWith_56 : decode cX0_goOnWith 56 = .ok (.bipush 6, 2) := by decide +kernel
theorem dX0_goOnWith_58 : decode cX0_goOnWith 58 = .ok (.putfield 135, 3) := by decide +kernel
theorem dX0_goOnWith_61 : decode cX0_goOnWith 61 = .ok (.goto 52, 3) := by decide +kernel
theorem dX0_goOnWith_64 : decode cX0_goOnWith 64 = .ok (.aload_n 3, 1) := by decide +kernel
theorem dX0_goOnWith_65 : decode cX0_goOnWith 65 = .ok (.aload 4, 2) := by decide +kernel
theorem dX0_goOnWith_67 : decode cX0_goOnWith 67 = .ok (.aload_n 0, 1) := by decide +kernel
theorem dX0_goOnWith_68 : decode cX0_goOnWith 68 = .ok (.getfield 19, 3) := by decide +kernel
theorem dX0_goOnWith_71 : decode cX0_goOnWith 71 = .ok (.invokevirtual 167, 3) := by decide +kernel
theorem dX0_goOnWith_74 : decode cX0_goOnWith 74 = .ok (.aload 4, 2) := by decide +kernel
theorem dX0_goOnWith_76 : decode cX0_goOnWith 76 = .ok (.dup, 1) := by decide +kernel
theorem dX0_goOnWith_77 : decode cX0_goOnWith 77 = .ok (.getfield 171, 3) := by decide +kernel
theorem dX0_goOnWith_80 : decode cX0_goOnWith 80 = .ok (.iconst 1, 1) := by decide +kernel
theorem dX0_goOnWith_81 : decode cX0_goOnWith 81 = .ok (.iadd, 1) := by decide +kernel
theorem dX0_goOnWith_82 : decode cX0_goOnWith 82 = .ok (.putfield 171, 3) := by decide +kernel
theorem dX0_goOnWith_85 : decode cX0_goOnWith 85 = .ok (.aload 4, 2) := by decide +kernel
theorem dX0_goOnWith_87 : decode cX0_goOnWith 87 = .ok (.getfield 135, 3) := by decide +kernel
theorem dX0_goOnWith_90 : decode cX0_goOnWith 90 = .ok (.iconst 1, 1) := by decide +kernel
theorem dX0_goOnWith_91 : decode cX0_goOnWith 91 = .ok (.if_icmp .ne 22, 3) := by decide +kernel
theorem dX0_goOnWith_94 : decode cX0_goOnWith 94 = .ok (.aload_n 3, 1) := by decide +kernel
theorem dX0_goOnWith_95 : decode cX0_goOnWith 95 = .ok (.aload 4, 2) := by decide +kernel
theorem dX0_goOnWith_97 : decode cX0_goOnWith 97 = .ok (.invokevirtual 174, 3) := by decide +kernel
theorem dX0_goOnWith_100 : decode cX0_goOnWith 100 = .ok (.aload_n 3, 1) := by decide +kernel
theorem dX0_goOnWith_101 : decode cX0_goOnWith 101 = .ok (.getfield 178, 3) := by decide +kernel
theorem dX0_goOnWith_104 : decode cX0_goOnWith 104 = .ok (.if_icmp .lt 9, 3) := by decide +kernel
theorem dX0_goOnWith_107 : decode cX0_goOnWith 107 = .ok (.aload 4, 2) := by decide +kernel
theorem dX0_goOnWith_109 : decode cX0_goOnWith 109 = .ok (.iconst 4, 1) := by decide +kernel
theorem dX0_goOnWith_110 : decode cX0_goOnWith 110 = .ok (.putfield 135, 3) := by decide +kernel
theorem dX0_goOnWith_113 : decode cX0_goOnWith 113 = .ok (.aload 4, 2) := by decide +kernel
theorem dX0_goOnWith_115 : decode cX0_goOnWith 115 = .ok (.getfield 135, 3) := by decide +kernel
theorem dX0_goOnWith_118 : decode cX0_goOnWith 118 = .ok (.iconst 1, 1) := by decide +kernel
theorem dX0_goOnWith_119 : decode cX0_goOnWith 119 = .ok (.if_icmp .eq 9, 3) := by decide +kernel
theorem dX0_goOnWith_122 : decode cX0_goOnWith 122 = .ok (.aload_n 0, 1) := by decide +kernel
theorem dX0_goOnWith_123 : decode cX0_goOnWith 123 = .ok (.iload_n 1, 1) := by decide +kernel
theorem dX0_goOnWith_124 : decode cX0_goOnWith 124 = .ok (.iload_n 2, 1) := by decide +kernel
theorem dX0_goOnWith_125 : decode cX0_goOnWith 125 = .ok (.invokevirtual 181, 3) := by decide +kernel
theorem dX0_goOnWith_128 : decode cX0_goOnWith 128 = .ok (.return_, 1) := by decide +kernel
theorem dX0_leave_0 : decode cX0_leave 0 = .ok (.aload_n 0, 1) := by decide +kernel
theorem dX0_leave_1 : decode cX0_leave 1 = .ok (.getfield 28, 3) := by decide +kernel
theorem dX0_leave_4 : decode cX0_leave 4 = .ok (.iload_n 2, 1) := by decide +kernel
theorem dX0_leave_5 : decode cX0_leave 5 = .ok (.bipush (-9), 2) := by decide +kernel
theorem dX0_leave_7 : decode cX0_leave 7 = .ok (.iastore, 1) := by decide +kernel
theorem dX0_leave_8 : decode cX0_leave 8 = .ok (.aload_n 0, 1) := by decide +kernel
theorem dX0_leave_9 : decode cX0_leave 9 = .ok (.getfield 32, 3) := by decide +kernel
theorem dX0_leave_12 : decode cX0_leave 12 = .ok (.iload_n 2, 1) := by decide +kernel
theorem dX0_leave_13 : decode cX0_leave 13 = .ok (.dup2, 1) := by decide +kernel
theorem dX0_leave_14 : decode cX0_leave 14 = .ok (.iaload, 1) := by decide +kernel
theorem dX0_leave_15 : decode cX0_leave 15 = .ok (.iconst 1, 1) := by decide +kernel
theorem dX0_leave_16 : decode cX0_leave 16 = .ok (.iadd, 1) := by decide +kernel
theorem dX0_leave_17 : decode cX0_leave 17 = .ok (.iastore, 1) := by decide +kernel
theorem dX0_leave_18 : decode cX0_leave 18 = .ok (.aload_n 0, 1) := by decide +kernel
theorem dX0_leave_19 : decode cX0_leave 19 = .ok (.dup, 1) := by decide +kernel
theorem dX0_leave_20 : decode cX0_leave 20 = .ok (.getfield 96, 3) := by decide +kernel
theorem dX0_leave_23 : decode cX0_leave 23 = .ok (.iconst 1, 1) := by decide +kernel
theorem dX0_leave_24 : decode cX0_leave 24 = .ok (.isub, 1) := by decide +kernel
theorem dX0_leave_25 : decode cX0_leave 25 = .ok (.putfield 96, 3) := by decide +kernel
theorem dX0_leave_28 : decode cX0_leave 28 = .ok (.aload_n 0, 1) := by decide +kernel
theorem dX0_leave_29 : decode cX0_leave 29 = .ok (.dup, 1) := by decide +kernel
theorem dX0_leave_30 : decode cX0_leave 30 = .ok (.getfield 78, 3) := by decide +kernel
theorem dX0_leave_33 : decode cX0_leave 33 = .ok (.aload_n 0, 1) := by decide +kernel
theorem dX0_leave_34 : decode cX0_leave 34 = .ok (.getfield 42, 3) := by decide +kernel
theorem dX0_leave_37 : decode cX0_leave 37 = .ok (.getfield 142, 3) := by decide +kernel
theorem dX0_leave_40 : decode cX0_leave 40 = .ok (.iload_n 1, 1) := by decide +kernel
theorem dX0_leave_41 : decode cX0_leave 41 = .ok (.aaload, 1) := by decide +kernel
theorem dX0_leave_42 : decode cX0_leave 42 = .ok (.getfield 146, 3) := by decide +kernel
theorem dX0_leave_45 : decode cX0_leave 45 = .ok (.iadd, 1) := by decide +kernel
theorem dX0_leave_46 : decode cX0_leave 46 = .ok (.putfield 78, 3) := by decide +kernel
theorem dX0_leave_49 : decode cX0_leave 49 = .ok (.aload_n 0, 1) := by decide +kernel
theorem dX0_leave_50 : decode cX0_leave 50 = .ok (.iconst 0, 1) := by decide +kernel
theorem dX0_leave_51 : decode cX0_leave 51 = .ok (.putfield 99, 3) := by decide +kernel
theorem dX0_leave_54 : decode cX0_leave 54 = .ok (.aload_n 0, 1) := by decide +kernel
theorem dX0_leave_55 : decode cX0_leave 55 = .ok (.iload_n 1, 1) := by decide +kernel
theorem dX0_leave_56 : decode cX0_leave 56 = .ok (.iload_n 2, 1) := by decide +kernel
theorem dX0_leave_57 : decode cX0_leave 57 = .ok (.aload_n 0, 1) := by decide +kernel
theorem dX0_leave_58 : decode cX0_leave 58 = .ok (.getfield 11, 3) := by decide +kernel
theorem dX0_leave_61 : decode cX0_leave 61 = .ok (.iload_n 1, 1) := by decide +kernel
theorem dX0_leave_62 : decode cX0_leave 62 = .ok (.aaload, 1) := by decide +kernel
theorem dX0_leave_63 : decode cX0_leave 63 = .ok (.getfield 135, 3) := by decide +kernel
theorem dX0_leave_66 : decode cX0_leave 66 = .ok (.invokevirtual 157, 3) := by decide +kernel
theorem dX0_leave_69 : decode cX0_leave 69 = .ok (.return_, 1) := by decide +kernel
theorem dX0_endWaiting_0 : decode cX0_endWaiting 0 = .ok (.aload_n 0, 1) := by decide +kernel
theorem dX0_endWaiting_1 : decode cX0_endWaiting 1 = .ok (.getfield 11, 3) := by decide +kernel
theorem dX0_endWaiting_4 : decode cX0_endWaiting 4 = .ok (.iload_n 1, 1) := by decide +kernel
theorem dX0_endWaiting_5 : decode cX0_endWaiting 5 = .ok (.aaload, 1) := by decide +kernel
theorem dX0_endWaiting_6 : decode cX0_endWaiting 6 = .ok (.iload_n 2, 1) := by decide +kernel
theorem dX0_endWaiting_7 : decode cX0_endWaiting 7 = .ok (.putfield 135, 3) := by decide +kernel
theorem dX0_endWaiting_10 : decode cX0_endWaiting 10 = .ok (.aload_n 0, 1) := by decide +kernel
theorem dX0_endWaiting_11 : decode cX0_endWaiting 11 = .ok (.dup, 1) := by decide +kernel
theorem dX0_endWaiting_12 : decode cX0_endWaiting 12 = .ok (.getfield 96, 3) := by decide +kernel
theorem dX0_endWaiting_15 : decode cX0_endWaiting 15 = .ok (.iconst 1, 1) := by decide +kernel
theorem dX0_endWaiting_16 : decode cX0_endWaiting 16 = .ok (.isub, 1) := by decide +kernel
theorem dX0_endWaiting_17 : decode cX0_endWaiting 17 = .ok (.putfield 96, 3) := by decide +kernel
theorem dX0_endWaiting_20 : decode cX0_endWaiting 20 = .ok (.return_, 1) := by decide +kernel
theorem dX0_write_0 : decode cX0_write 0 = .ok (.aload_n 0, 1) := by decide +kernel
theorem dX0_write_1 : decode cX0_write 1 = .ok (.getfield 75, 3) := by decide +kernel
theorem dX0_write_4 : decode cX0_write 4 = .ok (.aload_n 0, 1) := by decide +kernel
theorem dX0_write_5 : decode cX0_write 5 = .ok (.getfield 35, 3) := by decide +kernel
theorem dX0_write_8 : decode cX0_write 8 = .ok (.arraylength, 1) := by decide +kernel
theorem dX0_write_9 : decode cX0_write 9 = .ok (.if_icmp .lt 4, 3) := by decide +kernel
theorem dX0_write_12 : decode cX0_write 12 = .ok (.return_, 1) := by decide +kernel
theorem dX0_write_13 : decode cX0_write 13 = .ok (.aload_n 0, 1) := by decide +kernel
theorem dX0_write_14 : decode cX0_write 14 = .ok (.getfield 35, 3) := by decide +kernel
theorem dX0_write_17 : decode cX0_write 17 = .ok (.aload_n 0, 1) := by decide +kernel
theorem dX0_write_18 : decode cX0_write 18 = .ok (.getfield 75, 3) := by decide +kernel
theorem dX0_write_21 : decode cX0_write 21 = .ok (.bipush 100, 2) := by decide +kernel
theorem dX0_write_23 : decode cX0_write 23 = .ok (.iload_n 1, 1) := by decide +kernel
theorem dX0_write_24 : decode cX0_write 24 = .ok (.imul, 1) := by decide +kernel
theorem dX0_write_25 : decode cX0_write 25 = .ok (.bipush 10, 2) := by decide +kernel
theorem dX0_write_27 : decode cX0_write 27 = .ok (.iload_n 2, 1) := by decide +kernel
theorem dX0_write_28 : decode cX0_write 28 = .ok (.imul, 1) := by decide +kernel
theorem dX0_write_29 : decode cX0_write 29 = .ok (.iadd, 1) := by decide +kernel
theorem dX0_write_30 : decode cX0_write 30 = .ok (.iload_n 3, 1) := by decide +kernel
theorem dX0_write_31 : decode cX0_write 31 = .ok (.iadd, 1) := by decide +kernel
theorem dX0_write_32 : decode cX0_write 32 = .ok (.iastore, 1) := by decide +kernel
theorem dX0_write_33 : decode cX0_write 33 = .ok (.aload_n 0, 1) := by decide +kernel
theorem dX0_write_34 : decode cX0_write 34 = .ok (.dup, 1) := by decide +kernel
theorem dX0_write_35 : decode cX0_write 35 = .ok (.getfield 75, 3) := by decide +kernel
theorem dX0_write_38 : decode cX0_write 38 = .ok (.iconst 1, 1) := by decide +kernel
theorem dX0_write_39 : decode cX0_write 39 = .ok (.iadd, 1) := by decide +kernel
theorem dX0_write_40 : decode cX0_write 40 = .ok (.putfield 75, 3) := by decide +kernel
theorem dX0_write_43 : decode cX0_write 43 = .ok (.return_, 1) := by decide +kernel
theorem dX0_lookWhatIsTaken_0 : decode cX0_lookWhatIsTaken 0 = .ok (.aload_n 0, 1) := by decide +kernel
theorem dX0_lookWhatIsTaken_1 : decode cX0_lookWhatIsTaken 1 = .ok (.getfield 90, 3) := by decide +kernel
theorem dX0_lookWhatIsTaken_4 : decode cX0_lookWhatIsTaken 4 = .ok (.bipush (-9), 2) := by decide +kernel
theorem dX0_lookWhatIsTaken_6 : decode cX0_lookWhatIsTaken 6 = .ok (.if_icmp .eq 4, 3) := by decide +kernel
theorem dX0_lookWhatIsTaken_9 : decode cX0_lookWhatIsTaken 9 = .ok (.return_, 1) := by decide +kernel
theorem dX0_lookWhatIsTaken_10 : decode cX0_lookWhatIsTaken 10 = .ok (.iconst 0, 1) := by decide +kernel
theorem dX0_lookWhatIsTaken_11 : decode cX0_lookWhatIsTaken 11 = .ok (.istore_n 1, 1) := by decide +kernel
theorem dX0_lookWhatIsTaken_12 : decode cX0_lookWhatIsTaken 12 = .ok (.iload_n 1, 1) := by decide +kernel
theorem dX0_lookWhatIsTaken_13 : decode cX0_lookWhatIsTaken 13 = .ok (.aload_n 0, 1) := by decide +kernel
theorem dX0_lookWhatIsTaken_14 : decode cX0_lookWhatIsTaken 14 = .ok (.getfield 42, 3) := by decide +kernel
theorem dX0_lookWhatIsTaken_17 : decode cX0_lookWhatIsTaken 17 = .ok (.getfield 102, 3) := by decide +kernel
theorem dX0_lookWhatIsTaken_20 : decode cX0_lookWhatIsTaken 20 = .ok (.if_icmp .ge 59, 3) := by decide +kernel
theorem dX0_lookWhatIsTaken_23 : decode cX0_lookWhatIsTaken 23 = .ok (.aload_n 0, 1) := by decide +kernel
theorem dX0_lookWhatIsTaken_24 : decode cX0_lookWhatIsTaken 24 = .ok (.getfield 42, 3) := by decide +kernel
theorem dX0_lookWhatIsTaken_27 : decode cX0_lookWhatIsTaken 27 = .ok (.getfield 142, 3) := by decide +kernel
theorem dX0_lookWhatIsTaken_30 : decode cX0_lookWhatIsTaken 30 = .ok (.iload_n 1, 1) := by decide +kernel
theorem dX0_lookWhatIsTaken_31 : decode cX0_lookWhatIsTaken 31 = .ok (.aaload, 1) := by decide +kernel
theorem dX0_lookWhatIsTaken_32 : decode cX0_lookWhatIsTaken 32 = .ok (.invokevirtual 184, 3) := by decide +kernel
theorem dX0_lookWhatIsTaken_35 : decode cX0_lookWhatIsTaken 35 = .ok (.ifCond .ne 6, 3) := by decide +kernel
theorem dX0_lookWhatIsTaken_38 : decode cX0_lookWhatIsTaken 38 = .ok (.goto 35, 3) := by decide +kernel
theorem dX0_lookWhatIsTaken_41 : decode cX0_lookWhatIsTaken 41 = .ok (.aload_n 0, 1) := by decide +kernel
theorem dX0_lookWhatIsTaken_42 : decode cX0_lookWhatIsTaken 42 = .ok (.getfield 11, 3) := by decide +kernel
theorem dX0_lookWhatIsTaken_45 : decode cX0_lookWhatIsTaken 45 = .ok (.iload_n 1, 1) := by decide +kernel
theorem dX0_lookWhatIsTaken_46 : decode cX0_lookWhatIsTaken 46 = .ok (.aaload, 1) := by decide +kernel
theorem dX0_lookWhatIsTaken_47 : decode cX0_lookWhatIsTaken 47 = .ok (.invokevirtual 188, 3) := by decide +kernel
theorem dX0_lookWhatIsTaken_50 : decode cX0_lookWhatIsTaken 50 = .ok (.ifCond .eq 4, 3) := by decide +kernel
theorem dX0_lookWhatIsTaken_53 : decode cX0_lookWhatIsTaken 53 = .ok (.return_, 1) := by decide +kernel
theorem dX0_lookWhatIsTaken_54 : decode cX0_lookWhatIsTaken 54 = .ok (.aload_n 0, 1) := by decide +kernel
theorem dX0_lookWhatIsTaken_55 : decode cX0_lookWhatIsTaken 55 = .ok (.getfield 11, 3) := by decide +kernel
theorem dX0_lookWhatIsTaken_58 : decode cX0_lookWhatIsTaken 58 = .ok (.iload_n 1, 1) := by decide +kernel
theorem dX0_lookWhatIsTaken_59 : decode cX0_lookWhatIsTaken 59 = .ok (.aaload, 1) := by decide +kernel
theorem dX0_lookWhatIsTaken_60 : decode cX0_lookWhatIsTaken 60 = .ok (.getfield 135, 3) := by decide +kernel
theorem dX0_lookWhatIsTaken_63 : decode cX0_lookWhatIsTaken 63 = .ok (.iconst 2, 1) := by decide +kernel
theorem dX0_lookWhatIsTaken_64 : decode cX0_lookWhatIsTaken 64 = .ok (.if_icmp .ne 9, 3) := by decide +kernel
theorem dX0_lookWhatIsTaken_67 : decode cX0_lookWhatIsTaken 67 = .ok (.aload_n 0, 1) := by decide +kernel
theorem dX0_lookWhatIsTaken_68 : decode cX0_lookWhatIsTaken 68 = .ok (.iload_n 1, 1) := by decide +kernel
theorem dX0_lookWhatIsTaken_69 : decode cX0_lookWhatIsTaken 69 = .ok (.invokevirtual 191, 3) := by decide +kernel
theorem dX0_lookWhatIsTaken_72 : decode cX0_lookWhatIsTaken 72 = .ok (.return_, 1) := by decide +kernel
theorem dX0_lookWhatIsTaken_73 : decode cX0_lookWhatIsTaken 73 = .ok (.iinc 1 1, 3) := by decide +kernel
theorem dX0_lookWhatIsTaken_76 : decode cX0_lookWhatIsTaken 76 = .ok (.goto (-64), 3) := by decide +kernel
theorem dX0_lookWhatIsTaken_79 : decode cX0_lookWhatIsTaken 79 = .ok (.return_, 1) := by decide +kernel
theorem dX0_takeWay_0 : decode cX0_takeWay 0 = .ok (.aload_n 0, 1) := by decide +kernel
theorem dX0_takeWay_1 : decode cX0_takeWay 1 = .ok (.iload_n 1, 1) := by decide +kernel
theorem dX0_takeWay_2 : decode cX0_takeWay 2 = .ok (.putfield 90, 3) := by decide +kernel
theorem dX0_takeWay_5 : decode cX0_takeWay 5 = .ok (.iload_n 1, 1) := by decide +kernel
theorem dX0_takeWay_6 : decode cX0_takeWay 6 = .ok (.iconst 1, 1) := by decide +kernel
theorem dX0_takeWay_7 : decode cX0_takeWay 7 = .ok (.iadd, 1) := by decide +kernel
theorem dX0_takeWay_8 : decode cX0_takeWay 8 = .ok (.istore_n 2, 1) := by decide +kernel
theorem dX0_takeWay_9 : decode cX0_takeWay 9 = .ok (.iload_n 2, 1) := by decide +kernel
theorem dX0_takeWay_10 : decode cX0_takeWay 10 = .ok (.aload_n 0, 1) := by decide +kernel
theorem dX0_takeWay_11 : decode cX0_takeWay 11 = .ok (.getfield 42, 3) := by decide +kernel
theorem dX0_takeWay_14 : decode cX0_takeWay 14 = .ok (.getfield 102, 3) := by decide +kernel
theorem dX0_takeWay_17 : decode cX0_takeWay 17 = .ok (.if_icmp .ge 71, 3) := by decide +kernel
theorem dX0_takeWay_20 : decode cX0_takeWay 20 = .ok (.aload_n 0, 1) := by decide +kernel
theorem dX0_takeWay_21 : decode cX0_takeWay 21 = .ok (.getfield 42, 3) := by decide +kernel
theorem dX0_takeWay_24 : decode cX0_takeWay 24 = .ok (.getfield 142, 3) := by decide +kernel
theorem dX0_takeWay_27 : decode cX0_takeWay 27 = .ok (.iload_n 2, 1) := by decide +kernel
theorem dX0_takeWay_28 : decode cX0_takeWay 28 = .ok (.aaload, 1) := by decide +kernel
theorem dX0_takeWay_29 : decode cX0_takeWay 29 = .ok (.invokevirtual 184, 3) := by decide +kernel
theorem dX0_takeWay_32 : decode cX0_takeWay 32 = .ok (.ifCond .ne 6, 3) := by decide +kernel
theorem dX0_takeWay_35 : decode cX0_takeWay 35 = .ok (.goto 47, 3) := by decide +kernel
theorem dX0_takeWay_38 : decode cX0_takeWay 38 = .ok (.aload_n 0, 1) := by decide +kernel
theorem dX0_takeWay_39 : decode cX0_takeWay 39 = .ok (.getfield 11, 3) := by decide +kernel
theorem dX0_takeWay_42 : decode cX0_takeWay 42 = .ok (.iload_n 2, 1) := by decide +kernel
theorem dX0_takeWay_43 : decode cX0_takeWay 43 = .ok (.aaload, 1) := by decide +kernel
theorem dX0_takeWay_44 : decode cX0_takeWay 44 = .ok (.getfield 135, 3) := by decide +kernel
theorem dX0_takeWay_47 : decode cX0_takeWay 47 = .ok (.ifCond .ne 12, 3) := by decide +kernel
theorem dX0_takeWay_50 : decode cX0_takeWay 50 = .ok (.aload_n 0, 1) := by decide +kernel
theorem dX0_takeWay_51 : decode cX0_takeWay 51 = .ok (.iload_n 2, 1) := by decide +kernel
theorem dX0_takeWay_52 : decode cX0_takeWay 52 = .ok (.iconst 5, 1) := by decide +kernel
theorem dX0_takeWay_53 : decode cX0_takeWay 53 = .ok (.invokevirtual 194, 3) := by decide +kernel
theorem dX0_takeWay_56 : decode cX0_takeWay 56 = .ok (.goto 26, 3) := by decide +kernel
theorem dX0_takeWay_59 : decode cX0_takeWay 59 = .ok (.aload_n 0, 1) := by decide +kernel
theorem dX0_takeWay_60 : decode cX0_takeWay 60 = .ok (.getfield 11, 3) := by decide +kernel
theorem dX0_takeWay_63 : decode cX0_takeWay 63 = .ok (.iload_n 2, 1) := by decide +kernel
theorem dX0_takeWay_64 : decode cX0_takeWay 64 = .ok (.aaload, 1) := by decide +kernel
theorem dX0_takeWay_65 : decode cX0_takeWay 65 = .ok (.getfield 135, 3) := by decide +kernel
theorem dX0_takeWay_68 : decode cX0_takeWay 68 = .ok (.iconst 1, 1) := by decide +kernel
theorem dX0_takeWay_69 : decode cX0_takeWay 69 = .ok (.if_icmp .ne 13, 3) := by decide +kernel
theorem dX0_takeWay_72 : decode cX0_takeWay 72 = .ok (.aload_n 0, 1) := by decide +kernel
theorem dX0_takeWay_73 : decode cX0_takeWay 73 = .ok (.getfield 11, 3) := by decide +kernel
theorem dX0_takeWay_76 : decode cX0_takeWay 76 = .ok (.iload_n 2, 1) := by decide +kernel
theorem dX0_takeWay_77 : decode cX0_takeWay 77 = .ok (.aaload, 1) := by decide +kernel
theorem dX0_takeWay_78 : decode cX0_takeWay 78 = .ok (.iconst 1, 1) := by decide +kernel
theorem dX0_takeWay_79 : decode cX0_takeWay 79 = .ok (.putfield 161, 3) := by decide +kernel
theorem dX0_takeWay_82 : decode cX0_takeWay 82 = .ok (.iinc 2 1, 3) := by decide +kernel
theorem dX0_takeWay_85 : decode cX0_takeWay 85 = .ok (.goto (-76), 3) := by decide +kernel
theorem dX0_takeWay_88 : decode cX0_takeWay 88 = .ok (.return_, 1) := by decide +kernel
theorem dX0_doFailedSharesAgain_0 : decode cX0_doFailedSharesAgain 0 = .ok (.iconst 0, 1) := by decide +kernel
theorem dX0_doFailedSharesAgain_1 : decode cX0_doFailedSharesAgain 1 = .ok (.istore_n 1, 1) := by decide +kernel
theorem dX0_doFailedSharesAgain_2 : decode cX0_doFailedSharesAgain 2 = .ok (.iload_n 1, 1) := by decide +kernel
theorem dX0_doFailedSharesAgain_3 : decode cX0_doFailedSharesAgain 3 = .ok (.aload_n 0, 1) := by decide +kernel
theorem dX0_doFailedSharesAgain_4 : decode cX0_doFailedSharesAgain 4 = .ok (.getfield 42, 3) := by decide +kernel
theorem dX0_doFailedSharesAgain_7 : decode cX0_doFailedSharesAgain 7 = .ok (.getfield 102, 3) := by decide +kernel
theorem dX0_doFailedSharesAgain_10 : decode cX0_doFailedSharesAgain 10 = .ok (.if_icmp .ge 70, 3) := by decide +kernel
theorem dX0_doFailedSharesAgain_13 : decode cX0_doFailedSharesAgain 13 = .ok (.aload_n 0, 1) := by decide +kernel
theorem dX0_doFailedSharesAgain_14 : decode cX0_doFailedSharesAgain 14 = .ok (.getfield 11, 3) := by decide +kernel
theorem dX0_doFailedSharesAgain_17 : decode cX0_doFailedSharesAgain 17 = .ok (.iload_n 1, 1) := by decide +kernel
theorem dX0_doFailedSharesAgain_18 : decode cX0_doFailedSharesAgain 18 = .ok (.aaload, 1) := by decide +kernel
theorem dX0_doFailedSharesAgain_19 : decode cX0_doFailedSharesAgain 19 = .ok (.getfield 135, 3) := by decide +kernel
theorem dX0_doFailedSharesAgain_22 : decode cX0_doFailedSharesAgain 22 = .ok (.iconst 3, 1) := by decide +kernel
theorem dX0_doFailedSharesAgain_23 : decode cX0_doFailedSharesAgain 23 = .ok (.if_icmp .ne 51, 3) := by decide +kernel
theorem dX0_doFailedSharesAgain_26 : decode cX0_doFailedSharesAgain 26 = .ok (.aload_n 0, 1) := by decide +kernel
theorem dX0_doFailedSharesAgain_27 : decode cX0_doFailedSharesAgain 27 = .ok (.getfield 42, 3) := by decide +kernel
theorem dX0_doFailedSharesAgain_30 : decode cX0_doFailedSharesAgain 30 = .ok (.getfield 142, 3) := by decide +kernel
theorem dX0_doFailedSharesAgain_33 : decode cX0_doFailedSharesAgain 33 = .ok (.iload_n 1, 1) := by decide +kernel
theorem dX0_doFailedSharesAgain_34 : decode cX0_doFailedSharesAgain 34 = .ok (.aaload, 1) := by decide +kernel
theorem dX0_doFailedSharesAgain_35 : decode cX0_doFailedSharesAgain 35 = .ok (.astore_n 3, 1) := by decide +kernel
theorem dX0_doFailedSharesAgain_36 : decode cX0_doFailedSharesAgain 36 = .ok (.aload_n 3, 1) := by decide +kernel
theorem dX0_doFailedSharesAgain_37 : decode cX0_doFailedSharesAgain 37 = .ok (.instanceof 197, 3) := by decide +kernel
theorem dX0_doFailedSharesAgain_40 : decode cX0_doFailedSharesAgain 40 = .ok (.ifCond .eq 34, 3) := by decide +kernel
theorem dX0_doFailedSharesAgain_43 : decode cX0_doFailedSharesAgain 43 = .ok (.aload_n 3, 1) := by decide +kernel
theorem dX0_doFailedSharesAgain_44 : decode cX0_doFailedSharesAgain 44 = .ok (.checkcast 197, 3) := by decide +kernel
theorem dX0_doFailedSharesAgain_47 : decode cX0_doFailedSharesAgain 47 = .ok (.astore_n 2, 1) := by decide +kernel
theorem dX0_doFailedSharesAgain_48 : decode cX0_doFailedSharesAgain 48 = .ok (.aload_n 0, 1) := by decide +kernel
theorem dX0_doFailedSharesAgain_49 : decode cX0_doFailedSharesAgain 49 = .ok (.getfield 11, 3) := by decide +kernel
theorem dX0_doFailedSharesAgain_52 : decode cX0_doFailedSharesAgain 52 = .ok (.iload_n 1, 1) := by decide +kernel
theorem dX0_doFailedSharesAgain_53 : decode cX0_doFailedSharesAgain 53 = .ok (.aaload, 1) := by decide +kernel
theorem dX0_doFailedSharesAgain_54 : decode cX0_doFailedSharesAgain 54 = .ok (.aload_n 2, 1) := by decide +kernel
theorem dX0_doFailedSharesAgain_55 : decode cX0_doFailedSharesAgain 55 = .ok (.aload_n 0, 1) := by decide +kernel
theorem dX0_doFailedSharesAgain_56 : decode cX0_doFailedSharesAgain 56 = .ok (.getfield 24, 3) := by decide +kernel
theorem dX0_doFailedSharesAgain_59 : decode cX0_doFailedSharesAgain 59 = .ok (.aload_n 0, 1) := by decide +kernel
theorem dX0_doFailedSharesAgain_60 : decode cX0_doFailedSharesAgain 60 = .ok (.getfield 19, 3) := by decide +kernel
theorem dX0_doFailedSharesAgain_63 : decode cX0_doFailedSharesAgain 63 = .ok (.aload_n 2, 1) := by decide +kernel
theorem dX0_doFailedSharesAgain_64 : decode cX0_doFailedSharesAgain 64 = .ok (.getfield 199, 3) := by decide +kernel
theorem dX0_doFailedSharesAgain_67 : decode cX0_doFailedSharesAgain 67 = .ok (.aaload, 1) := by decide +kernel
theorem dX0_doFailedSharesAgain_68 : decode cX0_doFailedSharesAgain 68 = .ok (.invokevirtual 202, 3) := by decide +kernel
theorem dX0_doFailedSharesAgain_71 : decode cX0_doFailedSharesAgain 71 = .ok (.putfield 206, 3) := by decide +kernel
theorem dX0_doFailedSharesAgain_74 : decode cX0_doFailedSharesAgain 74 = .ok (.iinc 1 1, 3) := by decide +kernel
theorem dX0_doFailedSharesAgain_77 : decode cX0_doFailedSharesAgain 77 = .ok (.goto (-75), 3) := by decide +kernel
theorem dX0_doFailedSharesAgain_80 : decode cX0_doFailedSharesAgain 80 = .ok (.return_, 1) := by decide +kernel
theorem dX0_breakOff_0 : decode cX0_breakOff 0 = .ok (.aload_n 0, 1) := by decide +kernel
theorem dX0_breakOff_1 : decode cX0_breakOff 1 = .ok (.getfield 11, 3) := by decide +kernel
theorem dX0_breakOff_4 : decode cX0_breakOff 4 = .ok (.iload_n 1, 1) := by decide +kernel
theorem dX0_breakOff_5 : decode cX0_breakOff 5 = .ok (.aaload, 1) := by decide +kernel
theorem dX0_breakOff_6 : decode cX0_breakOff 6 = .ok (.astore_n 2, 1) := by decide +kernel
theorem dX0_breakOff_7 : decode cX0_breakOff 7 = .ok (.aload_n 2, 1) := by decide +kernel
theorem dX0_breakOff_8 : decode cX0_breakOff 8 = .ok (.invokevirtual 188, 3) := by decide +kernel
theorem dX0_breakOff_11 : decode cX0_breakOff 11 = .ok (.ifCond .ne 5, 3) := by decide +kernel
theorem dX0_breakOff_14 : decode cX0_breakOff 14 = .ok (.iconst 0, 1) := by decide +kernel
theorem dX0_breakOff_15 : decode cX0_breakOff 15 = .ok (.ireturn, 1) := by decide +kernel
theorem dX0_breakOff_16 : decode cX0_breakOff 16 = .ok (.aload_n 2, 1) := by decide +kernel
theorem dX0_breakOff_17 : decode cX0_breakOff 17 = .ok (.getfield 135, 3) := by decide +kernel
theorem dX0_breakOff_20 : decode cX0_breakOff 20 = .ok (.ifCond .ne 17, 3) := by decide +kernel
theorem dX0_breakOff_23 : decode cX0_breakOff 23 = .ok (.aload_n 0, 1) := by decide +kernel
theorem dX0_breakOff_24 : decode cX0_breakOff 24 = .ok (.iload_n 1, 1) := by decide +kernel
theorem dX0_breakOff_25 : decode cX0_breakOff 25 = .ok (.bipush 6, 2) := by decide +kernel
theorem dX0_breakOff_27 : decode cX0_breakOff 27 = .ok (.invokevirtual 194, 3) := by decide +kernel
theorem dX0_breakOff_30 : decode cX0_breakOff 30 = .ok (.aload_n 0, 1) := by decide +kernel
theorem dX0_breakOff_31 : decode cX0_breakOff 31 = .ok (.invokevirtual 129, 3) := by decide +kernel
theorem dX0_breakOff_34 : decode cX0_breakOff 34 = .ok (.goto 8, 3) := by decide +kernel
theorem dX0_breakOff_37 : decode cX0_breakOff 37 = .ok (.aload_n 2, 1) := by decide +kernel
theorem dX0_breakOff_38 : decode cX0_breakOff 38 = .ok (.iconst 1, 1) := by decide +kernel
theorem dX0_breakOff_39 : decode cX0_breakOff 39 = .ok (.putfield 164, 3) := by decide +kernel
theorem dX0_breakOff_42 : decode cX0_breakOff 42 = .ok (.iconst 1, 1) := by decide +kernel
theorem dX0_breakOff_43 : decode cX0_breakOff 43 = .ok (.ireturn, 1) := by decide +kernel
theorem dX0_stopAll_0 : decode cX0_stopAll 0 = .ok (.aload_n 0, 1) := by decide +kernel
theorem dX0_stopAll_1 : decode cX0_stopAll 1 = .ok (.getfield 96, 3) := by decide +kernel
theorem dX0_stopAll_4 : decode cX0_stopAll 4 = .ok (.istore_n 1, 1) := by decide +kernel
theorem dX0_stopAll_5 : decode cX0_stopAll 5 = .ok (.aload_n 0, 1) := by decide +kernel
theorem dX0_stopAll_6 : decode cX0_stopAll 6 = .ok (.getfield 38, 3) := by decide +kernel
theorem dX0_stopAll_9 : decode cX0_stopAll 9 = .ok (.iconst 1, 1) := by decide +kernel
theorem dX0_stopAll_10 : decode cX0_stopAll 10 = .ok (.isub, 1) := by decide +kernel
theorem dX0_stopAll_11 : decode cX0_stopAll 11 = .ok (.istore_n 2, 1) := by decide +kernel
theorem dX0_stopAll_12 : decode cX0_stopAll 12 = .ok (.iload_n 2, 1) := by decide +kernel
theorem dX0_stopAll_13 : decode cX0_stopAll 13 = .ok (.ifCond .lt 41, 3) := by decide +kernel
theorem dX0_stopAll_16 : decode cX0_stopAll 16 = .ok (.aload_n 0, 1) := by decide +kernel
theorem dX0_stopAll_17 : decode cX0_stopAll 17 = .ok (.getfield 28, 3) := by decide +kernel
theorem dX0_stopAll_20 : decode cX0_stopAll 20 = .ok (.iload_n 2, 1) := by decide +kernel
theorem dX0_stopAll_21 : decode cX0_stopAll 21 = .ok (.iaload, 1) := by decide +kernel
theorem dX0_stopAll_22 : decode cX0_stopAll 22 = .ok (.istore_n 3, 1) := by decide +kernel
theorem dX0_stopAll_23 : decode cX0_stopAll 23 = .ok (.iload_n 3, 1) := by decide +kernel
theorem dX0_stopAll_24 : decode cX0_stopAll 24 = .ok (.bipush (-9), 2) := by decide +kernel
theorem dX0_stopAll_26 : decode cX0_stopAll 26 = .ok (.if_icmp .ne 6, 3) := by decide +kernel
theorem dX0_stopAll_29 : decode cX0_stopAll 29 = .ok (.goto 19, 3) := by decide +kernel
theorem dX0_stopAll_32 : decode cX0_stopAll 32 = .ok (.aload_n 0, 1) := by decide +kernel
theorem dX0_stopAll_33 : decode cX0_stopAll 33 = .ok (.getfield 11, 3) := by decide +kernel
theorem dX0_stopAll_36 : decode cX0_stopAll 36 = .ok (.iload_n 3, 1) := by decide +kernel
theorem dX0_stopAll_37 : decode cX0_stopAll 37 = .ok (.aaload, 1) := by decide +kernel
theorem dX0_stopAll_38 : decode cX0_stopAll 38 = .ok (.iconst 5, 1) := by decide +kernel
theorem dX0_stopAll_39 : decode cX0_stopAll 39 = .ok (.putfield 135, 3) := by decide +kernel
theorem dX0_stopAll_42 : decode cX0_stopAll 42 = .ok (.aload_n 0, 1) := by decide +kernel
theorem dX0_stopAll_43 : decode cX0_stopAll 43 = .ok (.iload_n 3, 1) := by decide +kernel
theorem dX0_stopAll_44 : decode cX0_stopAll 44 = .ok (.iload_n 2, 1) := by decide +kernel
theorem dX0_stopAll_45 : decode cX0_stopAll 45 = .ok (.invokevirtual 181, 3) := by decide +kernel
theorem dX0_stopAll_48 : decode cX0_stopAll 48 = .ok (.iinc 2 (-1), 3) := by decide +kernel
theorem dX0_stopAll_51 : decode cX0_stopAll 51 = .ok (.goto (-39), 3) := by decide +kernel
theorem dX0_stopAll_54 : decode cX0_stopAll 54 = .ok (.iconst 0, 1) := by decide +kernel
theorem dX0_stopAll_55 : decode cX0_stopAll 55 = .ok (.istore_n 2, 1) := by decide +kernel
theorem dX0_stopAll_56 : decode cX0_stopAll 56 = .ok (.iload_n 2, 1) := by decide +kernel
theorem dX0_stopAll_57 : decode cX0_stopAll 57 = .ok (.aload_n 0, 1) := by decide +kernel
theorem dX0_stopAll_58 : decode cX0_stopAll 58 = .ok (.getfield 42, 3) := by decide +kernel
theorem dX0_stopAll_61 : decode cX0_stopAll 61 = .ok (.getfield 102, 3) := by decide +kernel
theorem dX0_stopAll_64 : decode cX0_stopAll 64 = .ok (.if_icmp .ge 27, 3) := by decide +kernel
theorem dX0_stopAll_67 : decode cX0_stopAll 67 = .ok (.aload_n 0, 1) := by decide +kernel
theorem dX0_stopAll_68 : decode cX0_stopAll 68 = .ok (.getfield 11, 3) := by decide +kernel
theorem dX0_stopAll_71 : decode cX0_stopAll 71 = .ok (.iload_n 2, 1) := by decide +kernel
theorem dX0_stopAll_72 : decode cX0_stopAll 72 = .ok (.aaload, 1) := by decide +kernel
theorem dX0_stopAll_73 : decode cX0_stopAll 73 = .ok (.getfield 135, 3) := by decide +kernel
theorem dX0_stopAll_76 : decode cX0_stopAll 76 = .ok (.ifCond .ne 9, 3) := by decide +kernel
theorem dX0_stopAll_79 : decode cX0_stopAll 79 = .ok (.aload_n 0, 1) := by decide +kernel
theorem dX0_stopAll_80 : decode cX0_stopAll 80 = .ok (.iload_n 2, 1) := by decide +kernel
theorem dX0_stopAll_81 : decode cX0_stopAll 81 = .ok (.iconst 5, 1) := by decide +kernel
theorem dX0_stopAll_82 : decode cX0_stopAll 82 = .ok (.invokevirtual 194, 3) := by decide +kernel
theorem dX0_stopAll_85 : decode cX0_stopAll 85 = .ok (.iinc 2 1, 3) := by decide +kernel
theorem dX0_stopAll_88 : decode cX0_stopAll 88 = .ok (.goto (-32), 3) := by decide +kernel
theorem dX0_stopAll_91 : decode cX0_stopAll 91 = .ok (.aload_n 0, 1) := by decide +kernel
theorem dX0_stopAll_92 : decode cX0_stopAll 92 = .ok (.iconst 3, 1) := by decide +kernel
theorem dX0_stopAll_93 : decode cX0_stopAll 93 = .ok (.putfield 93, 3) := by decide +kernel
theorem dX0_stopAll_96 : decode cX0_stopAll 96 = .ok (.iload_n 1, 1) := by decide +kernel
theorem dX0_stopAll_97 : decode cX0_stopAll 97 = .ok (.ireturn, 1) := by decide +kernel
theorem dX0_answerOf_0 : decode cX0_answerOf 0 = .ok (.iload_n 1, 1) := by decide +kernel
theorem dX0_answerOf_1 : decode cX0_answerOf 1 = .ok (.ifCond .lt 27, 3) := by decide +kernel
theorem dX0_answerOf_4 : decode cX0_answerOf 4 = .ok (.iload_n 1, 1) := by decide +kernel
theorem dX0_answerOf_5 : decode cX0_answerOf 5 = .ok (.aload_n 0, 1) := by decide +kernel
theorem dX0_answerOf_6 : decode cX0_answerOf 6 = .ok (.getfield 42, 3) := by decide +kernel
theorem dX0_answerOf_9 : decode cX0_answerOf 9 = .ok (.getfield 102, 3) := by decide +kernel
theorem dX0_answerOf_12 : decode cX0_answerOf 12 = .ok (.if_icmp .ge 16, 3) := by decide +kernel
theorem dX0_answerOf_15 : decode cX0_answerOf 15 = .ok (.aload_n 0, 1) := by decide +kernel
theorem dX0_answerOf_16 : decode cX0_answerOf 16 = .ok (.getfield 11, 3) := by decide +kernel
theorem dX0_answerOf_19 : decode cX0_answerOf 19 = .ok (.iload_n 1, 1) := by decide +kernel
theorem dX0_answerOf_20 : decode cX0_answerOf 20 = .ok (.aaload, 1) := by decide +kernel
theorem dX0_answerOf_21 : decode cX0_answerOf 21 = .ok (.getfield 135, 3) := by decide +kernel
theorem dX0_answerOf_24 : decode cX0_answerOf 24 = .ok (.iconst 2, 1) := by decide +kernel
theorem dX0_answerOf_25 : decode cX0_answerOf 25 = .ok (.if_icmp .eq 7, 3) := by decide +kernel
theorem dX0_answerOf_28 : decode cX0_answerOf 28 = .ok (.ldc2_w 209, 3) := by decide +kernel
theorem dX0_answerOf_31 : decode cX0_answerOf 31 = .ok (.lreturn, 1) := by decide +kernel
theorem dX0_answerOf_32 : decode cX0_answerOf 32 = .ok (.aload_n 0, 1) := by decide +kernel
theorem dX0_answerOf_33 : decode cX0_answerOf 33 = .ok (.getfield 42, 3) := by decide +kernel
theorem dX0_answerOf_36 : decode cX0_answerOf 36 = .ok (.getfield 142, 3) := by decide +kernel
theorem dX0_answerOf_39 : decode cX0_answerOf 39 = .ok (.iload_n 1, 1) := by decide +kernel
theorem dX0_answerOf_40 : decode cX0_answerOf 40 = .ok (.aaload, 1) := by decide +kernel
theorem dX0_answerOf_41 : decode cX0_answerOf 41 = .ok (.aload_n 0, 1) := by decide +kernel
theorem dX0_answerOf_42 : decode cX0_answerOf 42 = .ok (.getfield 11, 3) := by decide +kernel
theorem dX0_answerOf_45 : decode cX0_answerOf 45 = .ok (.iload_n 1, 1) := by decide +kernel
theorem dX0_answerOf_46 : decode cX0_answerOf 46 = .ok (.aaload, 1) := by decide +kernel
theorem dX0_answerOf_47 : decode cX0_answerOf 47 = .ok (.invokevirtual 211, 3) := by decide +kernel
theorem dX0_answerOf_50 : decode cX0_answerOf 50 = .ok (.lreturn, 1) := by decide +kernel
theorem dX0_lostOf_0 : decode cX0_lostOf 0 = .ok (.iconst 0, 1) := by decide +kernel
theorem dX0_lostOf_1 : decode cX0_lostOf 1 = .ok (.istore_n 2, 1) := by decide +kernel
theorem dX0_lostOf_2 : decode cX0_lostOf 2 = .ok (.iconst 0, 1) := by decide +kernel
theorem dX0_lostOf_3 : decode cX0_lostOf 3 = .ok (.istore_n 3, 1) := by decide +kernel
theorem dX0_lostOf_4 : decode cX0_lostOf 4 = .ok (.iload_n 3, 1) := by decide +kernel
theorem dX0_lostOf_5 : decode cX0_lostOf 5 = .ok (.aload_n 0, 1) := by decide +kernel
theorem dX0_lostOf_6 : decode cX0_lostOf 6 = .ok (.getfield 42, 3) := by decide +kernel
theorem dX0_lostOf_9 : decode cX0_lostOf 9 = .ok (.getfield 102, 3) := by decide +kernel
theorem dX0_lostOf_12 : decode cX0_lostOf 12 = .ok (.if_icmp .ge 56, 3) := by decide +kernel
theorem dX0_lostOf_15 : decode cX0_lostOf 15 = .ok (.aload_n 0, 1) := by decide +kernel
theorem dX0_lostOf_16 : decode cX0_lostOf 16 = .ok (.getfield 42, 3) := by decide +kernel
theorem dX0_lostOf_19 : decode cX0_lostOf 19 = .ok (.getfield 142, 3) := by decide +kernel
theorem dX0_lostOf_22 : decode cX0_lostOf 22 = .ok (.iload_n 3, 1) := by decide +kernel
theorem dX0_lostOf_23 : decode cX0_lostOf 23 = .ok (.aaload, 1) := by decide +kernel
theorem dX0_lostOf_24 : decode cX0_lostOf 24 = .ok (.astore 5, 2) := by decide +kernel
theorem dX0_lostOf_26 : decode cX0_lostOf 26 = .ok (.aload 5, 2) := by decide +kernel
theorem dX0_lostOf_28 : decode cX0_lostOf 28 = .ok (.instanceof 197, 3) := by decide +kernel
theorem dX0_lostOf_31 : decode cX0_lostOf 31 = .ok (.ifCond .eq 31, 3) := by decide +kernel
theorem dX0_lostOf_34 : decode cX0_lostOf 34 = .ok (.aload 5, 2) := by decide +kernel
theorem dX0_lostOf_36 : decode cX0_lostOf 36 = .ok (.checkcast 197, 3) := by decide +kernel
theorem dX0_lostOf_39 : decode cX0_lostOf 39 = .ok (.astore 4, 2) := by decide +kernel
theorem dX0_lostOf_41 : decode cX0_lostOf 41 = .ok (.aload 4, 2) := by decide +kernel
theorem dX0_lostOf_43 : decode cX0_lostOf 43 = .ok (.getfield 199, 3) := by decide +kernel
theorem dX0_lostOf_46 : decode cX0_lostOf 46 = .ok (.iload_n 1, 1) := by decide +kernel
theorem dX0_lostOf_47 : decode cX0_lostOf 47 = .ok (.if_icmp .ne 15, 3) := by decide +kernel
theorem dX0_lostOf_50 : decode cX0_lostOf 50 = .ok (.iload_n 2, 1) := by decide +kernel
theorem dX0_lostOf_51 : decode cX0_lostOf 51 = .ok (.aload_n 0, 1) := by decide +kernel
theorem dX0_lostOf_52 : decode cX0_lostOf 52 = .ok (.getfield 11, 3) := by decide +kernel
theorem dX0_lostOf_55 : decode cX0_lostOf 55 = .ok (.iload_n 3, 1) := by decide +kernel
theorem dX0_lostOf_56 : decode cX0_lostOf 56 = .ok (.aaload, 1) := by decide +kernel
theorem dX0_lostOf_57 : decode cX0_lostOf 57 = .ok (.getfield 206, 3) := by decide +kernel
theorem dX0_lostOf_60 : decode cX0_lostOf 60 = .ok (.iadd, 1) := by decide +kernel
theorem dX0_lostOf_61 : decode cX0_lostOf 61 = .ok (.istore_n 2, 1) := by decide +kernel
theorem dX0_lostOf_62 : decode cX0_lostOf 62 = .ok (.iinc 3 1, 3) := by decide +kernel
theorem dX0_lostOf_65 : decode cX0_lostOf 65 = .ok (.goto (-61), 3) := by decide +kernel
theorem dX0_lostOf_68 : decode cX0_lostOf 68 = .ok (.iload_n 2, 1) := by decide +kernel
theorem dX0_lostOf_69 : decode cX0_lostOf 69 = .ok (.ireturn, 1) := by decide +kernel
theorem dX0_foundAs_0 : decode cX0_foundAs 0 = .ok (.aload_n 0, 1) := by decide +kernel
theorem dX0_foundAs_1 : decode cX0_foundAs 1 = .ok (.getfield 90, 3) := by decide +kernel
theorem dX0_foundAs_4 : decode cX0_foundAs 4 = .ok (.aload_n 1, 1) := by decide +kernel
theorem dX0_foundAs_5 : decode cX0_foundAs 5 = .ok (.getfield 90, 3) := by decide +kernel
theorem dX0_foundAs_8 : decode cX0_foundAs 8 = .ok (.if_icmp .ne 23, 3) := by decide +kernel
theorem dX0_foundAs_11 : decode cX0_foundAs 11 = .ok (.aload_n 0, 1) := by decide +kernel
theorem dX0_foundAs_12 : decode cX0_foundAs 12 = .ok (.aload_n 0, 1) := by decide +kernel
theorem dX0_foundAs_13 : decode cX0_foundAs 13 = .ok (.getfield 90, 3) := by decide +kernel
theorem dX0_foundAs_16 : decode cX0_foundAs 16 = .ok (.invokevirtual 215, 3) := by decide +kernel
theorem dX0_foundAs_19 : decode cX0_foundAs 19 = .ok (.aload_n 1, 1) := by decide +kernel
theorem dX0_foundAs_20 : decode cX0_foundAs 20 = .ok (.aload_n 0, 1) := by decide +kernel
theorem dX0_foundAs_21 : decode cX0_foundAs 21 = .ok (.getfield 90, 3) := by decide +kernel
theorem dX0_foundAs_24 : decode cX0_foundAs 24 = .ok (.invokevirtual 215, 3) := by decide +kernel
theorem dX0_foundAs_27 : decode cX0_foundAs 27 = .ok (.lcmp, 1) := by decide +kernel
theorem dX0_foundAs_28 : decode cX0_foundAs 28 = .ok (.ifCond .eq 5, 3) := by decide +kernel
theorem dX0_foundAs_31 : decode cX0_foundAs 31 = .ok (.iconst 0, 1) := by decide +kernel
theorem dX0_foundAs_32 : decode cX0_foundAs 32 = .ok (.ireturn, 1) := by decide +kernel
theorem dX0_foundAs_33 : decode cX0_foundAs 33 = .ok (.iconst 0, 1) := by decide +kernel
theorem dX0_foundAs_34 : decode cX0_foundAs 34 = .ok (.istore_n 2, 1) := by decide +kernel
theorem dX0_foundAs_35 : decode cX0_foundAs 35 = .ok (.iload_n 2, 1) := by decide +kernel
theorem dX0_foundAs_36 : decode cX0_foundAs 36 = .ok (.aload_n 0, 1) := by decide +kernel
theorem dX0_foundAs_37 : decode cX0_foundAs 37 = .ok (.getfield 42, 3) := by decide +kernel
theorem dX0_foundAs_40 : decode cX0_foundAs 40 = .ok (.getfield 102, 3) := by decide +kernel
theorem dX0_foundAs_43 : decode cX0_foundAs 43 = .ok (.if_icmp .ge 20, 3) := by decide +kernel
theorem dX0_foundAs_46 : decode cX0_foundAs 46 = .ok (.aload_n 0, 1) := by decide +kernel
theorem dX0_foundAs_47 : decode cX0_foundAs 47 = .ok (.aload_n 1, 1) := by decide +kernel
theorem dX0_foundAs_48 : decode cX0_foundAs 48 = .ok (.iload_n 2, 1) := by decide +kernel
theorem dX0_foundAs_49 : decode cX0_foundAs 49 = .ok (.invokevirtual 219, 3) := by decide +kernel
theorem dX0_foundAs_52 : decode cX0_foundAs 52 = .ok (.ifCond .ne 5, 3) := by decide +kernel
theorem dX0_foundAs_55 : decode cX0_foundAs 55 = .ok (.iconst 0, 1) := by decide +kernel
theorem dX0_foundAs_56 : decode cX0_foundAs 56 = .ok (.ireturn, 1) := by decide +kernel
theorem dX0_foundAs_57 : decode cX0_foundAs 57 = .ok (.iinc 2 1, 3) := by decide +kernel
theorem dX0_foundAs_60 : decode cX0_foundAs 60 = .ok (.goto (-25), 3) := by decide +kernel
theorem dX0_foundAs_63 : decode cX0_foundAs 63 = .ok (.iconst 0, 1) := by decide +kernel
theorem dX0_foundAs_64 : decode cX0_foundAs 64 = .ok (.istore_n 2, 1) := by decide +kernel
theorem dX0_foundAs_65 : decode cX0_foundAs 65 = .ok (.iload_n 2, 1) := by decide +kernel
theorem dX0_foundAs_66 : decode cX0_foundAs 66 = .ok (.aload_n 0, 1) := by decide +kernel
theorem dX0_foundAs_67 : decode cX0_foundAs 67 = .ok (.getfield 42, 3) := by decide +kernel
theorem dX0_foundAs_70 : decode cX0_foundAs 70 = .ok (.getfield 57, 3) := by decide +kernel
theorem dX0_foundAs_73 : decode cX0_foundAs 73 = .ok (.if_icmp .ge 54, 3) := by decide +kernel
theorem dX0_foundAs_76 : decode cX0_foundAs 76 = .ok (.aload_n 0, 1) := by decide +kernel
theorem dX0_foundAs_77 : decode cX0_foundAs 77 = .ok (.getfield 19, 3) := by decide +kernel
theorem dX0_foundAs_80 : decode cX0_foundAs 80 = .ok (.iload_n 2, 1) := by decide +kernel
theorem dX0_foundAs_81 : decode cX0_foundAs 81 = .ok (.aaload, 1) := by decide +kernel
theorem dX0_foundAs_82 : decode cX0_foundAs 82 = .ok (.getfield 223, 3) := by decide +kernel
theorem dX0_foundAs_85 : decode cX0_foundAs 85 = .ok (.aload_n 1, 1) := by decide +kernel
theorem dX0_foundAs_86 : decode cX0_foundAs 86 = .ok (.getfield 19, 3) := by decide +kernel
theorem dX0_foundAs_89 : decode cX0_foundAs 89 = .ok (.iload_n 2, 1) := by decide +kernel
theorem dX0_foundAs_90 : decode cX0_foundAs 90 = .ok (.aaload, 1) := by decide +kernel
theorem dX0_foundAs_91 : decode cX0_foundAs 91 = .ok (.getfield 223, 3) := by decide +kernel
theorem dX0_foundAs_94 : decode cX0_foundAs 94 = .ok (.if_icmp .ne 25, 3) := by decide +kernel
theorem dX0_foundAs_97 : decode cX0_foundAs 97 = .ok (.aload_n 0, 1) := by decide +kernel
theorem dX0_foundAs_98 : decode cX0_foundAs 98 = .ok (.getfield 19, 3) := by decide +kernel
theorem dX0_foundAs_101 : decode cX0_foundAs 101 = .ok (.iload_n 2, 1) := by decide +kernel
theorem dX0_foundAs_102 : decode cX0_foundAs 102 = .ok (.aaload, 1) := by decide +kernel
theorem dX0_foundAs_103 : decode cX0_foundAs 103 = .ok (.getfield 226, 3) := by decide +kernel
theorem dX0_foundAs_106 : decode cX0_foundAs 106 = .ok (.aload_n 1, 1) := by decide +kernel
theorem dX0_foundAs_107 : decode cX0_foundAs 107 = .ok (.getfield 19, 3) := by decide +kernel
theorem dX0_foundAs_110 : decode cX0_foundAs 110 = .ok (.iload_n 2, 1) := by decide +kernel
theorem dX0_foundAs_111 : decode cX0_foundAs 111 = .ok (.aaload, 1) := by decide +kernel
theorem dX0_foundAs_112 : decode cX0_foundAs 112 = .ok (.getfield 226, 3) := by decide +kernel
theorem dX0_foundAs_115 : decode cX0_foundAs 115 = .ok (.lcmp, 1) := by decide +kernel
theorem dX0_foundAs_116 : decode cX0_foundAs 116 = .ok (.ifCond .eq 5, 3) := by decide +kernel
theorem dX0_foundAs_119 : decode cX0_foundAs 119 = .ok (.iconst 0, 1) := by decide +kernel
theorem dX0_foundAs_120 : decode cX0_foundAs 120 = .ok (.ireturn, 1) := by decide +kernel
theorem dX0_foundAs_121 : decode cX0_foundAs 121 = .ok (.iinc 2 1, 3) := by decide +kernel
theorem dX0_foundAs_124 : decode cX0_foundAs 124 = .ok (.goto (-59), 3) := by decide +kernel
theorem dX0_foundAs_127 : decode cX0_foundAs 127 = .ok (.iconst 1, 1) := by decide +kernel
theorem dX0_foundAs_128 : decode cX0_foundAs 128 = .ok (.ireturn, 1) := by decide +kernel
theorem dX0_endedAs_0 : decode cX0_endedAs 0 = .ok (.aload_n 0, 1) := by decide +kernel
theorem dX0_endedAs_1 : decode cX0_endedAs 1 = .ok (.getfield 11, 3) := by decide +kernel
theorem dX0_endedAs_4 : decode cX0_endedAs 4 = .ok (.iload_n 2, 1) := by decide +kernel
theorem dX0_endedAs_5 : decode cX0_endedAs 5 = .ok (.aaload, 1) := by decide +kernel
theorem dX0_endedAs_6 : decode cX0_endedAs 6 = .ok (.astore_n 3, 1) := by decide +kernel
theorem dX0_endedAs_7 : decode cX0_endedAs 7 = .ok (.aload_n 1, 1) := by decide +kernel
theorem dX0_endedAs_8 : decode cX0_endedAs 8 = .ok (.getfield 11, 3) := by decide +kernel
theorem dX0_endedAs_11 : decode cX0_endedAs 11 = .ok (.iload_n 2, 1) := by decide +kernel
theorem dX0_endedAs_12 : decode cX0_endedAs 12 = .ok (.aaload, 1) := by decide +kernel
theorem dX0_endedAs_13 : decode cX0_endedAs 13 = .ok (.astore 4, 2) := by decide +kernel
theorem dX0_endedAs_15 : decode cX0_endedAs 15 = .ok (.aload_n 0, 1) := by decide +kernel
theorem dX0_endedAs_16 : decode cX0_endedAs 16 = .ok (.getfield 42, 3) := by decide +kernel
theorem dX0_endedAs_19 : decode cX0_endedAs 19 = .ok (.getfield 142, 3) := by decide +kernel
theorem dX0_endedAs_22 : decode cX0_endedAs 22 = .ok (.iload_n 2, 1) := by decide +kernel
theorem dX0_endedAs_23 : decode cX0_endedAs 23 = .ok (.aaload, 1) := by decide +kernel
theorem dX0_endedAs_24 : decode cX0_endedAs 24 = .ok (.invokevirtual 184, 3) := by decide +kernel
theorem dX0_endedAs_27 : decode cX0_endedAs 27 = .ok (.ifCond .ne 39, 3) := by decide +kernel
theorem dX0_endedAs_30 : decode cX0_endedAs 30 = .ok (.aload_n 3, 1) := by decide +kernel
theorem dX0_endedAs_31 : decode cX0_endedAs 31 = .ok (.getfield 135, 3) := by decide +kernel
theorem dX0_endedAs_34 : decode cX0_endedAs 34 = .ok (.iconst 4, 1) := by decide +kernel
theorem dX0_endedAs_35 : decode cX0_endedAs 35 = .ok (.if_icmp .ne 7, 3) := by decide +kernel
theorem dX0_endedAs_38 : decode cX0_endedAs 38 = .ok (.iconst 1, 1) := by decide +kernel
theorem dX0_endedAs_39 : decode cX0_endedAs 39 = .ok (.goto 4, 3) := by decide +kernel
theorem dX0_endedAs_42 : decode cX0_endedAs 42 = .ok (.iconst 0, 1) := by decide +kernel
theorem dX0_endedAs_43 : decode cX0_endedAs 43 = .ok (.aload 4, 2) := by decide +kernel
theorem dX0_endedAs_45 : decode cX0_endedAs 45 = .ok (.getfield 135, 3) := by decide +kernel
theorem dX0_endedAs_48 : decode cX0_endedAs 48 = .ok (.iconst 4, 1) := by decide +kernel
theorem dX0_endedAs_49 : decode cX0_endedAs 49 = .ok (.if_icmp .ne 7, 3) := by decide +kernel
theorem dX0_endedAs_52 : decode cX0_endedAs 52 = .ok (.iconst 1, 1) := by decide +kernel
theorem dX0_endedAs_53 : decode cX0_endedAs 53 = .ok (.goto 4, 3) := by decide +kernel
theorem dX0_endedAs_56 : decode cX0_endedAs 56 = .ok (.iconst 0, 1) := by decide +kernel
theorem dX0_endedAs_57 : decode cX0_endedAs 57 = .ok (.if_icmp .ne 7, 3) := by decide +kernel
theorem dX0_endedAs_60 : decode cX0_endedAs 60 = .ok (.iconst 1, 1) := by decide +kernel
theorem dX0_endedAs_61 : decode cX0_endedAs 61 = .ok (.goto 4, 3) := by decide +kernel
theorem dX0_endedAs_64 : decode cX0_endedAs 64 = .ok (.iconst 0, 1) := by decide +kernel
theorem dX0_endedAs_65 : decode cX0_endedAs 65 = .ok (.ireturn, 1) := by decide +kernel
theorem dX0_endedAs_66 : decode cX0_endedAs 66 = .ok (.aload_n 0, 1) := by decide +kernel
theorem dX0_endedAs_67 : decode cX0_endedAs 67 = .ok (.getfield 90, 3) := by decide +kernel
theorem dX0_endedAs_70 : decode cX0_endedAs 70 = .ok (.bipush (-9), 2) := by decide +kernel
theorem dX0_endedAs_72 : decode cX0_endedAs 72 = .ok (.if_icmp .eq 13, 3) := by decide +kernel
theorem dX0_endedAs_75 : decode cX0_endedAs 75 = .ok (.iload_n 2, 1) := by decide +kernel
theorem dX0_endedAs_76 : decode cX0_endedAs 76 = .ok (.aload_n 0, 1) := by decide +kernel
theorem dX0_endedAs_77 : decode cX0_endedAs 77 = .ok (.getfield 90, 3) := by decide +kernel
theorem dX0_endedAs_80 : decode cX0_endedAs 80 = .ok (.if_icmp .le 5, 3) := by decide +kernel
theorem dX0_endedAs_83 : decode cX0_endedAs 83 = .ok (.iconst 1, 1) := by decide +kernel
theorem dX0_endedAs_84 : decode cX0_endedAs 84 = .ok (.ireturn, 1) := by decide +kernel
theorem dX0_endedAs_85 : decode cX0_endedAs 85 = .ok (.aload_n 3, 1) := by decide +kernel
theorem dX0_endedAs_86 : decode cX0_endedAs 86 = .ok (.getfield 135, 3) := by decide +kernel
theorem dX0_endedAs_89 : decode cX0_endedAs 89 = .ok (.aload 4, 2) := by decide +kernel
theorem dX0_endedAs_91 : decode cX0_endedAs 91 = .ok (.getfield 135, 3) := by decide +kernel
theorem dX0_endedAs_94 : decode cX0_endedAs 94 = .ok (.if_icmp .ne 19, 3) := by decide +kernel
theorem dX0_endedAs_97 : decode cX0_endedAs 97 = .ok (.aload_n 3, 1) := by decide +kernel
theorem dX0_endedAs_98 : decode cX0_endedAs 98 = .ok (.getfield 229, 3) := by decide +kernel
theorem dX0_endedAs_101 : decode cX0_endedAs 101 = .ok (.aload 4, 2) := by decide +kernel
theorem dX0_endedAs_103 : decode cX0_endedAs 103 = .ok (.getfield 229, 3) := by decide +kernel
theorem dX0_endedAs_106 : decode cX0_endedAs 106 = .ok (.if_icmp .ne 7, 3) := by decide +kernel
theorem dX0_endedAs_109 : decode cX0_endedAs 109 = .ok (.iconst 1, 1) := by decide +kernel
theorem dX0_endedAs_110 : decode cX0_endedAs 110 = .ok (.goto 4, 3) := by decide +kernel
theorem dX0_endedAs_113 : decode cX0_endedAs 113 = .ok (.iconst 0, 1) := by decide +kernel
theorem dX0_endedAs_114 : decode cX0_endedAs 114 = .ok (.ireturn, 1) := by decide +kernel
theorem dX1_init_0 : decode cX1_init 0 = .ok (.aload_n 0, 1) := by decide +kernel
theorem dX1_init_1 : decode cX1_init 1 = .ok (.invokespecial 3, 3) := by decide +kernel
theorem dX1_init_4 : decode cX1_init 4 = .ok (.aload_n 0, 1) := by decide +kernel
theorem dX1_init_5 : decode cX1_init 5 = .ok (.iload_n 1, 1) := by decide +kernel
theorem dX1_init_6 : decode cX1_init 6 = .ok (.putfield 9, 3) := by decide +kernel
theorem dX1_init_9 : decode cX1_init 9 = .ok (.aload_n 0, 1) := by decide +kernel
theorem dX1_init_10 : decode cX1_init 10 = .ok (.iload_n 2, 1) := by decide +kernel
theorem dX1_init_11 : decode cX1_init 11 = .ok (.anewarray 15, 3) := by decide +kernel
theorem dX1_init_14 : decode cX1_init 14 = .ok (.putfield 17, 3) := by decide +kernel
theorem dX1_init_17 : decode cX1_init 17 = .ok (.return_, 1) := by decide +kernel
theorem dX1_has_0 : decode cX1_has 0 = .ok (.iload_n 1, 1) := by decide +kernel
theorem dX1_has_1 : decode cX1_has 1 = .ok (.ifCond .lt 16, 3) := by decide +kernel
theorem dX1_has_4 : decode cX1_has 4 = .ok (.iload_n 1, 1) := by decide +kernel
theorem dX1_has_5 : decode cX1_has 5 = .ok (.aload_n 0, 1) := by decide +kernel
theorem dX1_has_6 : decode cX1_has 6 = .ok (.getfield 17, 3) := by decide +kernel
theorem dX1_has_9 : decode cX1_has 9 = .ok (.arraylength, 1) := by decide +kernel
theorem dX1_has_10 : decode cX1_has 10 = .ok (.if_icmp .ge 7, 3) := by decide +kernel
theorem dX1_has_13 : decode cX1_has 13 = .ok (.iconst 1, 1) := by decide +kernel
theorem dX1_has_14 : decode cX1_has 14 = .ok (.goto 4, 3) := by decide +kernel
theorem dX1_has_17 : decode cX1_has 17 = .ok (.iconst 0, 1) := by decide +kernel
theorem dX1_has_18 : decode cX1_has 18 = .ok (.ireturn, 1) := by decide +kernel
theorem dX1_faultOf_0 : decode cX1_faultOf 0 = .ok (.aload_n 0, 1) := by decide +kernel
theorem dX1_faultOf_1 : decode cX1_faultOf 1 = .ok (.iload_n 1, 1) := by decide +kernel
theorem dX1_faultOf_2 : decode cX1_faultOf 2 = .ok (.invokevirtual 21, 3) := by decide +kernel
theorem dX1_faultOf_5 : decode cX1_faultOf 5 = .ok (.ifCond .ne 5, 3) := by decide +kernel
theorem dX1_faultOf_8 : decode cX1_faultOf 8 = .ok (.iconst 2, 1) := by decide +kernel
theorem dX1_faultOf_9 : decode cX1_faultOf 9 = .ok (.ireturn, 1) := by decide +kernel
theorem dX1_faultOf_10 : decode cX1_faultOf 10 = .ok (.aload_n 0, 1) := by decide +kernel
theorem dX1_faultOf_11 : decode cX1_faultOf 11 = .ok (.getfield 17, 3) := by decide +kernel
theorem dX1_faultOf_14 : decode cX1_faultOf 14 = .ok (.iload_n 1, 1) := by decide +kernel
theorem dX1_faultOf_15 : decode cX1_faultOf 15 = .ok (.aaload, 1) := by decide +kernel
theorem dX1_faultOf_16 : decode cX1_faultOf 16 = .ok (.ifnonnull 7, 3) := by decide +kernel
theorem dX1_faultOf_19 : decode cX1_faultOf 19 = .ok (.iconst 1, 1) := by decide +kernel
theorem dX1_faultOf_20 : decode cX1_faultOf 20 = .ok (.goto 4, 3) := by decide +kernel
theorem dX1_faultOf_23 : decode cX1_faultOf 23 = .ok (.iconst 0, 1) := by decide +kernel
theorem dX1_faultOf_24 : decode cX1_faultOf 24 = .ok (.ireturn, 1) := by decide +kernel
theorem dX2_init_0 : decode cX2_init 0 = .ok (.aload_n 0, 1) := by decide +kernel
theorem dX2_init_1 : decode cX2_init 1 = .ok (.invokespecial 3, 3) := by decide +kernel
theorem dX2_init_4 : decode cX2_init 4 = .ok (.return_, 1) := by decide +kernel
theorem dX2_begin_0 : decode cX2_begin 0 = .ok (.aload_n 0, 1) := by decide +kernel
theorem dX2_begin_1 : decode cX2_begin 1 = .ok (.lconst 0, 1) := by decide +kernel
theorem dX2_begin_2 : decode cX2_begin 2 = .ok (.putfield 9, 3) := by decide +kernel
theorem dX2_begin_5 : decode cX2_begin 5 = .ok (.aload_n 0, 1) := by decide +kernel
theorem dX2_begin_6 : decode cX2_begin 6 = .ok (.bipush (-9), 2) := by decide +kernel
theorem dX2_begin_8 : decode cX2_begin 8 = .ok (.putfield 15, 3) := by decide +kernel
theorem dX2_begin_11 : decode cX2_begin 11 = .ok (.aload_n 0, 1) := by decide +kernel
theorem dX2_begin_12 : decode cX2_begin 12 = .ok (.lload_n 1, 1) := by decide +kernel
theorem dX2_begin_13 : decode cX2_begin 13 = .ok (.putfield 19, 3) := by decide +kernel
theorem dX2_begin_16 : decode cX2_begin 16 = .ok (.return_, 1) := by decide +kernel
theorem dX2_offer_0 : decode cX2_offer 0 = .ok (.aload_n 0, 1) := by decide +kernel
theorem dX2_offer_1 : decode cX2_offer 1 = .ok (.getfield 15, 3) := by decide +kernel
theorem dX2_offer_4 : decode cX2_offer 4 = .ok (.bipush (-9), 2) := by decide +kernel
theorem dX2_offer_6 : decode cX2_offer 6 = .ok (.if_icmp .eq 29, 3) := by decide +kernel
theorem dX2_offer_9 : decode cX2_offer 9 = .ok (.aload_n 0, 1) := by decide +kernel
theorem dX2_offer_10 : decode cX2_offer 10 = .ok (.getfield 9, 3) := by decide +kernel
theorem dX2_offer_13 : decode cX2_offer 13 = .ok (.lload_n 1, 1) := by decide +kernel
theorem dX2_offer_14 : decode cX2_offer 14 = .ok (.lcmp, 1) := by decide +kernel
theorem dX2_offer_15 : decode cX2_offer 15 = .ok (.ifCond .gt 20, 3) := by decide +kernel
theorem dX2_offer_18 : decode cX2_offer 18 = .ok (.aload_n 0, 1) := by decide +kernel
theorem dX2_offer_19 : decode cX2_offer 19 = .ok (.getfield 9, 3) := by decide +kernel
theorem dX2_offer_22 : decode cX2_offer 22 = .ok (.lload_n 1, 1) := by decide +kernel
theorem dX2_offer_23 : decode cX2_offer 23 = .ok (.lcmp, 1) := by decide +kernel
theorem dX2_offer_24 : decode cX2_offer 24 = .ok (.ifCond .ne 15, 3) := by decide +kernel
theorem dX2_offer_27 : decode cX2_offer 27 = .ok (.aload_n 0, 1) := by decide +kernel
theorem dX2_offer_28 : decode cX2_offer 28 = .ok (.getfield 15, 3) := by decide +kernel
theorem dX2_offer_31 : decode cX2_offer 31 = .ok (.iload_n 3, 1) := by decide +kernel
theorem dX2_offer_32 : decode cX2_offer 32 = .ok (.if_icmp .le 7, 3) := by decide +kernel
theorem dX2_offer_35 : decode cX2_offer 35 = .ok (.iconst 1, 1) := by decide +kernel
theorem dX2_offer_36 : decode cX2_offer 36 = .ok (.goto 4, 3) := by decide +kernel
theorem dX2_offer_39 : decode cX2_offer 39 = .ok (.iconst 0, 1) := by decide +kernel
theorem dX2_offer_40 : decode cX2_offer 40 = .ok (.istore 4, 2) := by decide +kernel
theorem dX2_offer_42 : decode cX2_offer 42 = .ok (.iload 4, 2) := by decide +kernel
theorem dX2_offer_44 : decode cX2_offer 44 = .ok (.ifCond .ne 4, 3) := by decide +kernel
theorem dX2_offer_47 : decode cX2_offer 47 = .ok (.return_, 1) := by decide +kernel
theorem dX2_offer_48 : decode cX2_offer 48 = .ok (.aload_n 0, 1) := by decide +kernel
theorem dX2_offer_49 : decode cX2_offer 49 = .ok (.lload_n 1, 1) := by decide +kernel
theorem dX2_offer_50 : decode cX2_offer 50 = .ok (.putfield 9, 3) := by decide +kernel
theorem dX2_offer_53 : decode cX2_offer 53 = .ok (.aload_n 0, 1) := by decide +kernel
theorem dX2_offer_54 : decode cX2_offer 54 = .ok (.iload_n 3, 1) := by decide +kernel
theorem dX2_offer_55 : decode cX2_offer 55 = .ok (.putfield 15, 3) := by decide +kernel
theorem dX2_offer_58 : decode cX2_offer 58 = .ok (.aload_n 0, 1) := by decide +kernel
theorem dX2_offer_59 : decode cX2_offer 59 = .ok (.lload_n 1, 1) := by decide +kernel
theorem dX2_offer_60 : decode cX2_offer 60 = .ok (.putfield 19, 3) := by decide +kernel
theorem dX2_offer_63 : decode cX2_offer 63 = .ok (.return_, 1) := by decide +kernel
theorem dX3_init_0 : decode cX3_init 0 = .ok (.aload_n 0, 1) := by decide +kernel
theorem dX3_init_1 : decode cX3_init 1 = .ok (.invokespecial 3, 3) := by decide +kernel
theorem dX3_init_4 : decode cX3_init 4 = .ok (.aload_n 0, 1) := by decide +kernel
theorem dX3_init_5 : decode cX3_init 5 = .ok (.iload_n 1, 1) := by decide +kernel
theorem dX3_init_6 : decode cX3_init 6 = .ok (.putfield 9, 3) := by decide +kernel
theorem dX3_init_9 : decode cX3_init 9 = .ok (.aload_n 0, 1) := by decide +kernel
theorem dX3_init_10 : decode cX3_init 10 = .ok (.iload_n 2, 1) := by decide +kernel
theorem dX3_init_11 : decode cX3_init 11 = .ok (.newarray .long, 2) := by decide +kernel
theorem dX3_init_13 : decode cX3_init 13 = .ok (.putfield 15, 3) := by decide +kernel
theorem dX3_init_16 : decode cX3_init 16 = .ok (.return_, 1) := by decide +kernel
theorem dX3_has_0 : decode cX3_has 0 = .ok (.iload_n 1, 1) := by decide +kernel
theorem dX3_has_1 : decode cX3_has 1 = .ok (.ifCond .lt 16, 3) := by decide +kernel
theorem dX3_has_4 : decode cX3_has 4 = .ok (.iload_n 1, 1) := by decide +kernel
theorem dX3_has_5 : decode cX3_has 5 = .ok (.aload_n 0, 1) := by decide +kernel
theorem dX3_has_6 : decode cX3_has 6 = .ok (.getfield 15, 3) := by decide +kernel
theorem dX3_has_9 : decode cX3_has 9 = .ok (.arraylength, 1) := by decide +kernel
theorem dX3_has_10 : decode cX3_has 10 = .ok (.if_icmp .ge 7, 3) := by decide +kernel
theorem dX3_has_13 : decode cX3_has 13 = .ok (.iconst 1, 1) := by decide +kernel
theorem dX3_has_14 : decode cX3_has 14 = .ok (.goto 4, 3) := by decide +kernel
theorem dX3_has_17 : decode cX3_has 17 = .ok (.iconst 0, 1) := by decide +kernel
theorem dX3_has_18 : decode cX3_has 18 = .ok (.ireturn, 1) := by decide +kernel
theorem dX3_worth_0 : decode cX3_worth 0 = .ok (.aload_n 0, 1) := by decide +kernel
theorem dX3_worth_1 : decode cX3_worth 1 = .ok (.iload_n 1, 1) := by decide +kernel
theorem dX3_worth_2 : decode cX3_worth 2 = .ok (.invokevirtual 19, 3) := by decide +kernel
theorem dX3_worth_5 : decode cX3_worth 5 = .ok (.ifCond .eq 14, 3) := by decide +kernel
theorem dX3_worth_8 : decode cX3_worth 8 = .ok (.aload_n 0, 1) := by decide +kernel
theorem dX3_worth_9 : decode cX3_worth 9 = .ok (.getfield 15, 3) := by decide +kernel
theorem dX3_worth_12 : decode cX3_worth 12 = .ok (.iload_n 1, 1) := by decide +kernel
theorem dX3_worth_13 : decode cX3_worth 13 = .ok (.laload, 1) := by decide +kernel
theorem dX3_worth_14 : decode cX3_worth 14 = .ok (.lconst 0, 1) := by decide +kernel
theorem dX3_worth_15 : decode cX3_worth 15 = .ok (.lcmp, 1) := by decide +kernel
theorem dX3_worth_16 : decode cX3_worth 16 = .ok (.ifCond .gt 5, 3) := by decide +kernel
theorem dX3_worth_19 : decode cX3_worth 19 = .ok (.lconst 0, 1) := by decide +kernel
theorem dX3_worth_20 : decode cX3_worth 20 = .ok (.lreturn, 1) := by decide +kernel
theorem dX3_worth_21 : decode cX3_worth 21 = .ok (.aload_n 0, 1) := by decide +kernel
theorem dX3_worth_22 : decode cX3_worth 22 = .ok (.getfield 15, 3) := by decide +kernel
theorem dX3_worth_25 : decode cX3_worth 25 = .ok (.iload_n 1, 1) := by decide +kernel
theorem dX3_worth_26 : decode cX3_worth 26 = .ok (.laload, 1) := by decide +kernel
theorem dX3_worth_27 : decode cX3_worth 27 = .ok (.ldc2_w 23, 3) := by decide +kernel
theorem dX3_worth_30 : decode cX3_worth 30 = .ok (.lcmp, 1) := by decide +kernel
theorem dX3_worth_31 : decode cX3_worth 31 = .ok (.ifCond .ge 12, 3) := by decide +kernel
theorem dX3_worth_34 : decode cX3_worth 34 = .ok (.aload_n 0, 1) := by decide +kernel
theorem dX3_worth_35 : decode cX3_worth 35 = .ok (.getfield 15, 3) := by decide +kernel
theorem dX3_worth_38 : decode cX3_worth 38 = .ok (.iload_n 1, 1) := by decide +kernel
theorem dX3_worth_39 : decode cX3_worth 39 = .ok (.laload, 1) := by decide +kernel
theorem dX3_worth_40 : decode cX3_worth 40 = .ok (.goto 6, 3) := by decide +kernel
theorem dX3_worth_43 : decode cX3_worth 43 = .ok (.ldc2_w 23, 3) := by decide +kernel
theorem dX3_worth_46 : decode cX3_worth 46 = .ok (.lreturn, 1) := by decide +kernel
theorem dX4_init_0 : decode cX4_init 0 = .ok (.aload_n 0, 1) := by decide +kernel
theorem dX4_init_1 : decode cX4_init 1 = .ok (.invokespecial 3, 3) := by decide +kernel
theorem dX4_init_4 : decode cX4_init 4 = .ok (.aload_n 0, 1) := by decide +kernel
theorem dX4_init_5 : decode cX4_init 5 = .ok (.bipush 6, 2) := by decide +kernel
theorem dX4_init_7 : decode cX4_init 7 = .ok (.anewarray 9, 3) := by decide +kernel
theorem dX4_init_10 : decode cX4_init 10 = .ok (.putfield 11, 3) := by decide +kernel
theorem dX4_init_13 : decode cX4_init 13 = .ok (.aload_n 0, 1) := by decide +kernel
theorem dX4_init_14 : decode cX4_init 14 = .ok (.bipush 20, 2) := by decide +kernel
theorem dX4_init_16 : decode cX4_init 16 = .ok (.anewarray 17, 3) := by decide +kernel
theorem dX4_init_19 : decode cX4_init 19 = .ok (.putfield 19, 3) := by decide +kernel
theorem dX4_init_22 : decode cX4_init 22 = .ok (.aload_n 0, 1) := by decide +kernel
theorem dX4_init_23 : decode cX4_init 23 = .ok (.bipush 8, 2) := by decide +kernel
theorem dX4_init_25 : decode cX4_init 25 = .ok (.anewarray 23, 3) := by decide +kernel
theorem dX4_init_28 : decode cX4_init 28 = .ok (.putfield 25, 3) := by decide +kernel
theorem dX4_init_31 : decode cX4_init 31 = .ok (.aload_n 0, 1) := by decide +kernel
theorem dX4_init_32 : decode cX4_init 32 = .ok (.sipush 400, 3) := by decide +kernel
theorem dX4_init_35 : decode cX4_init 35 = .ok (.newarray .int, 2) := by decide +kernel
theorem dX4_init_37 : decode cX4_init 37 = .ok (.putfield 29, 3) := by decide +kernel
theorem dX4_init_40 : decode cX4_init 40 = .ok (.return_, 1) := by decide +kernel
theorem dX4_gridAt_0 : decode cX4_gridAt 0 = .ok (.iload_n 1, 1) := by decide +kernel
theorem dX4_gridAt_1 : decode cX4_gridAt 1 = .ok (.ifCond .lt 20, 3) := by decide +kernel
theorem dX4_gridAt_4 : decode cX4_gridAt 4 = .ok (.iload_n 1, 1) := by decide +kernel
theorem dX4_gridAt_5 : decode cX4_gridAt 5 = .ok (.aload_n 0, 1) := by decide +kernel
theorem dX4_gridAt_6 : decode cX4_gridAt 6 = .ok (.getfield 33, 3) := by decide +kernel
theorem dX4_gridAt_9 : decode cX4_gridAt 9 = .ok (.if_icmp .ge 12, 3) := by decide +kernel
theorem dX4_gridAt_12 : decode cX4_gridAt 12 = .ok (.aload_n 0, 1) := by decide +kernel
theorem dX4_gridAt_13 : decode cX4_gridAt 13 = .ok (.getfield 11, 3) := by decide +kernel
theorem dX4_gridAt_16 : decode cX4_gridAt 16 = .ok (.iload_n 1, 1) := by decide +kernel
theorem dX4_gridAt_17 : decode cX4_gridAt 17 = .ok (.aaload, 1) := by decide +kernel
theorem dX4_gridAt_18 : decode cX4_gridAt 18 = .ok (.goto 4, 3) := by decide +kernel
theorem dX4_gridAt_21 : decode cX4_gridAt 21 = .ok (.aconst_null, 1) := by decide +kernel
theorem dX4_gridAt_22 : decode cX4_gridAt 22 = .ok (.areturn, 1) := by decide +kernel
theorem dX4_addTask_0 : decode cX4_addTask 0 = .ok (.aload_n 0, 1) := by decide +kernel
theorem dX4_addTask_1 : decode cX4_addTask 1 = .ok (.getfield 19, 3) := by decide +kernel
theorem dX4_addTask_4 : decode cX4_addTask 4 = .ok (.aload_n 0, 1) := by decide +kernel
theorem dX4_addTask_5 : decode cX4_addTask 5 = .ok (.getfield 37, 3) := by decide +kernel
theorem dX4_addTask_8 : decode cX4_addTask 8 = .ok (.aload_n 1, 1) := by decide +kernel
theorem dX4_addTask_9 : decode cX4_addTask 9 = .ok (.aastore, 1) := by decide +kernel
theorem dX4_addTask_10 : decode cX4_addTask 10 = .ok (.aload_n 0, 1) := by decide +kernel
theorem dX4_addTask_11 : decode cX4_addTask 11 = .ok (.dup, 1) := by decide +kernel
theorem dX4_addTask_12 : decode cX4_addTask 12 = .ok (.getfield 37, 3) := by decide +kernel
theorem dX4_addTask_15 : decode cX4_addTask 15 = .ok (.dup_x1, 1) := by decide +kernel
theorem dX4_addTask_16 : decode cX4_addTask 16 = .ok (.iconst 1, 1) := by decide +kernel
theorem dX4_addTask_17 : decode cX4_addTask 17 = .ok (.iadd, 1) := by decide +kernel
theorem dX4_addTask_18 : decode cX4_addTask 18 = .ok (.putfield 37, 3) := by decide +kernel
theorem dX4_addTask_21 : decode cX4_addTask 21 = .ok (.ireturn, 1) := by decide +kernel
theorem dX5_init_0 : decode cX5_init 0 = .ok (.aload_n 0, 1) := by decide +kernel
theorem dX5_init_1 : decode cX5_init 1 = .ok (.iload_n 1, 1) := by decide +kernel
theorem dX5_init_2 : decode cX5_init 2 = .ok (.ifCond .eq 7, 3) := by decide +kernel
theorem dX5_init_5 : decode cX5_init 5 = .ok (.iconst 3, 1) := by decide +kernel
theorem dX5_init_6 : decode cX5_init 6 = .ok (.goto 4, 3) := by decide +kernel
theorem dX5_init_9 : decode cX5_init 9 = .ok (.iconst 2, 1) := by decide +kernel
theorem dX5_init_10 : decode cX5_init 10 = .ok (.iload 4, 2) := by decide +kernel
theorem dX5_init_12 : decode cX5_init 12 = .ok (.iload 5, 2) := by decide +kernel
theorem dX5_init_14 : decode cX5_init 14 = .ok (.invokespecial 3, 3) := by decide +kernel
theorem dX5_init_17 : decode cX5_init 17 = .ok (.aload_n 0, 1) := by decide +kernel
theorem dX5_init_18 : decode cX5_init 18 = .ok (.aload_n 2, 1) := by decide +kernel
theorem dX5_init_19 : decode cX5_init 19 = .ok (.putfield 9, 3) := by decide +kernel
theorem dX5_init_22 : decode cX5_init 22 = .ok (.aload_n 0, 1) := by decide +kernel
theorem dX5_init_23 : decode cX5_init 23 = .ok (.iload_n 3, 1) := by decide +kernel
theorem dX5_init_24 : decode cX5_init 24 = .ok (.putfield 15, 3) := by decide +kernel
theorem dX5_init_27 : decode cX5_init 27 = .ok (.return_, 1) := by decide +kernel
theorem dX5_rank_0 : decode cX5_rank 0 = .ok (.aload_n 0, 1) := by decide +kernel
theorem dX5_rank_1 : decode cX5_rank 1 = .ok (.getfield 19, 3) := by decide +kernel
theorem dX5_rank_4 : decode cX5_rank 4 = .ok (.iconst 3, 1) := by decide +kernel
theorem dX5_rank_5 : decode cX5_rank 5 = .ok (.if_icmp .ne 8, 3) := by decide +kernel
theorem dX5_rank_8 : decode cX5_rank 8 = .ok (.bipush 12, 2) := by decide +kernel
theorem dX5_rank_10 : decode cX5_rank 10 = .ok (.goto 5, 3) := by decide +kernel
theorem dX5_rank_13 : decode cX5_rank 13 = .ok (.bipush 10, 2) := by decide +kernel
theorem dX5_rank_15 : decode cX5_rank 15 = .ok (.ireturn, 1) := by decide +kernel
theorem dX5_step_0 : decode cX5_step 0 = .ok (.aload_n 0, 1) := by decide +kernel
theorem dX5_step_1 : decode cX5_step 1 = .ok (.getfield 9, 3) := by decide +kernel
theorem dX5_step_4 : decode cX5_step 4 = .ok (.getfield 22, 3) := by decide +kernel
theorem dX5_step_7 : decode cX5_step 7 = .ok (.aload_n 0, 1) := by decide +kernel
theorem dX5_step_8 : decode cX5_step 8 = .ok (.getfield 15, 3) := by decide +kernel
theorem dX5_step_11 : decode cX5_step 11 = .ok (.if_icmp .eq 9, 3) := by decide +kernel
theorem dX5_step_14 : decode cX5_step 14 = .ok (.aload_n 1, 1) := by decide +kernel
theorem dX5_step_15 : decode cX5_step 15 = .ok (.iconst 3, 1) := by decide +kernel
theorem dX5_step_16 : decode cX5_step 16 = .ok (.invokevirtual 25, 3) := by decide +kernel
theorem dX5_step_19 : decode cX5_step 19 = .ok (.return_, 1) := by decide +kernel
theorem dX5_step_20 : decode cX5_step 20 = .ok (.aload_n 1, 1) := by decide +kernel
theorem dX5_step_21 : decode cX5_step 21 = .ok (.getfield 31, 3) := by decide +kernel
theorem dX5_step_24 : decode cX5_step 24 = .ok (.istore_n 3, 1) := by decide +kernel
theorem dX5_step_25 : decode cX5_step 25 = .ok (.iload_n 3, 1) := by decide +kernel
theorem dX5_step_26 : decode cX5_step 26 = .ok (.aload_n 0, 1) := by decide +kernel
theorem dX5_step_27 : decode cX5_step 27 = .ok (.getfield 9, 3) := by decide +kernel
theorem dX5_step_30 : decode cX5_step 30 = .ok (.getfield 34, 3) := by decide +kernel
theorem dX5_step_33 : decode cX5_step 33 = .ok (.arraylength, 1) := by decide +kernel
theorem dX5_step_34 : decode cX5_step 34 = .ok (.if_icmp .ge 61, 3) := by decide +kernel
theorem dX5_step_37 : decode cX5_step 37 = .ok (.aload_n 0, 1) := by decide +kernel
theorem dX5_step_38 : decode cX5_step 38 = .ok (.getfield 9, 3) := by decide +kernel
theorem dX5_step_41 : decode cX5_step 41 = .ok (.getfield 34, 3) := by decide +kernel
theorem dX5_step_44 : decode cX5_step 44 = .ok (.iload_n 3, 1) := by decide +kernel
theorem dX5_step_45 : decode cX5_step 45 = .ok (.aaload, 1) := by decide +kernel
theorem dX5_step_46 : decode cX5_step 46 = .ok (.astore 4, 2) := by decide +kernel
theorem dX5_step_48 : decode cX5_step 48 = .ok (.aload 4, 2) := by decide +kernel
theorem dX5_step_50 : decode cX5_step 50 = .ok (.ifnonnull 9, 3) := by decide +kernel
theorem dX5_step_53 : decode cX5_step 53 = .ok (.aload_n 0, 1) := by decide +kernel
theorem dX5_step_54 : decode cX5_step 54 = .ok (.aload_n 1, 1) := by decide +kernel
theorem dX5_step_55 : decode cX5_step 55 = .ok (.invokevirtual 38, 3) := by decide +kernel
theorem dX5_step_58 : decode cX5_step 58 = .ok (.return_, 1) := by decide +kernel
theorem dX5_step_59 : decode cX5_step 59 = .ok (.aload 4, 2) := by decide +kernel
theorem dX5_step_61 : decode cX5_step 61 = .ok (.aload_n 1, 1) := by decide +kernel
theorem dX5_step_62 : decode cX5_step 62 = .ok (.getfield 42, 3) := by decide +kernel
theorem dX5_step_65 : decode cX5_step 65 = .ok (.invokevirtual 45, 3) := by decide +kernel
theorem dX5_step_68 : decode cX5_step 68 = .ok (.ifCond .eq 17, 3) := by decide +kernel
theorem dX5_step_71 : decode cX5_step 71 = .ok (.aload_n 1, 1) := by decide +kernel
theorem dX5_step_72 : decode cX5_step 72 = .ok (.aload 4, 2) := by decide +kernel
theorem dX5_step_74 : decode cX5_step 74 = .ok (.aload_n 1, 1) := by decide +kernel
theorem dX5_step_75 : decode cX5_step 75 = .ok (.getfield 42, 3) := by decide +kernel
theorem dX5_step_78 : decode cX5_step 78 = .ok (.invokevirtual 51, 3) := by decide +kernel
theorem dX5_step_81 : decode cX5_step 81 = .ok (.invokevirtual 55, 3) := by decide +kernel
theorem dX5_step_84 : decode cX5_step 84 = .ok (.return_, 1) := by decide +kernel
theorem dX5_step_85 : decode cX5_step 85 = .ok (.aload_n 1, 1) := by decide +kernel
theorem dX5_step_86 : decode cX5_step 86 = .ok (.invokevirtual 59, 3) := by decide +kernel
theorem dX5_step_89 : decode cX5_step 89 = .ok (.iinc 3 1, 3) := by decide +kernel
theorem dX5_step_92 : decode cX5_step 92 = .ok (.goto (-67), 3) := by decide +kernel
theorem dX5_step_95 : decode cX5_step 95 = .ok (.aload_n 1, 1) := by decide +kernel
theorem dX5_step_96 : decode cX5_step 96 = .ok (.iconst 2, 1) := by decide +kernel
theorem dX5_step_97 : decode cX5_step 97 = .ok (.putfield 63, 3) := by decide +kernel
theorem dX5_step_100 : decode cX5_step 100 = .ok (.return_, 1) := by decide +kernel
theorem dX5_meetMissing_0 : decode cX5_meetMissing 0 = .ok (.aload_n 0, 1) := by decide +kernel
theorem dX5_meetMissing_1 : decode cX5_meetMissing 1 = .ok (.getfield 19, 3) := by decide +kernel
theorem dX5_meetMissing_4 : decode cX5_meetMissing 4 = .ok (.iconst 3, 1) := by decide +kernel
theorem dX5_meetMissing_5 : decode cX5_meetMissing 5 = .ok (.if_icmp .ne 20, 3) := by decide +kernel
theorem dX5_meetMissing_8 : decode cX5_meetMissing 8 = .ok (.aload_n 1, 1) := by decide +kernel
theorem dX5_meetMissing_9 : decode cX5_meetMissing 9 = .ok (.dup, 1) := by decide +kernel
theorem dX5_meetMissing_10 : decode cX5_meetMissing 10 = .ok (.getfield 66, 3) := by decide +kernel
theorem dX5_meetMissing_13 : decode cX5_meetMissing 13 = .ok (.iconst 1, 1) := by decide +kernel
theorem dX5_meetMissing_14 : decode cX5_meetMissing 14 = .ok (.iadd, 1) := by decide +kernel
theorem dX5_meetMissing_15 : decode cX5_meetMissing 15 = .ok (.putfield 66, 3) := by decide +kernel
theorem dX5_meetMissing_18 : decode cX5_meetMissing 18 = .ok (.aload_n 1, 1) := by decide +kernel
theorem dX5_meetMissing_19 : decode cX5_meetMissing 19 = .ok (.invokevirtual 59, 3) := by decide +kernel
theorem dX5_meetMissing_22 : decode cX5_meetMissing 22 = .ok (.goto 8, 3) := by decide +kernel
theorem dX5_meetMissing_25 : decode cX5_meetMissing 25 = .ok (.aload_n 1, 1) := by decide +kernel
theorem dX5_meetMissing_26 : decode cX5_meetMissing 26 = .ok (.iconst 1, 1) := by decide +kernel
theorem dX5_meetMissing_27 : decode cX5_meetMissing 27 = .ok (.invokevirtual 25, 3) := by decide +kernel
theorem dX5_meetMissing_30 : decode cX5_meetMissing 30 = .ok (.return_, 1) := by decide +kernel
theorem dX5_foundBy_0 : decode cX5_foundBy 0 = .ok (.aload_n 1, 1) := by decide +kernel
theorem dX5_foundBy_1 : decode cX5_foundBy 1 = .ok (.getfield 69, 3) := by decide +kernel
theorem dX5_foundBy_4 : decode cX5_foundBy 4 = .ok (.lreturn, 1) := by decide +kernel
theorem dX6_init_0 : decode cX6_init 0 = .ok (.aload_n 0, 1) := by decide +kernel
theorem dX6_init_1 : decode cX6_init 1 = .ok (.invokespecial 1, 3) := by decide +kernel
theorem dX6_init_4 : decode cX6_init 4 = .ok (.aload_n 0, 1) := by decide +kernel
theorem dX6_init_5 : decode cX6_init 5 = .ok (.aload_n 1, 1) := by decide +kernel
theorem dX6_init_6 : decode cX6_init 6 = .ok (.putfield 7, 3) := by decide +kernel
theorem dX6_init_9 : decode cX6_init 9 = .ok (.aload_n 0, 1) := by decide +kernel
theorem dX6_init_10 : decode cX6_init 10 = .ok (.iload_n 2, 1) := by decide +kernel
theorem dX6_init_11 : decode cX6_init 11 = .ok (.putfield 13, 3) := by decide +kernel
theorem dX6_init_14 : decode cX6_init 14 = .ok (.aload_n 0, 1) := by decide +kernel
theorem dX6_init_15 : decode cX6_init 15 = .ok (.iload_n 3, 1) := by decide +kernel
theorem dX6_init_16 : decode cX6_init 16 = .ok (.putfield 17, 3) := by decide +kernel
theorem dX6_init_19 : decode cX6_init 19 = .ok (.aload_n 0, 1) := by decide +kernel
theorem dX6_init_20 : decode cX6_init 20 = .ok (.lload 4, 2) := by decide +kernel
theorem dX6_init_22 : decode cX6_init 22 = .ok (.putfield 20, 3) := by decide +kernel
theorem dX6_init_25 : decode cX6_init 25 = .ok (.return_, 1) := by decide +kernel
theorem dX7_init_0 : decode cX7_init 0 = .ok (.aload_n 0, 1) := by decide +kernel
theorem dX7_init_1 : decode cX7_init 1 = .ok (.iconst 4, 1) := by decide +kernel
theorem dX7_init_2 : decode cX7_init 2 = .ok (.iload 5, 2) := by decide +kernel
theorem dX7_init_4 : decode cX7_init 4 = .ok (.iload 6, 2) := by decide +kernel
theorem dX7_init_6 : decode cX7_init 6 = .ok (.invokespecial 3, 3) := by decide +kernel
theorem dX7_init_9 : decode cX7_init 9 = .ok (.aload_n 0, 1) := by decide +kernel
theorem dX7_init_10 : decode cX7_init 10 = .ok (.aload_n 1, 1) := by decide +kernel
theorem dX7_init_11 : decode cX7_init 11 = .ok (.putfield 9, 3) := by decide +kernel
theorem dX7_init_14 : decode cX7_init 14 = .ok (.aload_n 0, 1) := by decide +kernel
theorem dX7_init_15 : decode cX7_init 15 = .ok (.iload_n 2, 1) := by decide +kernel
theorem dX7_init_16 : decode cX7_init 16 = .ok (.putfield 15, 3) := by decide +kernel
theorem dX7_init_19 : decode cX7_init 19 = .ok (.aload_n 0, 1) := by decide +kernel
theorem dX7_init_20 : decode cX7_init 20 = .ok (.iload_n 3, 1) := by decide +kernel
theorem dX7_init_21 : decode cX7_init 21 = .ok (.putfield 19, 3) := by decide +kernel
theorem dX7_init_24 : decode cX7_init 24 = .ok (.aload_n 0, 1) := by decide +kernel
theorem dX7_init_25 : decode cX7_init 25 = .ok (.iload 4, 2) := by decide +kernel
theorem dX7_init_27 : decode cX7_init 27 = .ok (.putfield 22, 3) := by decide +kernel
theorem dX7_init_30 : decode cX7_init 30 = .ok (.return_, 1) := by decide +kernel
theorem dX7_rank_0 : decode cX7_rank 0 = .ok (.bipush 30, 2) := by decide +kernel
theorem dX7_rank_2 : decode cX7_rank 2 = .ok (.ireturn, 1) := by decide +kernel
theorem dX7_step_0 : decode cX7_step 0 = .ok (.aload_n 0, 1) := by decide +kernel
theorem dX7_step_1 : decode cX7_step 1 = .ok (.getfield 19, 3) := by decide +kernel
theorem dX7_step_4 : decode cX7_step 4 = .ok (.aload_n 0, 1) := by decide +kernel
theorem dX7_step_5 : decode cX7_step 5 = .ok (.getfield 22, 3) := by decide +kernel
theorem dX7_step_8 : decode cX7_step 8 = .ok (.if_icmp .lt 9, 3) := by decide +kernel
theorem dX7_step_11 : decode cX7_step 11 = .ok (.aload_n 1, 1) := by decide +kernel
theorem dX7_step_12 : decode cX7_step 12 = .ok (.iconst 2, 1) := by decide +kernel
theorem dX7_step_13 : decode cX7_step 13 = .ok (.putfield 25, 3) := by decide +kernel
theorem dX7_step_16 : decode cX7_step 16 = .ok (.return_, 1) := by decide +kernel
theorem dX7_step_17 : decode cX7_step 17 = .ok (.aload_n 0, 1) := by decide +kernel
theorem dX7_step_18 : decode cX7_step 18 = .ok (.aload_n 1, 1) := by decide +kernel
theorem dX7_step_19 : decode cX7_step 19 = .ok (.aload_n 2, 1) := by decide +kernel
theorem dX7_step_20 : decode cX7_step 20 = .ok (.aload_n 0, 1) := by decide +kernel
theorem dX7_step_21 : decode cX7_step 21 = .ok (.getfield 15, 3) := by decide +kernel
theorem dX7_step_24 : decode cX7_step 24 = .ok (.aaload, 1) := by decide +kernel
theorem dX7_step_25 : decode cX7_step 25 = .ok (.invokevirtual 30, 3) := by decide +kernel
theorem dX7_step_28 : decode cX7_step 28 = .ok (.istore_n 3, 1) := by decide +kernel
theorem dX7_step_29 : decode cX7_step 29 = .ok (.iload_n 3, 1) := by decide +kernel
theorem dX7_step_30 : decode cX7_step 30 = .ok (.ifCond .le 8, 3) := by decide +kernel
theorem dX7_step_33 : decode cX7_step 33 = .ok (.aload_n 1, 1) := by decide +kernel
theorem dX7_step_34 : decode cX7_step 34 = .ok (.iload_n 3, 1) := by decide +kernel
theorem dX7_step_35 : decode cX7_step 35 = .ok (.invokevirtual 34, 3) := by decide +kernel
theorem dX7_step_38 : decode cX7_step 38 = .ok (.iload_n 3, 1) := by decide +kernel
theorem dX7_step_39 : decode cX7_step 39 = .ok (.iconst (-1), 1) := by decide +kernel
theorem dX7_step_40 : decode cX7_step 40 = .ok (.if_icmp .eq 4, 3) := by decide +kernel
theorem dX7_step_43 : decode cX7_step 43 = .ok (.return_, 1) := by decide +kernel
theorem dX7_step_44 : decode cX7_step 44 = .ok (.aload_n 1, 1) := by decide +kernel
theorem dX7_step_45 : decode cX7_step 45 = .ok (.invokevirtual 38, 3) := by decide +kernel
theorem dX7_step_48 : decode cX7_step 48 = .ok (.aload_n 0, 1) := by decide +kernel
theorem dX7_step_49 : decode cX7_step 49 = .ok (.getfield 19, 3) := by decide +kernel
theorem dX7_step_52 : decode cX7_step 52 = .ok (.aload_n 1, 1) := by decide +kernel
theorem dX7_step_53 : decode cX7_step 53 = .ok (.getfield 42, 3) := by decide +kernel
theorem dX7_step_56 : decode cX7_step 56 = .ok (.iadd, 1) := by decide +kernel
theorem dX7_step_57 : decode cX7_step 57 = .ok (.aload_n 0, 1) := by decide +kernel
theorem dX7_step_58 : decode cX7_step 58 = .ok (.getfield 22, 3) := by decide +kernel
theorem dX7_step_61 : decode cX7_step 61 = .ok (.if_icmp .lt 8, 3) := by decide +kernel
theorem dX7_step_64 : decode cX7_step 64 = .ok (.aload_n 1, 1) := by decide +kernel
theorem dX7_step_65 : decode cX7_step 65 = .ok (.iconst 2, 1) := by decide +kernel
theorem dX7_step_66 : decode cX7_step 66 = .ok (.putfield 25, 3) := by decide +kernel
theorem dX7_step_69 : decode cX7_step 69 = .ok (.return_, 1) := by decide +kernel
theorem dX7_stepInLine_0 : decode cX7_stepInLine 0 = .ok (.aload_n 0, 1) := by decide +kernel
theorem dX7_stepInLine_1 : decode cX7_stepInLine 1 = .ok (.getfield 19, 3) := by decide +kernel
theorem dX7_stepInLine_4 : decode cX7_stepInLine 4 = .ok (.aload_n 1, 1) := by decide +kernel
theorem dX7_stepInLine_5 : decode cX7_stepInLine 5 = .ok (.getfield 42, 3) := by decide +kernel
theorem dX7_stepInLine_8 : decode cX7_stepInLine 8 = .ok (.iadd, 1) := by decide +kernel
theorem dX7_stepInLine_9 : decode cX7_stepInLine 9 = .ok (.istore_n 3, 1) := by decide +kernel
theorem dX7_stepInLine_10 : decode cX7_stepInLine 10 = .ok (.aload_n 0, 1) := by decide +kernel
theorem dX7_stepInLine_11 : decode cX7_stepInLine 11 = .ok (.getfield 9, 3) := by decide +kernel
theorem dX7_stepInLine_14 : decode cX7_stepInLine 14 = .ok (.getfield 45, 3) := by decide +kernel
theorem dX7_stepInLine_17 : decode cX7_stepInLine 17 = .ok (.getfield 51, 3) := by decide +kernel
theorem dX7_stepInLine_20 : decode cX7_stepInLine 20 = .ok (.aload_n 0, 1) := by decide +kernel
theorem dX7_stepInLine_21 : decode cX7_stepInLine 21 = .ok (.getfield 9, 3) := by decide +kernel
theorem dX7_stepInLine_24 : decode cX7_stepInLine 24 = .ok (.getfield 56, 3) := by decide +kernel
theorem dX7_stepInLine_27 : decode cX7_stepInLine 27 = .ok (.if_icmp .eq 5, 3) := by decide +kernel
theorem dX7_stepInLine_30 : decode cX7_stepInLine 30 = .ok (.iconst 3, 1) := by decide +kernel
theorem dX7_stepInLine_31 : decode cX7_stepInLine 31 = .ok (.ireturn, 1) := by decide +kernel
theorem dX7_stepInLine_32 : decode cX7_stepInLine 32 = .ok (.aload_n 0, 1) := by decide +kernel
theorem dX7_stepInLine_33 : decode cX7_stepInLine 33 = .ok (.getfield 9, 3) := by decide +kernel
theorem dX7_stepInLine_36 : decode cX7_stepInLine 36 = .ok (.getfield 45, 3) := by decide +kernel
theorem dX7_stepInLine_39 : decode cX7_stepInLine 39 = .ok (.iload_n 3, 1) := by decide +kernel
theorem dX7_stepInLine_40 : decode cX7_stepInLine 40 = .ok (.invokevirtual 57, 3) := by decide +kernel
theorem dX7_stepInLine_43 : decode cX7_stepInLine 43 = .ok (.istore 4, 2) := by decide +kernel
theorem dX7_stepInLine_45 : decode cX7_stepInLine 45 = .ok (.iload 4, 2) := by decide +kernel
theorem dX7_stepInLine_47 : decode cX7_stepInLine 47 = .ok (.ifCond .eq 6, 3) := by decide +kernel
theorem dX7_stepInLine_50 : decode cX7_stepInLine 50 = .ok (.iload 4, 2) := by decide +kernel
theorem dX7_stepInLine_52 : decode cX7_stepInLine 52 = .ok (.ireturn, 1) := by decide +kernel
theorem dX7_stepInLine_53 : decode cX7_stepInLine 53 = .ok (.aload_n 0, 1) := by decide +kernel
theorem dX7_stepInLine_54 : decode cX7_stepInLine 54 = .ok (.getfield 9, 3) := by decide +kernel
theorem dX7_stepInLine_57 : decode cX7_stepInLine 57 = .ok (.getfield 45, 3) := by decide +kernel
theorem dX7_stepInLine_60 : decode cX7_stepInLine 60 = .ok (.getfield 61, 3) := by decide +kernel
theorem dX7_stepInLine_63 : decode cX7_stepInLine 63 = .ok (.iload_n 3, 1) := by decide +kernel
theorem dX7_stepInLine_64 : decode cX7_stepInLine 64 = .ok (.aaload, 1) := by decide +kernel
theorem dX7_stepInLine_65 : decode cX7_stepInLine 65 = .ok (.astore 5, 2) := by decide +kernel
theorem dX7_stepInLine_67 : decode cX7_stepInLine 67 = .ok (.aload 5, 2) := by decide +kernel
theorem dX7_stepInLine_69 : decode cX7_stepInLine 69 = .ok (.aload_n 1, 1) := by decide +kernel
theorem dX7_stepInLine_70 : decode cX7_stepInLine 70 = .ok (.getfield 65, 3) := by decide +kernel
theorem dX7_stepInLine_73 : decode cX7_stepInLine 73 = .ok (.invokevirtual 68, 3) := by decide +kernel
theorem dX7_stepInLine_76 : decode cX7_stepInLine 76 = .ok (.ifCond .eq 16, 3) := by decide +kernel
theorem dX7_stepInLine_79 : decode cX7_stepInLine 79 = .ok (.aload_n 1, 1) := by decide +kernel
theorem dX7_stepInLine_80 : decode cX7_stepInLine 80 = .ok (.aload 5, 2) := by decide +kernel
theorem dX7_stepInLine_82 : decode cX7_stepInLine 82 = .ok (.aload_n 1, 1) := by decide +kernel
theorem dX7_stepInLine_83 : decode cX7_stepInLine 83 = .ok (.getfield 65, 3) := by decide +kernel
theorem dX7_stepInLine_86 : decode cX7_stepInLine 86 = .ok (.invokevirtual 74, 3) := by decide +kernel
theorem dX7_stepInLine_89 : decode cX7_stepInLine 89 = .ok (.invokevirtual 78, 3) := by decide +kernel
theorem dX7_stepInLine_92 : decode cX7_stepInLine 92 = .ok (.aload_n 0, 1) := by decide +kernel
theorem dX7_stepInLine_93 : decode cX7_stepInLine 93 = .ok (.getfield 9, 3) := by decide +kernel
theorem dX7_stepInLine_96 : decode cX7_stepInLine 96 = .ok (.getfield 82, 3) := by decide +kernel
theorem dX7_stepInLine_99 : decode cX7_stepInLine 99 = .ok (.ifCond .ne 6, 3) := by decide +kernel
theorem dX7_stepInLine_102 : decode cX7_stepInLine 102 = .ok (.bipush 6, 2) := by decide +kernel
theorem dX7_stepInLine_104 : decode cX7_stepInLine 104 = .ok (.ireturn, 1) := by decide +kernel
theorem dX7_stepInLine_105 : decode cX7_stepInLine 105 = .ok (.aload_n 1, 1) := by decide +kernel
theorem dX7_stepInLine_106 : decode cX7_stepInLine 106 = .ok (.getfield 85, 3) := by decide +kernel
theorem dX7_stepInLine_109 : decode cX7_stepInLine 109 = .ok (.aload_n 0, 1) := by decide +kernel
theorem dX7_stepInLine_110 : decode cX7_stepInLine 110 = .ok (.getfield 9, 3) := by decide +kernel
theorem dX7_stepInLine_113 : decode cX7_stepInLine 113 = .ok (.getfield 82, 3) := by decide +kernel
theorem dX7_stepInLine_116 : decode cX7_stepInLine 116 = .ok (.i2l, 1) := by decide +kernel
theorem dX7_stepInLine_117 : decode cX7_stepInLine 117 = .ok (.ldiv, 1) := by decide +kernel
theorem dX7_stepInLine_118 : decode cX7_stepInLine 118 = .ok (.lstore 6, 2) := by decide +kernel
theorem dX7_stepInLine_120 : decode cX7_stepInLine 120 = .ok (.lload 6, 2) := by decide +kernel
theorem dX7_stepInLine_122 : decode cX7_stepInLine 122 = .ok (.aload_n 2, 1) := by decide +kernel
theorem dX7_stepInLine_123 : decode cX7_stepInLine 123 = .ok (.getfield 89, 3) := by decide +kernel
theorem dX7_stepInLine_126 : decode cX7_stepInLine 126 = .ok (.lcmp, 1) := by decide +kernel
theorem dX7_stepInLine_127 : decode cX7_stepInLine 127 = .ok (.ifCond .le 5, 3) := by decide +kernel
theorem dX7_stepInLine_130 : decode cX7_stepInLine 130 = .ok (.iconst (-1), 1) := by decide +kernel
theorem dX7_stepInLine_131 : decode cX7_stepInLine 131 = .ok (.ireturn, 1) := by decide +kernel
theorem dX7_stepInLine_132 : decode cX7_stepInLine 132 = .ok (.aload 5, 2) := by decide +kernel
theorem dX7_stepInLine_134 : decode cX7_stepInLine 134 = .ok (.aload_n 1, 1) := by decide +kernel
theorem dX7_stepInLine_135 : decode cX7_stepInLine 135 = .ok (.getfield 65, 3) := by decide +kernel
theorem dX7_stepInLine_138 : decode cX7_stepInLine 138 = .ok (.invokevirtual 68, 3) := by decide +kernel
theorem dX7_stepInLine_141 : decode cX7_stepInLine 141 = .ok (.ifCond .eq 5, 3) := by decide +kernel
theorem dX7_stepInLine_144 : decode cX7_stepInLine 144 = .ok (.iconst 0, 1) := by decide +kernel
theorem dX7_stepInLine_145 : decode cX7_stepInLine 145 = .ok (.ireturn, 1) := by decide +kernel
theorem dX7_stepInLine_146 : decode cX7_stepInLine 146 = .ok (.aload_n 2, 1) := by decide +kernel
theorem dX7_stepInLine_147 : decode cX7_stepInLine 147 = .ok (.lload 6, 2) := by decide +kernel
theorem dX7_stepInLine_149 : decode cX7_stepInLine 149 = .ok (.iload_n 3, 1) := by decide +kernel
theorem dX7_stepInLine_150 : decode cX7_stepInLine 150 = .ok (.invokevirtual 94, 3) := by decide +kernel
theorem dX7_stepInLine_153 : decode cX7_stepInLine 153 = .ok (.iconst (-1), 1) := by decide +kernel
theorem dX7_stepInLine_154 : decode cX7_stepInLine 154 = .ok (.ireturn, 1) := by decide +kernel
theorem dX7_doAgain_0 : decode cX7_doAgain 0 = .ok (.iconst 0, 1) := by decide +kernel
theorem dX7_doAgain_1 : decode cX7_doAgain 1 = .ok (.istore_n 3, 1) := by decide +kernel
theorem dX7_doAgain_2 : decode cX7_doAgain 2 = .ok (.aload_n 1, 1) := by decide +kernel
theorem dX7_doAgain_3 : decode cX7_doAgain 3 = .ok (.invokevirtual 98, 3) := by decide +kernel
theorem dX7_doAgain_6 : decode cX7_doAgain 6 = .ok (.aload_n 0, 1) := by decide +kernel
theorem dX7_doAgain_7 : decode cX7_doAgain 7 = .ok (.getfield 19, 3) := by decide +kernel
theorem dX7_doAgain_10 : decode cX7_doAgain 10 = .ok (.istore 4, 2) := by decide +kernel
theorem dX7_doAgain_12 : decode cX7_doAgain 12 = .ok (.iload 4, 2) := by decide +kernel
theorem dX7_doAgain_14 : decode cX7_doAgain 14 = .ok (.aload_n 0, 1) := by decide +kernel
theorem dX7_doAgain_15 : decode cX7_doAgain 15 = .ok (.getfield 22, 3) := by decide +kernel
theorem dX7_doAgain_18 : decode cX7_doAgain 18 = .ok (.if_icmp .ge 53, 3) := by decide +kernel
theorem dX7_doAgain_21 : decode cX7_doAgain 21 = .ok (.iconst 0, 1) := by decide +kernel
theorem dX7_doAgain_22 : decode cX7_doAgain 22 = .ok (.istore 5, 2) := by decide +kernel
theorem dX7_doAgain_24 : decode cX7_doAgain 24 = .ok (.iconst 0, 1) := by decide +kernel
theorem dX7_doAgain_25 : decode cX7_doAgain 25 = .ok (.istore 6, 2) := by decide +kernel
theorem dX7_doAgain_27 : decode cX7_doAgain 27 = .ok (.iload 6, 2) := by decide +kernel
theorem dX7_doAgain_29 : decode cX7_doAgain 29 = .ok (.bipush 12, 2) := by decide +kernel
theorem dX7_doAgain_31 : decode cX7_doAgain 31 = .ok (.if_icmp .gt 22, 3) := by decide +kernel
theorem dX7_doAgain_34 : decode cX7_doAgain 34 = .ok (.iload 5, 2) := by decide +kernel
theorem dX7_doAgain_36 : decode cX7_doAgain 36 = .ok (.ifCond .ne 17, 3) := by decide +kernel
theorem dX7_doAgain_39 : decode cX7_doAgain 39 = .ok (.aload_n 0, 1) := by decide +kernel
theorem dX7_doAgain_40 : decode cX7_doAgain 40 = .ok (.aload_n 1, 1) := by decide +kernel
theorem dX7_doAgain_41 : decode cX7_doAgain 41 = .ok (.aload_n 2, 1) := by decide +kernel
theorem dX7_doAgain_42 : decode cX7_doAgain 42 = .ok (.invokevirtual 30, 3) := by decide +kernel
theorem dX7_doAgain_45 : decode cX7_doAgain 45 = .ok (.istore 5, 2) := by decide +kernel
theorem dX7_doAgain_47 : decode cX7_doAgain 47 = .ok (.iinc 6 1, 3) := by decide +kernel
theorem dX7_doAgain_50 : decode cX7_doAgain 50 = .ok (.goto (-23), 3) := by decide +kernel
theorem dX7_doAgain_53 : decode cX7_doAgain 53 = .ok (.iload 5, 2) := by decide +kernel
theorem dX7_doAgain_55 : decode cX7_doAgain 55 = .ok (.ifCond .le 6, 3) := by decide +kernel
theorem dX7_doAgain_58 : decode cX7_doAgain 58 = .ok (.iinc 3 1, 3) := by decide +kernel
theorem dX7_doAgain_61 : decode cX7_doAgain 61 = .ok (.aload_n 1, 1) := by decide +kernel
theorem dX7_doAgain_62 : decode cX7_doAgain 62 = .ok (.invokevirtual 38, 3) := by decide +kernel
theorem dX7_doAgain_65 : decode cX7_doAgain 65 = .ok (.iinc 4 1, 3) := by decide +kernel
theorem dX7_doAgain_68 : decode cX7_doAgain 68 = .ok (.goto (-56), 3) := by decide +kernel
theorem dX7_doAgain_71 : decode cX7_doAgain 71 = .ok (.iload_n 3, 1) := by decide +kernel
theorem dX7_doAgain_72 : decode cX7_doAgain 72 = .ok (.ireturn, 1) := by decide +kernel
theorem dX7_foundBy_0 : decode cX7_foundBy 0 = .ok (.ldc2_w 101, 3) := by decide +kernel
theorem dX7_foundBy_3 : decode cX7_foundBy 3 = .ok (.lreturn, 1) := by decide +kernel
theorem dX7_usedBy_0 : decode cX7_usedBy 0 = .ok (.aload_n 1, 1) := by decide +kernel
theorem dX7_usedBy_1 : decode cX7_usedBy 1 = .ok (.getfield 42, 3) := by decide +kernel
theorem dX7_usedBy_4 : decode cX7_usedBy 4 = .ok (.ireturn, 1) := by decide +kernel
theorem dX8_init_0 : decode cX8_init 0 = .ok (.aload_n 0, 1) := by decide +kernel
theorem dX8_init_1 : decode cX8_init 1 = .ok (.invokespecial 3, 3) := by decide +kernel
theorem dX8_init_4 : decode cX8_init 4 = .ok (.aload_n 0, 1) := by decide +kernel
theorem dX8_init_5 : decode cX8_init 5 = .ok (.iload_n 1, 1) := by decide +kernel
theorem dX8_init_6 : decode cX8_init 6 = .ok (.putfield 9, 3) := by decide +kernel
theorem dX8_init_9 : decode cX8_init 9 = .ok (.aload_n 0, 1) := by decide +kernel
theorem dX8_init_10 : decode cX8_init 10 = .ok (.iload_n 2, 1) := by decide +kernel
theorem dX8_init_11 : decode cX8_init 11 = .ok (.putfield 15, 3) := by decide +kernel
theorem dX8_init_14 : decode cX8_init 14 = .ok (.aload_n 0, 1) := by decide +kernel
theorem dX8_init_15 : decode cX8_init 15 = .ok (.iload_n 3, 1) := by decide +kernel
theorem dX8_init_16 : decode cX8_init 16 = .ok (.putfield 18, 3) := by decide +kernel
theorem dX8_init_19 : decode cX8_init 19 = .ok (.return_, 1) := by decide +kernel
theorem dX8_isWay_0 : decode cX8_isWay 0 = .ok (.aload_n 0, 1) := by decide +kernel
theorem dX8_isWay_1 : decode cX8_isWay 1 = .ok (.getfield 9, 3) := by decide +kernel
theorem dX8_isWay_4 : decode cX8_isWay 4 = .ok (.iconst 4, 1) := by decide +kernel
theorem dX8_isWay_5 : decode cX8_isWay 5 = .ok (.if_icmp .eq 7, 3) := by decide +kernel
theorem dX8_isWay_8 : decode cX8_isWay 8 = .ok (.iconst 1, 1) := by decide +kernel
theorem dX8_isWay_9 : decode cX8_isWay 9 = .ok (.goto 4, 3) := by decide +kernel
theorem dX8_isWay_12 : decode cX8_isWay 12 = .ok (.iconst 0, 1) := by decide +kernel
theorem dX8_isWay_13 : decode cX8_isWay 13 = .ok (.ireturn, 1) := by decide +kernel
theorem dX8_usedBy_0 : decode cX8_usedBy 0 = .ok (.aload_n 1, 1) := by decide +kernel
theorem dX8_usedBy_1 : decode cX8_usedBy 1 = .ok (.getfield 21, 3) := by decide +kernel
theorem dX8_usedBy_4 : decode cX8_usedBy 4 = .ok (.ireturn, 1) := by decide +kernel
theorem dX9_init_0 : decode cX9_init 0 = .ok (.aload_n 0, 1) := by decide +kernel
theorem dX9_init_1 : decode cX9_init 1 = .ok (.iload_n 1, 1) := by decide +kernel
theorem dX9_init_2 : decode cX9_init 2 = .ok (.ifCond .eq 7, 3) := by decide +kernel
theorem dX9_init_5 : decode cX9_init 5 = .ok (.iconst 1, 1) := by decide +kernel
theorem dX9_init_6 : decode cX9_init 6 = .ok (.goto 4, 3) := by decide +kernel
theorem dX9_init_9 : decode cX9_init 9 = .ok (.iconst 0, 1) := by decide +kernel
theorem dX9_init_10 : decode cX9_init 10 = .ok (.iload 6, 2) := by decide +kernel
theorem dX9_init_12 : decode cX9_init 12 = .ok (.iload 7, 2) := by decide +kernel
theorem dX9_init_14 : decode cX9_init 14 = .ok (.invokespecial 3, 3) := by decide +kernel
theorem dX9_init_17 : decode cX9_init 17 = .ok (.aload_n 0, 1) := by decide +kernel
theorem dX9_init_18 : decode cX9_init 18 = .ok (.iload_n 2, 1) := by decide +kernel
theorem dX9_init_19 : decode cX9_init 19 = .ok (.putfield 9, 3) := by decide +kernel
theorem dX9_init_22 : decode cX9_init 22 = .ok (.aload_n 0, 1) := by decide +kernel
theorem dX9_init_23 : decode cX9_init 23 = .ok (.lload_n 3, 1) := by decide +kernel
theorem dX9_init_24 : decode cX9_init 24 = .ok (.putfield 15, 3) := by decide +kernel
theorem dX9_init_27 : decode cX9_init 27 = .ok (.aload_n 0, 1) := by decide +kernel
theorem dX9_init_28 : decode cX9_init 28 = .ok (.iload 5, 2) := by decide +kernel
theorem dX9_init_30 : decode cX9_init 30 = .ok (.putfield 19, 3) := by decide +kernel
theorem dX9_init_33 : decode cX9_init 33 = .ok (.return_, 1) := by decide +kernel
theorem dX9_rank_0 : decode cX9_rank 0 = .ok (.aload_n 0, 1) := by decide +kernel
theorem dX9_rank_1 : decode cX9_rank 1 = .ok (.getfield 22, 3) := by decide +kernel
theorem dX9_rank_4 : decode cX9_rank 4 = .ok (.iconst 1, 1) := by decide +kernel
theorem dX9_rank_5 : decode cX9_rank 5 = .ok (.if_icmp .ne 8, 3) := by decide +kernel
theorem dX9_rank_8 : decode cX9_rank 8 = .ok (.bipush 11, 2) := by decide +kernel
theorem dX9_rank_10 : decode cX9_rank 10 = .ok (.goto 5, 3) := by decide +kernel
theorem dX9_rank_13 : decode cX9_rank 13 = .ok (.bipush 10, 2) := by decide +kernel
theorem dX9_rank_15 : decode cX9_rank 15 = .ok (.ireturn, 1) := by decide +kernel
theorem dX9_step_0 : decode cX9_step 0 = .ok (.aload_n 0, 1) := by decide +kernel
theorem dX9_step_1 : decode cX9_step 1 = .ok (.getfield 22, 3) := by decide +kernel
theorem dX9_step_4 : decode cX9_step 4 = .ok (.iconst 1, 1) := by decide +kernel
theorem dX9_step_5 : decode cX9_step 5 = .ok (.if_icmp .ne 12, 3) := by decide +kernel
theorem dX9_step_8 : decode cX9_step 8 = .ok (.aload_n 1, 1) := by decide +kernel
theorem dX9_step_9 : decode cX9_step 9 = .ok (.getfield 25, 3) := by decide +kernel
theorem dX9_step_12 : decode cX9_step 12 = .ok (.iconst 1, 1) := by decide +kernel
theorem dX9_step_13 : decode cX9_step 13 = .ok (.iadd, 1) := by decide +kernel
theorem dX9_step_14 : decode cX9_step 14 = .ok (.goto 4, 3) := by decide +kernel
theorem dX9_step_17 : decode cX9_step 17 = .ok (.iconst 1, 1) := by decide +kernel
theorem dX9_step_18 : decode cX9_step 18 = .ok (.istore_n 3, 1) := by decide +kernel
theorem dX9_step_19 : decode cX9_step 19 = .ok (.aload_n 0, 1) := by decide +kernel
theorem dX9_step_20 : decode cX9_step 20 = .ok (.getfield 9, 3) := by decide +kernel
theorem dX9_step_23 : decode cX9_step 23 = .ok (.aload_n 1, 1) := by decide +kernel
theorem dX9_step_24 : decode cX9_step 24 = .ok (.getfield 25, 3) := by decide +kernel
theorem dX9_step_27 : decode cX9_step 27 = .ok (.iload_n 3, 1) := by decide +kernel
theorem dX9_step_28 : decode cX9_step 28 = .ok (.iadd, 1) := by decide +kernel
theorem dX9_step_29 : decode cX9_step 29 = .ok (.invokestatic 28, 3) := by decide +kernel
theorem dX9_step_32 : decode cX9_step 32 = .ok (.istore 4, 2) := by decide +kernel
theorem dX9_step_34 : decode cX9_step 34 = .ok (.aload_n 0, 1) := by decide +kernel
theorem dX9_step_35 : decode cX9_step 35 = .ok (.getfield 19, 3) := by decide +kernel
theorem dX9_step_38 : decode cX9_step 38 = .ok (.aload_n 1, 1) := by decide +kernel
theorem dX9_step_39 : decode cX9_step 39 = .ok (.getfield 25, 3) := by decide +kernel
theorem dX9_step_42 : decode cX9_step 42 = .ok (.if_icmp .le 27, 3) := by decide +kernel
theorem dX9_step_45 : decode cX9_step 45 = .ok (.aload_n 0, 1) := by decide +kernel
theorem dX9_step_46 : decode cX9_step 46 = .ok (.getfield 19, 3) := by decide +kernel
theorem dX9_step_49 : decode cX9_step 49 = .ok (.iload 4, 2) := by decide +kernel
theorem dX9_step_51 : decode cX9_step 51 = .ok (.if_icmp .gt 18, 3) := by decide +kernel
theorem dX9_step_54 : decode cX9_step 54 = .ok (.aload_n 1, 1) := by decide +kernel
theorem dX9_step_55 : decode cX9_step 55 = .ok (.aload_n 0, 1) := by decide +kernel
theorem dX9_step_56 : decode cX9_step 56 = .ok (.getfield 19, 3) := by decide +kernel
theorem dX9_step_59 : decode cX9_step 59 = .ok (.putfield 25, 3) := by decide +kernel
theorem dX9_step_62 : decode cX9_step 62 = .ok (.aload_n 1, 1) := by decide +kernel
theorem dX9_step_63 : decode cX9_step 63 = .ok (.bipush 7, 2) := by decide +kernel
theorem dX9_step_65 : decode cX9_step 65 = .ok (.invokevirtual 34, 3) := by decide +kernel
theorem dX9_step_68 : decode cX9_step 68 = .ok (.return_, 1) := by decide +kernel
theorem dX9_step_69 : decode cX9_step 69 = .ok (.aload_n 1, 1) := by decide +kernel
theorem dX9_step_70 : decode cX9_step 70 = .ok (.iload 4, 2) := by decide +kernel
theorem dX9_step_72 : decode cX9_step 72 = .ok (.putfield 25, 3) := by decide +kernel
theorem dX9_step_75 : decode cX9_step 75 = .ok (.iload 4, 2) := by decide +kernel
theorem dX9_step_77 : decode cX9_step 77 = .ok (.aload_n 0, 1) := by decide +kernel
theorem dX9_step_78 : decode cX9_step 78 = .ok (.getfield 9, 3) := by decide +kernel
theorem dX9_step_81 : decode cX9_step 81 = .ok (.if_icmp .ne 8, 3) := by decide +kernel
theorem dX9_step_84 : decode cX9_step 84 = .ok (.aload_n 1, 1) := by decide +kernel
theorem dX9_step_85 : decode cX9_step 85 = .ok (.iconst 2, 1) := by decide +kernel
theorem dX9_step_86 : decode cX9_step 86 = .ok (.putfield 38, 3) := by decide +kernel
theorem dX9_step_89 : decode cX9_step 89 = .ok (.return_, 1) := by decide +kernel
theorem dX9_foundBy_0 : decode cX9_foundBy 0 = .ok (.aload_n 0, 1) := by decide +kernel
theorem dX9_foundBy_1 : decode cX9_foundBy 1 = .ok (.getfield 15, 3) := by decide +kernel
theorem dX9_foundBy_4 : decode cX9_foundBy 4 = .ok (.lreturn, 1) := by decide +kernel
theorem dX10_init_0 : decode cX10_init 0 = .ok (.aload_n 0, 1) := by decide +kernel
theorem dX10_init_1 : decode cX10_init 1 = .ok (.invokespecial 3, 3) := by decide +kernel
theorem dX10_init_4 : decode cX10_init 4 = .ok (.return_, 1) := by decide +kernel
theorem dX10_begin_0 : decode cX10_begin 0 = .ok (.aload_n 0, 1) := by decide +kernel
theorem dX10_begin_1 : decode cX10_begin 1 = .ok (.iconst 0, 1) := by decide +kernel
theorem dX10_begin_2 : decode cX10_begin 2 = .ok (.putfield 9, 3) := by decide +kernel
theorem dX10_begin_5 : decode cX10_begin 5 = .ok (.aload_n 0, 1) := by decide +kernel
theorem dX10_begin_6 : decode cX10_begin 6 = .ok (.iconst 0, 1) := by decide +kernel
theorem dX10_begin_7 : decode cX10_begin 7 = .ok (.putfield 15, 3) := by decide +kernel
theorem dX10_begin_10 : decode cX10_begin 10 = .ok (.aload_n 0, 1) := by decide +kernel
theorem dX10_begin_11 : decode cX10_begin 11 = .ok (.iconst 0, 1) := by decide +kernel
theorem dX10_begin_12 : decode cX10_begin 12 = .ok (.putfield 18, 3) := by decide +kernel
theorem dX10_begin_15 : decode cX10_begin 15 = .ok (.aload_n 0, 1) := by decide +kernel
theorem dX10_begin_16 : decode cX10_begin 16 = .ok (.iconst 0, 1) := by decide +kernel
theorem dX10_begin_17 : decode cX10_begin 17 = .ok (.putfield 21, 3) := by decide +kernel
theorem dX10_begin_20 : decode cX10_begin 20 = .ok (.aload_n 0, 1) := by decide +kernel
theorem dX10_begin_21 : decode cX10_begin 21 = .ok (.iconst 0, 1) := by decide +kernel
theorem dX10_begin_22 : decode cX10_begin 22 = .ok (.putfield 24, 3) := by decide +kernel
theorem dX10_begin_25 : decode cX10_begin 25 = .ok (.aload_n 0, 1) := by decide +kernel
theorem dX10_begin_26 : decode cX10_begin 26 = .ok (.bipush (-9), 2) := by decide +kernel
theorem dX10_begin_28 : decode cX10_begin 28 = .ok (.putfield 27, 3) := by decide +kernel
theorem dX10_begin_31 : decode cX10_begin 31 = .ok (.aload_n 0, 1) := by decide +kernel
theorem dX10_begin_32 : decode cX10_begin 32 = .ok (.iconst 0, 1) := by decide +kernel
theorem dX10_begin_33 : decode cX10_begin 33 = .ok (.putfield 30, 3) := by decide +kernel
theorem dX10_begin_36 : decode cX10_begin 36 = .ok (.aload_n 0, 1) := by decide +kernel
theorem dX10_begin_37 : decode cX10_begin 37 = .ok (.iconst 0, 1) := by decide +kernel
theorem dX10_begin_38 : decode cX10_begin 38 = .ok (.putfield 33, 3) := by decide +kernel
theorem dX10_begin_41 : decode cX10_begin 41 = .ok (.aload_n 0, 1) := by decide +kernel
theorem dX10_begin_42 : decode cX10_begin 42 = .ok (.iconst 0, 1) := by decide +kernel
theorem dX10_begin_43 : decode cX10_begin 43 = .ok (.putfield 36, 3) := by decide +kernel
theorem dX10_begin_46 : decode cX10_begin 46 = .ok (.aload_n 0, 1) := by decide +kernel
theorem dX10_begin_47 : decode cX10_begin 47 = .ok (.lconst 0, 1) := by decide +kernel
theorem dX10_begin_48 : decode cX10_begin 48 = .ok (.putfield 39, 3) := by decide +kernel
theorem dX10_begin_51 : decode cX10_begin 51 = .ok (.aload_n 0, 1) := by decide +kernel
theorem dX10_begin_52 : decode cX10_begin 52 = .ok (.lconst 0, 1) := by decide +kernel
theorem dX10_begin_53 : decode cX10_begin 53 = .ok (.putfield 43, 3) := by decide +kernel
theorem dX10_begin_56 : decode cX10_begin 56 = .ok (.aload_n 0, 1) := by decide +kernel
theorem dX10_begin_57 : decode cX10_begin 57 = .ok (.iconst 0, 1) := by decide +kernel
theorem dX10_begin_58 : decode cX10_begin 58 = .ok (.putfield 46, 3) := by decide +kernel
theorem dX10_begin_61 : decode cX10_begin 61 = .ok (.aload_n 0, 1) := by decide +kernel
theorem dX10_begin_62 : decode cX10_begin 62 = .ok (.iconst 0, 1) := by decide +kernel
theorem dX10_begin_63 : decode cX10_begin 63 = .ok (.putfield 50, 3) := by decide +kernel
theorem dX10_begin_66 : decode cX10_begin 66 = .ok (.return_, 1) := by decide +kernel
theorem dX10_isLeft_0 : decode cX10_isLeft 0 = .ok (.aload_n 0, 1) := by decide +kernel
theorem dX10_isLeft_1 : decode cX10_isLeft 1 = .ok (.getfield 9, 3) := by decide +kernel
theorem dX10_isLeft_4 : decode cX10_isLeft 4 = .ok (.ifCond .eq 11, 3) := by decide +kernel
theorem dX10_isLeft_7 : decode cX10_isLeft 7 = .ok (.aload_n 0, 1) := by decide +kernel
theorem dX10_isLeft_8 : decode cX10_isLeft 8 = .ok (.getfield 9, 3) := by decide +kernel
theorem dX10_isLeft_11 : decode cX10_isLeft 11 = .ok (.iconst 1, 1) := by decide +kernel
theorem dX10_isLeft_12 : decode cX10_isLeft 12 = .ok (.if_icmp .ne 7, 3) := by decide +kernel
theorem dX10_isLeft_15 : decode cX10_isLeft 15 = .ok (.iconst 1, 1) := by decide +kernel
theorem dX10_isLeft_16 : decode cX10_isLeft 16 = .ok (.goto 4, 3) := by decide +kernel
theorem dX10_isLeft_19 : decode cX10_isLeft 19 = .ok (.iconst 0, 1) := by decide +kernel
theorem dX10_isLeft_20 : decode cX10_isLeft 20 = .ok (.ireturn, 1) := by decide +kernel
theorem dX10_fail_0 : decode cX10_fail 0 = .ok (.aload_n 0, 1) := by decide +kernel
theorem dX10_fail_1 : decode cX10_fail 1 = .ok (.iconst 3, 1) := by decide +kernel
theorem dX10_fail_2 : decode cX10_fail 2 = .ok (.putfield 9, 3) := by decide +kernel
theorem dX10_fail_5 : decode cX10_fail 5 = .ok (.aload_n 0, 1) := by decide +kernel
theorem dX10_fail_6 : decode cX10_fail 6 = .ok (.iload_n 1, 1) := by decide +kernel
theorem dX10_fail_7 : decode cX10_fail 7 = .ok (.putfield 15, 3) := by decide +kernel
theorem dX10_fail_10 : decode cX10_fail 10 = .ok (.return_, 1) := by decide +kernel
theorem dX10_read_0 : decode cX10_read 0 = .ok (.aload_n 0, 1) := by decide +kernel
theorem dX10_read_1 : decode cX10_read 1 = .ok (.dup, 1) := by decide +kernel
theorem dX10_read_2 : decode cX10_read 2 = .ok (.getfield 39, 3) := by decide +kernel
theorem dX10_read_5 : decode cX10_read 5 = .ok (.lload_n 1, 1) := by decide +kernel
theorem dX10_read_6 : decode cX10_read 6 = .ok (.ladd, 1) := by decide +kernel
theorem dX10_read_7 : decode cX10_read 7 = .ok (.putfield 39, 3) := by decide +kernel
theorem dX10_read_10 : decode cX10_read 10 = .ok (.aload_n 0, 1) := by decide +kernel
theorem dX10_read_11 : decode cX10_read 11 = .ok (.dup, 1) := by decide +kernel
theorem dX10_read_12 : decode cX10_read 12 = .ok (.getfield 43, 3) := by decide +kernel
theorem dX10_read_15 : decode cX10_read 15 = .ok (.lload_n 1, 1) := by decide +kernel
theorem dX10_read_16 : decode cX10_read 16 = .ok (.ladd, 1) := by decide +kernel
theorem dX10_read_17 : decode cX10_read 17 = .ok (.putfield 43, 3) := by decide +kernel
theorem dX10_read_20 : decode cX10_read 20 = .ok (.aload_n 0, 1) := by decide +kernel
theorem dX10_read_21 : decode cX10_read 21 = .ok (.dup, 1) := by decide +kernel
theorem dX10_read_22 : decode cX10_read 22 = .ok (.getfield 36, 3) := by decide +kernel
theorem dX10_read_25 : decode cX10_read 25 = .ok (.iconst 1, 1) := by decide +kernel
theorem dX10_read_26 : decode cX10_read 26 = .ok (.iadd, 1) := by decide +kernel
theorem dX10_read_27 : decode cX10_read 27 = .ok (.putfield 36, 3) := by decide +kernel
theorem dX10_read_30 : decode cX10_read 30 = .ok (.aload_n 0, 1) := by decide +kernel
theorem dX10_read_31 : decode cX10_read 31 = .ok (.dup, 1) := by decide +kernel
theorem dX10_read_32 : decode cX10_read 32 = .ok (.getfield 24, 3) := by decide +kernel
theorem dX10_read_35 : decode cX10_read 35 = .ok (.iconst 1, 1) := by decide +kernel
theorem dX10_read_36 : decode cX10_read 36 = .ok (.iadd, 1) := by decide +kernel
theorem dX10_read_37 : decode cX10_read 37 = .ok (.putfield 24, 3) := by decide +kernel
theorem dX10_read_40 : decode cX10_read 40 = .ok (.return_, 1) := by decide +kernel
theorem dX10_nextLine_0 : decode cX10_nextLine 0 = .ok (.aload_n 0, 1) := by decide +kernel
theorem dX10_nextLine_1 : decode cX10_nextLine 1 = .ok (.dup, 1) := by decide +kernel
theorem dX10_nextLine_2 : decode cX10_nextLine 2 = .ok (.getfield 33, 3) := by decide +kernel
theorem dX10_nextLine_5 : decode cX10_nextLine 5 = .ok (.iconst 1, 1) := by decide +kernel
theorem dX10_nextLine_6 : decode cX10_nextLine 6 = .ok (.iadd, 1) := by decide +kernel
theorem dX10_nextLine_7 : decode cX10_nextLine 7 = .ok (.putfield 33, 3) := by decide +kernel
theorem dX10_nextLine_10 : decode cX10_nextLine 10 = .ok (.aload_n 0, 1) := by decide +kernel
theorem dX10_nextLine_11 : decode cX10_nextLine 11 = .ok (.iconst 0, 1) := by decide +kernel
theorem dX10_nextLine_12 : decode cX10_nextLine 12 = .ok (.putfield 36, 3) := by decide +kernel
theorem dX10_nextLine_15 : decode cX10_nextLine 15 = .ok (.aload_n 0, 1) := by decide +kernel
theorem dX10_nextLine_16 : decode cX10_nextLine 16 = .ok (.lconst 0, 1) := by decide +kernel
theorem dX10_nextLine_17 : decode cX10_nextLine 17 = .ok (.putfield 39, 3) := by decide +kernel
theorem dX10_nextLine_20 : decode cX10_nextLine 20 = .ok (.return_, 1) := by decide +kernel
theorem dX11_init_0 : decode cX11_init 0 = .ok (.aload_n 0, 1) := by decide +kernel
theorem dX11_init_1 : decode cX11_init 1 = .ok (.invokespecial 3, 3) := by decide +kernel
theorem dX11_init_4 : decode cX11_init 4 = .ok (.aload_n 0, 1) := by decide +kernel
theorem dX11_init_5 : decode cX11_init 5 = .ok (.iconst 1, 1) := by decide +kernel
theorem dX11_init_6 : decode cX11_init 6 = .ok (.bipush 6, 2) := by decide +kernel
theorem dX11_init_8 : decode cX11_init 8 = .ok (.iload_n 1, 1) := by decide +kernel
theorem dX11_init_9 : decode cX11_init 9 = .ok (.invokestatic 11, 3) := by decide +kernel
theorem dX11_init_12 : decode cX11_init 12 = .ok (.invokestatic 17, 3) := by decide +kernel
theorem dX11_init_15 : decode cX11_init 15 = .ok (.putfield 20, 3) := by decide +kernel
theorem dX11_init_18 : decode cX11_init 18 = .ok (.aload_n 0, 1) := by decide +kernel
theorem dX11_init_19 : decode cX11_init 19 = .ok (.iconst 0, 1) := by decide +kernel
theorem dX11_init_20 : decode cX11_init 20 = .ok (.sipush 1000, 3) := by decide +kernel
theorem dX11_init_23 : decode cX11_init 23 = .ok (.iload_n 2, 1) := by decide +kernel
theorem dX11_init_24 : decode cX11_init 24 = .ok (.invokestatic 11, 3) := by decide +kernel
theorem dX11_init_27 : decode cX11_init 27 = .ok (.invokestatic 17, 3) := by decide +kernel
theorem dX11_init_30 : decode cX11_init 30 = .ok (.putfield 24, 3) := by decide +kernel
theorem dX11_init_33 : decode cX11_init 33 = .ok (.aload_n 0, 1) := by decide +kernel
theorem dX11_init_34 : decode cX11_init 34 = .ok (.new 27, 3) := by decide +kernel
theorem dX11_init_37 : decode cX11_init 37 = .ok (.dup, 1) := by decide +kernel
theorem dX11_init_38 : decode cX11_init 38 = .ok (.invokespecial 29, 3) := by decide +kernel
theorem dX11_init_41 : decode cX11_init 41 = .ok (.putfield 30, 3) := by decide +kernel
theorem dX11_init_44 : decode cX11_init 44 = .ok (.aload_n 0, 1) := by decide +kernel
theorem dX11_init_45 : decode cX11_init 45 = .ok (.new 34, 3) := by decide +kernel
theorem dX11_init_48 : decode cX11_init 48 = .ok (.dup, 1) := by decide +kernel
theorem dX11_init_49 : decode cX11_init 49 = .ok (.aload_n 0, 1) := by decide +kernel
theorem dX11_init_50 : decode cX11_init 50 = .ok (.getfield 30, 3) := by decide +kernel
theorem dX11_init_53 : decode cX11_init 53 = .ok (.aload_n 0, 1) := by decide +kernel
theorem dX11_init_54 : decode cX11_init 54 = .ok (.getfield 24, 3) := by decide +kernel
theorem dX11_init_57 : decode cX11_init 57 = .ok (.iconst 1, 1) := by decide +kernel
theorem dX11_init_58 : decode cX11_init 58 = .ok (.invokespecial 36, 3) := by decide +kernel
theorem dX11_init_61 : decode cX11_init 61 = .ok (.putfield 39, 3) := by decide +kernel
theorem dX11_init_64 : decode cX11_init 64 = .ok (.aload_n 0, 1) := by decide +kernel
theorem dX11_init_65 : decode cX11_init 65 = .ok (.new 34, 3) := by decide +kernel
end
section
theorem dX11_init_68 : decode cX11_init 68 = .ok (.dup, 1) := by decide +kernel
theorem dX11_init_69 : decode cX11_init 69 = .ok (.aload_n 0, 1) := by decide +kernel
theorem dX11_init_70 : decode cX11_init 70 = .ok (.getfield 30, 3) := by decide +kernel
theorem dX11_init_73 : decode cX11_init 73 = .ok (.aload_n 0, 1) := by decide +kernel
theorem dX11_init_74 : decode cX11_init 74 = .ok (.getfield 24, 3) := by decide +kernel
theorem dX11_init_77 : decode cX11_init 77 = .ok (.iconst 0, 1) := by decide +kernel
theorem dX11_init_78 : decode cX11_init 78 = .ok (.invokespecial 36, 3) := by decide +kernel
theorem dX11_init_81 : decode cX11_init 81 = .ok (.putfield 43, 3) := by decide +kernel
theorem dX11_init_84 : decode cX11_init 84 = .ok (.aload_n 0, 1) := by decide +kernel
theorem dX11_init_85 : decode cX11_init 85 = .ok (.new 34, 3) := by decide +kernel
theorem dX11_init_88 : decode cX11_init 88 = .ok (.dup, 1) := by decide +kernel
theorem dX11_init_89 : decode cX11_init 89 = .ok (.aload_n 0, 1) := by decide +kernel
theorem dX11_init_90 : decode cX11_init 90 = .ok (.getfield 30, 3) := by decide +kernel
theorem dX11_init_93 : decode cX11_init 93 = .ok (.aload_n 0, 1) := by decide +kernel
theorem dX11_init_94 : decode cX11_init 94 = .ok (.getfield 24, 3) := by decide +kernel
theorem dX11_init_97 : decode cX11_init 97 = .ok (.iconst 0, 1) := by decide +kernel
theorem dX11_init_98 : decode cX11_init 98 = .ok (.invokespecial 36, 3) := by decide +kernel
theorem dX11_init_101 : decode cX11_init 101 = .ok (.putfield 46, 3) := by decide +kernel
theorem dX11_init_104 : decode cX11_init 104 = .ok (.aload_n 0, 1) := by decide +kernel
theorem dX11_init_105 : decode cX11_init 105 = .ok (.getfield 39, 3) := by decide +kernel
theorem dX11_init_108 : decode cX11_init 108 = .ok (.aload_n 0, 1) := by decide +kernel
theorem dX11_init_109 : decode cX11_init 109 = .ok (.getfield 20, 3) := by decide +kernel
theorem dX11_init_112 : decode cX11_init 112 = .ok (.invokevirtual 49, 3) := by decide +kernel
theorem dX11_init_115 : decode cX11_init 115 = .ok (.return_, 1) := by decide +kernel
theorem dX11_grid_0 : decode cX11_grid 0 = .ok (.iload_n 1, 1) := by decide +kernel
theorem dX11_grid_1 : decode cX11_grid 1 = .ok (.invokestatic 53, 3) := by decide +kernel
theorem dX11_grid_4 : decode cX11_grid 4 = .ok (.ifCond .eq 15, 3) := by decide +kernel
theorem dX11_grid_7 : decode cX11_grid 7 = .ok (.iload_n 2, 1) := by decide +kernel
theorem dX11_grid_8 : decode cX11_grid 8 = .ok (.bipush 12, 2) := by decide +kernel
theorem dX11_grid_10 : decode cX11_grid 10 = .ok (.if_icmp .gt 9, 3) := by decide +kernel
theorem dX11_grid_13 : decode cX11_grid 13 = .ok (.iload_n 3, 1) := by decide +kernel
theorem dX11_grid_14 : decode cX11_grid 14 = .ok (.bipush 13, 2) := by decide +kernel
theorem dX11_grid_16 : decode cX11_grid 16 = .ok (.if_icmp .le 5, 3) := by decide +kernel
theorem dX11_grid_19 : decode cX11_grid 19 = .ok (.iconst (-1), 1) := by decide +kernel
theorem dX11_grid_20 : decode cX11_grid 20 = .ok (.ireturn, 1) := by decide +kernel
theorem dX11_grid_21 : decode cX11_grid 21 = .ok (.aload_n 0, 1) := by decide +kernel
theorem dX11_grid_22 : decode cX11_grid 22 = .ok (.getfield 39, 3) := by decide +kernel
theorem dX11_grid_25 : decode cX11_grid 25 = .ok (.getfield 57, 3) := by decide +kernel
theorem dX11_grid_28 : decode cX11_grid 28 = .ok (.iconst 1, 1) := by decide +kernel
theorem dX11_grid_29 : decode cX11_grid 29 = .ok (.if_icmp .ne 6, 3) := by decide +kernel
theorem dX11_grid_32 : decode cX11_grid 32 = .ok (.bipush (-2), 2) := by decide +kernel
theorem dX11_grid_34 : decode cX11_grid 34 = .ok (.ireturn, 1) := by decide +kernel
theorem dX11_grid_35 : decode cX11_grid 35 = .ok (.aload_n 0, 1) := by decide +kernel
theorem dX11_grid_36 : decode cX11_grid 36 = .ok (.getfield 30, 3) := by decide +kernel
theorem dX11_grid_39 : decode cX11_grid 39 = .ok (.getfield 60, 3) := by decide +kernel
theorem dX11_grid_42 : decode cX11_grid 42 = .ok (.bipush 6, 2) := by decide +kernel
theorem dX11_grid_44 : decode cX11_grid 44 = .ok (.if_icmp .lt 6, 3) := by decide +kernel
theorem dX11_grid_47 : decode cX11_grid 47 = .ok (.bipush (-3), 2) := by decide +kernel
theorem dX11_grid_49 : decode cX11_grid 49 = .ok (.ireturn, 1) := by decide +kernel
theorem dX11_grid_50 : decode cX11_grid 50 = .ok (.iload_n 2, 1) := by decide +kernel
theorem dX11_grid_51 : decode cX11_grid 51 = .ok (.ifCond .lt 7, 3) := by decide +kernel
theorem dX11_grid_54 : decode cX11_grid 54 = .ok (.iload_n 3, 1) := by decide +kernel
theorem dX11_grid_55 : decode cX11_grid 55 = .ok (.ifCond .ge 8, 3) := by decide +kernel
theorem dX11_grid_58 : decode cX11_grid 58 = .ok (.iconst 5, 1) := by decide +kernel
theorem dX11_grid_59 : decode cX11_grid 59 = .ok (.invokestatic 63, 3) := by decide +kernel
theorem dX11_grid_62 : decode cX11_grid 62 = .ok (.ireturn, 1) := by decide +kernel
theorem dX11_grid_63 : decode cX11_grid 63 = .ok (.new 67, 3) := by decide +kernel
theorem dX11_grid_66 : decode cX11_grid 66 = .ok (.dup, 1) := by decide +kernel
theorem dX11_grid_67 : decode cX11_grid 67 = .ok (.iload_n 1, 1) := by decide +kernel
theorem dX11_grid_68 : decode cX11_grid 68 = .ok (.iload_n 2, 1) := by decide +kernel
theorem dX11_grid_69 : decode cX11_grid 69 = .ok (.invokespecial 69, 3) := by decide +kernel
theorem dX11_grid_72 : decode cX11_grid 72 = .ok (.astore 4, 2) := by decide +kernel
theorem dX11_grid_74 : decode cX11_grid 74 = .ok (.iconst 0, 1) := by decide +kernel
theorem dX11_grid_75 : decode cX11_grid 75 = .ok (.istore 5, 2) := by decide +kernel
theorem dX11_grid_77 : decode cX11_grid 77 = .ok (.iload 5, 2) := by decide +kernel
theorem dX11_grid_79 : decode cX11_grid 79 = .ok (.iload_n 2, 1) := by decide +kernel
theorem dX11_grid_80 : decode cX11_grid 80 = .ok (.if_icmp .ge 22, 3) := by decide +kernel
theorem dX11_grid_83 : decode cX11_grid 83 = .ok (.aload 4, 2) := by decide +kernel
theorem dX11_grid_85 : decode cX11_grid 85 = .ok (.getfield 72, 3) := by decide +kernel
theorem dX11_grid_88 : decode cX11_grid 88 = .ok (.iload 5, 2) := by decide +kernel
theorem dX11_grid_90 : decode cX11_grid 90 = .ok (.iload_n 1, 1) := by decide +kernel
theorem dX11_grid_91 : decode cX11_grid 91 = .ok (.iload_n 3, 1) := by decide +kernel
theorem dX11_grid_92 : decode cX11_grid 92 = .ok (.invokestatic 76, 3) := by decide +kernel
theorem dX11_grid_95 : decode cX11_grid 95 = .ok (.aastore, 1) := by decide +kernel
theorem dX11_grid_96 : decode cX11_grid 96 = .ok (.iinc 5 1, 3) := by decide +kernel
theorem dX11_grid_99 : decode cX11_grid 99 = .ok (.goto (-22), 3) := by decide +kernel
theorem dX11_grid_102 : decode cX11_grid 102 = .ok (.aload_n 0, 1) := by decide +kernel
theorem dX11_grid_103 : decode cX11_grid 103 = .ok (.getfield 30, 3) := by decide +kernel
theorem dX11_grid_106 : decode cX11_grid 106 = .ok (.getfield 80, 3) := by decide +kernel
theorem dX11_grid_109 : decode cX11_grid 109 = .ok (.aload_n 0, 1) := by decide +kernel
theorem dX11_grid_110 : decode cX11_grid 110 = .ok (.getfield 30, 3) := by decide +kernel
theorem dX11_grid_113 : decode cX11_grid 113 = .ok (.getfield 60, 3) := by decide +kernel
theorem dX11_grid_116 : decode cX11_grid 116 = .ok (.aload 4, 2) := by decide +kernel
theorem dX11_grid_118 : decode cX11_grid 118 = .ok (.aastore, 1) := by decide +kernel
theorem dX11_grid_119 : decode cX11_grid 119 = .ok (.aload_n 0, 1) := by decide +kernel
theorem dX11_grid_120 : decode cX11_grid 120 = .ok (.getfield 30, 3) := by decide +kernel
theorem dX11_grid_123 : decode cX11_grid 123 = .ok (.dup, 1) := by decide +kernel
theorem dX11_grid_124 : decode cX11_grid 124 = .ok (.getfield 60, 3) := by decide +kernel
theorem dX11_grid_127 : decode cX11_grid 127 = .ok (.dup_x1, 1) := by decide +kernel
theorem dX11_grid_128 : decode cX11_grid 128 = .ok (.iconst 1, 1) := by decide +kernel
theorem dX11_grid_129 : decode cX11_grid 129 = .ok (.iadd, 1) := by decide +kernel
theorem dX11_grid_130 : decode cX11_grid 130 = .ok (.putfield 60, 3) := by decide +kernel
theorem dX11_grid_133 : decode cX11_grid 133 = .ok (.ireturn, 1) := by decide +kernel
theorem dX11_line_0 : decode cX11_line 0 = .ok (.aload_n 0, 1) := by decide +kernel
theorem dX11_line_1 : decode cX11_line 1 = .ok (.getfield 30, 3) := by decide +kernel
theorem dX11_line_4 : decode cX11_line 4 = .ok (.iload_n 1, 1) := by decide +kernel
theorem dX11_line_5 : decode cX11_line 5 = .ok (.invokevirtual 84, 3) := by decide +kernel
theorem dX11_line_8 : decode cX11_line 8 = .ok (.astore 4, 2) := by decide +kernel
theorem dX11_line_10 : decode cX11_line 10 = .ok (.aload 4, 2) := by decide +kernel
theorem dX11_line_12 : decode cX11_line 12 = .ok (.ifnull 9, 3) := by decide +kernel
theorem dX11_line_15 : decode cX11_line 15 = .ok (.iload_n 3, 1) := by decide +kernel
theorem dX11_line_16 : decode cX11_line 16 = .ok (.bipush 13, 2) := by decide +kernel
theorem dX11_line_18 : decode cX11_line 18 = .ok (.if_icmp .le 5, 3) := by decide +kernel
theorem dX11_line_21 : decode cX11_line 21 = .ok (.iconst (-1), 1) := by decide +kernel
theorem dX11_line_22 : decode cX11_line 22 = .ok (.ireturn, 1) := by decide +kernel
theorem dX11_line_23 : decode cX11_line 23 = .ok (.aload_n 0, 1) := by decide +kernel
theorem dX11_line_24 : decode cX11_line 24 = .ok (.getfield 39, 3) := by decide +kernel
theorem dX11_line_27 : decode cX11_line 27 = .ok (.getfield 57, 3) := by decide +kernel
theorem dX11_line_30 : decode cX11_line 30 = .ok (.iconst 1, 1) := by decide +kernel
theorem dX11_line_31 : decode cX11_line 31 = .ok (.if_icmp .ne 6, 3) := by decide +kernel
theorem dX11_line_34 : decode cX11_line 34 = .ok (.bipush (-2), 2) := by decide +kernel
theorem dX11_line_36 : decode cX11_line 36 = .ok (.ireturn, 1) := by decide +kernel
theorem dX11_line_37 : decode cX11_line 37 = .ok (.iload_n 3, 1) := by decide +kernel
theorem dX11_line_38 : decode cX11_line 38 = .ok (.ifCond .ge 8, 3) := by decide +kernel
theorem dX11_line_41 : decode cX11_line 41 = .ok (.iconst 5, 1) := by decide +kernel
theorem dX11_line_42 : decode cX11_line 42 = .ok (.invokestatic 63, 3) := by decide +kernel
theorem dX11_line_45 : decode cX11_line 45 = .ok (.ireturn, 1) := by decide +kernel
theorem dX11_line_46 : decode cX11_line 46 = .ok (.aload 4, 2) := by decide +kernel
theorem dX11_line_48 : decode cX11_line 48 = .ok (.iload_n 2, 1) := by decide +kernel
theorem dX11_line_49 : decode cX11_line 49 = .ok (.invokevirtual 88, 3) := by decide +kernel
theorem dX11_line_52 : decode cX11_line 52 = .ok (.ifCond .ne 8, 3) := by decide +kernel
theorem dX11_line_55 : decode cX11_line 55 = .ok (.iconst 2, 1) := by decide +kernel
theorem dX11_line_56 : decode cX11_line 56 = .ok (.invokestatic 63, 3) := by decide +kernel
theorem dX11_line_59 : decode cX11_line 59 = .ok (.ireturn, 1) := by decide +kernel
theorem dX11_line_60 : decode cX11_line 60 = .ok (.aload 4, 2) := by decide +kernel
theorem dX11_line_62 : decode cX11_line 62 = .ok (.getfield 72, 3) := by decide +kernel
theorem dX11_line_65 : decode cX11_line 65 = .ok (.iload_n 2, 1) := by decide +kernel
theorem dX11_line_66 : decode cX11_line 66 = .ok (.aload 4, 2) := by decide +kernel
theorem dX11_line_68 : decode cX11_line 68 = .ok (.getfield 91, 3) := by decide +kernel
theorem dX11_line_71 : decode cX11_line 71 = .ok (.iload_n 3, 1) := by decide +kernel
theorem dX11_line_72 : decode cX11_line 72 = .ok (.invokestatic 76, 3) := by decide +kernel
theorem dX11_line_75 : decode cX11_line 75 = .ok (.aastore, 1) := by decide +kernel
theorem dX11_line_76 : decode cX11_line 76 = .ok (.iload_n 3, 1) := by decide +kernel
theorem dX11_line_77 : decode cX11_line 77 = .ok (.ireturn, 1) := by decide +kernel
theorem dX11_put_0 : decode cX11_put 0 = .ok (.aload_n 0, 1) := by decide +kernel
theorem dX11_put_1 : decode cX11_put 1 = .ok (.getfield 30, 3) := by decide +kernel
theorem dX11_put_4 : decode cX11_put 4 = .ok (.iload_n 1, 1) := by decide +kernel
theorem dX11_put_5 : decode cX11_put 5 = .ok (.invokevirtual 84, 3) := by decide +kernel
theorem dX11_put_8 : decode cX11_put 8 = .ok (.astore 6, 2) := by decide +kernel
theorem dX11_put_10 : decode cX11_put 10 = .ok (.aload 6, 2) := by decide +kernel
theorem dX11_put_12 : decode cX11_put 12 = .ok (.ifnonnull 5, 3) := by decide +kernel
theorem dX11_put_15 : decode cX11_put 15 = .ok (.iconst (-1), 1) := by decide +kernel
theorem dX11_put_16 : decode cX11_put 16 = .ok (.ireturn, 1) := by decide +kernel
theorem dX11_put_17 : decode cX11_put 17 = .ok (.aload_n 0, 1) := by decide +kernel
theorem dX11_put_18 : decode cX11_put 18 = .ok (.getfield 39, 3) := by decide +kernel
theorem dX11_put_21 : decode cX11_put 21 = .ok (.getfield 57, 3) := by decide +kernel
theorem dX11_put_24 : decode cX11_put 24 = .ok (.iconst 1, 1) := by decide +kernel
theorem dX11_put_25 : decode cX11_put 25 = .ok (.if_icmp .ne 6, 3) := by decide +kernel
theorem dX11_put_28 : decode cX11_put 28 = .ok (.bipush (-2), 2) := by decide +kernel
theorem dX11_put_30 : decode cX11_put 30 = .ok (.ireturn, 1) := by decide +kernel
theorem dX11_put_31 : decode cX11_put 31 = .ok (.aload 6, 2) := by decide +kernel
theorem dX11_put_33 : decode cX11_put 33 = .ok (.iload_n 2, 1) := by decide +kernel
theorem dX11_put_34 : decode cX11_put 34 = .ok (.invokevirtual 94, 3) := by decide +kernel
theorem dX11_put_37 : decode cX11_put 37 = .ok (.istore 7, 2) := by decide +kernel
theorem dX11_put_39 : decode cX11_put 39 = .ok (.iload 7, 2) := by decide +kernel
theorem dX11_put_41 : decode cX11_put 41 = .ok (.ifCond .eq 9, 3) := by decide +kernel
theorem dX11_put_44 : decode cX11_put 44 = .ok (.iload 7, 2) := by decide +kernel
theorem dX11_put_46 : decode cX11_put 46 = .ok (.invokestatic 63, 3) := by decide +kernel
theorem dX11_put_49 : decode cX11_put 49 = .ok (.ireturn, 1) := by decide +kernel
theorem dX11_put_50 : decode cX11_put 50 = .ok (.aload 6, 2) := by decide +kernel
theorem dX11_put_52 : decode cX11_put 52 = .ok (.getfield 72, 3) := by decide +kernel
theorem dX11_put_55 : decode cX11_put 55 = .ok (.iload_n 2, 1) := by decide +kernel
theorem dX11_put_56 : decode cX11_put 56 = .ok (.aaload, 1) := by decide +kernel
theorem dX11_put_57 : decode cX11_put 57 = .ok (.astore 8, 2) := by decide +kernel
theorem dX11_put_59 : decode cX11_put 59 = .ok (.aload 8, 2) := by decide +kernel
theorem dX11_put_61 : decode cX11_put 61 = .ok (.iload_n 3, 1) := by decide +kernel
theorem dX11_put_62 : decode cX11_put 62 = .ok (.invokevirtual 97, 3) := by decide +kernel
theorem dX11_put_65 : decode cX11_put 65 = .ok (.ifCond .ne 8, 3) := by decide +kernel
theorem dX11_put_68 : decode cX11_put 68 = .ok (.iconst 2, 1) := by decide +kernel
theorem dX11_put_69 : decode cX11_put 69 = .ok (.invokestatic 63, 3) := by decide +kernel
theorem dX11_put_72 : decode cX11_put 72 = .ok (.ireturn, 1) := by decide +kernel
theorem dX11_put_73 : decode cX11_put 73 = .ok (.aload 8, 2) := by decide +kernel
theorem dX11_put_75 : decode cX11_put 75 = .ok (.getfield 100, 3) := by decide +kernel
theorem dX11_put_78 : decode cX11_put 78 = .ok (.iload_n 3, 1) := by decide +kernel
theorem dX11_put_79 : decode cX11_put 79 = .ok (.aload 8, 2) := by decide +kernel
theorem dX11_put_81 : decode cX11_put 81 = .ok (.getfield 104, 3) := by decide +kernel
theorem dX11_put_84 : decode cX11_put 84 = .ok (.lload 4, 2) := by decide +kernel
theorem dX11_put_86 : decode cX11_put 86 = .ok (.invokestatic 105, 3) := by decide +kernel
theorem dX11_put_89 : decode cX11_put 89 = .ok (.lastore, 1) := by decide +kernel
theorem dX11_put_90 : decode cX11_put 90 = .ok (.iconst 1, 1) := by decide +kernel
theorem dX11_put_91 : decode cX11_put 91 = .ok (.ireturn, 1) := by decide +kernel
theorem dX11_item_0 : decode cX11_item 0 = .ok (.aload_n 0, 1) := by decide +kernel
theorem dX11_item_1 : decode cX11_item 1 = .ok (.getfield 30, 3) := by decide +kernel
theorem dX11_item_4 : decode cX11_item 4 = .ok (.iload_n 1, 1) := by decide +kernel
theorem dX11_item_5 : decode cX11_item 5 = .ok (.invokevirtual 84, 3) := by decide +kernel
theorem dX11_item_8 : decode cX11_item 8 = .ok (.astore 5, 2) := by decide +kernel
theorem dX11_item_10 : decode cX11_item 10 = .ok (.aload 5, 2) := by decide +kernel
theorem dX11_item_12 : decode cX11_item 12 = .ok (.ifnull 21, 3) := by decide +kernel
theorem dX11_item_15 : decode cX11_item 15 = .ok (.aload 5, 2) := by decide +kernel
theorem dX11_item_17 : decode cX11_item 17 = .ok (.getfield 91, 3) := by decide +kernel
theorem dX11_item_20 : decode cX11_item 20 = .ok (.iload_n 2, 1) := by decide +kernel
theorem dX11_item_21 : decode cX11_item 21 = .ok (.if_icmp .ne 12, 3) := by decide +kernel
theorem dX11_item_24 : decode cX11_item 24 = .ok (.aload 5, 2) := by decide +kernel
theorem dX11_item_26 : decode cX11_item 26 = .ok (.iload_n 3, 1) := by decide +kernel
theorem dX11_item_27 : decode cX11_item 27 = .ok (.invokevirtual 94, 3) := by decide +kernel
theorem dX11_item_30 : decode cX11_item 30 = .ok (.ifCond .eq 7, 3) := by decide +kernel
theorem dX11_item_33 : decode cX11_item 33 = .ok (.ldc2_w 109, 3) := by decide +kernel
theorem dX11_item_36 : decode cX11_item 36 = .ok (.lreturn, 1) := by decide +kernel
theorem dX11_item_37 : decode cX11_item 37 = .ok (.aload 5, 2) := by decide +kernel
theorem dX11_item_39 : decode cX11_item 39 = .ok (.getfield 72, 3) := by decide +kernel
theorem dX11_item_42 : decode cX11_item 42 = .ok (.iload_n 3, 1) := by decide +kernel
theorem dX11_item_43 : decode cX11_item 43 = .ok (.aaload, 1) := by decide +kernel
theorem dX11_item_44 : decode cX11_item 44 = .ok (.astore 6, 2) := by decide +kernel
theorem dX11_item_46 : decode cX11_item 46 = .ok (.aload 6, 2) := by decide +kernel
theorem dX11_item_48 : decode cX11_item 48 = .ok (.iload 4, 2) := by decide +kernel
theorem dX11_item_50 : decode cX11_item 50 = .ok (.invokevirtual 97, 3) := by decide +kernel
theorem dX11_item_53 : decode cX11_item 53 = .ok (.ifCond .eq 14, 3) := by decide +kernel
theorem dX11_item_56 : decode cX11_item 56 = .ok (.aload 6, 2) := by decide +kernel
theorem dX11_item_58 : decode cX11_item 58 = .ok (.getfield 100, 3) := by decide +kernel
theorem dX11_item_61 : decode cX11_item 61 = .ok (.iload 4, 2) := by decide +kernel
theorem dX11_item_63 : decode cX11_item 63 = .ok (.laload, 1) := by decide +kernel
theorem dX11_item_64 : decode cX11_item 64 = .ok (.goto 6, 3) := by decide +kernel
theorem dX11_item_67 : decode cX11_item 67 = .ok (.ldc2_w 109, 3) := by decide +kernel
theorem dX11_item_70 : decode cX11_item 70 = .ok (.lreturn, 1) := by decide +kernel
theorem dX11_lay_0 : decode cX11_lay 0 = .ok (.aload_n 0, 1) := by decide +kernel
theorem dX11_lay_1 : decode cX11_lay 1 = .ok (.getfield 30, 3) := by decide +kernel
theorem dX11_lay_4 : decode cX11_lay 4 = .ok (.iload_n 1, 1) := by decide +kernel
theorem dX11_lay_5 : decode cX11_lay 5 = .ok (.invokevirtual 84, 3) := by decide +kernel
theorem dX11_lay_8 : decode cX11_lay 8 = .ok (.astore 5, 2) := by decide +kernel
theorem dX11_lay_10 : decode cX11_lay 10 = .ok (.aload_n 0, 1) := by decide +kernel
theorem dX11_lay_11 : decode cX11_lay 11 = .ok (.getfield 30, 3) := by decide +kernel
theorem dX11_lay_14 : decode cX11_lay 14 = .ok (.iload_n 3, 1) := by decide +kernel
theorem dX11_lay_15 : decode cX11_lay 15 = .ok (.invokevirtual 84, 3) := by decide +kernel
theorem dX11_lay_18 : decode cX11_lay 18 = .ok (.astore 6, 2) := by decide +kernel
theorem dX11_lay_20 : decode cX11_lay 20 = .ok (.aload 5, 2) := by decide +kernel
theorem dX11_lay_22 : decode cX11_lay 22 = .ok (.ifnull 8, 3) := by decide +kernel
theorem dX11_lay_25 : decode cX11_lay 25 = .ok (.aload 6, 2) := by decide +kernel
theorem dX11_lay_27 : decode cX11_lay 27 = .ok (.ifnonnull 5, 3) := by decide +kernel
theorem dX11_lay_30 : decode cX11_lay 30 = .ok (.iconst (-1), 1) := by decide +kernel
theorem dX11_lay_31 : decode cX11_lay 31 = .ok (.ireturn, 1) := by decide +kernel
theorem dX11_lay_32 : decode cX11_lay 32 = .ok (.aload_n 0, 1) := by decide +kernel
theorem dX11_lay_33 : decode cX11_lay 33 = .ok (.getfield 39, 3) := by decide +kernel
theorem dX11_lay_36 : decode cX11_lay 36 = .ok (.getfield 57, 3) := by decide +kernel
theorem dX11_lay_39 : decode cX11_lay 39 = .ok (.iconst 1, 1) := by decide +kernel
theorem dX11_lay_40 : decode cX11_lay 40 = .ok (.if_icmp .ne 6, 3) := by decide +kernel
theorem dX11_lay_43 : decode cX11_lay 43 = .ok (.bipush (-2), 2) := by decide +kernel
theorem dX11_lay_45 : decode cX11_lay 45 = .ok (.ireturn, 1) := by decide +kernel
theorem dX11_lay_46 : decode cX11_lay 46 = .ok (.aload 6, 2) := by decide +kernel
theorem dX11_lay_48 : decode cX11_lay 48 = .ok (.iload 4, 2) := by decide +kernel
theorem dX11_lay_50 : decode cX11_lay 50 = .ok (.invokevirtual 88, 3) := by decide +kernel
theorem dX11_lay_53 : decode cX11_lay 53 = .ok (.ifCond .eq 12, 3) := by decide +kernel
theorem dX11_lay_56 : decode cX11_lay 56 = .ok (.aload 5, 2) := by decide +kernel
theorem dX11_lay_58 : decode cX11_lay 58 = .ok (.iload_n 2, 1) := by decide +kernel
theorem dX11_lay_59 : decode cX11_lay 59 = .ok (.invokevirtual 88, 3) := by decide +kernel
theorem dX11_lay_62 : decode cX11_lay 62 = .ok (.ifCond .ne 8, 3) := by decide +kernel
theorem dX11_lay_65 : decode cX11_lay 65 = .ok (.iconst 2, 1) := by decide +kernel
theorem dX11_lay_66 : decode cX11_lay 66 = .ok (.invokestatic 63, 3) := by decide +kernel
theorem dX11_lay_69 : decode cX11_lay 69 = .ok (.ireturn, 1) := by decide +kernel
theorem dX11_lay_70 : decode cX11_lay 70 = .ok (.aload 6, 2) := by decide +kernel
theorem dX11_lay_72 : decode cX11_lay 72 = .ok (.getfield 72, 3) := by decide +kernel
theorem dX11_lay_75 : decode cX11_lay 75 = .ok (.iload 4, 2) := by decide +kernel
theorem dX11_lay_77 : decode cX11_lay 77 = .ok (.aaload, 1) := by decide +kernel
theorem dX11_lay_78 : decode cX11_lay 78 = .ok (.astore 7, 2) := by decide +kernel
theorem dX11_lay_80 : decode cX11_lay 80 = .ok (.aload 7, 2) := by decide +kernel
theorem dX11_lay_82 : decode cX11_lay 82 = .ok (.ifnull 21, 3) := by decide +kernel
theorem dX11_lay_85 : decode cX11_lay 85 = .ok (.aload 7, 2) := by decide +kernel
theorem dX11_lay_87 : decode cX11_lay 87 = .ok (.getfield 104, 3) := by decide +kernel
theorem dX11_lay_90 : decode cX11_lay 90 = .ok (.aload 5, 2) := by decide +kernel
theorem dX11_lay_92 : decode cX11_lay 92 = .ok (.getfield 91, 3) := by decide +kernel
theorem dX11_lay_95 : decode cX11_lay 95 = .ok (.if_icmp .eq 8, 3) := by decide +kernel
theorem dX11_lay_98 : decode cX11_lay 98 = .ok (.iconst 4, 1) := by decide +kernel
theorem dX11_lay_99 : decode cX11_lay 99 = .ok (.invokestatic 63, 3) := by decide +kernel
theorem dX11_lay_102 : decode cX11_lay 102 = .ok (.ireturn, 1) := by decide +kernel
theorem dX11_lay_103 : decode cX11_lay 103 = .ok (.aload 5, 2) := by decide +kernel
theorem dX11_lay_105 : decode cX11_lay 105 = .ok (.getfield 72, 3) := by decide +kernel
theorem dX11_lay_108 : decode cX11_lay 108 = .ok (.iload_n 2, 1) := by decide +kernel
theorem dX11_lay_109 : decode cX11_lay 109 = .ok (.aload 7, 2) := by decide +kernel
theorem dX11_lay_111 : decode cX11_lay 111 = .ok (.aastore, 1) := by decide +kernel
theorem dX11_lay_112 : decode cX11_lay 112 = .ok (.aload 7, 2) := by decide +kernel
theorem dX11_lay_114 : decode cX11_lay 114 = .ok (.ifnonnull 7, 3) := by decide +kernel
theorem dX11_lay_117 : decode cX11_lay 117 = .ok (.iconst 0, 1) := by decide +kernel
theorem dX11_lay_118 : decode cX11_lay 118 = .ok (.goto 4, 3) := by decide +kernel
theorem dX11_lay_121 : decode cX11_lay 121 = .ok (.iconst 1, 1) := by decide +kernel
theorem dX11_lay_122 : decode cX11_lay 122 = .ok (.ireturn, 1) := by decide +kernel
theorem dX11_size_0 : decode cX11_size 0 = .ok (.aload_n 0, 1) := by decide +kernel
theorem dX11_size_1 : decode cX11_size 1 = .ok (.getfield 30, 3) := by decide +kernel
theorem dX11_size_4 : decode cX11_size 4 = .ok (.iload_n 1, 1) := by decide +kernel
theorem dX11_size_5 : decode cX11_size 5 = .ok (.invokevirtual 84, 3) := by decide +kernel
theorem dX11_size_8 : decode cX11_size 8 = .ok (.astore_n 3, 1) := by decide +kernel
theorem dX11_size_9 : decode cX11_size 9 = .ok (.aload_n 3, 1) := by decide +kernel
theorem dX11_size_10 : decode cX11_size 10 = .ok (.ifnonnull 5, 3) := by decide +kernel
theorem dX11_size_13 : decode cX11_size 13 = .ok (.iconst (-1), 1) := by decide +kernel
theorem dX11_size_14 : decode cX11_size 14 = .ok (.ireturn, 1) := by decide +kernel
theorem dX11_size_15 : decode cX11_size 15 = .ok (.iload_n 2, 1) := by decide +kernel
theorem dX11_size_16 : decode cX11_size 16 = .ok (.iconst (-1), 1) := by decide +kernel
theorem dX11_size_17 : decode cX11_size 17 = .ok (.if_icmp .ne 9, 3) := by decide +kernel
theorem dX11_size_20 : decode cX11_size 20 = .ok (.aload_n 3, 1) := by decide +kernel
theorem dX11_size_21 : decode cX11_size 21 = .ok (.getfield 72, 3) := by decide +kernel
theorem dX11_size_24 : decode cX11_size 24 = .ok (.arraylength, 1) := by decide +kernel
theorem dX11_size_25 : decode cX11_size 25 = .ok (.ireturn, 1) := by decide +kernel
theorem dX11_size_26 : decode cX11_size 26 = .ok (.aload_n 3, 1) := by decide +kernel
theorem dX11_size_27 : decode cX11_size 27 = .ok (.iload_n 2, 1) := by decide +kernel
theorem dX11_size_28 : decode cX11_size 28 = .ok (.invokevirtual 94, 3) := by decide +kernel
theorem dX11_size_31 : decode cX11_size 31 = .ok (.istore 4, 2) := by decide +kernel
theorem dX11_size_33 : decode cX11_size 33 = .ok (.iload 4, 2) := by decide +kernel
theorem dX11_size_35 : decode cX11_size 35 = .ok (.ifCond .eq 11, 3) := by decide +kernel
theorem dX11_size_38 : decode cX11_size 38 = .ok (.iload 4, 2) := by decide +kernel
theorem dX11_size_40 : decode cX11_size 40 = .ok (.invokestatic 63, 3) := by decide +kernel
theorem dX11_size_43 : decode cX11_size 43 = .ok (.goto 13, 3) := by decide +kernel
theorem dX11_size_46 : decode cX11_size 46 = .ok (.aload_n 3, 1) := by decide +kernel
theorem dX11_size_47 : decode cX11_size 47 = .ok (.getfield 72, 3) := by decide +kernel
theorem dX11_size_50 : decode cX11_size 50 = .ok (.iload_n 2, 1) := by decide +kernel
theorem dX11_size_51 : decode cX11_size 51 = .ok (.aaload, 1) := by decide +kernel
theorem dX11_size_52 : decode cX11_size 52 = .ok (.getfield 100, 3) := by decide +kernel
theorem dX11_size_55 : decode cX11_size 55 = .ok (.arraylength, 1) := by decide +kernel
theorem dX11_size_56 : decode cX11_size 56 = .ok (.ireturn, 1) := by decide +kernel
theorem dX11_way_0 : decode cX11_way 0 = .ok (.iload_n 2, 1) := by decide +kernel
theorem dX11_way_1 : decode cX11_way 1 = .ok (.iconst 1, 1) := by decide +kernel
theorem dX11_way_2 : decode cX11_way 2 = .ok (.if_icmp .lt 22, 3) := by decide +kernel
theorem dX11_way_5 : decode cX11_way 5 = .ok (.iload_n 2, 1) := by decide +kernel
theorem dX11_way_6 : decode cX11_way 6 = .ok (.ldc 111, 2) := by decide +kernel
theorem dX11_way_8 : decode cX11_way 8 = .ok (.if_icmp .gt 16, 3) := by decide +kernel
theorem dX11_way_11 : decode cX11_way 11 = .ok (.lload_n 3, 1) := by decide +kernel
theorem dX11_way_12 : decode cX11_way 12 = .ok (.ldc2_w 109, 3) := by decide +kernel
theorem dX11_way_15 : decode cX11_way 15 = .ok (.lcmp, 1) := by decide +kernel
theorem dX11_way_16 : decode cX11_way 16 = .ok (.ifCond .eq 8, 3) := by decide +kernel
theorem dX11_way_19 : decode cX11_way 19 = .ok (.iload 5, 2) := by decide +kernel
theorem dX11_way_21 : decode cX11_way 21 = .ok (.ifCond .ge 5, 3) := by decide +kernel
theorem dX11_way_24 : decode cX11_way 24 = .ok (.iconst (-1), 1) := by decide +kernel
theorem dX11_way_25 : decode cX11_way 25 = .ok (.ireturn, 1) := by decide +kernel
theorem dX11_way_26 : decode cX11_way 26 = .ok (.aload_n 0, 1) := by decide +kernel
theorem dX11_way_27 : decode cX11_way 27 = .ok (.iload 6, 2) := by decide +kernel
theorem dX11_way_29 : decode cX11_way 29 = .ok (.iload 7, 2) := by decide +kernel
theorem dX11_way_31 : decode cX11_way 31 = .ok (.invokevirtual 112, 3) := by decide +kernel
theorem dX11_way_34 : decode cX11_way 34 = .ok (.ifCond .ne 5, 3) := by decide +kernel
theorem dX11_way_37 : decode cX11_way 37 = .ok (.iconst (-1), 1) := by decide +kernel
theorem dX11_way_38 : decode cX11_way 38 = .ok (.ireturn, 1) := by decide +kernel
theorem dX11_way_39 : decode cX11_way 39 = .ok (.aload_n 0, 1) := by decide +kernel
theorem dX11_way_40 : decode cX11_way 40 = .ok (.invokevirtual 116, 3) := by decide +kernel
theorem dX11_way_43 : decode cX11_way 43 = .ok (.istore 8, 2) := by decide +kernel
theorem dX11_way_45 : decode cX11_way 45 = .ok (.iload 8, 2) := by decide +kernel
theorem dX11_way_47 : decode cX11_way 47 = .ok (.ifCond .eq 6, 3) := by decide +kernel
theorem dX11_way_50 : decode cX11_way 50 = .ok (.iload 8, 2) := by decide +kernel
theorem dX11_way_52 : decode cX11_way 52 = .ok (.ireturn, 1) := by decide +kernel
theorem dX11_way_53 : decode cX11_way 53 = .ok (.aload_n 0, 1) := by decide +kernel
theorem dX11_way_54 : decode cX11_way 54 = .ok (.getfield 30, 3) := by decide +kernel
theorem dX11_way_57 : decode cX11_way 57 = .ok (.new 120, 3) := by decide +kernel
theorem dX11_way_60 : decode cX11_way 60 = .ok (.dup, 1) := by decide +kernel
theorem dX11_way_61 : decode cX11_way 61 = .ok (.iload_n 1, 1) := by decide +kernel
theorem dX11_way_62 : decode cX11_way 62 = .ok (.iload_n 2, 1) := by decide +kernel
theorem dX11_way_63 : decode cX11_way 63 = .ok (.lload_n 3, 1) := by decide +kernel
theorem dX11_way_64 : decode cX11_way 64 = .ok (.iload 5, 2) := by decide +kernel
theorem dX11_way_66 : decode cX11_way 66 = .ok (.iload 6, 2) := by decide +kernel
theorem dX11_way_68 : decode cX11_way 68 = .ok (.iload 7, 2) := by decide +kernel
theorem dX11_way_70 : decode cX11_way 70 = .ok (.invokespecial 122, 3) := by decide +kernel
theorem dX11_way_73 : decode cX11_way 73 = .ok (.invokevirtual 125, 3) := by decide +kernel
theorem dX11_way_76 : decode cX11_way 76 = .ok (.ireturn, 1) := by decide +kernel
theorem dX11_reader_0 : decode cX11_reader 0 = .ok (.aload_n 0, 1) := by decide +kernel
theorem dX11_reader_1 : decode cX11_reader 1 = .ok (.getfield 30, 3) := by decide +kernel
theorem dX11_reader_4 : decode cX11_reader 4 = .ok (.iload_n 2, 1) := by decide +kernel
theorem dX11_reader_5 : decode cX11_reader 5 = .ok (.invokevirtual 84, 3) := by decide +kernel
theorem dX11_reader_8 : decode cX11_reader 8 = .ok (.astore 6, 2) := by decide +kernel
theorem dX11_reader_10 : decode cX11_reader 10 = .ok (.aload 6, 2) := by decide +kernel
theorem dX11_reader_12 : decode cX11_reader 12 = .ok (.ifnull 21, 3) := by decide +kernel
theorem dX11_reader_15 : decode cX11_reader 15 = .ok (.iload_n 3, 1) := by decide +kernel
theorem dX11_reader_16 : decode cX11_reader 16 = .ok (.invokestatic 53, 3) := by decide +kernel
theorem dX11_reader_19 : decode cX11_reader 19 = .ok (.ifCond .eq 14, 3) := by decide +kernel
theorem dX11_reader_22 : decode cX11_reader 22 = .ok (.aload_n 0, 1) := by decide +kernel
theorem dX11_reader_23 : decode cX11_reader 23 = .ok (.iload 4, 2) := by decide +kernel
theorem dX11_reader_25 : decode cX11_reader 25 = .ok (.iload 5, 2) := by decide +kernel
theorem dX11_reader_27 : decode cX11_reader 27 = .ok (.invokevirtual 112, 3) := by decide +kernel
theorem dX11_reader_30 : decode cX11_reader 30 = .ok (.ifCond .ne 5, 3) := by decide +kernel
theorem dX11_reader_33 : decode cX11_reader 33 = .ok (.iconst (-1), 1) := by decide +kernel
theorem dX11_reader_34 : decode cX11_reader 34 = .ok (.ireturn, 1) := by decide +kernel
theorem dX11_reader_35 : decode cX11_reader 35 = .ok (.aload_n 0, 1) := by decide +kernel
theorem dX11_reader_36 : decode cX11_reader 36 = .ok (.invokevirtual 116, 3) := by decide +kernel
theorem dX11_reader_39 : decode cX11_reader 39 = .ok (.istore 7, 2) := by decide +kernel
theorem dX11_reader_41 : decode cX11_reader 41 = .ok (.iload 7, 2) := by decide +kernel
theorem dX11_reader_43 : decode cX11_reader 43 = .ok (.ifCond .eq 6, 3) := by decide +kernel
theorem dX11_reader_46 : decode cX11_reader 46 = .ok (.iload 7, 2) := by decide +kernel
theorem dX11_reader_48 : decode cX11_reader 48 = .ok (.ireturn, 1) := by decide +kernel
theorem dX11_reader_49 : decode cX11_reader 49 = .ok (.aload_n 0, 1) := by decide +kernel
theorem dX11_reader_50 : decode cX11_reader 50 = .ok (.getfield 30, 3) := by decide +kernel
theorem dX11_reader_53 : decode cX11_reader 53 = .ok (.new 129, 3) := by decide +kernel
theorem dX11_reader_56 : decode cX11_reader 56 = .ok (.dup, 1) := by decide +kernel
theorem dX11_reader_57 : decode cX11_reader 57 = .ok (.iload_n 1, 1) := by decide +kernel
theorem dX11_reader_58 : decode cX11_reader 58 = .ok (.aload 6, 2) := by decide +kernel
theorem dX11_reader_60 : decode cX11_reader 60 = .ok (.iload_n 3, 1) := by decide +kernel
theorem dX11_reader_61 : decode cX11_reader 61 = .ok (.iload 4, 2) := by decide +kernel
theorem dX11_reader_63 : decode cX11_reader 63 = .ok (.iload 5, 2) := by decide +kernel
theorem dX11_reader_65 : decode cX11_reader 65 = .ok (.invokespecial 131, 3) := by decide +kernel
theorem dX11_reader_68 : decode cX11_reader 68 = .ok (.invokevirtual 125, 3) := by decide +kernel
theorem dX11_reader_71 : decode cX11_reader 71 = .ok (.ireturn, 1) := by decide +kernel
theorem dX11_search_0 : decode cX11_search 0 = .ok (.aload_n 0, 1) := by decide +kernel
theorem dX11_search_1 : decode cX11_search 1 = .ok (.getfield 30, 3) := by decide +kernel
theorem dX11_search_4 : decode cX11_search 4 = .ok (.iload_n 1, 1) := by decide +kernel
theorem dX11_search_5 : decode cX11_search 5 = .ok (.invokevirtual 84, 3) := by decide +kernel
theorem dX11_search_8 : decode cX11_search 8 = .ok (.astore 6, 2) := by decide +kernel
theorem dX11_search_10 : decode cX11_search 10 = .ok (.aload 6, 2) := by decide +kernel
theorem dX11_search_12 : decode cX11_search 12 = .ok (.ifnull 10, 3) := by decide +kernel
theorem dX11_search_15 : decode cX11_search 15 = .ok (.iload_n 2, 1) := by decide +kernel
theorem dX11_search_16 : decode cX11_search 16 = .ok (.invokestatic 53, 3) := by decide +kernel
theorem dX11_search_19 : decode cX11_search 19 = .ok (.ifCond .ne 5, 3) := by decide +kernel
theorem dX11_search_22 : decode cX11_search 22 = .ok (.iconst (-1), 1) := by decide +kernel
theorem dX11_search_23 : decode cX11_search 23 = .ok (.ireturn, 1) := by decide +kernel
theorem dX11_search_24 : decode cX11_search 24 = .ok (.iload_n 3, 1) := by decide +kernel
theorem dX11_search_25 : decode cX11_search 25 = .ok (.ifCond .lt 16, 3) := by decide +kernel
theorem dX11_search_28 : decode cX11_search 28 = .ok (.iload_n 3, 1) := by decide +kernel
theorem dX11_search_29 : decode cX11_search 29 = .ok (.bipush 100, 2) := by decide +kernel
theorem dX11_search_31 : decode cX11_search 31 = .ok (.if_icmp .gt 10, 3) := by decide +kernel
theorem dX11_search_34 : decode cX11_search 34 = .ok (.lload 4, 2) := by decide +kernel
theorem dX11_search_36 : decode cX11_search 36 = .ok (.lconst 0, 1) := by decide +kernel
theorem dX11_search_37 : decode cX11_search 37 = .ok (.lcmp, 1) := by decide +kernel
theorem dX11_search_38 : decode cX11_search 38 = .ok (.ifCond .ge 5, 3) := by decide +kernel
theorem dX11_search_41 : decode cX11_search 41 = .ok (.iconst (-1), 1) := by decide +kernel
theorem dX11_search_42 : decode cX11_search 42 = .ok (.ireturn, 1) := by decide +kernel
theorem dX11_search_43 : decode cX11_search 43 = .ok (.aload_n 0, 1) := by decide +kernel
theorem dX11_search_44 : decode cX11_search 44 = .ok (.getfield 39, 3) := by decide +kernel
theorem dX11_search_47 : decode cX11_search 47 = .ok (.getfield 57, 3) := by decide +kernel
theorem dX11_search_50 : decode cX11_search 50 = .ok (.iconst 1, 1) := by decide +kernel
theorem dX11_search_51 : decode cX11_search 51 = .ok (.if_icmp .ne 6, 3) := by decide +kernel
theorem dX11_search_54 : decode cX11_search 54 = .ok (.bipush (-2), 2) := by decide +kernel
theorem dX11_search_56 : decode cX11_search 56 = .ok (.ireturn, 1) := by decide +kernel
theorem dX11_search_57 : decode cX11_search 57 = .ok (.aload_n 0, 1) := by decide +kernel
theorem dX11_search_58 : decode cX11_search 58 = .ok (.getfield 30, 3) := by decide +kernel
theorem dX11_search_61 : decode cX11_search 61 = .ok (.getfield 134, 3) := by decide +kernel
theorem dX11_search_64 : decode cX11_search 64 = .ok (.bipush 8, 2) := by decide +kernel
theorem dX11_search_66 : decode cX11_search 66 = .ok (.if_icmp .lt 6, 3) := by decide +kernel
theorem dX11_search_69 : decode cX11_search 69 = .ok (.bipush (-3), 2) := by decide +kernel
theorem dX11_search_71 : decode cX11_search 71 = .ok (.ireturn, 1) := by decide +kernel
theorem dX11_search_72 : decode cX11_search 72 = .ok (.aload_n 0, 1) := by decide +kernel
theorem dX11_search_73 : decode cX11_search 73 = .ok (.getfield 30, 3) := by decide +kernel
theorem dX11_search_76 : decode cX11_search 76 = .ok (.getfield 137, 3) := by decide +kernel
theorem dX11_search_79 : decode cX11_search 79 = .ok (.aload_n 0, 1) := by decide +kernel
theorem dX11_search_80 : decode cX11_search 80 = .ok (.getfield 30, 3) := by decide +kernel
theorem dX11_search_83 : decode cX11_search 83 = .ok (.getfield 134, 3) := by decide +kernel
theorem dX11_search_86 : decode cX11_search 86 = .ok (.new 141, 3) := by decide +kernel
theorem dX11_search_89 : decode cX11_search 89 = .ok (.dup, 1) := by decide +kernel
theorem dX11_search_90 : decode cX11_search 90 = .ok (.aload 6, 2) := by decide +kernel
theorem dX11_search_92 : decode cX11_search 92 = .ok (.iload_n 2, 1) := by decide +kernel
theorem dX11_search_93 : decode cX11_search 93 = .ok (.iload_n 3, 1) := by decide +kernel
theorem dX11_search_94 : decode cX11_search 94 = .ok (.lload 4, 2) := by decide +kernel
theorem dX11_search_96 : decode cX11_search 96 = .ok (.invokespecial 143, 3) := by decide +kernel
theorem dX11_search_99 : decode cX11_search 99 = .ok (.aastore, 1) := by decide +kernel
theorem dX11_search_100 : decode cX11_search 100 = .ok (.aload_n 0, 1) := by decide +kernel
theorem dX11_search_101 : decode cX11_search 101 = .ok (.getfield 39, 3) := by decide +kernel
theorem dX11_search_104 : decode cX11_search 104 = .ok (.getfield 146, 3) := by decide +kernel
theorem dX11_search_107 : decode cX11_search 107 = .ok (.aload_n 0, 1) := by decide +kernel
theorem dX11_search_108 : decode cX11_search 108 = .ok (.getfield 30, 3) := by decide +kernel
theorem dX11_search_111 : decode cX11_search 111 = .ok (.getfield 134, 3) := by decide +kernel
theorem dX11_search_114 : decode cX11_search 114 = .ok (.aaload, 1) := by decide +kernel
theorem dX11_search_115 : decode cX11_search 115 = .ok (.lload 4, 2) := by decide +kernel
theorem dX11_search_117 : decode cX11_search 117 = .ok (.invokevirtual 150, 3) := by decide +kernel
theorem dX11_search_120 : decode cX11_search 120 = .ok (.aload_n 0, 1) := by decide +kernel
theorem dX11_search_121 : decode cX11_search 121 = .ok (.getfield 30, 3) := by decide +kernel
theorem dX11_search_124 : decode cX11_search 124 = .ok (.dup, 1) := by decide +kernel
theorem dX11_search_125 : decode cX11_search 125 = .ok (.getfield 134, 3) := by decide +kernel
theorem dX11_search_128 : decode cX11_search 128 = .ok (.dup_x1, 1) := by decide +kernel
theorem dX11_search_129 : decode cX11_search 129 = .ok (.iconst 1, 1) := by decide +kernel
theorem dX11_search_130 : decode cX11_search 130 = .ok (.iadd, 1) := by decide +kernel
theorem dX11_search_131 : decode cX11_search 131 = .ok (.putfield 134, 3) := by decide +kernel
theorem dX11_search_134 : decode cX11_search 134 = .ok (.ireturn, 1) := by decide +kernel
theorem dX11_share_0 : decode cX11_share 0 = .ok (.iload_n 1, 1) := by decide +kernel
theorem dX11_share_1 : decode cX11_share 1 = .ok (.ifCond .lt 14, 3) := by decide +kernel
theorem dX11_share_4 : decode cX11_share 4 = .ok (.iload_n 1, 1) := by decide +kernel
theorem dX11_share_5 : decode cX11_share 5 = .ok (.aload_n 0, 1) := by decide +kernel
theorem dX11_share_6 : decode cX11_share 6 = .ok (.getfield 30, 3) := by decide +kernel
theorem dX11_share_9 : decode cX11_share 9 = .ok (.getfield 134, 3) := by decide +kernel
theorem dX11_share_12 : decode cX11_share 12 = .ok (.if_icmp .lt 5, 3) := by decide +kernel
theorem dX11_share_15 : decode cX11_share 15 = .ok (.iconst (-1), 1) := by decide +kernel
theorem dX11_share_16 : decode cX11_share 16 = .ok (.ireturn, 1) := by decide +kernel
theorem dX11_share_17 : decode cX11_share 17 = .ok (.iload_n 2, 1) := by decide +kernel
theorem dX11_share_18 : decode cX11_share 18 = .ok (.ifCond .lt 14, 3) := by decide +kernel
theorem dX11_share_21 : decode cX11_share 21 = .ok (.iload_n 2, 1) := by decide +kernel
theorem dX11_share_22 : decode cX11_share 22 = .ok (.iload_n 3, 1) := by decide +kernel
theorem dX11_share_23 : decode cX11_share 23 = .ok (.if_icmp .gt 9, 3) := by decide +kernel
theorem dX11_share_26 : decode cX11_share 26 = .ok (.iload_n 3, 1) := by decide +kernel
theorem dX11_share_27 : decode cX11_share 27 = .ok (.bipush 20, 2) := by decide +kernel
theorem dX11_share_29 : decode cX11_share 29 = .ok (.if_icmp .le 5, 3) := by decide +kernel
theorem dX11_share_32 : decode cX11_share 32 = .ok (.iconst (-1), 1) := by decide +kernel
theorem dX11_share_33 : decode cX11_share 33 = .ok (.ireturn, 1) := by decide +kernel
theorem dX11_share_34 : decode cX11_share 34 = .ok (.aload_n 0, 1) := by decide +kernel
theorem dX11_share_35 : decode cX11_share 35 = .ok (.iload 4, 2) := by decide +kernel
theorem dX11_share_37 : decode cX11_share 37 = .ok (.iload 5, 2) := by decide +kernel
theorem dX11_share_39 : decode cX11_share 39 = .ok (.invokevirtual 112, 3) := by decide +kernel
theorem dX11_share_42 : decode cX11_share 42 = .ok (.ifCond .ne 5, 3) := by decide +kernel
theorem dX11_share_45 : decode cX11_share 45 = .ok (.iconst (-1), 1) := by decide +kernel
theorem dX11_share_46 : decode cX11_share 46 = .ok (.ireturn, 1) := by decide +kernel
theorem dX11_share_47 : decode cX11_share 47 = .ok (.aload_n 0, 1) := by decide +kernel
theorem dX11_share_48 : decode cX11_share 48 = .ok (.invokevirtual 116, 3) := by decide +kernel
theorem dX11_share_51 : decode cX11_share 51 = .ok (.istore 6, 2) := by decide +kernel
theorem dX11_share_53 : decode cX11_share 53 = .ok (.iload 6, 2) := by decide +kernel
theorem dX11_share_55 : decode cX11_share 55 = .ok (.ifCond .eq 6, 3) := by decide +kernel
theorem dX11_share_58 : decode cX11_share 58 = .ok (.iload 6, 2) := by decide +kernel
theorem dX11_share_60 : decode cX11_share 60 = .ok (.ireturn, 1) := by decide +kernel
theorem dX11_share_61 : decode cX11_share 61 = .ok (.new 155, 3) := by decide +kernel
theorem dX11_share_64 : decode cX11_share 64 = .ok (.dup, 1) := by decide +kernel
theorem dX11_share_65 : decode cX11_share 65 = .ok (.aload_n 0, 1) := by decide +kernel
theorem dX11_share_66 : decode cX11_share 66 = .ok (.getfield 30, 3) := by decide +kernel
theorem dX11_share_69 : decode cX11_share 69 = .ok (.getfield 137, 3) := by decide +kernel
theorem dX11_share_72 : decode cX11_share 72 = .ok (.iload_n 1, 1) := by decide +kernel
theorem dX11_share_73 : decode cX11_share 73 = .ok (.aaload, 1) := by decide +kernel
theorem dX11_share_74 : decode cX11_share 74 = .ok (.iload_n 1, 1) := by decide +kernel
theorem dX11_share_75 : decode cX11_share 75 = .ok (.iload_n 2, 1) := by decide +kernel
theorem dX11_share_76 : decode cX11_share 76 = .ok (.iload_n 3, 1) := by decide +kernel
theorem dX11_share_77 : decode cX11_share 77 = .ok (.iload 4, 2) := by decide +kernel
theorem dX11_share_79 : decode cX11_share 79 = .ok (.iload 5, 2) := by decide +kernel
theorem dX11_share_81 : decode cX11_share 81 = .ok (.invokespecial 157, 3) := by decide +kernel
theorem dX11_share_84 : decode cX11_share 84 = .ok (.astore 7, 2) := by decide +kernel
theorem dX11_share_86 : decode cX11_share 86 = .ok (.aload_n 0, 1) := by decide +kernel
theorem dX11_share_87 : decode cX11_share 87 = .ok (.getfield 30, 3) := by decide +kernel
theorem dX11_share_90 : decode cX11_share 90 = .ok (.aload 7, 2) := by decide +kernel
theorem dX11_share_92 : decode cX11_share 92 = .ok (.invokevirtual 125, 3) := by decide +kernel
theorem dX11_share_95 : decode cX11_share 95 = .ok (.ireturn, 1) := by decide +kernel
theorem dX11_turn_0 : decode cX11_turn 0 = .ok (.aload_n 0, 1) := by decide +kernel
theorem dX11_turn_1 : decode cX11_turn 1 = .ok (.iload_n 1, 1) := by decide +kernel
theorem dX11_turn_2 : decode cX11_turn 2 = .ok (.invokevirtual 160, 3) := by decide +kernel
theorem dX11_turn_5 : decode cX11_turn 5 = .ok (.ifCond .ne 5, 3) := by decide +kernel
theorem dX11_turn_8 : decode cX11_turn 8 = .ok (.iconst (-1), 1) := by decide +kernel
theorem dX11_turn_9 : decode cX11_turn 9 = .ok (.ireturn, 1) := by decide +kernel
theorem dX11_turn_10 : decode cX11_turn 10 = .ok (.aload_n 0, 1) := by decide +kernel
theorem dX11_turn_11 : decode cX11_turn 11 = .ok (.getfield 39, 3) := by decide +kernel
theorem dX11_turn_14 : decode cX11_turn 14 = .ok (.getfield 57, 3) := by decide +kernel
theorem dX11_turn_17 : decode cX11_turn 17 = .ok (.iconst 1, 1) := by decide +kernel
theorem dX11_turn_18 : decode cX11_turn 18 = .ok (.if_icmp .ne 6, 3) := by decide +kernel
theorem dX11_turn_21 : decode cX11_turn 21 = .ok (.bipush (-2), 2) := by decide +kernel
theorem dX11_turn_23 : decode cX11_turn 23 = .ok (.ireturn, 1) := by decide +kernel
theorem dX11_turn_24 : decode cX11_turn 24 = .ok (.aload_n 0, 1) := by decide +kernel
theorem dX11_turn_25 : decode cX11_turn 25 = .ok (.getfield 30, 3) := by decide +kernel
theorem dX11_turn_28 : decode cX11_turn 28 = .ok (.getfield 163, 3) := by decide +kernel
theorem dX11_turn_31 : decode cX11_turn 31 = .ok (.sipush 400, 3) := by decide +kernel
theorem dX11_turn_34 : decode cX11_turn 34 = .ok (.if_icmp .lt 6, 3) := by decide +kernel
theorem dX11_turn_37 : decode cX11_turn 37 = .ok (.bipush (-3), 2) := by decide +kernel
theorem dX11_turn_39 : decode cX11_turn 39 = .ok (.ireturn, 1) := by decide +kernel
theorem dX11_turn_40 : decode cX11_turn 40 = .ok (.aload_n 0, 1) := by decide +kernel
theorem dX11_turn_41 : decode cX11_turn 41 = .ok (.getfield 30, 3) := by decide +kernel
theorem dX11_turn_44 : decode cX11_turn 44 = .ok (.getfield 166, 3) := by decide +kernel
theorem dX11_turn_47 : decode cX11_turn 47 = .ok (.aload_n 0, 1) := by decide +kernel
theorem dX11_turn_48 : decode cX11_turn 48 = .ok (.getfield 30, 3) := by decide +kernel
theorem dX11_turn_51 : decode cX11_turn 51 = .ok (.getfield 163, 3) := by decide +kernel
theorem dX11_turn_54 : decode cX11_turn 54 = .ok (.iload_n 1, 1) := by decide +kernel
theorem dX11_turn_55 : decode cX11_turn 55 = .ok (.iastore, 1) := by decide +kernel
theorem dX11_turn_56 : decode cX11_turn 56 = .ok (.aload_n 0, 1) := by decide +kernel
theorem dX11_turn_57 : decode cX11_turn 57 = .ok (.getfield 30, 3) := by decide +kernel
theorem dX11_turn_60 : decode cX11_turn 60 = .ok (.dup, 1) := by decide +kernel
theorem dX11_turn_61 : decode cX11_turn 61 = .ok (.getfield 163, 3) := by decide +kernel
theorem dX11_turn_64 : decode cX11_turn 64 = .ok (.iconst 1, 1) := by decide +kernel
theorem dX11_turn_65 : decode cX11_turn 65 = .ok (.iadd, 1) := by decide +kernel
theorem dX11_turn_66 : decode cX11_turn 66 = .ok (.putfield 163, 3) := by decide +kernel
theorem dX11_turn_69 : decode cX11_turn 69 = .ok (.aload_n 0, 1) := by decide +kernel
theorem dX11_turn_70 : decode cX11_turn 70 = .ok (.getfield 30, 3) := by decide +kernel
theorem dX11_turn_73 : decode cX11_turn 73 = .ok (.getfield 163, 3) := by decide +kernel
theorem dX11_turn_76 : decode cX11_turn 76 = .ok (.ireturn, 1) := by decide +kernel
theorem dX11_run_0 : decode cX11_run 0 = .ok (.iload_n 1, 1) := by decide +kernel
theorem dX11_run_1 : decode cX11_run 1 = .ok (.iconst 1, 1) := by decide +kernel
theorem dX11_run_2 : decode cX11_run 2 = .ok (.if_icmp .lt 10, 3) := by decide +kernel
theorem dX11_run_5 : decode cX11_run 5 = .ok (.iload_n 1, 1) := by decide +kernel
theorem dX11_run_6 : decode cX11_run 6 = .ok (.sipush 1000, 3) := by decide +kernel
theorem dX11_run_9 : decode cX11_run 9 = .ok (.if_icmp .le 5, 3) := by decide +kernel
theorem dX11_run_12 : decode cX11_run 12 = .ok (.iconst (-1), 1) := by decide +kernel
theorem dX11_run_13 : decode cX11_run 13 = .ok (.ireturn, 1) := by decide +kernel
theorem dX11_run_14 : decode cX11_run 14 = .ok (.aload_n 0, 1) := by decide +kernel
theorem dX11_run_15 : decode cX11_run 15 = .ok (.getfield 39, 3) := by decide +kernel
theorem dX11_run_18 : decode cX11_run 18 = .ok (.getfield 57, 3) := by decide +kernel
theorem dX11_run_21 : decode cX11_run 21 = .ok (.iconst 2, 1) := by decide +kernel
theorem dX11_run_22 : decode cX11_run 22 = .ok (.if_icmp .eq 14, 3) := by decide +kernel
theorem dX11_run_25 : decode cX11_run 25 = .ok (.aload_n 0, 1) := by decide +kernel
theorem dX11_run_26 : decode cX11_run 26 = .ok (.getfield 39, 3) := by decide +kernel
theorem dX11_run_29 : decode cX11_run 29 = .ok (.getfield 57, 3) := by decide +kernel
theorem dX11_run_32 : decode cX11_run 32 = .ok (.iconst 3, 1) := by decide +kernel
theorem dX11_run_33 : decode cX11_run 33 = .ok (.if_icmp .ne 6, 3) := by decide +kernel
theorem dX11_run_36 : decode cX11_run 36 = .ok (.bipush (-2), 2) := by decide +kernel
theorem dX11_run_38 : decode cX11_run 38 = .ok (.ireturn, 1) := by decide +kernel
theorem dX11_run_39 : decode cX11_run 39 = .ok (.aload_n 0, 1) := by decide +kernel
theorem dX11_run_40 : decode cX11_run 40 = .ok (.getfield 39, 3) := by decide +kernel
theorem dX11_run_43 : decode cX11_run 43 = .ok (.iload_n 1, 1) := by decide +kernel
theorem dX11_run_44 : decode cX11_run 44 = .ok (.invokevirtual 170, 3) := by decide +kernel
theorem dX11_run_47 : decode cX11_run 47 = .ok (.ireturn, 1) := by decide +kernel
theorem dX11_interrupt_0 : decode cX11_interrupt 0 = .ok (.aload_n 0, 1) := by decide +kernel
theorem dX11_interrupt_1 : decode cX11_interrupt 1 = .ok (.iload_n 1, 1) := by decide +kernel
theorem dX11_interrupt_2 : decode cX11_interrupt 2 = .ok (.invokevirtual 173, 3) := by decide +kernel
theorem dX11_interrupt_5 : decode cX11_interrupt 5 = .ok (.ifCond .ne 5, 3) := by decide +kernel
theorem dX11_interrupt_8 : decode cX11_interrupt 8 = .ok (.iconst (-1), 1) := by decide +kernel
theorem dX11_interrupt_9 : decode cX11_interrupt 9 = .ok (.ireturn, 1) := by decide +kernel
theorem dX11_interrupt_10 : decode cX11_interrupt 10 = .ok (.aload_n 0, 1) := by decide +kernel
theorem dX11_interrupt_11 : decode cX11_interrupt 11 = .ok (.getfield 39, 3) := by decide +kernel
theorem dX11_interrupt_14 : decode cX11_interrupt 14 = .ok (.getfield 57, 3) := by decide +kernel
theorem dX11_interrupt_17 : decode cX11_interrupt 17 = .ok (.iconst 1, 1) := by decide +kernel
theorem dX11_interrupt_18 : decode cX11_interrupt 18 = .ok (.if_icmp .eq 6, 3) := by decide +kernel
theorem dX11_interrupt_21 : decode cX11_interrupt 21 = .ok (.bipush (-2), 2) := by decide +kernel
theorem dX11_interrupt_23 : decode cX11_interrupt 23 = .ok (.ireturn, 1) := by decide +kernel
theorem dX11_interrupt_24 : decode cX11_interrupt 24 = .ok (.aload_n 0, 1) := by decide +kernel
theorem dX11_interrupt_25 : decode cX11_interrupt 25 = .ok (.getfield 39, 3) := by decide +kernel
theorem dX11_interrupt_28 : decode cX11_interrupt 28 = .ok (.iload_n 1, 1) := by decide +kernel
theorem dX11_interrupt_29 : decode cX11_interrupt 29 = .ok (.invokevirtual 176, 3) := by decide +kernel
theorem dX11_interrupt_32 : decode cX11_interrupt 32 = .ok (.ireturn, 1) := by decide +kernel
theorem dX11_close_0 : decode cX11_close 0 = .ok (.aload_n 0, 1) := by decide +kernel
theorem dX11_close_1 : decode cX11_close 1 = .ok (.getfield 39, 3) := by decide +kernel
theorem dX11_close_4 : decode cX11_close 4 = .ok (.getfield 57, 3) := by decide +kernel
theorem dX11_close_7 : decode cX11_close 7 = .ok (.iconst 1, 1) := by decide +kernel
theorem dX11_close_8 : decode cX11_close 8 = .ok (.if_icmp .ne 13, 3) := by decide +kernel
theorem dX11_close_11 : decode cX11_close 11 = .ok (.aload_n 0, 1) := by decide +kernel
theorem dX11_close_12 : decode cX11_close 12 = .ok (.getfield 39, 3) := by decide +kernel
theorem dX11_close_15 : decode cX11_close 15 = .ok (.invokevirtual 179, 3) := by decide +kernel
theorem dX11_close_18 : decode cX11_close 18 = .ok (.goto 5, 3) := by decide +kernel
theorem dX11_close_21 : decode cX11_close 21 = .ok (.bipush (-2), 2) := by decide +kernel
theorem dX11_close_23 : decode cX11_close 23 = .ok (.ireturn, 1) := by decide +kernel
theorem dX11_anew_0 : decode cX11_anew 0 = .ok (.aload_n 0, 1) := by decide +kernel
theorem dX11_anew_1 : decode cX11_anew 1 = .ok (.getfield 39, 3) := by decide +kernel
theorem dX11_anew_4 : decode cX11_anew 4 = .ok (.aload_n 0, 1) := by decide +kernel
theorem dX11_anew_5 : decode cX11_anew 5 = .ok (.getfield 20, 3) := by decide +kernel
theorem dX11_anew_8 : decode cX11_anew 8 = .ok (.invokevirtual 49, 3) := by decide +kernel
theorem dX11_anew_11 : decode cX11_anew 11 = .ok (.aload_n 0, 1) := by decide +kernel
theorem dX11_anew_12 : decode cX11_anew 12 = .ok (.getfield 30, 3) := by decide +kernel
theorem dX11_anew_15 : decode cX11_anew 15 = .ok (.getfield 182, 3) := by decide +kernel
theorem dX11_anew_18 : decode cX11_anew 18 = .ok (.ireturn, 1) := by decide +kernel
theorem dX11_taken_0 : decode cX11_taken 0 = .ok (.aload_n 0, 1) := by decide +kernel
theorem dX11_taken_1 : decode cX11_taken 1 = .ok (.getfield 39, 3) := by decide +kernel
theorem dX11_taken_4 : decode cX11_taken 4 = .ok (.getfield 185, 3) := by decide +kernel
theorem dX11_taken_7 : decode cX11_taken 7 = .ok (.ireturn, 1) := by decide +kernel
theorem dX11_answer_0 : decode cX11_answer 0 = .ok (.aload_n 0, 1) := by decide +kernel
theorem dX11_answer_1 : decode cX11_answer 1 = .ok (.iload_n 1, 1) := by decide +kernel
theorem dX11_answer_2 : decode cX11_answer 2 = .ok (.invokevirtual 173, 3) := by decide +kernel
theorem dX11_answer_5 : decode cX11_answer 5 = .ok (.ifCond .eq 14, 3) := by decide +kernel
theorem dX11_answer_8 : decode cX11_answer 8 = .ok (.aload_n 0, 1) := by decide +kernel
theorem dX11_answer_9 : decode cX11_answer 9 = .ok (.getfield 39, 3) := by decide +kernel
theorem dX11_answer_12 : decode cX11_answer 12 = .ok (.iload_n 1, 1) := by decide +kernel
theorem dX11_answer_13 : decode cX11_answer 13 = .ok (.invokevirtual 188, 3) := by decide +kernel
theorem dX11_answer_16 : decode cX11_answer 16 = .ok (.goto 6, 3) := by decide +kernel
theorem dX11_answer_19 : decode cX11_answer 19 = .ok (.ldc2_w 109, 3) := by decide +kernel
theorem dX11_answer_22 : decode cX11_answer 22 = .ok (.lreturn, 1) := by decide +kernel
theorem dX11_told_0 : decode cX11_told 0 = .ok (.aload_n 0, 1) := by decide +kernel
theorem dX11_told_1 : decode cX11_told 1 = .ok (.iload_n 1, 1) := by decide +kernel
theorem dX11_told_2 : decode cX11_told 2 = .ok (.invokevirtual 173, 3) := by decide +kernel
theorem dX11_told_5 : decode cX11_told 5 = .ok (.ifCond .ne 5, 3) := by decide +kernel
theorem dX11_told_8 : decode cX11_told 8 = .ok (.iconst (-1), 1) := by decide +kernel
theorem dX11_told_9 : decode cX11_told 9 = .ok (.ireturn, 1) := by decide +kernel
theorem dX11_told_10 : decode cX11_told 10 = .ok (.aload_n 0, 1) := by decide +kernel
theorem dX11_told_11 : decode cX11_told 11 = .ok (.getfield 39, 3) := by decide +kernel
theorem dX11_told_14 : decode cX11_told 14 = .ok (.getfield 192, 3) := by decide +kernel
theorem dX11_told_17 : decode cX11_told 17 = .ok (.iload_n 1, 1) := by decide +kernel
theorem dX11_told_18 : decode cX11_told 18 = .ok (.aaload, 1) := by decide +kernel
theorem dX11_told_19 : decode cX11_told 19 = .ok (.astore_n 3, 1) := by decide +kernel
theorem dX11_told_20 : decode cX11_told 20 = .ok (.iload_n 2, 1) := by decide +kernel
theorem dX11_told_21 : decode cX11_told 21 = .ok (.tableswitch 112 0 8 #[51, 64, 69, 74, 79, 84, 89, 94, 99], 51) := by decide +kernel
theorem dX11_told_72 : decode cX11_told 72 = .ok (.aload_n 0, 1) := by decide +kernel
theorem dX11_told_73 : decode cX11_told 73 = .ok (.getfield 30, 3) := by decide +kernel
theorem dX11_told_76 : decode cX11_told 76 = .ok (.getfield 196, 3) := by decide +kernel
theorem dX11_told_79 : decode cX11_told 79 = .ok (.iload_n 1, 1) := by decide +kernel
theorem dX11_told_80 : decode cX11_told 80 = .ok (.aaload, 1) := by decide +kernel
theorem dX11_told_81 : decode cX11_told 81 = .ok (.getfield 200, 3) := by decide +kernel
theorem dX11_told_84 : decode cX11_told 84 = .ok (.ireturn, 1) := by decide +kernel
theorem dX11_told_85 : decode cX11_told 85 = .ok (.aload_n 3, 1) := by decide +kernel
theorem dX11_told_86 : decode cX11_told 86 = .ok (.getfield 205, 3) := by decide +kernel
theorem dX11_told_89 : decode cX11_told 89 = .ok (.ireturn, 1) := by decide +kernel
theorem dX11_told_90 : decode cX11_told 90 = .ok (.aload_n 3, 1) := by decide +kernel
theorem dX11_told_91 : decode cX11_told 91 = .ok (.getfield 210, 3) := by decide +kernel
theorem dX11_told_94 : decode cX11_told 94 = .ok (.ireturn, 1) := by decide +kernel
theorem dX11_told_95 : decode cX11_told 95 = .ok (.aload_n 3, 1) := by decide +kernel
theorem dX11_told_96 : decode cX11_told 96 = .ok (.getfield 213, 3) := by decide +kernel
theorem dX11_told_99 : decode cX11_told 99 = .ok (.ireturn, 1) := by decide +kernel
theorem dX11_told_100 : decode cX11_told 100 = .ok (.aload_n 3, 1) := by decide +kernel
theorem dX11_told_101 : decode cX11_told 101 = .ok (.getfield 216, 3) := by decide +kernel
theorem dX11_told_104 : decode cX11_told 104 = .ok (.ireturn, 1) := by decide +kernel
theorem dX11_told_105 : decode cX11_told 105 = .ok (.aload_n 3, 1) := by decide +kernel
theorem dX11_told_106 : decode cX11_told 106 = .ok (.getfield 219, 3) := by decide +kernel
theorem dX11_told_109 : decode cX11_told 109 = .ok (.ireturn, 1) := by decide +kernel
theorem dX11_told_110 : decode cX11_told 110 = .ok (.aload_n 3, 1) := by decide +kernel
theorem dX11_told_111 : decode cX11_told 111 = .ok (.getfield 222, 3) := by decide +kernel
theorem dX11_told_114 : decode cX11_told 114 = .ok (.ireturn, 1) := by decide +kernel
theorem dX11_told_115 : decode cX11_told 115 = .ok (.aload_n 3, 1) := by decide +kernel
theorem dX11_told_116 : decode cX11_told 116 = .ok (.getfield 225, 3) := by decide +kernel
theorem dX11_told_119 : decode cX11_told 119 = .ok (.ireturn, 1) := by decide +kernel
theorem dX11_told_120 : decode cX11_told 120 = .ok (.aload_n 0, 1) := by decide +kernel
theorem dX11_told_121 : decode cX11_told 121 = .ok (.getfield 30, 3) := by decide +kernel
theorem dX11_told_124 : decode cX11_told 124 = .ok (.getfield 196, 3) := by decide +kernel
theorem dX11_told_127 : decode cX11_told 127 = .ok (.iload_n 1, 1) := by decide +kernel
theorem dX11_told_128 : decode cX11_told 128 = .ok (.aaload, 1) := by decide +kernel
theorem dX11_told_129 : decode cX11_told 129 = .ok (.invokevirtual 228, 3) := by decide +kernel
theorem dX11_told_132 : decode cX11_told 132 = .ok (.ireturn, 1) := by decide +kernel
theorem dX11_told_133 : decode cX11_told 133 = .ok (.iconst (-1), 1) := by decide +kernel
theorem dX11_told_134 : decode cX11_told 134 = .ok (.ireturn, 1) := by decide +kernel
theorem dX11_best_0 : decode cX11_best 0 = .ok (.iload_n 1, 1) := by decide +kernel
theorem dX11_best_1 : decode cX11_best 1 = .ok (.ifCond .lt 14, 3) := by decide +kernel
theorem dX11_best_4 : decode cX11_best 4 = .ok (.iload_n 1, 1) := by decide +kernel
theorem dX11_best_5 : decode cX11_best 5 = .ok (.aload_n 0, 1) := by decide +kernel
theorem dX11_best_6 : decode cX11_best 6 = .ok (.getfield 30, 3) := by decide +kernel
theorem dX11_best_9 : decode cX11_best 9 = .ok (.getfield 134, 3) := by decide +kernel
theorem dX11_best_12 : decode cX11_best 12 = .ok (.if_icmp .lt 7, 3) := by decide +kernel
theorem dX11_best_15 : decode cX11_best 15 = .ok (.ldc2_w 231, 3) := by decide +kernel
theorem dX11_best_18 : decode cX11_best 18 = .ok (.lreturn, 1) := by decide +kernel
theorem dX11_best_19 : decode cX11_best 19 = .ok (.aload_n 0, 1) := by decide +kernel
theorem dX11_best_20 : decode cX11_best 20 = .ok (.getfield 39, 3) := by decide +kernel
theorem dX11_best_23 : decode cX11_best 23 = .ok (.getfield 146, 3) := by decide +kernel
theorem dX11_best_26 : decode cX11_best 26 = .ok (.iload_n 1, 1) := by decide +kernel
theorem dX11_best_27 : decode cX11_best 27 = .ok (.aaload, 1) := by decide +kernel
theorem dX11_best_28 : decode cX11_best 28 = .ok (.astore_n 3, 1) := by decide +kernel
theorem dX11_best_29 : decode cX11_best 29 = .ok (.iload_n 2, 1) := by decide +kernel
theorem dX11_best_30 : decode cX11_best 30 = .ok (.tableswitch 71 0 3 #[30, 50, 56, 61], 30) := by decide +kernel
theorem dX11_best_60 : decode cX11_best 60 = .ok (.aload_n 3, 1) := by decide +kernel
theorem dX11_best_61 : decode cX11_best 61 = .ok (.getfield 233, 3) := by decide +kernel
theorem dX11_best_64 : decode cX11_best 64 = .ok (.bipush (-9), 2) := by decide +kernel
theorem dX11_best_66 : decode cX11_best 66 = .ok (.if_icmp .ne 9, 3) := by decide +kernel
theorem dX11_best_69 : decode cX11_best 69 = .ok (.ldc2_w 109, 3) := by decide +kernel
theorem dX11_best_72 : decode cX11_best 72 = .ok (.goto 7, 3) := by decide +kernel
theorem dX11_best_75 : decode cX11_best 75 = .ok (.aload_n 3, 1) := by decide +kernel
theorem dX11_best_76 : decode cX11_best 76 = .ok (.getfield 236, 3) := by decide +kernel
theorem dX11_best_79 : decode cX11_best 79 = .ok (.lreturn, 1) := by decide +kernel
theorem dX11_best_80 : decode cX11_best 80 = .ok (.aload_n 3, 1) := by decide +kernel
theorem dX11_best_81 : decode cX11_best 81 = .ok (.getfield 233, 3) := by decide +kernel
theorem dX11_best_84 : decode cX11_best 84 = .ok (.i2l, 1) := by decide +kernel
theorem dX11_best_85 : decode cX11_best 85 = .ok (.lreturn, 1) := by decide +kernel
theorem dX11_best_86 : decode cX11_best 86 = .ok (.aload_n 3, 1) := by decide +kernel
theorem dX11_best_87 : decode cX11_best 87 = .ok (.getfield 240, 3) := by decide +kernel
theorem dX11_best_90 : decode cX11_best 90 = .ok (.lreturn, 1) := by decide +kernel
theorem dX11_best_91 : decode cX11_best 91 = .ok (.aload_n 0, 1) := by decide +kernel
theorem dX11_best_92 : decode cX11_best 92 = .ok (.getfield 39, 3) := by decide +kernel
theorem dX11_best_95 : decode cX11_best 95 = .ok (.iload_n 1, 1) := by decide +kernel
theorem dX11_best_96 : decode cX11_best 96 = .ok (.invokevirtual 243, 3) := by decide +kernel
theorem dX11_best_99 : decode cX11_best 99 = .ok (.i2l, 1) := by decide +kernel
theorem dX11_best_100 : decode cX11_best 100 = .ok (.lreturn, 1) := by decide +kernel
theorem dX11_best_101 : decode cX11_best 101 = .ok (.ldc2_w 231, 3) := by decide +kernel
theorem dX11_best_104 : decode cX11_best 104 = .ok (.lreturn, 1) := by decide +kernel
theorem dX11_note_0 : decode cX11_note 0 = .ok (.iload_n 1, 1) := by decide +kernel
theorem dX11_note_1 : decode cX11_note 1 = .ok (.ifCond .lt 26, 3) := by decide +kernel
theorem dX11_note_4 : decode cX11_note 4 = .ok (.iload_n 1, 1) := by decide +kernel
theorem dX11_note_5 : decode cX11_note 5 = .ok (.aload_n 0, 1) := by decide +kernel
theorem dX11_note_6 : decode cX11_note 6 = .ok (.getfield 39, 3) := by decide +kernel
theorem dX11_note_9 : decode cX11_note 9 = .ok (.getfield 246, 3) := by decide +kernel
theorem dX11_note_12 : decode cX11_note 12 = .ok (.if_icmp .ge 15, 3) := by decide +kernel
theorem dX11_note_15 : decode cX11_note 15 = .ok (.aload_n 0, 1) := by decide +kernel
theorem dX11_note_16 : decode cX11_note 16 = .ok (.getfield 39, 3) := by decide +kernel
theorem dX11_note_19 : decode cX11_note 19 = .ok (.getfield 249, 3) := by decide +kernel
theorem dX11_note_22 : decode cX11_note 22 = .ok (.iload_n 1, 1) := by decide +kernel
theorem dX11_note_23 : decode cX11_note 23 = .ok (.iaload, 1) := by decide +kernel
theorem dX11_note_24 : decode cX11_note 24 = .ok (.goto 5, 3) := by decide +kernel
theorem dX11_note_27 : decode cX11_note 27 = .ok (.bipush (-9), 2) := by decide +kernel
theorem dX11_note_29 : decode cX11_note 29 = .ok (.ireturn, 1) := by decide +kernel
theorem dX11_finished_0 : decode cX11_finished 0 = .ok (.aload_n 0, 1) := by decide +kernel
theorem dX11_finished_1 : decode cX11_finished 1 = .ok (.iload_n 1, 1) := by decide +kernel
theorem dX11_finished_2 : decode cX11_finished 2 = .ok (.invokevirtual 160, 3) := by decide +kernel
theorem dX11_finished_5 : decode cX11_finished 5 = .ok (.ifCond .eq 15, 3) := by decide +kernel
theorem dX11_finished_8 : decode cX11_finished 8 = .ok (.aload_n 0, 1) := by decide +kernel
theorem dX11_finished_9 : decode cX11_finished 9 = .ok (.getfield 39, 3) := by decide +kernel
theorem dX11_finished_12 : decode cX11_finished 12 = .ok (.getfield 252, 3) := by decide +kernel
theorem dX11_finished_15 : decode cX11_finished 15 = .ok (.iload_n 1, 1) := by decide +kernel
theorem dX11_finished_16 : decode cX11_finished 16 = .ok (.iaload, 1) := by decide +kernel
theorem dX11_finished_17 : decode cX11_finished 17 = .ok (.goto 4, 3) := by decide +kernel
theorem dX11_finished_20 : decode cX11_finished 20 = .ok (.iconst (-1), 1) := by decide +kernel
theorem dX11_finished_21 : decode cX11_finished 21 = .ok (.ireturn, 1) := by decide +kernel
theorem dX11_count_0 : decode cX11_count 0 = .ok (.iload_n 1, 1) := by decide +kernel
theorem dX11_count_1 : decode cX11_count 1 = .ok (.tableswitch 123 0 8 #[51, 59, 67, 75, 83, 91, 99, 107, 115], 51) := by decide +kernel
theorem dX11_count_52 : decode cX11_count 52 = .ok (.aload_n 0, 1) := by decide +kernel
theorem dX11_count_53 : decode cX11_count 53 = .ok (.getfield 30, 3) := by decide +kernel
theorem dX11_count_56 : decode cX11_count 56 = .ok (.getfield 60, 3) := by decide +kernel
theorem dX11_count_59 : decode cX11_count 59 = .ok (.ireturn, 1) := by decide +kernel
theorem dX11_count_60 : decode cX11_count 60 = .ok (.aload_n 0, 1) := by decide +kernel
theorem dX11_count_61 : decode cX11_count 61 = .ok (.getfield 30, 3) := by decide +kernel
theorem dX11_count_64 : decode cX11_count 64 = .ok (.getfield 182, 3) := by decide +kernel
theorem dX11_count_67 : decode cX11_count 67 = .ok (.ireturn, 1) := by decide +kernel
theorem dX11_count_68 : decode cX11_count 68 = .ok (.aload_n 0, 1) := by decide +kernel
theorem dX11_count_69 : decode cX11_count 69 = .ok (.getfield 30, 3) := by decide +kernel
theorem dX11_count_72 : decode cX11_count 72 = .ok (.getfield 134, 3) := by decide +kernel
theorem dX11_count_75 : decode cX11_count 75 = .ok (.ireturn, 1) := by decide +kernel
theorem dX11_count_76 : decode cX11_count 76 = .ok (.aload_n 0, 1) := by decide +kernel
theorem dX11_count_77 : decode cX11_count 77 = .ok (.getfield 39, 3) := by decide +kernel
theorem dX11_count_80 : decode cX11_count 80 = .ok (.getfield 255, 3) := by decide +kernel
theorem dX11_count_83 : decode cX11_count 83 = .ok (.ireturn, 1) := by decide +kernel
theorem dX11_count_84 : decode cX11_count 84 = .ok (.aload_n 0, 1) := by decide +kernel
theorem dX11_count_85 : decode cX11_count 85 = .ok (.getfield 39, 3) := by decide +kernel
theorem dX11_count_88 : decode cX11_count 88 = .ok (.getfield 256, 3) := by decide +kernel
theorem dX11_count_91 : decode cX11_count 91 = .ok (.ireturn, 1) := by decide +kernel
theorem dX11_count_92 : decode cX11_count 92 = .ok (.aload_n 0, 1) := by decide +kernel
theorem dX11_count_93 : decode cX11_count 93 = .ok (.getfield 39, 3) := by decide +kernel
theorem dX11_count_96 : decode cX11_count 96 = .ok (.getfield 259, 3) := by decide +kernel
theorem dX11_count_99 : decode cX11_count 99 = .ok (.ireturn, 1) := by decide +kernel
theorem dX11_count_100 : decode cX11_count 100 = .ok (.aload_n 0, 1) := by decide +kernel
theorem dX11_count_101 : decode cX11_count 101 = .ok (.getfield 39, 3) := by decide +kernel
theorem dX11_count_104 : decode cX11_count 104 = .ok (.getfield 262, 3) := by decide +kernel
theorem dX11_count_107 : decode cX11_count 107 = .ok (.ireturn, 1) := by decide +kernel
theorem dX11_count_108 : decode cX11_count 108 = .ok (.aload_n 0, 1) := by decide +kernel
theorem dX11_count_109 : decode cX11_count 109 = .ok (.getfield 39, 3) := by decide +kernel
theorem dX11_count_112 : decode cX11_count 112 = .ok (.getfield 246, 3) := by decide +kernel
theorem dX11_count_115 : decode cX11_count 115 = .ok (.ireturn, 1) := by decide +kernel
theorem dX11_count_116 : decode cX11_count 116 = .ok (.aload_n 0, 1) := by decide +kernel
theorem dX11_count_117 : decode cX11_count 117 = .ok (.getfield 39, 3) := by decide +kernel
theorem dX11_count_120 : decode cX11_count 120 = .ok (.getfield 57, 3) := by decide +kernel
theorem dX11_count_123 : decode cX11_count 123 = .ok (.ireturn, 1) := by decide +kernel
theorem dX11_count_124 : decode cX11_count 124 = .ok (.iconst (-1), 1) := by decide +kernel
theorem dX11_count_125 : decode cX11_count 125 = .ok (.ireturn, 1) := by decide +kernel
theorem dX11_equal_0 : decode cX11_equal 0 = .ok (.iload_n 1, 1) := by decide +kernel
theorem dX11_equal_1 : decode cX11_equal 1 = .ok (.iconst 1, 1) := by decide +kernel
theorem dX11_equal_2 : decode cX11_equal 2 = .ok (.if_icmp .lt 9, 3) := by decide +kernel
theorem dX11_equal_5 : decode cX11_equal 5 = .ok (.iload_n 1, 1) := by decide +kernel
theorem dX11_equal_6 : decode cX11_equal 6 = .ok (.bipush 6, 2) := by decide +kernel
theorem dX11_equal_8 : decode cX11_equal 8 = .ok (.if_icmp .le 5, 3) := by decide +kernel
theorem dX11_equal_11 : decode cX11_equal 11 = .ok (.iconst (-1), 1) := by decide +kernel
theorem dX11_equal_12 : decode cX11_equal 12 = .ok (.ireturn, 1) := by decide +kernel
theorem dX11_equal_13 : decode cX11_equal 13 = .ok (.aload_n 0, 1) := by decide +kernel
theorem dX11_equal_14 : decode cX11_equal 14 = .ok (.getfield 43, 3) := by decide +kernel
theorem dX11_equal_17 : decode cX11_equal 17 = .ok (.iconst 1, 1) := by decide +kernel
theorem dX11_equal_18 : decode cX11_equal 18 = .ok (.invokevirtual 49, 3) := by decide +kernel
theorem dX11_equal_21 : decode cX11_equal 21 = .ok (.aload_n 0, 1) := by decide +kernel
theorem dX11_equal_22 : decode cX11_equal 22 = .ok (.getfield 43, 3) := by decide +kernel
theorem dX11_equal_25 : decode cX11_equal 25 = .ok (.ldc_w 265, 3) := by decide +kernel
theorem dX11_equal_28 : decode cX11_equal 28 = .ok (.invokevirtual 170, 3) := by decide +kernel
theorem dX11_equal_31 : decode cX11_equal 31 = .ok (.pop, 1) := by decide +kernel
theorem dX11_equal_32 : decode cX11_equal 32 = .ok (.aload_n 0, 1) := by decide +kernel
theorem dX11_equal_33 : decode cX11_equal 33 = .ok (.getfield 46, 3) := by decide +kernel
theorem dX11_equal_36 : decode cX11_equal 36 = .ok (.iload_n 1, 1) := by decide +kernel
theorem dX11_equal_37 : decode cX11_equal 37 = .ok (.invokevirtual 49, 3) := by decide +kernel
theorem dX11_equal_40 : decode cX11_equal 40 = .ok (.aload_n 0, 1) := by decide +kernel
theorem dX11_equal_41 : decode cX11_equal 41 = .ok (.getfield 46, 3) := by decide +kernel
theorem dX11_equal_44 : decode cX11_equal 44 = .ok (.ldc_w 265, 3) := by decide +kernel
theorem dX11_equal_47 : decode cX11_equal 47 = .ok (.invokevirtual 170, 3) := by decide +kernel
theorem dX11_equal_50 : decode cX11_equal 50 = .ok (.pop, 1) := by decide +kernel
theorem dX11_equal_51 : decode cX11_equal 51 = .ok (.aload_n 0, 1) := by decide +kernel
theorem dX11_equal_52 : decode cX11_equal 52 = .ok (.getfield 46, 3) := by decide +kernel
theorem dX11_equal_55 : decode cX11_equal 55 = .ok (.aload_n 0, 1) := by decide +kernel
theorem dX11_equal_56 : decode cX11_equal 56 = .ok (.getfield 43, 3) := by decide +kernel
theorem dX11_equal_59 : decode cX11_equal 59 = .ok (.invokevirtual 266, 3) := by decide +kernel
theorem dX11_equal_62 : decode cX11_equal 62 = .ok (.ifCond .eq 7, 3) := by decide +kernel
theorem dX11_equal_65 : decode cX11_equal 65 = .ok (.iconst 1, 1) := by decide +kernel
theorem dX11_equal_66 : decode cX11_equal 66 = .ok (.goto 4, 3) := by decide +kernel
theorem dX11_equal_69 : decode cX11_equal 69 = .ok (.iconst 0, 1) := by decide +kernel
theorem dX11_equal_70 : decode cX11_equal 70 = .ok (.ireturn, 1) := by decide +kernel
theorem dX11_refusal_0 : decode cX11_refusal 0 = .ok (.bipush (-10), 2) := by decide +kernel
theorem dX11_refusal_2 : decode cX11_refusal 2 = .ok (.iload_n 0, 1) := by decide +kernel
theorem dX11_refusal_3 : decode cX11_refusal 3 = .ok (.isub, 1) := by decide +kernel
theorem dX11_refusal_4 : decode cX11_refusal 4 = .ok (.ireturn, 1) := by decide +kernel
theorem dX11_isKind_0 : decode cX11_isKind 0 = .ok (.iload_n 0, 1) := by decide +kernel
theorem dX11_isKind_1 : decode cX11_isKind 1 = .ok (.ifCond .lt 12, 3) := by decide +kernel
theorem dX11_isKind_4 : decode cX11_isKind 4 = .ok (.iload_n 0, 1) := by decide +kernel
theorem dX11_isKind_5 : decode cX11_isKind 5 = .ok (.iconst 5, 1) := by decide +kernel
theorem dX11_isKind_6 : decode cX11_isKind 6 = .ok (.if_icmp .gt 7, 3) := by decide +kernel
theorem dX11_isKind_9 : decode cX11_isKind 9 = .ok (.iconst 1, 1) := by decide +kernel
theorem dX11_isKind_10 : decode cX11_isKind 10 = .ok (.goto 4, 3) := by decide +kernel
theorem dX11_isKind_13 : decode cX11_isKind 13 = .ok (.iconst 0, 1) := by decide +kernel
theorem dX11_isKind_14 : decode cX11_isKind 14 = .ok (.ireturn, 1) := by decide +kernel
theorem dX11_isThread_0 : decode cX11_isThread 0 = .ok (.iload_n 1, 1) := by decide +kernel
theorem dX11_isThread_1 : decode cX11_isThread 1 = .ok (.ifCond .lt 15, 3) := by decide +kernel
theorem dX11_isThread_4 : decode cX11_isThread 4 = .ok (.iload_n 1, 1) := by decide +kernel
theorem dX11_isThread_5 : decode cX11_isThread 5 = .ok (.aload_n 0, 1) := by decide +kernel
theorem dX11_isThread_6 : decode cX11_isThread 6 = .ok (.getfield 20, 3) := by decide +kernel
theorem dX11_isThread_9 : decode cX11_isThread 9 = .ok (.if_icmp .ge 7, 3) := by decide +kernel
theorem dX11_isThread_12 : decode cX11_isThread 12 = .ok (.iconst 1, 1) := by decide +kernel
theorem dX11_isThread_13 : decode cX11_isThread 13 = .ok (.goto 4, 3) := by decide +kernel
theorem dX11_isThread_16 : decode cX11_isThread 16 = .ok (.iconst 0, 1) := by decide +kernel
theorem dX11_isThread_17 : decode cX11_isThread 17 = .ok (.ireturn, 1) := by decide +kernel
theorem dX11_isTask_0 : decode cX11_isTask 0 = .ok (.iload_n 1, 1) := by decide +kernel
theorem dX11_isTask_1 : decode cX11_isTask 1 = .ok (.ifCond .lt 18, 3) := by decide +kernel
theorem dX11_isTask_4 : decode cX11_isTask 4 = .ok (.iload_n 1, 1) := by decide +kernel
theorem dX11_isTask_5 : decode cX11_isTask 5 = .ok (.aload_n 0, 1) := by decide +kernel
theorem dX11_isTask_6 : decode cX11_isTask 6 = .ok (.getfield 30, 3) := by decide +kernel
theorem dX11_isTask_9 : decode cX11_isTask 9 = .ok (.getfield 182, 3) := by decide +kernel
theorem dX11_isTask_12 : decode cX11_isTask 12 = .ok (.if_icmp .ge 7, 3) := by decide +kernel
theorem dX11_isTask_15 : decode cX11_isTask 15 = .ok (.iconst 1, 1) := by decide +kernel
theorem dX11_isTask_16 : decode cX11_isTask 16 = .ok (.goto 4, 3) := by decide +kernel
theorem dX11_isTask_19 : decode cX11_isTask 19 = .ok (.iconst 0, 1) := by decide +kernel
theorem dX11_isTask_20 : decode cX11_isTask 20 = .ok (.ireturn, 1) := by decide +kernel
theorem dX11_isLoad_0 : decode cX11_isLoad 0 = .ok (.iload_n 1, 1) := by decide +kernel
theorem dX11_isLoad_1 : decode cX11_isLoad 1 = .ok (.ifCond .lt 27, 3) := by decide +kernel
theorem dX11_isLoad_4 : decode cX11_isLoad 4 = .ok (.iload_n 1, 1) := by decide +kernel
theorem dX11_isLoad_5 : decode cX11_isLoad 5 = .ok (.aload_n 0, 1) := by decide +kernel
theorem dX11_isLoad_6 : decode cX11_isLoad 6 = .ok (.getfield 24, 3) := by decide +kernel
theorem dX11_isLoad_9 : decode cX11_isLoad 9 = .ok (.if_icmp .gt 19, 3) := by decide +kernel
theorem dX11_isLoad_12 : decode cX11_isLoad 12 = .ok (.iload_n 2, 1) := by decide +kernel
theorem dX11_isLoad_13 : decode cX11_isLoad 13 = .ok (.iconst 1, 1) := by decide +kernel
theorem dX11_isLoad_14 : decode cX11_isLoad 14 = .ok (.if_icmp .lt 14, 3) := by decide +kernel
theorem dX11_isLoad_17 : decode cX11_isLoad 17 = .ok (.iload_n 2, 1) := by decide +kernel
theorem dX11_isLoad_18 : decode cX11_isLoad 18 = .ok (.sipush 1000, 3) := by decide +kernel
theorem dX11_isLoad_21 : decode cX11_isLoad 21 = .ok (.if_icmp .gt 7, 3) := by decide +kernel
theorem dX11_isLoad_24 : decode cX11_isLoad 24 = .ok (.iconst 1, 1) := by decide +kernel
theorem dX11_isLoad_25 : decode cX11_isLoad 25 = .ok (.goto 4, 3) := by decide +kernel
theorem dX11_isLoad_28 : decode cX11_isLoad 28 = .ok (.iconst 0, 1) := by decide +kernel
theorem dX11_isLoad_29 : decode cX11_isLoad 29 = .ok (.ireturn, 1) := by decide +kernel
theorem dX11_refusalOfTask_0 : decode cX11_refusalOfTask 0 = .ok (.aload_n 0, 1) := by decide +kernel
theorem dX11_refusalOfTask_1 : decode cX11_refusalOfTask 1 = .ok (.getfield 39, 3) := by decide +kernel
theorem dX11_refusalOfTask_4 : decode cX11_refusalOfTask 4 = .ok (.getfield 57, 3) := by decide +kernel
theorem dX11_refusalOfTask_7 : decode cX11_refusalOfTask 7 = .ok (.iconst 1, 1) := by decide +kernel
theorem dX11_refusalOfTask_8 : decode cX11_refusalOfTask 8 = .ok (.if_icmp .ne 6, 3) := by decide +kernel
theorem dX11_refusalOfTask_11 : decode cX11_refusalOfTask 11 = .ok (.bipush (-2), 2) := by decide +kernel
theorem dX11_refusalOfTask_13 : decode cX11_refusalOfTask 13 = .ok (.ireturn, 1) := by decide +kernel
theorem dX11_refusalOfTask_14 : decode cX11_refusalOfTask 14 = .ok (.aload_n 0, 1) := by decide +kernel
theorem dX11_refusalOfTask_15 : decode cX11_refusalOfTask 15 = .ok (.getfield 30, 3) := by decide +kernel
theorem dX11_refusalOfTask_18 : decode cX11_refusalOfTask 18 = .ok (.getfield 182, 3) := by decide +kernel
theorem dX11_refusalOfTask_21 : decode cX11_refusalOfTask 21 = .ok (.bipush 20, 2) := by decide +kernel
theorem dX11_refusalOfTask_23 : decode cX11_refusalOfTask 23 = .ok (.if_icmp .lt 8, 3) := by decide +kernel
theorem dX11_refusalOfTask_26 : decode cX11_refusalOfTask 26 = .ok (.bipush (-3), 2) := by decide +kernel
theorem dX11_refusalOfTask_28 : decode cX11_refusalOfTask 28 = .ok (.goto 4, 3) := by decide +kernel
theorem dX11_refusalOfTask_31 : decode cX11_refusalOfTask 31 = .ok (.iconst 0, 1) := by decide +kernel
theorem dX11_refusalOfTask_32 : decode cX11_refusalOfTask 32 = .ok (.ireturn, 1) := by decide +kernel
theorem dX11_newLine_0 : decode cX11_newLine 0 = .ok (.iload_n 1, 1) := by decide +kernel
theorem dX11_newLine_1 : decode cX11_newLine 1 = .ok (.ifCond .lt 21, 3) := by decide +kernel
theorem dX11_newLine_4 : decode cX11_newLine 4 = .ok (.iload_n 1, 1) := by decide +kernel
theorem dX11_newLine_5 : decode cX11_newLine 5 = .ok (.bipush 12, 2) := by decide +kernel
theorem dX11_newLine_7 : decode cX11_newLine 7 = .ok (.if_icmp .gt 15, 3) := by decide +kernel
theorem dX11_newLine_10 : decode cX11_newLine 10 = .ok (.new 98, 3) := by decide +kernel
theorem dX11_newLine_13 : decode cX11_newLine 13 = .ok (.dup, 1) := by decide +kernel
theorem dX11_newLine_14 : decode cX11_newLine 14 = .ok (.iload_n 0, 1) := by decide +kernel
theorem dX11_newLine_15 : decode cX11_newLine 15 = .ok (.iload_n 1, 1) := by decide +kernel
theorem dX11_newLine_16 : decode cX11_newLine 16 = .ok (.invokespecial 270, 3) := by decide +kernel
theorem dX11_newLine_19 : decode cX11_newLine 19 = .ok (.goto 4, 3) := by decide +kernel
theorem dX11_newLine_22 : decode cX11_newLine 22 = .ok (.aconst_null, 1) := by decide +kernel
theorem dX11_newLine_23 : decode cX11_newLine 23 = .ok (.areturn, 1) := by decide +kernel
theorem dX11_numberOf_0 : decode cX11_numberOf 0 = .ok (.iload_n 0, 1) := by decide +kernel
theorem dX11_numberOf_1 : decode cX11_numberOf 1 = .ok (.tableswitch 77 0 5 #[39, 44, 49, 77, 53, 65], 39) := by decide +kernel
theorem dX11_numberOf_40 : decode cX11_numberOf 40 = .ok (.lload_n 1, 1) := by decide +kernel
theorem dX11_numberOf_41 : decode cX11_numberOf 41 = .ok (.l2i, 1) := by decide +kernel
theorem dX11_numberOf_42 : decode cX11_numberOf 42 = .ok (.i2b, 1) := by decide +kernel
theorem dX11_numberOf_43 : decode cX11_numberOf 43 = .ok (.i2l, 1) := by decide +kernel
theorem dX11_numberOf_44 : decode cX11_numberOf 44 = .ok (.lreturn, 1) := by decide +kernel
theorem dX11_numberOf_45 : decode cX11_numberOf 45 = .ok (.lload_n 1, 1) := by decide +kernel
theorem dX11_numberOf_46 : decode cX11_numberOf 46 = .ok (.l2i, 1) := by decide +kernel
theorem dX11_numberOf_47 : decode cX11_numberOf 47 = .ok (.i2s, 1) := by decide +kernel
theorem dX11_numberOf_48 : decode cX11_numberOf 48 = .ok (.i2l, 1) := by decide +kernel
theorem dX11_numberOf_49 : decode cX11_numberOf 49 = .ok (.lreturn, 1) := by decide +kernel
theorem dX11_numberOf_50 : decode cX11_numberOf 50 = .ok (.lload_n 1, 1) := by decide +kernel
theorem dX11_numberOf_51 : decode cX11_numberOf 51 = .ok (.l2i, 1) := by decide +kernel
theorem dX11_numberOf_52 : decode cX11_numberOf 52 = .ok (.i2l, 1) := by decide +kernel
theorem dX11_numberOf_53 : decode cX11_numberOf 53 = .ok (.lreturn, 1) := by decide +kernel
theorem dX11_numberOf_54 : decode cX11_numberOf 54 = .ok (.ldc_w 271, 3) := by decide +kernel
theorem dX11_numberOf_57 : decode cX11_numberOf 57 = .ok (.lload_n 1, 1) := by decide +kernel
theorem dX11_numberOf_58 : decode cX11_numberOf 58 = .ok (.l2f, 1) := by decide +kernel
theorem dX11_numberOf_59 : decode cX11_numberOf 59 = .ok (.ldc_w 271, 3) := by decide +kernel
theorem dX11_numberOf_62 : decode cX11_numberOf 62 = .ok (.fdiv, 1) := by decide +kernel
theorem dX11_numberOf_63 : decode cX11_numberOf 63 = .ok (.fmul, 1) := by decide +kernel
theorem dX11_numberOf_64 : decode cX11_numberOf 64 = .ok (.f2l, 1) := by decide +kernel
theorem dX11_numberOf_65 : decode cX11_numberOf 65 = .ok (.lreturn, 1) := by decide +kernel
theorem dX11_numberOf_66 : decode cX11_numberOf 66 = .ok (.ldc2_w 272, 3) := by decide +kernel
theorem dX11_numberOf_69 : decode cX11_numberOf 69 = .ok (.lload_n 1, 1) := by decide +kernel
theorem dX11_numberOf_70 : decode cX11_numberOf 70 = .ok (.l2d, 1) := by decide +kernel
theorem dX11_numberOf_71 : decode cX11_numberOf 71 = .ok (.ldc2_w 272, 3) := by decide +kernel
theorem dX11_numberOf_74 : decode cX11_numberOf 74 = .ok (.ddiv, 1) := by decide +kernel
theorem dX11_numberOf_75 : decode cX11_numberOf 75 = .ok (.dmul, 1) := by decide +kernel
theorem dX11_numberOf_76 : decode cX11_numberOf 76 = .ok (.d2l, 1) := by decide +kernel
theorem dX11_numberOf_77 : decode cX11_numberOf 77 = .ok (.lreturn, 1) := by decide +kernel
theorem dX11_numberOf_78 : decode cX11_numberOf 78 = .ok (.lload_n 1, 1) := by decide +kernel
theorem dX11_numberOf_79 : decode cX11_numberOf 79 = .ok (.lreturn, 1) := by decide +kernel
theorem dX12_init_0 : decode cX12_init 0 = .ok (.aload_n 0, 1) := by decide +kernel
theorem dX12_init_1 : decode cX12_init 1 = .ok (.invokespecial 1, 3) := by decide +kernel
theorem dX12_init_4 : decode cX12_init 4 = .ok (.aload_n 0, 1) := by decide +kernel
theorem dX12_init_5 : decode cX12_init 5 = .ok (.bipush 6, 2) := by decide +kernel
theorem dX12_init_7 : decode cX12_init 7 = .ok (.newarray .int, 2) := by decide +kernel
theorem dX12_init_9 : decode cX12_init 9 = .ok (.putfield 7, 3) := by decide +kernel
theorem dX12_init_12 : decode cX12_init 12 = .ok (.aload_n 0, 1) := by decide +kernel
theorem dX12_init_13 : decode cX12_init 13 = .ok (.bipush 6, 2) := by decide +kernel
theorem dX12_init_15 : decode cX12_init 15 = .ok (.newarray .int, 2) := by decide +kernel
theorem dX12_init_17 : decode cX12_init 17 = .ok (.putfield 13, 3) := by decide +kernel
theorem dX12_init_20 : decode cX12_init 20 = .ok (.aload_n 0, 1) := by decide +kernel
theorem dX12_init_21 : decode cX12_init 21 = .ok (.bipush 120, 2) := by decide +kernel
theorem dX12_init_23 : decode cX12_init 23 = .ok (.newarray .int, 2) := by decide +kernel
theorem dX12_init_25 : decode cX12_init 25 = .ok (.putfield 16, 3) := by decide +kernel
theorem dX12_init_28 : decode cX12_init 28 = .ok (.aload_n 0, 1) := by decide +kernel
theorem dX12_init_29 : decode cX12_init 29 = .ok (.sipush 600, 3) := by decide +kernel
theorem dX12_init_32 : decode cX12_init 32 = .ok (.newarray .int, 2) := by decide +kernel
theorem dX12_init_34 : decode cX12_init 34 = .ok (.putfield 19, 3) := by decide +kernel
theorem dX12_init_37 : decode cX12_init 37 = .ok (.aload_n 0, 1) := by decide +kernel
theorem dX12_init_38 : decode cX12_init 38 = .ok (.sipush 7200, 3) := by decide +kernel
theorem dX12_init_41 : decode cX12_init 41 = .ok (.newarray .long, 2) := by decide +kernel
theorem dX12_init_43 : decode cX12_init 43 = .ok (.putfield 22, 3) := by decide +kernel
theorem dX12_init_46 : decode cX12_init 46 = .ok (.aload_n 0, 1) := by decide +kernel
theorem dX12_init_47 : decode cX12_init 47 = .ok (.bipush 20, 2) := by decide +kernel
theorem dX12_init_49 : decode cX12_init 49 = .ok (.newarray .int, 2) := by decide +kernel
theorem dX12_init_51 : decode cX12_init 51 = .ok (.putfield 26, 3) := by decide +kernel
theorem dX12_init_54 : decode cX12_init 54 = .ok (.aload_n 0, 1) := by decide +kernel
theorem dX12_init_55 : decode cX12_init 55 = .ok (.bipush 20, 2) := by decide +kernel
theorem dX12_init_57 : decode cX12_init 57 = .ok (.newarray .int, 2) := by decide +kernel
theorem dX12_init_59 : decode cX12_init 59 = .ok (.putfield 29, 3) := by decide +kernel
theorem dX12_init_62 : decode cX12_init 62 = .ok (.aload_n 0, 1) := by decide +kernel
theorem dX12_init_63 : decode cX12_init 63 = .ok (.bipush 20, 2) := by decide +kernel
theorem dX12_init_65 : decode cX12_init 65 = .ok (.newarray .long, 2) := by decide +kernel
theorem dX12_init_67 : decode cX12_init 67 = .ok (.putfield 32, 3) := by decide +kernel
theorem dX12_init_70 : decode cX12_init 70 = .ok (.aload_n 0, 1) := by decide +kernel
theorem dX12_init_71 : decode cX12_init 71 = .ok (.bipush 20, 2) := by decide +kernel
theorem dX12_init_73 : decode cX12_init 73 = .ok (.newarray .int, 2) := by decide +kernel
theorem dX12_init_75 : decode cX12_init 75 = .ok (.putfield 35, 3) := by decide +kernel
theorem dX12_init_78 : decode cX12_init 78 = .ok (.aload_n 0, 1) := by decide +kernel
theorem dX12_init_79 : decode cX12_init 79 = .ok (.bipush 20, 2) := by decide +kernel
theorem dX12_init_81 : decode cX12_init 81 = .ok (.newarray .int, 2) := by decide +kernel
theorem dX12_init_83 : decode cX12_init 83 = .ok (.putfield 38, 3) := by decide +kernel
theorem dX12_init_86 : decode cX12_init 86 = .ok (.aload_n 0, 1) := by decide +kernel
theorem dX12_init_87 : decode cX12_init 87 = .ok (.bipush 20, 2) := by decide +kernel
theorem dX12_init_89 : decode cX12_init 89 = .ok (.newarray .int, 2) := by decide +kernel
theorem dX12_init_91 : decode cX12_init 91 = .ok (.putfield 41, 3) := by decide +kernel
theorem dX12_init_94 : decode cX12_init 94 = .ok (.aload_n 0, 1) := by decide +kernel
theorem dX12_init_95 : decode cX12_init 95 = .ok (.bipush 20, 2) := by decide +kernel
theorem dX12_init_97 : decode cX12_init 97 = .ok (.newarray .int, 2) := by decide +kernel
theorem dX12_init_99 : decode cX12_init 99 = .ok (.putfield 44, 3) := by decide +kernel
theorem dX12_init_102 : decode cX12_init 102 = .ok (.aload_n 0, 1) := by decide +kernel
theorem dX12_init_103 : decode cX12_init 103 = .ok (.bipush 20, 2) := by decide +kernel
theorem dX12_init_105 : decode cX12_init 105 = .ok (.newarray .int, 2) := by decide +kernel
theorem dX12_init_107 : decode cX12_init 107 = .ok (.putfield 47, 3) := by decide +kernel
theorem dX12_init_110 : decode cX12_init 110 = .ok (.aload_n 0, 1) := by decide +kernel
theorem dX12_init_111 : decode cX12_init 111 = .ok (.bipush 20, 2) := by decide +kernel
theorem dX12_init_113 : decode cX12_init 113 = .ok (.newarray .int, 2) := by decide +kernel
theorem dX12_init_115 : decode cX12_init 115 = .ok (.putfield 50, 3) := by decide +kernel
theorem dX12_init_118 : decode cX12_init 118 = .ok (.aload_n 0, 1) := by decide +kernel
theorem dX12_init_119 : decode cX12_init 119 = .ok (.bipush 8, 2) := by decide +kernel
theorem dX12_init_121 : decode cX12_init 121 = .ok (.newarray .int, 2) := by decide +kernel
theorem dX12_init_123 : decode cX12_init 123 = .ok (.putfield 53, 3) := by decide +kernel
theorem dX12_init_126 : decode cX12_init 126 = .ok (.aload_n 0, 1) := by decide +kernel
theorem dX12_init_127 : decode cX12_init 127 = .ok (.bipush 8, 2) := by decide +kernel
theorem dX12_init_129 : decode cX12_init 129 = .ok (.newarray .int, 2) := by decide +kernel
theorem dX12_init_131 : decode cX12_init 131 = .ok (.putfield 56, 3) := by decide +kernel
theorem dX12_init_134 : decode cX12_init 134 = .ok (.aload_n 0, 1) := by decide +kernel
theorem dX12_init_135 : decode cX12_init 135 = .ok (.bipush 8, 2) := by decide +kernel
theorem dX12_init_137 : decode cX12_init 137 = .ok (.newarray .int, 2) := by decide +kernel
theorem dX12_init_139 : decode cX12_init 139 = .ok (.putfield 59, 3) := by decide +kernel
theorem dX12_init_142 : decode cX12_init 142 = .ok (.aload_n 0, 1) := by decide +kernel
theorem dX12_init_143 : decode cX12_init 143 = .ok (.bipush 8, 2) := by decide +kernel
theorem dX12_init_145 : decode cX12_init 145 = .ok (.newarray .long, 2) := by decide +kernel
theorem dX12_init_147 : decode cX12_init 147 = .ok (.putfield 62, 3) := by decide +kernel
theorem dX12_init_150 : decode cX12_init 150 = .ok (.aload_n 0, 1) := by decide +kernel
theorem dX12_init_151 : decode cX12_init 151 = .ok (.sipush 400, 3) := by decide +kernel
theorem dX12_init_154 : decode cX12_init 154 = .ok (.newarray .int, 2) := by decide +kernel
theorem dX12_init_156 : decode cX12_init 156 = .ok (.putfield 65, 3) := by decide +kernel
theorem dX12_init_159 : decode cX12_init 159 = .ok (.aload_n 0, 1) := by decide +kernel
theorem dX12_init_160 : decode cX12_init 160 = .ok (.sipush 310, 3) := by decide +kernel
theorem dX12_init_163 : decode cX12_init 163 = .ok (.newarray .int, 2) := by decide +kernel
theorem dX12_init_165 : decode cX12_init 165 = .ok (.putfield 68, 3) := by decide +kernel
theorem dX12_init_168 : decode cX12_init 168 = .ok (.aload_n 0, 1) := by decide +kernel
theorem dX12_init_169 : decode cX12_init 169 = .ok (.sipush 310, 3) := by decide +kernel
theorem dX12_init_172 : decode cX12_init 172 = .ok (.newarray .int, 2) := by decide +kernel
theorem dX12_init_174 : decode cX12_init 174 = .ok (.putfield 71, 3) := by decide +kernel
theorem dX12_init_177 : decode cX12_init 177 = .ok (.aload_n 0, 1) := by decide +kernel
theorem dX12_init_178 : decode cX12_init 178 = .ok (.bipush 36, 2) := by decide +kernel
theorem dX12_init_180 : decode cX12_init 180 = .ok (.newarray .long, 2) := by decide +kernel
theorem dX12_init_182 : decode cX12_init 182 = .ok (.putfield 74, 3) := by decide +kernel
theorem dX12_init_185 : decode cX12_init 185 = .ok (.aload_n 0, 1) := by decide +kernel
theorem dX12_init_186 : decode cX12_init 186 = .ok (.bipush 36, 2) := by decide +kernel
theorem dX12_init_188 : decode cX12_init 188 = .ok (.newarray .long, 2) := by decide +kernel
theorem dX12_init_190 : decode cX12_init 190 = .ok (.putfield 77, 3) := by decide +kernel
theorem dX12_init_193 : decode cX12_init 193 = .ok (.aload_n 0, 1) := by decide +kernel
theorem dX12_init_194 : decode cX12_init 194 = .ok (.sipush 310, 3) := by decide +kernel
theorem dX12_init_197 : decode cX12_init 197 = .ok (.newarray .int, 2) := by decide +kernel
theorem dX12_init_199 : decode cX12_init 199 = .ok (.putfield 80, 3) := by decide +kernel
theorem dX12_init_202 : decode cX12_init 202 = .ok (.aload_n 0, 1) := by decide +kernel
theorem dX12_init_203 : decode cX12_init 203 = .ok (.bipush 36, 2) := by decide +kernel
theorem dX12_init_205 : decode cX12_init 205 = .ok (.newarray .long, 2) := by decide +kernel
theorem dX12_init_207 : decode cX12_init 207 = .ok (.putfield 83, 3) := by decide +kernel
theorem dX12_init_210 : decode cX12_init 210 = .ok (.aload_n 0, 1) := by decide +kernel
theorem dX12_init_211 : decode cX12_init 211 = .ok (.iload_n 1, 1) := by decide +kernel
theorem dX12_init_212 : decode cX12_init 212 = .ok (.iconst 1, 1) := by decide +kernel
theorem dX12_init_213 : decode cX12_init 213 = .ok (.if_icmp .ge 7, 3) := by decide +kernel
theorem dX12_init_216 : decode cX12_init 216 = .ok (.iconst 1, 1) := by decide +kernel
theorem dX12_init_217 : decode cX12_init 217 = .ok (.goto 15, 3) := by decide +kernel
theorem dX12_init_220 : decode cX12_init 220 = .ok (.iload_n 1, 1) := by decide +kernel
theorem dX12_init_221 : decode cX12_init 221 = .ok (.bipush 6, 2) := by decide +kernel
theorem dX12_init_223 : decode cX12_init 223 = .ok (.if_icmp .le 8, 3) := by decide +kernel
theorem dX12_init_226 : decode cX12_init 226 = .ok (.bipush 6, 2) := by decide +kernel
theorem dX12_init_228 : decode cX12_init 228 = .ok (.goto 4, 3) := by decide +kernel
theorem dX12_init_231 : decode cX12_init 231 = .ok (.iload_n 1, 1) := by decide +kernel
theorem dX12_init_232 : decode cX12_init 232 = .ok (.putfield 86, 3) := by decide +kernel
theorem dX12_init_235 : decode cX12_init 235 = .ok (.aload_n 0, 1) := by decide +kernel
theorem dX12_init_236 : decode cX12_init 236 = .ok (.iload_n 2, 1) := by decide +kernel
theorem dX12_init_237 : decode cX12_init 237 = .ok (.ifCond .ge 7, 3) := by decide +kernel
theorem dX12_init_240 : decode cX12_init 240 = .ok (.iconst 0, 1) := by decide +kernel
theorem dX12_init_241 : decode cX12_init 241 = .ok (.goto 17, 3) := by decide +kernel
theorem dX12_init_244 : decode cX12_init 244 = .ok (.iload_n 2, 1) := by decide +kernel
theorem dX12_init_245 : decode cX12_init 245 = .ok (.sipush 1000, 3) := by decide +kernel
theorem dX12_init_248 : decode cX12_init 248 = .ok (.if_icmp .le 9, 3) := by decide +kernel
theorem dX12_init_251 : decode cX12_init 251 = .ok (.sipush 1000, 3) := by decide +kernel
theorem dX12_init_254 : decode cX12_init 254 = .ok (.goto 4, 3) := by decide +kernel
theorem dX12_init_257 : decode cX12_init 257 = .ok (.iload_n 2, 1) := by decide +kernel
theorem dX12_init_258 : decode cX12_init 258 = .ok (.putfield 90, 3) := by decide +kernel
theorem dX12_init_261 : decode cX12_init 261 = .ok (.aload_n 0, 1) := by decide +kernel
theorem dX12_init_262 : decode cX12_init 262 = .ok (.invokevirtual 93, 3) := by decide +kernel
theorem dX12_init_265 : decode cX12_init 265 = .ok (.return_, 1) := by decide +kernel
theorem dX12_in_0 : decode cX12_in 0 = .ok (.iload_n 0, 1) := by decide +kernel
theorem dX12_in_1 : decode cX12_in 1 = .ok (.iload_n 1, 1) := by decide +kernel
theorem dX12_in_2 : decode cX12_in 2 = .ok (.if_icmp .lt 12, 3) := by decide +kernel
theorem dX12_in_5 : decode cX12_in 5 = .ok (.iload_n 0, 1) := by decide +kernel
theorem dX12_in_6 : decode cX12_in 6 = .ok (.iload_n 2, 1) := by decide +kernel
theorem dX12_in_7 : decode cX12_in 7 = .ok (.if_icmp .gt 7, 3) := by decide +kernel
theorem dX12_in_10 : decode cX12_in 10 = .ok (.iconst 1, 1) := by decide +kernel
theorem dX12_in_11 : decode cX12_in 11 = .ok (.goto 4, 3) := by decide +kernel
theorem dX12_in_14 : decode cX12_in 14 = .ok (.iconst 0, 1) := by decide +kernel
theorem dX12_in_15 : decode cX12_in 15 = .ok (.ireturn, 1) := by decide +kernel
theorem dX12_begins_0 : decode cX12_begins 0 = .ok (.iconst 0, 1) := by decide +kernel
theorem dX12_begins_1 : decode cX12_begins 1 = .ok (.istore_n 1, 1) := by decide +kernel
theorem dX12_begins_2 : decode cX12_begins 2 = .ok (.iload_n 1, 1) := by decide +kernel
theorem dX12_begins_3 : decode cX12_begins 3 = .ok (.sipush 310, 3) := by decide +kernel
theorem dX12_begins_6 : decode cX12_begins 6 = .ok (.if_icmp .ge 16, 3) := by decide +kernel
theorem dX12_begins_9 : decode cX12_begins 9 = .ok (.aload_n 0, 1) := by decide +kernel
theorem dX12_begins_10 : decode cX12_begins 10 = .ok (.getfield 68, 3) := by decide +kernel
theorem dX12_begins_13 : decode cX12_begins 13 = .ok (.iload_n 1, 1) := by decide +kernel
theorem dX12_begins_14 : decode cX12_begins 14 = .ok (.iconst 0, 1) := by decide +kernel
theorem dX12_begins_15 : decode cX12_begins 15 = .ok (.iastore, 1) := by decide +kernel
theorem dX12_begins_16 : decode cX12_begins 16 = .ok (.iinc 1 1, 3) := by decide +kernel
theorem dX12_begins_19 : decode cX12_begins 19 = .ok (.goto (-17), 3) := by decide +kernel
theorem dX12_begins_22 : decode cX12_begins 22 = .ok (.iconst 0, 1) := by decide +kernel
theorem dX12_begins_23 : decode cX12_begins 23 = .ok (.istore_n 1, 1) := by decide +kernel
theorem dX12_begins_24 : decode cX12_begins 24 = .ok (.iload_n 1, 1) := by decide +kernel
theorem dX12_begins_25 : decode cX12_begins 25 = .ok (.bipush 20, 2) := by decide +kernel
theorem dX12_begins_27 : decode cX12_begins 27 = .ok (.if_icmp .ge 29, 3) := by decide +kernel
theorem dX12_begins_30 : decode cX12_begins 30 = .ok (.aload_n 0, 1) := by decide +kernel
theorem dX12_begins_31 : decode cX12_begins 31 = .ok (.getfield 68, 3) := by decide +kernel
theorem dX12_begins_34 : decode cX12_begins 34 = .ok (.bipush 12, 2) := by decide +kernel
theorem dX12_begins_36 : decode cX12_begins 36 = .ok (.iload_n 1, 1) := by decide +kernel
theorem dX12_begins_37 : decode cX12_begins 37 = .ok (.imul, 1) := by decide +kernel
theorem dX12_begins_38 : decode cX12_begins 38 = .ok (.iconst 5, 1) := by decide +kernel
theorem dX12_begins_39 : decode cX12_begins 39 = .ok (.iadd, 1) := by decide +kernel
theorem dX12_begins_40 : decode cX12_begins 40 = .ok (.bipush (-9), 2) := by decide +kernel
theorem dX12_begins_42 : decode cX12_begins 42 = .ok (.iastore, 1) := by decide +kernel
theorem dX12_begins_43 : decode cX12_begins 43 = .ok (.aload_n 0, 1) := by decide +kernel
theorem dX12_begins_44 : decode cX12_begins 44 = .ok (.getfield 74, 3) := by decide +kernel
theorem dX12_begins_47 : decode cX12_begins 47 = .ok (.iload_n 1, 1) := by decide +kernel
theorem dX12_begins_48 : decode cX12_begins 48 = .ok (.lconst 0, 1) := by decide +kernel
theorem dX12_begins_49 : decode cX12_begins 49 = .ok (.lastore, 1) := by decide +kernel
theorem dX12_begins_50 : decode cX12_begins 50 = .ok (.iinc 1 1, 3) := by decide +kernel
theorem dX12_begins_53 : decode cX12_begins 53 = .ok (.goto (-29), 3) := by decide +kernel
theorem dX12_begins_56 : decode cX12_begins 56 = .ok (.iconst 0, 1) := by decide +kernel
theorem dX12_begins_57 : decode cX12_begins 57 = .ok (.istore_n 1, 1) := by decide +kernel
theorem dX12_begins_58 : decode cX12_begins 58 = .ok (.iload_n 1, 1) := by decide +kernel
theorem dX12_begins_59 : decode cX12_begins 59 = .ok (.bipush 6, 2) := by decide +kernel
theorem dX12_begins_61 : decode cX12_begins 61 = .ok (.if_icmp .ge 21, 3) := by decide +kernel
theorem dX12_begins_64 : decode cX12_begins 64 = .ok (.aload_n 0, 1) := by decide +kernel
theorem dX12_begins_65 : decode cX12_begins 65 = .ok (.getfield 68, 3) := by decide +kernel
theorem dX12_begins_68 : decode cX12_begins 68 = .ok (.sipush 250, 3) := by decide +kernel
theorem dX12_begins_71 : decode cX12_begins 71 = .ok (.iload_n 1, 1) := by decide +kernel
theorem dX12_begins_72 : decode cX12_begins 72 = .ok (.iadd, 1) := by decide +kernel
theorem dX12_begins_73 : decode cX12_begins 73 = .ok (.bipush (-9), 2) := by decide +kernel
theorem dX12_begins_75 : decode cX12_begins 75 = .ok (.iastore, 1) := by decide +kernel
theorem dX12_begins_76 : decode cX12_begins 76 = .ok (.iinc 1 1, 3) := by decide +kernel
theorem dX12_begins_79 : decode cX12_begins 79 = .ok (.goto (-21), 3) := by decide +kernel
theorem dX12_begins_82 : decode cX12_begins 82 = .ok (.iconst 0, 1) := by decide +kernel
theorem dX12_begins_83 : decode cX12_begins 83 = .ok (.istore_n 1, 1) := by decide +kernel
theorem dX12_begins_84 : decode cX12_begins 84 = .ok (.iload_n 1, 1) := by decide +kernel
theorem dX12_begins_85 : decode cX12_begins 85 = .ok (.bipush 8, 2) := by decide +kernel
theorem dX12_begins_87 : decode cX12_begins 87 = .ok (.if_icmp .ge 48, 3) := by decide +kernel
theorem dX12_begins_90 : decode cX12_begins 90 = .ok (.aload_n 0, 1) := by decide +kernel
theorem dX12_begins_91 : decode cX12_begins 91 = .ok (.getfield 68, 3) := by decide +kernel
theorem dX12_begins_94 : decode cX12_begins 94 = .ok (.sipush 302, 3) := by decide +kernel
theorem dX12_begins_97 : decode cX12_begins 97 = .ok (.iload_n 1, 1) := by decide +kernel
theorem dX12_begins_98 : decode cX12_begins 98 = .ok (.iadd, 1) := by decide +kernel
theorem dX12_begins_99 : decode cX12_begins 99 = .ok (.bipush (-9), 2) := by decide +kernel
theorem dX12_begins_101 : decode cX12_begins 101 = .ok (.iastore, 1) := by decide +kernel
theorem dX12_begins_102 : decode cX12_begins 102 = .ok (.aload_n 0, 1) := by decide +kernel
theorem dX12_begins_103 : decode cX12_begins 103 = .ok (.getfield 74, 3) := by decide +kernel
theorem dX12_begins_106 : decode cX12_begins 106 = .ok (.bipush 20, 2) := by decide +kernel
theorem dX12_begins_108 : decode cX12_begins 108 = .ok (.iload_n 1, 1) := by decide +kernel
theorem dX12_begins_109 : decode cX12_begins 109 = .ok (.iadd, 1) := by decide +kernel
theorem dX12_begins_110 : decode cX12_begins 110 = .ok (.ldc2_w 99, 3) := by decide +kernel
theorem dX12_begins_113 : decode cX12_begins 113 = .ok (.lastore, 1) := by decide +kernel
theorem dX12_begins_114 : decode cX12_begins 114 = .ok (.aload_n 0, 1) := by decide +kernel
theorem dX12_begins_115 : decode cX12_begins 115 = .ok (.getfield 74, 3) := by decide +kernel
theorem dX12_begins_118 : decode cX12_begins 118 = .ok (.bipush 28, 2) := by decide +kernel
theorem dX12_begins_120 : decode cX12_begins 120 = .ok (.iload_n 1, 1) := by decide +kernel
theorem dX12_begins_121 : decode cX12_begins 121 = .ok (.iadd, 1) := by decide +kernel
theorem dX12_begins_122 : decode cX12_begins 122 = .ok (.aload_n 0, 1) := by decide +kernel
theorem dX12_begins_123 : decode cX12_begins 123 = .ok (.getfield 62, 3) := by decide +kernel
theorem dX12_begins_126 : decode cX12_begins 126 = .ok (.iload_n 1, 1) := by decide +kernel
theorem dX12_begins_127 : decode cX12_begins 127 = .ok (.laload, 1) := by decide +kernel
theorem dX12_begins_128 : decode cX12_begins 128 = .ok (.lastore, 1) := by decide +kernel
theorem dX12_begins_129 : decode cX12_begins 129 = .ok (.iinc 1 1, 3) := by decide +kernel
theorem dX12_begins_132 : decode cX12_begins 132 = .ok (.goto (-48), 3) := by decide +kernel
theorem dX12_begins_135 : decode cX12_begins 135 = .ok (.aload_n 0, 1) := by decide +kernel
theorem dX12_begins_136 : decode cX12_begins 136 = .ok (.getfield 68, 3) := by decide +kernel
theorem dX12_begins_139 : decode cX12_begins 139 = .ok (.sipush 242, 3) := by decide +kernel
theorem dX12_begins_142 : decode cX12_begins 142 = .ok (.aload_n 0, 1) := by decide +kernel
theorem dX12_begins_143 : decode cX12_begins 143 = .ok (.getfield 90, 3) := by decide +kernel
theorem dX12_begins_146 : decode cX12_begins 146 = .ok (.iastore, 1) := by decide +kernel
theorem dX12_begins_147 : decode cX12_begins 147 = .ok (.aload_n 0, 1) := by decide +kernel
theorem dX12_begins_148 : decode cX12_begins 148 = .ok (.getfield 68, 3) := by decide +kernel
theorem dX12_begins_151 : decode cX12_begins 151 = .ok (.sipush 245, 3) := by decide +kernel
theorem dX12_begins_154 : decode cX12_begins 154 = .ok (.bipush (-9), 2) := by decide +kernel
theorem dX12_begins_156 : decode cX12_begins 156 = .ok (.iastore, 1) := by decide +kernel
theorem dX12_begins_157 : decode cX12_begins 157 = .ok (.aload_n 0, 1) := by decide +kernel
theorem dX12_begins_158 : decode cX12_begins 158 = .ok (.getfield 68, 3) := by decide +kernel
theorem dX12_begins_161 : decode cX12_begins 161 = .ok (.sipush 247, 3) := by decide +kernel
theorem dX12_begins_164 : decode cX12_begins 164 = .ok (.aload_n 0, 1) := by decide +kernel
theorem dX12_begins_165 : decode cX12_begins 165 = .ok (.getfield 101, 3) := by decide +kernel
theorem dX12_begins_168 : decode cX12_begins 168 = .ok (.iastore, 1) := by decide +kernel
theorem dX12_begins_169 : decode cX12_begins 169 = .ok (.aload_n 0, 1) := by decide +kernel
theorem dX12_begins_170 : decode cX12_begins 170 = .ok (.getfield 68, 3) := by decide +kernel
theorem dX12_begins_173 : decode cX12_begins 173 = .ok (.sipush 248, 3) := by decide +kernel
theorem dX12_begins_176 : decode cX12_begins 176 = .ok (.aload_n 0, 1) := by decide +kernel
theorem dX12_begins_177 : decode cX12_begins 177 = .ok (.getfield 101, 3) := by decide +kernel
theorem dX12_begins_180 : decode cX12_begins 180 = .ok (.iastore, 1) := by decide +kernel
theorem dX12_begins_181 : decode cX12_begins 181 = .ok (.return_, 1) := by decide +kernel
theorem dX12_isOpen_0 : decode cX12_isOpen 0 = .ok (.aload_n 0, 1) := by decide +kernel
theorem dX12_isOpen_1 : decode cX12_isOpen 1 = .ok (.getfield 68, 3) := by decide +kernel
theorem dX12_isOpen_4 : decode cX12_isOpen 4 = .ok (.sipush 246, 3) := by decide +kernel
theorem dX12_isOpen_7 : decode cX12_isOpen 7 = .ok (.iaload, 1) := by decide +kernel
theorem dX12_isOpen_8 : decode cX12_isOpen 8 = .ok (.iconst 1, 1) := by decide +kernel
theorem dX12_isOpen_9 : decode cX12_isOpen 9 = .ok (.if_icmp .ne 7, 3) := by decide +kernel
theorem dX12_isOpen_12 : decode cX12_isOpen 12 = .ok (.iconst 1, 1) := by decide +kernel
theorem dX12_isOpen_13 : decode cX12_isOpen 13 = .ok (.goto 4, 3) := by decide +kernel
theorem dX12_isOpen_16 : decode cX12_isOpen 16 = .ok (.iconst 0, 1) := by decide +kernel
theorem dX12_isOpen_17 : decode cX12_isOpen 17 = .ok (.ireturn, 1) := by decide +kernel
theorem dX12_isGrid_0 : decode cX12_isGrid 0 = .ok (.iload_n 1, 1) := by decide +kernel
theorem dX12_isGrid_1 : decode cX12_isGrid 1 = .ok (.iconst 0, 1) := by decide +kernel
theorem dX12_isGrid_2 : decode cX12_isGrid 2 = .ok (.aload_n 0, 1) := by decide +kernel
theorem dX12_isGrid_3 : decode cX12_isGrid 3 = .ok (.getfield 104, 3) := by decide +kernel
theorem dX12_isGrid_6 : decode cX12_isGrid 6 = .ok (.iconst 1, 1) := by decide +kernel
theorem dX12_isGrid_7 : decode cX12_isGrid 7 = .ok (.isub, 1) := by decide +kernel
theorem dX12_isGrid_8 : decode cX12_isGrid 8 = .ok (.invokestatic 107, 3) := by decide +kernel
theorem dX12_isGrid_11 : decode cX12_isGrid 11 = .ok (.ireturn, 1) := by decide +kernel
theorem dX12_isTask_0 : decode cX12_isTask 0 = .ok (.iload_n 1, 1) := by decide +kernel
theorem dX12_isTask_1 : decode cX12_isTask 1 = .ok (.iconst 0, 1) := by decide +kernel
theorem dX12_isTask_2 : decode cX12_isTask 2 = .ok (.aload_n 0, 1) := by decide +kernel
theorem dX12_isTask_3 : decode cX12_isTask 3 = .ok (.getfield 101, 3) := by decide +kernel
theorem dX12_isTask_6 : decode cX12_isTask 6 = .ok (.iconst 1, 1) := by decide +kernel
theorem dX12_isTask_7 : decode cX12_isTask 7 = .ok (.isub, 1) := by decide +kernel
theorem dX12_isTask_8 : decode cX12_isTask 8 = .ok (.invokestatic 107, 3) := by decide +kernel
theorem dX12_isTask_11 : decode cX12_isTask 11 = .ok (.ireturn, 1) := by decide +kernel
theorem dX12_newLine_0 : decode cX12_newLine 0 = .ok (.iload_n 1, 1) := by decide +kernel
theorem dX12_newLine_1 : decode cX12_newLine 1 = .ok (.bipush 13, 2) := by decide +kernel
theorem dX12_newLine_3 : decode cX12_newLine 3 = .ok (.if_icmp .ne 5, 3) := by decide +kernel
theorem dX12_newLine_6 : decode cX12_newLine 6 = .ok (.iconst (-1), 1) := by decide +kernel
theorem dX12_newLine_7 : decode cX12_newLine 7 = .ok (.ireturn, 1) := by decide +kernel
theorem dX12_newLine_8 : decode cX12_newLine 8 = .ok (.aload_n 0, 1) := by decide +kernel
theorem dX12_newLine_9 : decode cX12_newLine 9 = .ok (.getfield 19, 3) := by decide +kernel
theorem dX12_newLine_12 : decode cX12_newLine 12 = .ok (.aload_n 0, 1) := by decide +kernel
theorem dX12_newLine_13 : decode cX12_newLine 13 = .ok (.getfield 111, 3) := by decide +kernel
theorem dX12_newLine_16 : decode cX12_newLine 16 = .ok (.iload_n 1, 1) := by decide +kernel
theorem dX12_newLine_17 : decode cX12_newLine 17 = .ok (.iastore, 1) := by decide +kernel
theorem dX12_newLine_18 : decode cX12_newLine 18 = .ok (.aload_n 0, 1) := by decide +kernel
theorem dX12_newLine_19 : decode cX12_newLine 19 = .ok (.dup, 1) := by decide +kernel
theorem dX12_newLine_20 : decode cX12_newLine 20 = .ok (.getfield 111, 3) := by decide +kernel
theorem dX12_newLine_23 : decode cX12_newLine 23 = .ok (.iconst 1, 1) := by decide +kernel
theorem dX12_newLine_24 : decode cX12_newLine 24 = .ok (.iadd, 1) := by decide +kernel
theorem dX12_newLine_25 : decode cX12_newLine 25 = .ok (.putfield 111, 3) := by decide +kernel
theorem dX12_newLine_28 : decode cX12_newLine 28 = .ok (.aload_n 0, 1) := by decide +kernel
theorem dX12_newLine_29 : decode cX12_newLine 29 = .ok (.getfield 111, 3) := by decide +kernel
theorem dX12_newLine_32 : decode cX12_newLine 32 = .ok (.iconst 1, 1) := by decide +kernel
theorem dX12_newLine_33 : decode cX12_newLine 33 = .ok (.isub, 1) := by decide +kernel
theorem dX12_newLine_34 : decode cX12_newLine 34 = .ok (.ireturn, 1) := by decide +kernel
theorem dX12_grid_0 : decode cX12_grid 0 = .ok (.aload_n 0, 1) := by decide +kernel
theorem dX12_grid_1 : decode cX12_grid 1 = .ok (.iconst 0, 1) := by decide +kernel
theorem dX12_grid_2 : decode cX12_grid 2 = .ok (.putfield 96, 3) := by decide +kernel
theorem dX12_grid_5 : decode cX12_grid 5 = .ok (.iload_n 1, 1) := by decide +kernel
theorem dX12_grid_6 : decode cX12_grid 6 = .ok (.iconst 0, 1) := by decide +kernel
theorem dX12_grid_7 : decode cX12_grid 7 = .ok (.iconst 5, 1) := by decide +kernel
theorem dX12_grid_8 : decode cX12_grid 8 = .ok (.invokestatic 107, 3) := by decide +kernel
theorem dX12_grid_11 : decode cX12_grid 11 = .ok (.ifCond .eq 15, 3) := by decide +kernel
theorem dX12_grid_14 : decode cX12_grid 14 = .ok (.iload_n 2, 1) := by decide +kernel
theorem dX12_grid_15 : decode cX12_grid 15 = .ok (.bipush 12, 2) := by decide +kernel
theorem dX12_grid_17 : decode cX12_grid 17 = .ok (.if_icmp .gt 9, 3) := by decide +kernel
theorem dX12_grid_20 : decode cX12_grid 20 = .ok (.iload_n 3, 1) := by decide +kernel
theorem dX12_grid_21 : decode cX12_grid 21 = .ok (.bipush 13, 2) := by decide +kernel
theorem dX12_grid_23 : decode cX12_grid 23 = .ok (.if_icmp .le 5, 3) := by decide +kernel
theorem dX12_grid_26 : decode cX12_grid 26 = .ok (.iconst (-1), 1) := by decide +kernel
theorem dX12_grid_27 : decode cX12_grid 27 = .ok (.ireturn, 1) := by decide +kernel
theorem dX12_grid_28 : decode cX12_grid 28 = .ok (.aload_n 0, 1) := by decide +kernel
theorem dX12_grid_29 : decode cX12_grid 29 = .ok (.invokevirtual 114, 3) := by decide +kernel
theorem dX12_grid_32 : decode cX12_grid 32 = .ok (.ifCond .eq 6, 3) := by decide +kernel
theorem dX12_grid_35 : decode cX12_grid 35 = .ok (.bipush (-2), 2) := by decide +kernel
theorem dX12_grid_37 : decode cX12_grid 37 = .ok (.ireturn, 1) := by decide +kernel
theorem dX12_grid_38 : decode cX12_grid 38 = .ok (.aload_n 0, 1) := by decide +kernel
theorem dX12_grid_39 : decode cX12_grid 39 = .ok (.getfield 104, 3) := by decide +kernel
theorem dX12_grid_42 : decode cX12_grid 42 = .ok (.bipush 6, 2) := by decide +kernel
theorem dX12_grid_44 : decode cX12_grid 44 = .ok (.if_icmp .ne 6, 3) := by decide +kernel
theorem dX12_grid_47 : decode cX12_grid 47 = .ok (.bipush (-3), 2) := by decide +kernel
theorem dX12_grid_49 : decode cX12_grid 49 = .ok (.ireturn, 1) := by decide +kernel
theorem dX12_grid_50 : decode cX12_grid 50 = .ok (.iload_n 2, 1) := by decide +kernel
theorem dX12_grid_51 : decode cX12_grid 51 = .ok (.ifCond .lt 7, 3) := by decide +kernel
theorem dX12_grid_54 : decode cX12_grid 54 = .ok (.iload_n 3, 1) := by decide +kernel
theorem dX12_grid_55 : decode cX12_grid 55 = .ok (.ifCond .ge 6, 3) := by decide +kernel
theorem dX12_grid_58 : decode cX12_grid 58 = .ok (.bipush (-15), 2) := by decide +kernel
theorem dX12_grid_60 : decode cX12_grid 60 = .ok (.ireturn, 1) := by decide +kernel
theorem dX12_grid_61 : decode cX12_grid 61 = .ok (.aload_n 0, 1) := by decide +kernel
theorem dX12_grid_62 : decode cX12_grid 62 = .ok (.getfield 7, 3) := by decide +kernel
theorem dX12_grid_65 : decode cX12_grid 65 = .ok (.aload_n 0, 1) := by decide +kernel
theorem dX12_grid_66 : decode cX12_grid 66 = .ok (.getfield 104, 3) := by decide +kernel
theorem dX12_grid_69 : decode cX12_grid 69 = .ok (.iload_n 1, 1) := by decide +kernel
theorem dX12_grid_70 : decode cX12_grid 70 = .ok (.iastore, 1) := by decide +kernel
theorem dX12_grid_71 : decode cX12_grid 71 = .ok (.aload_n 0, 1) := by decide +kernel
theorem dX12_grid_72 : decode cX12_grid 72 = .ok (.getfield 13, 3) := by decide +kernel
theorem dX12_grid_75 : decode cX12_grid 75 = .ok (.aload_n 0, 1) := by decide +kernel
theorem dX12_grid_76 : decode cX12_grid 76 = .ok (.getfield 104, 3) := by decide +kernel
theorem dX12_grid_79 : decode cX12_grid 79 = .ok (.iload_n 2, 1) := by decide +kernel
theorem dX12_grid_80 : decode cX12_grid 80 = .ok (.iastore, 1) := by decide +kernel
theorem dX12_grid_81 : decode cX12_grid 81 = .ok (.iconst 0, 1) := by decide +kernel
theorem dX12_grid_82 : decode cX12_grid 82 = .ok (.istore 4, 2) := by decide +kernel
theorem dX12_grid_84 : decode cX12_grid 84 = .ok (.iload 4, 2) := by decide +kernel
theorem dX12_grid_86 : decode cX12_grid 86 = .ok (.iload_n 2, 1) := by decide +kernel
theorem dX12_grid_87 : decode cX12_grid 87 = .ok (.if_icmp .ge 29, 3) := by decide +kernel
theorem dX12_grid_90 : decode cX12_grid 90 = .ok (.aload_n 0, 1) := by decide +kernel
theorem dX12_grid_91 : decode cX12_grid 91 = .ok (.getfield 16, 3) := by decide +kernel
theorem dX12_grid_94 : decode cX12_grid 94 = .ok (.bipush 20, 2) := by decide +kernel
theorem dX12_grid_96 : decode cX12_grid 96 = .ok (.aload_n 0, 1) := by decide +kernel
theorem dX12_grid_97 : decode cX12_grid 97 = .ok (.getfield 104, 3) := by decide +kernel
theorem dX12_grid_100 : decode cX12_grid 100 = .ok (.imul, 1) := by decide +kernel
theorem dX12_grid_101 : decode cX12_grid 101 = .ok (.iload 4, 2) := by decide +kernel
theorem dX12_grid_103 : decode cX12_grid 103 = .ok (.iadd, 1) := by decide +kernel
theorem dX12_grid_104 : decode cX12_grid 104 = .ok (.aload_n 0, 1) := by decide +kernel
theorem dX12_grid_105 : decode cX12_grid 105 = .ok (.iload_n 3, 1) := by decide +kernel
theorem dX12_grid_106 : decode cX12_grid 106 = .ok (.invokevirtual 118, 3) := by decide +kernel
theorem dX12_grid_109 : decode cX12_grid 109 = .ok (.iastore, 1) := by decide +kernel
theorem dX12_grid_110 : decode cX12_grid 110 = .ok (.iinc 4 1, 3) := by decide +kernel
theorem dX12_grid_113 : decode cX12_grid 113 = .ok (.goto (-29), 3) := by decide +kernel
theorem dX12_grid_116 : decode cX12_grid 116 = .ok (.aload_n 0, 1) := by decide +kernel
theorem dX12_grid_117 : decode cX12_grid 117 = .ok (.dup, 1) := by decide +kernel
theorem dX12_grid_118 : decode cX12_grid 118 = .ok (.getfield 104, 3) := by decide +kernel
theorem dX12_grid_121 : decode cX12_grid 121 = .ok (.iconst 1, 1) := by decide +kernel
theorem dX12_grid_122 : decode cX12_grid 122 = .ok (.iadd, 1) := by decide +kernel
theorem dX12_grid_123 : decode cX12_grid 123 = .ok (.putfield 104, 3) := by decide +kernel
theorem dX12_grid_126 : decode cX12_grid 126 = .ok (.aload_n 0, 1) := by decide +kernel
theorem dX12_grid_127 : decode cX12_grid 127 = .ok (.getfield 104, 3) := by decide +kernel
theorem dX12_grid_130 : decode cX12_grid 130 = .ok (.iconst 1, 1) := by decide +kernel
theorem dX12_grid_131 : decode cX12_grid 131 = .ok (.isub, 1) := by decide +kernel
theorem dX12_grid_132 : decode cX12_grid 132 = .ok (.ireturn, 1) := by decide +kernel
theorem dX12_isLine_0 : decode cX12_isLine 0 = .ok (.iload_n 2, 1) := by decide +kernel
theorem dX12_isLine_1 : decode cX12_isLine 1 = .ok (.iconst 0, 1) := by decide +kernel
theorem dX12_isLine_2 : decode cX12_isLine 2 = .ok (.aload_n 0, 1) := by decide +kernel
theorem dX12_isLine_3 : decode cX12_isLine 3 = .ok (.getfield 13, 3) := by decide +kernel
theorem dX12_isLine_6 : decode cX12_isLine 6 = .ok (.iload_n 1, 1) := by decide +kernel
theorem dX12_isLine_7 : decode cX12_isLine 7 = .ok (.iaload, 1) := by decide +kernel
theorem dX12_isLine_8 : decode cX12_isLine 8 = .ok (.iconst 1, 1) := by decide +kernel
theorem dX12_isLine_9 : decode cX12_isLine 9 = .ok (.isub, 1) := by decide +kernel
theorem dX12_isLine_10 : decode cX12_isLine 10 = .ok (.invokestatic 107, 3) := by decide +kernel
theorem dX12_isLine_13 : decode cX12_isLine 13 = .ok (.ireturn, 1) := by decide +kernel
theorem dX12_line_0 : decode cX12_line 0 = .ok (.aload_n 0, 1) := by decide +kernel
theorem dX12_line_1 : decode cX12_line 1 = .ok (.iconst 0, 1) := by decide +kernel
theorem dX12_line_2 : decode cX12_line 2 = .ok (.putfield 96, 3) := by decide +kernel
theorem dX12_line_5 : decode cX12_line 5 = .ok (.aload_n 0, 1) := by decide +kernel
theorem dX12_line_6 : decode cX12_line 6 = .ok (.iload_n 1, 1) := by decide +kernel
theorem dX12_line_7 : decode cX12_line 7 = .ok (.invokevirtual 122, 3) := by decide +kernel
theorem dX12_line_10 : decode cX12_line 10 = .ok (.ifCond .eq 9, 3) := by decide +kernel
theorem dX12_line_13 : decode cX12_line 13 = .ok (.iload_n 3, 1) := by decide +kernel
theorem dX12_line_14 : decode cX12_line 14 = .ok (.bipush 13, 2) := by decide +kernel
theorem dX12_line_16 : decode cX12_line 16 = .ok (.if_icmp .le 5, 3) := by decide +kernel
theorem dX12_line_19 : decode cX12_line 19 = .ok (.iconst (-1), 1) := by decide +kernel
theorem dX12_line_20 : decode cX12_line 20 = .ok (.ireturn, 1) := by decide +kernel
theorem dX12_line_21 : decode cX12_line 21 = .ok (.aload_n 0, 1) := by decide +kernel
theorem dX12_line_22 : decode cX12_line 22 = .ok (.invokevirtual 114, 3) := by decide +kernel
theorem dX12_line_25 : decode cX12_line 25 = .ok (.ifCond .eq 6, 3) := by decide +kernel
theorem dX12_line_28 : decode cX12_line 28 = .ok (.bipush (-2), 2) := by decide +kernel
theorem dX12_line_30 : decode cX12_line 30 = .ok (.ireturn, 1) := by decide +kernel
theorem dX12_line_31 : decode cX12_line 31 = .ok (.iload_n 3, 1) := by decide +kernel
theorem dX12_line_32 : decode cX12_line 32 = .ok (.ifCond .ge 6, 3) := by decide +kernel
theorem dX12_line_35 : decode cX12_line 35 = .ok (.bipush (-15), 2) := by decide +kernel
theorem dX12_line_37 : decode cX12_line 37 = .ok (.ireturn, 1) := by decide +kernel
theorem dX12_line_38 : decode cX12_line 38 = .ok (.aload_n 0, 1) := by decide +kernel
theorem dX12_line_39 : decode cX12_line 39 = .ok (.iload_n 1, 1) := by decide +kernel
theorem dX12_line_40 : decode cX12_line 40 = .ok (.iload_n 2, 1) := by decide +kernel
theorem dX12_line_41 : decode cX12_line 41 = .ok (.invokevirtual 126, 3) := by decide +kernel
theorem dX12_line_44 : decode cX12_line 44 = .ok (.ifCond .ne 6, 3) := by decide +kernel
theorem dX12_line_47 : decode cX12_line 47 = .ok (.bipush (-12), 2) := by decide +kernel
theorem dX12_line_49 : decode cX12_line 49 = .ok (.ireturn, 1) := by decide +kernel
theorem dX12_line_50 : decode cX12_line 50 = .ok (.aload_n 0, 1) := by decide +kernel
theorem dX12_line_51 : decode cX12_line 51 = .ok (.getfield 16, 3) := by decide +kernel
theorem dX12_line_54 : decode cX12_line 54 = .ok (.bipush 20, 2) := by decide +kernel
theorem dX12_line_56 : decode cX12_line 56 = .ok (.iload_n 1, 1) := by decide +kernel
theorem dX12_line_57 : decode cX12_line 57 = .ok (.imul, 1) := by decide +kernel
theorem dX12_line_58 : decode cX12_line 58 = .ok (.iload_n 2, 1) := by decide +kernel
theorem dX12_line_59 : decode cX12_line 59 = .ok (.iadd, 1) := by decide +kernel
theorem dX12_line_60 : decode cX12_line 60 = .ok (.aload_n 0, 1) := by decide +kernel
theorem dX12_line_61 : decode cX12_line 61 = .ok (.iload_n 3, 1) := by decide +kernel
theorem dX12_line_62 : decode cX12_line 62 = .ok (.invokevirtual 118, 3) := by decide +kernel
theorem dX12_line_65 : decode cX12_line 65 = .ok (.iastore, 1) := by decide +kernel
theorem dX12_line_66 : decode cX12_line 66 = .ok (.iload_n 3, 1) := by decide +kernel
theorem dX12_line_67 : decode cX12_line 67 = .ok (.ireturn, 1) := by decide +kernel
theorem dX12_against_0 : decode cX12_against 0 = .ok (.aload_n 0, 1) := by decide +kernel
theorem dX12_against_1 : decode cX12_against 1 = .ok (.iload_n 1, 1) := by decide +kernel
theorem dX12_against_2 : decode cX12_against 2 = .ok (.iload_n 2, 1) := by decide +kernel
theorem dX12_against_3 : decode cX12_against 3 = .ok (.invokevirtual 126, 3) := by decide +kernel
theorem dX12_against_6 : decode cX12_against 6 = .ok (.ifCond .ne 5, 3) := by decide +kernel
theorem dX12_against_9 : decode cX12_against 9 = .ok (.iconst 2, 1) := by decide +kernel
theorem dX12_against_10 : decode cX12_against 10 = .ok (.ireturn, 1) := by decide +kernel
theorem dX12_against_11 : decode cX12_against 11 = .ok (.aload_n 0, 1) := by decide +kernel
theorem dX12_against_12 : decode cX12_against 12 = .ok (.getfield 16, 3) := by decide +kernel
theorem dX12_against_15 : decode cX12_against 15 = .ok (.bipush 20, 2) := by decide +kernel
theorem dX12_against_17 : decode cX12_against 17 = .ok (.iload_n 1, 1) := by decide +kernel
theorem dX12_against_18 : decode cX12_against 18 = .ok (.imul, 1) := by decide +kernel
theorem dX12_against_19 : decode cX12_against 19 = .ok (.iload_n 2, 1) := by decide +kernel
theorem dX12_against_20 : decode cX12_against 20 = .ok (.iadd, 1) := by decide +kernel
theorem dX12_against_21 : decode cX12_against 21 = .ok (.iaload, 1) := by decide +kernel
theorem dX12_against_22 : decode cX12_against 22 = .ok (.istore 4, 2) := by decide +kernel
theorem dX12_against_24 : decode cX12_against 24 = .ok (.iload 4, 2) := by decide +kernel
theorem dX12_against_26 : decode cX12_against 26 = .ok (.ifCond .ge 7, 3) := by decide +kernel
theorem dX12_against_29 : decode cX12_against 29 = .ok (.iconst 1, 1) := by decide +kernel
theorem dX12_against_30 : decode cX12_against 30 = .ok (.goto 25, 3) := by decide +kernel
theorem dX12_against_33 : decode cX12_against 33 = .ok (.iload_n 3, 1) := by decide +kernel
theorem dX12_against_34 : decode cX12_against 34 = .ok (.iconst 0, 1) := by decide +kernel
theorem dX12_against_35 : decode cX12_against 35 = .ok (.aload_n 0, 1) := by decide +kernel
theorem dX12_against_36 : decode cX12_against 36 = .ok (.getfield 19, 3) := by decide +kernel
theorem dX12_against_39 : decode cX12_against 39 = .ok (.iload 4, 2) := by decide +kernel
theorem dX12_against_41 : decode cX12_against 41 = .ok (.iaload, 1) := by decide +kernel
theorem dX12_against_42 : decode cX12_against 42 = .ok (.iconst 1, 1) := by decide +kernel
theorem dX12_against_43 : decode cX12_against 43 = .ok (.isub, 1) := by decide +kernel
theorem dX12_against_44 : decode cX12_against 44 = .ok (.invokestatic 107, 3) := by decide +kernel
theorem dX12_against_47 : decode cX12_against 47 = .ok (.ifCond .eq 7, 3) := by decide +kernel
theorem dX12_against_50 : decode cX12_against 50 = .ok (.iconst 0, 1) := by decide +kernel
theorem dX12_against_51 : decode cX12_against 51 = .ok (.goto 4, 3) := by decide +kernel
theorem dX12_against_54 : decode cX12_against 54 = .ok (.iconst 2, 1) := by decide +kernel
theorem dX12_against_55 : decode cX12_against 55 = .ok (.ireturn, 1) := by decide +kernel
theorem dX12_asKind_0 : decode cX12_asKind 0 = .ok (.iload_n 0, 1) := by decide +kernel
theorem dX12_asKind_1 : decode cX12_asKind 1 = .ok (.tableswitch 61 0 4 #[35, 40, 45, 49, 51], 35) := by decide +kernel
theorem dX12_asKind_36 : decode cX12_asKind 36 = .ok (.lload_n 1, 1) := by decide +kernel
theorem dX12_asKind_37 : decode cX12_asKind 37 = .ok (.l2i, 1) := by decide +kernel
theorem dX12_asKind_38 : decode cX12_asKind 38 = .ok (.i2b, 1) := by decide +kernel
theorem dX12_asKind_39 : decode cX12_asKind 39 = .ok (.i2l, 1) := by decide +kernel
theorem dX12_asKind_40 : decode cX12_asKind 40 = .ok (.lreturn, 1) := by decide +kernel
theorem dX12_asKind_41 : decode cX12_asKind 41 = .ok (.lload_n 1, 1) := by decide +kernel
theorem dX12_asKind_42 : decode cX12_asKind 42 = .ok (.l2i, 1) := by decide +kernel
theorem dX12_asKind_43 : decode cX12_asKind 43 = .ok (.i2s, 1) := by decide +kernel
theorem dX12_asKind_44 : decode cX12_asKind 44 = .ok (.i2l, 1) := by decide +kernel
theorem dX12_asKind_45 : decode cX12_asKind 45 = .ok (.lreturn, 1) := by decide +kernel
theorem dX12_asKind_46 : decode cX12_asKind 46 = .ok (.lload_n 1, 1) := by decide +kernel
theorem dX12_asKind_47 : decode cX12_asKind 47 = .ok (.l2i, 1) := by decide +kernel
theorem dX12_asKind_48 : decode cX12_asKind 48 = .ok (.i2l, 1) := by decide +kernel
theorem dX12_asKind_49 : decode cX12_asKind 49 = .ok (.lreturn, 1) := by decide +kernel
theorem dX12_asKind_50 : decode cX12_asKind 50 = .ok (.lload_n 1, 1) := by decide +kernel
theorem dX12_asKind_51 : decode cX12_asKind 51 = .ok (.lreturn, 1) := by decide +kernel
theorem dX12_asKind_52 : decode cX12_asKind 52 = .ok (.ldc 130, 2) := by decide +kernel
theorem dX12_asKind_54 : decode cX12_asKind 54 = .ok (.lload_n 1, 1) := by decide +kernel
theorem dX12_asKind_55 : decode cX12_asKind 55 = .ok (.l2f, 1) := by decide +kernel
theorem dX12_asKind_56 : decode cX12_asKind 56 = .ok (.ldc 130, 2) := by decide +kernel
theorem dX12_asKind_58 : decode cX12_asKind 58 = .ok (.fdiv, 1) := by decide +kernel
theorem dX12_asKind_59 : decode cX12_asKind 59 = .ok (.fmul, 1) := by decide +kernel
theorem dX12_asKind_60 : decode cX12_asKind 60 = .ok (.f2l, 1) := by decide +kernel
theorem dX12_asKind_61 : decode cX12_asKind 61 = .ok (.lreturn, 1) := by decide +kernel
theorem dX12_asKind_62 : decode cX12_asKind 62 = .ok (.ldc2_w 131, 3) := by decide +kernel
theorem dX12_asKind_65 : decode cX12_asKind 65 = .ok (.lload_n 1, 1) := by decide +kernel
theorem dX12_asKind_66 : decode cX12_asKind 66 = .ok (.l2d, 1) := by decide +kernel
theorem dX12_asKind_67 : decode cX12_asKind 67 = .ok (.ldc2_w 131, 3) := by decide +kernel
theorem dX12_asKind_70 : decode cX12_asKind 70 = .ok (.ddiv, 1) := by decide +kernel
theorem dX12_asKind_71 : decode cX12_asKind 71 = .ok (.dmul, 1) := by decide +kernel
theorem dX12_asKind_72 : decode cX12_asKind 72 = .ok (.d2l, 1) := by decide +kernel
theorem dX12_asKind_73 : decode cX12_asKind 73 = .ok (.lreturn, 1) := by decide +kernel
theorem dX12_put_0 : decode cX12_put 0 = .ok (.aload_n 0, 1) := by decide +kernel
theorem dX12_put_1 : decode cX12_put 1 = .ok (.iconst 0, 1) := by decide +kernel
theorem dX12_put_2 : decode cX12_put 2 = .ok (.putfield 96, 3) := by decide +kernel
theorem dX12_put_5 : decode cX12_put 5 = .ok (.aload_n 0, 1) := by decide +kernel
theorem dX12_put_6 : decode cX12_put 6 = .ok (.iload_n 1, 1) := by decide +kernel
theorem dX12_put_7 : decode cX12_put 7 = .ok (.invokevirtual 122, 3) := by decide +kernel
theorem dX12_put_10 : decode cX12_put 10 = .ok (.ifCond .ne 5, 3) := by decide +kernel
theorem dX12_put_13 : decode cX12_put 13 = .ok (.iconst (-1), 1) := by decide +kernel
theorem dX12_put_14 : decode cX12_put 14 = .ok (.ireturn, 1) := by decide +kernel
theorem dX12_put_15 : decode cX12_put 15 = .ok (.aload_n 0, 1) := by decide +kernel
theorem dX12_put_16 : decode cX12_put 16 = .ok (.invokevirtual 114, 3) := by decide +kernel
theorem dX12_put_19 : decode cX12_put 19 = .ok (.ifCond .eq 6, 3) := by decide +kernel
theorem dX12_put_22 : decode cX12_put 22 = .ok (.bipush (-2), 2) := by decide +kernel
theorem dX12_put_24 : decode cX12_put 24 = .ok (.ireturn, 1) := by decide +kernel
theorem dX12_put_25 : decode cX12_put 25 = .ok (.aload_n 0, 1) := by decide +kernel
theorem dX12_put_26 : decode cX12_put 26 = .ok (.iload_n 1, 1) := by decide +kernel
theorem dX12_put_27 : decode cX12_put 27 = .ok (.iload_n 2, 1) := by decide +kernel
theorem dX12_put_28 : decode cX12_put 28 = .ok (.iload_n 3, 1) := by decide +kernel
theorem dX12_put_29 : decode cX12_put 29 = .ok (.invokevirtual 133, 3) := by decide +kernel
theorem dX12_put_32 : decode cX12_put 32 = .ok (.istore 6, 2) := by decide +kernel
theorem dX12_put_34 : decode cX12_put 34 = .ok (.iload 6, 2) := by decide +kernel
theorem dX12_put_36 : decode cX12_put 36 = .ok (.ifCond .eq 9, 3) := by decide +kernel
theorem dX12_put_39 : decode cX12_put 39 = .ok (.bipush (-10), 2) := by decide +kernel
theorem dX12_put_41 : decode cX12_put 41 = .ok (.iload 6, 2) := by decide +kernel
theorem dX12_put_43 : decode cX12_put 43 = .ok (.isub, 1) := by decide +kernel
theorem dX12_put_44 : decode cX12_put 44 = .ok (.ireturn, 1) := by decide +kernel
theorem dX12_put_45 : decode cX12_put 45 = .ok (.aload_n 0, 1) := by decide +kernel
theorem dX12_put_46 : decode cX12_put 46 = .ok (.getfield 22, 3) := by decide +kernel
theorem dX12_put_49 : decode cX12_put 49 = .ok (.bipush 12, 2) := by decide +kernel
theorem dX12_put_51 : decode cX12_put 51 = .ok (.aload_n 0, 1) := by decide +kernel
theorem dX12_put_52 : decode cX12_put 52 = .ok (.getfield 16, 3) := by decide +kernel
theorem dX12_put_55 : decode cX12_put 55 = .ok (.bipush 20, 2) := by decide +kernel
theorem dX12_put_57 : decode cX12_put 57 = .ok (.iload_n 1, 1) := by decide +kernel
theorem dX12_put_58 : decode cX12_put 58 = .ok (.imul, 1) := by decide +kernel
theorem dX12_put_59 : decode cX12_put 59 = .ok (.iload_n 2, 1) := by decide +kernel
theorem dX12_put_60 : decode cX12_put 60 = .ok (.iadd, 1) := by decide +kernel
theorem dX12_put_61 : decode cX12_put 61 = .ok (.iaload, 1) := by decide +kernel
theorem dX12_put_62 : decode cX12_put 62 = .ok (.imul, 1) := by decide +kernel
theorem dX12_put_63 : decode cX12_put 63 = .ok (.iload_n 3, 1) := by decide +kernel
theorem dX12_put_64 : decode cX12_put 64 = .ok (.iadd, 1) := by decide +kernel
theorem dX12_put_65 : decode cX12_put 65 = .ok (.aload_n 0, 1) := by decide +kernel
theorem dX12_put_66 : decode cX12_put 66 = .ok (.getfield 7, 3) := by decide +kernel
theorem dX12_put_69 : decode cX12_put 69 = .ok (.iload_n 1, 1) := by decide +kernel
theorem dX12_put_70 : decode cX12_put 70 = .ok (.iaload, 1) := by decide +kernel
theorem dX12_put_71 : decode cX12_put 71 = .ok (.lload 4, 2) := by decide +kernel
theorem dX12_put_73 : decode cX12_put 73 = .ok (.invokestatic 137, 3) := by decide +kernel
theorem dX12_put_76 : decode cX12_put 76 = .ok (.lastore, 1) := by decide +kernel
theorem dX12_put_77 : decode cX12_put 77 = .ok (.iconst 1, 1) := by decide +kernel
theorem dX12_put_78 : decode cX12_put 78 = .ok (.ireturn, 1) := by decide +kernel
theorem dX12_item_0 : decode cX12_item 0 = .ok (.aload_n 0, 1) := by decide +kernel
theorem dX12_item_1 : decode cX12_item 1 = .ok (.iconst 0, 1) := by decide +kernel
theorem dX12_item_2 : decode cX12_item 2 = .ok (.putfield 96, 3) := by decide +kernel
theorem dX12_item_5 : decode cX12_item 5 = .ok (.aload_n 0, 1) := by decide +kernel
theorem dX12_item_6 : decode cX12_item 6 = .ok (.iload_n 1, 1) := by decide +kernel
theorem dX12_item_7 : decode cX12_item 7 = .ok (.invokevirtual 122, 3) := by decide +kernel
theorem dX12_item_10 : decode cX12_item 10 = .ok (.ifCond .eq 24, 3) := by decide +kernel
theorem dX12_item_13 : decode cX12_item 13 = .ok (.iload_n 2, 1) := by decide +kernel
theorem dX12_item_14 : decode cX12_item 14 = .ok (.aload_n 0, 1) := by decide +kernel
theorem dX12_item_15 : decode cX12_item 15 = .ok (.getfield 7, 3) := by decide +kernel
theorem dX12_item_18 : decode cX12_item 18 = .ok (.iload_n 1, 1) := by decide +kernel
theorem dX12_item_19 : decode cX12_item 19 = .ok (.iaload, 1) := by decide +kernel
theorem dX12_item_20 : decode cX12_item 20 = .ok (.if_icmp .ne 14, 3) := by decide +kernel
theorem dX12_item_23 : decode cX12_item 23 = .ok (.aload_n 0, 1) := by decide +kernel
theorem dX12_item_24 : decode cX12_item 24 = .ok (.iload_n 1, 1) := by decide +kernel
theorem dX12_item_25 : decode cX12_item 25 = .ok (.iload_n 3, 1) := by decide +kernel
theorem dX12_item_26 : decode cX12_item 26 = .ok (.iload 4, 2) := by decide +kernel
theorem dX12_item_28 : decode cX12_item 28 = .ok (.invokevirtual 133, 3) := by decide +kernel
theorem dX12_item_31 : decode cX12_item 31 = .ok (.ifCond .eq 7, 3) := by decide +kernel
theorem dX12_item_34 : decode cX12_item 34 = .ok (.ldc2_w 99, 3) := by decide +kernel
theorem dX12_item_37 : decode cX12_item 37 = .ok (.lreturn, 1) := by decide +kernel
theorem dX12_item_38 : decode cX12_item 38 = .ok (.aload_n 0, 1) := by decide +kernel
theorem dX12_item_39 : decode cX12_item 39 = .ok (.getfield 22, 3) := by decide +kernel
theorem dX12_item_42 : decode cX12_item 42 = .ok (.bipush 12, 2) := by decide +kernel
theorem dX12_item_44 : decode cX12_item 44 = .ok (.aload_n 0, 1) := by decide +kernel
theorem dX12_item_45 : decode cX12_item 45 = .ok (.getfield 16, 3) := by decide +kernel
theorem dX12_item_48 : decode cX12_item 48 = .ok (.bipush 20, 2) := by decide +kernel
theorem dX12_item_50 : decode cX12_item 50 = .ok (.iload_n 1, 1) := by decide +kernel
theorem dX12_item_51 : decode cX12_item 51 = .ok (.imul, 1) := by decide +kernel
theorem dX12_item_52 : decode cX12_item 52 = .ok (.iload_n 3, 1) := by decide +kernel
theorem dX12_item_53 : decode cX12_item 53 = .ok (.iadd, 1) := by decide +kernel
theorem dX12_item_54 : decode cX12_item 54 = .ok (.iaload, 1) := by decide +kernel
theorem dX12_item_55 : decode cX12_item 55 = .ok (.imul, 1) := by decide +kernel
theorem dX12_item_56 : decode cX12_item 56 = .ok (.iload 4, 2) := by decide +kernel
theorem dX12_item_58 : decode cX12_item 58 = .ok (.iadd, 1) := by decide +kernel
theorem dX12_item_59 : decode cX12_item 59 = .ok (.laload, 1) := by decide +kernel
theorem dX12_item_60 : decode cX12_item 60 = .ok (.lreturn, 1) := by decide +kernel
theorem dX12_lay_0 : decode cX12_lay 0 = .ok (.aload_n 0, 1) := by decide +kernel
theorem dX12_lay_1 : decode cX12_lay 1 = .ok (.iconst 0, 1) := by decide +kernel
theorem dX12_lay_2 : decode cX12_lay 2 = .ok (.putfield 96, 3) := by decide +kernel
theorem dX12_lay_5 : decode cX12_lay 5 = .ok (.aload_n 0, 1) := by decide +kernel
theorem dX12_lay_6 : decode cX12_lay 6 = .ok (.iload_n 1, 1) := by decide +kernel
theorem dX12_lay_7 : decode cX12_lay 7 = .ok (.invokevirtual 122, 3) := by decide +kernel
theorem dX12_lay_10 : decode cX12_lay 10 = .ok (.ifCond .eq 11, 3) := by decide +kernel
theorem dX12_lay_13 : decode cX12_lay 13 = .ok (.aload_n 0, 1) := by decide +kernel
theorem dX12_lay_14 : decode cX12_lay 14 = .ok (.iload_n 3, 1) := by decide +kernel
theorem dX12_lay_15 : decode cX12_lay 15 = .ok (.invokevirtual 122, 3) := by decide +kernel
theorem dX12_lay_18 : decode cX12_lay 18 = .ok (.ifCond .ne 5, 3) := by decide +kernel
theorem dX12_lay_21 : decode cX12_lay 21 = .ok (.iconst (-1), 1) := by decide +kernel
theorem dX12_lay_22 : decode cX12_lay 22 = .ok (.ireturn, 1) := by decide +kernel
theorem dX12_lay_23 : decode cX12_lay 23 = .ok (.aload_n 0, 1) := by decide +kernel
theorem dX12_lay_24 : decode cX12_lay 24 = .ok (.invokevirtual 114, 3) := by decide +kernel
theorem dX12_lay_27 : decode cX12_lay 27 = .ok (.ifCond .eq 6, 3) := by decide +kernel
theorem dX12_lay_30 : decode cX12_lay 30 = .ok (.bipush (-2), 2) := by decide +kernel
theorem dX12_lay_32 : decode cX12_lay 32 = .ok (.ireturn, 1) := by decide +kernel
theorem dX12_lay_33 : decode cX12_lay 33 = .ok (.aload_n 0, 1) := by decide +kernel
theorem dX12_lay_34 : decode cX12_lay 34 = .ok (.iload_n 3, 1) := by decide +kernel
theorem dX12_lay_35 : decode cX12_lay 35 = .ok (.iload 4, 2) := by decide +kernel
theorem dX12_lay_37 : decode cX12_lay 37 = .ok (.invokevirtual 126, 3) := by decide +kernel
theorem dX12_lay_40 : decode cX12_lay 40 = .ok (.ifCond .eq 12, 3) := by decide +kernel
theorem dX12_lay_43 : decode cX12_lay 43 = .ok (.aload_n 0, 1) := by decide +kernel
theorem dX12_lay_44 : decode cX12_lay 44 = .ok (.iload_n 1, 1) := by decide +kernel
theorem dX12_lay_45 : decode cX12_lay 45 = .ok (.iload_n 2, 1) := by decide +kernel
theorem dX12_lay_46 : decode cX12_lay 46 = .ok (.invokevirtual 126, 3) := by decide +kernel
theorem dX12_lay_49 : decode cX12_lay 49 = .ok (.ifCond .ne 6, 3) := by decide +kernel
theorem dX12_lay_52 : decode cX12_lay 52 = .ok (.bipush (-12), 2) := by decide +kernel
theorem dX12_lay_54 : decode cX12_lay 54 = .ok (.ireturn, 1) := by decide +kernel
theorem dX12_lay_55 : decode cX12_lay 55 = .ok (.aload_n 0, 1) := by decide +kernel
theorem dX12_lay_56 : decode cX12_lay 56 = .ok (.getfield 16, 3) := by decide +kernel
theorem dX12_lay_59 : decode cX12_lay 59 = .ok (.bipush 20, 2) := by decide +kernel
theorem dX12_lay_61 : decode cX12_lay 61 = .ok (.iload_n 3, 1) := by decide +kernel
theorem dX12_lay_62 : decode cX12_lay 62 = .ok (.imul, 1) := by decide +kernel
theorem dX12_lay_63 : decode cX12_lay 63 = .ok (.iload 4, 2) := by decide +kernel
theorem dX12_lay_65 : decode cX12_lay 65 = .ok (.iadd, 1) := by decide +kernel
theorem dX12_lay_66 : decode cX12_lay 66 = .ok (.iaload, 1) := by decide +kernel
theorem dX12_lay_67 : decode cX12_lay 67 = .ok (.istore 5, 2) := by decide +kernel
theorem dX12_lay_69 : decode cX12_lay 69 = .ok (.iload 5, 2) := by decide +kernel
theorem dX12_lay_71 : decode cX12_lay 71 = .ok (.ifCond .lt 21, 3) := by decide +kernel
theorem dX12_lay_74 : decode cX12_lay 74 = .ok (.aload_n 0, 1) := by decide +kernel
theorem dX12_lay_75 : decode cX12_lay 75 = .ok (.getfield 7, 3) := by decide +kernel
theorem dX12_lay_78 : decode cX12_lay 78 = .ok (.iload_n 1, 1) := by decide +kernel
theorem dX12_lay_79 : decode cX12_lay 79 = .ok (.iaload, 1) := by decide +kernel
theorem dX12_lay_80 : decode cX12_lay 80 = .ok (.aload_n 0, 1) := by decide +kernel
theorem dX12_lay_81 : decode cX12_lay 81 = .ok (.getfield 7, 3) := by decide +kernel
theorem dX12_lay_84 : decode cX12_lay 84 = .ok (.iload_n 3, 1) := by decide +kernel
theorem dX12_lay_85 : decode cX12_lay 85 = .ok (.iaload, 1) := by decide +kernel
theorem dX12_lay_86 : decode cX12_lay 86 = .ok (.if_icmp .eq 6, 3) := by decide +kernel
theorem dX12_lay_89 : decode cX12_lay 89 = .ok (.bipush (-14), 2) := by decide +kernel
theorem dX12_lay_91 : decode cX12_lay 91 = .ok (.ireturn, 1) := by decide +kernel
theorem dX12_lay_92 : decode cX12_lay 92 = .ok (.aload_n 0, 1) := by decide +kernel
theorem dX12_lay_93 : decode cX12_lay 93 = .ok (.getfield 16, 3) := by decide +kernel
theorem dX12_lay_96 : decode cX12_lay 96 = .ok (.bipush 20, 2) := by decide +kernel
theorem dX12_lay_98 : decode cX12_lay 98 = .ok (.iload_n 1, 1) := by decide +kernel
theorem dX12_lay_99 : decode cX12_lay 99 = .ok (.imul, 1) := by decide +kernel
theorem dX12_lay_100 : decode cX12_lay 100 = .ok (.iload_n 2, 1) := by decide +kernel
theorem dX12_lay_101 : decode cX12_lay 101 = .ok (.iadd, 1) := by decide +kernel
theorem dX12_lay_102 : decode cX12_lay 102 = .ok (.iload 5, 2) := by decide +kernel
theorem dX12_lay_104 : decode cX12_lay 104 = .ok (.iastore, 1) := by decide +kernel
theorem dX12_lay_105 : decode cX12_lay 105 = .ok (.iload 5, 2) := by decide +kernel
theorem dX12_lay_107 : decode cX12_lay 107 = .ok (.ifCond .ge 7, 3) := by decide +kernel
theorem dX12_lay_110 : decode cX12_lay 110 = .ok (.iconst 0, 1) := by decide +kernel
theorem dX12_lay_111 : decode cX12_lay 111 = .ok (.goto 4, 3) := by decide +kernel
theorem dX12_lay_114 : decode cX12_lay 114 = .ok (.iconst 1, 1) := by decide +kernel
theorem dX12_lay_115 : decode cX12_lay 115 = .ok (.ireturn, 1) := by decide +kernel
theorem dX12_size_0 : decode cX12_size 0 = .ok (.aload_n 0, 1) := by decide +kernel
theorem dX12_size_1 : decode cX12_size 1 = .ok (.iconst 0, 1) := by decide +kernel
theorem dX12_size_2 : decode cX12_size 2 = .ok (.putfield 96, 3) := by decide +kernel
theorem dX12_size_5 : decode cX12_size 5 = .ok (.aload_n 0, 1) := by decide +kernel
theorem dX12_size_6 : decode cX12_size 6 = .ok (.iload_n 1, 1) := by decide +kernel
theorem dX12_size_7 : decode cX12_size 7 = .ok (.invokevirtual 122, 3) := by decide +kernel
theorem dX12_size_10 : decode cX12_size 10 = .ok (.ifCond .ne 5, 3) := by decide +kernel
theorem dX12_size_13 : decode cX12_size 13 = .ok (.iconst (-1), 1) := by decide +kernel
theorem dX12_size_14 : decode cX12_size 14 = .ok (.ireturn, 1) := by decide +kernel
theorem dX12_size_15 : decode cX12_size 15 = .ok (.iload_n 2, 1) := by decide +kernel
theorem dX12_size_16 : decode cX12_size 16 = .ok (.iconst (-1), 1) := by decide +kernel
theorem dX12_size_17 : decode cX12_size 17 = .ok (.if_icmp .ne 10, 3) := by decide +kernel
theorem dX12_size_20 : decode cX12_size 20 = .ok (.aload_n 0, 1) := by decide +kernel
theorem dX12_size_21 : decode cX12_size 21 = .ok (.getfield 13, 3) := by decide +kernel
theorem dX12_size_24 : decode cX12_size 24 = .ok (.iload_n 1, 1) := by decide +kernel
theorem dX12_size_25 : decode cX12_size 25 = .ok (.iaload, 1) := by decide +kernel
theorem dX12_size_26 : decode cX12_size 26 = .ok (.ireturn, 1) := by decide +kernel
theorem dX12_size_27 : decode cX12_size 27 = .ok (.aload_n 0, 1) := by decide +kernel
theorem dX12_size_28 : decode cX12_size 28 = .ok (.iload_n 1, 1) := by decide +kernel
theorem dX12_size_29 : decode cX12_size 29 = .ok (.iload_n 2, 1) := by decide +kernel
theorem dX12_size_30 : decode cX12_size 30 = .ok (.invokevirtual 126, 3) := by decide +kernel
theorem dX12_size_33 : decode cX12_size 33 = .ok (.ifCond .ne 6, 3) := by decide +kernel
theorem dX12_size_36 : decode cX12_size 36 = .ok (.bipush (-12), 2) := by decide +kernel
theorem dX12_size_38 : decode cX12_size 38 = .ok (.ireturn, 1) := by decide +kernel
theorem dX12_size_39 : decode cX12_size 39 = .ok (.aload_n 0, 1) := by decide +kernel
theorem dX12_size_40 : decode cX12_size 40 = .ok (.getfield 16, 3) := by decide +kernel
theorem dX12_size_43 : decode cX12_size 43 = .ok (.bipush 20, 2) := by decide +kernel
theorem dX12_size_45 : decode cX12_size 45 = .ok (.iload_n 1, 1) := by decide +kernel
theorem dX12_size_46 : decode cX12_size 46 = .ok (.imul, 1) := by decide +kernel
theorem dX12_size_47 : decode cX12_size 47 = .ok (.iload_n 2, 1) := by decide +kernel
theorem dX12_size_48 : decode cX12_size 48 = .ok (.iadd, 1) := by decide +kernel
theorem dX12_size_49 : decode cX12_size 49 = .ok (.iaload, 1) := by decide +kernel
theorem dX12_size_50 : decode cX12_size 50 = .ok (.istore_n 3, 1) := by decide +kernel
theorem dX12_size_51 : decode cX12_size 51 = .ok (.iload_n 3, 1) := by decide +kernel
end
section
theorem dX12_size_52 : decode cX12_size 52 = .ok (.ifCond .ge 8, 3) := by decide +kernel
theorem dX12_size_55 : decode cX12_size 55 = .ok (.bipush (-11), 2) := by decide +kernel
theorem dX12_size_57 : decode cX12_size 57 = .ok (.goto 9, 3) := by decide +kernel
theorem dX12_size_60 : decode cX12_size 60 = .ok (.aload_n 0, 1) := by decide +kernel
theorem dX12_size_61 : decode cX12_size 61 = .ok (.getfield 19, 3) := by decide +kernel
theorem dX12_size_64 : decode cX12_size 64 = .ok (.iload_n 3, 1) := by decide +kernel
theorem dX12_size_65 : decode cX12_size 65 = .ok (.iaload, 1) := by decide +kernel
theorem dX12_size_66 : decode cX12_size 66 = .ok (.ireturn, 1) := by decide +kernel
theorem dX12_mayNeed_0 : decode cX12_mayNeed 0 = .ok (.iload_n 1, 1) := by decide +kernel
theorem dX12_mayNeed_1 : decode cX12_mayNeed 1 = .ok (.iconst 0, 1) := by decide +kernel
theorem dX12_mayNeed_2 : decode cX12_mayNeed 2 = .ok (.aload_n 0, 1) := by decide +kernel
theorem dX12_mayNeed_3 : decode cX12_mayNeed 3 = .ok (.getfield 90, 3) := by decide +kernel
theorem dX12_mayNeed_6 : decode cX12_mayNeed 6 = .ok (.invokestatic 107, 3) := by decide +kernel
theorem dX12_mayNeed_9 : decode cX12_mayNeed 9 = .ok (.ifCond .eq 18, 3) := by decide +kernel
theorem dX12_mayNeed_12 : decode cX12_mayNeed 12 = .ok (.iload_n 2, 1) := by decide +kernel
theorem dX12_mayNeed_13 : decode cX12_mayNeed 13 = .ok (.iconst 1, 1) := by decide +kernel
theorem dX12_mayNeed_14 : decode cX12_mayNeed 14 = .ok (.sipush 1000, 3) := by decide +kernel
theorem dX12_mayNeed_17 : decode cX12_mayNeed 17 = .ok (.invokestatic 107, 3) := by decide +kernel
theorem dX12_mayNeed_20 : decode cX12_mayNeed 20 = .ok (.ifCond .eq 7, 3) := by decide +kernel
theorem dX12_mayNeed_23 : decode cX12_mayNeed 23 = .ok (.iconst 1, 1) := by decide +kernel
theorem dX12_mayNeed_24 : decode cX12_mayNeed 24 = .ok (.goto 4, 3) := by decide +kernel
theorem dX12_mayNeed_27 : decode cX12_mayNeed 27 = .ok (.iconst 0, 1) := by decide +kernel
theorem dX12_mayNeed_28 : decode cX12_mayNeed 28 = .ok (.ireturn, 1) := by decide +kernel
theorem dX12_comes_0 : decode cX12_comes 0 = .ok (.aload_n 0, 1) := by decide +kernel
theorem dX12_comes_1 : decode cX12_comes 1 = .ok (.getfield 26, 3) := by decide +kernel
theorem dX12_comes_4 : decode cX12_comes 4 = .ok (.aload_n 0, 1) := by decide +kernel
theorem dX12_comes_5 : decode cX12_comes 5 = .ok (.getfield 101, 3) := by decide +kernel
theorem dX12_comes_8 : decode cX12_comes 8 = .ok (.iload_n 1, 1) := by decide +kernel
theorem dX12_comes_9 : decode cX12_comes 9 = .ok (.iastore, 1) := by decide +kernel
theorem dX12_comes_10 : decode cX12_comes 10 = .ok (.aload_n 0, 1) := by decide +kernel
theorem dX12_comes_11 : decode cX12_comes 11 = .ok (.getfield 38, 3) := by decide +kernel
theorem dX12_comes_14 : decode cX12_comes 14 = .ok (.aload_n 0, 1) := by decide +kernel
theorem dX12_comes_15 : decode cX12_comes 15 = .ok (.getfield 101, 3) := by decide +kernel
theorem dX12_comes_18 : decode cX12_comes 18 = .ok (.iload_n 2, 1) := by decide +kernel
theorem dX12_comes_19 : decode cX12_comes 19 = .ok (.iastore, 1) := by decide +kernel
theorem dX12_comes_20 : decode cX12_comes 20 = .ok (.aload_n 0, 1) := by decide +kernel
theorem dX12_comes_21 : decode cX12_comes 21 = .ok (.getfield 41, 3) := by decide +kernel
theorem dX12_comes_24 : decode cX12_comes 24 = .ok (.aload_n 0, 1) := by decide +kernel
theorem dX12_comes_25 : decode cX12_comes 25 = .ok (.getfield 101, 3) := by decide +kernel
theorem dX12_comes_28 : decode cX12_comes 28 = .ok (.iload_n 3, 1) := by decide +kernel
theorem dX12_comes_29 : decode cX12_comes 29 = .ok (.iastore, 1) := by decide +kernel
theorem dX12_comes_30 : decode cX12_comes 30 = .ok (.aload_n 0, 1) := by decide +kernel
theorem dX12_comes_31 : decode cX12_comes 31 = .ok (.dup, 1) := by decide +kernel
theorem dX12_comes_32 : decode cX12_comes 32 = .ok (.getfield 101, 3) := by decide +kernel
theorem dX12_comes_35 : decode cX12_comes 35 = .ok (.iconst 1, 1) := by decide +kernel
theorem dX12_comes_36 : decode cX12_comes 36 = .ok (.iadd, 1) := by decide +kernel
theorem dX12_comes_37 : decode cX12_comes 37 = .ok (.putfield 101, 3) := by decide +kernel
theorem dX12_comes_40 : decode cX12_comes 40 = .ok (.aload_n 0, 1) := by decide +kernel
theorem dX12_comes_41 : decode cX12_comes 41 = .ok (.getfield 68, 3) := by decide +kernel
theorem dX12_comes_44 : decode cX12_comes 44 = .ok (.sipush 247, 3) := by decide +kernel
theorem dX12_comes_47 : decode cX12_comes 47 = .ok (.dup2, 1) := by decide +kernel
theorem dX12_comes_48 : decode cX12_comes 48 = .ok (.iaload, 1) := by decide +kernel
theorem dX12_comes_49 : decode cX12_comes 49 = .ok (.iconst 1, 1) := by decide +kernel
theorem dX12_comes_50 : decode cX12_comes 50 = .ok (.iadd, 1) := by decide +kernel
theorem dX12_comes_51 : decode cX12_comes 51 = .ok (.iastore, 1) := by decide +kernel
theorem dX12_comes_52 : decode cX12_comes 52 = .ok (.aload_n 0, 1) := by decide +kernel
theorem dX12_comes_53 : decode cX12_comes 53 = .ok (.getfield 68, 3) := by decide +kernel
theorem dX12_comes_56 : decode cX12_comes 56 = .ok (.sipush 248, 3) := by decide +kernel
theorem dX12_comes_59 : decode cX12_comes 59 = .ok (.dup2, 1) := by decide +kernel
theorem dX12_comes_60 : decode cX12_comes 60 = .ok (.iaload, 1) := by decide +kernel
theorem dX12_comes_61 : decode cX12_comes 61 = .ok (.iconst 1, 1) := by decide +kernel
theorem dX12_comes_62 : decode cX12_comes 62 = .ok (.iadd, 1) := by decide +kernel
theorem dX12_comes_63 : decode cX12_comes 63 = .ok (.iastore, 1) := by decide +kernel
theorem dX12_comes_64 : decode cX12_comes 64 = .ok (.aload_n 0, 1) := by decide +kernel
theorem dX12_comes_65 : decode cX12_comes 65 = .ok (.getfield 101, 3) := by decide +kernel
theorem dX12_comes_68 : decode cX12_comes 68 = .ok (.iconst 1, 1) := by decide +kernel
theorem dX12_comes_69 : decode cX12_comes 69 = .ok (.isub, 1) := by decide +kernel
theorem dX12_comes_70 : decode cX12_comes 70 = .ok (.ireturn, 1) := by decide +kernel
theorem dX12_way_0 : decode cX12_way 0 = .ok (.aload_n 0, 1) := by decide +kernel
theorem dX12_way_1 : decode cX12_way 1 = .ok (.iconst 0, 1) := by decide +kernel
theorem dX12_way_2 : decode cX12_way 2 = .ok (.putfield 96, 3) := by decide +kernel
theorem dX12_way_5 : decode cX12_way 5 = .ok (.iload_n 2, 1) := by decide +kernel
theorem dX12_way_6 : decode cX12_way 6 = .ok (.iconst 1, 1) := by decide +kernel
theorem dX12_way_7 : decode cX12_way 7 = .ok (.ldc 141, 2) := by decide +kernel
theorem dX12_way_9 : decode cX12_way 9 = .ok (.invokestatic 107, 3) := by decide +kernel
theorem dX12_way_12 : decode cX12_way 12 = .ok (.ifCond .eq 27, 3) := by decide +kernel
theorem dX12_way_15 : decode cX12_way 15 = .ok (.lload_n 3, 1) := by decide +kernel
theorem dX12_way_16 : decode cX12_way 16 = .ok (.ldc2_w 99, 3) := by decide +kernel
theorem dX12_way_19 : decode cX12_way 19 = .ok (.lcmp, 1) := by decide +kernel
theorem dX12_way_20 : decode cX12_way 20 = .ok (.ifCond .eq 19, 3) := by decide +kernel
theorem dX12_way_23 : decode cX12_way 23 = .ok (.iload 5, 2) := by decide +kernel
theorem dX12_way_25 : decode cX12_way 25 = .ok (.ifCond .lt 14, 3) := by decide +kernel
theorem dX12_way_28 : decode cX12_way 28 = .ok (.aload_n 0, 1) := by decide +kernel
theorem dX12_way_29 : decode cX12_way 29 = .ok (.iload 6, 2) := by decide +kernel
theorem dX12_way_31 : decode cX12_way 31 = .ok (.iload 7, 2) := by decide +kernel
theorem dX12_way_33 : decode cX12_way 33 = .ok (.invokevirtual 142, 3) := by decide +kernel
theorem dX12_way_36 : decode cX12_way 36 = .ok (.ifCond .ne 5, 3) := by decide +kernel
theorem dX12_way_39 : decode cX12_way 39 = .ok (.iconst (-1), 1) := by decide +kernel
theorem dX12_way_40 : decode cX12_way 40 = .ok (.ireturn, 1) := by decide +kernel
theorem dX12_way_41 : decode cX12_way 41 = .ok (.aload_n 0, 1) := by decide +kernel
theorem dX12_way_42 : decode cX12_way 42 = .ok (.invokevirtual 114, 3) := by decide +kernel
theorem dX12_way_45 : decode cX12_way 45 = .ok (.ifCond .eq 6, 3) := by decide +kernel
theorem dX12_way_48 : decode cX12_way 48 = .ok (.bipush (-2), 2) := by decide +kernel
theorem dX12_way_50 : decode cX12_way 50 = .ok (.ireturn, 1) := by decide +kernel
theorem dX12_way_51 : decode cX12_way 51 = .ok (.aload_n 0, 1) := by decide +kernel
theorem dX12_way_52 : decode cX12_way 52 = .ok (.getfield 101, 3) := by decide +kernel
theorem dX12_way_55 : decode cX12_way 55 = .ok (.bipush 20, 2) := by decide +kernel
theorem dX12_way_57 : decode cX12_way 57 = .ok (.if_icmp .ne 6, 3) := by decide +kernel
theorem dX12_way_60 : decode cX12_way 60 = .ok (.bipush (-3), 2) := by decide +kernel
theorem dX12_way_62 : decode cX12_way 62 = .ok (.ireturn, 1) := by decide +kernel
theorem dX12_way_63 : decode cX12_way 63 = .ok (.aload_n 0, 1) := by decide +kernel
theorem dX12_way_64 : decode cX12_way 64 = .ok (.getfield 29, 3) := by decide +kernel
theorem dX12_way_67 : decode cX12_way 67 = .ok (.aload_n 0, 1) := by decide +kernel
theorem dX12_way_68 : decode cX12_way 68 = .ok (.getfield 101, 3) := by decide +kernel
theorem dX12_way_71 : decode cX12_way 71 = .ok (.iload_n 2, 1) := by decide +kernel
theorem dX12_way_72 : decode cX12_way 72 = .ok (.iastore, 1) := by decide +kernel
theorem dX12_way_73 : decode cX12_way 73 = .ok (.aload_n 0, 1) := by decide +kernel
theorem dX12_way_74 : decode cX12_way 74 = .ok (.getfield 32, 3) := by decide +kernel
theorem dX12_way_77 : decode cX12_way 77 = .ok (.aload_n 0, 1) := by decide +kernel
theorem dX12_way_78 : decode cX12_way 78 = .ok (.getfield 101, 3) := by decide +kernel
theorem dX12_way_81 : decode cX12_way 81 = .ok (.lload_n 3, 1) := by decide +kernel
theorem dX12_way_82 : decode cX12_way 82 = .ok (.lastore, 1) := by decide +kernel
theorem dX12_way_83 : decode cX12_way 83 = .ok (.aload_n 0, 1) := by decide +kernel
theorem dX12_way_84 : decode cX12_way 84 = .ok (.getfield 35, 3) := by decide +kernel
theorem dX12_way_87 : decode cX12_way 87 = .ok (.aload_n 0, 1) := by decide +kernel
theorem dX12_way_88 : decode cX12_way 88 = .ok (.getfield 101, 3) := by decide +kernel
theorem dX12_way_91 : decode cX12_way 91 = .ok (.iload 5, 2) := by decide +kernel
theorem dX12_way_93 : decode cX12_way 93 = .ok (.iastore, 1) := by decide +kernel
theorem dX12_way_94 : decode cX12_way 94 = .ok (.aload_n 0, 1) := by decide +kernel
theorem dX12_way_95 : decode cX12_way 95 = .ok (.iload_n 1, 1) := by decide +kernel
theorem dX12_way_96 : decode cX12_way 96 = .ok (.ifCond .eq 7, 3) := by decide +kernel
theorem dX12_way_99 : decode cX12_way 99 = .ok (.iconst 1, 1) := by decide +kernel
theorem dX12_way_100 : decode cX12_way 100 = .ok (.goto 4, 3) := by decide +kernel
theorem dX12_way_103 : decode cX12_way 103 = .ok (.iconst 0, 1) := by decide +kernel
theorem dX12_way_104 : decode cX12_way 104 = .ok (.iload 6, 2) := by decide +kernel
theorem dX12_way_106 : decode cX12_way 106 = .ok (.iload 7, 2) := by decide +kernel
theorem dX12_way_108 : decode cX12_way 108 = .ok (.invokevirtual 145, 3) := by decide +kernel
theorem dX12_way_111 : decode cX12_way 111 = .ok (.ireturn, 1) := by decide +kernel
theorem dX12_reader_0 : decode cX12_reader 0 = .ok (.aload_n 0, 1) := by decide +kernel
theorem dX12_reader_1 : decode cX12_reader 1 = .ok (.iconst 0, 1) := by decide +kernel
theorem dX12_reader_2 : decode cX12_reader 2 = .ok (.putfield 96, 3) := by decide +kernel
theorem dX12_reader_5 : decode cX12_reader 5 = .ok (.aload_n 0, 1) := by decide +kernel
theorem dX12_reader_6 : decode cX12_reader 6 = .ok (.iload_n 2, 1) := by decide +kernel
theorem dX12_reader_7 : decode cX12_reader 7 = .ok (.invokevirtual 122, 3) := by decide +kernel
theorem dX12_reader_10 : decode cX12_reader 10 = .ok (.ifCond .eq 23, 3) := by decide +kernel
theorem dX12_reader_13 : decode cX12_reader 13 = .ok (.iload_n 3, 1) := by decide +kernel
theorem dX12_reader_14 : decode cX12_reader 14 = .ok (.iconst 0, 1) := by decide +kernel
theorem dX12_reader_15 : decode cX12_reader 15 = .ok (.iconst 5, 1) := by decide +kernel
theorem dX12_reader_16 : decode cX12_reader 16 = .ok (.invokestatic 107, 3) := by decide +kernel
theorem dX12_reader_19 : decode cX12_reader 19 = .ok (.ifCond .eq 14, 3) := by decide +kernel
theorem dX12_reader_22 : decode cX12_reader 22 = .ok (.aload_n 0, 1) := by decide +kernel
theorem dX12_reader_23 : decode cX12_reader 23 = .ok (.iload 4, 2) := by decide +kernel
theorem dX12_reader_25 : decode cX12_reader 25 = .ok (.iload 5, 2) := by decide +kernel
theorem dX12_reader_27 : decode cX12_reader 27 = .ok (.invokevirtual 142, 3) := by decide +kernel
theorem dX12_reader_30 : decode cX12_reader 30 = .ok (.ifCond .ne 5, 3) := by decide +kernel
theorem dX12_reader_33 : decode cX12_reader 33 = .ok (.iconst (-1), 1) := by decide +kernel
theorem dX12_reader_34 : decode cX12_reader 34 = .ok (.ireturn, 1) := by decide +kernel
theorem dX12_reader_35 : decode cX12_reader 35 = .ok (.aload_n 0, 1) := by decide +kernel
theorem dX12_reader_36 : decode cX12_reader 36 = .ok (.invokevirtual 114, 3) := by decide +kernel
theorem dX12_reader_39 : decode cX12_reader 39 = .ok (.ifCond .eq 6, 3) := by decide +kernel
theorem dX12_reader_42 : decode cX12_reader 42 = .ok (.bipush (-2), 2) := by decide +kernel
theorem dX12_reader_44 : decode cX12_reader 44 = .ok (.ireturn, 1) := by decide +kernel
theorem dX12_reader_45 : decode cX12_reader 45 = .ok (.aload_n 0, 1) := by decide +kernel
theorem dX12_reader_46 : decode cX12_reader 46 = .ok (.getfield 101, 3) := by decide +kernel
theorem dX12_reader_49 : decode cX12_reader 49 = .ok (.bipush 20, 2) := by decide +kernel
theorem dX12_reader_51 : decode cX12_reader 51 = .ok (.if_icmp .ne 6, 3) := by decide +kernel
theorem dX12_reader_54 : decode cX12_reader 54 = .ok (.bipush (-3), 2) := by decide +kernel
theorem dX12_reader_56 : decode cX12_reader 56 = .ok (.ireturn, 1) := by decide +kernel
theorem dX12_reader_57 : decode cX12_reader 57 = .ok (.aload_n 0, 1) := by decide +kernel
theorem dX12_reader_58 : decode cX12_reader 58 = .ok (.getfield 44, 3) := by decide +kernel
theorem dX12_reader_61 : decode cX12_reader 61 = .ok (.aload_n 0, 1) := by decide +kernel
theorem dX12_reader_62 : decode cX12_reader 62 = .ok (.getfield 101, 3) := by decide +kernel
theorem dX12_reader_65 : decode cX12_reader 65 = .ok (.iload_n 2, 1) := by decide +kernel
theorem dX12_reader_66 : decode cX12_reader 66 = .ok (.iastore, 1) := by decide +kernel
theorem dX12_reader_67 : decode cX12_reader 67 = .ok (.aload_n 0, 1) := by decide +kernel
theorem dX12_reader_68 : decode cX12_reader 68 = .ok (.getfield 47, 3) := by decide +kernel
theorem dX12_reader_71 : decode cX12_reader 71 = .ok (.aload_n 0, 1) := by decide +kernel
theorem dX12_reader_72 : decode cX12_reader 72 = .ok (.getfield 101, 3) := by decide +kernel
theorem dX12_reader_75 : decode cX12_reader 75 = .ok (.iload_n 3, 1) := by decide +kernel
theorem dX12_reader_76 : decode cX12_reader 76 = .ok (.iastore, 1) := by decide +kernel
theorem dX12_reader_77 : decode cX12_reader 77 = .ok (.aload_n 0, 1) := by decide +kernel
theorem dX12_reader_78 : decode cX12_reader 78 = .ok (.iload_n 1, 1) := by decide +kernel
theorem dX12_reader_79 : decode cX12_reader 79 = .ok (.ifCond .eq 7, 3) := by decide +kernel
theorem dX12_reader_82 : decode cX12_reader 82 = .ok (.iconst 3, 1) := by decide +kernel
theorem dX12_reader_83 : decode cX12_reader 83 = .ok (.goto 4, 3) := by decide +kernel
theorem dX12_reader_86 : decode cX12_reader 86 = .ok (.iconst 2, 1) := by decide +kernel
theorem dX12_reader_87 : decode cX12_reader 87 = .ok (.iload 4, 2) := by decide +kernel
theorem dX12_reader_89 : decode cX12_reader 89 = .ok (.iload 5, 2) := by decide +kernel
theorem dX12_reader_91 : decode cX12_reader 91 = .ok (.invokevirtual 145, 3) := by decide +kernel
theorem dX12_reader_94 : decode cX12_reader 94 = .ok (.ireturn, 1) := by decide +kernel
theorem dX12_search_0 : decode cX12_search 0 = .ok (.aload_n 0, 1) := by decide +kernel
theorem dX12_search_1 : decode cX12_search 1 = .ok (.iconst 0, 1) := by decide +kernel
theorem dX12_search_2 : decode cX12_search 2 = .ok (.putfield 96, 3) := by decide +kernel
theorem dX12_search_5 : decode cX12_search 5 = .ok (.aload_n 0, 1) := by decide +kernel
theorem dX12_search_6 : decode cX12_search 6 = .ok (.iload_n 1, 1) := by decide +kernel
theorem dX12_search_7 : decode cX12_search 7 = .ok (.invokevirtual 122, 3) := by decide +kernel
theorem dX12_search_10 : decode cX12_search 10 = .ok (.ifCond .eq 29, 3) := by decide +kernel
theorem dX12_search_13 : decode cX12_search 13 = .ok (.iload_n 2, 1) := by decide +kernel
theorem dX12_search_14 : decode cX12_search 14 = .ok (.iconst 0, 1) := by decide +kernel
theorem dX12_search_15 : decode cX12_search 15 = .ok (.iconst 5, 1) := by decide +kernel
theorem dX12_search_16 : decode cX12_search 16 = .ok (.invokestatic 107, 3) := by decide +kernel
theorem dX12_search_19 : decode cX12_search 19 = .ok (.ifCond .eq 20, 3) := by decide +kernel
theorem dX12_search_22 : decode cX12_search 22 = .ok (.iload_n 3, 1) := by decide +kernel
theorem dX12_search_23 : decode cX12_search 23 = .ok (.iconst 0, 1) := by decide +kernel
theorem dX12_search_24 : decode cX12_search 24 = .ok (.bipush 100, 2) := by decide +kernel
theorem dX12_search_26 : decode cX12_search 26 = .ok (.invokestatic 107, 3) := by decide +kernel
theorem dX12_search_29 : decode cX12_search 29 = .ok (.ifCond .eq 10, 3) := by decide +kernel
theorem dX12_search_32 : decode cX12_search 32 = .ok (.lload 4, 2) := by decide +kernel
theorem dX12_search_34 : decode cX12_search 34 = .ok (.lconst 0, 1) := by decide +kernel
theorem dX12_search_35 : decode cX12_search 35 = .ok (.lcmp, 1) := by decide +kernel
theorem dX12_search_36 : decode cX12_search 36 = .ok (.ifCond .ge 5, 3) := by decide +kernel
theorem dX12_search_39 : decode cX12_search 39 = .ok (.iconst (-1), 1) := by decide +kernel
theorem dX12_search_40 : decode cX12_search 40 = .ok (.ireturn, 1) := by decide +kernel
theorem dX12_search_41 : decode cX12_search 41 = .ok (.aload_n 0, 1) := by decide +kernel
theorem dX12_search_42 : decode cX12_search 42 = .ok (.invokevirtual 114, 3) := by decide +kernel
theorem dX12_search_45 : decode cX12_search 45 = .ok (.ifCond .eq 6, 3) := by decide +kernel
theorem dX12_search_48 : decode cX12_search 48 = .ok (.bipush (-2), 2) := by decide +kernel
theorem dX12_search_50 : decode cX12_search 50 = .ok (.ireturn, 1) := by decide +kernel
theorem dX12_search_51 : decode cX12_search 51 = .ok (.aload_n 0, 1) := by decide +kernel
theorem dX12_search_52 : decode cX12_search 52 = .ok (.getfield 148, 3) := by decide +kernel
theorem dX12_search_55 : decode cX12_search 55 = .ok (.bipush 8, 2) := by decide +kernel
theorem dX12_search_57 : decode cX12_search 57 = .ok (.if_icmp .ne 6, 3) := by decide +kernel
theorem dX12_search_60 : decode cX12_search 60 = .ok (.bipush (-3), 2) := by decide +kernel
theorem dX12_search_62 : decode cX12_search 62 = .ok (.ireturn, 1) := by decide +kernel
theorem dX12_search_63 : decode cX12_search 63 = .ok (.aload_n 0, 1) := by decide +kernel
theorem dX12_search_64 : decode cX12_search 64 = .ok (.getfield 53, 3) := by decide +kernel
theorem dX12_search_67 : decode cX12_search 67 = .ok (.aload_n 0, 1) := by decide +kernel
theorem dX12_search_68 : decode cX12_search 68 = .ok (.getfield 148, 3) := by decide +kernel
theorem dX12_search_71 : decode cX12_search 71 = .ok (.iload_n 1, 1) := by decide +kernel
theorem dX12_search_72 : decode cX12_search 72 = .ok (.iastore, 1) := by decide +kernel
theorem dX12_search_73 : decode cX12_search 73 = .ok (.aload_n 0, 1) := by decide +kernel
theorem dX12_search_74 : decode cX12_search 74 = .ok (.getfield 56, 3) := by decide +kernel
theorem dX12_search_77 : decode cX12_search 77 = .ok (.aload_n 0, 1) := by decide +kernel
theorem dX12_search_78 : decode cX12_search 78 = .ok (.getfield 148, 3) := by decide +kernel
theorem dX12_search_81 : decode cX12_search 81 = .ok (.iload_n 2, 1) := by decide +kernel
theorem dX12_search_82 : decode cX12_search 82 = .ok (.iastore, 1) := by decide +kernel
theorem dX12_search_83 : decode cX12_search 83 = .ok (.aload_n 0, 1) := by decide +kernel
theorem dX12_search_84 : decode cX12_search 84 = .ok (.getfield 59, 3) := by decide +kernel
theorem dX12_search_87 : decode cX12_search 87 = .ok (.aload_n 0, 1) := by decide +kernel
theorem dX12_search_88 : decode cX12_search 88 = .ok (.getfield 148, 3) := by decide +kernel
theorem dX12_search_91 : decode cX12_search 91 = .ok (.iload_n 3, 1) := by decide +kernel
theorem dX12_search_92 : decode cX12_search 92 = .ok (.iastore, 1) := by decide +kernel
theorem dX12_search_93 : decode cX12_search 93 = .ok (.aload_n 0, 1) := by decide +kernel
theorem dX12_search_94 : decode cX12_search 94 = .ok (.getfield 62, 3) := by decide +kernel
theorem dX12_search_97 : decode cX12_search 97 = .ok (.aload_n 0, 1) := by decide +kernel
theorem dX12_search_98 : decode cX12_search 98 = .ok (.getfield 148, 3) := by decide +kernel
theorem dX12_search_101 : decode cX12_search 101 = .ok (.lload 4, 2) := by decide +kernel
theorem dX12_search_103 : decode cX12_search 103 = .ok (.lastore, 1) := by decide +kernel
theorem dX12_search_104 : decode cX12_search 104 = .ok (.aload_n 0, 1) := by decide +kernel
theorem dX12_search_105 : decode cX12_search 105 = .ok (.getfield 74, 3) := by decide +kernel
theorem dX12_search_108 : decode cX12_search 108 = .ok (.bipush 28, 2) := by decide +kernel
theorem dX12_search_110 : decode cX12_search 110 = .ok (.aload_n 0, 1) := by decide +kernel
theorem dX12_search_111 : decode cX12_search 111 = .ok (.getfield 148, 3) := by decide +kernel
theorem dX12_search_114 : decode cX12_search 114 = .ok (.iadd, 1) := by decide +kernel
theorem dX12_search_115 : decode cX12_search 115 = .ok (.lload 4, 2) := by decide +kernel
theorem dX12_search_117 : decode cX12_search 117 = .ok (.lastore, 1) := by decide +kernel
theorem dX12_search_118 : decode cX12_search 118 = .ok (.aload_n 0, 1) := by decide +kernel
theorem dX12_search_119 : decode cX12_search 119 = .ok (.dup, 1) := by decide +kernel
theorem dX12_search_120 : decode cX12_search 120 = .ok (.getfield 148, 3) := by decide +kernel
theorem dX12_search_123 : decode cX12_search 123 = .ok (.iconst 1, 1) := by decide +kernel
theorem dX12_search_124 : decode cX12_search 124 = .ok (.iadd, 1) := by decide +kernel
theorem dX12_search_125 : decode cX12_search 125 = .ok (.putfield 148, 3) := by decide +kernel
theorem dX12_search_128 : decode cX12_search 128 = .ok (.aload_n 0, 1) := by decide +kernel
theorem dX12_search_129 : decode cX12_search 129 = .ok (.getfield 148, 3) := by decide +kernel
theorem dX12_search_132 : decode cX12_search 132 = .ok (.iconst 1, 1) := by decide +kernel
theorem dX12_search_133 : decode cX12_search 133 = .ok (.isub, 1) := by decide +kernel
theorem dX12_search_134 : decode cX12_search 134 = .ok (.ireturn, 1) := by decide +kernel
theorem dX12_share_0 : decode cX12_share 0 = .ok (.aload_n 0, 1) := by decide +kernel
theorem dX12_share_1 : decode cX12_share 1 = .ok (.iconst 0, 1) := by decide +kernel
theorem dX12_share_2 : decode cX12_share 2 = .ok (.putfield 96, 3) := by decide +kernel
theorem dX12_share_5 : decode cX12_share 5 = .ok (.iload_n 1, 1) := by decide +kernel
theorem dX12_share_6 : decode cX12_share 6 = .ok (.iconst 0, 1) := by decide +kernel
theorem dX12_share_7 : decode cX12_share 7 = .ok (.aload_n 0, 1) := by decide +kernel
theorem dX12_share_8 : decode cX12_share 8 = .ok (.getfield 148, 3) := by decide +kernel
theorem dX12_share_11 : decode cX12_share 11 = .ok (.iconst 1, 1) := by decide +kernel
theorem dX12_share_12 : decode cX12_share 12 = .ok (.isub, 1) := by decide +kernel
theorem dX12_share_13 : decode cX12_share 13 = .ok (.invokestatic 107, 3) := by decide +kernel
theorem dX12_share_16 : decode cX12_share 16 = .ok (.ifCond .eq 29, 3) := by decide +kernel
theorem dX12_share_19 : decode cX12_share 19 = .ok (.iload_n 2, 1) := by decide +kernel
theorem dX12_share_20 : decode cX12_share 20 = .ok (.ifCond .lt 25, 3) := by decide +kernel
theorem dX12_share_23 : decode cX12_share 23 = .ok (.iload_n 2, 1) := by decide +kernel
theorem dX12_share_24 : decode cX12_share 24 = .ok (.iload_n 3, 1) := by decide +kernel
theorem dX12_share_25 : decode cX12_share 25 = .ok (.if_icmp .gt 20, 3) := by decide +kernel
theorem dX12_share_28 : decode cX12_share 28 = .ok (.iload_n 3, 1) := by decide +kernel
theorem dX12_share_29 : decode cX12_share 29 = .ok (.bipush 20, 2) := by decide +kernel
theorem dX12_share_31 : decode cX12_share 31 = .ok (.if_icmp .gt 14, 3) := by decide +kernel
theorem dX12_share_34 : decode cX12_share 34 = .ok (.aload_n 0, 1) := by decide +kernel
theorem dX12_share_35 : decode cX12_share 35 = .ok (.iload 4, 2) := by decide +kernel
theorem dX12_share_37 : decode cX12_share 37 = .ok (.iload 5, 2) := by decide +kernel
theorem dX12_share_39 : decode cX12_share 39 = .ok (.invokevirtual 142, 3) := by decide +kernel
theorem dX12_share_42 : decode cX12_share 42 = .ok (.ifCond .ne 5, 3) := by decide +kernel
theorem dX12_share_45 : decode cX12_share 45 = .ok (.iconst (-1), 1) := by decide +kernel
theorem dX12_share_46 : decode cX12_share 46 = .ok (.ireturn, 1) := by decide +kernel
theorem dX12_share_47 : decode cX12_share 47 = .ok (.aload_n 0, 1) := by decide +kernel
theorem dX12_share_48 : decode cX12_share 48 = .ok (.invokevirtual 114, 3) := by decide +kernel
theorem dX12_share_51 : decode cX12_share 51 = .ok (.ifCond .eq 6, 3) := by decide +kernel
theorem dX12_share_54 : decode cX12_share 54 = .ok (.bipush (-2), 2) := by decide +kernel
theorem dX12_share_56 : decode cX12_share 56 = .ok (.ireturn, 1) := by decide +kernel
theorem dX12_share_57 : decode cX12_share 57 = .ok (.aload_n 0, 1) := by decide +kernel
theorem dX12_share_58 : decode cX12_share 58 = .ok (.getfield 101, 3) := by decide +kernel
theorem dX12_share_61 : decode cX12_share 61 = .ok (.bipush 20, 2) := by decide +kernel
theorem dX12_share_63 : decode cX12_share 63 = .ok (.if_icmp .ne 6, 3) := by decide +kernel
theorem dX12_share_66 : decode cX12_share 66 = .ok (.bipush (-3), 2) := by decide +kernel
theorem dX12_share_68 : decode cX12_share 68 = .ok (.ireturn, 1) := by decide +kernel
theorem dX12_share_69 : decode cX12_share 69 = .ok (.aload_n 0, 1) := by decide +kernel
theorem dX12_share_70 : decode cX12_share 70 = .ok (.getfield 44, 3) := by decide +kernel
theorem dX12_share_73 : decode cX12_share 73 = .ok (.aload_n 0, 1) := by decide +kernel
theorem dX12_share_74 : decode cX12_share 74 = .ok (.getfield 101, 3) := by decide +kernel
theorem dX12_share_77 : decode cX12_share 77 = .ok (.iload_n 1, 1) := by decide +kernel
theorem dX12_share_78 : decode cX12_share 78 = .ok (.iastore, 1) := by decide +kernel
theorem dX12_share_79 : decode cX12_share 79 = .ok (.aload_n 0, 1) := by decide +kernel
theorem dX12_share_80 : decode cX12_share 80 = .ok (.getfield 47, 3) := by decide +kernel
theorem dX12_share_83 : decode cX12_share 83 = .ok (.aload_n 0, 1) := by decide +kernel
theorem dX12_share_84 : decode cX12_share 84 = .ok (.getfield 101, 3) := by decide +kernel
theorem dX12_share_87 : decode cX12_share 87 = .ok (.iload_n 2, 1) := by decide +kernel
theorem dX12_share_88 : decode cX12_share 88 = .ok (.iastore, 1) := by decide +kernel
theorem dX12_share_89 : decode cX12_share 89 = .ok (.aload_n 0, 1) := by decide +kernel
theorem dX12_share_90 : decode cX12_share 90 = .ok (.getfield 50, 3) := by decide +kernel
theorem dX12_share_93 : decode cX12_share 93 = .ok (.aload_n 0, 1) := by decide +kernel
theorem dX12_share_94 : decode cX12_share 94 = .ok (.getfield 101, 3) := by decide +kernel
theorem dX12_share_97 : decode cX12_share 97 = .ok (.iload_n 3, 1) := by decide +kernel
theorem dX12_share_98 : decode cX12_share 98 = .ok (.iastore, 1) := by decide +kernel
theorem dX12_share_99 : decode cX12_share 99 = .ok (.aload_n 0, 1) := by decide +kernel
theorem dX12_share_100 : decode cX12_share 100 = .ok (.iconst 4, 1) := by decide +kernel
theorem dX12_share_101 : decode cX12_share 101 = .ok (.iload 4, 2) := by decide +kernel
theorem dX12_share_103 : decode cX12_share 103 = .ok (.iload 5, 2) := by decide +kernel
theorem dX12_share_105 : decode cX12_share 105 = .ok (.invokevirtual 145, 3) := by decide +kernel
theorem dX12_share_108 : decode cX12_share 108 = .ok (.ireturn, 1) := by decide +kernel
theorem dX12_turn_0 : decode cX12_turn 0 = .ok (.aload_n 0, 1) := by decide +kernel
theorem dX12_turn_1 : decode cX12_turn 1 = .ok (.iconst 0, 1) := by decide +kernel
theorem dX12_turn_2 : decode cX12_turn 2 = .ok (.putfield 96, 3) := by decide +kernel
theorem dX12_turn_5 : decode cX12_turn 5 = .ok (.iload_n 1, 1) := by decide +kernel
theorem dX12_turn_6 : decode cX12_turn 6 = .ok (.iconst 0, 1) := by decide +kernel
theorem dX12_turn_7 : decode cX12_turn 7 = .ok (.aload_n 0, 1) := by decide +kernel
theorem dX12_turn_8 : decode cX12_turn 8 = .ok (.getfield 86, 3) := by decide +kernel
theorem dX12_turn_11 : decode cX12_turn 11 = .ok (.iconst 1, 1) := by decide +kernel
theorem dX12_turn_12 : decode cX12_turn 12 = .ok (.isub, 1) := by decide +kernel
theorem dX12_turn_13 : decode cX12_turn 13 = .ok (.invokestatic 107, 3) := by decide +kernel
theorem dX12_turn_16 : decode cX12_turn 16 = .ok (.ifCond .ne 5, 3) := by decide +kernel
theorem dX12_turn_19 : decode cX12_turn 19 = .ok (.iconst (-1), 1) := by decide +kernel
theorem dX12_turn_20 : decode cX12_turn 20 = .ok (.ireturn, 1) := by decide +kernel
theorem dX12_turn_21 : decode cX12_turn 21 = .ok (.aload_n 0, 1) := by decide +kernel
theorem dX12_turn_22 : decode cX12_turn 22 = .ok (.invokevirtual 114, 3) := by decide +kernel
theorem dX12_turn_25 : decode cX12_turn 25 = .ok (.ifCond .eq 6, 3) := by decide +kernel
theorem dX12_turn_28 : decode cX12_turn 28 = .ok (.bipush (-2), 2) := by decide +kernel
theorem dX12_turn_30 : decode cX12_turn 30 = .ok (.ireturn, 1) := by decide +kernel
theorem dX12_turn_31 : decode cX12_turn 31 = .ok (.aload_n 0, 1) := by decide +kernel
theorem dX12_turn_32 : decode cX12_turn 32 = .ok (.getfield 151, 3) := by decide +kernel
theorem dX12_turn_35 : decode cX12_turn 35 = .ok (.sipush 400, 3) := by decide +kernel
theorem dX12_turn_38 : decode cX12_turn 38 = .ok (.if_icmp .ne 6, 3) := by decide +kernel
theorem dX12_turn_41 : decode cX12_turn 41 = .ok (.bipush (-3), 2) := by decide +kernel
theorem dX12_turn_43 : decode cX12_turn 43 = .ok (.ireturn, 1) := by decide +kernel
theorem dX12_turn_44 : decode cX12_turn 44 = .ok (.aload_n 0, 1) := by decide +kernel
theorem dX12_turn_45 : decode cX12_turn 45 = .ok (.getfield 65, 3) := by decide +kernel
theorem dX12_turn_48 : decode cX12_turn 48 = .ok (.aload_n 0, 1) := by decide +kernel
theorem dX12_turn_49 : decode cX12_turn 49 = .ok (.getfield 151, 3) := by decide +kernel
theorem dX12_turn_52 : decode cX12_turn 52 = .ok (.iload_n 1, 1) := by decide +kernel
theorem dX12_turn_53 : decode cX12_turn 53 = .ok (.iastore, 1) := by decide +kernel
theorem dX12_turn_54 : decode cX12_turn 54 = .ok (.aload_n 0, 1) := by decide +kernel
theorem dX12_turn_55 : decode cX12_turn 55 = .ok (.dup, 1) := by decide +kernel
theorem dX12_turn_56 : decode cX12_turn 56 = .ok (.getfield 151, 3) := by decide +kernel
theorem dX12_turn_59 : decode cX12_turn 59 = .ok (.iconst 1, 1) := by decide +kernel
theorem dX12_turn_60 : decode cX12_turn 60 = .ok (.iadd, 1) := by decide +kernel
theorem dX12_turn_61 : decode cX12_turn 61 = .ok (.putfield 151, 3) := by decide +kernel
theorem dX12_turn_64 : decode cX12_turn 64 = .ok (.aload_n 0, 1) := by decide +kernel
theorem dX12_turn_65 : decode cX12_turn 65 = .ok (.getfield 151, 3) := by decide +kernel
theorem dX12_turn_68 : decode cX12_turn 68 = .ok (.ireturn, 1) := by decide +kernel
theorem dX12_at_0 : decode cX12_at 0 = .ok (.aload_n 0, 1) := by decide +kernel
theorem dX12_at_1 : decode cX12_at 1 = .ok (.getfield 68, 3) := by decide +kernel
theorem dX12_at_4 : decode cX12_at 4 = .ok (.bipush 12, 2) := by decide +kernel
theorem dX12_at_6 : decode cX12_at 6 = .ok (.iload_n 1, 1) := by decide +kernel
theorem dX12_at_7 : decode cX12_at 7 = .ok (.imul, 1) := by decide +kernel
theorem dX12_at_8 : decode cX12_at 8 = .ok (.iload_n 2, 1) := by decide +kernel
theorem dX12_at_9 : decode cX12_at 9 = .ok (.iadd, 1) := by decide +kernel
theorem dX12_at_10 : decode cX12_at 10 = .ok (.iaload, 1) := by decide +kernel
theorem dX12_at_11 : decode cX12_at 11 = .ok (.ireturn, 1) := by decide +kernel
theorem dX12_set_0 : decode cX12_set 0 = .ok (.aload_n 0, 1) := by decide +kernel
theorem dX12_set_1 : decode cX12_set 1 = .ok (.getfield 68, 3) := by decide +kernel
theorem dX12_set_4 : decode cX12_set 4 = .ok (.bipush 12, 2) := by decide +kernel
theorem dX12_set_6 : decode cX12_set 6 = .ok (.iload_n 1, 1) := by decide +kernel
theorem dX12_set_7 : decode cX12_set 7 = .ok (.imul, 1) := by decide +kernel
theorem dX12_set_8 : decode cX12_set 8 = .ok (.iload_n 2, 1) := by decide +kernel
theorem dX12_set_9 : decode cX12_set 9 = .ok (.iadd, 1) := by decide +kernel
theorem dX12_set_10 : decode cX12_set 10 = .ok (.iload_n 3, 1) := by decide +kernel
theorem dX12_set_11 : decode cX12_set 11 = .ok (.iastore, 1) := by decide +kernel
theorem dX12_set_12 : decode cX12_set 12 = .ok (.return_, 1) := by decide +kernel
theorem dX12_more_0 : decode cX12_more 0 = .ok (.aload_n 0, 1) := by decide +kernel
theorem dX12_more_1 : decode cX12_more 1 = .ok (.getfield 68, 3) := by decide +kernel
theorem dX12_more_4 : decode cX12_more 4 = .ok (.bipush 12, 2) := by decide +kernel
theorem dX12_more_6 : decode cX12_more 6 = .ok (.iload_n 1, 1) := by decide +kernel
theorem dX12_more_7 : decode cX12_more 7 = .ok (.imul, 1) := by decide +kernel
theorem dX12_more_8 : decode cX12_more 8 = .ok (.iload_n 2, 1) := by decide +kernel
theorem dX12_more_9 : decode cX12_more 9 = .ok (.iadd, 1) := by decide +kernel
theorem dX12_more_10 : decode cX12_more 10 = .ok (.dup2, 1) := by decide +kernel
theorem dX12_more_11 : decode cX12_more 11 = .ok (.iaload, 1) := by decide +kernel
theorem dX12_more_12 : decode cX12_more 12 = .ok (.iconst 1, 1) := by decide +kernel
theorem dX12_more_13 : decode cX12_more 13 = .ok (.iadd, 1) := by decide +kernel
theorem dX12_more_14 : decode cX12_more 14 = .ok (.iastore, 1) := by decide +kernel
theorem dX12_more_15 : decode cX12_more 15 = .ok (.return_, 1) := by decide +kernel
theorem dX12_failed_0 : decode cX12_failed 0 = .ok (.aload_n 0, 1) := by decide +kernel
theorem dX12_failed_1 : decode cX12_failed 1 = .ok (.iload_n 1, 1) := by decide +kernel
theorem dX12_failed_2 : decode cX12_failed 2 = .ok (.iconst 1, 1) := by decide +kernel
theorem dX12_failed_3 : decode cX12_failed 3 = .ok (.iload_n 2, 1) := by decide +kernel
theorem dX12_failed_4 : decode cX12_failed 4 = .ok (.invokevirtual 154, 3) := by decide +kernel
theorem dX12_failed_7 : decode cX12_failed 7 = .ok (.iconst 3, 1) := by decide +kernel
theorem dX12_failed_8 : decode cX12_failed 8 = .ok (.ireturn, 1) := by decide +kernel
theorem dX12_worth_0 : decode cX12_worth 0 = .ok (.lload_n 0, 1) := by decide +kernel
theorem dX12_worth_1 : decode cX12_worth 1 = .ok (.lconst 0, 1) := by decide +kernel
theorem dX12_worth_2 : decode cX12_worth 2 = .ok (.lcmp, 1) := by decide +kernel
theorem dX12_worth_3 : decode cX12_worth 3 = .ok (.ifCond .gt 7, 3) := by decide +kernel
theorem dX12_worth_6 : decode cX12_worth 6 = .ok (.lconst 0, 1) := by decide +kernel
theorem dX12_worth_7 : decode cX12_worth 7 = .ok (.goto 18, 3) := by decide +kernel
theorem dX12_worth_10 : decode cX12_worth 10 = .ok (.lload_n 0, 1) := by decide +kernel
theorem dX12_worth_11 : decode cX12_worth 11 = .ok (.ldc2_w 158, 3) := by decide +kernel
theorem dX12_worth_14 : decode cX12_worth 14 = .ok (.lcmp, 1) := by decide +kernel
theorem dX12_worth_15 : decode cX12_worth 15 = .ok (.ifCond .le 9, 3) := by decide +kernel
theorem dX12_worth_18 : decode cX12_worth 18 = .ok (.ldc2_w 158, 3) := by decide +kernel
theorem dX12_worth_21 : decode cX12_worth 21 = .ok (.goto 4, 3) := by decide +kernel
theorem dX12_worth_24 : decode cX12_worth 24 = .ok (.lload_n 0, 1) := by decide +kernel
theorem dX12_worth_25 : decode cX12_worth 25 = .ok (.lreturn, 1) := by decide +kernel
theorem dX12_step_0 : decode cX12_step 0 = .ok (.aload_n 0, 1) := by decide +kernel
theorem dX12_step_1 : decode cX12_step 1 = .ok (.iload_n 1, 1) := by decide +kernel
theorem dX12_step_2 : decode cX12_step 2 = .ok (.iconst 2, 1) := by decide +kernel
theorem dX12_step_3 : decode cX12_step 3 = .ok (.invokevirtual 160, 3) := by decide +kernel
theorem dX12_step_6 : decode cX12_step 6 = .ok (.aload_n 0, 1) := by decide +kernel
theorem dX12_step_7 : decode cX12_step 7 = .ok (.getfield 26, 3) := by decide +kernel
theorem dX12_step_10 : decode cX12_step 10 = .ok (.iload_n 1, 1) := by decide +kernel
theorem dX12_step_11 : decode cX12_step 11 = .ok (.iaload, 1) := by decide +kernel
theorem dX12_step_12 : decode cX12_step 12 = .ok (.iconst 2, 1) := by decide +kernel
theorem dX12_step_13 : decode cX12_step 13 = .ok (.if_icmp .ge 11, 3) := by decide +kernel
theorem dX12_step_16 : decode cX12_step 16 = .ok (.aload_n 0, 1) := by decide +kernel
theorem dX12_step_17 : decode cX12_step 17 = .ok (.iload_n 1, 1) := by decide +kernel
theorem dX12_step_18 : decode cX12_step 18 = .ok (.invokevirtual 164, 3) := by decide +kernel
theorem dX12_step_21 : decode cX12_step 21 = .ok (.goto 26, 3) := by decide +kernel
theorem dX12_step_24 : decode cX12_step 24 = .ok (.aload_n 0, 1) := by decide +kernel
theorem dX12_step_25 : decode cX12_step 25 = .ok (.getfield 26, 3) := by decide +kernel
theorem dX12_step_28 : decode cX12_step 28 = .ok (.iload_n 1, 1) := by decide +kernel
theorem dX12_step_29 : decode cX12_step 29 = .ok (.iaload, 1) := by decide +kernel
theorem dX12_step_30 : decode cX12_step 30 = .ok (.iconst 4, 1) := by decide +kernel
theorem dX12_step_31 : decode cX12_step 31 = .ok (.if_icmp .ne 11, 3) := by decide +kernel
theorem dX12_step_34 : decode cX12_step 34 = .ok (.aload_n 0, 1) := by decide +kernel
theorem dX12_step_35 : decode cX12_step 35 = .ok (.iload_n 1, 1) := by decide +kernel
theorem dX12_step_36 : decode cX12_step 36 = .ok (.invokevirtual 167, 3) := by decide +kernel
theorem dX12_step_39 : decode cX12_step 39 = .ok (.goto 8, 3) := by decide +kernel
theorem dX12_step_42 : decode cX12_step 42 = .ok (.aload_n 0, 1) := by decide +kernel
theorem dX12_step_43 : decode cX12_step 43 = .ok (.iload_n 1, 1) := by decide +kernel
theorem dX12_step_44 : decode cX12_step 44 = .ok (.invokevirtual 170, 3) := by decide +kernel
theorem dX12_step_47 : decode cX12_step 47 = .ok (.istore_n 2, 1) := by decide +kernel
theorem dX12_step_48 : decode cX12_step 48 = .ok (.aload_n 0, 1) := by decide +kernel
theorem dX12_step_49 : decode cX12_step 49 = .ok (.getfield 26, 3) := by decide +kernel
theorem dX12_step_52 : decode cX12_step 52 = .ok (.iload_n 1, 1) := by decide +kernel
theorem dX12_step_53 : decode cX12_step 53 = .ok (.iaload, 1) := by decide +kernel
theorem dX12_step_54 : decode cX12_step 54 = .ok (.iconst 4, 1) := by decide +kernel
theorem dX12_step_55 : decode cX12_step 55 = .ok (.if_icmp .ne 13, 3) := by decide +kernel
theorem dX12_step_58 : decode cX12_step 58 = .ok (.aload_n 0, 1) := by decide +kernel
theorem dX12_step_59 : decode cX12_step 59 = .ok (.iload_n 1, 1) := by decide +kernel
theorem dX12_step_60 : decode cX12_step 60 = .ok (.bipush 9, 2) := by decide +kernel
theorem dX12_step_62 : decode cX12_step 62 = .ok (.invokevirtual 173, 3) := by decide +kernel
theorem dX12_step_65 : decode cX12_step 65 = .ok (.goto 9, 3) := by decide +kernel
theorem dX12_step_68 : decode cX12_step 68 = .ok (.aload_n 0, 1) := by decide +kernel
theorem dX12_step_69 : decode cX12_step 69 = .ok (.iload_n 1, 1) := by decide +kernel
theorem dX12_step_70 : decode cX12_step 70 = .ok (.iconst 2, 1) := by decide +kernel
theorem dX12_step_71 : decode cX12_step 71 = .ok (.invokevirtual 173, 3) := by decide +kernel
theorem dX12_step_74 : decode cX12_step 74 = .ok (.aload_n 0, 1) := by decide +kernel
theorem dX12_step_75 : decode cX12_step 75 = .ok (.getfield 41, 3) := by decide +kernel
theorem dX12_step_78 : decode cX12_step 78 = .ok (.iload_n 1, 1) := by decide +kernel
theorem dX12_step_79 : decode cX12_step 79 = .ok (.iaload, 1) := by decide +kernel
theorem dX12_step_80 : decode cX12_step 80 = .ok (.if_icmp .lt 7, 3) := by decide +kernel
theorem dX12_step_83 : decode cX12_step 83 = .ok (.iconst 1, 1) := by decide +kernel
theorem dX12_step_84 : decode cX12_step 84 = .ok (.goto 4, 3) := by decide +kernel
theorem dX12_step_87 : decode cX12_step 87 = .ok (.iconst 0, 1) := by decide +kernel
theorem dX12_step_88 : decode cX12_step 88 = .ok (.istore_n 3, 1) := by decide +kernel
theorem dX12_step_89 : decode cX12_step 89 = .ok (.iload_n 2, 1) := by decide +kernel
theorem dX12_step_90 : decode cX12_step 90 = .ok (.iconst 1, 1) := by decide +kernel
theorem dX12_step_91 : decode cX12_step 91 = .ok (.if_icmp .ne 11, 3) := by decide +kernel
theorem dX12_step_94 : decode cX12_step 94 = .ok (.iload_n 3, 1) := by decide +kernel
theorem dX12_step_95 : decode cX12_step 95 = .ok (.ifCond .eq 7, 3) := by decide +kernel
theorem dX12_step_98 : decode cX12_step 98 = .ok (.iconst 4, 1) := by decide +kernel
theorem dX12_step_99 : decode cX12_step 99 = .ok (.goto 4, 3) := by decide +kernel
theorem dX12_step_102 : decode cX12_step 102 = .ok (.iload_n 2, 1) := by decide +kernel
theorem dX12_step_103 : decode cX12_step 103 = .ok (.ireturn, 1) := by decide +kernel
theorem dX12_plain_0 : decode cX12_plain 0 = .ok (.aload_n 0, 1) := by decide +kernel
theorem dX12_plain_1 : decode cX12_plain 1 = .ok (.getfield 26, 3) := by decide +kernel
theorem dX12_plain_4 : decode cX12_plain 4 = .ok (.iload_n 1, 1) := by decide +kernel
theorem dX12_plain_5 : decode cX12_plain 5 = .ok (.iaload, 1) := by decide +kernel
theorem dX12_plain_6 : decode cX12_plain 6 = .ok (.ifCond .ne 7, 3) := by decide +kernel
theorem dX12_plain_9 : decode cX12_plain 9 = .ok (.lconst 1, 1) := by decide +kernel
theorem dX12_plain_10 : decode cX12_plain 10 = .ok (.goto 13, 3) := by decide +kernel
theorem dX12_plain_13 : decode cX12_plain 13 = .ok (.lconst 1, 1) := by decide +kernel
theorem dX12_plain_14 : decode cX12_plain 14 = .ok (.aload_n 0, 1) := by decide +kernel
theorem dX12_plain_15 : decode cX12_plain 15 = .ok (.iload_n 1, 1) := by decide +kernel
theorem dX12_plain_16 : decode cX12_plain 16 = .ok (.iconst 2, 1) := by decide +kernel
theorem dX12_plain_17 : decode cX12_plain 17 = .ok (.invokevirtual 173, 3) := by decide +kernel
theorem dX12_plain_20 : decode cX12_plain 20 = .ok (.iconst 1, 1) := by decide +kernel
theorem dX12_plain_21 : decode cX12_plain 21 = .ok (.isub, 1) := by decide +kernel
theorem dX12_plain_22 : decode cX12_plain 22 = .ok (.lshl, 1) := by decide +kernel
theorem dX12_plain_23 : decode cX12_plain 23 = .ok (.lstore_n 2, 1) := by decide +kernel
theorem dX12_plain_24 : decode cX12_plain 24 = .ok (.lconst 0, 1) := by decide +kernel
theorem dX12_plain_25 : decode cX12_plain 25 = .ok (.lstore 4, 2) := by decide +kernel
theorem dX12_plain_27 : decode cX12_plain 27 = .ok (.lload 4, 2) := by decide +kernel
theorem dX12_plain_29 : decode cX12_plain 29 = .ok (.lload_n 2, 1) := by decide +kernel
theorem dX12_plain_30 : decode cX12_plain 30 = .ok (.lcmp, 1) := by decide +kernel
theorem dX12_plain_31 : decode cX12_plain 31 = .ok (.ifCond .ge 56, 3) := by decide +kernel
theorem dX12_plain_34 : decode cX12_plain 34 = .ok (.aload_n 0, 1) := by decide +kernel
theorem dX12_plain_35 : decode cX12_plain 35 = .ok (.iload_n 1, 1) := by decide +kernel
theorem dX12_plain_36 : decode cX12_plain 36 = .ok (.iconst 4, 1) := by decide +kernel
theorem dX12_plain_37 : decode cX12_plain 37 = .ok (.invokevirtual 173, 3) := by decide +kernel
theorem dX12_plain_40 : decode cX12_plain 40 = .ok (.aload_n 0, 1) := by decide +kernel
theorem dX12_plain_41 : decode cX12_plain 41 = .ok (.getfield 29, 3) := by decide +kernel
theorem dX12_plain_44 : decode cX12_plain 44 = .ok (.iload_n 1, 1) := by decide +kernel
theorem dX12_plain_45 : decode cX12_plain 45 = .ok (.iaload, 1) := by decide +kernel
theorem dX12_plain_46 : decode cX12_plain 46 = .ok (.if_icmp .ge 41, 3) := by decide +kernel
theorem dX12_plain_49 : decode cX12_plain 49 = .ok (.aload_n 0, 1) := by decide +kernel
theorem dX12_plain_50 : decode cX12_plain 50 = .ok (.iload_n 1, 1) := by decide +kernel
theorem dX12_plain_51 : decode cX12_plain 51 = .ok (.iconst 4, 1) := by decide +kernel
theorem dX12_plain_52 : decode cX12_plain 52 = .ok (.invokevirtual 160, 3) := by decide +kernel
theorem dX12_plain_55 : decode cX12_plain 55 = .ok (.aload_n 0, 1) := by decide +kernel
theorem dX12_plain_56 : decode cX12_plain 56 = .ok (.iload_n 1, 1) := by decide +kernel
theorem dX12_plain_57 : decode cX12_plain 57 = .ok (.iconst 4, 1) := by decide +kernel
theorem dX12_plain_58 : decode cX12_plain 58 = .ok (.invokevirtual 173, 3) := by decide +kernel
theorem dX12_plain_61 : decode cX12_plain 61 = .ok (.aload_n 0, 1) := by decide +kernel
theorem dX12_plain_62 : decode cX12_plain 62 = .ok (.getfield 35, 3) := by decide +kernel
theorem dX12_plain_65 : decode cX12_plain 65 = .ok (.iload_n 1, 1) := by decide +kernel
theorem dX12_plain_66 : decode cX12_plain 66 = .ok (.iaload, 1) := by decide +kernel
theorem dX12_plain_67 : decode cX12_plain 67 = .ok (.if_icmp .ne 11, 3) := by decide +kernel
theorem dX12_plain_70 : decode cX12_plain 70 = .ok (.aload_n 0, 1) := by decide +kernel
theorem dX12_plain_71 : decode cX12_plain 71 = .ok (.iload_n 1, 1) := by decide +kernel
theorem dX12_plain_72 : decode cX12_plain 72 = .ok (.bipush 7, 2) := by decide +kernel
theorem dX12_plain_74 : decode cX12_plain 74 = .ok (.invokevirtual 177, 3) := by decide +kernel
theorem dX12_plain_77 : decode cX12_plain 77 = .ok (.ireturn, 1) := by decide +kernel
theorem dX12_plain_78 : decode cX12_plain 78 = .ok (.lload 4, 2) := by decide +kernel
theorem dX12_plain_80 : decode cX12_plain 80 = .ok (.lconst 1, 1) := by decide +kernel
theorem dX12_plain_81 : decode cX12_plain 81 = .ok (.ladd, 1) := by decide +kernel
theorem dX12_plain_82 : decode cX12_plain 82 = .ok (.lstore 4, 2) := by decide +kernel
theorem dX12_plain_84 : decode cX12_plain 84 = .ok (.goto (-57), 3) := by decide +kernel
theorem dX12_plain_87 : decode cX12_plain 87 = .ok (.aload_n 0, 1) := by decide +kernel
theorem dX12_plain_88 : decode cX12_plain 88 = .ok (.iload_n 1, 1) := by decide +kernel
theorem dX12_plain_89 : decode cX12_plain 89 = .ok (.iconst 4, 1) := by decide +kernel
theorem dX12_plain_90 : decode cX12_plain 90 = .ok (.invokevirtual 173, 3) := by decide +kernel
theorem dX12_plain_93 : decode cX12_plain 93 = .ok (.aload_n 0, 1) := by decide +kernel
theorem dX12_plain_94 : decode cX12_plain 94 = .ok (.getfield 29, 3) := by decide +kernel
theorem dX12_plain_97 : decode cX12_plain 97 = .ok (.iload_n 1, 1) := by decide +kernel
theorem dX12_plain_98 : decode cX12_plain 98 = .ok (.iaload, 1) := by decide +kernel
theorem dX12_plain_99 : decode cX12_plain 99 = .ok (.if_icmp .ne 7, 3) := by decide +kernel
theorem dX12_plain_102 : decode cX12_plain 102 = .ok (.iconst 2, 1) := by decide +kernel
theorem dX12_plain_103 : decode cX12_plain 103 = .ok (.goto 4, 3) := by decide +kernel
theorem dX12_plain_106 : decode cX12_plain 106 = .ok (.iconst 1, 1) := by decide +kernel
theorem dX12_plain_107 : decode cX12_plain 107 = .ok (.ireturn, 1) := by decide +kernel
theorem dX12_read_0 : decode cX12_read 0 = .ok (.aload_n 0, 1) := by decide +kernel
theorem dX12_read_1 : decode cX12_read 1 = .ok (.getfield 44, 3) := by decide +kernel
theorem dX12_read_4 : decode cX12_read 4 = .ok (.iload_n 1, 1) := by decide +kernel
theorem dX12_read_5 : decode cX12_read 5 = .ok (.iaload, 1) := by decide +kernel
theorem dX12_read_6 : decode cX12_read 6 = .ok (.istore_n 2, 1) := by decide +kernel
theorem dX12_read_7 : decode cX12_read 7 = .ok (.aload_n 0, 1) := by decide +kernel
theorem dX12_read_8 : decode cX12_read 8 = .ok (.getfield 7, 3) := by decide +kernel
theorem dX12_read_11 : decode cX12_read 11 = .ok (.iload_n 2, 1) := by decide +kernel
theorem dX12_read_12 : decode cX12_read 12 = .ok (.iaload, 1) := by decide +kernel
theorem dX12_read_13 : decode cX12_read 13 = .ok (.aload_n 0, 1) := by decide +kernel
theorem dX12_read_14 : decode cX12_read 14 = .ok (.getfield 47, 3) := by decide +kernel
theorem dX12_read_17 : decode cX12_read 17 = .ok (.iload_n 1, 1) := by decide +kernel
theorem dX12_read_18 : decode cX12_read 18 = .ok (.iaload, 1) := by decide +kernel
theorem dX12_read_19 : decode cX12_read 19 = .ok (.if_icmp .eq 10, 3) := by decide +kernel
theorem dX12_read_22 : decode cX12_read 22 = .ok (.aload_n 0, 1) := by decide +kernel
theorem dX12_read_23 : decode cX12_read 23 = .ok (.iload_n 1, 1) := by decide +kernel
theorem dX12_read_24 : decode cX12_read 24 = .ok (.iconst 3, 1) := by decide +kernel
theorem dX12_read_25 : decode cX12_read 25 = .ok (.invokevirtual 177, 3) := by decide +kernel
theorem dX12_read_28 : decode cX12_read 28 = .ok (.ireturn, 1) := by decide +kernel
theorem dX12_read_29 : decode cX12_read 29 = .ok (.aload_n 0, 1) := by decide +kernel
theorem dX12_read_30 : decode cX12_read 30 = .ok (.iload_n 1, 1) := by decide +kernel
theorem dX12_read_31 : decode cX12_read 31 = .ok (.bipush 7, 2) := by decide +kernel
theorem dX12_read_33 : decode cX12_read 33 = .ok (.invokevirtual 173, 3) := by decide +kernel
theorem dX12_read_36 : decode cX12_read 36 = .ok (.aload_n 0, 1) := by decide +kernel
theorem dX12_read_37 : decode cX12_read 37 = .ok (.getfield 13, 3) := by decide +kernel
theorem dX12_read_40 : decode cX12_read 40 = .ok (.iload_n 2, 1) := by decide +kernel
theorem dX12_read_41 : decode cX12_read 41 = .ok (.iaload, 1) := by decide +kernel
theorem dX12_read_42 : decode cX12_read 42 = .ok (.if_icmp .ge 140, 3) := by decide +kernel
theorem dX12_read_45 : decode cX12_read 45 = .ok (.aload_n 0, 1) := by decide +kernel
theorem dX12_read_46 : decode cX12_read 46 = .ok (.getfield 16, 3) := by decide +kernel
theorem dX12_read_49 : decode cX12_read 49 = .ok (.bipush 20, 2) := by decide +kernel
theorem dX12_read_51 : decode cX12_read 51 = .ok (.iload_n 2, 1) := by decide +kernel
theorem dX12_read_52 : decode cX12_read 52 = .ok (.imul, 1) := by decide +kernel
theorem dX12_read_53 : decode cX12_read 53 = .ok (.aload_n 0, 1) := by decide +kernel
theorem dX12_read_54 : decode cX12_read 54 = .ok (.iload_n 1, 1) := by decide +kernel
theorem dX12_read_55 : decode cX12_read 55 = .ok (.bipush 7, 2) := by decide +kernel
theorem dX12_read_57 : decode cX12_read 57 = .ok (.invokevirtual 173, 3) := by decide +kernel
theorem dX12_read_60 : decode cX12_read 60 = .ok (.iadd, 1) := by decide +kernel
theorem dX12_read_61 : decode cX12_read 61 = .ok (.iaload, 1) := by decide +kernel
theorem dX12_read_62 : decode cX12_read 62 = .ok (.istore_n 3, 1) := by decide +kernel
theorem dX12_read_63 : decode cX12_read 63 = .ok (.iload_n 3, 1) := by decide +kernel
theorem dX12_read_64 : decode cX12_read 64 = .ok (.ifCond .ge 20, 3) := by decide +kernel
theorem dX12_read_67 : decode cX12_read 67 = .ok (.aload_n 0, 1) := by decide +kernel
theorem dX12_read_68 : decode cX12_read 68 = .ok (.getfield 26, 3) := by decide +kernel
theorem dX12_read_71 : decode cX12_read 71 = .ok (.iload_n 1, 1) := by decide +kernel
theorem dX12_read_72 : decode cX12_read 72 = .ok (.iaload, 1) := by decide +kernel
theorem dX12_read_73 : decode cX12_read 73 = .ok (.iconst 2, 1) := by decide +kernel
theorem dX12_read_74 : decode cX12_read 74 = .ok (.if_icmp .ne 10, 3) := by decide +kernel
theorem dX12_read_77 : decode cX12_read 77 = .ok (.aload_n 0, 1) := by decide +kernel
theorem dX12_read_78 : decode cX12_read 78 = .ok (.iload_n 1, 1) := by decide +kernel
theorem dX12_read_79 : decode cX12_read 79 = .ok (.iconst 1, 1) := by decide +kernel
theorem dX12_read_80 : decode cX12_read 80 = .ok (.invokevirtual 177, 3) := by decide +kernel
theorem dX12_read_83 : decode cX12_read 83 = .ok (.ireturn, 1) := by decide +kernel
theorem dX12_read_84 : decode cX12_read 84 = .ok (.iload_n 3, 1) := by decide +kernel
theorem dX12_read_85 : decode cX12_read 85 = .ok (.ifCond .ge 19, 3) := by decide +kernel
theorem dX12_read_88 : decode cX12_read 88 = .ok (.aload_n 0, 1) := by decide +kernel
theorem dX12_read_89 : decode cX12_read 89 = .ok (.iload_n 1, 1) := by decide +kernel
theorem dX12_read_90 : decode cX12_read 90 = .ok (.bipush 6, 2) := by decide +kernel
theorem dX12_read_92 : decode cX12_read 92 = .ok (.invokevirtual 160, 3) := by decide +kernel
theorem dX12_read_95 : decode cX12_read 95 = .ok (.aload_n 0, 1) := by decide +kernel
theorem dX12_read_96 : decode cX12_read 96 = .ok (.iload_n 1, 1) := by decide +kernel
theorem dX12_read_97 : decode cX12_read 97 = .ok (.bipush 7, 2) := by decide +kernel
theorem dX12_read_99 : decode cX12_read 99 = .ok (.invokevirtual 160, 3) := by decide +kernel
theorem dX12_read_102 : decode cX12_read 102 = .ok (.iconst 1, 1) := by decide +kernel
theorem dX12_read_103 : decode cX12_read 103 = .ok (.ireturn, 1) := by decide +kernel
theorem dX12_read_104 : decode cX12_read 104 = .ok (.aload_n 0, 1) := by decide +kernel
theorem dX12_read_105 : decode cX12_read 105 = .ok (.iload_n 1, 1) := by decide +kernel
theorem dX12_read_106 : decode cX12_read 106 = .ok (.bipush 8, 2) := by decide +kernel
theorem dX12_read_108 : decode cX12_read 108 = .ok (.invokevirtual 173, 3) := by decide +kernel
theorem dX12_read_111 : decode cX12_read 111 = .ok (.aload_n 0, 1) := by decide +kernel
theorem dX12_read_112 : decode cX12_read 112 = .ok (.getfield 19, 3) := by decide +kernel
theorem dX12_read_115 : decode cX12_read 115 = .ok (.iload_n 3, 1) := by decide +kernel
theorem dX12_read_116 : decode cX12_read 116 = .ok (.iaload, 1) := by decide +kernel
theorem dX12_read_117 : decode cX12_read 117 = .ok (.if_icmp .ge 47, 3) := by decide +kernel
theorem dX12_read_120 : decode cX12_read 120 = .ok (.aload_n 0, 1) := by decide +kernel
theorem dX12_read_121 : decode cX12_read 121 = .ok (.getfield 74, 3) := by decide +kernel
theorem dX12_read_124 : decode cX12_read 124 = .ok (.iload_n 1, 1) := by decide +kernel
theorem dX12_read_125 : decode cX12_read 125 = .ok (.dup2, 1) := by decide +kernel
theorem dX12_read_126 : decode cX12_read 126 = .ok (.laload, 1) := by decide +kernel
theorem dX12_read_127 : decode cX12_read 127 = .ok (.aload_n 0, 1) := by decide +kernel
theorem dX12_read_128 : decode cX12_read 128 = .ok (.getfield 22, 3) := by decide +kernel
theorem dX12_read_131 : decode cX12_read 131 = .ok (.bipush 12, 2) := by decide +kernel
theorem dX12_read_133 : decode cX12_read 133 = .ok (.iload_n 3, 1) := by decide +kernel
theorem dX12_read_134 : decode cX12_read 134 = .ok (.imul, 1) := by decide +kernel
theorem dX12_read_135 : decode cX12_read 135 = .ok (.aload_n 0, 1) := by decide +kernel
theorem dX12_read_136 : decode cX12_read 136 = .ok (.iload_n 1, 1) := by decide +kernel
theorem dX12_read_137 : decode cX12_read 137 = .ok (.bipush 8, 2) := by decide +kernel
theorem dX12_read_139 : decode cX12_read 139 = .ok (.invokevirtual 173, 3) := by decide +kernel
theorem dX12_read_142 : decode cX12_read 142 = .ok (.iadd, 1) := by decide +kernel
theorem dX12_read_143 : decode cX12_read 143 = .ok (.laload, 1) := by decide +kernel
theorem dX12_read_144 : decode cX12_read 144 = .ok (.invokestatic 180, 3) := by decide +kernel
theorem dX12_read_147 : decode cX12_read 147 = .ok (.ladd, 1) := by decide +kernel
theorem dX12_read_148 : decode cX12_read 148 = .ok (.lastore, 1) := by decide +kernel
theorem dX12_read_149 : decode cX12_read 149 = .ok (.aload_n 0, 1) := by decide +kernel
theorem dX12_read_150 : decode cX12_read 150 = .ok (.iload_n 1, 1) := by decide +kernel
theorem dX12_read_151 : decode cX12_read 151 = .ok (.bipush 8, 2) := by decide +kernel
theorem dX12_read_153 : decode cX12_read 153 = .ok (.invokevirtual 160, 3) := by decide +kernel
theorem dX12_read_156 : decode cX12_read 156 = .ok (.aload_n 0, 1) := by decide +kernel
theorem dX12_read_157 : decode cX12_read 157 = .ok (.iload_n 1, 1) := by decide +kernel
theorem dX12_read_158 : decode cX12_read 158 = .ok (.iconst 4, 1) := by decide +kernel
theorem dX12_read_159 : decode cX12_read 159 = .ok (.invokevirtual 160, 3) := by decide +kernel
theorem dX12_read_162 : decode cX12_read 162 = .ok (.iconst 1, 1) := by decide +kernel
theorem dX12_read_163 : decode cX12_read 163 = .ok (.ireturn, 1) := by decide +kernel
theorem dX12_read_164 : decode cX12_read 164 = .ok (.aload_n 0, 1) := by decide +kernel
theorem dX12_read_165 : decode cX12_read 165 = .ok (.iload_n 1, 1) := by decide +kernel
theorem dX12_read_166 : decode cX12_read 166 = .ok (.bipush 7, 2) := by decide +kernel
theorem dX12_read_168 : decode cX12_read 168 = .ok (.invokevirtual 160, 3) := by decide +kernel
theorem dX12_read_171 : decode cX12_read 171 = .ok (.aload_n 0, 1) := by decide +kernel
theorem dX12_read_172 : decode cX12_read 172 = .ok (.iload_n 1, 1) := by decide +kernel
theorem dX12_read_173 : decode cX12_read 173 = .ok (.bipush 8, 2) := by decide +kernel
theorem dX12_read_175 : decode cX12_read 175 = .ok (.iconst 0, 1) := by decide +kernel
theorem dX12_read_176 : decode cX12_read 176 = .ok (.invokevirtual 154, 3) := by decide +kernel
theorem dX12_read_179 : decode cX12_read 179 = .ok (.goto (-150), 3) := by decide +kernel
theorem dX12_read_182 : decode cX12_read 182 = .ok (.iconst 2, 1) := by decide +kernel
theorem dX12_read_183 : decode cX12_read 183 = .ok (.ireturn, 1) := by decide +kernel
theorem dX12_lineFault_0 : decode cX12_lineFault 0 = .ok (.aload_n 0, 1) := by decide +kernel
theorem dX12_lineFault_1 : decode cX12_lineFault 1 = .ok (.getfield 53, 3) := by decide +kernel
theorem dX12_lineFault_4 : decode cX12_lineFault 4 = .ok (.iload_n 1, 1) := by decide +kernel
theorem dX12_lineFault_5 : decode cX12_lineFault 5 = .ok (.iaload, 1) := by decide +kernel
theorem dX12_lineFault_6 : decode cX12_lineFault 6 = .ok (.istore_n 3, 1) := by decide +kernel
theorem dX12_lineFault_7 : decode cX12_lineFault 7 = .ok (.aload_n 0, 1) := by decide +kernel
theorem dX12_lineFault_8 : decode cX12_lineFault 8 = .ok (.getfield 7, 3) := by decide +kernel
theorem dX12_lineFault_11 : decode cX12_lineFault 11 = .ok (.iload_n 3, 1) := by decide +kernel
theorem dX12_lineFault_12 : decode cX12_lineFault 12 = .ok (.iaload, 1) := by decide +kernel
theorem dX12_lineFault_13 : decode cX12_lineFault 13 = .ok (.aload_n 0, 1) := by decide +kernel
theorem dX12_lineFault_14 : decode cX12_lineFault 14 = .ok (.getfield 56, 3) := by decide +kernel
theorem dX12_lineFault_17 : decode cX12_lineFault 17 = .ok (.iload_n 1, 1) := by decide +kernel
theorem dX12_lineFault_18 : decode cX12_lineFault 18 = .ok (.iaload, 1) := by decide +kernel
theorem dX12_lineFault_19 : decode cX12_lineFault 19 = .ok (.if_icmp .eq 7, 3) := by decide +kernel
theorem dX12_lineFault_22 : decode cX12_lineFault 22 = .ok (.iconst 3, 1) := by decide +kernel
theorem dX12_lineFault_23 : decode cX12_lineFault 23 = .ok (.goto 35, 3) := by decide +kernel
theorem dX12_lineFault_26 : decode cX12_lineFault 26 = .ok (.aload_n 0, 1) := by decide +kernel
theorem dX12_lineFault_27 : decode cX12_lineFault 27 = .ok (.iload_n 3, 1) := by decide +kernel
theorem dX12_lineFault_28 : decode cX12_lineFault 28 = .ok (.iload_n 2, 1) := by decide +kernel
theorem dX12_lineFault_29 : decode cX12_lineFault 29 = .ok (.invokevirtual 126, 3) := by decide +kernel
theorem dX12_lineFault_32 : decode cX12_lineFault 32 = .ok (.ifCond .ne 7, 3) := by decide +kernel
theorem dX12_lineFault_35 : decode cX12_lineFault 35 = .ok (.iconst 2, 1) := by decide +kernel
theorem dX12_lineFault_36 : decode cX12_lineFault 36 = .ok (.goto 22, 3) := by decide +kernel
theorem dX12_lineFault_39 : decode cX12_lineFault 39 = .ok (.aload_n 0, 1) := by decide +kernel
theorem dX12_lineFault_40 : decode cX12_lineFault 40 = .ok (.getfield 16, 3) := by decide +kernel
theorem dX12_lineFault_43 : decode cX12_lineFault 43 = .ok (.bipush 20, 2) := by decide +kernel
theorem dX12_lineFault_45 : decode cX12_lineFault 45 = .ok (.iload_n 3, 1) := by decide +kernel
theorem dX12_lineFault_46 : decode cX12_lineFault 46 = .ok (.imul, 1) := by decide +kernel
theorem dX12_lineFault_47 : decode cX12_lineFault 47 = .ok (.iload_n 2, 1) := by decide +kernel
theorem dX12_lineFault_48 : decode cX12_lineFault 48 = .ok (.iadd, 1) := by decide +kernel
theorem dX12_lineFault_49 : decode cX12_lineFault 49 = .ok (.iaload, 1) := by decide +kernel
theorem dX12_lineFault_50 : decode cX12_lineFault 50 = .ok (.ifCond .ge 7, 3) := by decide +kernel
theorem dX12_lineFault_53 : decode cX12_lineFault 53 = .ok (.iconst 1, 1) := by decide +kernel
theorem dX12_lineFault_54 : decode cX12_lineFault 54 = .ok (.goto 4, 3) := by decide +kernel
theorem dX12_lineFault_57 : decode cX12_lineFault 57 = .ok (.iconst 0, 1) := by decide +kernel
theorem dX12_lineFault_58 : decode cX12_lineFault 58 = .ok (.ireturn, 1) := by decide +kernel
theorem dX12_finds_0 : decode cX12_finds 0 = .ok (.aload_n 0, 1) := by decide +kernel
theorem dX12_finds_1 : decode cX12_finds 1 = .ok (.getfield 68, 3) := by decide +kernel
theorem dX12_finds_4 : decode cX12_finds 4 = .ok (.sipush 302, 3) := by decide +kernel
theorem dX12_finds_7 : decode cX12_finds 7 = .ok (.iload_n 1, 1) := by decide +kernel
theorem dX12_finds_8 : decode cX12_finds 8 = .ok (.iadd, 1) := by decide +kernel
theorem dX12_finds_9 : decode cX12_finds 9 = .ok (.iaload, 1) := by decide +kernel
theorem dX12_finds_10 : decode cX12_finds 10 = .ok (.bipush (-9), 2) := by decide +kernel
theorem dX12_finds_12 : decode cX12_finds 12 = .ok (.if_icmp .eq 45, 3) := by decide +kernel
theorem dX12_finds_15 : decode cX12_finds 15 = .ok (.aload_n 0, 1) := by decide +kernel
theorem dX12_finds_16 : decode cX12_finds 16 = .ok (.getfield 74, 3) := by decide +kernel
theorem dX12_finds_19 : decode cX12_finds 19 = .ok (.bipush 20, 2) := by decide +kernel
theorem dX12_finds_21 : decode cX12_finds 21 = .ok (.iload_n 1, 1) := by decide +kernel
theorem dX12_finds_22 : decode cX12_finds 22 = .ok (.iadd, 1) := by decide +kernel
theorem dX12_finds_23 : decode cX12_finds 23 = .ok (.laload, 1) := by decide +kernel
theorem dX12_finds_24 : decode cX12_finds 24 = .ok (.lload_n 3, 1) := by decide +kernel
theorem dX12_finds_25 : decode cX12_finds 25 = .ok (.lcmp, 1) := by decide +kernel
theorem dX12_finds_26 : decode cX12_finds 26 = .ok (.ifCond .gt 31, 3) := by decide +kernel
theorem dX12_finds_29 : decode cX12_finds 29 = .ok (.aload_n 0, 1) := by decide +kernel
theorem dX12_finds_30 : decode cX12_finds 30 = .ok (.getfield 74, 3) := by decide +kernel
theorem dX12_finds_33 : decode cX12_finds 33 = .ok (.bipush 20, 2) := by decide +kernel
theorem dX12_finds_35 : decode cX12_finds 35 = .ok (.iload_n 1, 1) := by decide +kernel
theorem dX12_finds_36 : decode cX12_finds 36 = .ok (.iadd, 1) := by decide +kernel
theorem dX12_finds_37 : decode cX12_finds 37 = .ok (.laload, 1) := by decide +kernel
theorem dX12_finds_38 : decode cX12_finds 38 = .ok (.lload_n 3, 1) := by decide +kernel
theorem dX12_finds_39 : decode cX12_finds 39 = .ok (.lcmp, 1) := by decide +kernel
theorem dX12_finds_40 : decode cX12_finds 40 = .ok (.ifCond .ne 21, 3) := by decide +kernel
theorem dX12_finds_43 : decode cX12_finds 43 = .ok (.aload_n 0, 1) := by decide +kernel
theorem dX12_finds_44 : decode cX12_finds 44 = .ok (.getfield 68, 3) := by decide +kernel
theorem dX12_finds_47 : decode cX12_finds 47 = .ok (.sipush 302, 3) := by decide +kernel
theorem dX12_finds_50 : decode cX12_finds 50 = .ok (.iload_n 1, 1) := by decide +kernel
theorem dX12_finds_51 : decode cX12_finds 51 = .ok (.iadd, 1) := by decide +kernel
theorem dX12_finds_52 : decode cX12_finds 52 = .ok (.iaload, 1) := by decide +kernel
theorem dX12_finds_53 : decode cX12_finds 53 = .ok (.iload_n 2, 1) := by decide +kernel
theorem dX12_finds_54 : decode cX12_finds 54 = .ok (.if_icmp .le 7, 3) := by decide +kernel
theorem dX12_finds_57 : decode cX12_finds 57 = .ok (.iconst 1, 1) := by decide +kernel
theorem dX12_finds_58 : decode cX12_finds 58 = .ok (.goto 4, 3) := by decide +kernel
theorem dX12_finds_61 : decode cX12_finds 61 = .ok (.iconst 0, 1) := by decide +kernel
theorem dX12_finds_62 : decode cX12_finds 62 = .ok (.istore 5, 2) := by decide +kernel
theorem dX12_finds_64 : decode cX12_finds 64 = .ok (.iload 5, 2) := by decide +kernel
theorem dX12_finds_66 : decode cX12_finds 66 = .ok (.ifCond .eq 34, 3) := by decide +kernel
theorem dX12_finds_69 : decode cX12_finds 69 = .ok (.aload_n 0, 1) := by decide +kernel
theorem dX12_finds_70 : decode cX12_finds 70 = .ok (.getfield 74, 3) := by decide +kernel
theorem dX12_finds_73 : decode cX12_finds 73 = .ok (.bipush 20, 2) := by decide +kernel
theorem dX12_finds_75 : decode cX12_finds 75 = .ok (.iload_n 1, 1) := by decide +kernel
theorem dX12_finds_76 : decode cX12_finds 76 = .ok (.iadd, 1) := by decide +kernel
theorem dX12_finds_77 : decode cX12_finds 77 = .ok (.lload_n 3, 1) := by decide +kernel
theorem dX12_finds_78 : decode cX12_finds 78 = .ok (.lastore, 1) := by decide +kernel
theorem dX12_finds_79 : decode cX12_finds 79 = .ok (.aload_n 0, 1) := by decide +kernel
theorem dX12_finds_80 : decode cX12_finds 80 = .ok (.getfield 68, 3) := by decide +kernel
theorem dX12_finds_83 : decode cX12_finds 83 = .ok (.sipush 302, 3) := by decide +kernel
theorem dX12_finds_86 : decode cX12_finds 86 = .ok (.iload_n 1, 1) := by decide +kernel
theorem dX12_finds_87 : decode cX12_finds 87 = .ok (.iadd, 1) := by decide +kernel
theorem dX12_finds_88 : decode cX12_finds 88 = .ok (.iload_n 2, 1) := by decide +kernel
theorem dX12_finds_89 : decode cX12_finds 89 = .ok (.iastore, 1) := by decide +kernel
theorem dX12_finds_90 : decode cX12_finds 90 = .ok (.aload_n 0, 1) := by decide +kernel
theorem dX12_finds_91 : decode cX12_finds 91 = .ok (.getfield 74, 3) := by decide +kernel
theorem dX12_finds_94 : decode cX12_finds 94 = .ok (.bipush 28, 2) := by decide +kernel
theorem dX12_finds_96 : decode cX12_finds 96 = .ok (.iload_n 1, 1) := by decide +kernel
theorem dX12_finds_97 : decode cX12_finds 97 = .ok (.iadd, 1) := by decide +kernel
theorem dX12_finds_98 : decode cX12_finds 98 = .ok (.lload_n 3, 1) := by decide +kernel
theorem dX12_finds_99 : decode cX12_finds 99 = .ok (.lastore, 1) := by decide +kernel
theorem dX12_finds_100 : decode cX12_finds 100 = .ok (.return_, 1) := by decide +kernel
theorem dX12_goes_0 : decode cX12_goes 0 = .ok (.aload_n 0, 1) := by decide +kernel
theorem dX12_goes_1 : decode cX12_goes 1 = .ok (.getfield 59, 3) := by decide +kernel
theorem dX12_goes_4 : decode cX12_goes 4 = .ok (.iload_n 1, 1) := by decide +kernel
theorem dX12_goes_5 : decode cX12_goes 5 = .ok (.iaload, 1) := by decide +kernel
theorem dX12_goes_6 : decode cX12_goes 6 = .ok (.ifCond .ne 6, 3) := by decide +kernel
theorem dX12_goes_9 : decode cX12_goes 9 = .ok (.bipush 6, 2) := by decide +kernel
theorem dX12_goes_11 : decode cX12_goes 11 = .ok (.ireturn, 1) := by decide +kernel
theorem dX12_goes_12 : decode cX12_goes 12 = .ok (.aload_n 0, 1) := by decide +kernel
theorem dX12_goes_13 : decode cX12_goes 13 = .ok (.getfield 184, 3) := by decide +kernel
theorem dX12_goes_16 : decode cX12_goes 16 = .ok (.aload_n 0, 1) := by decide +kernel
theorem dX12_goes_17 : decode cX12_goes 17 = .ok (.getfield 59, 3) := by decide +kernel
theorem dX12_goes_20 : decode cX12_goes 20 = .ok (.iload_n 1, 1) := by decide +kernel
theorem dX12_goes_21 : decode cX12_goes 21 = .ok (.iaload, 1) := by decide +kernel
theorem dX12_goes_22 : decode cX12_goes 22 = .ok (.i2l, 1) := by decide +kernel
theorem dX12_goes_23 : decode cX12_goes 23 = .ok (.ldiv, 1) := by decide +kernel
theorem dX12_goes_24 : decode cX12_goes 24 = .ok (.lstore 4, 2) := by decide +kernel
theorem dX12_goes_26 : decode cX12_goes 26 = .ok (.lload 4, 2) := by decide +kernel
theorem dX12_goes_28 : decode cX12_goes 28 = .ok (.aload_n 0, 1) := by decide +kernel
theorem dX12_goes_29 : decode cX12_goes 29 = .ok (.getfield 74, 3) := by decide +kernel
theorem dX12_goes_32 : decode cX12_goes 32 = .ok (.bipush 28, 2) := by decide +kernel
theorem dX12_goes_34 : decode cX12_goes 34 = .ok (.iload_n 1, 1) := by decide +kernel
theorem dX12_goes_35 : decode cX12_goes 35 = .ok (.iadd, 1) := by decide +kernel
theorem dX12_goes_36 : decode cX12_goes 36 = .ok (.laload, 1) := by decide +kernel
theorem dX12_goes_37 : decode cX12_goes 37 = .ok (.lcmp, 1) := by decide +kernel
theorem dX12_goes_38 : decode cX12_goes 38 = .ok (.ifCond .le 5, 3) := by decide +kernel
theorem dX12_goes_41 : decode cX12_goes 41 = .ok (.iconst (-1), 1) := by decide +kernel
theorem dX12_goes_42 : decode cX12_goes 42 = .ok (.ireturn, 1) := by decide +kernel
theorem dX12_goes_43 : decode cX12_goes 43 = .ok (.aload_n 0, 1) := by decide +kernel
theorem dX12_goes_44 : decode cX12_goes 44 = .ok (.getfield 53, 3) := by decide +kernel
theorem dX12_goes_47 : decode cX12_goes 47 = .ok (.iload_n 1, 1) := by decide +kernel
theorem dX12_goes_48 : decode cX12_goes 48 = .ok (.iaload, 1) := by decide +kernel
theorem dX12_goes_49 : decode cX12_goes 49 = .ok (.istore 6, 2) := by decide +kernel
theorem dX12_goes_51 : decode cX12_goes 51 = .ok (.iload_n 3, 1) := by decide +kernel
theorem dX12_goes_52 : decode cX12_goes 52 = .ok (.aload_n 0, 1) := by decide +kernel
theorem dX12_goes_53 : decode cX12_goes 53 = .ok (.getfield 19, 3) := by decide +kernel
theorem dX12_goes_56 : decode cX12_goes 56 = .ok (.aload_n 0, 1) := by decide +kernel
theorem dX12_goes_57 : decode cX12_goes 57 = .ok (.getfield 16, 3) := by decide +kernel
theorem dX12_goes_60 : decode cX12_goes 60 = .ok (.bipush 20, 2) := by decide +kernel
theorem dX12_goes_62 : decode cX12_goes 62 = .ok (.iload 6, 2) := by decide +kernel
theorem dX12_goes_64 : decode cX12_goes 64 = .ok (.imul, 1) := by decide +kernel
theorem dX12_goes_65 : decode cX12_goes 65 = .ok (.iload_n 2, 1) := by decide +kernel
theorem dX12_goes_66 : decode cX12_goes 66 = .ok (.iadd, 1) := by decide +kernel
theorem dX12_goes_67 : decode cX12_goes 67 = .ok (.iaload, 1) := by decide +kernel
theorem dX12_goes_68 : decode cX12_goes 68 = .ok (.iaload, 1) := by decide +kernel
theorem dX12_goes_69 : decode cX12_goes 69 = .ok (.if_icmp .ge 5, 3) := by decide +kernel
theorem dX12_goes_72 : decode cX12_goes 72 = .ok (.iconst 0, 1) := by decide +kernel
theorem dX12_goes_73 : decode cX12_goes 73 = .ok (.ireturn, 1) := by decide +kernel
theorem dX12_goes_74 : decode cX12_goes 74 = .ok (.aload_n 0, 1) := by decide +kernel
theorem dX12_goes_75 : decode cX12_goes 75 = .ok (.iload_n 1, 1) := by decide +kernel
theorem dX12_goes_76 : decode cX12_goes 76 = .ok (.iload_n 2, 1) := by decide +kernel
theorem dX12_goes_77 : decode cX12_goes 77 = .ok (.lload 4, 2) := by decide +kernel
theorem dX12_goes_79 : decode cX12_goes 79 = .ok (.invokevirtual 188, 3) := by decide +kernel
theorem dX12_goes_82 : decode cX12_goes 82 = .ok (.iconst (-1), 1) := by decide +kernel
theorem dX12_goes_83 : decode cX12_goes 83 = .ok (.ireturn, 1) := by decide +kernel
theorem dX12_shared_0 : decode cX12_shared 0 = .ok (.aload_n 0, 1) := by decide +kernel
theorem dX12_shared_1 : decode cX12_shared 1 = .ok (.getfield 44, 3) := by decide +kernel
theorem dX12_shared_4 : decode cX12_shared 4 = .ok (.iload_n 1, 1) := by decide +kernel
theorem dX12_shared_5 : decode cX12_shared 5 = .ok (.iaload, 1) := by decide +kernel
theorem dX12_shared_6 : decode cX12_shared 6 = .ok (.istore_n 2, 1) := by decide +kernel
theorem dX12_shared_7 : decode cX12_shared 7 = .ok (.aload_n 0, 1) := by decide +kernel
theorem dX12_shared_8 : decode cX12_shared 8 = .ok (.getfield 47, 3) := by decide +kernel
theorem dX12_shared_11 : decode cX12_shared 11 = .ok (.iload_n 1, 1) := by decide +kernel
theorem dX12_shared_12 : decode cX12_shared 12 = .ok (.iaload, 1) := by decide +kernel
theorem dX12_shared_13 : decode cX12_shared 13 = .ok (.aload_n 0, 1) := by decide +kernel
theorem dX12_shared_14 : decode cX12_shared 14 = .ok (.iload_n 1, 1) := by decide +kernel
theorem dX12_shared_15 : decode cX12_shared 15 = .ok (.bipush 7, 2) := by decide +kernel
theorem dX12_shared_17 : decode cX12_shared 17 = .ok (.invokevirtual 173, 3) := by decide +kernel
theorem dX12_shared_20 : decode cX12_shared 20 = .ok (.iadd, 1) := by decide +kernel
theorem dX12_shared_21 : decode cX12_shared 21 = .ok (.istore_n 3, 1) := by decide +kernel
theorem dX12_shared_22 : decode cX12_shared 22 = .ok (.iload_n 3, 1) := by decide +kernel
theorem dX12_shared_23 : decode cX12_shared 23 = .ok (.aload_n 0, 1) := by decide +kernel
theorem dX12_shared_24 : decode cX12_shared 24 = .ok (.getfield 50, 3) := by decide +kernel
theorem dX12_shared_27 : decode cX12_shared 27 = .ok (.iload_n 1, 1) := by decide +kernel
theorem dX12_shared_28 : decode cX12_shared 28 = .ok (.iaload, 1) := by decide +kernel
theorem dX12_shared_29 : decode cX12_shared 29 = .ok (.if_icmp .lt 5, 3) := by decide +kernel
theorem dX12_shared_32 : decode cX12_shared 32 = .ok (.iconst 2, 1) := by decide +kernel
theorem dX12_shared_33 : decode cX12_shared 33 = .ok (.ireturn, 1) := by decide +kernel
theorem dX12_shared_34 : decode cX12_shared 34 = .ok (.aload_n 0, 1) := by decide +kernel
theorem dX12_shared_35 : decode cX12_shared 35 = .ok (.iload_n 1, 1) := by decide +kernel
theorem dX12_shared_36 : decode cX12_shared 36 = .ok (.bipush 8, 2) := by decide +kernel
theorem dX12_shared_38 : decode cX12_shared 38 = .ok (.invokevirtual 173, 3) := by decide +kernel
theorem dX12_shared_41 : decode cX12_shared 41 = .ok (.ifCond .ne 31, 3) := by decide +kernel
theorem dX12_shared_44 : decode cX12_shared 44 = .ok (.aload_n 0, 1) := by decide +kernel
theorem dX12_shared_45 : decode cX12_shared 45 = .ok (.iload_n 2, 1) := by decide +kernel
theorem dX12_shared_46 : decode cX12_shared 46 = .ok (.iload_n 3, 1) := by decide +kernel
theorem dX12_shared_47 : decode cX12_shared 47 = .ok (.invokevirtual 192, 3) := by decide +kernel
theorem dX12_shared_50 : decode cX12_shared 50 = .ok (.istore 4, 2) := by decide +kernel
theorem dX12_shared_52 : decode cX12_shared 52 = .ok (.iload 4, 2) := by decide +kernel
theorem dX12_shared_54 : decode cX12_shared 54 = .ok (.ifCond .eq 11, 3) := by decide +kernel
theorem dX12_shared_57 : decode cX12_shared 57 = .ok (.aload_n 0, 1) := by decide +kernel
theorem dX12_shared_58 : decode cX12_shared 58 = .ok (.iload_n 1, 1) := by decide +kernel
theorem dX12_shared_59 : decode cX12_shared 59 = .ok (.iload 4, 2) := by decide +kernel
theorem dX12_shared_61 : decode cX12_shared 61 = .ok (.invokevirtual 177, 3) := by decide +kernel
theorem dX12_shared_64 : decode cX12_shared 64 = .ok (.ireturn, 1) := by decide +kernel
theorem dX12_shared_65 : decode cX12_shared 65 = .ok (.aload_n 0, 1) := by decide +kernel
theorem dX12_shared_66 : decode cX12_shared 66 = .ok (.getfield 74, 3) := by decide +kernel
theorem dX12_shared_69 : decode cX12_shared 69 = .ok (.iload_n 1, 1) := by decide +kernel
theorem dX12_shared_70 : decode cX12_shared 70 = .ok (.lconst 0, 1) := by decide +kernel
theorem dX12_shared_71 : decode cX12_shared 71 = .ok (.lastore, 1) := by decide +kernel
theorem dX12_shared_72 : decode cX12_shared 72 = .ok (.aload_n 0, 1) := by decide +kernel
theorem dX12_shared_73 : decode cX12_shared 73 = .ok (.getfield 16, 3) := by decide +kernel
theorem dX12_shared_76 : decode cX12_shared 76 = .ok (.bipush 20, 2) := by decide +kernel
theorem dX12_shared_78 : decode cX12_shared 78 = .ok (.aload_n 0, 1) := by decide +kernel
theorem dX12_shared_79 : decode cX12_shared 79 = .ok (.getfield 53, 3) := by decide +kernel
theorem dX12_shared_82 : decode cX12_shared 82 = .ok (.iload_n 2, 1) := by decide +kernel
theorem dX12_shared_83 : decode cX12_shared 83 = .ok (.iaload, 1) := by decide +kernel
theorem dX12_shared_84 : decode cX12_shared 84 = .ok (.imul, 1) := by decide +kernel
theorem dX12_shared_85 : decode cX12_shared 85 = .ok (.iload_n 3, 1) := by decide +kernel
theorem dX12_shared_86 : decode cX12_shared 86 = .ok (.iadd, 1) := by decide +kernel
theorem dX12_shared_87 : decode cX12_shared 87 = .ok (.iaload, 1) := by decide +kernel
theorem dX12_shared_88 : decode cX12_shared 88 = .ok (.istore 4, 2) := by decide +kernel
theorem dX12_shared_90 : decode cX12_shared 90 = .ok (.aload_n 0, 1) := by decide +kernel
theorem dX12_shared_91 : decode cX12_shared 91 = .ok (.iload_n 1, 1) := by decide +kernel
theorem dX12_shared_92 : decode cX12_shared 92 = .ok (.bipush 8, 2) := by decide +kernel
theorem dX12_shared_94 : decode cX12_shared 94 = .ok (.invokevirtual 173, 3) := by decide +kernel
theorem dX12_shared_97 : decode cX12_shared 97 = .ok (.aload_n 0, 1) := by decide +kernel
theorem dX12_shared_98 : decode cX12_shared 98 = .ok (.getfield 19, 3) := by decide +kernel
theorem dX12_shared_101 : decode cX12_shared 101 = .ok (.iload 4, 2) := by decide +kernel
theorem dX12_shared_103 : decode cX12_shared 103 = .ok (.iaload, 1) := by decide +kernel
theorem dX12_shared_104 : decode cX12_shared 104 = .ok (.if_icmp .ge 46, 3) := by decide +kernel
theorem dX12_shared_107 : decode cX12_shared 107 = .ok (.aload_n 0, 1) := by decide +kernel
theorem dX12_shared_108 : decode cX12_shared 108 = .ok (.getfield 74, 3) := by decide +kernel
theorem dX12_shared_111 : decode cX12_shared 111 = .ok (.iload_n 1, 1) := by decide +kernel
theorem dX12_shared_112 : decode cX12_shared 112 = .ok (.dup2, 1) := by decide +kernel
theorem dX12_shared_113 : decode cX12_shared 113 = .ok (.laload, 1) := by decide +kernel
theorem dX12_shared_114 : decode cX12_shared 114 = .ok (.aload_n 0, 1) := by decide +kernel
theorem dX12_shared_115 : decode cX12_shared 115 = .ok (.getfield 22, 3) := by decide +kernel
theorem dX12_shared_118 : decode cX12_shared 118 = .ok (.bipush 12, 2) := by decide +kernel
theorem dX12_shared_120 : decode cX12_shared 120 = .ok (.iload 4, 2) := by decide +kernel
theorem dX12_shared_122 : decode cX12_shared 122 = .ok (.imul, 1) := by decide +kernel
theorem dX12_shared_123 : decode cX12_shared 123 = .ok (.aload_n 0, 1) := by decide +kernel
theorem dX12_shared_124 : decode cX12_shared 124 = .ok (.iload_n 1, 1) := by decide +kernel
theorem dX12_shared_125 : decode cX12_shared 125 = .ok (.bipush 8, 2) := by decide +kernel
theorem dX12_shared_127 : decode cX12_shared 127 = .ok (.invokevirtual 173, 3) := by decide +kernel
theorem dX12_shared_130 : decode cX12_shared 130 = .ok (.iadd, 1) := by decide +kernel
theorem dX12_shared_131 : decode cX12_shared 131 = .ok (.laload, 1) := by decide +kernel
theorem dX12_shared_132 : decode cX12_shared 132 = .ok (.invokestatic 180, 3) := by decide +kernel
theorem dX12_shared_135 : decode cX12_shared 135 = .ok (.ladd, 1) := by decide +kernel
theorem dX12_shared_136 : decode cX12_shared 136 = .ok (.lastore, 1) := by decide +kernel
theorem dX12_shared_137 : decode cX12_shared 137 = .ok (.aload_n 0, 1) := by decide +kernel
theorem dX12_shared_138 : decode cX12_shared 138 = .ok (.iload_n 1, 1) := by decide +kernel
theorem dX12_shared_139 : decode cX12_shared 139 = .ok (.bipush 8, 2) := by decide +kernel
theorem dX12_shared_141 : decode cX12_shared 141 = .ok (.invokevirtual 160, 3) := by decide +kernel
theorem dX12_shared_144 : decode cX12_shared 144 = .ok (.aload_n 0, 1) := by decide +kernel
theorem dX12_shared_145 : decode cX12_shared 145 = .ok (.iload_n 1, 1) := by decide +kernel
theorem dX12_shared_146 : decode cX12_shared 146 = .ok (.iconst 4, 1) := by decide +kernel
theorem dX12_shared_147 : decode cX12_shared 147 = .ok (.invokevirtual 160, 3) := by decide +kernel
theorem dX12_shared_150 : decode cX12_shared 150 = .ok (.aload_n 0, 1) := by decide +kernel
theorem dX12_shared_151 : decode cX12_shared 151 = .ok (.aload_n 0, 1) := by decide +kernel
theorem dX12_shared_152 : decode cX12_shared 152 = .ok (.getfield 74, 3) := by decide +kernel
theorem dX12_shared_155 : decode cX12_shared 155 = .ok (.iload_n 1, 1) := by decide +kernel
theorem dX12_shared_156 : decode cX12_shared 156 = .ok (.laload, 1) := by decide +kernel
theorem dX12_shared_157 : decode cX12_shared 157 = .ok (.putfield 184, 3) := by decide +kernel
theorem dX12_shared_160 : decode cX12_shared 160 = .ok (.aload_n 0, 1) := by decide +kernel
theorem dX12_shared_161 : decode cX12_shared 161 = .ok (.iload_n 2, 1) := by decide +kernel
theorem dX12_shared_162 : decode cX12_shared 162 = .ok (.iload_n 3, 1) := by decide +kernel
theorem dX12_shared_163 : decode cX12_shared 163 = .ok (.aload_n 0, 1) := by decide +kernel
theorem dX12_shared_164 : decode cX12_shared 164 = .ok (.iload_n 1, 1) := by decide +kernel
theorem dX12_shared_165 : decode cX12_shared 165 = .ok (.bipush 8, 2) := by decide +kernel
theorem dX12_shared_167 : decode cX12_shared 167 = .ok (.invokevirtual 173, 3) := by decide +kernel
theorem dX12_shared_170 : decode cX12_shared 170 = .ok (.invokevirtual 195, 3) := by decide +kernel
theorem dX12_shared_173 : decode cX12_shared 173 = .ok (.istore 5, 2) := by decide +kernel
theorem dX12_shared_175 : decode cX12_shared 175 = .ok (.iload 5, 2) := by decide +kernel
theorem dX12_shared_177 : decode cX12_shared 177 = .ok (.ifCond .le 11, 3) := by decide +kernel
theorem dX12_shared_180 : decode cX12_shared 180 = .ok (.aload_n 0, 1) := by decide +kernel
theorem dX12_shared_181 : decode cX12_shared 181 = .ok (.iload_n 1, 1) := by decide +kernel
theorem dX12_shared_182 : decode cX12_shared 182 = .ok (.iload 5, 2) := by decide +kernel
theorem dX12_shared_184 : decode cX12_shared 184 = .ok (.invokevirtual 177, 3) := by decide +kernel
theorem dX12_shared_187 : decode cX12_shared 187 = .ok (.ireturn, 1) := by decide +kernel
theorem dX12_shared_188 : decode cX12_shared 188 = .ok (.iload 5, 2) := by decide +kernel
theorem dX12_shared_190 : decode cX12_shared 190 = .ok (.ifCond .ge 25, 3) := by decide +kernel
theorem dX12_shared_193 : decode cX12_shared 193 = .ok (.aload_n 0, 1) := by decide +kernel
theorem dX12_shared_194 : decode cX12_shared 194 = .ok (.iload_n 1, 1) := by decide +kernel
theorem dX12_shared_195 : decode cX12_shared 195 = .ok (.bipush 9, 2) := by decide +kernel
theorem dX12_shared_197 : decode cX12_shared 197 = .ok (.invokevirtual 160, 3) := by decide +kernel
theorem dX12_shared_200 : decode cX12_shared 200 = .ok (.aload_n 0, 1) := by decide +kernel
theorem dX12_shared_201 : decode cX12_shared 201 = .ok (.iload_n 1, 1) := by decide +kernel
theorem dX12_shared_202 : decode cX12_shared 202 = .ok (.bipush 7, 2) := by decide +kernel
theorem dX12_shared_204 : decode cX12_shared 204 = .ok (.invokevirtual 160, 3) := by decide +kernel
theorem dX12_shared_207 : decode cX12_shared 207 = .ok (.aload_n 0, 1) := by decide +kernel
theorem dX12_shared_208 : decode cX12_shared 208 = .ok (.iload_n 1, 1) := by decide +kernel
theorem dX12_shared_209 : decode cX12_shared 209 = .ok (.bipush 8, 2) := by decide +kernel
theorem dX12_shared_211 : decode cX12_shared 211 = .ok (.iconst 0, 1) := by decide +kernel
theorem dX12_shared_212 : decode cX12_shared 212 = .ok (.invokevirtual 154, 3) := by decide +kernel
theorem dX12_shared_215 : decode cX12_shared 215 = .ok (.aload_n 0, 1) := by decide +kernel
theorem dX12_shared_216 : decode cX12_shared 216 = .ok (.getfield 47, 3) := by decide +kernel
theorem dX12_shared_219 : decode cX12_shared 219 = .ok (.iload_n 1, 1) := by decide +kernel
theorem dX12_shared_220 : decode cX12_shared 220 = .ok (.iaload, 1) := by decide +kernel
theorem dX12_shared_221 : decode cX12_shared 221 = .ok (.aload_n 0, 1) := by decide +kernel
theorem dX12_shared_222 : decode cX12_shared 222 = .ok (.iload_n 1, 1) := by decide +kernel
theorem dX12_shared_223 : decode cX12_shared 223 = .ok (.bipush 7, 2) := by decide +kernel
theorem dX12_shared_225 : decode cX12_shared 225 = .ok (.invokevirtual 173, 3) := by decide +kernel
theorem dX12_shared_228 : decode cX12_shared 228 = .ok (.iadd, 1) := by decide +kernel
theorem dX12_shared_229 : decode cX12_shared 229 = .ok (.aload_n 0, 1) := by decide +kernel
theorem dX12_shared_230 : decode cX12_shared 230 = .ok (.getfield 50, 3) := by decide +kernel
theorem dX12_shared_233 : decode cX12_shared 233 = .ok (.iload_n 1, 1) := by decide +kernel
theorem dX12_shared_234 : decode cX12_shared 234 = .ok (.iaload, 1) := by decide +kernel
theorem dX12_shared_235 : decode cX12_shared 235 = .ok (.if_icmp .ne 7, 3) := by decide +kernel
theorem dX12_shared_238 : decode cX12_shared 238 = .ok (.iconst 2, 1) := by decide +kernel
theorem dX12_shared_239 : decode cX12_shared 239 = .ok (.goto 4, 3) := by decide +kernel
theorem dX12_shared_242 : decode cX12_shared 242 = .ok (.iconst 1, 1) := by decide +kernel
theorem dX12_shared_243 : decode cX12_shared 243 = .ok (.ireturn, 1) := by decide +kernel
theorem dX12_notes_0 : decode cX12_notes 0 = .ok (.aload_n 0, 1) := by decide +kernel
theorem dX12_notes_1 : decode cX12_notes 1 = .ok (.getfield 68, 3) := by decide +kernel
theorem dX12_notes_4 : decode cX12_notes 4 = .ok (.sipush 262, 3) := by decide +kernel
theorem dX12_notes_7 : decode cX12_notes 7 = .ok (.aload_n 0, 1) := by decide +kernel
theorem dX12_notes_8 : decode cX12_notes 8 = .ok (.getfield 68, 3) := by decide +kernel
theorem dX12_notes_11 : decode cX12_notes 11 = .ok (.sipush 244, 3) := by decide +kernel
theorem dX12_notes_14 : decode cX12_notes 14 = .ok (.iaload, 1) := by decide +kernel
theorem dX12_notes_15 : decode cX12_notes 15 = .ok (.iadd, 1) := by decide +kernel
theorem dX12_notes_16 : decode cX12_notes 16 = .ok (.iload_n 1, 1) := by decide +kernel
theorem dX12_notes_17 : decode cX12_notes 17 = .ok (.iastore, 1) := by decide +kernel
theorem dX12_notes_18 : decode cX12_notes 18 = .ok (.aload_n 0, 1) := by decide +kernel
theorem dX12_notes_19 : decode cX12_notes 19 = .ok (.getfield 68, 3) := by decide +kernel
theorem dX12_notes_22 : decode cX12_notes 22 = .ok (.sipush 244, 3) := by decide +kernel
theorem dX12_notes_25 : decode cX12_notes 25 = .ok (.dup2, 1) := by decide +kernel
theorem dX12_notes_26 : decode cX12_notes 26 = .ok (.iaload, 1) := by decide +kernel
theorem dX12_notes_27 : decode cX12_notes 27 = .ok (.iconst 1, 1) := by decide +kernel
theorem dX12_notes_28 : decode cX12_notes 28 = .ok (.iadd, 1) := by decide +kernel
theorem dX12_notes_29 : decode cX12_notes 29 = .ok (.iastore, 1) := by decide +kernel
theorem dX12_notes_30 : decode cX12_notes 30 = .ok (.return_, 1) := by decide +kernel
theorem dX12_ends_0 : decode cX12_ends 0 = .ok (.aload_n 0, 1) := by decide +kernel
theorem dX12_ends_1 : decode cX12_ends 1 = .ok (.iload_n 1, 1) := by decide +kernel
theorem dX12_ends_2 : decode cX12_ends 2 = .ok (.iconst 0, 1) := by decide +kernel
theorem dX12_ends_3 : decode cX12_ends 3 = .ok (.iload_n 2, 1) := by decide +kernel
theorem dX12_ends_4 : decode cX12_ends 4 = .ok (.invokevirtual 154, 3) := by decide +kernel
theorem dX12_ends_7 : decode cX12_ends 7 = .ok (.aload_n 0, 1) := by decide +kernel
theorem dX12_ends_8 : decode cX12_ends 8 = .ok (.getfield 68, 3) := by decide +kernel
theorem dX12_ends_11 : decode cX12_ends 11 = .ok (.sipush 242, 3) := by decide +kernel
theorem dX12_ends_14 : decode cX12_ends 14 = .ok (.dup2, 1) := by decide +kernel
theorem dX12_ends_15 : decode cX12_ends 15 = .ok (.iaload, 1) := by decide +kernel
theorem dX12_ends_16 : decode cX12_ends 16 = .ok (.aload_n 0, 1) := by decide +kernel
theorem dX12_ends_17 : decode cX12_ends 17 = .ok (.getfield 38, 3) := by decide +kernel
theorem dX12_ends_20 : decode cX12_ends 20 = .ok (.iload_n 1, 1) := by decide +kernel
theorem dX12_ends_21 : decode cX12_ends 21 = .ok (.iaload, 1) := by decide +kernel
theorem dX12_ends_22 : decode cX12_ends 22 = .ok (.iadd, 1) := by decide +kernel
theorem dX12_ends_23 : decode cX12_ends 23 = .ok (.iastore, 1) := by decide +kernel
theorem dX12_ends_24 : decode cX12_ends 24 = .ok (.aload_n 0, 1) := by decide +kernel
theorem dX12_ends_25 : decode cX12_ends 25 = .ok (.getfield 68, 3) := by decide +kernel
theorem dX12_ends_28 : decode cX12_ends 28 = .ok (.sipush 250, 3) := by decide +kernel
theorem dX12_ends_31 : decode cX12_ends 31 = .ok (.iload_n 3, 1) := by decide +kernel
theorem dX12_ends_32 : decode cX12_ends 32 = .ok (.iadd, 1) := by decide +kernel
theorem dX12_ends_33 : decode cX12_ends 33 = .ok (.bipush (-9), 2) := by decide +kernel
theorem dX12_ends_35 : decode cX12_ends 35 = .ok (.iastore, 1) := by decide +kernel
theorem dX12_ends_36 : decode cX12_ends 36 = .ok (.aload_n 0, 1) := by decide +kernel
theorem dX12_ends_37 : decode cX12_ends 37 = .ok (.getfield 68, 3) := by decide +kernel
theorem dX12_ends_40 : decode cX12_ends 40 = .ok (.sipush 256, 3) := by decide +kernel
theorem dX12_ends_43 : decode cX12_ends 43 = .ok (.iload_n 3, 1) := by decide +kernel
theorem dX12_ends_44 : decode cX12_ends 44 = .ok (.iadd, 1) := by decide +kernel
theorem dX12_ends_45 : decode cX12_ends 45 = .ok (.dup2, 1) := by decide +kernel
theorem dX12_ends_46 : decode cX12_ends 46 = .ok (.iaload, 1) := by decide +kernel
theorem dX12_ends_47 : decode cX12_ends 47 = .ok (.iconst 1, 1) := by decide +kernel
theorem dX12_ends_48 : decode cX12_ends 48 = .ok (.iadd, 1) := by decide +kernel
theorem dX12_ends_49 : decode cX12_ends 49 = .ok (.iastore, 1) := by decide +kernel
theorem dX12_ends_50 : decode cX12_ends 50 = .ok (.aload_n 0, 1) := by decide +kernel
theorem dX12_ends_51 : decode cX12_ends 51 = .ok (.getfield 68, 3) := by decide +kernel
theorem dX12_ends_54 : decode cX12_ends 54 = .ok (.sipush 247, 3) := by decide +kernel
theorem dX12_ends_57 : decode cX12_ends 57 = .ok (.dup2, 1) := by decide +kernel
theorem dX12_ends_58 : decode cX12_ends 58 = .ok (.iaload, 1) := by decide +kernel
theorem dX12_ends_59 : decode cX12_ends 59 = .ok (.iconst 1, 1) := by decide +kernel
theorem dX12_ends_60 : decode cX12_ends 60 = .ok (.isub, 1) := by decide +kernel
theorem dX12_ends_61 : decode cX12_ends 61 = .ok (.iastore, 1) := by decide +kernel
theorem dX12_ends_62 : decode cX12_ends 62 = .ok (.aload_n 0, 1) := by decide +kernel
theorem dX12_ends_63 : decode cX12_ends 63 = .ok (.bipush 100, 2) := by decide +kernel
theorem dX12_ends_65 : decode cX12_ends 65 = .ok (.iload_n 1, 1) := by decide +kernel
theorem dX12_ends_66 : decode cX12_ends 66 = .ok (.imul, 1) := by decide +kernel
theorem dX12_ends_67 : decode cX12_ends 67 = .ok (.bipush 10, 2) := by decide +kernel
theorem dX12_ends_69 : decode cX12_ends 69 = .ok (.iload_n 3, 1) := by decide +kernel
theorem dX12_ends_70 : decode cX12_ends 70 = .ok (.imul, 1) := by decide +kernel
theorem dX12_ends_71 : decode cX12_ends 71 = .ok (.iadd, 1) := by decide +kernel
theorem dX12_ends_72 : decode cX12_ends 72 = .ok (.iload_n 2, 1) := by decide +kernel
theorem dX12_ends_73 : decode cX12_ends 73 = .ok (.iadd, 1) := by decide +kernel
theorem dX12_ends_74 : decode cX12_ends 74 = .ok (.invokevirtual 198, 3) := by decide +kernel
theorem dX12_ends_77 : decode cX12_ends 77 = .ok (.return_, 1) := by decide +kernel
theorem dX12_falls_0 : decode cX12_falls 0 = .ok (.aload_n 0, 1) := by decide +kernel
theorem dX12_falls_1 : decode cX12_falls 1 = .ok (.iload_n 1, 1) := by decide +kernel
theorem dX12_falls_2 : decode cX12_falls 2 = .ok (.iconst 0, 1) := by decide +kernel
theorem dX12_falls_3 : decode cX12_falls 3 = .ok (.iload_n 2, 1) := by decide +kernel
theorem dX12_falls_4 : decode cX12_falls 4 = .ok (.invokevirtual 154, 3) := by decide +kernel
theorem dX12_falls_7 : decode cX12_falls 7 = .ok (.aload_n 0, 1) := by decide +kernel
theorem dX12_falls_8 : decode cX12_falls 8 = .ok (.getfield 68, 3) := by decide +kernel
theorem dX12_falls_11 : decode cX12_falls 11 = .ok (.sipush 247, 3) := by decide +kernel
theorem dX12_falls_14 : decode cX12_falls 14 = .ok (.dup2, 1) := by decide +kernel
theorem dX12_falls_15 : decode cX12_falls 15 = .ok (.iaload, 1) := by decide +kernel
theorem dX12_falls_16 : decode cX12_falls 16 = .ok (.iconst 1, 1) := by decide +kernel
theorem dX12_falls_17 : decode cX12_falls 17 = .ok (.isub, 1) := by decide +kernel
theorem dX12_falls_18 : decode cX12_falls 18 = .ok (.iastore, 1) := by decide +kernel
theorem dX12_falls_19 : decode cX12_falls 19 = .ok (.aload_n 0, 1) := by decide +kernel
theorem dX12_falls_20 : decode cX12_falls 20 = .ok (.getfield 68, 3) := by decide +kernel
theorem dX12_falls_23 : decode cX12_falls 23 = .ok (.sipush 248, 3) := by decide +kernel
theorem dX12_falls_26 : decode cX12_falls 26 = .ok (.dup2, 1) := by decide +kernel
theorem dX12_falls_27 : decode cX12_falls 27 = .ok (.iaload, 1) := by decide +kernel
theorem dX12_falls_28 : decode cX12_falls 28 = .ok (.iconst 1, 1) := by decide +kernel
theorem dX12_falls_29 : decode cX12_falls 29 = .ok (.isub, 1) := by decide +kernel
theorem dX12_falls_30 : decode cX12_falls 30 = .ok (.iastore, 1) := by decide +kernel
theorem dX12_falls_31 : decode cX12_falls 31 = .ok (.return_, 1) := by decide +kernel
theorem dX12_takes_0 : decode cX12_takes 0 = .ok (.iconst 0, 1) := by decide +kernel
theorem dX12_takes_1 : decode cX12_takes 1 = .ok (.istore_n 2, 1) := by decide +kernel
theorem dX12_takes_2 : decode cX12_takes 2 = .ok (.aload_n 0, 1) := by decide +kernel
theorem dX12_takes_3 : decode cX12_takes 3 = .ok (.getfield 68, 3) := by decide +kernel
theorem dX12_takes_6 : decode cX12_takes 6 = .ok (.sipush 248, 3) := by decide +kernel
theorem dX12_takes_9 : decode cX12_takes 9 = .ok (.iaload, 1) := by decide +kernel
theorem dX12_takes_10 : decode cX12_takes 10 = .ok (.ifCond .le 43, 3) := by decide +kernel
theorem dX12_takes_13 : decode cX12_takes 13 = .ok (.iload_n 2, 1) := by decide +kernel
theorem dX12_takes_14 : decode cX12_takes 14 = .ok (.aload_n 0, 1) := by decide +kernel
theorem dX12_takes_15 : decode cX12_takes 15 = .ok (.getfield 101, 3) := by decide +kernel
theorem dX12_takes_18 : decode cX12_takes 18 = .ok (.if_icmp .ge 35, 3) := by decide +kernel
theorem dX12_takes_21 : decode cX12_takes 21 = .ok (.aload_n 0, 1) := by decide +kernel
theorem dX12_takes_22 : decode cX12_takes 22 = .ok (.iload_n 2, 1) := by decide +kernel
theorem dX12_takes_23 : decode cX12_takes 23 = .ok (.iconst 0, 1) := by decide +kernel
theorem dX12_takes_24 : decode cX12_takes 24 = .ok (.invokevirtual 173, 3) := by decide +kernel
theorem dX12_takes_27 : decode cX12_takes 27 = .ok (.ifCond .ne 20, 3) := by decide +kernel
theorem dX12_takes_30 : decode cX12_takes 30 = .ok (.aload_n 0, 1) := by decide +kernel
theorem dX12_takes_31 : decode cX12_takes 31 = .ok (.getfield 38, 3) := by decide +kernel
theorem dX12_takes_34 : decode cX12_takes 34 = .ok (.iload_n 2, 1) := by decide +kernel
theorem dX12_takes_35 : decode cX12_takes 35 = .ok (.iaload, 1) := by decide +kernel
theorem dX12_takes_36 : decode cX12_takes 36 = .ok (.aload_n 0, 1) := by decide +kernel
theorem dX12_takes_37 : decode cX12_takes 37 = .ok (.getfield 68, 3) := by decide +kernel
theorem dX12_takes_40 : decode cX12_takes 40 = .ok (.sipush 242, 3) := by decide +kernel
theorem dX12_takes_43 : decode cX12_takes 43 = .ok (.iaload, 1) := by decide +kernel
theorem dX12_takes_44 : decode cX12_takes 44 = .ok (.if_icmp .le 9, 3) := by decide +kernel
theorem dX12_takes_47 : decode cX12_takes 47 = .ok (.iinc 2 1, 3) := by decide +kernel
theorem dX12_takes_50 : decode cX12_takes 50 = .ok (.goto (-48), 3) := by decide +kernel
theorem dX12_takes_53 : decode cX12_takes 53 = .ok (.aload_n 0, 1) := by decide +kernel
theorem dX12_takes_54 : decode cX12_takes 54 = .ok (.getfield 68, 3) := by decide +kernel
theorem dX12_takes_57 : decode cX12_takes 57 = .ok (.sipush 248, 3) := by decide +kernel
theorem dX12_takes_60 : decode cX12_takes 60 = .ok (.iaload, 1) := by decide +kernel
theorem dX12_takes_61 : decode cX12_takes 61 = .ok (.ifCond .eq 11, 3) := by decide +kernel
theorem dX12_takes_64 : decode cX12_takes 64 = .ok (.iload_n 2, 1) := by decide +kernel
theorem dX12_takes_65 : decode cX12_takes 65 = .ok (.aload_n 0, 1) := by decide +kernel
theorem dX12_takes_66 : decode cX12_takes 66 = .ok (.getfield 101, 3) := by decide +kernel
theorem dX12_takes_69 : decode cX12_takes 69 = .ok (.if_icmp .ne 16, 3) := by decide +kernel
theorem dX12_takes_72 : decode cX12_takes 72 = .ok (.aload_n 0, 1) := by decide +kernel
theorem dX12_takes_73 : decode cX12_takes 73 = .ok (.getfield 68, 3) := by decide +kernel
theorem dX12_takes_76 : decode cX12_takes 76 = .ok (.sipush 241, 3) := by decide +kernel
theorem dX12_takes_79 : decode cX12_takes 79 = .ok (.dup2, 1) := by decide +kernel
theorem dX12_takes_80 : decode cX12_takes 80 = .ok (.iaload, 1) := by decide +kernel
theorem dX12_takes_81 : decode cX12_takes 81 = .ok (.iconst 1, 1) := by decide +kernel
theorem dX12_takes_82 : decode cX12_takes 82 = .ok (.iadd, 1) := by decide +kernel
theorem dX12_takes_83 : decode cX12_takes 83 = .ok (.iastore, 1) := by decide +kernel
theorem dX12_takes_84 : decode cX12_takes 84 = .ok (.return_, 1) := by decide +kernel
theorem dX12_takes_85 : decode cX12_takes 85 = .ok (.aload_n 0, 1) := by decide +kernel
theorem dX12_takes_86 : decode cX12_takes 86 = .ok (.iload_n 2, 1) := by decide +kernel
theorem dX12_takes_87 : decode cX12_takes 87 = .ok (.iconst 0, 1) := by decide +kernel
theorem dX12_takes_88 : decode cX12_takes 88 = .ok (.iconst 1, 1) := by decide +kernel
theorem dX12_takes_89 : decode cX12_takes 89 = .ok (.invokevirtual 154, 3) := by decide +kernel
theorem dX12_takes_92 : decode cX12_takes 92 = .ok (.aload_n 0, 1) := by decide +kernel
theorem dX12_takes_93 : decode cX12_takes 93 = .ok (.iload_n 2, 1) := by decide +kernel
theorem dX12_takes_94 : decode cX12_takes 94 = .ok (.iconst 5, 1) := by decide +kernel
theorem dX12_takes_95 : decode cX12_takes 95 = .ok (.iload_n 1, 1) := by decide +kernel
theorem dX12_takes_96 : decode cX12_takes 96 = .ok (.invokevirtual 154, 3) := by decide +kernel
theorem dX12_takes_99 : decode cX12_takes 99 = .ok (.aload_n 0, 1) := by decide +kernel
theorem dX12_takes_100 : decode cX12_takes 100 = .ok (.iload_n 2, 1) := by decide +kernel
theorem dX12_takes_101 : decode cX12_takes 101 = .ok (.iconst 3, 1) := by decide +kernel
theorem dX12_takes_102 : decode cX12_takes 102 = .ok (.invokevirtual 160, 3) := by decide +kernel
theorem dX12_takes_105 : decode cX12_takes 105 = .ok (.aload_n 0, 1) := by decide +kernel
theorem dX12_takes_106 : decode cX12_takes 106 = .ok (.getfield 68, 3) := by decide +kernel
theorem dX12_takes_109 : decode cX12_takes 109 = .ok (.sipush 250, 3) := by decide +kernel
theorem dX12_takes_112 : decode cX12_takes 112 = .ok (.iload_n 1, 1) := by decide +kernel
theorem dX12_takes_113 : decode cX12_takes 113 = .ok (.iadd, 1) := by decide +kernel
theorem dX12_takes_114 : decode cX12_takes 114 = .ok (.iload_n 2, 1) := by decide +kernel
theorem dX12_takes_115 : decode cX12_takes 115 = .ok (.iastore, 1) := by decide +kernel
theorem dX12_takes_116 : decode cX12_takes 116 = .ok (.aload_n 0, 1) := by decide +kernel
theorem dX12_takes_117 : decode cX12_takes 117 = .ok (.getfield 68, 3) := by decide +kernel
theorem dX12_takes_120 : decode cX12_takes 120 = .ok (.sipush 248, 3) := by decide +kernel
theorem dX12_takes_123 : decode cX12_takes 123 = .ok (.dup2, 1) := by decide +kernel
theorem dX12_takes_124 : decode cX12_takes 124 = .ok (.iaload, 1) := by decide +kernel
theorem dX12_takes_125 : decode cX12_takes 125 = .ok (.iconst 1, 1) := by decide +kernel
theorem dX12_takes_126 : decode cX12_takes 126 = .ok (.isub, 1) := by decide +kernel
theorem dX12_takes_127 : decode cX12_takes 127 = .ok (.iastore, 1) := by decide +kernel
theorem dX12_takes_128 : decode cX12_takes 128 = .ok (.aload_n 0, 1) := by decide +kernel
theorem dX12_takes_129 : decode cX12_takes 129 = .ok (.getfield 68, 3) := by decide +kernel
theorem dX12_takes_132 : decode cX12_takes 132 = .ok (.sipush 242, 3) := by decide +kernel
theorem dX12_takes_135 : decode cX12_takes 135 = .ok (.dup2, 1) := by decide +kernel
theorem dX12_takes_136 : decode cX12_takes 136 = .ok (.iaload, 1) := by decide +kernel
theorem dX12_takes_137 : decode cX12_takes 137 = .ok (.aload_n 0, 1) := by decide +kernel
theorem dX12_takes_138 : decode cX12_takes 138 = .ok (.getfield 38, 3) := by decide +kernel
theorem dX12_takes_141 : decode cX12_takes 141 = .ok (.iload_n 2, 1) := by decide +kernel
theorem dX12_takes_142 : decode cX12_takes 142 = .ok (.iaload, 1) := by decide +kernel
theorem dX12_takes_143 : decode cX12_takes 143 = .ok (.isub, 1) := by decide +kernel
theorem dX12_takes_144 : decode cX12_takes 144 = .ok (.iastore, 1) := by decide +kernel
theorem dX12_takes_145 : decode cX12_takes 145 = .ok (.aload_n 0, 1) := by decide +kernel
theorem dX12_takes_146 : decode cX12_takes 146 = .ok (.getfield 68, 3) := by decide +kernel
theorem dX12_takes_149 : decode cX12_takes 149 = .ok (.sipush 243, 3) := by decide +kernel
theorem dX12_takes_152 : decode cX12_takes 152 = .ok (.aload_n 0, 1) := by decide +kernel
theorem dX12_takes_153 : decode cX12_takes 153 = .ok (.getfield 90, 3) := by decide +kernel
theorem dX12_takes_156 : decode cX12_takes 156 = .ok (.aload_n 0, 1) := by decide +kernel
theorem dX12_takes_157 : decode cX12_takes 157 = .ok (.getfield 68, 3) := by decide +kernel
theorem dX12_takes_160 : decode cX12_takes 160 = .ok (.sipush 242, 3) := by decide +kernel
theorem dX12_takes_163 : decode cX12_takes 163 = .ok (.iaload, 1) := by decide +kernel
theorem dX12_takes_164 : decode cX12_takes 164 = .ok (.isub, 1) := by decide +kernel
theorem dX12_takes_165 : decode cX12_takes 165 = .ok (.aload_n 0, 1) := by decide +kernel
theorem dX12_takes_166 : decode cX12_takes 166 = .ok (.getfield 68, 3) := by decide +kernel
theorem dX12_takes_169 : decode cX12_takes 169 = .ok (.sipush 243, 3) := by decide +kernel
theorem dX12_takes_172 : decode cX12_takes 172 = .ok (.iaload, 1) := by decide +kernel
theorem dX12_takes_173 : decode cX12_takes 173 = .ok (.if_icmp .le 19, 3) := by decide +kernel
theorem dX12_takes_176 : decode cX12_takes 176 = .ok (.aload_n 0, 1) := by decide +kernel
theorem dX12_takes_177 : decode cX12_takes 177 = .ok (.getfield 90, 3) := by decide +kernel
theorem dX12_takes_180 : decode cX12_takes 180 = .ok (.aload_n 0, 1) := by decide +kernel
theorem dX12_takes_181 : decode cX12_takes 181 = .ok (.getfield 68, 3) := by decide +kernel
theorem dX12_takes_184 : decode cX12_takes 184 = .ok (.sipush 242, 3) := by decide +kernel
theorem dX12_takes_187 : decode cX12_takes 187 = .ok (.iaload, 1) := by decide +kernel
theorem dX12_takes_188 : decode cX12_takes 188 = .ok (.isub, 1) := by decide +kernel
theorem dX12_takes_189 : decode cX12_takes 189 = .ok (.goto 11, 3) := by decide +kernel
theorem dX12_takes_192 : decode cX12_takes 192 = .ok (.aload_n 0, 1) := by decide +kernel
theorem dX12_takes_193 : decode cX12_takes 193 = .ok (.getfield 68, 3) := by decide +kernel
theorem dX12_takes_196 : decode cX12_takes 196 = .ok (.sipush 243, 3) := by decide +kernel
theorem dX12_takes_199 : decode cX12_takes 199 = .ok (.iaload, 1) := by decide +kernel
theorem dX12_takes_200 : decode cX12_takes 200 = .ok (.iastore, 1) := by decide +kernel
theorem dX12_takes_201 : decode cX12_takes 201 = .ok (.aload_n 0, 1) := by decide +kernel
theorem dX12_takes_202 : decode cX12_takes 202 = .ok (.bipush 100, 2) := by decide +kernel
theorem dX12_takes_204 : decode cX12_takes 204 = .ok (.iload_n 2, 1) := by decide +kernel
theorem dX12_takes_205 : decode cX12_takes 205 = .ok (.imul, 1) := by decide +kernel
theorem dX12_takes_206 : decode cX12_takes 206 = .ok (.bipush 10, 2) := by decide +kernel
theorem dX12_takes_208 : decode cX12_takes 208 = .ok (.iload_n 1, 1) := by decide +kernel
theorem dX12_takes_209 : decode cX12_takes 209 = .ok (.imul, 1) := by decide +kernel
theorem dX12_takes_210 : decode cX12_takes 210 = .ok (.iadd, 1) := by decide +kernel
theorem dX12_takes_211 : decode cX12_takes 211 = .ok (.iconst 1, 1) := by decide +kernel
theorem dX12_takes_212 : decode cX12_takes 212 = .ok (.iadd, 1) := by decide +kernel
theorem dX12_takes_213 : decode cX12_takes 213 = .ok (.invokevirtual 198, 3) := by decide +kernel
theorem dX12_takes_216 : decode cX12_takes 216 = .ok (.return_, 1) := by decide +kernel
theorem dX12_looks_0 : decode cX12_looks 0 = .ok (.iconst 0, 1) := by decide +kernel
theorem dX12_looks_1 : decode cX12_looks 1 = .ok (.istore_n 1, 1) := by decide +kernel
theorem dX12_looks_2 : decode cX12_looks 2 = .ok (.aload_n 0, 1) := by decide +kernel
theorem dX12_looks_3 : decode cX12_looks 3 = .ok (.getfield 68, 3) := by decide +kernel
theorem dX12_looks_6 : decode cX12_looks 6 = .ok (.sipush 245, 3) := by decide +kernel
theorem dX12_looks_9 : decode cX12_looks 9 = .ok (.iaload, 1) := by decide +kernel
theorem dX12_looks_10 : decode cX12_looks 10 = .ok (.bipush (-9), 2) := by decide +kernel
theorem dX12_looks_12 : decode cX12_looks 12 = .ok (.if_icmp .ne 37, 3) := by decide +kernel
theorem dX12_looks_15 : decode cX12_looks 15 = .ok (.iload_n 1, 1) := by decide +kernel
theorem dX12_looks_16 : decode cX12_looks 16 = .ok (.aload_n 0, 1) := by decide +kernel
theorem dX12_looks_17 : decode cX12_looks 17 = .ok (.getfield 101, 3) := by decide +kernel
theorem dX12_looks_20 : decode cX12_looks 20 = .ok (.if_icmp .ge 29, 3) := by decide +kernel
theorem dX12_looks_23 : decode cX12_looks 23 = .ok (.aload_n 0, 1) := by decide +kernel
theorem dX12_looks_24 : decode cX12_looks 24 = .ok (.getfield 26, 3) := by decide +kernel
theorem dX12_looks_27 : decode cX12_looks 27 = .ok (.iload_n 1, 1) := by decide +kernel
theorem dX12_looks_28 : decode cX12_looks 28 = .ok (.iaload, 1) := by decide +kernel
theorem dX12_looks_29 : decode cX12_looks 29 = .ok (.iconst 4, 1) := by decide +kernel
theorem dX12_looks_30 : decode cX12_looks 30 = .ok (.if_icmp .eq 13, 3) := by decide +kernel
theorem dX12_looks_33 : decode cX12_looks 33 = .ok (.aload_n 0, 1) := by decide +kernel
theorem dX12_looks_34 : decode cX12_looks 34 = .ok (.iload_n 1, 1) := by decide +kernel
theorem dX12_looks_35 : decode cX12_looks 35 = .ok (.iconst 0, 1) := by decide +kernel
theorem dX12_looks_36 : decode cX12_looks 36 = .ok (.invokevirtual 173, 3) := by decide +kernel
theorem dX12_looks_39 : decode cX12_looks 39 = .ok (.iconst 2, 1) := by decide +kernel
theorem dX12_looks_40 : decode cX12_looks 40 = .ok (.if_icmp .le 9, 3) := by decide +kernel
theorem dX12_looks_43 : decode cX12_looks 43 = .ok (.iinc 1 1, 3) := by decide +kernel
theorem dX12_looks_46 : decode cX12_looks 46 = .ok (.goto (-44), 3) := by decide +kernel
theorem dX12_looks_49 : decode cX12_looks 49 = .ok (.aload_n 0, 1) := by decide +kernel
theorem dX12_looks_50 : decode cX12_looks 50 = .ok (.getfield 68, 3) := by decide +kernel
theorem dX12_looks_53 : decode cX12_looks 53 = .ok (.sipush 245, 3) := by decide +kernel
theorem dX12_looks_56 : decode cX12_looks 56 = .ok (.iaload, 1) := by decide +kernel
theorem dX12_looks_57 : decode cX12_looks 57 = .ok (.bipush (-9), 2) := by decide +kernel
theorem dX12_looks_59 : decode cX12_looks 59 = .ok (.if_icmp .ne 104, 3) := by decide +kernel
theorem dX12_looks_62 : decode cX12_looks 62 = .ok (.iload_n 1, 1) := by decide +kernel
theorem dX12_looks_63 : decode cX12_looks 63 = .ok (.aload_n 0, 1) := by decide +kernel
theorem dX12_looks_64 : decode cX12_looks 64 = .ok (.getfield 101, 3) := by decide +kernel
theorem dX12_looks_67 : decode cX12_looks 67 = .ok (.if_icmp .ge 96, 3) := by decide +kernel
theorem dX12_looks_70 : decode cX12_looks 70 = .ok (.aload_n 0, 1) := by decide +kernel
theorem dX12_looks_71 : decode cX12_looks 71 = .ok (.iload_n 1, 1) := by decide +kernel
theorem dX12_looks_72 : decode cX12_looks 72 = .ok (.iconst 0, 1) := by decide +kernel
theorem dX12_looks_73 : decode cX12_looks 73 = .ok (.invokevirtual 173, 3) := by decide +kernel
theorem dX12_looks_76 : decode cX12_looks 76 = .ok (.iconst 2, 1) := by decide +kernel
theorem dX12_looks_77 : decode cX12_looks 77 = .ok (.if_icmp .ne 86, 3) := by decide +kernel
theorem dX12_looks_80 : decode cX12_looks 80 = .ok (.aload_n 0, 1) := by decide +kernel
theorem dX12_looks_81 : decode cX12_looks 81 = .ok (.getfield 68, 3) := by decide +kernel
theorem dX12_looks_84 : decode cX12_looks 84 = .ok (.sipush 245, 3) := by decide +kernel
theorem dX12_looks_87 : decode cX12_looks 87 = .ok (.iload_n 1, 1) := by decide +kernel
theorem dX12_looks_88 : decode cX12_looks 88 = .ok (.iastore, 1) := by decide +kernel
theorem dX12_looks_89 : decode cX12_looks 89 = .ok (.iload_n 1, 1) := by decide +kernel
theorem dX12_looks_90 : decode cX12_looks 90 = .ok (.iconst 1, 1) := by decide +kernel
theorem dX12_looks_91 : decode cX12_looks 91 = .ok (.iadd, 1) := by decide +kernel
theorem dX12_looks_92 : decode cX12_looks 92 = .ok (.istore_n 2, 1) := by decide +kernel
theorem dX12_looks_93 : decode cX12_looks 93 = .ok (.iload_n 2, 1) := by decide +kernel
theorem dX12_looks_94 : decode cX12_looks 94 = .ok (.aload_n 0, 1) := by decide +kernel
theorem dX12_looks_95 : decode cX12_looks 95 = .ok (.getfield 101, 3) := by decide +kernel
theorem dX12_looks_98 : decode cX12_looks 98 = .ok (.if_icmp .ge 65, 3) := by decide +kernel
theorem dX12_looks_101 : decode cX12_looks 101 = .ok (.aload_n 0, 1) := by decide +kernel
theorem dX12_looks_102 : decode cX12_looks 102 = .ok (.getfield 26, 3) := by decide +kernel
theorem dX12_looks_105 : decode cX12_looks 105 = .ok (.iload_n 2, 1) := by decide +kernel
theorem dX12_looks_106 : decode cX12_looks 106 = .ok (.iaload, 1) := by decide +kernel
theorem dX12_looks_107 : decode cX12_looks 107 = .ok (.iconst 4, 1) := by decide +kernel
theorem dX12_looks_108 : decode cX12_looks 108 = .ok (.if_icmp .eq 21, 3) := by decide +kernel
theorem dX12_looks_111 : decode cX12_looks 111 = .ok (.aload_n 0, 1) := by decide +kernel
theorem dX12_looks_112 : decode cX12_looks 112 = .ok (.iload_n 2, 1) := by decide +kernel
theorem dX12_looks_113 : decode cX12_looks 113 = .ok (.iconst 0, 1) := by decide +kernel
theorem dX12_looks_114 : decode cX12_looks 114 = .ok (.invokevirtual 173, 3) := by decide +kernel
theorem dX12_looks_117 : decode cX12_looks 117 = .ok (.ifCond .ne 12, 3) := by decide +kernel
theorem dX12_looks_120 : decode cX12_looks 120 = .ok (.aload_n 0, 1) := by decide +kernel
theorem dX12_looks_121 : decode cX12_looks 121 = .ok (.iload_n 2, 1) := by decide +kernel
theorem dX12_looks_122 : decode cX12_looks 122 = .ok (.iconst 5, 1) := by decide +kernel
theorem dX12_looks_123 : decode cX12_looks 123 = .ok (.invokevirtual 202, 3) := by decide +kernel
theorem dX12_looks_126 : decode cX12_looks 126 = .ok (.goto 31, 3) := by decide +kernel
theorem dX12_looks_129 : decode cX12_looks 129 = .ok (.aload_n 0, 1) := by decide +kernel
theorem dX12_looks_130 : decode cX12_looks 130 = .ok (.getfield 26, 3) := by decide +kernel
theorem dX12_looks_133 : decode cX12_looks 133 = .ok (.iload_n 2, 1) := by decide +kernel
theorem dX12_looks_134 : decode cX12_looks 134 = .ok (.iaload, 1) := by decide +kernel
theorem dX12_looks_135 : decode cX12_looks 135 = .ok (.iconst 4, 1) := by decide +kernel
theorem dX12_looks_136 : decode cX12_looks 136 = .ok (.if_icmp .eq 21, 3) := by decide +kernel
theorem dX12_looks_139 : decode cX12_looks 139 = .ok (.aload_n 0, 1) := by decide +kernel
theorem dX12_looks_140 : decode cX12_looks 140 = .ok (.iload_n 2, 1) := by decide +kernel
theorem dX12_looks_141 : decode cX12_looks 141 = .ok (.iconst 0, 1) := by decide +kernel
theorem dX12_looks_142 : decode cX12_looks 142 = .ok (.invokevirtual 173, 3) := by decide +kernel
theorem dX12_looks_145 : decode cX12_looks 145 = .ok (.iconst 1, 1) := by decide +kernel
theorem dX12_looks_146 : decode cX12_looks 146 = .ok (.if_icmp .ne 11, 3) := by decide +kernel
theorem dX12_looks_149 : decode cX12_looks 149 = .ok (.aload_n 0, 1) := by decide +kernel
theorem dX12_looks_150 : decode cX12_looks 150 = .ok (.iload_n 2, 1) := by decide +kernel
theorem dX12_looks_151 : decode cX12_looks 151 = .ok (.bipush 10, 2) := by decide +kernel
theorem dX12_looks_153 : decode cX12_looks 153 = .ok (.iconst 1, 1) := by decide +kernel
theorem dX12_looks_154 : decode cX12_looks 154 = .ok (.invokevirtual 154, 3) := by decide +kernel
theorem dX12_looks_157 : decode cX12_looks 157 = .ok (.iinc 2 1, 3) := by decide +kernel
theorem dX12_looks_160 : decode cX12_looks 160 = .ok (.goto (-67), 3) := by decide +kernel
theorem dX12_looks_163 : decode cX12_looks 163 = .ok (.return_, 1) := by decide +kernel
theorem dX12_turns_0 : decode cX12_turns 0 = .ok (.aload_n 0, 1) := by decide +kernel
theorem dX12_turns_1 : decode cX12_turns 1 = .ok (.getfield 68, 3) := by decide +kernel
theorem dX12_turns_4 : decode cX12_turns 4 = .ok (.sipush 240, 3) := by decide +kernel
theorem dX12_turns_7 : decode cX12_turns 7 = .ok (.dup2, 1) := by decide +kernel
theorem dX12_turns_8 : decode cX12_turns 8 = .ok (.iaload, 1) := by decide +kernel
theorem dX12_turns_9 : decode cX12_turns 9 = .ok (.iconst 1, 1) := by decide +kernel
theorem dX12_turns_10 : decode cX12_turns 10 = .ok (.iadd, 1) := by decide +kernel
theorem dX12_turns_11 : decode cX12_turns 11 = .ok (.iastore, 1) := by decide +kernel
theorem dX12_turns_12 : decode cX12_turns 12 = .ok (.aload_n 0, 1) := by decide +kernel
theorem dX12_turns_13 : decode cX12_turns 13 = .ok (.getfield 68, 3) := by decide +kernel
theorem dX12_turns_16 : decode cX12_turns 16 = .ok (.sipush 250, 3) := by decide +kernel
theorem dX12_turns_19 : decode cX12_turns 19 = .ok (.iload_n 1, 1) := by decide +kernel
theorem dX12_turns_20 : decode cX12_turns 20 = .ok (.iadd, 1) := by decide +kernel
theorem dX12_turns_21 : decode cX12_turns 21 = .ok (.iaload, 1) := by decide +kernel
theorem dX12_turns_22 : decode cX12_turns 22 = .ok (.istore_n 2, 1) := by decide +kernel
theorem dX12_turns_23 : decode cX12_turns 23 = .ok (.iload_n 2, 1) := by decide +kernel
theorem dX12_turns_24 : decode cX12_turns 24 = .ok (.bipush (-9), 2) := by decide +kernel
theorem dX12_turns_26 : decode cX12_turns 26 = .ok (.if_icmp .ne 11, 3) := by decide +kernel
theorem dX12_turns_29 : decode cX12_turns 29 = .ok (.aload_n 0, 1) := by decide +kernel
theorem dX12_turns_30 : decode cX12_turns 30 = .ok (.iload_n 1, 1) := by decide +kernel
theorem dX12_turns_31 : decode cX12_turns 31 = .ok (.invokevirtual 205, 3) := by decide +kernel
theorem dX12_turns_34 : decode cX12_turns 34 = .ok (.goto 58, 3) := by decide +kernel
theorem dX12_turns_37 : decode cX12_turns 37 = .ok (.aload_n 0, 1) := by decide +kernel
theorem dX12_turns_38 : decode cX12_turns 38 = .ok (.iload_n 2, 1) := by decide +kernel
theorem dX12_turns_39 : decode cX12_turns 39 = .ok (.iconst 3, 1) := by decide +kernel
theorem dX12_turns_40 : decode cX12_turns 40 = .ok (.invokevirtual 160, 3) := by decide +kernel
theorem dX12_turns_43 : decode cX12_turns 43 = .ok (.aload_n 0, 1) := by decide +kernel
theorem dX12_turns_44 : decode cX12_turns 44 = .ok (.iload_n 2, 1) := by decide +kernel
theorem dX12_turns_45 : decode cX12_turns 45 = .ok (.bipush 10, 2) := by decide +kernel
theorem dX12_turns_47 : decode cX12_turns 47 = .ok (.invokevirtual 173, 3) := by decide +kernel
theorem dX12_turns_50 : decode cX12_turns 50 = .ok (.iconst 1, 1) := by decide +kernel
theorem dX12_turns_51 : decode cX12_turns 51 = .ok (.if_icmp .ne 7, 3) := by decide +kernel
theorem dX12_turns_54 : decode cX12_turns 54 = .ok (.iconst 5, 1) := by decide +kernel
theorem dX12_turns_55 : decode cX12_turns 55 = .ok (.goto 24, 3) := by decide +kernel
theorem dX12_turns_58 : decode cX12_turns 58 = .ok (.aload_n 0, 1) := by decide +kernel
theorem dX12_turns_59 : decode cX12_turns 59 = .ok (.iload_n 2, 1) := by decide +kernel
theorem dX12_turns_60 : decode cX12_turns 60 = .ok (.bipush 11, 2) := by decide +kernel
theorem dX12_turns_62 : decode cX12_turns 62 = .ok (.invokevirtual 173, 3) := by decide +kernel
theorem dX12_turns_65 : decode cX12_turns 65 = .ok (.iconst 1, 1) := by decide +kernel
theorem dX12_turns_66 : decode cX12_turns 66 = .ok (.if_icmp .ne 8, 3) := by decide +kernel
theorem dX12_turns_69 : decode cX12_turns 69 = .ok (.bipush 6, 2) := by decide +kernel
theorem dX12_turns_71 : decode cX12_turns 71 = .ok (.goto 8, 3) := by decide +kernel
theorem dX12_turns_74 : decode cX12_turns 74 = .ok (.aload_n 0, 1) := by decide +kernel
theorem dX12_turns_75 : decode cX12_turns 75 = .ok (.iload_n 2, 1) := by decide +kernel
theorem dX12_turns_76 : decode cX12_turns 76 = .ok (.invokevirtual 208, 3) := by decide +kernel
theorem dX12_turns_79 : decode cX12_turns 79 = .ok (.istore_n 3, 1) := by decide +kernel
theorem dX12_turns_80 : decode cX12_turns 80 = .ok (.iload_n 3, 1) := by decide +kernel
theorem dX12_turns_81 : decode cX12_turns 81 = .ok (.iconst 1, 1) := by decide +kernel
theorem dX12_turns_82 : decode cX12_turns 82 = .ok (.if_icmp .eq 10, 3) := by decide +kernel
theorem dX12_turns_85 : decode cX12_turns 85 = .ok (.aload_n 0, 1) := by decide +kernel
theorem dX12_turns_86 : decode cX12_turns 86 = .ok (.iload_n 2, 1) := by decide +kernel
theorem dX12_turns_87 : decode cX12_turns 87 = .ok (.iload_n 3, 1) := by decide +kernel
theorem dX12_turns_88 : decode cX12_turns 88 = .ok (.iload_n 1, 1) := by decide +kernel
theorem dX12_turns_89 : decode cX12_turns 89 = .ok (.invokevirtual 211, 3) := by decide +kernel
theorem dX12_turns_92 : decode cX12_turns 92 = .ok (.aload_n 0, 1) := by decide +kernel
theorem dX12_turns_93 : decode cX12_turns 93 = .ok (.invokevirtual 214, 3) := by decide +kernel
theorem dX12_turns_96 : decode cX12_turns 96 = .ok (.return_, 1) := by decide +kernel
theorem dX12_again_0 : decode cX12_again 0 = .ok (.iconst 0, 1) := by decide +kernel
theorem dX12_again_1 : decode cX12_again 1 = .ok (.istore_n 1, 1) := by decide +kernel
theorem dX12_again_2 : decode cX12_again 2 = .ok (.iload_n 1, 1) := by decide +kernel
theorem dX12_again_3 : decode cX12_again 3 = .ok (.aload_n 0, 1) := by decide +kernel
theorem dX12_again_4 : decode cX12_again 4 = .ok (.getfield 101, 3) := by decide +kernel
theorem dX12_again_7 : decode cX12_again 7 = .ok (.if_icmp .ge 73, 3) := by decide +kernel
theorem dX12_again_10 : decode cX12_again 10 = .ok (.aload_n 0, 1) := by decide +kernel
theorem dX12_again_11 : decode cX12_again 11 = .ok (.getfield 47, 3) := by decide +kernel
theorem dX12_again_14 : decode cX12_again 14 = .ok (.iload_n 1, 1) := by decide +kernel
theorem dX12_again_15 : decode cX12_again 15 = .ok (.iaload, 1) := by decide +kernel
theorem dX12_again_16 : decode cX12_again 16 = .ok (.istore_n 2, 1) := by decide +kernel
theorem dX12_again_17 : decode cX12_again 17 = .ok (.aload_n 0, 1) := by decide +kernel
theorem dX12_again_18 : decode cX12_again 18 = .ok (.getfield 26, 3) := by decide +kernel
theorem dX12_again_21 : decode cX12_again 21 = .ok (.iload_n 1, 1) := by decide +kernel
theorem dX12_again_22 : decode cX12_again 22 = .ok (.iaload, 1) := by decide +kernel
theorem dX12_again_23 : decode cX12_again 23 = .ok (.iconst 4, 1) := by decide +kernel
theorem dX12_again_24 : decode cX12_again 24 = .ok (.if_icmp .ne 50, 3) := by decide +kernel
theorem dX12_again_27 : decode cX12_again 27 = .ok (.aload_n 0, 1) := by decide +kernel
theorem dX12_again_28 : decode cX12_again 28 = .ok (.iload_n 1, 1) := by decide +kernel
theorem dX12_again_29 : decode cX12_again 29 = .ok (.iconst 0, 1) := by decide +kernel
theorem dX12_again_30 : decode cX12_again 30 = .ok (.invokevirtual 173, 3) := by decide +kernel
theorem dX12_again_33 : decode cX12_again 33 = .ok (.iconst 3, 1) := by decide +kernel
theorem dX12_again_34 : decode cX12_again 34 = .ok (.if_icmp .ne 40, 3) := by decide +kernel
theorem dX12_again_37 : decode cX12_again 37 = .ok (.iload_n 2, 1) := by decide +kernel
theorem dX12_again_38 : decode cX12_again 38 = .ok (.aload_n 0, 1) := by decide +kernel
theorem dX12_again_39 : decode cX12_again 39 = .ok (.getfield 50, 3) := by decide +kernel
theorem dX12_again_42 : decode cX12_again 42 = .ok (.iload_n 1, 1) := by decide +kernel
theorem dX12_again_43 : decode cX12_again 43 = .ok (.iaload, 1) := by decide +kernel
theorem dX12_again_44 : decode cX12_again 44 = .ok (.if_icmp .ge 30, 3) := by decide +kernel
theorem dX12_again_47 : decode cX12_again 47 = .ok (.aload_n 0, 1) := by decide +kernel
theorem dX12_again_48 : decode cX12_again 48 = .ok (.aload_n 0, 1) := by decide +kernel
theorem dX12_again_49 : decode cX12_again 49 = .ok (.getfield 44, 3) := by decide +kernel
theorem dX12_again_52 : decode cX12_again 52 = .ok (.iload_n 1, 1) := by decide +kernel
theorem dX12_again_53 : decode cX12_again 53 = .ok (.iaload, 1) := by decide +kernel
theorem dX12_again_54 : decode cX12_again 54 = .ok (.iload_n 2, 1) := by decide +kernel
theorem dX12_again_55 : decode cX12_again 55 = .ok (.invokevirtual 217, 3) := by decide +kernel
theorem dX12_again_58 : decode cX12_again 58 = .ok (.ifCond .eq 10, 3) := by decide +kernel
theorem dX12_again_61 : decode cX12_again 61 = .ok (.aload_n 0, 1) := by decide +kernel
theorem dX12_again_62 : decode cX12_again 62 = .ok (.iload_n 1, 1) := by decide +kernel
theorem dX12_again_63 : decode cX12_again 63 = .ok (.bipush 6, 2) := by decide +kernel
theorem dX12_again_65 : decode cX12_again 65 = .ok (.invokevirtual 160, 3) := by decide +kernel
theorem dX12_again_68 : decode cX12_again 68 = .ok (.iinc 2 1, 3) := by decide +kernel
theorem dX12_again_71 : decode cX12_again 71 = .ok (.goto (-54), 3) := by decide +kernel
theorem dX12_again_74 : decode cX12_again 74 = .ok (.iinc 1 1, 3) := by decide +kernel
theorem dX12_again_77 : decode cX12_again 77 = .ok (.goto (-75), 3) := by decide +kernel
theorem dX12_again_80 : decode cX12_again 80 = .ok (.return_, 1) := by decide +kernel
theorem dX12_isLost_0 : decode cX12_isLost 0 = .ok (.aload_n 0, 1) := by decide +kernel
theorem dX12_isLost_1 : decode cX12_isLost 1 = .ok (.iload_n 1, 1) := by decide +kernel
theorem dX12_isLost_2 : decode cX12_isLost 2 = .ok (.iload_n 2, 1) := by decide +kernel
theorem dX12_isLost_3 : decode cX12_isLost 3 = .ok (.invokevirtual 192, 3) := by decide +kernel
theorem dX12_isLost_6 : decode cX12_isLost 6 = .ok (.istore_n 3, 1) := by decide +kernel
theorem dX12_isLost_7 : decode cX12_isLost 7 = .ok (.iconst 0, 1) := by decide +kernel
theorem dX12_isLost_8 : decode cX12_isLost 8 = .ok (.istore 4, 2) := by decide +kernel
theorem dX12_isLost_10 : decode cX12_isLost 10 = .ok (.aload_n 0, 1) := by decide +kernel
theorem dX12_isLost_11 : decode cX12_isLost 11 = .ok (.lconst 0, 1) := by decide +kernel
theorem dX12_isLost_12 : decode cX12_isLost 12 = .ok (.putfield 184, 3) := by decide +kernel
theorem dX12_isLost_15 : decode cX12_isLost 15 = .ok (.iload_n 3, 1) := by decide +kernel
theorem dX12_isLost_16 : decode cX12_isLost 16 = .ok (.ifCond .ne 73, 3) := by decide +kernel
theorem dX12_isLost_19 : decode cX12_isLost 19 = .ok (.aload_n 0, 1) := by decide +kernel
theorem dX12_isLost_20 : decode cX12_isLost 20 = .ok (.getfield 16, 3) := by decide +kernel
theorem dX12_isLost_23 : decode cX12_isLost 23 = .ok (.bipush 20, 2) := by decide +kernel
theorem dX12_isLost_25 : decode cX12_isLost 25 = .ok (.aload_n 0, 1) := by decide +kernel
theorem dX12_isLost_26 : decode cX12_isLost 26 = .ok (.getfield 53, 3) := by decide +kernel
theorem dX12_isLost_29 : decode cX12_isLost 29 = .ok (.iload_n 1, 1) := by decide +kernel
theorem dX12_isLost_30 : decode cX12_isLost 30 = .ok (.iaload, 1) := by decide +kernel
theorem dX12_isLost_31 : decode cX12_isLost 31 = .ok (.imul, 1) := by decide +kernel
theorem dX12_isLost_32 : decode cX12_isLost 32 = .ok (.iload_n 2, 1) := by decide +kernel
theorem dX12_isLost_33 : decode cX12_isLost 33 = .ok (.iadd, 1) := by decide +kernel
theorem dX12_isLost_34 : decode cX12_isLost 34 = .ok (.iaload, 1) := by decide +kernel
theorem dX12_isLost_35 : decode cX12_isLost 35 = .ok (.istore 5, 2) := by decide +kernel
theorem dX12_isLost_37 : decode cX12_isLost 37 = .ok (.iload 4, 2) := by decide +kernel
theorem dX12_isLost_39 : decode cX12_isLost 39 = .ok (.aload_n 0, 1) := by decide +kernel
theorem dX12_isLost_40 : decode cX12_isLost 40 = .ok (.getfield 19, 3) := by decide +kernel
theorem dX12_isLost_43 : decode cX12_isLost 43 = .ok (.iload 5, 2) := by decide +kernel
theorem dX12_isLost_45 : decode cX12_isLost 45 = .ok (.iaload, 1) := by decide +kernel
theorem dX12_isLost_46 : decode cX12_isLost 46 = .ok (.if_icmp .ge 31, 3) := by decide +kernel
theorem dX12_isLost_49 : decode cX12_isLost 49 = .ok (.aload_n 0, 1) := by decide +kernel
theorem dX12_isLost_50 : decode cX12_isLost 50 = .ok (.dup, 1) := by decide +kernel
theorem dX12_isLost_51 : decode cX12_isLost 51 = .ok (.getfield 184, 3) := by decide +kernel
theorem dX12_isLost_54 : decode cX12_isLost 54 = .ok (.aload_n 0, 1) := by decide +kernel
theorem dX12_isLost_55 : decode cX12_isLost 55 = .ok (.getfield 22, 3) := by decide +kernel
theorem dX12_isLost_58 : decode cX12_isLost 58 = .ok (.bipush 12, 2) := by decide +kernel
theorem dX12_isLost_60 : decode cX12_isLost 60 = .ok (.iload 5, 2) := by decide +kernel
theorem dX12_isLost_62 : decode cX12_isLost 62 = .ok (.imul, 1) := by decide +kernel
theorem dX12_isLost_63 : decode cX12_isLost 63 = .ok (.iload 4, 2) := by decide +kernel
theorem dX12_isLost_65 : decode cX12_isLost 65 = .ok (.iadd, 1) := by decide +kernel
theorem dX12_isLost_66 : decode cX12_isLost 66 = .ok (.laload, 1) := by decide +kernel
theorem dX12_isLost_67 : decode cX12_isLost 67 = .ok (.invokestatic 180, 3) := by decide +kernel
theorem dX12_isLost_70 : decode cX12_isLost 70 = .ok (.ladd, 1) := by decide +kernel
theorem dX12_isLost_71 : decode cX12_isLost 71 = .ok (.putfield 184, 3) := by decide +kernel
theorem dX12_isLost_74 : decode cX12_isLost 74 = .ok (.iinc 4 1, 3) := by decide +kernel
theorem dX12_isLost_77 : decode cX12_isLost 77 = .ok (.aload_n 0, 1) := by decide +kernel
theorem dX12_isLost_78 : decode cX12_isLost 78 = .ok (.iload_n 1, 1) := by decide +kernel
theorem dX12_isLost_79 : decode cX12_isLost 79 = .ok (.iload_n 2, 1) := by decide +kernel
theorem dX12_isLost_80 : decode cX12_isLost 80 = .ok (.iload 4, 2) := by decide +kernel
theorem dX12_isLost_82 : decode cX12_isLost 82 = .ok (.invokevirtual 195, 3) := by decide +kernel
theorem dX12_isLost_85 : decode cX12_isLost 85 = .ok (.istore_n 3, 1) := by decide +kernel
theorem dX12_isLost_86 : decode cX12_isLost 86 = .ok (.goto (-71), 3) := by decide +kernel
theorem dX12_isLost_89 : decode cX12_isLost 89 = .ok (.iload_n 3, 1) := by decide +kernel
theorem dX12_isLost_90 : decode cX12_isLost 90 = .ok (.ifCond .le 7, 3) := by decide +kernel
theorem dX12_isLost_93 : decode cX12_isLost 93 = .ok (.iconst 1, 1) := by decide +kernel
theorem dX12_isLost_94 : decode cX12_isLost 94 = .ok (.goto 4, 3) := by decide +kernel
theorem dX12_isLost_97 : decode cX12_isLost 97 = .ok (.iconst 0, 1) := by decide +kernel
theorem dX12_isLost_98 : decode cX12_isLost 98 = .ok (.ireturn, 1) := by decide +kernel
theorem dX12_run_0 : decode cX12_run 0 = .ok (.aload_n 0, 1) := by decide +kernel
theorem dX12_run_1 : decode cX12_run 1 = .ok (.iconst 0, 1) := by decide +kernel
theorem dX12_run_2 : decode cX12_run 2 = .ok (.putfield 96, 3) := by decide +kernel
theorem dX12_run_5 : decode cX12_run 5 = .ok (.iload_n 1, 1) := by decide +kernel
theorem dX12_run_6 : decode cX12_run 6 = .ok (.iconst 1, 1) := by decide +kernel
theorem dX12_run_7 : decode cX12_run 7 = .ok (.sipush 1000, 3) := by decide +kernel
theorem dX12_run_10 : decode cX12_run 10 = .ok (.invokestatic 107, 3) := by decide +kernel
theorem dX12_run_13 : decode cX12_run 13 = .ok (.ifCond .ne 5, 3) := by decide +kernel
theorem dX12_run_16 : decode cX12_run 16 = .ok (.iconst (-1), 1) := by decide +kernel
theorem dX12_run_17 : decode cX12_run 17 = .ok (.ireturn, 1) := by decide +kernel
theorem dX12_run_18 : decode cX12_run 18 = .ok (.aload_n 0, 1) := by decide +kernel
theorem dX12_run_19 : decode cX12_run 19 = .ok (.getfield 68, 3) := by decide +kernel
theorem dX12_run_22 : decode cX12_run 22 = .ok (.sipush 246, 3) := by decide +kernel
theorem dX12_run_25 : decode cX12_run 25 = .ok (.iaload, 1) := by decide +kernel
theorem dX12_run_26 : decode cX12_run 26 = .ok (.iconst 1, 1) := by decide +kernel
theorem dX12_run_27 : decode cX12_run 27 = .ok (.if_icmp .le 6, 3) := by decide +kernel
theorem dX12_run_30 : decode cX12_run 30 = .ok (.bipush (-2), 2) := by decide +kernel
theorem dX12_run_32 : decode cX12_run 32 = .ok (.ireturn, 1) := by decide +kernel
theorem dX12_run_33 : decode cX12_run 33 = .ok (.aload_n 0, 1) := by decide +kernel
theorem dX12_run_34 : decode cX12_run 34 = .ok (.getfield 68, 3) := by decide +kernel
theorem dX12_run_37 : decode cX12_run 37 = .ok (.sipush 246, 3) := by decide +kernel
theorem dX12_run_40 : decode cX12_run 40 = .ok (.iconst 1, 1) := by decide +kernel
theorem dX12_run_41 : decode cX12_run 41 = .ok (.iastore, 1) := by decide +kernel
theorem dX12_run_42 : decode cX12_run 42 = .ok (.iconst 0, 1) := by decide +kernel
theorem dX12_run_43 : decode cX12_run 43 = .ok (.istore_n 2, 1) := by decide +kernel
theorem dX12_run_44 : decode cX12_run 44 = .ok (.iload_n 2, 1) := by decide +kernel
theorem dX12_run_45 : decode cX12_run 45 = .ok (.iload_n 1, 1) := by decide +kernel
theorem dX12_run_46 : decode cX12_run 46 = .ok (.if_icmp .ge 61, 3) := by decide +kernel
theorem dX12_run_49 : decode cX12_run 49 = .ok (.aload_n 0, 1) := by decide +kernel
theorem dX12_run_50 : decode cX12_run 50 = .ok (.getfield 68, 3) := by decide +kernel
theorem dX12_run_53 : decode cX12_run 53 = .ok (.sipush 247, 3) := by decide +kernel
theorem dX12_run_56 : decode cX12_run 56 = .ok (.iaload, 1) := by decide +kernel
theorem dX12_run_57 : decode cX12_run 57 = .ok (.ifCond .le 50, 3) := by decide +kernel
theorem dX12_run_60 : decode cX12_run 60 = .ok (.aload_n 0, 1) := by decide +kernel
theorem dX12_run_61 : decode cX12_run 61 = .ok (.getfield 68, 3) := by decide +kernel
theorem dX12_run_64 : decode cX12_run 64 = .ok (.sipush 240, 3) := by decide +kernel
theorem dX12_run_67 : decode cX12_run 67 = .ok (.iaload, 1) := by decide +kernel
theorem dX12_run_68 : decode cX12_run 68 = .ok (.istore_n 3, 1) := by decide +kernel
theorem dX12_run_69 : decode cX12_run 69 = .ok (.aload_n 0, 1) := by decide +kernel
theorem dX12_run_70 : decode cX12_run 70 = .ok (.iload_n 3, 1) := by decide +kernel
theorem dX12_run_71 : decode cX12_run 71 = .ok (.aload_n 0, 1) := by decide +kernel
theorem dX12_run_72 : decode cX12_run 72 = .ok (.getfield 151, 3) := by decide +kernel
theorem dX12_run_75 : decode cX12_run 75 = .ok (.if_icmp .ge 12, 3) := by decide +kernel
theorem dX12_run_78 : decode cX12_run 78 = .ok (.aload_n 0, 1) := by decide +kernel
theorem dX12_run_79 : decode cX12_run 79 = .ok (.getfield 65, 3) := by decide +kernel
theorem dX12_run_82 : decode cX12_run 82 = .ok (.iload_n 3, 1) := by decide +kernel
theorem dX12_run_83 : decode cX12_run 83 = .ok (.iaload, 1) := by decide +kernel
theorem dX12_run_84 : decode cX12_run 84 = .ok (.goto 14, 3) := by decide +kernel
theorem dX12_run_87 : decode cX12_run 87 = .ok (.iload_n 3, 1) := by decide +kernel
theorem dX12_run_88 : decode cX12_run 88 = .ok (.aload_n 0, 1) := by decide +kernel
theorem dX12_run_89 : decode cX12_run 89 = .ok (.getfield 151, 3) := by decide +kernel
theorem dX12_run_92 : decode cX12_run 92 = .ok (.isub, 1) := by decide +kernel
theorem dX12_run_93 : decode cX12_run 93 = .ok (.aload_n 0, 1) := by decide +kernel
theorem dX12_run_94 : decode cX12_run 94 = .ok (.getfield 86, 3) := by decide +kernel
theorem dX12_run_97 : decode cX12_run 97 = .ok (.irem, 1) := by decide +kernel
theorem dX12_run_98 : decode cX12_run 98 = .ok (.invokevirtual 220, 3) := by decide +kernel
theorem dX12_run_101 : decode cX12_run 101 = .ok (.iinc 2 1, 3) := by decide +kernel
theorem dX12_run_104 : decode cX12_run 104 = .ok (.goto (-60), 3) := by decide +kernel
theorem dX12_run_107 : decode cX12_run 107 = .ok (.aload_n 0, 1) := by decide +kernel
theorem dX12_run_108 : decode cX12_run 108 = .ok (.getfield 68, 3) := by decide +kernel
theorem dX12_run_111 : decode cX12_run 111 = .ok (.sipush 247, 3) := by decide +kernel
theorem dX12_run_114 : decode cX12_run 114 = .ok (.iaload, 1) := by decide +kernel
theorem dX12_run_115 : decode cX12_run 115 = .ok (.ifCond .le 5, 3) := by decide +kernel
theorem dX12_run_118 : decode cX12_run 118 = .ok (.iconst 0, 1) := by decide +kernel
theorem dX12_run_119 : decode cX12_run 119 = .ok (.ireturn, 1) := by decide +kernel
theorem dX12_run_120 : decode cX12_run 120 = .ok (.aload_n 0, 1) := by decide +kernel
theorem dX12_run_121 : decode cX12_run 121 = .ok (.invokevirtual 223, 3) := by decide +kernel
theorem dX12_run_124 : decode cX12_run 124 = .ok (.aload_n 0, 1) := by decide +kernel
theorem dX12_run_125 : decode cX12_run 125 = .ok (.getfield 68, 3) := by decide +kernel
theorem dX12_run_128 : decode cX12_run 128 = .ok (.sipush 246, 3) := by decide +kernel
theorem dX12_run_131 : decode cX12_run 131 = .ok (.iconst 2, 1) := by decide +kernel
theorem dX12_run_132 : decode cX12_run 132 = .ok (.iastore, 1) := by decide +kernel
theorem dX12_run_133 : decode cX12_run 133 = .ok (.aload_n 0, 1) := by decide +kernel
theorem dX12_run_134 : decode cX12_run 134 = .ok (.getfield 68, 3) := by decide +kernel
theorem dX12_run_137 : decode cX12_run 137 = .ok (.sipush 245, 3) := by decide +kernel
theorem dX12_run_140 : decode cX12_run 140 = .ok (.iaload, 1) := by decide +kernel
theorem dX12_run_141 : decode cX12_run 141 = .ok (.bipush (-9), 2) := by decide +kernel
theorem dX12_run_143 : decode cX12_run 143 = .ok (.if_icmp .eq 7, 3) := by decide +kernel
theorem dX12_run_146 : decode cX12_run 146 = .ok (.iconst 1, 1) := by decide +kernel
theorem dX12_run_147 : decode cX12_run 147 = .ok (.goto 4, 3) := by decide +kernel
theorem dX12_run_150 : decode cX12_run 150 = .ok (.iconst 2, 1) := by decide +kernel
theorem dX12_run_151 : decode cX12_run 151 = .ok (.ireturn, 1) := by decide +kernel
theorem dX12_interrupt_0 : decode cX12_interrupt 0 = .ok (.aload_n 0, 1) := by decide +kernel
theorem dX12_interrupt_1 : decode cX12_interrupt 1 = .ok (.iconst 0, 1) := by decide +kernel
theorem dX12_interrupt_2 : decode cX12_interrupt 2 = .ok (.putfield 96, 3) := by decide +kernel
theorem dX12_interrupt_5 : decode cX12_interrupt 5 = .ok (.aload_n 0, 1) := by decide +kernel
theorem dX12_interrupt_6 : decode cX12_interrupt 6 = .ok (.iload_n 1, 1) := by decide +kernel
theorem dX12_interrupt_7 : decode cX12_interrupt 7 = .ok (.invokevirtual 226, 3) := by decide +kernel
theorem dX12_interrupt_10 : decode cX12_interrupt 10 = .ok (.ifCond .ne 5, 3) := by decide +kernel
theorem dX12_interrupt_13 : decode cX12_interrupt 13 = .ok (.iconst (-1), 1) := by decide +kernel
theorem dX12_interrupt_14 : decode cX12_interrupt 14 = .ok (.ireturn, 1) := by decide +kernel
theorem dX12_interrupt_15 : decode cX12_interrupt 15 = .ok (.aload_n 0, 1) := by decide +kernel
theorem dX12_interrupt_16 : decode cX12_interrupt 16 = .ok (.invokevirtual 114, 3) := by decide +kernel
theorem dX12_interrupt_19 : decode cX12_interrupt 19 = .ok (.ifCond .ne 6, 3) := by decide +kernel
theorem dX12_interrupt_22 : decode cX12_interrupt 22 = .ok (.bipush (-2), 2) := by decide +kernel
theorem dX12_interrupt_24 : decode cX12_interrupt 24 = .ok (.ireturn, 1) := by decide +kernel
theorem dX12_interrupt_25 : decode cX12_interrupt 25 = .ok (.aload_n 0, 1) := by decide +kernel
theorem dX12_interrupt_26 : decode cX12_interrupt 26 = .ok (.iload_n 1, 1) := by decide +kernel
theorem dX12_interrupt_27 : decode cX12_interrupt 27 = .ok (.iconst 0, 1) := by decide +kernel
theorem dX12_interrupt_28 : decode cX12_interrupt 28 = .ok (.invokevirtual 173, 3) := by decide +kernel
theorem dX12_interrupt_31 : decode cX12_interrupt 31 = .ok (.ifCond .ne 16, 3) := by decide +kernel
theorem dX12_interrupt_34 : decode cX12_interrupt 34 = .ok (.aload_n 0, 1) := by decide +kernel
theorem dX12_interrupt_35 : decode cX12_interrupt 35 = .ok (.iload_n 1, 1) := by decide +kernel
theorem dX12_interrupt_36 : decode cX12_interrupt 36 = .ok (.bipush 6, 2) := by decide +kernel
theorem dX12_interrupt_38 : decode cX12_interrupt 38 = .ok (.invokevirtual 202, 3) := by decide +kernel
theorem dX12_interrupt_41 : decode cX12_interrupt 41 = .ok (.aload_n 0, 1) := by decide +kernel
theorem dX12_interrupt_42 : decode cX12_interrupt 42 = .ok (.invokevirtual 214, 3) := by decide +kernel
theorem dX12_interrupt_45 : decode cX12_interrupt 45 = .ok (.iconst 1, 1) := by decide +kernel
theorem dX12_interrupt_46 : decode cX12_interrupt 46 = .ok (.ireturn, 1) := by decide +kernel
theorem dX12_interrupt_47 : decode cX12_interrupt 47 = .ok (.aload_n 0, 1) := by decide +kernel
theorem dX12_interrupt_48 : decode cX12_interrupt 48 = .ok (.iload_n 1, 1) := by decide +kernel
theorem dX12_interrupt_49 : decode cX12_interrupt 49 = .ok (.iconst 0, 1) := by decide +kernel
theorem dX12_interrupt_50 : decode cX12_interrupt 50 = .ok (.invokevirtual 173, 3) := by decide +kernel
theorem dX12_interrupt_53 : decode cX12_interrupt 53 = .ok (.iconst 1, 1) := by decide +kernel
theorem dX12_interrupt_54 : decode cX12_interrupt 54 = .ok (.if_icmp .ne 13, 3) := by decide +kernel
theorem dX12_interrupt_57 : decode cX12_interrupt 57 = .ok (.aload_n 0, 1) := by decide +kernel
theorem dX12_interrupt_58 : decode cX12_interrupt 58 = .ok (.iload_n 1, 1) := by decide +kernel
theorem dX12_interrupt_59 : decode cX12_interrupt 59 = .ok (.bipush 11, 2) := by decide +kernel
theorem dX12_interrupt_61 : decode cX12_interrupt 61 = .ok (.iconst 1, 1) := by decide +kernel
theorem dX12_interrupt_62 : decode cX12_interrupt 62 = .ok (.invokevirtual 154, 3) := by decide +kernel
theorem dX12_interrupt_65 : decode cX12_interrupt 65 = .ok (.iconst 1, 1) := by decide +kernel
theorem dX12_interrupt_66 : decode cX12_interrupt 66 = .ok (.ireturn, 1) := by decide +kernel
theorem dX12_interrupt_67 : decode cX12_interrupt 67 = .ok (.iconst 0, 1) := by decide +kernel
theorem dX12_interrupt_68 : decode cX12_interrupt 68 = .ok (.ireturn, 1) := by decide +kernel
theorem dX12_close_0 : decode cX12_close 0 = .ok (.aload_n 0, 1) := by decide +kernel
theorem dX12_close_1 : decode cX12_close 1 = .ok (.iconst 0, 1) := by decide +kernel
theorem dX12_close_2 : decode cX12_close 2 = .ok (.putfield 96, 3) := by decide +kernel
theorem dX12_close_5 : decode cX12_close 5 = .ok (.aload_n 0, 1) := by decide +kernel
theorem dX12_close_6 : decode cX12_close 6 = .ok (.invokevirtual 114, 3) := by decide +kernel
theorem dX12_close_9 : decode cX12_close 9 = .ok (.ifCond .ne 6, 3) := by decide +kernel
theorem dX12_close_12 : decode cX12_close 12 = .ok (.bipush (-2), 2) := by decide +kernel
theorem dX12_close_14 : decode cX12_close 14 = .ok (.ireturn, 1) := by decide +kernel
theorem dX12_close_15 : decode cX12_close 15 = .ok (.iconst 0, 1) := by decide +kernel
theorem dX12_close_16 : decode cX12_close 16 = .ok (.istore_n 1, 1) := by decide +kernel
theorem dX12_close_17 : decode cX12_close 17 = .ok (.aload_n 0, 1) := by decide +kernel
theorem dX12_close_18 : decode cX12_close 18 = .ok (.getfield 86, 3) := by decide +kernel
theorem dX12_close_21 : decode cX12_close 21 = .ok (.iconst 1, 1) := by decide +kernel
theorem dX12_close_22 : decode cX12_close 22 = .ok (.isub, 1) := by decide +kernel
theorem dX12_close_23 : decode cX12_close 23 = .ok (.istore_n 2, 1) := by decide +kernel
theorem dX12_close_24 : decode cX12_close 24 = .ok (.iload_n 2, 1) := by decide +kernel
theorem dX12_close_25 : decode cX12_close 25 = .ok (.ifCond .lt 43, 3) := by decide +kernel
theorem dX12_close_28 : decode cX12_close 28 = .ok (.aload_n 0, 1) := by decide +kernel
theorem dX12_close_29 : decode cX12_close 29 = .ok (.getfield 68, 3) := by decide +kernel
theorem dX12_close_32 : decode cX12_close 32 = .ok (.sipush 250, 3) := by decide +kernel
theorem dX12_close_35 : decode cX12_close 35 = .ok (.iload_n 2, 1) := by decide +kernel
theorem dX12_close_36 : decode cX12_close 36 = .ok (.iadd, 1) := by decide +kernel
theorem dX12_close_37 : decode cX12_close 37 = .ok (.iaload, 1) := by decide +kernel
theorem dX12_close_38 : decode cX12_close 38 = .ok (.bipush (-9), 2) := by decide +kernel
theorem dX12_close_40 : decode cX12_close 40 = .ok (.if_icmp .eq 22, 3) := by decide +kernel
theorem dX12_close_43 : decode cX12_close 43 = .ok (.aload_n 0, 1) := by decide +kernel
theorem dX12_close_44 : decode cX12_close 44 = .ok (.aload_n 0, 1) := by decide +kernel
theorem dX12_close_45 : decode cX12_close 45 = .ok (.getfield 68, 3) := by decide +kernel
theorem dX12_close_48 : decode cX12_close 48 = .ok (.sipush 250, 3) := by decide +kernel
theorem dX12_close_51 : decode cX12_close 51 = .ok (.iload_n 2, 1) := by decide +kernel
theorem dX12_close_52 : decode cX12_close 52 = .ok (.iadd, 1) := by decide +kernel
theorem dX12_close_53 : decode cX12_close 53 = .ok (.iaload, 1) := by decide +kernel
theorem dX12_close_54 : decode cX12_close 54 = .ok (.iconst 5, 1) := by decide +kernel
theorem dX12_close_55 : decode cX12_close 55 = .ok (.iload_n 2, 1) := by decide +kernel
theorem dX12_close_56 : decode cX12_close 56 = .ok (.invokevirtual 211, 3) := by decide +kernel
theorem dX12_close_59 : decode cX12_close 59 = .ok (.iinc 1 1, 3) := by decide +kernel
theorem dX12_close_62 : decode cX12_close 62 = .ok (.iinc 2 (-1), 3) := by decide +kernel
theorem dX12_close_65 : decode cX12_close 65 = .ok (.goto (-41), 3) := by decide +kernel
theorem dX12_close_68 : decode cX12_close 68 = .ok (.iconst 0, 1) := by decide +kernel
theorem dX12_close_69 : decode cX12_close 69 = .ok (.istore_n 2, 1) := by decide +kernel
theorem dX12_close_70 : decode cX12_close 70 = .ok (.iload_n 2, 1) := by decide +kernel
theorem dX12_close_71 : decode cX12_close 71 = .ok (.aload_n 0, 1) := by decide +kernel
theorem dX12_close_72 : decode cX12_close 72 = .ok (.getfield 101, 3) := by decide +kernel
theorem dX12_close_75 : decode cX12_close 75 = .ok (.if_icmp .ge 27, 3) := by decide +kernel
theorem dX12_close_78 : decode cX12_close 78 = .ok (.aload_n 0, 1) := by decide +kernel
theorem dX12_close_79 : decode cX12_close 79 = .ok (.iload_n 2, 1) := by decide +kernel
theorem dX12_close_80 : decode cX12_close 80 = .ok (.iconst 0, 1) := by decide +kernel
theorem dX12_close_81 : decode cX12_close 81 = .ok (.invokevirtual 173, 3) := by decide +kernel
theorem dX12_close_84 : decode cX12_close 84 = .ok (.ifCond .ne 12, 3) := by decide +kernel
theorem dX12_close_87 : decode cX12_close 87 = .ok (.aload_n 0, 1) := by decide +kernel
theorem dX12_close_88 : decode cX12_close 88 = .ok (.iload_n 2, 1) := by decide +kernel
theorem dX12_close_89 : decode cX12_close 89 = .ok (.iconst 5, 1) := by decide +kernel
end
section
theorem dX12_close_90 : decode cX12_close 90 = .ok (.invokevirtual 202, 3) := by decide +kernel
theorem dX12_close_93 : decode cX12_close 93 = .ok (.iinc 1 1, 3) := by decide +kernel
theorem dX12_close_96 : decode cX12_close 96 = .ok (.iinc 2 1, 3) := by decide +kernel
theorem dX12_close_99 : decode cX12_close 99 = .ok (.goto (-29), 3) := by decide +kernel
theorem dX12_close_102 : decode cX12_close 102 = .ok (.aload_n 0, 1) := by decide +kernel
theorem dX12_close_103 : decode cX12_close 103 = .ok (.getfield 68, 3) := by decide +kernel
theorem dX12_close_106 : decode cX12_close 106 = .ok (.sipush 246, 3) := by decide +kernel
theorem dX12_close_109 : decode cX12_close 109 = .ok (.iconst 3, 1) := by decide +kernel
theorem dX12_close_110 : decode cX12_close 110 = .ok (.iastore, 1) := by decide +kernel
theorem dX12_close_111 : decode cX12_close 111 = .ok (.iload_n 1, 1) := by decide +kernel
theorem dX12_close_112 : decode cX12_close 112 = .ok (.ireturn, 1) := by decide +kernel
theorem dX12_anew_0 : decode cX12_anew 0 = .ok (.aload_n 0, 1) := by decide +kernel
theorem dX12_anew_1 : decode cX12_anew 1 = .ok (.iconst 0, 1) := by decide +kernel
theorem dX12_anew_2 : decode cX12_anew 2 = .ok (.putfield 96, 3) := by decide +kernel
theorem dX12_anew_5 : decode cX12_anew 5 = .ok (.aload_n 0, 1) := by decide +kernel
theorem dX12_anew_6 : decode cX12_anew 6 = .ok (.invokevirtual 93, 3) := by decide +kernel
theorem dX12_anew_9 : decode cX12_anew 9 = .ok (.aload_n 0, 1) := by decide +kernel
theorem dX12_anew_10 : decode cX12_anew 10 = .ok (.getfield 101, 3) := by decide +kernel
theorem dX12_anew_13 : decode cX12_anew 13 = .ok (.ireturn, 1) := by decide +kernel
theorem dX12_taken_0 : decode cX12_taken 0 = .ok (.aload_n 0, 1) := by decide +kernel
theorem dX12_taken_1 : decode cX12_taken 1 = .ok (.iconst 0, 1) := by decide +kernel
theorem dX12_taken_2 : decode cX12_taken 2 = .ok (.putfield 96, 3) := by decide +kernel
theorem dX12_taken_5 : decode cX12_taken 5 = .ok (.aload_n 0, 1) := by decide +kernel
theorem dX12_taken_6 : decode cX12_taken 6 = .ok (.getfield 68, 3) := by decide +kernel
theorem dX12_taken_9 : decode cX12_taken 9 = .ok (.sipush 245, 3) := by decide +kernel
theorem dX12_taken_12 : decode cX12_taken 12 = .ok (.iaload, 1) := by decide +kernel
theorem dX12_taken_13 : decode cX12_taken 13 = .ok (.ireturn, 1) := by decide +kernel
theorem dX12_answerOf_0 : decode cX12_answerOf 0 = .ok (.aload_n 0, 1) := by decide +kernel
theorem dX12_answerOf_1 : decode cX12_answerOf 1 = .ok (.getfield 26, 3) := by decide +kernel
theorem dX12_answerOf_4 : decode cX12_answerOf 4 = .ok (.iload_n 1, 1) := by decide +kernel
theorem dX12_answerOf_5 : decode cX12_answerOf 5 = .ok (.iaload, 1) := by decide +kernel
theorem dX12_answerOf_6 : decode cX12_answerOf 6 = .ok (.iconst 2, 1) := by decide +kernel
theorem dX12_answerOf_7 : decode cX12_answerOf 7 = .ok (.if_icmp .ge 12, 3) := by decide +kernel
theorem dX12_answerOf_10 : decode cX12_answerOf 10 = .ok (.aload_n 0, 1) := by decide +kernel
theorem dX12_answerOf_11 : decode cX12_answerOf 11 = .ok (.getfield 32, 3) := by decide +kernel
theorem dX12_answerOf_14 : decode cX12_answerOf 14 = .ok (.iload_n 1, 1) := by decide +kernel
theorem dX12_answerOf_15 : decode cX12_answerOf 15 = .ok (.laload, 1) := by decide +kernel
theorem dX12_answerOf_16 : decode cX12_answerOf 16 = .ok (.goto 9, 3) := by decide +kernel
theorem dX12_answerOf_19 : decode cX12_answerOf 19 = .ok (.aload_n 0, 1) := by decide +kernel
theorem dX12_answerOf_20 : decode cX12_answerOf 20 = .ok (.getfield 74, 3) := by decide +kernel
theorem dX12_answerOf_23 : decode cX12_answerOf 23 = .ok (.iload_n 1, 1) := by decide +kernel
theorem dX12_answerOf_24 : decode cX12_answerOf 24 = .ok (.laload, 1) := by decide +kernel
theorem dX12_answerOf_25 : decode cX12_answerOf 25 = .ok (.lreturn, 1) := by decide +kernel
theorem dX12_answer_0 : decode cX12_answer 0 = .ok (.aload_n 0, 1) := by decide +kernel
theorem dX12_answer_1 : decode cX12_answer 1 = .ok (.iconst 0, 1) := by decide +kernel
theorem dX12_answer_2 : decode cX12_answer 2 = .ok (.putfield 96, 3) := by decide +kernel
theorem dX12_answer_5 : decode cX12_answer 5 = .ok (.aload_n 0, 1) := by decide +kernel
theorem dX12_answer_6 : decode cX12_answer 6 = .ok (.iload_n 1, 1) := by decide +kernel
theorem dX12_answer_7 : decode cX12_answer 7 = .ok (.invokevirtual 226, 3) := by decide +kernel
theorem dX12_answer_10 : decode cX12_answer 10 = .ok (.ifCond .eq 31, 3) := by decide +kernel
theorem dX12_answer_13 : decode cX12_answer 13 = .ok (.aload_n 0, 1) := by decide +kernel
theorem dX12_answer_14 : decode cX12_answer 14 = .ok (.getfield 26, 3) := by decide +kernel
theorem dX12_answer_17 : decode cX12_answer 17 = .ok (.iload_n 1, 1) := by decide +kernel
theorem dX12_answer_18 : decode cX12_answer 18 = .ok (.iaload, 1) := by decide +kernel
theorem dX12_answer_19 : decode cX12_answer 19 = .ok (.iconst 4, 1) := by decide +kernel
theorem dX12_answer_20 : decode cX12_answer 20 = .ok (.if_icmp .eq 21, 3) := by decide +kernel
theorem dX12_answer_23 : decode cX12_answer 23 = .ok (.aload_n 0, 1) := by decide +kernel
theorem dX12_answer_24 : decode cX12_answer 24 = .ok (.iload_n 1, 1) := by decide +kernel
theorem dX12_answer_25 : decode cX12_answer 25 = .ok (.iconst 0, 1) := by decide +kernel
theorem dX12_answer_26 : decode cX12_answer 26 = .ok (.invokevirtual 173, 3) := by decide +kernel
theorem dX12_answer_29 : decode cX12_answer 29 = .ok (.iconst 2, 1) := by decide +kernel
theorem dX12_answer_30 : decode cX12_answer 30 = .ok (.if_icmp .ne 11, 3) := by decide +kernel
theorem dX12_answer_33 : decode cX12_answer 33 = .ok (.aload_n 0, 1) := by decide +kernel
theorem dX12_answer_34 : decode cX12_answer 34 = .ok (.iload_n 1, 1) := by decide +kernel
theorem dX12_answer_35 : decode cX12_answer 35 = .ok (.invokevirtual 229, 3) := by decide +kernel
theorem dX12_answer_38 : decode cX12_answer 38 = .ok (.goto 6, 3) := by decide +kernel
theorem dX12_answer_41 : decode cX12_answer 41 = .ok (.ldc2_w 99, 3) := by decide +kernel
theorem dX12_answer_44 : decode cX12_answer 44 = .ok (.lreturn, 1) := by decide +kernel
theorem dX12_told_0 : decode cX12_told 0 = .ok (.aload_n 0, 1) := by decide +kernel
theorem dX12_told_1 : decode cX12_told 1 = .ok (.iconst 0, 1) := by decide +kernel
theorem dX12_told_2 : decode cX12_told 2 = .ok (.putfield 96, 3) := by decide +kernel
theorem dX12_told_5 : decode cX12_told 5 = .ok (.aload_n 0, 1) := by decide +kernel
theorem dX12_told_6 : decode cX12_told 6 = .ok (.iload_n 1, 1) := by decide +kernel
theorem dX12_told_7 : decode cX12_told 7 = .ok (.invokevirtual 226, 3) := by decide +kernel
theorem dX12_told_10 : decode cX12_told 10 = .ok (.ifCond .ne 5, 3) := by decide +kernel
theorem dX12_told_13 : decode cX12_told 13 = .ok (.iconst (-1), 1) := by decide +kernel
theorem dX12_told_14 : decode cX12_told 14 = .ok (.ireturn, 1) := by decide +kernel
theorem dX12_told_15 : decode cX12_told 15 = .ok (.iload_n 2, 1) := by decide +kernel
theorem dX12_told_16 : decode cX12_told 16 = .ok (.tableswitch 157 0 8 #[52, 59, 66, 73, 80, 87, 94, 101, 109], 52) := by decide +kernel
theorem dX12_told_68 : decode cX12_told 68 = .ok (.aload_n 0, 1) := by decide +kernel
theorem dX12_told_69 : decode cX12_told 69 = .ok (.getfield 26, 3) := by decide +kernel
theorem dX12_told_72 : decode cX12_told 72 = .ok (.iload_n 1, 1) := by decide +kernel
theorem dX12_told_73 : decode cX12_told 73 = .ok (.iaload, 1) := by decide +kernel
theorem dX12_told_74 : decode cX12_told 74 = .ok (.ireturn, 1) := by decide +kernel
theorem dX12_told_75 : decode cX12_told 75 = .ok (.aload_n 0, 1) := by decide +kernel
theorem dX12_told_76 : decode cX12_told 76 = .ok (.iload_n 1, 1) := by decide +kernel
theorem dX12_told_77 : decode cX12_told 77 = .ok (.iconst 0, 1) := by decide +kernel
theorem dX12_told_78 : decode cX12_told 78 = .ok (.invokevirtual 173, 3) := by decide +kernel
theorem dX12_told_81 : decode cX12_told 81 = .ok (.ireturn, 1) := by decide +kernel
theorem dX12_told_82 : decode cX12_told 82 = .ok (.aload_n 0, 1) := by decide +kernel
theorem dX12_told_83 : decode cX12_told 83 = .ok (.iload_n 1, 1) := by decide +kernel
theorem dX12_told_84 : decode cX12_told 84 = .ok (.iconst 1, 1) := by decide +kernel
theorem dX12_told_85 : decode cX12_told 85 = .ok (.invokevirtual 173, 3) := by decide +kernel
theorem dX12_told_88 : decode cX12_told 88 = .ok (.ireturn, 1) := by decide +kernel
theorem dX12_told_89 : decode cX12_told 89 = .ok (.aload_n 0, 1) := by decide +kernel
theorem dX12_told_90 : decode cX12_told 90 = .ok (.iload_n 1, 1) := by decide +kernel
theorem dX12_told_91 : decode cX12_told 91 = .ok (.iconst 2, 1) := by decide +kernel
theorem dX12_told_92 : decode cX12_told 92 = .ok (.invokevirtual 173, 3) := by decide +kernel
theorem dX12_told_95 : decode cX12_told 95 = .ok (.ireturn, 1) := by decide +kernel
theorem dX12_told_96 : decode cX12_told 96 = .ok (.aload_n 0, 1) := by decide +kernel
theorem dX12_told_97 : decode cX12_told 97 = .ok (.iload_n 1, 1) := by decide +kernel
theorem dX12_told_98 : decode cX12_told 98 = .ok (.iconst 3, 1) := by decide +kernel
theorem dX12_told_99 : decode cX12_told 99 = .ok (.invokevirtual 173, 3) := by decide +kernel
theorem dX12_told_102 : decode cX12_told 102 = .ok (.ireturn, 1) := by decide +kernel
theorem dX12_told_103 : decode cX12_told 103 = .ok (.aload_n 0, 1) := by decide +kernel
theorem dX12_told_104 : decode cX12_told 104 = .ok (.iload_n 1, 1) := by decide +kernel
theorem dX12_told_105 : decode cX12_told 105 = .ok (.iconst 4, 1) := by decide +kernel
theorem dX12_told_106 : decode cX12_told 106 = .ok (.invokevirtual 173, 3) := by decide +kernel
theorem dX12_told_109 : decode cX12_told 109 = .ok (.ireturn, 1) := by decide +kernel
theorem dX12_told_110 : decode cX12_told 110 = .ok (.aload_n 0, 1) := by decide +kernel
theorem dX12_told_111 : decode cX12_told 111 = .ok (.iload_n 1, 1) := by decide +kernel
theorem dX12_told_112 : decode cX12_told 112 = .ok (.iconst 5, 1) := by decide +kernel
theorem dX12_told_113 : decode cX12_told 113 = .ok (.invokevirtual 173, 3) := by decide +kernel
theorem dX12_told_116 : decode cX12_told 116 = .ok (.ireturn, 1) := by decide +kernel
theorem dX12_told_117 : decode cX12_told 117 = .ok (.aload_n 0, 1) := by decide +kernel
theorem dX12_told_118 : decode cX12_told 118 = .ok (.iload_n 1, 1) := by decide +kernel
theorem dX12_told_119 : decode cX12_told 119 = .ok (.bipush 6, 2) := by decide +kernel
theorem dX12_told_121 : decode cX12_told 121 = .ok (.invokevirtual 173, 3) := by decide +kernel
theorem dX12_told_124 : decode cX12_told 124 = .ok (.ireturn, 1) := by decide +kernel
theorem dX12_told_125 : decode cX12_told 125 = .ok (.aload_n 0, 1) := by decide +kernel
theorem dX12_told_126 : decode cX12_told 126 = .ok (.getfield 26, 3) := by decide +kernel
theorem dX12_told_129 : decode cX12_told 129 = .ok (.iload_n 1, 1) := by decide +kernel
theorem dX12_told_130 : decode cX12_told 130 = .ok (.iaload, 1) := by decide +kernel
theorem dX12_told_131 : decode cX12_told 131 = .ok (.iconst 4, 1) := by decide +kernel
theorem dX12_told_132 : decode cX12_told 132 = .ok (.if_icmp .ne 8, 3) := by decide +kernel
theorem dX12_told_135 : decode cX12_told 135 = .ok (.bipush 30, 2) := by decide +kernel
theorem dX12_told_137 : decode cX12_told 137 = .ok (.goto 35, 3) := by decide +kernel
theorem dX12_told_140 : decode cX12_told 140 = .ok (.aload_n 0, 1) := by decide +kernel
theorem dX12_told_141 : decode cX12_told 141 = .ok (.getfield 26, 3) := by decide +kernel
theorem dX12_told_144 : decode cX12_told 144 = .ok (.iload_n 1, 1) := by decide +kernel
theorem dX12_told_145 : decode cX12_told 145 = .ok (.iaload, 1) := by decide +kernel
theorem dX12_told_146 : decode cX12_told 146 = .ok (.iconst 1, 1) := by decide +kernel
theorem dX12_told_147 : decode cX12_told 147 = .ok (.if_icmp .ne 8, 3) := by decide +kernel
theorem dX12_told_150 : decode cX12_told 150 = .ok (.bipush 11, 2) := by decide +kernel
theorem dX12_told_152 : decode cX12_told 152 = .ok (.goto 20, 3) := by decide +kernel
theorem dX12_told_155 : decode cX12_told 155 = .ok (.aload_n 0, 1) := by decide +kernel
theorem dX12_told_156 : decode cX12_told 156 = .ok (.getfield 26, 3) := by decide +kernel
theorem dX12_told_159 : decode cX12_told 159 = .ok (.iload_n 1, 1) := by decide +kernel
theorem dX12_told_160 : decode cX12_told 160 = .ok (.iaload, 1) := by decide +kernel
theorem dX12_told_161 : decode cX12_told 161 = .ok (.iconst 3, 1) := by decide +kernel
theorem dX12_told_162 : decode cX12_told 162 = .ok (.if_icmp .ne 8, 3) := by decide +kernel
theorem dX12_told_165 : decode cX12_told 165 = .ok (.bipush 12, 2) := by decide +kernel
theorem dX12_told_167 : decode cX12_told 167 = .ok (.goto 5, 3) := by decide +kernel
theorem dX12_told_170 : decode cX12_told 170 = .ok (.bipush 10, 2) := by decide +kernel
theorem dX12_told_172 : decode cX12_told 172 = .ok (.ireturn, 1) := by decide +kernel
theorem dX12_told_173 : decode cX12_told 173 = .ok (.iconst (-1), 1) := by decide +kernel
theorem dX12_told_174 : decode cX12_told 174 = .ok (.ireturn, 1) := by decide +kernel
theorem dX12_best_0 : decode cX12_best 0 = .ok (.aload_n 0, 1) := by decide +kernel
theorem dX12_best_1 : decode cX12_best 1 = .ok (.iconst 0, 1) := by decide +kernel
theorem dX12_best_2 : decode cX12_best 2 = .ok (.putfield 96, 3) := by decide +kernel
theorem dX12_best_5 : decode cX12_best 5 = .ok (.iload_n 1, 1) := by decide +kernel
theorem dX12_best_6 : decode cX12_best 6 = .ok (.iconst 0, 1) := by decide +kernel
theorem dX12_best_7 : decode cX12_best 7 = .ok (.aload_n 0, 1) := by decide +kernel
theorem dX12_best_8 : decode cX12_best 8 = .ok (.getfield 148, 3) := by decide +kernel
theorem dX12_best_11 : decode cX12_best 11 = .ok (.iconst 1, 1) := by decide +kernel
theorem dX12_best_12 : decode cX12_best 12 = .ok (.isub, 1) := by decide +kernel
theorem dX12_best_13 : decode cX12_best 13 = .ok (.invokestatic 107, 3) := by decide +kernel
theorem dX12_best_16 : decode cX12_best 16 = .ok (.ifCond .ne 7, 3) := by decide +kernel
theorem dX12_best_19 : decode cX12_best 19 = .ok (.ldc2_w 233, 3) := by decide +kernel
theorem dX12_best_22 : decode cX12_best 22 = .ok (.lreturn, 1) := by decide +kernel
theorem dX12_best_23 : decode cX12_best 23 = .ok (.iconst 0, 1) := by decide +kernel
theorem dX12_best_24 : decode cX12_best 24 = .ok (.istore_n 3, 1) := by decide +kernel
theorem dX12_best_25 : decode cX12_best 25 = .ok (.iconst 0, 1) := by decide +kernel
theorem dX12_best_26 : decode cX12_best 26 = .ok (.istore 4, 2) := by decide +kernel
theorem dX12_best_28 : decode cX12_best 28 = .ok (.iload 4, 2) := by decide +kernel
theorem dX12_best_30 : decode cX12_best 30 = .ok (.aload_n 0, 1) := by decide +kernel
theorem dX12_best_31 : decode cX12_best 31 = .ok (.getfield 101, 3) := by decide +kernel
theorem dX12_best_34 : decode cX12_best 34 = .ok (.if_icmp .ge 46, 3) := by decide +kernel
theorem dX12_best_37 : decode cX12_best 37 = .ok (.iload_n 3, 1) := by decide +kernel
theorem dX12_best_38 : decode cX12_best 38 = .ok (.aload_n 0, 1) := by decide +kernel
theorem dX12_best_39 : decode cX12_best 39 = .ok (.getfield 26, 3) := by decide +kernel
theorem dX12_best_42 : decode cX12_best 42 = .ok (.iload 4, 2) := by decide +kernel
theorem dX12_best_44 : decode cX12_best 44 = .ok (.iaload, 1) := by decide +kernel
theorem dX12_best_45 : decode cX12_best 45 = .ok (.iconst 4, 1) := by decide +kernel
theorem dX12_best_46 : decode cX12_best 46 = .ok (.if_icmp .ne 25, 3) := by decide +kernel
theorem dX12_best_49 : decode cX12_best 49 = .ok (.aload_n 0, 1) := by decide +kernel
theorem dX12_best_50 : decode cX12_best 50 = .ok (.getfield 44, 3) := by decide +kernel
theorem dX12_best_53 : decode cX12_best 53 = .ok (.iload 4, 2) := by decide +kernel
theorem dX12_best_55 : decode cX12_best 55 = .ok (.iaload, 1) := by decide +kernel
theorem dX12_best_56 : decode cX12_best 56 = .ok (.iload_n 1, 1) := by decide +kernel
theorem dX12_best_57 : decode cX12_best 57 = .ok (.if_icmp .ne 14, 3) := by decide +kernel
theorem dX12_best_60 : decode cX12_best 60 = .ok (.aload_n 0, 1) := by decide +kernel
theorem dX12_best_61 : decode cX12_best 61 = .ok (.iload 4, 2) := by decide +kernel
theorem dX12_best_63 : decode cX12_best 63 = .ok (.bipush 6, 2) := by decide +kernel
theorem dX12_best_65 : decode cX12_best 65 = .ok (.invokevirtual 173, 3) := by decide +kernel
theorem dX12_best_68 : decode cX12_best 68 = .ok (.goto 4, 3) := by decide +kernel
theorem dX12_best_71 : decode cX12_best 71 = .ok (.iconst 0, 1) := by decide +kernel
theorem dX12_best_72 : decode cX12_best 72 = .ok (.iadd, 1) := by decide +kernel
theorem dX12_best_73 : decode cX12_best 73 = .ok (.istore_n 3, 1) := by decide +kernel
theorem dX12_best_74 : decode cX12_best 74 = .ok (.iinc 4 1, 3) := by decide +kernel
theorem dX12_best_77 : decode cX12_best 77 = .ok (.goto (-49), 3) := by decide +kernel
theorem dX12_best_80 : decode cX12_best 80 = .ok (.iload_n 2, 1) := by decide +kernel
theorem dX12_best_81 : decode cX12_best 81 = .ok (.tableswitch 66 0 3 #[31, 41, 53, 63], 31) := by decide +kernel
theorem dX12_best_112 : decode cX12_best 112 = .ok (.aload_n 0, 1) := by decide +kernel
theorem dX12_best_113 : decode cX12_best 113 = .ok (.getfield 74, 3) := by decide +kernel
theorem dX12_best_116 : decode cX12_best 116 = .ok (.bipush 20, 2) := by decide +kernel
theorem dX12_best_118 : decode cX12_best 118 = .ok (.iload_n 1, 1) := by decide +kernel
theorem dX12_best_119 : decode cX12_best 119 = .ok (.iadd, 1) := by decide +kernel
theorem dX12_best_120 : decode cX12_best 120 = .ok (.laload, 1) := by decide +kernel
theorem dX12_best_121 : decode cX12_best 121 = .ok (.lreturn, 1) := by decide +kernel
theorem dX12_best_122 : decode cX12_best 122 = .ok (.aload_n 0, 1) := by decide +kernel
theorem dX12_best_123 : decode cX12_best 123 = .ok (.getfield 68, 3) := by decide +kernel
theorem dX12_best_126 : decode cX12_best 126 = .ok (.sipush 302, 3) := by decide +kernel
theorem dX12_best_129 : decode cX12_best 129 = .ok (.iload_n 1, 1) := by decide +kernel
theorem dX12_best_130 : decode cX12_best 130 = .ok (.iadd, 1) := by decide +kernel
theorem dX12_best_131 : decode cX12_best 131 = .ok (.iaload, 1) := by decide +kernel
theorem dX12_best_132 : decode cX12_best 132 = .ok (.i2l, 1) := by decide +kernel
theorem dX12_best_133 : decode cX12_best 133 = .ok (.lreturn, 1) := by decide +kernel
theorem dX12_best_134 : decode cX12_best 134 = .ok (.aload_n 0, 1) := by decide +kernel
theorem dX12_best_135 : decode cX12_best 135 = .ok (.getfield 74, 3) := by decide +kernel
theorem dX12_best_138 : decode cX12_best 138 = .ok (.bipush 28, 2) := by decide +kernel
theorem dX12_best_140 : decode cX12_best 140 = .ok (.iload_n 1, 1) := by decide +kernel
theorem dX12_best_141 : decode cX12_best 141 = .ok (.iadd, 1) := by decide +kernel
theorem dX12_best_142 : decode cX12_best 142 = .ok (.laload, 1) := by decide +kernel
theorem dX12_best_143 : decode cX12_best 143 = .ok (.lreturn, 1) := by decide +kernel
theorem dX12_best_144 : decode cX12_best 144 = .ok (.iload_n 3, 1) := by decide +kernel
theorem dX12_best_145 : decode cX12_best 145 = .ok (.i2l, 1) := by decide +kernel
theorem dX12_best_146 : decode cX12_best 146 = .ok (.lreturn, 1) := by decide +kernel
theorem dX12_best_147 : decode cX12_best 147 = .ok (.ldc2_w 233, 3) := by decide +kernel
theorem dX12_best_150 : decode cX12_best 150 = .ok (.lreturn, 1) := by decide +kernel
theorem dX12_note_0 : decode cX12_note 0 = .ok (.aload_n 0, 1) := by decide +kernel
theorem dX12_note_1 : decode cX12_note 1 = .ok (.iconst 0, 1) := by decide +kernel
theorem dX12_note_2 : decode cX12_note 2 = .ok (.putfield 96, 3) := by decide +kernel
theorem dX12_note_5 : decode cX12_note 5 = .ok (.iload_n 1, 1) := by decide +kernel
theorem dX12_note_6 : decode cX12_note 6 = .ok (.iconst 0, 1) := by decide +kernel
theorem dX12_note_7 : decode cX12_note 7 = .ok (.aload_n 0, 1) := by decide +kernel
theorem dX12_note_8 : decode cX12_note 8 = .ok (.getfield 68, 3) := by decide +kernel
theorem dX12_note_11 : decode cX12_note 11 = .ok (.sipush 244, 3) := by decide +kernel
theorem dX12_note_14 : decode cX12_note 14 = .ok (.iaload, 1) := by decide +kernel
theorem dX12_note_15 : decode cX12_note 15 = .ok (.iconst 1, 1) := by decide +kernel
theorem dX12_note_16 : decode cX12_note 16 = .ok (.isub, 1) := by decide +kernel
theorem dX12_note_17 : decode cX12_note 17 = .ok (.invokestatic 107, 3) := by decide +kernel
theorem dX12_note_20 : decode cX12_note 20 = .ok (.ifCond .eq 16, 3) := by decide +kernel
theorem dX12_note_23 : decode cX12_note 23 = .ok (.aload_n 0, 1) := by decide +kernel
theorem dX12_note_24 : decode cX12_note 24 = .ok (.getfield 68, 3) := by decide +kernel
theorem dX12_note_27 : decode cX12_note 27 = .ok (.sipush 262, 3) := by decide +kernel
theorem dX12_note_30 : decode cX12_note 30 = .ok (.iload_n 1, 1) := by decide +kernel
theorem dX12_note_31 : decode cX12_note 31 = .ok (.iadd, 1) := by decide +kernel
theorem dX12_note_32 : decode cX12_note 32 = .ok (.iaload, 1) := by decide +kernel
theorem dX12_note_33 : decode cX12_note 33 = .ok (.goto 5, 3) := by decide +kernel
theorem dX12_note_36 : decode cX12_note 36 = .ok (.bipush (-9), 2) := by decide +kernel
theorem dX12_note_38 : decode cX12_note 38 = .ok (.ireturn, 1) := by decide +kernel
theorem dX12_finished_0 : decode cX12_finished 0 = .ok (.aload_n 0, 1) := by decide +kernel
theorem dX12_finished_1 : decode cX12_finished 1 = .ok (.iconst 0, 1) := by decide +kernel
theorem dX12_finished_2 : decode cX12_finished 2 = .ok (.putfield 96, 3) := by decide +kernel
theorem dX12_finished_5 : decode cX12_finished 5 = .ok (.iload_n 1, 1) := by decide +kernel
theorem dX12_finished_6 : decode cX12_finished 6 = .ok (.iconst 0, 1) := by decide +kernel
theorem dX12_finished_7 : decode cX12_finished 7 = .ok (.aload_n 0, 1) := by decide +kernel
theorem dX12_finished_8 : decode cX12_finished 8 = .ok (.getfield 86, 3) := by decide +kernel
theorem dX12_finished_11 : decode cX12_finished 11 = .ok (.iconst 1, 1) := by decide +kernel
theorem dX12_finished_12 : decode cX12_finished 12 = .ok (.isub, 1) := by decide +kernel
theorem dX12_finished_13 : decode cX12_finished 13 = .ok (.invokestatic 107, 3) := by decide +kernel
theorem dX12_finished_16 : decode cX12_finished 16 = .ok (.ifCond .eq 16, 3) := by decide +kernel
theorem dX12_finished_19 : decode cX12_finished 19 = .ok (.aload_n 0, 1) := by decide +kernel
theorem dX12_finished_20 : decode cX12_finished 20 = .ok (.getfield 68, 3) := by decide +kernel
theorem dX12_finished_23 : decode cX12_finished 23 = .ok (.sipush 256, 3) := by decide +kernel
theorem dX12_finished_26 : decode cX12_finished 26 = .ok (.iload_n 1, 1) := by decide +kernel
theorem dX12_finished_27 : decode cX12_finished 27 = .ok (.iadd, 1) := by decide +kernel
theorem dX12_finished_28 : decode cX12_finished 28 = .ok (.iaload, 1) := by decide +kernel
theorem dX12_finished_29 : decode cX12_finished 29 = .ok (.goto 4, 3) := by decide +kernel
theorem dX12_finished_32 : decode cX12_finished 32 = .ok (.iconst (-1), 1) := by decide +kernel
theorem dX12_finished_33 : decode cX12_finished 33 = .ok (.ireturn, 1) := by decide +kernel
theorem dX12_count_0 : decode cX12_count 0 = .ok (.aload_n 0, 1) := by decide +kernel
theorem dX12_count_1 : decode cX12_count 1 = .ok (.iconst 0, 1) := by decide +kernel
theorem dX12_count_2 : decode cX12_count 2 = .ok (.putfield 96, 3) := by decide +kernel
theorem dX12_count_5 : decode cX12_count 5 = .ok (.iload_n 1, 1) := by decide +kernel
theorem dX12_count_6 : decode cX12_count 6 = .ok (.tableswitch 119 0 8 #[50, 55, 60, 65, 74, 83, 92, 101, 110], 50) := by decide +kernel
theorem dX12_count_56 : decode cX12_count 56 = .ok (.aload_n 0, 1) := by decide +kernel
theorem dX12_count_57 : decode cX12_count 57 = .ok (.getfield 104, 3) := by decide +kernel
theorem dX12_count_60 : decode cX12_count 60 = .ok (.ireturn, 1) := by decide +kernel
theorem dX12_count_61 : decode cX12_count 61 = .ok (.aload_n 0, 1) := by decide +kernel
theorem dX12_count_62 : decode cX12_count 62 = .ok (.getfield 101, 3) := by decide +kernel
theorem dX12_count_65 : decode cX12_count 65 = .ok (.ireturn, 1) := by decide +kernel
theorem dX12_count_66 : decode cX12_count 66 = .ok (.aload_n 0, 1) := by decide +kernel
theorem dX12_count_67 : decode cX12_count 67 = .ok (.getfield 148, 3) := by decide +kernel
theorem dX12_count_70 : decode cX12_count 70 = .ok (.ireturn, 1) := by decide +kernel
theorem dX12_count_71 : decode cX12_count 71 = .ok (.aload_n 0, 1) := by decide +kernel
theorem dX12_count_72 : decode cX12_count 72 = .ok (.getfield 68, 3) := by decide +kernel
theorem dX12_count_75 : decode cX12_count 75 = .ok (.sipush 240, 3) := by decide +kernel
theorem dX12_count_78 : decode cX12_count 78 = .ok (.iaload, 1) := by decide +kernel
theorem dX12_count_79 : decode cX12_count 79 = .ok (.ireturn, 1) := by decide +kernel
theorem dX12_count_80 : decode cX12_count 80 = .ok (.aload_n 0, 1) := by decide +kernel
theorem dX12_count_81 : decode cX12_count 81 = .ok (.getfield 68, 3) := by decide +kernel
theorem dX12_count_84 : decode cX12_count 84 = .ok (.sipush 241, 3) := by decide +kernel
theorem dX12_count_87 : decode cX12_count 87 = .ok (.iaload, 1) := by decide +kernel
theorem dX12_count_88 : decode cX12_count 88 = .ok (.ireturn, 1) := by decide +kernel
theorem dX12_count_89 : decode cX12_count 89 = .ok (.aload_n 0, 1) := by decide +kernel
theorem dX12_count_90 : decode cX12_count 90 = .ok (.getfield 68, 3) := by decide +kernel
theorem dX12_count_93 : decode cX12_count 93 = .ok (.sipush 242, 3) := by decide +kernel
theorem dX12_count_96 : decode cX12_count 96 = .ok (.iaload, 1) := by decide +kernel
theorem dX12_count_97 : decode cX12_count 97 = .ok (.ireturn, 1) := by decide +kernel
theorem dX12_count_98 : decode cX12_count 98 = .ok (.aload_n 0, 1) := by decide +kernel
theorem dX12_count_99 : decode cX12_count 99 = .ok (.getfield 68, 3) := by decide +kernel
theorem dX12_count_102 : decode cX12_count 102 = .ok (.sipush 243, 3) := by decide +kernel
theorem dX12_count_105 : decode cX12_count 105 = .ok (.iaload, 1) := by decide +kernel
theorem dX12_count_106 : decode cX12_count 106 = .ok (.ireturn, 1) := by decide +kernel
theorem dX12_count_107 : decode cX12_count 107 = .ok (.aload_n 0, 1) := by decide +kernel
theorem dX12_count_108 : decode cX12_count 108 = .ok (.getfield 68, 3) := by decide +kernel
theorem dX12_count_111 : decode cX12_count 111 = .ok (.sipush 244, 3) := by decide +kernel
theorem dX12_count_114 : decode cX12_count 114 = .ok (.iaload, 1) := by decide +kernel
theorem dX12_count_115 : decode cX12_count 115 = .ok (.ireturn, 1) := by decide +kernel
theorem dX12_count_116 : decode cX12_count 116 = .ok (.aload_n 0, 1) := by decide +kernel
theorem dX12_count_117 : decode cX12_count 117 = .ok (.getfield 68, 3) := by decide +kernel
theorem dX12_count_120 : decode cX12_count 120 = .ok (.sipush 246, 3) := by decide +kernel
theorem dX12_count_123 : decode cX12_count 123 = .ok (.iaload, 1) := by decide +kernel
theorem dX12_count_124 : decode cX12_count 124 = .ok (.ireturn, 1) := by decide +kernel
theorem dX12_count_125 : decode cX12_count 125 = .ok (.iconst (-1), 1) := by decide +kernel
theorem dX12_count_126 : decode cX12_count 126 = .ok (.ireturn, 1) := by decide +kernel
theorem dX12_keep_0 : decode cX12_keep 0 = .ok (.iconst 0, 1) := by decide +kernel
theorem dX12_keep_1 : decode cX12_keep 1 = .ok (.istore_n 1, 1) := by decide +kernel
theorem dX12_keep_2 : decode cX12_keep 2 = .ok (.iload_n 1, 1) := by decide +kernel
theorem dX12_keep_3 : decode cX12_keep 3 = .ok (.sipush 310, 3) := by decide +kernel
theorem dX12_keep_6 : decode cX12_keep 6 = .ok (.if_icmp .ge 21, 3) := by decide +kernel
theorem dX12_keep_9 : decode cX12_keep 9 = .ok (.aload_n 0, 1) := by decide +kernel
theorem dX12_keep_10 : decode cX12_keep 10 = .ok (.getfield 71, 3) := by decide +kernel
theorem dX12_keep_13 : decode cX12_keep 13 = .ok (.iload_n 1, 1) := by decide +kernel
theorem dX12_keep_14 : decode cX12_keep 14 = .ok (.aload_n 0, 1) := by decide +kernel
theorem dX12_keep_15 : decode cX12_keep 15 = .ok (.getfield 68, 3) := by decide +kernel
theorem dX12_keep_18 : decode cX12_keep 18 = .ok (.iload_n 1, 1) := by decide +kernel
theorem dX12_keep_19 : decode cX12_keep 19 = .ok (.iaload, 1) := by decide +kernel
theorem dX12_keep_20 : decode cX12_keep 20 = .ok (.iastore, 1) := by decide +kernel
theorem dX12_keep_21 : decode cX12_keep 21 = .ok (.iinc 1 1, 3) := by decide +kernel
theorem dX12_keep_24 : decode cX12_keep 24 = .ok (.goto (-22), 3) := by decide +kernel
theorem dX12_keep_27 : decode cX12_keep 27 = .ok (.iconst 0, 1) := by decide +kernel
theorem dX12_keep_28 : decode cX12_keep 28 = .ok (.istore_n 1, 1) := by decide +kernel
theorem dX12_keep_29 : decode cX12_keep 29 = .ok (.iload_n 1, 1) := by decide +kernel
theorem dX12_keep_30 : decode cX12_keep 30 = .ok (.bipush 36, 2) := by decide +kernel
theorem dX12_keep_32 : decode cX12_keep 32 = .ok (.if_icmp .ge 21, 3) := by decide +kernel
theorem dX12_keep_35 : decode cX12_keep 35 = .ok (.aload_n 0, 1) := by decide +kernel
theorem dX12_keep_36 : decode cX12_keep 36 = .ok (.getfield 77, 3) := by decide +kernel
theorem dX12_keep_39 : decode cX12_keep 39 = .ok (.iload_n 1, 1) := by decide +kernel
theorem dX12_keep_40 : decode cX12_keep 40 = .ok (.aload_n 0, 1) := by decide +kernel
theorem dX12_keep_41 : decode cX12_keep 41 = .ok (.getfield 74, 3) := by decide +kernel
theorem dX12_keep_44 : decode cX12_keep 44 = .ok (.iload_n 1, 1) := by decide +kernel
theorem dX12_keep_45 : decode cX12_keep 45 = .ok (.laload, 1) := by decide +kernel
theorem dX12_keep_46 : decode cX12_keep 46 = .ok (.lastore, 1) := by decide +kernel
theorem dX12_keep_47 : decode cX12_keep 47 = .ok (.iinc 1 1, 3) := by decide +kernel
theorem dX12_keep_50 : decode cX12_keep 50 = .ok (.goto (-21), 3) := by decide +kernel
theorem dX12_keep_53 : decode cX12_keep 53 = .ok (.return_, 1) := by decide +kernel
theorem dX12_bring_0 : decode cX12_bring 0 = .ok (.iconst 0, 1) := by decide +kernel
theorem dX12_bring_1 : decode cX12_bring 1 = .ok (.istore_n 1, 1) := by decide +kernel
theorem dX12_bring_2 : decode cX12_bring 2 = .ok (.iload_n 1, 1) := by decide +kernel
theorem dX12_bring_3 : decode cX12_bring 3 = .ok (.sipush 310, 3) := by decide +kernel
theorem dX12_bring_6 : decode cX12_bring 6 = .ok (.if_icmp .ge 21, 3) := by decide +kernel
theorem dX12_bring_9 : decode cX12_bring 9 = .ok (.aload_n 0, 1) := by decide +kernel
theorem dX12_bring_10 : decode cX12_bring 10 = .ok (.getfield 68, 3) := by decide +kernel
theorem dX12_bring_13 : decode cX12_bring 13 = .ok (.iload_n 1, 1) := by decide +kernel
theorem dX12_bring_14 : decode cX12_bring 14 = .ok (.aload_n 0, 1) := by decide +kernel
theorem dX12_bring_15 : decode cX12_bring 15 = .ok (.getfield 71, 3) := by decide +kernel
theorem dX12_bring_18 : decode cX12_bring 18 = .ok (.iload_n 1, 1) := by decide +kernel
theorem dX12_bring_19 : decode cX12_bring 19 = .ok (.iaload, 1) := by decide +kernel
theorem dX12_bring_20 : decode cX12_bring 20 = .ok (.iastore, 1) := by decide +kernel
theorem dX12_bring_21 : decode cX12_bring 21 = .ok (.iinc 1 1, 3) := by decide +kernel
theorem dX12_bring_24 : decode cX12_bring 24 = .ok (.goto (-22), 3) := by decide +kernel
theorem dX12_bring_27 : decode cX12_bring 27 = .ok (.iconst 0, 1) := by decide +kernel
theorem dX12_bring_28 : decode cX12_bring 28 = .ok (.istore_n 1, 1) := by decide +kernel
theorem dX12_bring_29 : decode cX12_bring 29 = .ok (.iload_n 1, 1) := by decide +kernel
theorem dX12_bring_30 : decode cX12_bring 30 = .ok (.bipush 36, 2) := by decide +kernel
theorem dX12_bring_32 : decode cX12_bring 32 = .ok (.if_icmp .ge 21, 3) := by decide +kernel
theorem dX12_bring_35 : decode cX12_bring 35 = .ok (.aload_n 0, 1) := by decide +kernel
theorem dX12_bring_36 : decode cX12_bring 36 = .ok (.getfield 74, 3) := by decide +kernel
theorem dX12_bring_39 : decode cX12_bring 39 = .ok (.iload_n 1, 1) := by decide +kernel
theorem dX12_bring_40 : decode cX12_bring 40 = .ok (.aload_n 0, 1) := by decide +kernel
theorem dX12_bring_41 : decode cX12_bring 41 = .ok (.getfield 77, 3) := by decide +kernel
theorem dX12_bring_44 : decode cX12_bring 44 = .ok (.iload_n 1, 1) := by decide +kernel
theorem dX12_bring_45 : decode cX12_bring 45 = .ok (.laload, 1) := by decide +kernel
theorem dX12_bring_46 : decode cX12_bring 46 = .ok (.lastore, 1) := by decide +kernel
theorem dX12_bring_47 : decode cX12_bring 47 = .ok (.iinc 1 1, 3) := by decide +kernel
theorem dX12_bring_50 : decode cX12_bring 50 = .ok (.goto (-21), 3) := by decide +kernel
theorem dX12_bring_53 : decode cX12_bring 53 = .ok (.return_, 1) := by decide +kernel
theorem dX12_through_0 : decode cX12_through 0 = .ok (.aload_n 0, 1) := by decide +kernel
theorem dX12_through_1 : decode cX12_through 1 = .ok (.invokevirtual 93, 3) := by decide +kernel
theorem dX12_through_4 : decode cX12_through 4 = .ok (.aload_n 0, 1) := by decide +kernel
theorem dX12_through_5 : decode cX12_through 5 = .ok (.getfield 68, 3) := by decide +kernel
theorem dX12_through_8 : decode cX12_through 8 = .ok (.sipush 247, 3) := by decide +kernel
theorem dX12_through_11 : decode cX12_through 11 = .ok (.iaload, 1) := by decide +kernel
theorem dX12_through_12 : decode cX12_through 12 = .ok (.ifCond .le 20, 3) := by decide +kernel
theorem dX12_through_15 : decode cX12_through 15 = .ok (.aload_n 0, 1) := by decide +kernel
theorem dX12_through_16 : decode cX12_through 16 = .ok (.aload_n 0, 1) := by decide +kernel
theorem dX12_through_17 : decode cX12_through 17 = .ok (.getfield 68, 3) := by decide +kernel
theorem dX12_through_20 : decode cX12_through 20 = .ok (.sipush 240, 3) := by decide +kernel
theorem dX12_through_23 : decode cX12_through 23 = .ok (.iaload, 1) := by decide +kernel
theorem dX12_through_24 : decode cX12_through 24 = .ok (.iload_n 1, 1) := by decide +kernel
theorem dX12_through_25 : decode cX12_through 25 = .ok (.irem, 1) := by decide +kernel
theorem dX12_through_26 : decode cX12_through 26 = .ok (.invokevirtual 220, 3) := by decide +kernel
theorem dX12_through_29 : decode cX12_through 29 = .ok (.goto (-25), 3) := by decide +kernel
theorem dX12_through_32 : decode cX12_through 32 = .ok (.aload_n 0, 1) := by decide +kernel
theorem dX12_through_33 : decode cX12_through 33 = .ok (.invokevirtual 223, 3) := by decide +kernel
theorem dX12_through_36 : decode cX12_through 36 = .ok (.return_, 1) := by decide +kernel
theorem dX12_equal_0 : decode cX12_equal 0 = .ok (.aload_n 0, 1) := by decide +kernel
theorem dX12_equal_1 : decode cX12_equal 1 = .ok (.iconst 0, 1) := by decide +kernel
theorem dX12_equal_2 : decode cX12_equal 2 = .ok (.putfield 96, 3) := by decide +kernel
theorem dX12_equal_5 : decode cX12_equal 5 = .ok (.iload_n 1, 1) := by decide +kernel
theorem dX12_equal_6 : decode cX12_equal 6 = .ok (.iconst 1, 1) := by decide +kernel
theorem dX12_equal_7 : decode cX12_equal 7 = .ok (.bipush 6, 2) := by decide +kernel
theorem dX12_equal_9 : decode cX12_equal 9 = .ok (.invokestatic 107, 3) := by decide +kernel
theorem dX12_equal_12 : decode cX12_equal 12 = .ok (.ifCond .ne 5, 3) := by decide +kernel
theorem dX12_equal_15 : decode cX12_equal 15 = .ok (.iconst (-1), 1) := by decide +kernel
theorem dX12_equal_16 : decode cX12_equal 16 = .ok (.ireturn, 1) := by decide +kernel
theorem dX12_equal_17 : decode cX12_equal 17 = .ok (.aload_n 0, 1) := by decide +kernel
theorem dX12_equal_18 : decode cX12_equal 18 = .ok (.invokevirtual 235, 3) := by decide +kernel
theorem dX12_equal_21 : decode cX12_equal 21 = .ok (.aload_n 0, 1) := by decide +kernel
theorem dX12_equal_22 : decode cX12_equal 22 = .ok (.iconst 1, 1) := by decide +kernel
theorem dX12_equal_23 : decode cX12_equal 23 = .ok (.invokevirtual 238, 3) := by decide +kernel
theorem dX12_equal_26 : decode cX12_equal 26 = .ok (.iconst 0, 1) := by decide +kernel
theorem dX12_equal_27 : decode cX12_equal 27 = .ok (.istore_n 2, 1) := by decide +kernel
theorem dX12_equal_28 : decode cX12_equal 28 = .ok (.iload_n 2, 1) := by decide +kernel
theorem dX12_equal_29 : decode cX12_equal 29 = .ok (.sipush 310, 3) := by decide +kernel
theorem dX12_equal_32 : decode cX12_equal 32 = .ok (.if_icmp .ge 21, 3) := by decide +kernel
theorem dX12_equal_35 : decode cX12_equal 35 = .ok (.aload_n 0, 1) := by decide +kernel
theorem dX12_equal_36 : decode cX12_equal 36 = .ok (.getfield 80, 3) := by decide +kernel
theorem dX12_equal_39 : decode cX12_equal 39 = .ok (.iload_n 2, 1) := by decide +kernel
theorem dX12_equal_40 : decode cX12_equal 40 = .ok (.aload_n 0, 1) := by decide +kernel
theorem dX12_equal_41 : decode cX12_equal 41 = .ok (.getfield 68, 3) := by decide +kernel
theorem dX12_equal_44 : decode cX12_equal 44 = .ok (.iload_n 2, 1) := by decide +kernel
theorem dX12_equal_45 : decode cX12_equal 45 = .ok (.iaload, 1) := by decide +kernel
theorem dX12_equal_46 : decode cX12_equal 46 = .ok (.iastore, 1) := by decide +kernel
theorem dX12_equal_47 : decode cX12_equal 47 = .ok (.iinc 2 1, 3) := by decide +kernel
theorem dX12_equal_50 : decode cX12_equal 50 = .ok (.goto (-22), 3) := by decide +kernel
theorem dX12_equal_53 : decode cX12_equal 53 = .ok (.iconst 0, 1) := by decide +kernel
theorem dX12_equal_54 : decode cX12_equal 54 = .ok (.istore_n 2, 1) := by decide +kernel
theorem dX12_equal_55 : decode cX12_equal 55 = .ok (.iload_n 2, 1) := by decide +kernel
theorem dX12_equal_56 : decode cX12_equal 56 = .ok (.bipush 36, 2) := by decide +kernel
theorem dX12_equal_58 : decode cX12_equal 58 = .ok (.if_icmp .ge 21, 3) := by decide +kernel
theorem dX12_equal_61 : decode cX12_equal 61 = .ok (.aload_n 0, 1) := by decide +kernel
theorem dX12_equal_62 : decode cX12_equal 62 = .ok (.getfield 83, 3) := by decide +kernel
theorem dX12_equal_65 : decode cX12_equal 65 = .ok (.iload_n 2, 1) := by decide +kernel
theorem dX12_equal_66 : decode cX12_equal 66 = .ok (.aload_n 0, 1) := by decide +kernel
theorem dX12_equal_67 : decode cX12_equal 67 = .ok (.getfield 74, 3) := by decide +kernel
theorem dX12_equal_70 : decode cX12_equal 70 = .ok (.iload_n 2, 1) := by decide +kernel
theorem dX12_equal_71 : decode cX12_equal 71 = .ok (.laload, 1) := by decide +kernel
theorem dX12_equal_72 : decode cX12_equal 72 = .ok (.lastore, 1) := by decide +kernel
theorem dX12_equal_73 : decode cX12_equal 73 = .ok (.iinc 2 1, 3) := by decide +kernel
theorem dX12_equal_76 : decode cX12_equal 76 = .ok (.goto (-21), 3) := by decide +kernel
theorem dX12_equal_79 : decode cX12_equal 79 = .ok (.aload_n 0, 1) := by decide +kernel
theorem dX12_equal_80 : decode cX12_equal 80 = .ok (.iload_n 1, 1) := by decide +kernel
theorem dX12_equal_81 : decode cX12_equal 81 = .ok (.invokevirtual 238, 3) := by decide +kernel
theorem dX12_equal_84 : decode cX12_equal 84 = .ok (.aload_n 0, 1) := by decide +kernel
theorem dX12_equal_85 : decode cX12_equal 85 = .ok (.invokevirtual 241, 3) := by decide +kernel
theorem dX12_equal_88 : decode cX12_equal 88 = .ok (.istore_n 2, 1) := by decide +kernel
theorem dX12_equal_89 : decode cX12_equal 89 = .ok (.aload_n 0, 1) := by decide +kernel
theorem dX12_equal_90 : decode cX12_equal 90 = .ok (.invokevirtual 244, 3) := by decide +kernel
theorem dX12_equal_93 : decode cX12_equal 93 = .ok (.iload_n 2, 1) := by decide +kernel
theorem dX12_equal_94 : decode cX12_equal 94 = .ok (.ifCond .eq 7, 3) := by decide +kernel
theorem dX12_equal_97 : decode cX12_equal 97 = .ok (.iconst 1, 1) := by decide +kernel
theorem dX12_equal_98 : decode cX12_equal 98 = .ok (.goto 4, 3) := by decide +kernel
theorem dX12_equal_101 : decode cX12_equal 101 = .ok (.iconst 0, 1) := by decide +kernel
theorem dX12_equal_102 : decode cX12_equal 102 = .ok (.ireturn, 1) := by decide +kernel
theorem dX12_isLikeFirst_0 : decode cX12_isLikeFirst 0 = .ok (.aload_n 0, 1) := by decide +kernel
theorem dX12_isLikeFirst_1 : decode cX12_isLikeFirst 1 = .ok (.getfield 68, 3) := by decide +kernel
theorem dX12_isLikeFirst_4 : decode cX12_isLikeFirst 4 = .ok (.sipush 245, 3) := by decide +kernel
theorem dX12_isLikeFirst_7 : decode cX12_isLikeFirst 7 = .ok (.iaload, 1) := by decide +kernel
theorem dX12_isLikeFirst_8 : decode cX12_isLikeFirst 8 = .ok (.istore_n 1, 1) := by decide +kernel
theorem dX12_isLikeFirst_9 : decode cX12_isLikeFirst 9 = .ok (.iload_n 1, 1) := by decide +kernel
theorem dX12_isLikeFirst_10 : decode cX12_isLikeFirst 10 = .ok (.aload_n 0, 1) := by decide +kernel
theorem dX12_isLikeFirst_11 : decode cX12_isLikeFirst 11 = .ok (.getfield 80, 3) := by decide +kernel
theorem dX12_isLikeFirst_14 : decode cX12_isLikeFirst 14 = .ok (.sipush 245, 3) := by decide +kernel
theorem dX12_isLikeFirst_17 : decode cX12_isLikeFirst 17 = .ok (.iaload, 1) := by decide +kernel
theorem dX12_isLikeFirst_18 : decode cX12_isLikeFirst 18 = .ok (.if_icmp .ne 39, 3) := by decide +kernel
theorem dX12_isLikeFirst_21 : decode cX12_isLikeFirst 21 = .ok (.iload_n 1, 1) := by decide +kernel
theorem dX12_isLikeFirst_22 : decode cX12_isLikeFirst 22 = .ok (.bipush (-9), 2) := by decide +kernel
theorem dX12_isLikeFirst_24 : decode cX12_isLikeFirst 24 = .ok (.if_icmp .eq 29, 3) := by decide +kernel
theorem dX12_isLikeFirst_27 : decode cX12_isLikeFirst 27 = .ok (.aload_n 0, 1) := by decide +kernel
theorem dX12_isLikeFirst_28 : decode cX12_isLikeFirst 28 = .ok (.getfield 26, 3) := by decide +kernel
theorem dX12_isLikeFirst_31 : decode cX12_isLikeFirst 31 = .ok (.iload_n 1, 1) := by decide +kernel
theorem dX12_isLikeFirst_32 : decode cX12_isLikeFirst 32 = .ok (.iaload, 1) := by decide +kernel
theorem dX12_isLikeFirst_33 : decode cX12_isLikeFirst 33 = .ok (.iconst 2, 1) := by decide +kernel
theorem dX12_isLikeFirst_34 : decode cX12_isLikeFirst 34 = .ok (.if_icmp .lt 19, 3) := by decide +kernel
theorem dX12_isLikeFirst_37 : decode cX12_isLikeFirst 37 = .ok (.aload_n 0, 1) := by decide +kernel
theorem dX12_isLikeFirst_38 : decode cX12_isLikeFirst 38 = .ok (.getfield 74, 3) := by decide +kernel
theorem dX12_isLikeFirst_41 : decode cX12_isLikeFirst 41 = .ok (.iload_n 1, 1) := by decide +kernel
theorem dX12_isLikeFirst_42 : decode cX12_isLikeFirst 42 = .ok (.laload, 1) := by decide +kernel
theorem dX12_isLikeFirst_43 : decode cX12_isLikeFirst 43 = .ok (.aload_n 0, 1) := by decide +kernel
theorem dX12_isLikeFirst_44 : decode cX12_isLikeFirst 44 = .ok (.getfield 83, 3) := by decide +kernel
theorem dX12_isLikeFirst_47 : decode cX12_isLikeFirst 47 = .ok (.iload_n 1, 1) := by decide +kernel
theorem dX12_isLikeFirst_48 : decode cX12_isLikeFirst 48 = .ok (.laload, 1) := by decide +kernel
theorem dX12_isLikeFirst_49 : decode cX12_isLikeFirst 49 = .ok (.lcmp, 1) := by decide +kernel
theorem dX12_isLikeFirst_50 : decode cX12_isLikeFirst 50 = .ok (.ifCond .ne 7, 3) := by decide +kernel
theorem dX12_isLikeFirst_53 : decode cX12_isLikeFirst 53 = .ok (.iconst 1, 1) := by decide +kernel
theorem dX12_isLikeFirst_54 : decode cX12_isLikeFirst 54 = .ok (.goto 4, 3) := by decide +kernel
theorem dX12_isLikeFirst_57 : decode cX12_isLikeFirst 57 = .ok (.iconst 0, 1) := by decide +kernel
theorem dX12_isLikeFirst_58 : decode cX12_isLikeFirst 58 = .ok (.istore_n 2, 1) := by decide +kernel
theorem dX12_isLikeFirst_59 : decode cX12_isLikeFirst 59 = .ok (.iconst 0, 1) := by decide +kernel
theorem dX12_isLikeFirst_60 : decode cX12_isLikeFirst 60 = .ok (.istore_n 3, 1) := by decide +kernel
theorem dX12_isLikeFirst_61 : decode cX12_isLikeFirst 61 = .ok (.iload_n 3, 1) := by decide +kernel
theorem dX12_isLikeFirst_62 : decode cX12_isLikeFirst 62 = .ok (.aload_n 0, 1) := by decide +kernel
theorem dX12_isLikeFirst_63 : decode cX12_isLikeFirst 63 = .ok (.getfield 101, 3) := by decide +kernel
theorem dX12_isLikeFirst_66 : decode cX12_isLikeFirst 66 = .ok (.if_icmp .ge 115, 3) := by decide +kernel
theorem dX12_isLikeFirst_69 : decode cX12_isLikeFirst 69 = .ok (.aload_n 0, 1) := by decide +kernel
theorem dX12_isLikeFirst_70 : decode cX12_isLikeFirst 70 = .ok (.iload_n 3, 1) := by decide +kernel
theorem dX12_isLikeFirst_71 : decode cX12_isLikeFirst 71 = .ok (.iconst 0, 1) := by decide +kernel
theorem dX12_isLikeFirst_72 : decode cX12_isLikeFirst 72 = .ok (.invokevirtual 173, 3) := by decide +kernel
theorem dX12_isLikeFirst_75 : decode cX12_isLikeFirst 75 = .ok (.istore 4, 2) := by decide +kernel
theorem dX12_isLikeFirst_77 : decode cX12_isLikeFirst 77 = .ok (.aload_n 0, 1) := by decide +kernel
theorem dX12_isLikeFirst_78 : decode cX12_isLikeFirst 78 = .ok (.getfield 80, 3) := by decide +kernel
theorem dX12_isLikeFirst_81 : decode cX12_isLikeFirst 81 = .ok (.bipush 12, 2) := by decide +kernel
theorem dX12_isLikeFirst_83 : decode cX12_isLikeFirst 83 = .ok (.iload_n 3, 1) := by decide +kernel
theorem dX12_isLikeFirst_84 : decode cX12_isLikeFirst 84 = .ok (.imul, 1) := by decide +kernel
theorem dX12_isLikeFirst_85 : decode cX12_isLikeFirst 85 = .ok (.iconst 0, 1) := by decide +kernel
theorem dX12_isLikeFirst_86 : decode cX12_isLikeFirst 86 = .ok (.iadd, 1) := by decide +kernel
theorem dX12_isLikeFirst_87 : decode cX12_isLikeFirst 87 = .ok (.iaload, 1) := by decide +kernel
theorem dX12_isLikeFirst_88 : decode cX12_isLikeFirst 88 = .ok (.istore 5, 2) := by decide +kernel
theorem dX12_isLikeFirst_90 : decode cX12_isLikeFirst 90 = .ok (.aload_n 0, 1) := by decide +kernel
theorem dX12_isLikeFirst_91 : decode cX12_isLikeFirst 91 = .ok (.getfield 26, 3) := by decide +kernel
theorem dX12_isLikeFirst_94 : decode cX12_isLikeFirst 94 = .ok (.iload_n 3, 1) := by decide +kernel
theorem dX12_isLikeFirst_95 : decode cX12_isLikeFirst 95 = .ok (.iaload, 1) := by decide +kernel
theorem dX12_isLikeFirst_96 : decode cX12_isLikeFirst 96 = .ok (.iconst 4, 1) := by decide +kernel
theorem dX12_isLikeFirst_97 : decode cX12_isLikeFirst 97 = .ok (.if_icmp .eq 18, 3) := by decide +kernel
theorem dX12_isLikeFirst_100 : decode cX12_isLikeFirst 100 = .ok (.iload_n 1, 1) := by decide +kernel
theorem dX12_isLikeFirst_101 : decode cX12_isLikeFirst 101 = .ok (.bipush (-9), 2) := by decide +kernel
theorem dX12_isLikeFirst_103 : decode cX12_isLikeFirst 103 = .ok (.if_icmp .eq 8, 3) := by decide +kernel
theorem dX12_isLikeFirst_106 : decode cX12_isLikeFirst 106 = .ok (.iload_n 3, 1) := by decide +kernel
theorem dX12_isLikeFirst_107 : decode cX12_isLikeFirst 107 = .ok (.iload_n 1, 1) := by decide +kernel
theorem dX12_isLikeFirst_108 : decode cX12_isLikeFirst 108 = .ok (.if_icmp .ge 7, 3) := by decide +kernel
theorem dX12_isLikeFirst_111 : decode cX12_isLikeFirst 111 = .ok (.iconst 1, 1) := by decide +kernel
theorem dX12_isLikeFirst_112 : decode cX12_isLikeFirst 112 = .ok (.goto 4, 3) := by decide +kernel
theorem dX12_isLikeFirst_115 : decode cX12_isLikeFirst 115 = .ok (.iconst 0, 1) := by decide +kernel
theorem dX12_isLikeFirst_116 : decode cX12_isLikeFirst 116 = .ok (.istore 6, 2) := by decide +kernel
theorem dX12_isLikeFirst_118 : decode cX12_isLikeFirst 118 = .ok (.iload_n 2, 1) := by decide +kernel
theorem dX12_isLikeFirst_119 : decode cX12_isLikeFirst 119 = .ok (.ifCond .eq 54, 3) := by decide +kernel
theorem dX12_isLikeFirst_122 : decode cX12_isLikeFirst 122 = .ok (.iload 6, 2) := by decide +kernel
theorem dX12_isLikeFirst_124 : decode cX12_isLikeFirst 124 = .ok (.ifCond .eq 10, 3) := by decide +kernel
theorem dX12_isLikeFirst_127 : decode cX12_isLikeFirst 127 = .ok (.iload 4, 2) := by decide +kernel
theorem dX12_isLikeFirst_129 : decode cX12_isLikeFirst 129 = .ok (.iload 5, 2) := by decide +kernel
theorem dX12_isLikeFirst_131 : decode cX12_isLikeFirst 131 = .ok (.if_icmp .ne 42, 3) := by decide +kernel
theorem dX12_isLikeFirst_134 : decode cX12_isLikeFirst 134 = .ok (.aload_n 0, 1) := by decide +kernel
theorem dX12_isLikeFirst_135 : decode cX12_isLikeFirst 135 = .ok (.getfield 26, 3) := by decide +kernel
theorem dX12_isLikeFirst_138 : decode cX12_isLikeFirst 138 = .ok (.iload_n 3, 1) := by decide +kernel
theorem dX12_isLikeFirst_139 : decode cX12_isLikeFirst 139 = .ok (.iaload, 1) := by decide +kernel
theorem dX12_isLikeFirst_140 : decode cX12_isLikeFirst 140 = .ok (.iconst 4, 1) := by decide +kernel
theorem dX12_isLikeFirst_141 : decode cX12_isLikeFirst 141 = .ok (.if_icmp .ne 28, 3) := by decide +kernel
theorem dX12_isLikeFirst_144 : decode cX12_isLikeFirst 144 = .ok (.iload 4, 2) := by decide +kernel
theorem dX12_isLikeFirst_146 : decode cX12_isLikeFirst 146 = .ok (.iconst 4, 1) := by decide +kernel
theorem dX12_isLikeFirst_147 : decode cX12_isLikeFirst 147 = .ok (.if_icmp .ne 7, 3) := by decide +kernel
theorem dX12_isLikeFirst_150 : decode cX12_isLikeFirst 150 = .ok (.iconst 1, 1) := by decide +kernel
theorem dX12_isLikeFirst_151 : decode cX12_isLikeFirst 151 = .ok (.goto 4, 3) := by decide +kernel
theorem dX12_isLikeFirst_154 : decode cX12_isLikeFirst 154 = .ok (.iconst 0, 1) := by decide +kernel
theorem dX12_isLikeFirst_155 : decode cX12_isLikeFirst 155 = .ok (.iload 5, 2) := by decide +kernel
theorem dX12_isLikeFirst_157 : decode cX12_isLikeFirst 157 = .ok (.iconst 4, 1) := by decide +kernel
theorem dX12_isLikeFirst_158 : decode cX12_isLikeFirst 158 = .ok (.if_icmp .ne 7, 3) := by decide +kernel
theorem dX12_isLikeFirst_161 : decode cX12_isLikeFirst 161 = .ok (.iconst 1, 1) := by decide +kernel
theorem dX12_isLikeFirst_162 : decode cX12_isLikeFirst 162 = .ok (.goto 4, 3) := by decide +kernel
theorem dX12_isLikeFirst_165 : decode cX12_isLikeFirst 165 = .ok (.iconst 0, 1) := by decide +kernel
theorem dX12_isLikeFirst_166 : decode cX12_isLikeFirst 166 = .ok (.if_icmp .ne 7, 3) := by decide +kernel
theorem dX12_isLikeFirst_169 : decode cX12_isLikeFirst 169 = .ok (.iconst 1, 1) := by decide +kernel
theorem dX12_isLikeFirst_170 : decode cX12_isLikeFirst 170 = .ok (.goto 4, 3) := by decide +kernel
theorem dX12_isLikeFirst_173 : decode cX12_isLikeFirst 173 = .ok (.iconst 0, 1) := by decide +kernel
theorem dX12_isLikeFirst_174 : decode cX12_isLikeFirst 174 = .ok (.istore_n 2, 1) := by decide +kernel
theorem dX12_isLikeFirst_175 : decode cX12_isLikeFirst 175 = .ok (.iinc 3 1, 3) := by decide +kernel
theorem dX12_isLikeFirst_178 : decode cX12_isLikeFirst 178 = .ok (.goto (-117), 3) := by decide +kernel
theorem dX12_isLikeFirst_181 : decode cX12_isLikeFirst 181 = .ok (.iconst 0, 1) := by decide +kernel
theorem dX12_isLikeFirst_182 : decode cX12_isLikeFirst 182 = .ok (.istore_n 3, 1) := by decide +kernel
theorem dX12_isLikeFirst_183 : decode cX12_isLikeFirst 183 = .ok (.iload_n 3, 1) := by decide +kernel
theorem dX12_isLikeFirst_184 : decode cX12_isLikeFirst 184 = .ok (.aload_n 0, 1) := by decide +kernel
theorem dX12_isLikeFirst_185 : decode cX12_isLikeFirst 185 = .ok (.getfield 148, 3) := by decide +kernel
theorem dX12_isLikeFirst_188 : decode cX12_isLikeFirst 188 = .ok (.if_icmp .ge 64, 3) := by decide +kernel
theorem dX12_isLikeFirst_191 : decode cX12_isLikeFirst 191 = .ok (.iload_n 2, 1) := by decide +kernel
theorem dX12_isLikeFirst_192 : decode cX12_isLikeFirst 192 = .ok (.ifCond .eq 52, 3) := by decide +kernel
theorem dX12_isLikeFirst_195 : decode cX12_isLikeFirst 195 = .ok (.aload_n 0, 1) := by decide +kernel
theorem dX12_isLikeFirst_196 : decode cX12_isLikeFirst 196 = .ok (.getfield 68, 3) := by decide +kernel
theorem dX12_isLikeFirst_199 : decode cX12_isLikeFirst 199 = .ok (.sipush 302, 3) := by decide +kernel
theorem dX12_isLikeFirst_202 : decode cX12_isLikeFirst 202 = .ok (.iload_n 3, 1) := by decide +kernel
theorem dX12_isLikeFirst_203 : decode cX12_isLikeFirst 203 = .ok (.iadd, 1) := by decide +kernel
theorem dX12_isLikeFirst_204 : decode cX12_isLikeFirst 204 = .ok (.iaload, 1) := by decide +kernel
theorem dX12_isLikeFirst_205 : decode cX12_isLikeFirst 205 = .ok (.aload_n 0, 1) := by decide +kernel
theorem dX12_isLikeFirst_206 : decode cX12_isLikeFirst 206 = .ok (.getfield 80, 3) := by decide +kernel
theorem dX12_isLikeFirst_209 : decode cX12_isLikeFirst 209 = .ok (.sipush 302, 3) := by decide +kernel
theorem dX12_isLikeFirst_212 : decode cX12_isLikeFirst 212 = .ok (.iload_n 3, 1) := by decide +kernel
theorem dX12_isLikeFirst_213 : decode cX12_isLikeFirst 213 = .ok (.iadd, 1) := by decide +kernel
theorem dX12_isLikeFirst_214 : decode cX12_isLikeFirst 214 = .ok (.iaload, 1) := by decide +kernel
theorem dX12_isLikeFirst_215 : decode cX12_isLikeFirst 215 = .ok (.if_icmp .ne 29, 3) := by decide +kernel
theorem dX12_isLikeFirst_218 : decode cX12_isLikeFirst 218 = .ok (.aload_n 0, 1) := by decide +kernel
theorem dX12_isLikeFirst_219 : decode cX12_isLikeFirst 219 = .ok (.getfield 74, 3) := by decide +kernel
theorem dX12_isLikeFirst_222 : decode cX12_isLikeFirst 222 = .ok (.bipush 20, 2) := by decide +kernel
theorem dX12_isLikeFirst_224 : decode cX12_isLikeFirst 224 = .ok (.iload_n 3, 1) := by decide +kernel
theorem dX12_isLikeFirst_225 : decode cX12_isLikeFirst 225 = .ok (.iadd, 1) := by decide +kernel
theorem dX12_isLikeFirst_226 : decode cX12_isLikeFirst 226 = .ok (.laload, 1) := by decide +kernel
theorem dX12_isLikeFirst_227 : decode cX12_isLikeFirst 227 = .ok (.aload_n 0, 1) := by decide +kernel
theorem dX12_isLikeFirst_228 : decode cX12_isLikeFirst 228 = .ok (.getfield 83, 3) := by decide +kernel
theorem dX12_isLikeFirst_231 : decode cX12_isLikeFirst 231 = .ok (.bipush 20, 2) := by decide +kernel
theorem dX12_isLikeFirst_233 : decode cX12_isLikeFirst 233 = .ok (.iload_n 3, 1) := by decide +kernel
theorem dX12_isLikeFirst_234 : decode cX12_isLikeFirst 234 = .ok (.iadd, 1) := by decide +kernel
theorem dX12_isLikeFirst_235 : decode cX12_isLikeFirst 235 = .ok (.laload, 1) := by decide +kernel
theorem dX12_isLikeFirst_236 : decode cX12_isLikeFirst 236 = .ok (.lcmp, 1) := by decide +kernel
theorem dX12_isLikeFirst_237 : decode cX12_isLikeFirst 237 = .ok (.ifCond .ne 7, 3) := by decide +kernel
theorem dX12_isLikeFirst_240 : decode cX12_isLikeFirst 240 = .ok (.iconst 1, 1) := by decide +kernel
theorem dX12_isLikeFirst_241 : decode cX12_isLikeFirst 241 = .ok (.goto 4, 3) := by decide +kernel
theorem dX12_isLikeFirst_244 : decode cX12_isLikeFirst 244 = .ok (.iconst 0, 1) := by decide +kernel
theorem dX12_isLikeFirst_245 : decode cX12_isLikeFirst 245 = .ok (.istore_n 2, 1) := by decide +kernel
theorem dX12_isLikeFirst_246 : decode cX12_isLikeFirst 246 = .ok (.iinc 3 1, 3) := by decide +kernel
theorem dX12_isLikeFirst_249 : decode cX12_isLikeFirst 249 = .ok (.goto (-66), 3) := by decide +kernel
theorem dX12_isLikeFirst_252 : decode cX12_isLikeFirst 252 = .ok (.iload_n 2, 1) := by decide +kernel
theorem dX12_isLikeFirst_253 : decode cX12_isLikeFirst 253 = .ok (.ireturn, 1) := by decide +kernel
theorem dL_cell_0 : decode cL_cell 0 = .ok (.iload_n 1, 1) := by decide +kernel
theorem dL_cell_1 : decode cL_cell 1 = .ok (.aload_n 0, 1) := by decide +kernel
theorem dL_cell_2 : decode cL_cell 2 = .ok (.arraylength, 1) := by decide +kernel
theorem dL_cell_3 : decode cL_cell 3 = .ok (.if_icmp .ge 9, 3) := by decide +kernel
theorem dL_cell_6 : decode cL_cell 6 = .ok (.aload_n 0, 1) := by decide +kernel
theorem dL_cell_7 : decode cL_cell 7 = .ok (.iload_n 1, 1) := by decide +kernel
theorem dL_cell_8 : decode cL_cell 8 = .ok (.iaload, 1) := by decide +kernel
theorem dL_cell_9 : decode cL_cell 9 = .ok (.goto 4, 3) := by decide +kernel
theorem dL_cell_12 : decode cL_cell 12 = .ok (.iconst 0, 1) := by decide +kernel
theorem dL_cell_13 : decode cL_cell 13 = .ok (.ireturn, 1) := by decide +kernel
theorem dL_law_0 : decode cL_law 0 = .ok (.new 7, 3) := by decide +kernel
theorem dL_law_3 : decode cL_law 3 = .ok (.dup, 1) := by decide +kernel
theorem dL_law_4 : decode cL_law 4 = .ok (.aload_n 0, 1) := by decide +kernel
theorem dL_law_5 : decode cL_law 5 = .ok (.iconst 0, 1) := by decide +kernel
theorem dL_law_6 : decode cL_law 6 = .ok (.invokestatic 9, 3) := by decide +kernel
theorem dL_law_9 : decode cL_law 9 = .ok (.aload_n 0, 1) := by decide +kernel
theorem dL_law_10 : decode cL_law 10 = .ok (.iconst 1, 1) := by decide +kernel
theorem dL_law_11 : decode cL_law 11 = .ok (.invokestatic 9, 3) := by decide +kernel
theorem dL_law_14 : decode cL_law 14 = .ok (.invokespecial 15, 3) := by decide +kernel
theorem dL_law_17 : decode cL_law 17 = .ok (.astore_n 1, 1) := by decide +kernel
theorem dL_law_18 : decode cL_law 18 = .ok (.new 18, 3) := by decide +kernel
theorem dL_law_21 : decode cL_law 21 = .ok (.dup, 1) := by decide +kernel
theorem dL_law_22 : decode cL_law 22 = .ok (.aload_n 0, 1) := by decide +kernel
theorem dL_law_23 : decode cL_law 23 = .ok (.iconst 0, 1) := by decide +kernel
theorem dL_law_24 : decode cL_law 24 = .ok (.invokestatic 9, 3) := by decide +kernel
theorem dL_law_27 : decode cL_law 27 = .ok (.aload_n 0, 1) := by decide +kernel
theorem dL_law_28 : decode cL_law 28 = .ok (.iconst 1, 1) := by decide +kernel
theorem dL_law_29 : decode cL_law 29 = .ok (.invokestatic 9, 3) := by decide +kernel
theorem dL_law_32 : decode cL_law 32 = .ok (.invokespecial 20, 3) := by decide +kernel
theorem dL_law_35 : decode cL_law 35 = .ok (.astore_n 2, 1) := by decide +kernel
theorem dL_law_36 : decode cL_law 36 = .ok (.iconst 2, 1) := by decide +kernel
theorem dL_law_37 : decode cL_law 37 = .ok (.istore_n 3, 1) := by decide +kernel
theorem dL_law_38 : decode cL_law 38 = .ok (.iload_n 3, 1) := by decide +kernel
theorem dL_law_39 : decode cL_law 39 = .ok (.aload_n 0, 1) := by decide +kernel
theorem dL_law_40 : decode cL_law 40 = .ok (.arraylength, 1) := by decide +kernel
theorem dL_law_41 : decode cL_law 41 = .ok (.bipush 8, 2) := by decide +kernel
theorem dL_law_43 : decode cL_law 43 = .ok (.isub, 1) := by decide +kernel
theorem dL_law_44 : decode cL_law 44 = .ok (.if_icmp .gt 1070, 3) := by decide +kernel
theorem dL_law_47 : decode cL_law 47 = .ok (.aload_n 0, 1) := by decide +kernel
theorem dL_law_48 : decode cL_law 48 = .ok (.iload_n 3, 1) := by decide +kernel
theorem dL_law_49 : decode cL_law 49 = .ok (.iaload, 1) := by decide +kernel
theorem dL_law_50 : decode cL_law 50 = .ok (.bipush 31, 2) := by decide +kernel
theorem dL_law_52 : decode cL_law 52 = .ok (.iand, 1) := by decide +kernel
theorem dL_law_53 : decode cL_law 53 = .ok (.tableswitch 1055 0 22 #[107, 150, 193, 276, 330, 383, 416, 539, 618, 701, 764, 787, 810, 833, 846, 859, 872, 896, 929, 963, 986, 1009, 1032], 107) := by decide +kernel
theorem dL_law_160 : decode cL_law 160 = .ok (.aload_n 1, 1) := by decide +kernel
theorem dL_law_161 : decode cL_law 161 = .ok (.aload_n 0, 1) := by decide +kernel
theorem dL_law_162 : decode cL_law 162 = .ok (.iload_n 3, 1) := by decide +kernel
theorem dL_law_163 : decode cL_law 163 = .ok (.iconst 1, 1) := by decide +kernel
theorem dL_law_164 : decode cL_law 164 = .ok (.iadd, 1) := by decide +kernel
theorem dL_law_165 : decode cL_law 165 = .ok (.iaload, 1) := by decide +kernel
theorem dL_law_166 : decode cL_law 166 = .ok (.aload_n 0, 1) := by decide +kernel
theorem dL_law_167 : decode cL_law 167 = .ok (.iload_n 3, 1) := by decide +kernel
theorem dL_law_168 : decode cL_law 168 = .ok (.iconst 2, 1) := by decide +kernel
theorem dL_law_169 : decode cL_law 169 = .ok (.iadd, 1) := by decide +kernel
theorem dL_law_170 : decode cL_law 170 = .ok (.iaload, 1) := by decide +kernel
theorem dL_law_171 : decode cL_law 171 = .ok (.aload_n 0, 1) := by decide +kernel
theorem dL_law_172 : decode cL_law 172 = .ok (.iload_n 3, 1) := by decide +kernel
theorem dL_law_173 : decode cL_law 173 = .ok (.iconst 3, 1) := by decide +kernel
theorem dL_law_174 : decode cL_law 174 = .ok (.iadd, 1) := by decide +kernel
theorem dL_law_175 : decode cL_law 175 = .ok (.iaload, 1) := by decide +kernel
theorem dL_law_176 : decode cL_law 176 = .ok (.invokevirtual 21, 3) := by decide +kernel
theorem dL_law_179 : decode cL_law 179 = .ok (.aload_n 2, 1) := by decide +kernel
theorem dL_law_180 : decode cL_law 180 = .ok (.aload_n 0, 1) := by decide +kernel
theorem dL_law_181 : decode cL_law 181 = .ok (.iload_n 3, 1) := by decide +kernel
theorem dL_law_182 : decode cL_law 182 = .ok (.iconst 1, 1) := by decide +kernel
theorem dL_law_183 : decode cL_law 183 = .ok (.iadd, 1) := by decide +kernel
theorem dL_law_184 : decode cL_law 184 = .ok (.iaload, 1) := by decide +kernel
theorem dL_law_185 : decode cL_law 185 = .ok (.aload_n 0, 1) := by decide +kernel
theorem dL_law_186 : decode cL_law 186 = .ok (.iload_n 3, 1) := by decide +kernel
theorem dL_law_187 : decode cL_law 187 = .ok (.iconst 2, 1) := by decide +kernel
theorem dL_law_188 : decode cL_law 188 = .ok (.iadd, 1) := by decide +kernel
theorem dL_law_189 : decode cL_law 189 = .ok (.iaload, 1) := by decide +kernel
theorem dL_law_190 : decode cL_law 190 = .ok (.aload_n 0, 1) := by decide +kernel
theorem dL_law_191 : decode cL_law 191 = .ok (.iload_n 3, 1) := by decide +kernel
theorem dL_law_192 : decode cL_law 192 = .ok (.iconst 3, 1) := by decide +kernel
theorem dL_law_193 : decode cL_law 193 = .ok (.iadd, 1) := by decide +kernel
theorem dL_law_194 : decode cL_law 194 = .ok (.iaload, 1) := by decide +kernel
theorem dL_law_195 : decode cL_law 195 = .ok (.invokevirtual 25, 3) := by decide +kernel
theorem dL_law_198 : decode cL_law 198 = .ok (.if_icmp .eq 910, 3) := by decide +kernel
theorem dL_law_201 : decode cL_law 201 = .ok (.iconst 0, 1) := by decide +kernel
theorem dL_law_202 : decode cL_law 202 = .ok (.ireturn, 1) := by decide +kernel
theorem dL_law_203 : decode cL_law 203 = .ok (.aload_n 1, 1) := by decide +kernel
theorem dL_law_204 : decode cL_law 204 = .ok (.aload_n 0, 1) := by decide +kernel
theorem dL_law_205 : decode cL_law 205 = .ok (.iload_n 3, 1) := by decide +kernel
theorem dL_law_206 : decode cL_law 206 = .ok (.iconst 1, 1) := by decide +kernel
theorem dL_law_207 : decode cL_law 207 = .ok (.iadd, 1) := by decide +kernel
theorem dL_law_208 : decode cL_law 208 = .ok (.iaload, 1) := by decide +kernel
theorem dL_law_209 : decode cL_law 209 = .ok (.aload_n 0, 1) := by decide +kernel
theorem dL_law_210 : decode cL_law 210 = .ok (.iload_n 3, 1) := by decide +kernel
theorem dL_law_211 : decode cL_law 211 = .ok (.iconst 2, 1) := by decide +kernel
theorem dL_law_212 : decode cL_law 212 = .ok (.iadd, 1) := by decide +kernel
theorem dL_law_213 : decode cL_law 213 = .ok (.iaload, 1) := by decide +kernel
theorem dL_law_214 : decode cL_law 214 = .ok (.aload_n 0, 1) := by decide +kernel
theorem dL_law_215 : decode cL_law 215 = .ok (.iload_n 3, 1) := by decide +kernel
theorem dL_law_216 : decode cL_law 216 = .ok (.iconst 3, 1) := by decide +kernel
theorem dL_law_217 : decode cL_law 217 = .ok (.iadd, 1) := by decide +kernel
theorem dL_law_218 : decode cL_law 218 = .ok (.iaload, 1) := by decide +kernel
theorem dL_law_219 : decode cL_law 219 = .ok (.invokevirtual 26, 3) := by decide +kernel
theorem dL_law_222 : decode cL_law 222 = .ok (.aload_n 2, 1) := by decide +kernel
theorem dL_law_223 : decode cL_law 223 = .ok (.aload_n 0, 1) := by decide +kernel
theorem dL_law_224 : decode cL_law 224 = .ok (.iload_n 3, 1) := by decide +kernel
theorem dL_law_225 : decode cL_law 225 = .ok (.iconst 1, 1) := by decide +kernel
theorem dL_law_226 : decode cL_law 226 = .ok (.iadd, 1) := by decide +kernel
theorem dL_law_227 : decode cL_law 227 = .ok (.iaload, 1) := by decide +kernel
theorem dL_law_228 : decode cL_law 228 = .ok (.aload_n 0, 1) := by decide +kernel
theorem dL_law_229 : decode cL_law 229 = .ok (.iload_n 3, 1) := by decide +kernel
theorem dL_law_230 : decode cL_law 230 = .ok (.iconst 2, 1) := by decide +kernel
theorem dL_law_231 : decode cL_law 231 = .ok (.iadd, 1) := by decide +kernel
theorem dL_law_232 : decode cL_law 232 = .ok (.iaload, 1) := by decide +kernel
theorem dL_law_233 : decode cL_law 233 = .ok (.aload_n 0, 1) := by decide +kernel
theorem dL_law_234 : decode cL_law 234 = .ok (.iload_n 3, 1) := by decide +kernel
theorem dL_law_235 : decode cL_law 235 = .ok (.iconst 3, 1) := by decide +kernel
theorem dL_law_236 : decode cL_law 236 = .ok (.iadd, 1) := by decide +kernel
theorem dL_law_237 : decode cL_law 237 = .ok (.iaload, 1) := by decide +kernel
theorem dL_law_238 : decode cL_law 238 = .ok (.invokevirtual 29, 3) := by decide +kernel
theorem dL_law_241 : decode cL_law 241 = .ok (.if_icmp .eq 867, 3) := by decide +kernel
theorem dL_law_244 : decode cL_law 244 = .ok (.iconst 0, 1) := by decide +kernel
theorem dL_law_245 : decode cL_law 245 = .ok (.ireturn, 1) := by decide +kernel
theorem dL_law_246 : decode cL_law 246 = .ok (.aload_n 1, 1) := by decide +kernel
theorem dL_law_247 : decode cL_law 247 = .ok (.aload_n 0, 1) := by decide +kernel
theorem dL_law_248 : decode cL_law 248 = .ok (.iload_n 3, 1) := by decide +kernel
theorem dL_law_249 : decode cL_law 249 = .ok (.iconst 1, 1) := by decide +kernel
theorem dL_law_250 : decode cL_law 250 = .ok (.iadd, 1) := by decide +kernel
theorem dL_law_251 : decode cL_law 251 = .ok (.iaload, 1) := by decide +kernel
theorem dL_law_252 : decode cL_law 252 = .ok (.aload_n 0, 1) := by decide +kernel
theorem dL_law_253 : decode cL_law 253 = .ok (.iload_n 3, 1) := by decide +kernel
theorem dL_law_254 : decode cL_law 254 = .ok (.iconst 2, 1) := by decide +kernel
theorem dL_law_255 : decode cL_law 255 = .ok (.iadd, 1) := by decide +kernel
theorem dL_law_256 : decode cL_law 256 = .ok (.iaload, 1) := by decide +kernel
theorem dL_law_257 : decode cL_law 257 = .ok (.aload_n 0, 1) := by decide +kernel
theorem dL_law_258 : decode cL_law 258 = .ok (.iload_n 3, 1) := by decide +kernel
theorem dL_law_259 : decode cL_law 259 = .ok (.iconst 3, 1) := by decide +kernel
theorem dL_law_260 : decode cL_law 260 = .ok (.iadd, 1) := by decide +kernel
theorem dL_law_261 : decode cL_law 261 = .ok (.iaload, 1) := by decide +kernel
theorem dL_law_262 : decode cL_law 262 = .ok (.aload_n 0, 1) := by decide +kernel
theorem dL_law_263 : decode cL_law 263 = .ok (.iload_n 3, 1) := by decide +kernel
theorem dL_law_264 : decode cL_law 264 = .ok (.iconst 4, 1) := by decide +kernel
theorem dL_law_265 : decode cL_law 265 = .ok (.iadd, 1) := by decide +kernel
theorem dL_law_266 : decode cL_law 266 = .ok (.iaload, 1) := by decide +kernel
theorem dL_law_267 : decode cL_law 267 = .ok (.i2l, 1) := by decide +kernel
theorem dL_law_268 : decode cL_law 268 = .ok (.bipush 32, 2) := by decide +kernel
theorem dL_law_270 : decode cL_law 270 = .ok (.lshl, 1) := by decide +kernel
theorem dL_law_271 : decode cL_law 271 = .ok (.aload_n 0, 1) := by decide +kernel
theorem dL_law_272 : decode cL_law 272 = .ok (.iload_n 3, 1) := by decide +kernel
theorem dL_law_273 : decode cL_law 273 = .ok (.iconst 5, 1) := by decide +kernel
theorem dL_law_274 : decode cL_law 274 = .ok (.iadd, 1) := by decide +kernel
theorem dL_law_275 : decode cL_law 275 = .ok (.iaload, 1) := by decide +kernel
theorem dL_law_276 : decode cL_law 276 = .ok (.i2l, 1) := by decide +kernel
theorem dL_law_277 : decode cL_law 277 = .ok (.ldc2_w 30, 3) := by decide +kernel
theorem dL_law_280 : decode cL_law 280 = .ok (.land, 1) := by decide +kernel
theorem dL_law_281 : decode cL_law 281 = .ok (.lor, 1) := by decide +kernel
theorem dL_law_282 : decode cL_law 282 = .ok (.invokevirtual 32, 3) := by decide +kernel
theorem dL_law_285 : decode cL_law 285 = .ok (.aload_n 2, 1) := by decide +kernel
theorem dL_law_286 : decode cL_law 286 = .ok (.aload_n 0, 1) := by decide +kernel
theorem dL_law_287 : decode cL_law 287 = .ok (.iload_n 3, 1) := by decide +kernel
theorem dL_law_288 : decode cL_law 288 = .ok (.iconst 1, 1) := by decide +kernel
theorem dL_law_289 : decode cL_law 289 = .ok (.iadd, 1) := by decide +kernel
theorem dL_law_290 : decode cL_law 290 = .ok (.iaload, 1) := by decide +kernel
theorem dL_law_291 : decode cL_law 291 = .ok (.aload_n 0, 1) := by decide +kernel
theorem dL_law_292 : decode cL_law 292 = .ok (.iload_n 3, 1) := by decide +kernel
theorem dL_law_293 : decode cL_law 293 = .ok (.iconst 2, 1) := by decide +kernel
theorem dL_law_294 : decode cL_law 294 = .ok (.iadd, 1) := by decide +kernel
theorem dL_law_295 : decode cL_law 295 = .ok (.iaload, 1) := by decide +kernel
theorem dL_law_296 : decode cL_law 296 = .ok (.aload_n 0, 1) := by decide +kernel
theorem dL_law_297 : decode cL_law 297 = .ok (.iload_n 3, 1) := by decide +kernel
theorem dL_law_298 : decode cL_law 298 = .ok (.iconst 3, 1) := by decide +kernel
theorem dL_law_299 : decode cL_law 299 = .ok (.iadd, 1) := by decide +kernel
theorem dL_law_300 : decode cL_law 300 = .ok (.iaload, 1) := by decide +kernel
theorem dL_law_301 : decode cL_law 301 = .ok (.aload_n 0, 1) := by decide +kernel
theorem dL_law_302 : decode cL_law 302 = .ok (.iload_n 3, 1) := by decide +kernel
theorem dL_law_303 : decode cL_law 303 = .ok (.iconst 4, 1) := by decide +kernel
theorem dL_law_304 : decode cL_law 304 = .ok (.iadd, 1) := by decide +kernel
theorem dL_law_305 : decode cL_law 305 = .ok (.iaload, 1) := by decide +kernel
theorem dL_law_306 : decode cL_law 306 = .ok (.i2l, 1) := by decide +kernel
theorem dL_law_307 : decode cL_law 307 = .ok (.bipush 32, 2) := by decide +kernel
theorem dL_law_309 : decode cL_law 309 = .ok (.lshl, 1) := by decide +kernel
theorem dL_law_310 : decode cL_law 310 = .ok (.aload_n 0, 1) := by decide +kernel
theorem dL_law_311 : decode cL_law 311 = .ok (.iload_n 3, 1) := by decide +kernel
theorem dL_law_312 : decode cL_law 312 = .ok (.iconst 5, 1) := by decide +kernel
theorem dL_law_313 : decode cL_law 313 = .ok (.iadd, 1) := by decide +kernel
theorem dL_law_314 : decode cL_law 314 = .ok (.iaload, 1) := by decide +kernel
theorem dL_law_315 : decode cL_law 315 = .ok (.i2l, 1) := by decide +kernel
theorem dL_law_316 : decode cL_law 316 = .ok (.ldc2_w 30, 3) := by decide +kernel
theorem dL_law_319 : decode cL_law 319 = .ok (.land, 1) := by decide +kernel
theorem dL_law_320 : decode cL_law 320 = .ok (.lor, 1) := by decide +kernel
theorem dL_law_321 : decode cL_law 321 = .ok (.invokevirtual 36, 3) := by decide +kernel
theorem dL_law_324 : decode cL_law 324 = .ok (.if_icmp .eq 784, 3) := by decide +kernel
theorem dL_law_327 : decode cL_law 327 = .ok (.iconst 0, 1) := by decide +kernel
theorem dL_law_328 : decode cL_law 328 = .ok (.ireturn, 1) := by decide +kernel
theorem dL_law_329 : decode cL_law 329 = .ok (.aload_n 1, 1) := by decide +kernel
theorem dL_law_330 : decode cL_law 330 = .ok (.aload_n 0, 1) := by decide +kernel
theorem dL_law_331 : decode cL_law 331 = .ok (.iload_n 3, 1) := by decide +kernel
theorem dL_law_332 : decode cL_law 332 = .ok (.iconst 1, 1) := by decide +kernel
theorem dL_law_333 : decode cL_law 333 = .ok (.iadd, 1) := by decide +kernel
theorem dL_law_334 : decode cL_law 334 = .ok (.iaload, 1) := by decide +kernel
theorem dL_law_335 : decode cL_law 335 = .ok (.aload_n 0, 1) := by decide +kernel
theorem dL_law_336 : decode cL_law 336 = .ok (.iload_n 3, 1) := by decide +kernel
theorem dL_law_337 : decode cL_law 337 = .ok (.iconst 2, 1) := by decide +kernel
theorem dL_law_338 : decode cL_law 338 = .ok (.iadd, 1) := by decide +kernel
theorem dL_law_339 : decode cL_law 339 = .ok (.iaload, 1) := by decide +kernel
theorem dL_law_340 : decode cL_law 340 = .ok (.aload_n 0, 1) := by decide +kernel
theorem dL_law_341 : decode cL_law 341 = .ok (.iload_n 3, 1) := by decide +kernel
theorem dL_law_342 : decode cL_law 342 = .ok (.iconst 3, 1) := by decide +kernel
theorem dL_law_343 : decode cL_law 343 = .ok (.iadd, 1) := by decide +kernel
theorem dL_law_344 : decode cL_law 344 = .ok (.iaload, 1) := by decide +kernel
theorem dL_law_345 : decode cL_law 345 = .ok (.aload_n 0, 1) := by decide +kernel
theorem dL_law_346 : decode cL_law 346 = .ok (.iload_n 3, 1) := by decide +kernel
theorem dL_law_347 : decode cL_law 347 = .ok (.iconst 4, 1) := by decide +kernel
theorem dL_law_348 : decode cL_law 348 = .ok (.iadd, 1) := by decide +kernel
theorem dL_law_349 : decode cL_law 349 = .ok (.iaload, 1) := by decide +kernel
theorem dL_law_350 : decode cL_law 350 = .ok (.invokevirtual 37, 3) := by decide +kernel
theorem dL_law_353 : decode cL_law 353 = .ok (.aload_n 2, 1) := by decide +kernel
theorem dL_law_354 : decode cL_law 354 = .ok (.aload_n 0, 1) := by decide +kernel
theorem dL_law_355 : decode cL_law 355 = .ok (.iload_n 3, 1) := by decide +kernel
theorem dL_law_356 : decode cL_law 356 = .ok (.iconst 1, 1) := by decide +kernel
theorem dL_law_357 : decode cL_law 357 = .ok (.iadd, 1) := by decide +kernel
theorem dL_law_358 : decode cL_law 358 = .ok (.iaload, 1) := by decide +kernel
theorem dL_law_359 : decode cL_law 359 = .ok (.aload_n 0, 1) := by decide +kernel
theorem dL_law_360 : decode cL_law 360 = .ok (.iload_n 3, 1) := by decide +kernel
theorem dL_law_361 : decode cL_law 361 = .ok (.iconst 2, 1) := by decide +kernel
theorem dL_law_362 : decode cL_law 362 = .ok (.iadd, 1) := by decide +kernel
theorem dL_law_363 : decode cL_law 363 = .ok (.iaload, 1) := by decide +kernel
theorem dL_law_364 : decode cL_law 364 = .ok (.aload_n 0, 1) := by decide +kernel
theorem dL_law_365 : decode cL_law 365 = .ok (.iload_n 3, 1) := by decide +kernel
theorem dL_law_366 : decode cL_law 366 = .ok (.iconst 3, 1) := by decide +kernel
theorem dL_law_367 : decode cL_law 367 = .ok (.iadd, 1) := by decide +kernel
theorem dL_law_368 : decode cL_law 368 = .ok (.iaload, 1) := by decide +kernel
theorem dL_law_369 : decode cL_law 369 = .ok (.aload_n 0, 1) := by decide +kernel
theorem dL_law_370 : decode cL_law 370 = .ok (.iload_n 3, 1) := by decide +kernel
theorem dL_law_371 : decode cL_law 371 = .ok (.iconst 4, 1) := by decide +kernel
theorem dL_law_372 : decode cL_law 372 = .ok (.iadd, 1) := by decide +kernel
theorem dL_law_373 : decode cL_law 373 = .ok (.iaload, 1) := by decide +kernel
theorem dL_law_374 : decode cL_law 374 = .ok (.invokevirtual 41, 3) := by decide +kernel
theorem dL_law_377 : decode cL_law 377 = .ok (.lcmp, 1) := by decide +kernel
theorem dL_law_378 : decode cL_law 378 = .ok (.ifCond .eq 730, 3) := by decide +kernel
theorem dL_law_381 : decode cL_law 381 = .ok (.iconst 0, 1) := by decide +kernel
theorem dL_law_382 : decode cL_law 382 = .ok (.ireturn, 1) := by decide +kernel
theorem dL_law_383 : decode cL_law 383 = .ok (.aload_n 1, 1) := by decide +kernel
theorem dL_law_384 : decode cL_law 384 = .ok (.aload_n 0, 1) := by decide +kernel
theorem dL_law_385 : decode cL_law 385 = .ok (.iload_n 3, 1) := by decide +kernel
theorem dL_law_386 : decode cL_law 386 = .ok (.iconst 1, 1) := by decide +kernel
theorem dL_law_387 : decode cL_law 387 = .ok (.iadd, 1) := by decide +kernel
theorem dL_law_388 : decode cL_law 388 = .ok (.iaload, 1) := by decide +kernel
theorem dL_law_389 : decode cL_law 389 = .ok (.aload_n 0, 1) := by decide +kernel
theorem dL_law_390 : decode cL_law 390 = .ok (.iload_n 3, 1) := by decide +kernel
theorem dL_law_391 : decode cL_law 391 = .ok (.iconst 2, 1) := by decide +kernel
theorem dL_law_392 : decode cL_law 392 = .ok (.iadd, 1) := by decide +kernel
theorem dL_law_393 : decode cL_law 393 = .ok (.iaload, 1) := by decide +kernel
theorem dL_law_394 : decode cL_law 394 = .ok (.aload_n 0, 1) := by decide +kernel
theorem dL_law_395 : decode cL_law 395 = .ok (.iload_n 3, 1) := by decide +kernel
theorem dL_law_396 : decode cL_law 396 = .ok (.iconst 3, 1) := by decide +kernel
theorem dL_law_397 : decode cL_law 397 = .ok (.iadd, 1) := by decide +kernel
theorem dL_law_398 : decode cL_law 398 = .ok (.iaload, 1) := by decide +kernel
theorem dL_law_399 : decode cL_law 399 = .ok (.aload_n 0, 1) := by decide +kernel
theorem dL_law_400 : decode cL_law 400 = .ok (.iload_n 3, 1) := by decide +kernel
theorem dL_law_401 : decode cL_law 401 = .ok (.iconst 4, 1) := by decide +kernel
theorem dL_law_402 : decode cL_law 402 = .ok (.iadd, 1) := by decide +kernel
theorem dL_law_403 : decode cL_law 403 = .ok (.iaload, 1) := by decide +kernel
theorem dL_law_404 : decode cL_law 404 = .ok (.invokevirtual 42, 3) := by decide +kernel
theorem dL_law_407 : decode cL_law 407 = .ok (.aload_n 2, 1) := by decide +kernel
theorem dL_law_408 : decode cL_law 408 = .ok (.aload_n 0, 1) := by decide +kernel
theorem dL_law_409 : decode cL_law 409 = .ok (.iload_n 3, 1) := by decide +kernel
theorem dL_law_410 : decode cL_law 410 = .ok (.iconst 1, 1) := by decide +kernel
theorem dL_law_411 : decode cL_law 411 = .ok (.iadd, 1) := by decide +kernel
theorem dL_law_412 : decode cL_law 412 = .ok (.iaload, 1) := by decide +kernel
theorem dL_law_413 : decode cL_law 413 = .ok (.aload_n 0, 1) := by decide +kernel
theorem dL_law_414 : decode cL_law 414 = .ok (.iload_n 3, 1) := by decide +kernel
theorem dL_law_415 : decode cL_law 415 = .ok (.iconst 2, 1) := by decide +kernel
theorem dL_law_416 : decode cL_law 416 = .ok (.iadd, 1) := by decide +kernel
theorem dL_law_417 : decode cL_law 417 = .ok (.iaload, 1) := by decide +kernel
theorem dL_law_418 : decode cL_law 418 = .ok (.aload_n 0, 1) := by decide +kernel
theorem dL_law_419 : decode cL_law 419 = .ok (.iload_n 3, 1) := by decide +kernel
theorem dL_law_420 : decode cL_law 420 = .ok (.iconst 3, 1) := by decide +kernel
theorem dL_law_421 : decode cL_law 421 = .ok (.iadd, 1) := by decide +kernel
theorem dL_law_422 : decode cL_law 422 = .ok (.iaload, 1) := by decide +kernel
theorem dL_law_423 : decode cL_law 423 = .ok (.aload_n 0, 1) := by decide +kernel
theorem dL_law_424 : decode cL_law 424 = .ok (.iload_n 3, 1) := by decide +kernel
theorem dL_law_425 : decode cL_law 425 = .ok (.iconst 4, 1) := by decide +kernel
theorem dL_law_426 : decode cL_law 426 = .ok (.iadd, 1) := by decide +kernel
theorem dL_law_427 : decode cL_law 427 = .ok (.iaload, 1) := by decide +kernel
theorem dL_law_428 : decode cL_law 428 = .ok (.invokevirtual 46, 3) := by decide +kernel
theorem dL_law_431 : decode cL_law 431 = .ok (.if_icmp .eq 677, 3) := by decide +kernel
theorem dL_law_434 : decode cL_law 434 = .ok (.iconst 0, 1) := by decide +kernel
theorem dL_law_435 : decode cL_law 435 = .ok (.ireturn, 1) := by decide +kernel
theorem dL_law_436 : decode cL_law 436 = .ok (.aload_n 1, 1) := by decide +kernel
theorem dL_law_437 : decode cL_law 437 = .ok (.aload_n 0, 1) := by decide +kernel
theorem dL_law_438 : decode cL_law 438 = .ok (.iload_n 3, 1) := by decide +kernel
theorem dL_law_439 : decode cL_law 439 = .ok (.iconst 1, 1) := by decide +kernel
theorem dL_law_440 : decode cL_law 440 = .ok (.iadd, 1) := by decide +kernel
theorem dL_law_441 : decode cL_law 441 = .ok (.iaload, 1) := by decide +kernel
theorem dL_law_442 : decode cL_law 442 = .ok (.aload_n 0, 1) := by decide +kernel
theorem dL_law_443 : decode cL_law 443 = .ok (.iload_n 3, 1) := by decide +kernel
theorem dL_law_444 : decode cL_law 444 = .ok (.iconst 2, 1) := by decide +kernel
theorem dL_law_445 : decode cL_law 445 = .ok (.iadd, 1) := by decide +kernel
theorem dL_law_446 : decode cL_law 446 = .ok (.iaload, 1) := by decide +kernel
theorem dL_law_447 : decode cL_law 447 = .ok (.invokevirtual 47, 3) := by decide +kernel
theorem dL_law_450 : decode cL_law 450 = .ok (.aload_n 2, 1) := by decide +kernel
theorem dL_law_451 : decode cL_law 451 = .ok (.aload_n 0, 1) := by decide +kernel
theorem dL_law_452 : decode cL_law 452 = .ok (.iload_n 3, 1) := by decide +kernel
theorem dL_law_453 : decode cL_law 453 = .ok (.iconst 1, 1) := by decide +kernel
theorem dL_law_454 : decode cL_law 454 = .ok (.iadd, 1) := by decide +kernel
theorem dL_law_455 : decode cL_law 455 = .ok (.iaload, 1) := by decide +kernel
theorem dL_law_456 : decode cL_law 456 = .ok (.aload_n 0, 1) := by decide +kernel
theorem dL_law_457 : decode cL_law 457 = .ok (.iload_n 3, 1) := by decide +kernel
theorem dL_law_458 : decode cL_law 458 = .ok (.iconst 2, 1) := by decide +kernel
theorem dL_law_459 : decode cL_law 459 = .ok (.iadd, 1) := by decide +kernel
theorem dL_law_460 : decode cL_law 460 = .ok (.iaload, 1) := by decide +kernel
theorem dL_law_461 : decode cL_law 461 = .ok (.invokevirtual 51, 3) := by decide +kernel
theorem dL_law_464 : decode cL_law 464 = .ok (.if_icmp .eq 644, 3) := by decide +kernel
theorem dL_law_467 : decode cL_law 467 = .ok (.iconst 0, 1) := by decide +kernel
theorem dL_law_468 : decode cL_law 468 = .ok (.ireturn, 1) := by decide +kernel
theorem dL_law_469 : decode cL_law 469 = .ok (.aload_n 1, 1) := by decide +kernel
theorem dL_law_470 : decode cL_law 470 = .ok (.aload_n 0, 1) := by decide +kernel
theorem dL_law_471 : decode cL_law 471 = .ok (.iload_n 3, 1) := by decide +kernel
theorem dL_law_472 : decode cL_law 472 = .ok (.iconst 1, 1) := by decide +kernel
theorem dL_law_473 : decode cL_law 473 = .ok (.iadd, 1) := by decide +kernel
theorem dL_law_474 : decode cL_law 474 = .ok (.iaload, 1) := by decide +kernel
theorem dL_law_475 : decode cL_law 475 = .ok (.ifCond .eq 7, 3) := by decide +kernel
theorem dL_law_478 : decode cL_law 478 = .ok (.iconst 1, 1) := by decide +kernel
theorem dL_law_479 : decode cL_law 479 = .ok (.goto 4, 3) := by decide +kernel
theorem dL_law_482 : decode cL_law 482 = .ok (.iconst 0, 1) := by decide +kernel
theorem dL_law_483 : decode cL_law 483 = .ok (.aload_n 0, 1) := by decide +kernel
theorem dL_law_484 : decode cL_law 484 = .ok (.iload_n 3, 1) := by decide +kernel
theorem dL_law_485 : decode cL_law 485 = .ok (.iconst 2, 1) := by decide +kernel
theorem dL_law_486 : decode cL_law 486 = .ok (.iadd, 1) := by decide +kernel
theorem dL_law_487 : decode cL_law 487 = .ok (.iaload, 1) := by decide +kernel
theorem dL_law_488 : decode cL_law 488 = .ok (.aload_n 0, 1) := by decide +kernel
theorem dL_law_489 : decode cL_law 489 = .ok (.iload_n 3, 1) := by decide +kernel
theorem dL_law_490 : decode cL_law 490 = .ok (.iconst 3, 1) := by decide +kernel
theorem dL_law_491 : decode cL_law 491 = .ok (.iadd, 1) := by decide +kernel
theorem dL_law_492 : decode cL_law 492 = .ok (.iaload, 1) := by decide +kernel
theorem dL_law_493 : decode cL_law 493 = .ok (.i2l, 1) := by decide +kernel
theorem dL_law_494 : decode cL_law 494 = .ok (.bipush 32, 2) := by decide +kernel
theorem dL_law_496 : decode cL_law 496 = .ok (.lshl, 1) := by decide +kernel
theorem dL_law_497 : decode cL_law 497 = .ok (.aload_n 0, 1) := by decide +kernel
theorem dL_law_498 : decode cL_law 498 = .ok (.iload_n 3, 1) := by decide +kernel
theorem dL_law_499 : decode cL_law 499 = .ok (.iconst 4, 1) := by decide +kernel
theorem dL_law_500 : decode cL_law 500 = .ok (.iadd, 1) := by decide +kernel
theorem dL_law_501 : decode cL_law 501 = .ok (.iaload, 1) := by decide +kernel
theorem dL_law_502 : decode cL_law 502 = .ok (.i2l, 1) := by decide +kernel
theorem dL_law_503 : decode cL_law 503 = .ok (.ldc2_w 30, 3) := by decide +kernel
theorem dL_law_506 : decode cL_law 506 = .ok (.land, 1) := by decide +kernel
theorem dL_law_507 : decode cL_law 507 = .ok (.lor, 1) := by decide +kernel
theorem dL_law_508 : decode cL_law 508 = .ok (.aload_n 0, 1) := by decide +kernel
theorem dL_law_509 : decode cL_law 509 = .ok (.iload_n 3, 1) := by decide +kernel
theorem dL_law_510 : decode cL_law 510 = .ok (.iconst 5, 1) := by decide +kernel
theorem dL_law_511 : decode cL_law 511 = .ok (.iadd, 1) := by decide +kernel
theorem dL_law_512 : decode cL_law 512 = .ok (.iaload, 1) := by decide +kernel
theorem dL_law_513 : decode cL_law 513 = .ok (.aload_n 0, 1) := by decide +kernel
theorem dL_law_514 : decode cL_law 514 = .ok (.iload_n 3, 1) := by decide +kernel
theorem dL_law_515 : decode cL_law 515 = .ok (.bipush 6, 2) := by decide +kernel
theorem dL_law_517 : decode cL_law 517 = .ok (.iadd, 1) := by decide +kernel
theorem dL_law_518 : decode cL_law 518 = .ok (.iaload, 1) := by decide +kernel
theorem dL_law_519 : decode cL_law 519 = .ok (.aload_n 0, 1) := by decide +kernel
theorem dL_law_520 : decode cL_law 520 = .ok (.iload_n 3, 1) := by decide +kernel
theorem dL_law_521 : decode cL_law 521 = .ok (.bipush 7, 2) := by decide +kernel
theorem dL_law_523 : decode cL_law 523 = .ok (.iadd, 1) := by decide +kernel
theorem dL_law_524 : decode cL_law 524 = .ok (.iaload, 1) := by decide +kernel
theorem dL_law_525 : decode cL_law 525 = .ok (.invokevirtual 52, 3) := by decide +kernel
theorem dL_law_528 : decode cL_law 528 = .ok (.aload_n 2, 1) := by decide +kernel
theorem dL_law_529 : decode cL_law 529 = .ok (.aload_n 0, 1) := by decide +kernel
theorem dL_law_530 : decode cL_law 530 = .ok (.iload_n 3, 1) := by decide +kernel
theorem dL_law_531 : decode cL_law 531 = .ok (.iconst 1, 1) := by decide +kernel
theorem dL_law_532 : decode cL_law 532 = .ok (.iadd, 1) := by decide +kernel
theorem dL_law_533 : decode cL_law 533 = .ok (.iaload, 1) := by decide +kernel
theorem dL_law_534 : decode cL_law 534 = .ok (.ifCond .eq 7, 3) := by decide +kernel
theorem dL_law_537 : decode cL_law 537 = .ok (.iconst 1, 1) := by decide +kernel
theorem dL_law_538 : decode cL_law 538 = .ok (.goto 4, 3) := by decide +kernel
theorem dL_law_541 : decode cL_law 541 = .ok (.iconst 0, 1) := by decide +kernel
theorem dL_law_542 : decode cL_law 542 = .ok (.aload_n 0, 1) := by decide +kernel
theorem dL_law_543 : decode cL_law 543 = .ok (.iload_n 3, 1) := by decide +kernel
theorem dL_law_544 : decode cL_law 544 = .ok (.iconst 2, 1) := by decide +kernel
theorem dL_law_545 : decode cL_law 545 = .ok (.iadd, 1) := by decide +kernel
theorem dL_law_546 : decode cL_law 546 = .ok (.iaload, 1) := by decide +kernel
theorem dL_law_547 : decode cL_law 547 = .ok (.aload_n 0, 1) := by decide +kernel
theorem dL_law_548 : decode cL_law 548 = .ok (.iload_n 3, 1) := by decide +kernel
theorem dL_law_549 : decode cL_law 549 = .ok (.iconst 3, 1) := by decide +kernel
theorem dL_law_550 : decode cL_law 550 = .ok (.iadd, 1) := by decide +kernel
theorem dL_law_551 : decode cL_law 551 = .ok (.iaload, 1) := by decide +kernel
theorem dL_law_552 : decode cL_law 552 = .ok (.i2l, 1) := by decide +kernel
theorem dL_law_553 : decode cL_law 553 = .ok (.bipush 32, 2) := by decide +kernel
theorem dL_law_555 : decode cL_law 555 = .ok (.lshl, 1) := by decide +kernel
theorem dL_law_556 : decode cL_law 556 = .ok (.aload_n 0, 1) := by decide +kernel
theorem dL_law_557 : decode cL_law 557 = .ok (.iload_n 3, 1) := by decide +kernel
theorem dL_law_558 : decode cL_law 558 = .ok (.iconst 4, 1) := by decide +kernel
theorem dL_law_559 : decode cL_law 559 = .ok (.iadd, 1) := by decide +kernel
theorem dL_law_560 : decode cL_law 560 = .ok (.iaload, 1) := by decide +kernel
theorem dL_law_561 : decode cL_law 561 = .ok (.i2l, 1) := by decide +kernel
theorem dL_law_562 : decode cL_law 562 = .ok (.ldc2_w 30, 3) := by decide +kernel
theorem dL_law_565 : decode cL_law 565 = .ok (.land, 1) := by decide +kernel
theorem dL_law_566 : decode cL_law 566 = .ok (.lor, 1) := by decide +kernel
theorem dL_law_567 : decode cL_law 567 = .ok (.aload_n 0, 1) := by decide +kernel
theorem dL_law_568 : decode cL_law 568 = .ok (.iload_n 3, 1) := by decide +kernel
theorem dL_law_569 : decode cL_law 569 = .ok (.iconst 5, 1) := by decide +kernel
theorem dL_law_570 : decode cL_law 570 = .ok (.iadd, 1) := by decide +kernel
theorem dL_law_571 : decode cL_law 571 = .ok (.iaload, 1) := by decide +kernel
theorem dL_law_572 : decode cL_law 572 = .ok (.aload_n 0, 1) := by decide +kernel
theorem dL_law_573 : decode cL_law 573 = .ok (.iload_n 3, 1) := by decide +kernel
theorem dL_law_574 : decode cL_law 574 = .ok (.bipush 6, 2) := by decide +kernel
theorem dL_law_576 : decode cL_law 576 = .ok (.iadd, 1) := by decide +kernel
theorem dL_law_577 : decode cL_law 577 = .ok (.iaload, 1) := by decide +kernel
theorem dL_law_578 : decode cL_law 578 = .ok (.aload_n 0, 1) := by decide +kernel
theorem dL_law_579 : decode cL_law 579 = .ok (.iload_n 3, 1) := by decide +kernel
theorem dL_law_580 : decode cL_law 580 = .ok (.bipush 7, 2) := by decide +kernel
theorem dL_law_582 : decode cL_law 582 = .ok (.iadd, 1) := by decide +kernel
theorem dL_law_583 : decode cL_law 583 = .ok (.iaload, 1) := by decide +kernel
theorem dL_law_584 : decode cL_law 584 = .ok (.invokevirtual 56, 3) := by decide +kernel
theorem dL_law_587 : decode cL_law 587 = .ok (.if_icmp .eq 521, 3) := by decide +kernel
theorem dL_law_590 : decode cL_law 590 = .ok (.iconst 0, 1) := by decide +kernel
theorem dL_law_591 : decode cL_law 591 = .ok (.ireturn, 1) := by decide +kernel
theorem dL_law_592 : decode cL_law 592 = .ok (.aload_n 1, 1) := by decide +kernel
theorem dL_law_593 : decode cL_law 593 = .ok (.aload_n 0, 1) := by decide +kernel
theorem dL_law_594 : decode cL_law 594 = .ok (.iload_n 3, 1) := by decide +kernel
theorem dL_law_595 : decode cL_law 595 = .ok (.iconst 1, 1) := by decide +kernel
theorem dL_law_596 : decode cL_law 596 = .ok (.iadd, 1) := by decide +kernel
theorem dL_law_597 : decode cL_law 597 = .ok (.iaload, 1) := by decide +kernel
theorem dL_law_598 : decode cL_law 598 = .ok (.ifCond .eq 7, 3) := by decide +kernel
theorem dL_law_601 : decode cL_law 601 = .ok (.iconst 1, 1) := by decide +kernel
theorem dL_law_602 : decode cL_law 602 = .ok (.goto 4, 3) := by decide +kernel
theorem dL_law_605 : decode cL_law 605 = .ok (.iconst 0, 1) := by decide +kernel
theorem dL_law_606 : decode cL_law 606 = .ok (.aload_n 0, 1) := by decide +kernel
theorem dL_law_607 : decode cL_law 607 = .ok (.iload_n 3, 1) := by decide +kernel
theorem dL_law_608 : decode cL_law 608 = .ok (.iconst 2, 1) := by decide +kernel
theorem dL_law_609 : decode cL_law 609 = .ok (.iadd, 1) := by decide +kernel
theorem dL_law_610 : decode cL_law 610 = .ok (.iaload, 1) := by decide +kernel
theorem dL_law_611 : decode cL_law 611 = .ok (.aload_n 0, 1) := by decide +kernel
theorem dL_law_612 : decode cL_law 612 = .ok (.iload_n 3, 1) := by decide +kernel
theorem dL_law_613 : decode cL_law 613 = .ok (.iconst 3, 1) := by decide +kernel
theorem dL_law_614 : decode cL_law 614 = .ok (.iadd, 1) := by decide +kernel
theorem dL_law_615 : decode cL_law 615 = .ok (.iaload, 1) := by decide +kernel
theorem dL_law_616 : decode cL_law 616 = .ok (.aload_n 0, 1) := by decide +kernel
theorem dL_law_617 : decode cL_law 617 = .ok (.iload_n 3, 1) := by decide +kernel
theorem dL_law_618 : decode cL_law 618 = .ok (.iconst 4, 1) := by decide +kernel
theorem dL_law_619 : decode cL_law 619 = .ok (.iadd, 1) := by decide +kernel
theorem dL_law_620 : decode cL_law 620 = .ok (.iaload, 1) := by decide +kernel
theorem dL_law_621 : decode cL_law 621 = .ok (.aload_n 0, 1) := by decide +kernel
theorem dL_law_622 : decode cL_law 622 = .ok (.iload_n 3, 1) := by decide +kernel
theorem dL_law_623 : decode cL_law 623 = .ok (.iconst 5, 1) := by decide +kernel
theorem dL_law_624 : decode cL_law 624 = .ok (.iadd, 1) := by decide +kernel
theorem dL_law_625 : decode cL_law 625 = .ok (.iaload, 1) := by decide +kernel
theorem dL_law_626 : decode cL_law 626 = .ok (.invokevirtual 57, 3) := by decide +kernel
theorem dL_law_629 : decode cL_law 629 = .ok (.aload_n 2, 1) := by decide +kernel
theorem dL_law_630 : decode cL_law 630 = .ok (.aload_n 0, 1) := by decide +kernel
theorem dL_law_631 : decode cL_law 631 = .ok (.iload_n 3, 1) := by decide +kernel
theorem dL_law_632 : decode cL_law 632 = .ok (.iconst 1, 1) := by decide +kernel
theorem dL_law_633 : decode cL_law 633 = .ok (.iadd, 1) := by decide +kernel
theorem dL_law_634 : decode cL_law 634 = .ok (.iaload, 1) := by decide +kernel
theorem dL_law_635 : decode cL_law 635 = .ok (.ifCond .eq 7, 3) := by decide +kernel
theorem dL_law_638 : decode cL_law 638 = .ok (.iconst 1, 1) := by decide +kernel
theorem dL_law_639 : decode cL_law 639 = .ok (.goto 4, 3) := by decide +kernel
theorem dL_law_642 : decode cL_law 642 = .ok (.iconst 0, 1) := by decide +kernel
theorem dL_law_643 : decode cL_law 643 = .ok (.aload_n 0, 1) := by decide +kernel
theorem dL_law_644 : decode cL_law 644 = .ok (.iload_n 3, 1) := by decide +kernel
theorem dL_law_645 : decode cL_law 645 = .ok (.iconst 2, 1) := by decide +kernel
theorem dL_law_646 : decode cL_law 646 = .ok (.iadd, 1) := by decide +kernel
theorem dL_law_647 : decode cL_law 647 = .ok (.iaload, 1) := by decide +kernel
theorem dL_law_648 : decode cL_law 648 = .ok (.aload_n 0, 1) := by decide +kernel
theorem dL_law_649 : decode cL_law 649 = .ok (.iload_n 3, 1) := by decide +kernel
theorem dL_law_650 : decode cL_law 650 = .ok (.iconst 3, 1) := by decide +kernel
theorem dL_law_651 : decode cL_law 651 = .ok (.iadd, 1) := by decide +kernel
theorem dL_law_652 : decode cL_law 652 = .ok (.iaload, 1) := by decide +kernel
theorem dL_law_653 : decode cL_law 653 = .ok (.aload_n 0, 1) := by decide +kernel
theorem dL_law_654 : decode cL_law 654 = .ok (.iload_n 3, 1) := by decide +kernel
theorem dL_law_655 : decode cL_law 655 = .ok (.iconst 4, 1) := by decide +kernel
theorem dL_law_656 : decode cL_law 656 = .ok (.iadd, 1) := by decide +kernel
theorem dL_law_657 : decode cL_law 657 = .ok (.iaload, 1) := by decide +kernel
theorem dL_law_658 : decode cL_law 658 = .ok (.aload_n 0, 1) := by decide +kernel
theorem dL_law_659 : decode cL_law 659 = .ok (.iload_n 3, 1) := by decide +kernel
theorem dL_law_660 : decode cL_law 660 = .ok (.iconst 5, 1) := by decide +kernel
theorem dL_law_661 : decode cL_law 661 = .ok (.iadd, 1) := by decide +kernel
theorem dL_law_662 : decode cL_law 662 = .ok (.iaload, 1) := by decide +kernel
theorem dL_law_663 : decode cL_law 663 = .ok (.invokevirtual 61, 3) := by decide +kernel
theorem dL_law_666 : decode cL_law 666 = .ok (.if_icmp .eq 442, 3) := by decide +kernel
theorem dL_law_669 : decode cL_law 669 = .ok (.iconst 0, 1) := by decide +kernel
theorem dL_law_670 : decode cL_law 670 = .ok (.ireturn, 1) := by decide +kernel
theorem dL_law_671 : decode cL_law 671 = .ok (.aload_n 1, 1) := by decide +kernel
theorem dL_law_672 : decode cL_law 672 = .ok (.aload_n 0, 1) := by decide +kernel
theorem dL_law_673 : decode cL_law 673 = .ok (.iload_n 3, 1) := by decide +kernel
theorem dL_law_674 : decode cL_law 674 = .ok (.iconst 1, 1) := by decide +kernel
theorem dL_law_675 : decode cL_law 675 = .ok (.iadd, 1) := by decide +kernel
theorem dL_law_676 : decode cL_law 676 = .ok (.iaload, 1) := by decide +kernel
theorem dL_law_677 : decode cL_law 677 = .ok (.aload_n 0, 1) := by decide +kernel
theorem dL_law_678 : decode cL_law 678 = .ok (.iload_n 3, 1) := by decide +kernel
theorem dL_law_679 : decode cL_law 679 = .ok (.iconst 2, 1) := by decide +kernel
theorem dL_law_680 : decode cL_law 680 = .ok (.iadd, 1) := by decide +kernel
theorem dL_law_681 : decode cL_law 681 = .ok (.iaload, 1) := by decide +kernel
theorem dL_law_682 : decode cL_law 682 = .ok (.aload_n 0, 1) := by decide +kernel
theorem dL_law_683 : decode cL_law 683 = .ok (.iload_n 3, 1) := by decide +kernel
theorem dL_law_684 : decode cL_law 684 = .ok (.iconst 3, 1) := by decide +kernel
theorem dL_law_685 : decode cL_law 685 = .ok (.iadd, 1) := by decide +kernel
theorem dL_law_686 : decode cL_law 686 = .ok (.iaload, 1) := by decide +kernel
theorem dL_law_687 : decode cL_law 687 = .ok (.aload_n 0, 1) := by decide +kernel
theorem dL_law_688 : decode cL_law 688 = .ok (.iload_n 3, 1) := by decide +kernel
theorem dL_law_689 : decode cL_law 689 = .ok (.iconst 4, 1) := by decide +kernel
theorem dL_law_690 : decode cL_law 690 = .ok (.iadd, 1) := by decide +kernel
theorem dL_law_691 : decode cL_law 691 = .ok (.iaload, 1) := by decide +kernel
theorem dL_law_692 : decode cL_law 692 = .ok (.i2l, 1) := by decide +kernel
theorem dL_law_693 : decode cL_law 693 = .ok (.bipush 32, 2) := by decide +kernel
theorem dL_law_695 : decode cL_law 695 = .ok (.lshl, 1) := by decide +kernel
theorem dL_law_696 : decode cL_law 696 = .ok (.aload_n 0, 1) := by decide +kernel
theorem dL_law_697 : decode cL_law 697 = .ok (.iload_n 3, 1) := by decide +kernel
theorem dL_law_698 : decode cL_law 698 = .ok (.iconst 5, 1) := by decide +kernel
theorem dL_law_699 : decode cL_law 699 = .ok (.iadd, 1) := by decide +kernel
theorem dL_law_700 : decode cL_law 700 = .ok (.iaload, 1) := by decide +kernel
theorem dL_law_701 : decode cL_law 701 = .ok (.i2l, 1) := by decide +kernel
theorem dL_law_702 : decode cL_law 702 = .ok (.ldc2_w 30, 3) := by decide +kernel
theorem dL_law_705 : decode cL_law 705 = .ok (.land, 1) := by decide +kernel
theorem dL_law_706 : decode cL_law 706 = .ok (.lor, 1) := by decide +kernel
theorem dL_law_707 : decode cL_law 707 = .ok (.invokevirtual 62, 3) := by decide +kernel
theorem dL_law_710 : decode cL_law 710 = .ok (.aload_n 2, 1) := by decide +kernel
theorem dL_law_711 : decode cL_law 711 = .ok (.aload_n 0, 1) := by decide +kernel
theorem dL_law_712 : decode cL_law 712 = .ok (.iload_n 3, 1) := by decide +kernel
theorem dL_law_713 : decode cL_law 713 = .ok (.iconst 1, 1) := by decide +kernel
theorem dL_law_714 : decode cL_law 714 = .ok (.iadd, 1) := by decide +kernel
theorem dL_law_715 : decode cL_law 715 = .ok (.iaload, 1) := by decide +kernel
theorem dL_law_716 : decode cL_law 716 = .ok (.aload_n 0, 1) := by decide +kernel
theorem dL_law_717 : decode cL_law 717 = .ok (.iload_n 3, 1) := by decide +kernel
theorem dL_law_718 : decode cL_law 718 = .ok (.iconst 2, 1) := by decide +kernel
theorem dL_law_719 : decode cL_law 719 = .ok (.iadd, 1) := by decide +kernel
theorem dL_law_720 : decode cL_law 720 = .ok (.iaload, 1) := by decide +kernel
theorem dL_law_721 : decode cL_law 721 = .ok (.aload_n 0, 1) := by decide +kernel
theorem dL_law_722 : decode cL_law 722 = .ok (.iload_n 3, 1) := by decide +kernel
theorem dL_law_723 : decode cL_law 723 = .ok (.iconst 3, 1) := by decide +kernel
theorem dL_law_724 : decode cL_law 724 = .ok (.iadd, 1) := by decide +kernel
theorem dL_law_725 : decode cL_law 725 = .ok (.iaload, 1) := by decide +kernel
theorem dL_law_726 : decode cL_law 726 = .ok (.aload_n 0, 1) := by decide +kernel
theorem dL_law_727 : decode cL_law 727 = .ok (.iload_n 3, 1) := by decide +kernel
theorem dL_law_728 : decode cL_law 728 = .ok (.iconst 4, 1) := by decide +kernel
theorem dL_law_729 : decode cL_law 729 = .ok (.iadd, 1) := by decide +kernel
theorem dL_law_730 : decode cL_law 730 = .ok (.iaload, 1) := by decide +kernel
theorem dL_law_731 : decode cL_law 731 = .ok (.i2l, 1) := by decide +kernel
theorem dL_law_732 : decode cL_law 732 = .ok (.bipush 32, 2) := by decide +kernel
theorem dL_law_734 : decode cL_law 734 = .ok (.lshl, 1) := by decide +kernel
theorem dL_law_735 : decode cL_law 735 = .ok (.aload_n 0, 1) := by decide +kernel
theorem dL_law_736 : decode cL_law 736 = .ok (.iload_n 3, 1) := by decide +kernel
theorem dL_law_737 : decode cL_law 737 = .ok (.iconst 5, 1) := by decide +kernel
theorem dL_law_738 : decode cL_law 738 = .ok (.iadd, 1) := by decide +kernel
theorem dL_law_739 : decode cL_law 739 = .ok (.iaload, 1) := by decide +kernel
theorem dL_law_740 : decode cL_law 740 = .ok (.i2l, 1) := by decide +kernel
theorem dL_law_741 : decode cL_law 741 = .ok (.ldc2_w 30, 3) := by decide +kernel
theorem dL_law_744 : decode cL_law 744 = .ok (.land, 1) := by decide +kernel
theorem dL_law_745 : decode cL_law 745 = .ok (.lor, 1) := by decide +kernel
theorem dL_law_746 : decode cL_law 746 = .ok (.invokevirtual 65, 3) := by decide +kernel
theorem dL_law_749 : decode cL_law 749 = .ok (.if_icmp .eq 359, 3) := by decide +kernel
theorem dL_law_752 : decode cL_law 752 = .ok (.iconst 0, 1) := by decide +kernel
theorem dL_law_753 : decode cL_law 753 = .ok (.ireturn, 1) := by decide +kernel
theorem dL_law_754 : decode cL_law 754 = .ok (.aload_n 1, 1) := by decide +kernel
theorem dL_law_755 : decode cL_law 755 = .ok (.aload_n 0, 1) := by decide +kernel
theorem dL_law_756 : decode cL_law 756 = .ok (.iload_n 3, 1) := by decide +kernel
theorem dL_law_757 : decode cL_law 757 = .ok (.iconst 1, 1) := by decide +kernel
theorem dL_law_758 : decode cL_law 758 = .ok (.iadd, 1) := by decide +kernel
theorem dL_law_759 : decode cL_law 759 = .ok (.iaload, 1) := by decide +kernel
theorem dL_law_760 : decode cL_law 760 = .ok (.aload_n 0, 1) := by decide +kernel
theorem dL_law_761 : decode cL_law 761 = .ok (.iload_n 3, 1) := by decide +kernel
theorem dL_law_762 : decode cL_law 762 = .ok (.iconst 2, 1) := by decide +kernel
theorem dL_law_763 : decode cL_law 763 = .ok (.iadd, 1) := by decide +kernel
theorem dL_law_764 : decode cL_law 764 = .ok (.iaload, 1) := by decide +kernel
theorem dL_law_765 : decode cL_law 765 = .ok (.aload_n 0, 1) := by decide +kernel
theorem dL_law_766 : decode cL_law 766 = .ok (.iload_n 3, 1) := by decide +kernel
theorem dL_law_767 : decode cL_law 767 = .ok (.iconst 3, 1) := by decide +kernel
theorem dL_law_768 : decode cL_law 768 = .ok (.iadd, 1) := by decide +kernel
theorem dL_law_769 : decode cL_law 769 = .ok (.iaload, 1) := by decide +kernel
theorem dL_law_770 : decode cL_law 770 = .ok (.aload_n 0, 1) := by decide +kernel
theorem dL_law_771 : decode cL_law 771 = .ok (.iload_n 3, 1) := by decide +kernel
theorem dL_law_772 : decode cL_law 772 = .ok (.iconst 4, 1) := by decide +kernel
theorem dL_law_773 : decode cL_law 773 = .ok (.iadd, 1) := by decide +kernel
theorem dL_law_774 : decode cL_law 774 = .ok (.iaload, 1) := by decide +kernel
theorem dL_law_775 : decode cL_law 775 = .ok (.aload_n 0, 1) := by decide +kernel
theorem dL_law_776 : decode cL_law 776 = .ok (.iload_n 3, 1) := by decide +kernel
theorem dL_law_777 : decode cL_law 777 = .ok (.iconst 5, 1) := by decide +kernel
theorem dL_law_778 : decode cL_law 778 = .ok (.iadd, 1) := by decide +kernel
theorem dL_law_779 : decode cL_law 779 = .ok (.iaload, 1) := by decide +kernel
theorem dL_law_780 : decode cL_law 780 = .ok (.invokevirtual 66, 3) := by decide +kernel
theorem dL_law_783 : decode cL_law 783 = .ok (.aload_n 2, 1) := by decide +kernel
theorem dL_law_784 : decode cL_law 784 = .ok (.aload_n 0, 1) := by decide +kernel
theorem dL_law_785 : decode cL_law 785 = .ok (.iload_n 3, 1) := by decide +kernel
theorem dL_law_786 : decode cL_law 786 = .ok (.iconst 1, 1) := by decide +kernel
theorem dL_law_787 : decode cL_law 787 = .ok (.iadd, 1) := by decide +kernel
theorem dL_law_788 : decode cL_law 788 = .ok (.iaload, 1) := by decide +kernel
theorem dL_law_789 : decode cL_law 789 = .ok (.aload_n 0, 1) := by decide +kernel
theorem dL_law_790 : decode cL_law 790 = .ok (.iload_n 3, 1) := by decide +kernel
theorem dL_law_791 : decode cL_law 791 = .ok (.iconst 2, 1) := by decide +kernel
theorem dL_law_792 : decode cL_law 792 = .ok (.iadd, 1) := by decide +kernel
theorem dL_law_793 : decode cL_law 793 = .ok (.iaload, 1) := by decide +kernel
theorem dL_law_794 : decode cL_law 794 = .ok (.aload_n 0, 1) := by decide +kernel
theorem dL_law_795 : decode cL_law 795 = .ok (.iload_n 3, 1) := by decide +kernel
theorem dL_law_796 : decode cL_law 796 = .ok (.iconst 3, 1) := by decide +kernel
theorem dL_law_797 : decode cL_law 797 = .ok (.iadd, 1) := by decide +kernel
theorem dL_law_798 : decode cL_law 798 = .ok (.iaload, 1) := by decide +kernel
theorem dL_law_799 : decode cL_law 799 = .ok (.aload_n 0, 1) := by decide +kernel
theorem dL_law_800 : decode cL_law 800 = .ok (.iload_n 3, 1) := by decide +kernel
theorem dL_law_801 : decode cL_law 801 = .ok (.iconst 4, 1) := by decide +kernel
theorem dL_law_802 : decode cL_law 802 = .ok (.iadd, 1) := by decide +kernel
theorem dL_law_803 : decode cL_law 803 = .ok (.iaload, 1) := by decide +kernel
theorem dL_law_804 : decode cL_law 804 = .ok (.aload_n 0, 1) := by decide +kernel
theorem dL_law_805 : decode cL_law 805 = .ok (.iload_n 3, 1) := by decide +kernel
theorem dL_law_806 : decode cL_law 806 = .ok (.iconst 5, 1) := by decide +kernel
theorem dL_law_807 : decode cL_law 807 = .ok (.iadd, 1) := by decide +kernel
theorem dL_law_808 : decode cL_law 808 = .ok (.iaload, 1) := by decide +kernel
theorem dL_law_809 : decode cL_law 809 = .ok (.invokevirtual 70, 3) := by decide +kernel
theorem dL_law_812 : decode cL_law 812 = .ok (.if_icmp .eq 296, 3) := by decide +kernel
theorem dL_law_815 : decode cL_law 815 = .ok (.iconst 0, 1) := by decide +kernel
theorem dL_law_816 : decode cL_law 816 = .ok (.ireturn, 1) := by decide +kernel
theorem dL_law_817 : decode cL_law 817 = .ok (.aload_n 1, 1) := by decide +kernel
theorem dL_law_818 : decode cL_law 818 = .ok (.aload_n 0, 1) := by decide +kernel
theorem dL_law_819 : decode cL_law 819 = .ok (.iload_n 3, 1) := by decide +kernel
theorem dL_law_820 : decode cL_law 820 = .ok (.iconst 1, 1) := by decide +kernel
theorem dL_law_821 : decode cL_law 821 = .ok (.iadd, 1) := by decide +kernel
theorem dL_law_822 : decode cL_law 822 = .ok (.iaload, 1) := by decide +kernel
theorem dL_law_823 : decode cL_law 823 = .ok (.invokevirtual 71, 3) := by decide +kernel
theorem dL_law_826 : decode cL_law 826 = .ok (.aload_n 2, 1) := by decide +kernel
theorem dL_law_827 : decode cL_law 827 = .ok (.aload_n 0, 1) := by decide +kernel
theorem dL_law_828 : decode cL_law 828 = .ok (.iload_n 3, 1) := by decide +kernel
theorem dL_law_829 : decode cL_law 829 = .ok (.iconst 1, 1) := by decide +kernel
theorem dL_law_830 : decode cL_law 830 = .ok (.iadd, 1) := by decide +kernel
theorem dL_law_831 : decode cL_law 831 = .ok (.iaload, 1) := by decide +kernel
theorem dL_law_832 : decode cL_law 832 = .ok (.invokevirtual 75, 3) := by decide +kernel
theorem dL_law_835 : decode cL_law 835 = .ok (.if_icmp .eq 273, 3) := by decide +kernel
theorem dL_law_838 : decode cL_law 838 = .ok (.iconst 0, 1) := by decide +kernel
theorem dL_law_839 : decode cL_law 839 = .ok (.ireturn, 1) := by decide +kernel
theorem dL_law_840 : decode cL_law 840 = .ok (.aload_n 1, 1) := by decide +kernel
theorem dL_law_841 : decode cL_law 841 = .ok (.aload_n 0, 1) := by decide +kernel
theorem dL_law_842 : decode cL_law 842 = .ok (.iload_n 3, 1) := by decide +kernel
theorem dL_law_843 : decode cL_law 843 = .ok (.iconst 1, 1) := by decide +kernel
theorem dL_law_844 : decode cL_law 844 = .ok (.iadd, 1) := by decide +kernel
theorem dL_law_845 : decode cL_law 845 = .ok (.iaload, 1) := by decide +kernel
theorem dL_law_846 : decode cL_law 846 = .ok (.invokevirtual 76, 3) := by decide +kernel
theorem dL_law_849 : decode cL_law 849 = .ok (.aload_n 2, 1) := by decide +kernel
theorem dL_law_850 : decode cL_law 850 = .ok (.aload_n 0, 1) := by decide +kernel
theorem dL_law_851 : decode cL_law 851 = .ok (.iload_n 3, 1) := by decide +kernel
theorem dL_law_852 : decode cL_law 852 = .ok (.iconst 1, 1) := by decide +kernel
theorem dL_law_853 : decode cL_law 853 = .ok (.iadd, 1) := by decide +kernel
theorem dL_law_854 : decode cL_law 854 = .ok (.iaload, 1) := by decide +kernel
theorem dL_law_855 : decode cL_law 855 = .ok (.invokevirtual 79, 3) := by decide +kernel
theorem dL_law_858 : decode cL_law 858 = .ok (.if_icmp .eq 250, 3) := by decide +kernel
theorem dL_law_861 : decode cL_law 861 = .ok (.iconst 0, 1) := by decide +kernel
theorem dL_law_862 : decode cL_law 862 = .ok (.ireturn, 1) := by decide +kernel
theorem dL_law_863 : decode cL_law 863 = .ok (.aload_n 1, 1) := by decide +kernel
theorem dL_law_864 : decode cL_law 864 = .ok (.aload_n 0, 1) := by decide +kernel
theorem dL_law_865 : decode cL_law 865 = .ok (.iload_n 3, 1) := by decide +kernel
theorem dL_law_866 : decode cL_law 866 = .ok (.iconst 1, 1) := by decide +kernel
theorem dL_law_867 : decode cL_law 867 = .ok (.iadd, 1) := by decide +kernel
theorem dL_law_868 : decode cL_law 868 = .ok (.iaload, 1) := by decide +kernel
theorem dL_law_869 : decode cL_law 869 = .ok (.invokevirtual 80, 3) := by decide +kernel
theorem dL_law_872 : decode cL_law 872 = .ok (.aload_n 2, 1) := by decide +kernel
theorem dL_law_873 : decode cL_law 873 = .ok (.aload_n 0, 1) := by decide +kernel
theorem dL_law_874 : decode cL_law 874 = .ok (.iload_n 3, 1) := by decide +kernel
theorem dL_law_875 : decode cL_law 875 = .ok (.iconst 1, 1) := by decide +kernel
theorem dL_law_876 : decode cL_law 876 = .ok (.iadd, 1) := by decide +kernel
theorem dL_law_877 : decode cL_law 877 = .ok (.iaload, 1) := by decide +kernel
theorem dL_law_878 : decode cL_law 878 = .ok (.invokevirtual 83, 3) := by decide +kernel
theorem dL_law_881 : decode cL_law 881 = .ok (.if_icmp .eq 227, 3) := by decide +kernel
theorem dL_law_884 : decode cL_law 884 = .ok (.iconst 0, 1) := by decide +kernel
theorem dL_law_885 : decode cL_law 885 = .ok (.ireturn, 1) := by decide +kernel
theorem dL_law_886 : decode cL_law 886 = .ok (.aload_n 1, 1) := by decide +kernel
theorem dL_law_887 : decode cL_law 887 = .ok (.invokevirtual 84, 3) := by decide +kernel
theorem dL_law_890 : decode cL_law 890 = .ok (.aload_n 2, 1) := by decide +kernel
theorem dL_law_891 : decode cL_law 891 = .ok (.invokevirtual 88, 3) := by decide +kernel
theorem dL_law_894 : decode cL_law 894 = .ok (.if_icmp .eq 214, 3) := by decide +kernel
theorem dL_law_897 : decode cL_law 897 = .ok (.iconst 0, 1) := by decide +kernel
theorem dL_law_898 : decode cL_law 898 = .ok (.ireturn, 1) := by decide +kernel
theorem dL_law_899 : decode cL_law 899 = .ok (.aload_n 1, 1) := by decide +kernel
theorem dL_law_900 : decode cL_law 900 = .ok (.invokevirtual 89, 3) := by decide +kernel
theorem dL_law_903 : decode cL_law 903 = .ok (.aload_n 2, 1) := by decide +kernel
theorem dL_law_904 : decode cL_law 904 = .ok (.invokevirtual 92, 3) := by decide +kernel
theorem dL_law_907 : decode cL_law 907 = .ok (.if_icmp .eq 201, 3) := by decide +kernel
theorem dL_law_910 : decode cL_law 910 = .ok (.iconst 0, 1) := by decide +kernel
theorem dL_law_911 : decode cL_law 911 = .ok (.ireturn, 1) := by decide +kernel
theorem dL_law_912 : decode cL_law 912 = .ok (.aload_n 1, 1) := by decide +kernel
theorem dL_law_913 : decode cL_law 913 = .ok (.invokevirtual 93, 3) := by decide +kernel
theorem dL_law_916 : decode cL_law 916 = .ok (.aload_n 2, 1) := by decide +kernel
theorem dL_law_917 : decode cL_law 917 = .ok (.invokevirtual 96, 3) := by decide +kernel
theorem dL_law_920 : decode cL_law 920 = .ok (.if_icmp .eq 188, 3) := by decide +kernel
theorem dL_law_923 : decode cL_law 923 = .ok (.iconst 0, 1) := by decide +kernel
theorem dL_law_924 : decode cL_law 924 = .ok (.ireturn, 1) := by decide +kernel
theorem dL_law_925 : decode cL_law 925 = .ok (.aload_n 1, 1) := by decide +kernel
theorem dL_law_926 : decode cL_law 926 = .ok (.aload_n 0, 1) := by decide +kernel
theorem dL_law_927 : decode cL_law 927 = .ok (.iload_n 3, 1) := by decide +kernel
theorem dL_law_928 : decode cL_law 928 = .ok (.iconst 1, 1) := by decide +kernel
theorem dL_law_929 : decode cL_law 929 = .ok (.iadd, 1) := by decide +kernel
theorem dL_law_930 : decode cL_law 930 = .ok (.iaload, 1) := by decide +kernel
theorem dL_law_931 : decode cL_law 931 = .ok (.invokevirtual 97, 3) := by decide +kernel
theorem dL_law_934 : decode cL_law 934 = .ok (.aload_n 2, 1) := by decide +kernel
theorem dL_law_935 : decode cL_law 935 = .ok (.aload_n 0, 1) := by decide +kernel
theorem dL_law_936 : decode cL_law 936 = .ok (.iload_n 3, 1) := by decide +kernel
theorem dL_law_937 : decode cL_law 937 = .ok (.iconst 1, 1) := by decide +kernel
theorem dL_law_938 : decode cL_law 938 = .ok (.iadd, 1) := by decide +kernel
theorem dL_law_939 : decode cL_law 939 = .ok (.iaload, 1) := by decide +kernel
theorem dL_law_940 : decode cL_law 940 = .ok (.invokevirtual 101, 3) := by decide +kernel
theorem dL_law_943 : decode cL_law 943 = .ok (.lcmp, 1) := by decide +kernel
theorem dL_law_944 : decode cL_law 944 = .ok (.ifCond .eq 164, 3) := by decide +kernel
theorem dL_law_947 : decode cL_law 947 = .ok (.iconst 0, 1) := by decide +kernel
theorem dL_law_948 : decode cL_law 948 = .ok (.ireturn, 1) := by decide +kernel
theorem dL_law_949 : decode cL_law 949 = .ok (.aload_n 1, 1) := by decide +kernel
theorem dL_law_950 : decode cL_law 950 = .ok (.aload_n 0, 1) := by decide +kernel
theorem dL_law_951 : decode cL_law 951 = .ok (.iload_n 3, 1) := by decide +kernel
theorem dL_law_952 : decode cL_law 952 = .ok (.iconst 1, 1) := by decide +kernel
theorem dL_law_953 : decode cL_law 953 = .ok (.iadd, 1) := by decide +kernel
theorem dL_law_954 : decode cL_law 954 = .ok (.iaload, 1) := by decide +kernel
theorem dL_law_955 : decode cL_law 955 = .ok (.aload_n 0, 1) := by decide +kernel
theorem dL_law_956 : decode cL_law 956 = .ok (.iload_n 3, 1) := by decide +kernel
theorem dL_law_957 : decode cL_law 957 = .ok (.iconst 2, 1) := by decide +kernel
theorem dL_law_958 : decode cL_law 958 = .ok (.iadd, 1) := by decide +kernel
theorem dL_law_959 : decode cL_law 959 = .ok (.iaload, 1) := by decide +kernel
theorem dL_law_960 : decode cL_law 960 = .ok (.invokevirtual 102, 3) := by decide +kernel
theorem dL_law_963 : decode cL_law 963 = .ok (.aload_n 2, 1) := by decide +kernel
theorem dL_law_964 : decode cL_law 964 = .ok (.aload_n 0, 1) := by decide +kernel
theorem dL_law_965 : decode cL_law 965 = .ok (.iload_n 3, 1) := by decide +kernel
theorem dL_law_966 : decode cL_law 966 = .ok (.iconst 1, 1) := by decide +kernel
theorem dL_law_967 : decode cL_law 967 = .ok (.iadd, 1) := by decide +kernel
theorem dL_law_968 : decode cL_law 968 = .ok (.iaload, 1) := by decide +kernel
theorem dL_law_969 : decode cL_law 969 = .ok (.aload_n 0, 1) := by decide +kernel
theorem dL_law_970 : decode cL_law 970 = .ok (.iload_n 3, 1) := by decide +kernel
theorem dL_law_971 : decode cL_law 971 = .ok (.iconst 2, 1) := by decide +kernel
theorem dL_law_972 : decode cL_law 972 = .ok (.iadd, 1) := by decide +kernel
theorem dL_law_973 : decode cL_law 973 = .ok (.iaload, 1) := by decide +kernel
theorem dL_law_974 : decode cL_law 974 = .ok (.invokevirtual 105, 3) := by decide +kernel
theorem dL_law_977 : decode cL_law 977 = .ok (.if_icmp .eq 131, 3) := by decide +kernel
theorem dL_law_980 : decode cL_law 980 = .ok (.iconst 0, 1) := by decide +kernel
theorem dL_law_981 : decode cL_law 981 = .ok (.ireturn, 1) := by decide +kernel
theorem dL_law_982 : decode cL_law 982 = .ok (.aload_n 1, 1) := by decide +kernel
theorem dL_law_983 : decode cL_law 983 = .ok (.aload_n 0, 1) := by decide +kernel
theorem dL_law_984 : decode cL_law 984 = .ok (.iload_n 3, 1) := by decide +kernel
theorem dL_law_985 : decode cL_law 985 = .ok (.iconst 1, 1) := by decide +kernel
theorem dL_law_986 : decode cL_law 986 = .ok (.iadd, 1) := by decide +kernel
theorem dL_law_987 : decode cL_law 987 = .ok (.iaload, 1) := by decide +kernel
theorem dL_law_988 : decode cL_law 988 = .ok (.aload_n 0, 1) := by decide +kernel
theorem dL_law_989 : decode cL_law 989 = .ok (.iload_n 3, 1) := by decide +kernel
theorem dL_law_990 : decode cL_law 990 = .ok (.iconst 2, 1) := by decide +kernel
theorem dL_law_991 : decode cL_law 991 = .ok (.iadd, 1) := by decide +kernel
theorem dL_law_992 : decode cL_law 992 = .ok (.iaload, 1) := by decide +kernel
theorem dL_law_993 : decode cL_law 993 = .ok (.invokevirtual 106, 3) := by decide +kernel
theorem dL_law_996 : decode cL_law 996 = .ok (.aload_n 2, 1) := by decide +kernel
theorem dL_law_997 : decode cL_law 997 = .ok (.aload_n 0, 1) := by decide +kernel
theorem dL_law_998 : decode cL_law 998 = .ok (.iload_n 3, 1) := by decide +kernel
theorem dL_law_999 : decode cL_law 999 = .ok (.iconst 1, 1) := by decide +kernel
theorem dL_law_1000 : decode cL_law 1000 = .ok (.iadd, 1) := by decide +kernel
theorem dL_law_1001 : decode cL_law 1001 = .ok (.iaload, 1) := by decide +kernel
theorem dL_law_1002 : decode cL_law 1002 = .ok (.aload_n 0, 1) := by decide +kernel
theorem dL_law_1003 : decode cL_law 1003 = .ok (.iload_n 3, 1) := by decide +kernel
theorem dL_law_1004 : decode cL_law 1004 = .ok (.iconst 2, 1) := by decide +kernel
theorem dL_law_1005 : decode cL_law 1005 = .ok (.iadd, 1) := by decide +kernel
theorem dL_law_1006 : decode cL_law 1006 = .ok (.iaload, 1) := by decide +kernel
theorem dL_law_1007 : decode cL_law 1007 = .ok (.invokevirtual 110, 3) := by decide +kernel
theorem dL_law_1010 : decode cL_law 1010 = .ok (.lcmp, 1) := by decide +kernel
theorem dL_law_1011 : decode cL_law 1011 = .ok (.ifCond .eq 97, 3) := by decide +kernel
theorem dL_law_1014 : decode cL_law 1014 = .ok (.iconst 0, 1) := by decide +kernel
theorem dL_law_1015 : decode cL_law 1015 = .ok (.ireturn, 1) := by decide +kernel
theorem dL_law_1016 : decode cL_law 1016 = .ok (.aload_n 1, 1) := by decide +kernel
theorem dL_law_1017 : decode cL_law 1017 = .ok (.aload_n 0, 1) := by decide +kernel
theorem dL_law_1018 : decode cL_law 1018 = .ok (.iload_n 3, 1) := by decide +kernel
theorem dL_law_1019 : decode cL_law 1019 = .ok (.iconst 1, 1) := by decide +kernel
theorem dL_law_1020 : decode cL_law 1020 = .ok (.iadd, 1) := by decide +kernel
theorem dL_law_1021 : decode cL_law 1021 = .ok (.iaload, 1) := by decide +kernel
theorem dL_law_1022 : decode cL_law 1022 = .ok (.invokevirtual 111, 3) := by decide +kernel
theorem dL_law_1025 : decode cL_law 1025 = .ok (.aload_n 2, 1) := by decide +kernel
theorem dL_law_1026 : decode cL_law 1026 = .ok (.aload_n 0, 1) := by decide +kernel
theorem dL_law_1027 : decode cL_law 1027 = .ok (.iload_n 3, 1) := by decide +kernel
theorem dL_law_1028 : decode cL_law 1028 = .ok (.iconst 1, 1) := by decide +kernel
theorem dL_law_1029 : decode cL_law 1029 = .ok (.iadd, 1) := by decide +kernel
theorem dL_law_1030 : decode cL_law 1030 = .ok (.iaload, 1) := by decide +kernel
theorem dL_law_1031 : decode cL_law 1031 = .ok (.invokevirtual 114, 3) := by decide +kernel
theorem dL_law_1034 : decode cL_law 1034 = .ok (.if_icmp .eq 74, 3) := by decide +kernel
theorem dL_law_1037 : decode cL_law 1037 = .ok (.iconst 0, 1) := by decide +kernel
theorem dL_law_1038 : decode cL_law 1038 = .ok (.ireturn, 1) := by decide +kernel
theorem dL_law_1039 : decode cL_law 1039 = .ok (.aload_n 1, 1) := by decide +kernel
theorem dL_law_1040 : decode cL_law 1040 = .ok (.aload_n 0, 1) := by decide +kernel
theorem dL_law_1041 : decode cL_law 1041 = .ok (.iload_n 3, 1) := by decide +kernel
theorem dL_law_1042 : decode cL_law 1042 = .ok (.iconst 1, 1) := by decide +kernel
theorem dL_law_1043 : decode cL_law 1043 = .ok (.iadd, 1) := by decide +kernel
theorem dL_law_1044 : decode cL_law 1044 = .ok (.iaload, 1) := by decide +kernel
theorem dL_law_1045 : decode cL_law 1045 = .ok (.invokevirtual 115, 3) := by decide +kernel
theorem dL_law_1048 : decode cL_law 1048 = .ok (.aload_n 2, 1) := by decide +kernel
theorem dL_law_1049 : decode cL_law 1049 = .ok (.aload_n 0, 1) := by decide +kernel
theorem dL_law_1050 : decode cL_law 1050 = .ok (.iload_n 3, 1) := by decide +kernel
theorem dL_law_1051 : decode cL_law 1051 = .ok (.iconst 1, 1) := by decide +kernel
theorem dL_law_1052 : decode cL_law 1052 = .ok (.iadd, 1) := by decide +kernel
theorem dL_law_1053 : decode cL_law 1053 = .ok (.iaload, 1) := by decide +kernel
theorem dL_law_1054 : decode cL_law 1054 = .ok (.invokevirtual 118, 3) := by decide +kernel
theorem dL_law_1057 : decode cL_law 1057 = .ok (.if_icmp .eq 51, 3) := by decide +kernel
theorem dL_law_1060 : decode cL_law 1060 = .ok (.iconst 0, 1) := by decide +kernel
theorem dL_law_1061 : decode cL_law 1061 = .ok (.ireturn, 1) := by decide +kernel
theorem dL_law_1062 : decode cL_law 1062 = .ok (.aload_n 1, 1) := by decide +kernel
theorem dL_law_1063 : decode cL_law 1063 = .ok (.aload_n 0, 1) := by decide +kernel
theorem dL_law_1064 : decode cL_law 1064 = .ok (.iload_n 3, 1) := by decide +kernel
theorem dL_law_1065 : decode cL_law 1065 = .ok (.iconst 1, 1) := by decide +kernel
theorem dL_law_1066 : decode cL_law 1066 = .ok (.iadd, 1) := by decide +kernel
theorem dL_law_1067 : decode cL_law 1067 = .ok (.iaload, 1) := by decide +kernel
theorem dL_law_1068 : decode cL_law 1068 = .ok (.invokevirtual 119, 3) := by decide +kernel
theorem dL_law_1071 : decode cL_law 1071 = .ok (.aload_n 2, 1) := by decide +kernel
theorem dL_law_1072 : decode cL_law 1072 = .ok (.aload_n 0, 1) := by decide +kernel
theorem dL_law_1073 : decode cL_law 1073 = .ok (.iload_n 3, 1) := by decide +kernel
theorem dL_law_1074 : decode cL_law 1074 = .ok (.iconst 1, 1) := by decide +kernel
theorem dL_law_1075 : decode cL_law 1075 = .ok (.iadd, 1) := by decide +kernel
theorem dL_law_1076 : decode cL_law 1076 = .ok (.iaload, 1) := by decide +kernel
theorem dL_law_1077 : decode cL_law 1077 = .ok (.invokevirtual 122, 3) := by decide +kernel
theorem dL_law_1080 : decode cL_law 1080 = .ok (.if_icmp .eq 28, 3) := by decide +kernel
theorem dL_law_1083 : decode cL_law 1083 = .ok (.iconst 0, 1) := by decide +kernel
theorem dL_law_1084 : decode cL_law 1084 = .ok (.ireturn, 1) := by decide +kernel
theorem dL_law_1085 : decode cL_law 1085 = .ok (.aload_n 1, 1) := by decide +kernel
theorem dL_law_1086 : decode cL_law 1086 = .ok (.aload_n 0, 1) := by decide +kernel
theorem dL_law_1087 : decode cL_law 1087 = .ok (.iload_n 3, 1) := by decide +kernel
theorem dL_law_1088 : decode cL_law 1088 = .ok (.iconst 1, 1) := by decide +kernel
theorem dL_law_1089 : decode cL_law 1089 = .ok (.iadd, 1) := by decide +kernel
theorem dL_law_1090 : decode cL_law 1090 = .ok (.iaload, 1) := by decide +kernel
theorem dL_law_1091 : decode cL_law 1091 = .ok (.invokevirtual 123, 3) := by decide +kernel
theorem dL_law_1094 : decode cL_law 1094 = .ok (.aload_n 2, 1) := by decide +kernel
theorem dL_law_1095 : decode cL_law 1095 = .ok (.aload_n 0, 1) := by decide +kernel
theorem dL_law_1096 : decode cL_law 1096 = .ok (.iload_n 3, 1) := by decide +kernel
theorem dL_law_1097 : decode cL_law 1097 = .ok (.iconst 1, 1) := by decide +kernel
theorem dL_law_1098 : decode cL_law 1098 = .ok (.iadd, 1) := by decide +kernel
theorem dL_law_1099 : decode cL_law 1099 = .ok (.iaload, 1) := by decide +kernel
theorem dL_law_1100 : decode cL_law 1100 = .ok (.invokevirtual 126, 3) := by decide +kernel
theorem dL_law_1103 : decode cL_law 1103 = .ok (.if_icmp .eq 5, 3) := by decide +kernel
theorem dL_law_1106 : decode cL_law 1106 = .ok (.iconst 0, 1) := by decide +kernel
theorem dL_law_1107 : decode cL_law 1107 = .ok (.ireturn, 1) := by decide +kernel
theorem dL_law_1108 : decode cL_law 1108 = .ok (.iinc 3 8, 3) := by decide +kernel
theorem dL_law_1111 : decode cL_law 1111 = .ok (.goto (-1073), 3) := by decide +kernel
theorem dL_law_1114 : decode cL_law 1114 = .ok (.iconst 1, 1) := by decide +kernel
theorem dL_law_1115 : decode cL_law 1115 = .ok (.ireturn, 1) := by decide +kernel
end
section
/-! ===== the slim walk: a machine's frame and heap in small words; rules goal first ===== -/
abbrev MV : Type := Int32 ⊕ (Int64 ⊕ (Option Nat ⊕ (UInt32 ⊕ UInt64)))
abbrev vi (x : Int32) : MV := Sum.inl x
abbrev vl (x : Int64) : MV := Sum.inr (Sum.inl x)
abbrev vr (r : Option Nat) : MV := Sum.inr (Sum.inr (Sum.inl r))
abbrev vf (x : UInt32) : MV := Sum.inr (Sum.inr (Sum.inr (Sum.inl x)))
abbrev vd (x : UInt64) : MV := Sum.inr (Sum.inr (Sum.inr (Sum.inr x)))
def mv : MV → Value
  | .inl x => .int x
  | .inr (.inl x) => .long x
  | .inr (.inr (.inl r)) => va_rf r
  | .inr (.inr (.inr (.inl x))) => .float x
  | .inr (.inr (.inr (.inr x))) => .double x
def mcat : MV → Nat
  | .inr (.inl _) => 2
  | .inr (.inr (.inr (.inr _))) => 2
  | _ => 1
theorem va_rf_cat (r : Option Nat) : (va_rf r).category = 1 := by cases r <;> rfl
theorem mcat_ok (v : MV) : (mv v).category = mcat v := by
  rcases v with x | x | x | x | x
  · rfl
  · rfl
  · exact va_rf_cat x
  · rfl
  · rfl
abbrev MI : Type := Nat → Nat → Int32
abbrev ML : Type := Nat → Nat → Int64
abbrev MR : Type := Nat → Nat → Option Nat
/-- what is linked: references, shapes (kind, length), the heap's size -/
abbrev NT : Type := MR × ((Nat → Nat × Nat) × Nat)
def up {α : Type} (f : Nat → α) (k : Nat) (v : α) : Nat → α := fun j => if j = k then v else f j
def upd2 {α : Type} (f : Nat → Nat → α) (a k : Nat) (v : α) : Nat → Nat → α := up f a (up (f a) k v)
theorem up_s {α : Type} (f : Nat → α) (k : Nat) (v : α) : up f k v k = v := by simp [up]
theorem up_n {α : Type} (f : Nat → α) {k j : Nat} (v : α) (h : j ≠ k) : up f k v j = f j := by simp [up, h]
/-- field types of the kinds 0 .. 11: 0 an int or a boolean, 1 a long, 2 a reference -/
def ftl : List (List Nat) := [[2, 0, 0, 2, 2, 2, 2, 2, 2, 0, 0, 0, 0, 0, 0, 0, 0, 0, 0], [0, 2], [1, 0, 1], [0, 2], [2, 2, 2, 2, 0, 0, 0, 0], [0, 0, 0, 2, 0], [2, 0, 0, 1], [0, 0, 0, 2, 0, 0, 0], [0, 0, 0, 0, 1, 0], [0, 0, 0, 0, 0, 0, 0, 0, 0, 1, 1, 0, 0], [0, 0, 2, 2, 2, 2], [0, 0, 0, 0, 2, 2, 2, 0, 2, 2, 0, 2, 2, 2, 2, 2, 2, 2, 2, 2, 0, 2, 2, 2, 2, 0, 2, 2, 2, 2, 2, 0, 0, 1, 2, 2]]
def fty (k j : Nat) : Nat := (ftl.getD k []).getD j 0
def fval (k : Nat) (f : Nat → Int32) (g : Nat → Int64) (r : Nat → Option Nat) (j : Nat) : Value := if fty k j = 0 then .int (f j) else if fty k j = 1 then .long (g j) else va_rf (r j)
def elC : Nat → String
  | 14 => "GeoThreads$Grid"
  | 15 => "GeoThreads$Hunt"
  | 16 => "GeoThreads$Line"
  | 17 => "GeoThreads$Search"
  | 18 => "GeoThreads$Task"
  | _ => "GeoThreads$Work"
/-- a cell as its shape says: 0..11 an object, 12 ints, 13 longs, 14..19 references, 20 the script, 21 nothing known -/
def CellAt (D : va_G) (s : State) (H : Heap) (a : Nat) (kn : Nat × Nat) (f : Nat → Int32) (g : Nat → Int64) (r : Nat → Option Nat) : Prop :=
  (kn.1 < 12 → ∃ q : vw_C, vwCl[kn.1]? = some q ∧ t_OB a (D.1 kn.1) q.2.2 (D.2 kn.1) H (fval kn.1 f g r)) ∧
  (kn.1 = 12 ∨ kn.1 = 20 → ∃ cell : Cell, H[a]? = some cell ∧ s.isArrayOf cell .int ∧ cell.vm ≠ .unknown ∧ cell.slots.size = kn.2 ∧ ∀ j : Nat, j < kn.2 → cell.slots[j]? = some (.int (f j))) ∧
  (kn.1 = 13 → ∃ cell : Cell, H[a]? = some cell ∧ s.isArrayOf cell .long ∧ cell.vm ≠ .unknown ∧ cell.slots.size = kn.2 ∧ ∀ j : Nat, j < kn.2 → cell.slots[j]? = some (.long (g j))) ∧
  (14 ≤ kn.1 → kn.1 < 20 → ∃ cell : Cell, H[a]? = some cell ∧ s.isArrayOf cell (.object (elC kn.1)) ∧ cell.vm = .none ∧ va_RA s cell.cls (.object (elC kn.1)) ∧ cell.slots.size = kn.2 ∧ ∀ j : Nat, j < kn.2 → cell.slots[j]? = some (va_rf (r j)))
def Hp (D : va_G) (B : Nat) (s : State) (H : Heap) (I : MI) (L : ML) (N : NT) : Prop :=
  H.size = N.2.2 ∧ B ≤ N.2.2 ∧ (∀ a, CellAt D s H a (N.2.1 a) (I a) (L a) (N.1 a)) ∧ (∀ a, N.2.2 ≤ a → (N.2.1 a).1 = 21 ∧ ∀ k, I a k = 0 ∧ L a k = 0 ∧ N.1 a k = none) ∧ (∀ a, (N.2.1 a).1 < 20 → B ≤ a)
def LocR (lr : Array Slot) (nL : Nat) (ls : List (Option MV)) : Prop := lr.size = nL ∧ lv_wf lr ∧ ∀ (i : Nat) (v : MV), ls[i]? = some (some v) → lr[i]? = some (.val (mv v))
abbrev GT : Type := Nat → List (Option MV) → List MV → MI → ML → NT → Nat → Nat → Prop
def Gw (p : Program) (l : Launch) (e : Env) (R : Room) (s : State) (m : MethodId) (args : Array Value) (below : List Frame) (meth : Method) (c : Code) (Q : State → Prop) (D : va_G) (B nL : Nat) : GT :=
  fun pc ls st I L N kc ks => ∀ (lr : Array Slot) (H : Heap) (locs : List Loc), LocR lr nL ls → Hp D B s H I L N → va_S (fun q => B ≤ q) s.heap H locs → W p l e R s m args below meth c H locs kc ks Q (F0 m pc lr (st.map mv))
/-- the tables' words that any later table keeps -/
def lw_gd : List Cond := lw_tbl.filter goodWord
theorem gd_mem {w : Cond} (h : w ∈ lw_tbl) (hg : goodWord w = true) : w ∈ lw_gd := List.mem_filter.mpr ⟨h, hg⟩
theorem gd_good : GoodIn lw_gd lw_gd := fun _ h => ⟨h, good_of_word (List.mem_filter.mp h).2⟩
/-- words that are kept by laws of their own -/
def isNw : Cond → Bool
  | .castable .. => true
  | .methodLinkNest .. => true
  | .declares _ => true
  | _ => false
def nwL : List Cond := lw_tbl.filter isNw
theorem nw_mem {w : Cond} (h : w ∈ lw_tbl) (hg : isNw w = true) : w ∈ nwL := List.mem_filter.mpr ⟨h, hg⟩
def aoL : List String := ["GeoThreads$Grid", "GeoThreads$Hunt", "GeoThreads$Line", "GeoThreads$Search", "GeoThreads$Task", "GeoThreads$Work"]
/-- what the tables say of the objects' classes -/
def KK (D : va_G) (U : State) : Prop := va_K D vwCl [] U ∧ (va_Nc "GeoThreads$Way" "GeoThreads$Share" U ∧ va_Nc "GeoThreads$Reader" "GeoThreads$Share" U) ∧ (∀ C ∈ aoL, va_AO C U) ∧ ∀ w ∈ nwL, va_Nw w U
theorem KK.warm {D : va_G} {s U : State} (hW : s.WarmedH U.vm) (h : KK D s) : KK D U := by
  obtain ⟨h1, ⟨h2, h3⟩, h4, h5⟩ := h
  refine ⟨va_K.moved hW.alike h1, ⟨h2.moved hW.alike, h3.moved hW.alike⟩, fun C hC => (h4 C hC).moved hW.alike, fun w hw => ?_⟩
  have hz := h5 w hw
  have hi := (List.mem_filter.mp hw).2
  cases w <;> first | exact va_Nw.warmC hW hz | exact va_Nw.warmM hW hz | exact va_Nw.warmD hW hz | (simp [isNw] at hi; done)
theorem KK.calling {D : va_G} {U : State} {g : JFrame} {mk : MethodId} {a : Array Value} (h : KK D U) : KK D (U.calling g mk a) := by
  obtain ⟨h1, ⟨h2, h3⟩, h4, h5⟩ := h
  have hA : U.vm.Alike (U.calling g mk a).vm := Vm.Alike.refl U.vm
  refine ⟨va_K.moved hA h1, ⟨h2.moved hA, h3.moved hA⟩, fun C hC => (h4 C hC).moved hA, fun w hw => ?_⟩
  have hz := h5 w hw
  have hi := (List.mem_filter.mp hw).2
  have ht : w.onTables = true := by cases w <;> first | rfl | (simp [isNw] at hi; done)
  exact va_Nw.same (u := U) ht rfl hz
/-- what is known of a method's walk g: its class, code, locals, name, room -/
def Cx (l : Launch) (D : va_G) (B : Nat) (own : String) (cc : ByteArray) (nL : Nat) (mn : String) (R : Room) (g : GT) : Prop :=
  ∃ (p : Program) (e : Env) (s : State) (m : MethodId) (args : Array Value) (below : List Frame) (meth : Method) (c : Code) (Q : State → Prop),
    (p.tables.exec = Jvm.exec ∧ c.code = cc ∧ c.maxLocals = nL ∧ s.vm.findClass own = some m.cls ∧ (∀ w ∈ lw_gd, w.before args s = true) ∧ KK D s ∧ meth.name = mn) ∧ g = Gw p l e R s m args below meth c Q D B nL
def QcOf (D : va_G) (B : Nat) (Qm : Option MV → MI → ML → NT → Prop) : Array Value → State → Outcome → State → Prop := fun _ st oc t =>
  ∃ (v : Option MV) (I : MI) (L : ML) (N : NT), oc = .returned (v.map mv) ∧ Qm v I L N ∧ Hp D B t t.heap I L N ∧ va_F (fun q => B ≤ q) st t
def Cr (l : Launch) (D : va_G) (B : Nat) (own : String) (cc : ByteArray) (nL : Nat) (mn : String) (R : Room) (ret : Option FieldType) (mc ms : Nat) (Qm : Option MV → MI → ML → NT → Prop) (g : GT) : Prop :=
  ∃ (p : Program) (e : Env) (s : State) (m : MethodId) (args : Array Value) (below : List Frame) (meth : Method) (c : Code),
    (p.tables.exec = Jvm.exec ∧ c.code = cc ∧ c.maxLocals = nL ∧ s.vm.findClass own = some m.cls ∧ (∀ w ∈ lw_gd, w.before args s = true) ∧ KK D s ∧ meth.name = mn) ∧ meth.sig.returnType = ret ∧ meth.locks = false ∧ g = Gw p l e R s m args below meth c (MQ below (QcOf D B Qm) args s mc ms (fun q => B ≤ q)) D B nL
theorem Cr.cx {l : Launch} {D : va_G} {B : Nat} {own : String} {cc : ByteArray} {nL : Nat} {mn : String} {R : Room} {ret : Option FieldType} {mc ms : Nat} {Qm : Option MV → MI → ML → NT → Prop} {g : GT} (h : Cr l D B own cc nL mn R ret mc ms Qm g) : Cx l D B own cc nL mn R g := by
  obtain ⟨p, e, s, m, args, below, meth, c, h1, -, -, h2⟩ := h
  exact ⟨p, e, s, m, args, below, meth, c, _, h1, h2⟩
/-- a method: name, code, locals, answer's type, frames and locals that it needs -/
abbrev MD : Type := MethodName × (ByteArray × (Nat × (Option FieldType × (Nat × Nat))))
abbrev MD.y (M : MD) : MethodName := M.1
abbrev MD.cc (M : MD) : ByteArray := M.2.1
abbrev MD.nL (M : MD) : Nat := M.2.2.1
abbrev MD.ret (M : MD) : Option FieldType := M.2.2.2.1
abbrev MD.fr (M : MD) : Nat := M.2.2.2.2.1
abbrev MD.lo (M : MD) : Nat := M.2.2.2.2.2
def PcOf (D : va_G) (B : Nat) (as : List MV) (I : MI) (L : ML) (N : NT) : Array Value → State → Prop := va_Pc (as.map mv) (fun U => KK D U ∧ Hp D B U U.heap I L N)
/-- method M, called with as over I, L, N, returns, and Qm holds of its answer and what is then -/
def Ct (l : Launch) (D : va_G) (B : Nat) (M : MD) (as : List MV) (I : MI) (L : ML) (N : NT) (mc ms : Nat) (Qm : Option MV → MI → ML → NT → Prop) : Prop :=
  Met l M.y (.code M.y M.cc M.nL M.ret :: lw_gd) { frames := M.fr, cells := mc, slots := ms, locals := M.lo } (PcOf D B as I L N) (QcOf D B Qm) mc ms (fun q => B ≤ q)
/-- the same, with one answer and end, and nothing made -/
def Cq (l : Launch) (D : va_G) (B : Nat) (M : MD) (as : List MV) (I : MI) (L : ML) (N : NT) (v : Option MV) (I1 : MI) (L1 : ML) : Prop :=
  Ct l D B M as I L N 0 0 (fun v' I' L' N' => v' = v ∧ I' = I1 ∧ L' = L1 ∧ N' = N)
def slotsOf : List MV → List (Option MV)
  | [] => []
  | v :: vs => if mcat v = 2 then some v :: none :: slotsOf vs else some v :: slotsOf vs
def entryL (nL : Nat) (as : List MV) : List (Option MV) := slotsOf as ++ List.replicate (nL - (slotsOf as).length) none
theorem slotsOf_at : ∀ (as : List MV) (k i : Nat) (v : MV), (slotsOf as)[i]? = some (some v) → (k + i, mv v) ∈ lv_args k (as.map mv)
  | [], k, i, v, h => by simp [slotsOf] at h
  | w :: ws, k, i, v, h => by
    show (k + i, mv v) ∈ (k, mv w) :: lv_args (if (mv w).category = 2 then k + 2 else k + 1) (ws.map mv)
    rw [mcat_ok]
    unfold slotsOf at h
    by_cases hc : mcat w = 2
    · rw [if_pos hc] at h ⊢
      match i, h with
      | 0, h => simp at h; subst h; exact List.mem_cons_self
      | 1, h => simp at h
      | i + 2, h =>
        have := slotsOf_at ws (k + 2) i v (by simpa using h)
        exact List.mem_cons_of_mem _ (by rw [show k + (i + 2) = k + 2 + i by omega]; exact this)
    · rw [if_neg hc] at h ⊢
      match i, h with
      | 0, h => simp at h; subst h; exact List.mem_cons_self
      | i + 1, h =>
        have := slotsOf_at ws (k + 1) i v (by simpa using h)
        exact List.mem_cons_of_mem _ (by rw [show k + (i + 1) = k + 1 + i by omega]; exact this)
theorem slotsOf_len : ∀ as : List MV, (lg_sl (as.map mv)).length = (slotsOf as).length
  | [] => rfl
  | w :: ws => by
    have := slotsOf_len ws
    unfold lg_sl at this ⊢
    by_cases hc : mcat w = 2
    · have h2 : (mv w).category = 2 := by rw [mcat_ok]; exact hc
      simp [slotsOf, hc, h2] at this ⊢; omega
    · have h2 : ¬ (mv w).category = 2 := by rw [mcat_ok]; exact hc
      simp [slotsOf, hc, h2] at this ⊢; omega
theorem Ct.of {l : Launch} {D : va_G} {B : Nat} {M : MD} {as : List MV} {I : MI} {L : ML} {N : NT} {mc ms : Nat} {Qm : Option MV → MI → ML → NT → Prop} (hy : plainName M.y.cls = true) (hn : (slotsOf as).length ≤ M.nL)
    (body : ∀ g, Cr l D B M.y.cls M.cc M.nL M.y.name { frames := M.fr, cells := mc, slots := ms, locals := M.lo } M.ret mc ms Qm g → g 0 (entryL M.nL as) [] I L N 0 0) : Ct l D B M as I L N mc ms Qm := by
  refine Met.ofW (cc := M.cc) (maxL := M.nL) (ret := M.ret) hy rfl ?_
  intro p e s m args below meth c s₁ Bd hml hv
  obtain ⟨rfl, hK, hH⟩ := hv
  have hts := atoms_spec (ws := .code M.y M.cc M.nL M.ret :: lw_gd) Bd.pre
  have hnm := name_of_methodNamed Bd.named Bd.method
  have hg := body _ ⟨p, e, s, m, (as.map mv).toArray, below, meth, c, ⟨Bd.exec, Bd.bytes, hml, findClass_of_methodNamed Bd.named, fun w hw => hts w (List.mem_cons_of_mem _ hw), hK, hnm.1⟩, Bd.returns, Bd.notSynchronized, rfl⟩
  rw [lg_entry_eq]
  have hl := lv_entry (as.map mv) (n := M.nL) (by rw [slotsOf_len]; exact hn)
  refine hg _ s.heap [] ⟨hl.1, hl.2.1, fun i v hi => ?_⟩ hH va_S.rf
  have hi2 : (slotsOf as)[i]? = some (some v) := by
    unfold entryL at hi
    by_cases hlt : i < (slotsOf as).length
    · rwa [List.getElem?_append_left hlt] at hi
    · rw [List.getElem?_append_right (by omega)] at hi
      have := List.mem_of_getElem? hi
      have h3 := List.eq_of_mem_replicate this
      cases h3
  have := hl.2.2 _ (slotsOf_at as 0 i v hi2)
  rwa [Nat.zero_add] at this
end
section
section SIL
variable {l : Launch} {D : va_G} {B : Nat} {own : String} {cc : ByteArray} {nL : Nat} {mn : String} {R : Room} {g : GT} {ls ls' : List (Option MV)} {st : List MV} {I : MI} {L : ML} {N : NT} {kc ks : Nat}
theorem G_iconst (pc : Nat) (hC : Cx l D B own cc nL mn R g) {n : Int} (v : Int32) (hv : Int32.ofInt n = v) (hd : decode cc pc = .ok (.iconst n, 1)) (kk : g (pc + 1) ls (vi v :: st) I L N kc ks) : g pc ls (st) I L N kc ks := by
  obtain ⟨p, e, s, m, args, below, meth, c, Q, ⟨hx, hb, hml, ho, hts, hK, hnm⟩, rfl⟩ := hC
  exact fun lr H locs hl hH hS => lv_iconst hx hb hd hv (kk lr H locs hl hH hS)
theorem G_bipush (pc : Nat) (hC : Cx l D B own cc nL mn R g) {n : Int} (v : Int32) (hv : (Int8.ofInt n).toInt32 = v) (hd : decode cc pc = .ok (.bipush n, 2)) (kk : g (pc + 2) ls (vi v :: st) I L N kc ks) : g pc ls (st) I L N kc ks := by
  obtain ⟨p, e, s, m, args, below, meth, c, Q, ⟨hx, hb, hml, ho, hts, hK, hnm⟩, rfl⟩ := hC
  exact fun lr H locs hl hH hS => lv_bipush hx hb hd hv (kk lr H locs hl hH hS)
theorem G_sipush (pc : Nat) (hC : Cx l D B own cc nL mn R g) {n : Int} (v : Int32) (hv : (Int16.ofInt n).toInt32 = v) (hd : decode cc pc = .ok (.sipush n, 3)) (kk : g (pc + 3) ls (vi v :: st) I L N kc ks) : g pc ls (st) I L N kc ks := by
  obtain ⟨p, e, s, m, args, below, meth, c, Q, ⟨hx, hb, hml, ho, hts, hK, hnm⟩, rfl⟩ := hC
  exact fun lr H locs hl hH hS => lv_sipush hx hb hd hv (kk lr H locs hl hH hS)
theorem G_lconst (pc : Nat) (hC : Cx l D B own cc nL mn R g) {n : Fin 2} (v : Int64) (hv : Int64.ofNat (n : Nat) = v) (hd : decode cc pc = .ok (.lconst n, 1)) (kk : g (pc + 1) ls (vl v :: st) I L N kc ks) : g pc ls (st) I L N kc ks := by
  obtain ⟨p, e, s, m, args, below, meth, c, Q, ⟨hx, hb, hml, ho, hts, hK, hnm⟩, rfl⟩ := hC
  exact fun lr H locs hl hH hS => lv_lconst hx hb hd hv (kk lr H locs hl hH hS)
theorem G_ldc (pc : Nat) (hC : Cx l D B own cc nL mn R g) {i : Nat} {v : Int32} (hw : Cond.constant own i v ∈ lw_gd) (hd : decode cc pc = .ok (.ldc i, 2)) (kk : g (pc + 2) ls (vi v :: st) I L N kc ks) : g pc ls (st) I L N kc ks := by
  obtain ⟨p, e, s, m, args, below, meth, c, Q, ⟨hx, hb, hml, ho, hts, hK, hnm⟩, rfl⟩ := hC
  exact fun lr H locs hl hH hS => lv_ldc hx hb ho (hts _ hw) hd (kk lr H locs hl hH hS)
theorem G_ldcw (pc : Nat) (hC : Cx l D B own cc nL mn R g) {i : Nat} {v : Int32} (hw : Cond.constant own i v ∈ lw_gd) (hd : decode cc pc = .ok (.ldc_w i, 3)) (kk : g (pc + 3) ls (vi v :: st) I L N kc ks) : g pc ls (st) I L N kc ks := by
  obtain ⟨p, e, s, m, args, below, meth, c, Q, ⟨hx, hb, hml, ho, hts, hK, hnm⟩, rfl⟩ := hC
  exact fun lr H locs hl hH hS => lv_ldcw hx hb ho (hts _ hw) hd (kk lr H locs hl hH hS)
theorem G_ldc2 (pc : Nat) (hC : Cx l D B own cc nL mn R g) {i : Nat} {v : Int64} (hw : Cond.constantLong own i v ∈ lw_gd) (hd : decode cc pc = .ok (.ldc2_w i, 3)) (kk : g (pc + 3) ls (vl v :: st) I L N kc ks) : g pc ls (st) I L N kc ks := by
  obtain ⟨p, e, s, m, args, below, meth, c, Q, ⟨hx, hb, hml, ho, hts, hK, hnm⟩, rfl⟩ := hC
  exact fun lr H locs hl hH hS => lv_ldc2 hx hb ho (hts _ hw) hd (kk lr H locs hl hH hS)
theorem G_null (pc : Nat) (hC : Cx l D B own cc nL mn R g)  (hd : decode cc pc = .ok (.aconst_null, 1)) (kk : g (pc + 1) ls (vr none :: st) I L N kc ks) : g pc ls (st) I L N kc ks := by
  obtain ⟨p, e, s, m, args, below, meth, c, Q, ⟨hx, hb, hml, ho, hts, hK, hnm⟩, rfl⟩ := hC
  exact fun lr H locs hl hH hS => lv_null hx hb hd (kk lr H locs hl hH hS)
theorem G_iload_n (pc : Nat) (hC : Cx l D B own cc nL mn R g) {k : Fin 4} {x : Int32} (hl0 : ls[(k : Nat)]? = some (some (vi x))) (hd : decode cc pc = .ok (.iload_n k, 1)) (kk : g (pc + 1) ls (vi x :: st) I L N kc ks) : g pc ls (st) I L N kc ks := by
  obtain ⟨p, e, s, m, args, below, meth, c, Q, ⟨hx, hb, hml, ho, hts, hK, hnm⟩, rfl⟩ := hC
  exact fun lr H locs hl hH hS => lv_iload_n hx hb hd rfl (hl.2.2 _ _ hl0) (kk lr H locs hl hH hS)
theorem G_iload (pc : Nat) (hC : Cx l D B own cc nL mn R g) {k : Nat} {x : Int32} (hl0 : ls[k]? = some (some (vi x))) (hd : decode cc pc = .ok (.iload k, 2)) (kk : g (pc + 2) ls (vi x :: st) I L N kc ks) : g pc ls (st) I L N kc ks := by
  obtain ⟨p, e, s, m, args, below, meth, c, Q, ⟨hx, hb, hml, ho, hts, hK, hnm⟩, rfl⟩ := hC
  exact fun lr H locs hl hH hS => lv_iload hx hb hd (hl.2.2 _ _ hl0) (kk lr H locs hl hH hS)
theorem G_lload_n (pc : Nat) (hC : Cx l D B own cc nL mn R g) {k : Fin 4} {x : Int64} (hl0 : ls[(k : Nat)]? = some (some (vl x))) (hd : decode cc pc = .ok (.lload_n k, 1)) (kk : g (pc + 1) ls (vl x :: st) I L N kc ks) : g pc ls (st) I L N kc ks := by
  obtain ⟨p, e, s, m, args, below, meth, c, Q, ⟨hx, hb, hml, ho, hts, hK, hnm⟩, rfl⟩ := hC
  exact fun lr H locs hl hH hS => lv_lload_n hx hb hd rfl (hl.2.2 _ _ hl0) (kk lr H locs hl hH hS)
theorem G_lload (pc : Nat) (hC : Cx l D B own cc nL mn R g) {k : Nat} {x : Int64} (hl0 : ls[k]? = some (some (vl x))) (hd : decode cc pc = .ok (.lload k, 2)) (kk : g (pc + 2) ls (vl x :: st) I L N kc ks) : g pc ls (st) I L N kc ks := by
  obtain ⟨p, e, s, m, args, below, meth, c, Q, ⟨hx, hb, hml, ho, hts, hK, hnm⟩, rfl⟩ := hC
  exact fun lr H locs hl hH hS => lv_lload hx hb hd (hl.2.2 _ _ hl0) (kk lr H locs hl hH hS)
theorem G_aload_n (pc : Nat) (hC : Cx l D B own cc nL mn R g) {k : Fin 4} {r : Option Nat} (hl0 : ls[(k : Nat)]? = some (some (vr r))) (hd : decode cc pc = .ok (.aload_n k, 1)) (kk : g (pc + 1) ls (vr r :: st) I L N kc ks) : g pc ls st I L N kc ks := by
  obtain ⟨p, e, s, m, args, below, meth, c, Q, ⟨hx, hb, hml, ho, hts, hK, hnm⟩, rfl⟩ := hC
  intro lr H locs hl hH hS
  have h0 := hl.2.2 _ _ hl0
  cases r with
  | none => exact lv_aload_nN hx hb hd rfl h0 (kk lr H locs hl hH hS)
  | some a => exact lv_aload_n hx hb hd rfl h0 (kk lr H locs hl hH hS)
theorem G_aload (pc : Nat) (hC : Cx l D B own cc nL mn R g) {k : Nat} {r : Option Nat} (hl0 : ls[k]? = some (some (vr r))) (hd : decode cc pc = .ok (.aload k, 2)) (kk : g (pc + 2) ls (vr r :: st) I L N kc ks) : g pc ls st I L N kc ks := by
  obtain ⟨p, e, s, m, args, below, meth, c, Q, ⟨hx, hb, hml, ho, hts, hK, hnm⟩, rfl⟩ := hC
  intro lr H locs hl hH hS
  have h0 := hl.2.2 _ _ hl0
  cases r with
  | none => exact lv_aloadN hx hb hd h0 (kk lr H locs hl hH hS)
  | some a => exact lv_aload hx hb hd h0 (kk lr H locs hl hH hS)
theorem G_iadd (pc : Nat) (hC : Cx l D B own cc nL mn R g) {x y : Int32} (hd : decode cc pc = .ok (.iadd, 1)) (kk : g (pc + 1) ls (vi (x + y) :: st) I L N kc ks) : g pc ls (vi y :: vi x :: st) I L N kc ks := by
  obtain ⟨p, e, s, m, args, below, meth, c, Q, ⟨hx, hb, hml, ho, hts, hK, hnm⟩, rfl⟩ := hC
  exact fun lr H locs hl hH hS => lv_iadd hx hb hd (kk lr H locs hl hH hS)
theorem G_isub (pc : Nat) (hC : Cx l D B own cc nL mn R g) {x y : Int32} (hd : decode cc pc = .ok (.isub, 1)) (kk : g (pc + 1) ls (vi (x - y) :: st) I L N kc ks) : g pc ls (vi y :: vi x :: st) I L N kc ks := by
  obtain ⟨p, e, s, m, args, below, meth, c, Q, ⟨hx, hb, hml, ho, hts, hK, hnm⟩, rfl⟩ := hC
  exact fun lr H locs hl hH hS => lv_isub hx hb hd (kk lr H locs hl hH hS)
theorem G_imul (pc : Nat) (hC : Cx l D B own cc nL mn R g) {x y : Int32} (hd : decode cc pc = .ok (.imul, 1)) (kk : g (pc + 1) ls (vi (x * y) :: st) I L N kc ks) : g pc ls (vi y :: vi x :: st) I L N kc ks := by
  obtain ⟨p, e, s, m, args, below, meth, c, Q, ⟨hx, hb, hml, ho, hts, hK, hnm⟩, rfl⟩ := hC
  exact fun lr H locs hl hH hS => lv_imul hx hb hd (kk lr H locs hl hH hS)
theorem G_iand (pc : Nat) (hC : Cx l D B own cc nL mn R g) {x y : Int32} (hd : decode cc pc = .ok (.iand, 1)) (kk : g (pc + 1) ls (vi (x &&& y) :: st) I L N kc ks) : g pc ls (vi y :: vi x :: st) I L N kc ks := by
  obtain ⟨p, e, s, m, args, below, meth, c, Q, ⟨hx, hb, hml, ho, hts, hK, hnm⟩, rfl⟩ := hC
  exact fun lr H locs hl hH hS => lv_iand hx hb hd (kk lr H locs hl hH hS)
theorem G_ladd (pc : Nat) (hC : Cx l D B own cc nL mn R g) {x y : Int64} (hd : decode cc pc = .ok (.ladd, 1)) (kk : g (pc + 1) ls (vl (x + y) :: st) I L N kc ks) : g pc ls (vl y :: vl x :: st) I L N kc ks := by
  obtain ⟨p, e, s, m, args, below, meth, c, Q, ⟨hx, hb, hml, ho, hts, hK, hnm⟩, rfl⟩ := hC
  exact fun lr H locs hl hH hS => lv_ladd hx hb hd (kk lr H locs hl hH hS)
theorem G_land (pc : Nat) (hC : Cx l D B own cc nL mn R g) {x y : Int64} (hd : decode cc pc = .ok (.land, 1)) (kk : g (pc + 1) ls (vl (x &&& y) :: st) I L N kc ks) : g pc ls (vl y :: vl x :: st) I L N kc ks := by
  obtain ⟨p, e, s, m, args, below, meth, c, Q, ⟨hx, hb, hml, ho, hts, hK, hnm⟩, rfl⟩ := hC
  exact fun lr H locs hl hH hS => lv_land hx hb hd (kk lr H locs hl hH hS)
theorem G_lor (pc : Nat) (hC : Cx l D B own cc nL mn R g) {x y : Int64} (hd : decode cc pc = .ok (.lor, 1)) (kk : g (pc + 1) ls (vl (x ||| y) :: st) I L N kc ks) : g pc ls (vl y :: vl x :: st) I L N kc ks := by
  obtain ⟨p, e, s, m, args, below, meth, c, Q, ⟨hx, hb, hml, ho, hts, hK, hnm⟩, rfl⟩ := hC
  exact fun lr H locs hl hH hS => lv_lor hx hb hd (kk lr H locs hl hH hS)
theorem G_irem (pc : Nat) (hC : Cx l D B own cc nL mn R g) {x y : Int32} (hne : ¬ y = 0) (hd : decode cc pc = .ok (.irem, 1)) (kk : g (pc + 1) ls (vi (x - x / y * y) :: st) I L N kc ks) : g pc ls (vi y :: vi x :: st) I L N kc ks := by
  obtain ⟨p, e, s, m, args, below, meth, c, Q, ⟨hx, hb, hml, ho, hts, hK, hnm⟩, rfl⟩ := hC
  exact fun lr H locs hl hH hS => lv_irem hx hb hd hne (kk lr H locs hl hH hS)
theorem G_ldiv (pc : Nat) (hC : Cx l D B own cc nL mn R g) {x y : Int64} (hne : ¬ y = 0) (hd : decode cc pc = .ok (.ldiv, 1)) (kk : g (pc + 1) ls (vl (x / y) :: st) I L N kc ks) : g pc ls (vl y :: vl x :: st) I L N kc ks := by
  obtain ⟨p, e, s, m, args, below, meth, c, Q, ⟨hx, hb, hml, ho, hts, hK, hnm⟩, rfl⟩ := hC
  exact fun lr H locs hl hH hS => lv_ldiv hx hb hd hne (kk lr H locs hl hH hS)
theorem G_i2l (pc : Nat) (hC : Cx l D B own cc nL mn R g) {x : Int32} (hd : decode cc pc = .ok (.i2l, 1)) (kk : g (pc + 1) ls (vl x.toInt64 :: st) I L N kc ks) : g pc ls (vi x :: st) I L N kc ks := by
  obtain ⟨p, e, s, m, args, below, meth, c, Q, ⟨hx, hb, hml, ho, hts, hK, hnm⟩, rfl⟩ := hC
  exact fun lr H locs hl hH hS => lv_i2l hx hb hd rfl (kk lr H locs hl hH hS)
theorem G_l2i (pc : Nat) (hC : Cx l D B own cc nL mn R g) {x : Int64} (hd : decode cc pc = .ok (.l2i, 1)) (kk : g (pc + 1) ls (vi x.toInt32 :: st) I L N kc ks) : g pc ls (vl x :: st) I L N kc ks := by
  obtain ⟨p, e, s, m, args, below, meth, c, Q, ⟨hx, hb, hml, ho, hts, hK, hnm⟩, rfl⟩ := hC
  exact fun lr H locs hl hH hS => lv_l2i hx hb hd rfl (kk lr H locs hl hH hS)
theorem G_i2b (pc : Nat) (hC : Cx l D B own cc nL mn R g) {x : Int32} (hd : decode cc pc = .ok (.i2b, 1)) (kk : g (pc + 1) ls (vi x.toInt8.toInt32 :: st) I L N kc ks) : g pc ls (vi x :: st) I L N kc ks := by
  obtain ⟨p, e, s, m, args, below, meth, c, Q, ⟨hx, hb, hml, ho, hts, hK, hnm⟩, rfl⟩ := hC
  exact fun lr H locs hl hH hS => lv_i2b hx hb hd rfl (kk lr H locs hl hH hS)
theorem G_i2s (pc : Nat) (hC : Cx l D B own cc nL mn R g) {x : Int32} (hd : decode cc pc = .ok (.i2s, 1)) (kk : g (pc + 1) ls (vi x.toInt16.toInt32 :: st) I L N kc ks) : g pc ls (vi x :: st) I L N kc ks := by
  obtain ⟨p, e, s, m, args, below, meth, c, Q, ⟨hx, hb, hml, ho, hts, hK, hnm⟩, rfl⟩ := hC
  exact fun lr H locs hl hH hS => lv_i2s hx hb hd rfl (kk lr H locs hl hH hS)
theorem G_lshl (pc : Nat) (hC : Cx l D B own cc nL mn R g) {x : Int64} {y : Int32} (hd : decode cc pc = .ok (.lshl, 1)) (kk : g (pc + 1) ls (vl (x <<< (y.toInt64 &&& 63)) :: st) I L N kc ks) : g pc ls (vi y :: vl x :: st) I L N kc ks := by
  obtain ⟨p, e, s, m, args, below, meth, c, Q, ⟨hx, hb, hml, ho, hts, hK, hnm⟩, rfl⟩ := hC
  exact fun lr H locs hl hH hS => lv_lshl hx hb hd rfl (kk lr H locs hl hH hS)
theorem G_lcmp (pc : Nat) (hC : Cx l D B own cc nL mn R g) {x y : Int64} (hd : decode cc pc = .ok (.lcmp, 1)) (kk : g (pc + 1) ls (vi (lg_cmp x y) :: st) I L N kc ks) : g pc ls (vl y :: vl x :: st) I L N kc ks := by
  obtain ⟨p, e, s, m, args, below, meth, c, Q, ⟨hx, hb, hml, ho, hts, hK, hnm⟩, rfl⟩ := hC
  exact fun lr H locs hl hH hS => W.lcmp hx hb hd (kk lr H locs hl hH hS)
theorem G_l2f (pc : Nat) (hC : Cx l D B own cc nL mn R g) {x : Int64} (hd : decode cc pc = .ok (.l2f, 1)) (kk : g (pc + 1) ls (vf (FP.l2f x) :: st) I L N kc ks) : g pc ls (vl x :: st) I L N kc ks := by
  obtain ⟨p, e, s, m, args, below, meth, c, Q, ⟨hx, hb, hml, ho, hts, hK, hnm⟩, rfl⟩ := hC
  exact fun lr H locs hl hH hS => lv_l2f hx hb hd (kk lr H locs hl hH hS)
theorem G_l2d (pc : Nat) (hC : Cx l D B own cc nL mn R g) {x : Int64} (hd : decode cc pc = .ok (.l2d, 1)) (kk : g (pc + 1) ls (vd (FP.l2d x) :: st) I L N kc ks) : g pc ls (vl x :: st) I L N kc ks := by
  obtain ⟨p, e, s, m, args, below, meth, c, Q, ⟨hx, hb, hml, ho, hts, hK, hnm⟩, rfl⟩ := hC
  exact fun lr H locs hl hH hS => lv_l2d hx hb hd (kk lr H locs hl hH hS)
theorem G_f2l (pc : Nat) (hC : Cx l D B own cc nL mn R g) {x : UInt32} (hd : decode cc pc = .ok (.f2l, 1)) (kk : g (pc + 1) ls (vl (FP.f2l x) :: st) I L N kc ks) : g pc ls (vf x :: st) I L N kc ks := by
  obtain ⟨p, e, s, m, args, below, meth, c, Q, ⟨hx, hb, hml, ho, hts, hK, hnm⟩, rfl⟩ := hC
  exact fun lr H locs hl hH hS => lv_f2l hx hb hd (kk lr H locs hl hH hS)
theorem G_d2l (pc : Nat) (hC : Cx l D B own cc nL mn R g) {x : UInt64} (hd : decode cc pc = .ok (.d2l, 1)) (kk : g (pc + 1) ls (vl (FP.d2l x) :: st) I L N kc ks) : g pc ls (vd x :: st) I L N kc ks := by
  obtain ⟨p, e, s, m, args, below, meth, c, Q, ⟨hx, hb, hml, ho, hts, hK, hnm⟩, rfl⟩ := hC
  exact fun lr H locs hl hH hS => lv_d2l hx hb hd (kk lr H locs hl hH hS)
theorem G_fmul (pc : Nat) (hC : Cx l D B own cc nL mn R g) {x y : UInt32} (hne : vf_n32 (FP.fmul x y)) (hd : decode cc pc = .ok (.fmul, 1)) (kk : g (pc + 1) ls (vf (FP.fmul x y) :: st) I L N kc ks) : g pc ls (vf y :: vf x :: st) I L N kc ks := by
  obtain ⟨p, e, s, m, args, below, meth, c, Q, ⟨hx, hb, hml, ho, hts, hK, hnm⟩, rfl⟩ := hC
  exact fun lr H locs hl hH hS => lv_fmul hx hb hd hne (kk lr H locs hl hH hS)
theorem G_fdiv (pc : Nat) (hC : Cx l D B own cc nL mn R g) {x y : UInt32} (hne : vf_n32 (FP.fdiv x y)) (hd : decode cc pc = .ok (.fdiv, 1)) (kk : g (pc + 1) ls (vf (FP.fdiv x y) :: st) I L N kc ks) : g pc ls (vf y :: vf x :: st) I L N kc ks := by
  obtain ⟨p, e, s, m, args, below, meth, c, Q, ⟨hx, hb, hml, ho, hts, hK, hnm⟩, rfl⟩ := hC
  exact fun lr H locs hl hH hS => lv_fdiv hx hb hd hne (kk lr H locs hl hH hS)
theorem G_dmul (pc : Nat) (hC : Cx l D B own cc nL mn R g) {x y : UInt64} (hne : vf_n64 (FP.dmul x y)) (hd : decode cc pc = .ok (.dmul, 1)) (kk : g (pc + 1) ls (vd (FP.dmul x y) :: st) I L N kc ks) : g pc ls (vd y :: vd x :: st) I L N kc ks := by
  obtain ⟨p, e, s, m, args, below, meth, c, Q, ⟨hx, hb, hml, ho, hts, hK, hnm⟩, rfl⟩ := hC
  exact fun lr H locs hl hH hS => lv_dmul hx hb hd hne (kk lr H locs hl hH hS)
theorem G_ddiv (pc : Nat) (hC : Cx l D B own cc nL mn R g) {x y : UInt64} (hne : vf_n64 (FP.ddiv x y)) (hd : decode cc pc = .ok (.ddiv, 1)) (kk : g (pc + 1) ls (vd (FP.ddiv x y) :: st) I L N kc ks) : g pc ls (vd y :: vd x :: st) I L N kc ks := by
  obtain ⟨p, e, s, m, args, below, meth, c, Q, ⟨hx, hb, hml, ho, hts, hK, hnm⟩, rfl⟩ := hC
  exact fun lr H locs hl hH hS => lv_ddiv hx hb hd hne (kk lr H locs hl hH hS)
theorem G_ldcf (pc : Nat) (hC : Cx l D B own cc nL mn R g) {i : Nat} {v : UInt32} (hw : Cond.constantFloat own i v ∈ lw_gd) (hd : decode cc pc = .ok (.ldc i, 2)) (kk : g (pc + 2) ls (vf v :: st) I L N kc ks) : g pc ls (st) I L N kc ks := by
  obtain ⟨p, e, s, m, args, below, meth, c, Q, ⟨hx, hb, hml, ho, hts, hK, hnm⟩, rfl⟩ := hC
  exact fun lr H locs hl hH hS => lv_ldcf hx hb ho (hts _ hw) hd (kk lr H locs hl hH hS)
theorem G_ldc2d (pc : Nat) (hC : Cx l D B own cc nL mn R g) {i : Nat} {v : UInt64} (hw : Cond.constantDouble own i v ∈ lw_gd) (hd : decode cc pc = .ok (.ldc2_w i, 3)) (kk : g (pc + 3) ls (vd v :: st) I L N kc ks) : g pc ls (st) I L N kc ks := by
  obtain ⟨p, e, s, m, args, below, meth, c, Q, ⟨hx, hb, hml, ho, hts, hK, hnm⟩, rfl⟩ := hC
  exact fun lr H locs hl hH hS => lv_ldc2d hx hb ho (hts _ hw) hd (kk lr H locs hl hH hS)
theorem G_dup (pc : Nat) (hC : Cx l D B own cc nL mn R g) {v : MV} (h1 : mcat v = 1) (hd : decode cc pc = .ok (.dup, 1)) (kk : g (pc + 1) ls (v :: v :: st) I L N kc ks) : g pc ls (v :: st) I L N kc ks := by
  obtain ⟨p, e, s, m, args, below, meth, c, Q, ⟨hx, hb, hml, ho, hts, hK, hnm⟩, rfl⟩ := hC
  exact fun lr H locs hl hH hS => lv_dup hx hb hd (by rw [mcat_ok]; exact h1) (kk lr H locs hl hH hS)
theorem G_pop (pc : Nat) (hC : Cx l D B own cc nL mn R g) {v : MV} (h1 : mcat v = 1) (hd : decode cc pc = .ok (.pop, 1)) (kk : g (pc + 1) ls (st) I L N kc ks) : g pc ls (v :: st) I L N kc ks := by
  obtain ⟨p, e, s, m, args, below, meth, c, Q, ⟨hx, hb, hml, ho, hts, hK, hnm⟩, rfl⟩ := hC
  exact fun lr H locs hl hH hS => lv_pop hx hb hd (by rw [mcat_ok]; exact h1) (kk lr H locs hl hH hS)
theorem G_dup_x1 (pc : Nat) (hC : Cx l D B own cc nL mn R g) {v w : MV} (h1 : mcat v = 1) (h2 : mcat w = 1) (hd : decode cc pc = .ok (.dup_x1, 1)) (kk : g (pc + 1) ls (v :: w :: v :: st) I L N kc ks) : g pc ls (v :: w :: st) I L N kc ks := by
  obtain ⟨p, e, s, m, args, below, meth, c, Q, ⟨hx, hb, hml, ho, hts, hK, hnm⟩, rfl⟩ := hC
  exact fun lr H locs hl hH hS => lv_dup_x1 hx hb hd (by rw [mcat_ok]; exact h1) (by rw [mcat_ok]; exact h2) (kk lr H locs hl hH hS)
theorem G_dup2 (pc : Nat) (hC : Cx l D B own cc nL mn R g) {v w : MV} (h1 : mcat v = 1) (h2 : mcat w = 1) (hd : decode cc pc = .ok (.dup2, 1)) (kk : g (pc + 1) ls (v :: w :: v :: w :: st) I L N kc ks) : g pc ls (v :: w :: st) I L N kc ks := by
  obtain ⟨p, e, s, m, args, below, meth, c, Q, ⟨hx, hb, hml, ho, hts, hK, hnm⟩, rfl⟩ := hC
  exact fun lr H locs hl hH hS => lv_dup2_11 hx hb hd (by rw [mcat_ok]; exact h1) (by rw [mcat_ok]; exact h2) (kk lr H locs hl hH hS)
theorem G_dup2L (pc : Nat) (hC : Cx l D B own cc nL mn R g) {x : Int64} (hd : decode cc pc = .ok (.dup2, 1)) (kk : g (pc + 1) ls (vl x :: vl x :: st) I L N kc ks) : g pc ls (vl x :: st) I L N kc ks := by
  obtain ⟨p, e, s, m, args, below, meth, c, Q, ⟨hx, hb, hml, ho, hts, hK, hnm⟩, rfl⟩ := hC
  exact fun lr H locs hl hH hS => lv_dup2_2 hx hb hd rfl (kk lr H locs hl hH hS)
theorem G_if_eq (pc tgt : Nat) (hC : Cx l D B own cc nL mn R g) {x : Int32} {off : Int} (hd : decode cc pc = .ok (.ifCond .eq off, 3)) (ht : (pc : Int) + off = (tgt : Int)) (kt : x = 0 → g tgt ls st I L N kc ks) (kf : ¬ x = 0 → g (pc + 3) ls st I L N kc ks) : g pc ls (vi x :: st) I L N kc ks := by
  obtain ⟨p, e, s, m, args, below, meth, c, Q, ⟨hx, hb, hml, ho, hts, hK, hnm⟩, rfl⟩ := hC
  exact fun lr H locs hl hH hS => lv_if_eq hx hb hd ht (fun h => kt h lr H locs hl hH hS) (fun h => kf h lr H locs hl hH hS)
theorem G_icmp_eq (pc tgt : Nat) (hC : Cx l D B own cc nL mn R g) {x y : Int32} {off : Int} (hd : decode cc pc = .ok (.if_icmp .eq off, 3)) (ht : (pc : Int) + off = (tgt : Int)) (kt : x = y → g tgt ls st I L N kc ks) (kf : ¬ x = y → g (pc + 3) ls st I L N kc ks) : g pc ls (vi y :: vi x :: st) I L N kc ks := by
  obtain ⟨p, e, s, m, args, below, meth, c, Q, ⟨hx, hb, hml, ho, hts, hK, hnm⟩, rfl⟩ := hC
  exact fun lr H locs hl hH hS => lv_icmp_eq hx hb hd ht (fun h => kt h lr H locs hl hH hS) (fun h => kf h lr H locs hl hH hS)
theorem G_if_ne (pc tgt : Nat) (hC : Cx l D B own cc nL mn R g) {x : Int32} {off : Int} (hd : decode cc pc = .ok (.ifCond .ne off, 3)) (ht : (pc : Int) + off = (tgt : Int)) (kt : ¬ x = 0 → g tgt ls st I L N kc ks) (kf : x = 0 → g (pc + 3) ls st I L N kc ks) : g pc ls (vi x :: st) I L N kc ks := by
  obtain ⟨p, e, s, m, args, below, meth, c, Q, ⟨hx, hb, hml, ho, hts, hK, hnm⟩, rfl⟩ := hC
  exact fun lr H locs hl hH hS => lv_if_ne hx hb hd ht (fun h => kt h lr H locs hl hH hS) (fun h => kf h lr H locs hl hH hS)
theorem G_icmp_ne (pc tgt : Nat) (hC : Cx l D B own cc nL mn R g) {x y : Int32} {off : Int} (hd : decode cc pc = .ok (.if_icmp .ne off, 3)) (ht : (pc : Int) + off = (tgt : Int)) (kt : ¬ x = y → g tgt ls st I L N kc ks) (kf : x = y → g (pc + 3) ls st I L N kc ks) : g pc ls (vi y :: vi x :: st) I L N kc ks := by
  obtain ⟨p, e, s, m, args, below, meth, c, Q, ⟨hx, hb, hml, ho, hts, hK, hnm⟩, rfl⟩ := hC
  exact fun lr H locs hl hH hS => lv_icmp_ne hx hb hd ht (fun h => kt h lr H locs hl hH hS) (fun h => kf h lr H locs hl hH hS)
theorem G_if_lt (pc tgt : Nat) (hC : Cx l D B own cc nL mn R g) {x : Int32} {off : Int} (hd : decode cc pc = .ok (.ifCond .lt off, 3)) (ht : (pc : Int) + off = (tgt : Int)) (kt : x < 0 → g tgt ls st I L N kc ks) (kf : ¬ x < 0 → g (pc + 3) ls st I L N kc ks) : g pc ls (vi x :: st) I L N kc ks := by
  obtain ⟨p, e, s, m, args, below, meth, c, Q, ⟨hx, hb, hml, ho, hts, hK, hnm⟩, rfl⟩ := hC
  exact fun lr H locs hl hH hS => lv_if_lt hx hb hd ht (fun h => kt h lr H locs hl hH hS) (fun h => kf h lr H locs hl hH hS)
theorem G_icmp_lt (pc tgt : Nat) (hC : Cx l D B own cc nL mn R g) {x y : Int32} {off : Int} (hd : decode cc pc = .ok (.if_icmp .lt off, 3)) (ht : (pc : Int) + off = (tgt : Int)) (kt : x < y → g tgt ls st I L N kc ks) (kf : ¬ x < y → g (pc + 3) ls st I L N kc ks) : g pc ls (vi y :: vi x :: st) I L N kc ks := by
  obtain ⟨p, e, s, m, args, below, meth, c, Q, ⟨hx, hb, hml, ho, hts, hK, hnm⟩, rfl⟩ := hC
  exact fun lr H locs hl hH hS => lv_icmp_lt hx hb hd ht (fun h => kt h lr H locs hl hH hS) (fun h => kf h lr H locs hl hH hS)
theorem G_if_ge (pc tgt : Nat) (hC : Cx l D B own cc nL mn R g) {x : Int32} {off : Int} (hd : decode cc pc = .ok (.ifCond .ge off, 3)) (ht : (pc : Int) + off = (tgt : Int)) (kt : 0 ≤ x → g tgt ls st I L N kc ks) (kf : ¬ 0 ≤ x → g (pc + 3) ls st I L N kc ks) : g pc ls (vi x :: st) I L N kc ks := by
  obtain ⟨p, e, s, m, args, below, meth, c, Q, ⟨hx, hb, hml, ho, hts, hK, hnm⟩, rfl⟩ := hC
  exact fun lr H locs hl hH hS => lv_if_ge hx hb hd ht (fun h => kt h lr H locs hl hH hS) (fun h => kf h lr H locs hl hH hS)
theorem G_icmp_ge (pc tgt : Nat) (hC : Cx l D B own cc nL mn R g) {x y : Int32} {off : Int} (hd : decode cc pc = .ok (.if_icmp .ge off, 3)) (ht : (pc : Int) + off = (tgt : Int)) (kt : y ≤ x → g tgt ls st I L N kc ks) (kf : ¬ y ≤ x → g (pc + 3) ls st I L N kc ks) : g pc ls (vi y :: vi x :: st) I L N kc ks := by
  obtain ⟨p, e, s, m, args, below, meth, c, Q, ⟨hx, hb, hml, ho, hts, hK, hnm⟩, rfl⟩ := hC
  exact fun lr H locs hl hH hS => lv_icmp_ge hx hb hd ht (fun h => kt h lr H locs hl hH hS) (fun h => kf h lr H locs hl hH hS)
theorem G_if_gt (pc tgt : Nat) (hC : Cx l D B own cc nL mn R g) {x : Int32} {off : Int} (hd : decode cc pc = .ok (.ifCond .gt off, 3)) (ht : (pc : Int) + off = (tgt : Int)) (kt : 0 < x → g tgt ls st I L N kc ks) (kf : ¬ 0 < x → g (pc + 3) ls st I L N kc ks) : g pc ls (vi x :: st) I L N kc ks := by
  obtain ⟨p, e, s, m, args, below, meth, c, Q, ⟨hx, hb, hml, ho, hts, hK, hnm⟩, rfl⟩ := hC
  exact fun lr H locs hl hH hS => lv_if_gt hx hb hd ht (fun h => kt h lr H locs hl hH hS) (fun h => kf h lr H locs hl hH hS)
theorem G_icmp_gt (pc tgt : Nat) (hC : Cx l D B own cc nL mn R g) {x y : Int32} {off : Int} (hd : decode cc pc = .ok (.if_icmp .gt off, 3)) (ht : (pc : Int) + off = (tgt : Int)) (kt : y < x → g tgt ls st I L N kc ks) (kf : ¬ y < x → g (pc + 3) ls st I L N kc ks) : g pc ls (vi y :: vi x :: st) I L N kc ks := by
  obtain ⟨p, e, s, m, args, below, meth, c, Q, ⟨hx, hb, hml, ho, hts, hK, hnm⟩, rfl⟩ := hC
  exact fun lr H locs hl hH hS => lv_icmp_gt hx hb hd ht (fun h => kt h lr H locs hl hH hS) (fun h => kf h lr H locs hl hH hS)
theorem G_if_le (pc tgt : Nat) (hC : Cx l D B own cc nL mn R g) {x : Int32} {off : Int} (hd : decode cc pc = .ok (.ifCond .le off, 3)) (ht : (pc : Int) + off = (tgt : Int)) (kt : x ≤ 0 → g tgt ls st I L N kc ks) (kf : ¬ x ≤ 0 → g (pc + 3) ls st I L N kc ks) : g pc ls (vi x :: st) I L N kc ks := by
  obtain ⟨p, e, s, m, args, below, meth, c, Q, ⟨hx, hb, hml, ho, hts, hK, hnm⟩, rfl⟩ := hC
  exact fun lr H locs hl hH hS => lv_if_le hx hb hd ht (fun h => kt h lr H locs hl hH hS) (fun h => kf h lr H locs hl hH hS)
theorem G_icmp_le (pc tgt : Nat) (hC : Cx l D B own cc nL mn R g) {x y : Int32} {off : Int} (hd : decode cc pc = .ok (.if_icmp .le off, 3)) (ht : (pc : Int) + off = (tgt : Int)) (kt : x ≤ y → g tgt ls st I L N kc ks) (kf : ¬ x ≤ y → g (pc + 3) ls st I L N kc ks) : g pc ls (vi y :: vi x :: st) I L N kc ks := by
  obtain ⟨p, e, s, m, args, below, meth, c, Q, ⟨hx, hb, hml, ho, hts, hK, hnm⟩, rfl⟩ := hC
  exact fun lr H locs hl hH hS => lv_icmp_le hx hb hd ht (fun h => kt h lr H locs hl hH hS) (fun h => kf h lr H locs hl hH hS)
theorem G_goto (pc tgt : Nat) (hC : Cx l D B own cc nL mn R g) {off : Int} (hd : decode cc pc = .ok (.goto off, 3)) (ht : (pc : Int) + off = (tgt : Int)) (kk : g tgt ls st I L N kc ks) : g pc ls st I L N kc ks := by
  obtain ⟨p, e, s, m, args, below, meth, c, Q, ⟨hx, hb, hml, ho, hts, hK, hnm⟩, rfl⟩ := hC
  exact fun lr H locs hl hH hS => lv_goto hx hb hd ht (kk lr H locs hl hH hS)
theorem G_ifnull (pc tgt : Nat) (hC : Cx l D B own cc nL mn R g) {r : Option Nat} {off : Int} (hd : decode cc pc = .ok (.ifnull off, 3)) (ht : (pc : Int) + off = (tgt : Int)) (kn : r = none → g tgt ls st I L N kc ks) (ks1 : ∀ a, r = some a → g (pc + 3) ls st I L N kc ks) : g pc ls (vr r :: st) I L N kc ks := by
  obtain ⟨p, e, s, m, args, below, meth, c, Q, ⟨hx, hb, hml, ho, hts, hK, hnm⟩, rfl⟩ := hC
  intro lr H locs hl hH hS
  cases r with
  | none => exact lv_ifnullN hx hb hd ht (kn rfl lr H locs hl hH hS)
  | some a => exact lv_ifnull hx hb hd (ks1 a rfl lr H locs hl hH hS)
theorem G_ifnonnull (pc tgt : Nat) (hC : Cx l D B own cc nL mn R g) {r : Option Nat} {off : Int} (hd : decode cc pc = .ok (.ifnonnull off, 3)) (ht : (pc : Int) + off = (tgt : Int)) (kn : r = none → g (pc + 3) ls st I L N kc ks) (ks1 : ∀ a, r = some a → g tgt ls st I L N kc ks) : g pc ls (vr r :: st) I L N kc ks := by
  obtain ⟨p, e, s, m, args, below, meth, c, Q, ⟨hx, hb, hml, ho, hts, hK, hnm⟩, rfl⟩ := hC
  intro lr H locs hl hH hS
  cases r with
  | none => exact lv_ifnonnullN hx hb hd (kn rfl lr H locs hl hH hS)
  | some a => exact lv_ifnonnull hx hb hd ht (ks1 a rfl lr H locs hl hH hS)
theorem G_tableIn (pc : Nat) (off : Int) (tgt : Nat) (hC : Cx l D B own cc nL mn R g) {dflt lo hi : Int} {offs : Array Int} {len : Nat} {x : Int32} (hd : decode cc pc = .ok (.tableswitch dflt lo hi offs, len)) (h1 : ¬ x.toInt < lo) (h2 : ¬ hi < x.toInt) (ho : offs[(x.toInt - lo).toNat]? = some off) (ht : (pc : Int) + off = (tgt : Int)) (kk : g tgt ls st I L N kc ks) : g pc ls (vi x :: st) I L N kc ks := by
  obtain ⟨p, e, s, m, args, below, meth, c, Q, ⟨hx, hb, hml, ho2, hts, hK, hnm⟩, rfl⟩ := hC
  exact fun lr H locs hl hH hS => lv_tableIn hx hb hd h1 h2 ho ht (kk lr H locs hl hH hS)
theorem G_tableOut (pc tgt : Nat) (hC : Cx l D B own cc nL mn R g) {dflt lo hi : Int} {offs : Array Int} {len : Nat} {x : Int32} (hd : decode cc pc = .ok (.tableswitch dflt lo hi offs, len)) (h : x.toInt < lo ∨ hi < x.toInt) (ht : (pc : Int) + dflt = (tgt : Int)) (kk : g tgt ls st I L N kc ks) : g pc ls (vi x :: st) I L N kc ks := by
  obtain ⟨p, e, s, m, args, below, meth, c, Q, ⟨hx, hb, hml, ho, hts, hK, hnm⟩, rfl⟩ := hC
  exact fun lr H locs hl hH hS => lv_tableOut hx hb hd h ht (kk lr H locs hl hH hS)
/-- a store at i: what lay at i, and a long that began just ahead of it, are gone -/
def lclr (ls : List (Option MV)) : Nat → List (Option MV)
  | 0 => ls
  | j + 1 => match ls[j]? with
    | some (some v) => if mcat v = 2 then ls.set j none else ls
    | _ => ls
def lset1 (ls : List (Option MV)) (i : Nat) (v : MV) : List (Option MV) := (lclr ls i).set i (some v)
def lset2 (ls : List (Option MV)) (i : Nat) (v : MV) : List (Option MV) := ((lclr ls i).set i (some v)).set (i + 1) none
def lasc (ls : List (Option MV)) : List (Nat × Value) := (List.range ls.length).filterMap (fun i => match ls[i]? with
  | some (some v) => some (i, mv v)
  | _ => none)
theorem lasc_mem {ls : List (Option MV)} {i : Nat} {v : MV} (h : ls[i]? = some (some v)) : (i, mv v) ∈ lasc ls := by
  unfold lasc
  refine List.mem_filterMap.mpr ⟨i, List.mem_range.mpr (List.getElem?_eq_some_iff.mp h).1, ?_⟩
  rw [h]
theorem LocR.has {lr : Array Slot} {nL : Nat} {ls : List (Option MV)} (h : LocR lr nL ls) : lv_has lr nL (lasc ls) := by
  refine ⟨h.1, h.2.1, fun q hq => ?_⟩
  unfold lasc at hq
  obtain ⟨i, -, hi⟩ := List.mem_filterMap.mp hq
  cases hv : ls[i]? with
  | none => rw [hv] at hi; cases hi
  | some o =>
    cases o with
    | none => rw [hv] at hi; cases hi
    | some v => rw [hv] at hi; cases hi; exact h.2.2 i v hv
theorem lclr_ne {ls : List (Option MV)} {i j : Nat} {w : MV} (h : (lclr ls i)[j]? = some (some w)) : ls[j]? = some (some w) ∧ (j + 1 = i → mcat w ≠ 2) := by
  cases i with
  | zero => exact ⟨h, fun q => by omega⟩
  | succ k =>
    cases hv : ls[k]? with
    | none =>
      have e : lclr ls (k + 1) = ls := by simp [lclr, hv]
      rw [e] at h
      refine ⟨h, fun q => ?_⟩
      have : j = k := by omega
      subst this
      rw [hv] at h
      cases h
    | some o =>
      cases o with
      | none =>
        have e : lclr ls (k + 1) = ls := by simp [lclr, hv]
        rw [e] at h
        refine ⟨h, fun q => ?_⟩
        have : j = k := by omega
        subst this
        rw [hv] at h
        cases h
      | some v =>
        by_cases hc : mcat v = 2
        · have e : lclr ls (k + 1) = ls.set k none := by simp [lclr, hv, hc]
          rw [e] at h
          by_cases hjk : j = k
          · subst hjk
            rw [List.getElem?_set_self (List.getElem?_eq_some_iff.mp hv).1] at h
            cases h
          · rw [List.getElem?_set_ne (fun q => hjk q.symm)] at h
            exact ⟨h, fun q => absurd (by omega) hjk⟩
        · have e : lclr ls (k + 1) = ls := by simp [lclr, hv, hc]
          rw [e] at h
          refine ⟨h, fun q => ?_⟩
          have : j = k := by omega
          subst this
          rw [hv] at h
          cases h
          exact hc
theorem LocR.st1 {lr : Array Slot} {nL i : Nat} {ls : List (Option MV)} {v : MV} (h : lv_has lr nL ((i, mv v) :: (lasc ls).filter (fun q => !(q.1 == i) && !(q.1 + 1 == i && q.2.category == 2)))) : LocR lr nL (lset1 ls i v) := by
  refine ⟨h.1, h.2.1, fun j w hj => ?_⟩
  unfold lset1 at hj
  by_cases hji : j = i
  · subst hji
    have hlt : j < (lclr ls j).length := by
      have := (List.getElem?_eq_some_iff.mp hj).1
      simpa using this
    rw [List.getElem?_set_self hlt] at hj
    cases hj
    exact h.2.2 _ List.mem_cons_self
  · rw [List.getElem?_set_ne (fun q => hji q.symm)] at hj
    obtain ⟨h1, h2⟩ := lclr_ne hj
    refine h.2.2 (j, mv w) (List.mem_cons_of_mem _ (List.mem_filter.mpr ⟨lasc_mem h1, ?_⟩))
    simp only [mcat_ok, Bool.and_eq_true, Bool.not_eq_true', beq_eq_false_iff_ne, ne_eq, Bool.and_eq_false_iff]
    refine ⟨hji, ?_⟩
    by_cases q : j + 1 = i
    · exact Or.inr (h2 q)
    · exact Or.inl q
theorem LocR.st2 {lr : Array Slot} {nL i : Nat} {ls : List (Option MV)} {v : MV} (h : lv_has lr nL ((i, mv v) :: (lasc ls).filter (fun q => !(q.1 == i) && (!(q.1 == i + 1) && !(q.1 + 1 == i && q.2.category == 2))))) : LocR lr nL (lset2 ls i v) := by
  refine ⟨h.1, h.2.1, fun j w hj => ?_⟩
  unfold lset2 at hj
  by_cases hj1 : j = i + 1
  · subst hj1
    have hlt : i + 1 < ((lclr ls i).set i (some v)).length := by
      have := (List.getElem?_eq_some_iff.mp hj).1
      simpa using this
    rw [List.getElem?_set_self hlt] at hj
    cases hj
  · rw [List.getElem?_set_ne (fun q => hj1 q.symm)] at hj
    by_cases hji : j = i
    · subst hji
      have hlt : j < (lclr ls j).length := by
        have := (List.getElem?_eq_some_iff.mp hj).1
        simpa using this
      rw [List.getElem?_set_self hlt] at hj
      cases hj
      exact h.2.2 _ List.mem_cons_self
    · rw [List.getElem?_set_ne (fun q => hji q.symm)] at hj
      obtain ⟨h1, h2⟩ := lclr_ne hj
      refine h.2.2 (j, mv w) (List.mem_cons_of_mem _ (List.mem_filter.mpr ⟨lasc_mem h1, ?_⟩))
      simp only [mcat_ok, Bool.and_eq_true, Bool.not_eq_true', beq_eq_false_iff_ne, ne_eq, Bool.and_eq_false_iff]
      refine ⟨hji, hj1, ?_⟩
      by_cases q : j + 1 = i
      · exact Or.inr (h2 q)
      · exact Or.inl q
theorem G_istore_n (pc : Nat) (hC : Cx l D B own cc nL mn R g) {k : Fin 4} (i : Nat) (hi : (k : Nat) = i) {x : Int32} (hn : i < nL) (hl' : lset1 ls i (vi x) = ls') (hd : decode cc pc = .ok (.istore_n k, 1)) (kk : g (pc + 1) ls' st I L N kc ks) : g pc ls (vi x :: st) I L N kc ks := by
  obtain ⟨p, e, s, m, args, below, meth, c, Q, ⟨hx, hb, hml, ho, hts, hK, hnm⟩, rfl⟩ := hC
  exact fun lr H locs hl hH hS => lv_istore_n hx hb hd hi hl.has hn rfl (fun lr' h' => kk lr' H locs (hl' ▸ LocR.st1 h') hH hS)
theorem G_istore (pc : Nat) (hC : Cx l D B own cc nL mn R g) {i : Nat} {x : Int32} (hn : i < nL) (hl' : lset1 ls i (vi x) = ls') (hd : decode cc pc = .ok (.istore i, 2)) (kk : g (pc + 2) ls' st I L N kc ks) : g pc ls (vi x :: st) I L N kc ks := by
  obtain ⟨p, e, s, m, args, below, meth, c, Q, ⟨hx, hb, hml, ho, hts, hK, hnm⟩, rfl⟩ := hC
  exact fun lr H locs hl hH hS => lv_istore hx hb hd hl.has hn rfl (fun lr' h' => kk lr' H locs (hl' ▸ LocR.st1 h') hH hS)
theorem G_lstore_n (pc : Nat) (hC : Cx l D B own cc nL mn R g) {k : Fin 4} (i : Nat) (hi : (k : Nat) = i) {x : Int64} (hn : i + 1 < nL) (hl' : lset2 ls i (vl x) = ls') (hd : decode cc pc = .ok (.lstore_n k, 1)) (kk : g (pc + 1) ls' st I L N kc ks) : g pc ls (vl x :: st) I L N kc ks := by
  obtain ⟨p, e, s, m, args, below, meth, c, Q, ⟨hx, hb, hml, ho, hts, hK, hnm⟩, rfl⟩ := hC
  exact fun lr H locs hl hH hS => lv_lstore_n hx hb hd hi hl.has hn rfl (fun lr' h' => kk lr' H locs (hl' ▸ LocR.st2 h') hH hS)
theorem G_lstore (pc : Nat) (hC : Cx l D B own cc nL mn R g) {i : Nat} {x : Int64} (hn : i + 1 < nL) (hl' : lset2 ls i (vl x) = ls') (hd : decode cc pc = .ok (.lstore i, 2)) (kk : g (pc + 2) ls' st I L N kc ks) : g pc ls (vl x :: st) I L N kc ks := by
  obtain ⟨p, e, s, m, args, below, meth, c, Q, ⟨hx, hb, hml, ho, hts, hK, hnm⟩, rfl⟩ := hC
  exact fun lr H locs hl hH hS => lv_lstore hx hb hd hl.has hn rfl (fun lr' h' => kk lr' H locs (hl' ▸ LocR.st2 h') hH hS)
theorem G_astore_n (pc : Nat) (hC : Cx l D B own cc nL mn R g) {k : Fin 4} (i : Nat) (hi : (k : Nat) = i) {r : Option Nat} (hn : i < nL) (hl' : lset1 ls i (vr r) = ls') (hd : decode cc pc = .ok (.astore_n k, 1)) (kk : g (pc + 1) ls' st I L N kc ks) : g pc ls (vr r :: st) I L N kc ks := by
  obtain ⟨p, e, s, m, args, below, meth, c, Q, ⟨hx, hb, hml, ho, hts, hK, hnm⟩, rfl⟩ := hC
  intro lr H locs hl hH hS
  cases r with
  | none => exact lv_astore_nN hx hb hd hi hl.has hn rfl (fun lr' h' => kk lr' H locs (hl' ▸ LocR.st1 (v := vr none) h') hH hS)
  | some a => exact lv_astore_n hx hb hd hi hl.has hn rfl (fun lr' h' => kk lr' H locs (hl' ▸ LocR.st1 (v := vr (some a)) h') hH hS)
theorem G_astore (pc : Nat) (hC : Cx l D B own cc nL mn R g) {i : Nat} {r : Option Nat} (hn : i < nL) (hl' : lset1 ls i (vr r) = ls') (hd : decode cc pc = .ok (.astore i, 2)) (kk : g (pc + 2) ls' st I L N kc ks) : g pc ls (vr r :: st) I L N kc ks := by
  obtain ⟨p, e, s, m, args, below, meth, c, Q, ⟨hx, hb, hml, ho, hts, hK, hnm⟩, rfl⟩ := hC
  intro lr H locs hl hH hS
  cases r with
  | none => exact lv_astoreN hx hb hd hl.has hn rfl (fun lr' h' => kk lr' H locs (hl' ▸ LocR.st1 (v := vr none) h') hH hS)
  | some a => exact lv_astore hx hb hd hl.has hn rfl (fun lr' h' => kk lr' H locs (hl' ▸ LocR.st1 (v := vr (some a)) h') hH hS)
theorem G_iinc (pc : Nat) (hC : Cx l D B own cc nL mn R g) {i : Nat} {n : Int} {x : Int32} (v : Int32) (hv : x + Int32.ofInt n = v) (hn : i < nL) (hl0 : ls[i]? = some (some (vi x))) (hl' : lset1 ls i (vi v) = ls') (hd : decode cc pc = .ok (.iinc i n, 3)) (kk : g (pc + 3) ls' st I L N kc ks) : g pc ls st I L N kc ks := by
  obtain ⟨p, e, s, m, args, below, meth, c, Q, ⟨hx, hb, hml, ho, hts, hK, hnm⟩, rfl⟩ := hC
  intro lr H locs hl hH hS
  obtain ⟨k, hk⟩ := List.mem_iff_getElem?.mp (lasc_mem hl0)
  exact lv_iinc hx hb hd hl.has hk hv hn rfl (fun lr' h' => kk lr' H locs (hl' ▸ LocR.st1 (v := vi v) h') hH hS)
end SIL
end
section
/-! ===== the heap's rules of the slim walk ===== -/
theorem cls_in0 : ∀ w ∈ u_ws RX0 TX0 19, w ∈ lw_gd := by decide +kernel
theorem cls_in1 : ∀ w ∈ u_ws RX1 TX1 2, w ∈ lw_gd := by decide +kernel
theorem cls_in2 : ∀ w ∈ u_ws RX2 TX2 3, w ∈ lw_gd := by decide +kernel
theorem cls_in3 : ∀ w ∈ u_ws RX3 TX3 2, w ∈ lw_gd := by decide +kernel
theorem cls_in4 : ∀ w ∈ u_ws RX4 TX4 8, w ∈ lw_gd := by decide +kernel
theorem cls_in5 : ∀ w ∈ u_ws RX5 TX5 5, w ∈ lw_gd := by decide +kernel
theorem cls_in6 : ∀ w ∈ u_ws RX6 TX6 4, w ∈ lw_gd := by decide +kernel
theorem cls_in7 : ∀ w ∈ u_ws RX7 TX7 7, w ∈ lw_gd := by decide +kernel
theorem cls_in9 : ∀ w ∈ u_ws RX9 TX9 6, w ∈ lw_gd := by decide +kernel
theorem cls_in10 : ∀ w ∈ u_ws RX10 TX10 13, w ∈ lw_gd := by decide +kernel
theorem cls_in11 : ∀ w ∈ u_ws RX11 TX11 6, w ∈ lw_gd := by decide +kernel
theorem cls_in12 : ∀ w ∈ u_ws RX12 TX12 36, w ∈ lw_gd := by decide +kernel
/-- of each kind of object: its fields' words are among the tables, its fields' types and names; what a new one holds -/
theorem cls_ok : ∀ (ci : Nat) (q : vw_C), vwCl[ci]? = some q → ci < 12 ∧ (∀ w ∈ u_ws q.1 q.2.1 q.2.2, w ∈ lw_gd) ∧ ∃ ty : Nat → FieldType, (∀ k, k < q.2.2 → parseFieldDescriptor (q.2.1 k).2.2.1 = some (ty k)) ∧ (∀ a, a < q.2.2 → ∀ b, b < q.2.2 → a ≠ b → (q.2.1 a).2.1 ≠ (q.2.1 b).2.1) ∧ ∀ k, k < q.2.2 → defaultValue (ty k) = fval ci (fun _ => 0) (fun _ => 0) (fun _ => none) k := by
  intro ci q h
  match ci, h with
  | 0, h => cases h; exact ⟨by decide, cls_in0, tyX0, tyX0_ok, nmX0, by decide +kernel⟩
  | 1, h => cases h; exact ⟨by decide, cls_in1, tyX1, tyX1_ok, nmX1, by decide +kernel⟩
  | 2, h => cases h; exact ⟨by decide, cls_in2, tyX2, tyX2_ok, nmX2, by decide +kernel⟩
  | 3, h => cases h; exact ⟨by decide, cls_in3, tyX3, tyX3_ok, nmX3, by decide +kernel⟩
  | 4, h => cases h; exact ⟨by decide, cls_in4, tyX4, tyX4_ok, nmX4, by decide +kernel⟩
  | 5, h => cases h; exact ⟨by decide, cls_in5, tyX5, tyX5_ok, nmX5, by decide +kernel⟩
  | 6, h => cases h; exact ⟨by decide, cls_in6, tyX6, tyX6_ok, nmX6, by decide +kernel⟩
  | 7, h => cases h; exact ⟨by decide, cls_in7, tyX7, tyX7_ok, nmX7, by decide +kernel⟩
  | 8, h => cases h; exact ⟨by decide, cls_in9, tyX9, tyX9_ok, nmX9, by decide +kernel⟩
  | 9, h => cases h; exact ⟨by decide, cls_in10, tyX10, tyX10_ok, nmX10, by decide +kernel⟩
  | 10, h => cases h; exact ⟨by decide, cls_in11, tyX11, tyX11_ok, nmX11, by decide +kernel⟩
  | 11, h => cases h; exact ⟨by decide, cls_in12, tyX12, tyX12_ok, nmX12, by decide +kernel⟩
  | k + 12, h => simp at h
/-- the constant pool's place idx of own names field j of the kind ci -/
def FL (own : String) (idx ci j : Nat) : Prop := ∃ (ref : String) (q : vw_C), vwCl[ci]? = some q ∧ j < q.2.2 ∧ Cond.fieldLink own idx ref (q.2.1 j).2.1 (q.2.1 j).2.2.1 ∈ lw_gd ∧ (ref = (q.2.1 j).1 ∨ Cond.sameField ref (q.2.1 j).1 (q.2.1 j).2.1 (q.2.1 j).2.2.1 ∈ lw_gd)
/-- and it may be written there, with type ty: in a constructor (fin), or anywhere -/
def FP (own : String) (mn : String) (idx ci j : Nat) (ty : FieldType) : Prop := ∃ (ref : String) (q : vw_C), vwCl[ci]? = some q ∧ j < q.2.2 ∧ Cond.fieldLink own idx ref (q.2.1 j).2.1 (q.2.1 j).2.2.1 ∈ lw_gd ∧ ref = (q.2.1 j).1 ∧ parseFieldDescriptor (q.2.1 j).2.2.1 = some ty ∧ ((q.2.1 j).2.2.2 = false ∨ ((q.2.1 j).2.2.2 = true ∧ mn = "<init>" ∧ (q.2.1 j).1 = own))
theorem CellAt.kept {D : va_G} {s : State} {H H1 : Heap} {a : Nat} {kn : Nat × Nat} {f : Nat → Int32} {g : Nat → Int64} {r : Nat → Option Nat} (h : CellAt D s H a kn f g r) (e : H1[a]? = H[a]?) : CellAt D s H1 a kn f g r := by
  obtain ⟨h1, h2, h3, h4⟩ := h
  refine ⟨fun q => ?_, fun q => ?_, fun q => ?_, fun q q2 => ?_⟩
  · obtain ⟨x, x1, x2⟩ := h1 q
    exact ⟨x, x1, x2.kept e⟩
  · obtain ⟨x, x1, x2⟩ := h2 q
    exact ⟨x, by rw [e]; exact x1, x2⟩
  · obtain ⟨x, x1, x2⟩ := h3 q
    exact ⟨x, by rw [e]; exact x1, x2⟩
  · obtain ⟨x, x1, x2⟩ := h4 q q2
    exact ⟨x, by rw [e]; exact x1, x2⟩
theorem CellAt.lt {D : va_G} {s : State} {H : Heap} {a : Nat} {kn : Nat × Nat} {f : Nat → Int32} {g : Nat → Int64} {r : Nat → Option Nat} (h : CellAt D s H a kn f g r) (hk : kn.1 < 21) : a < H.size := by
  obtain ⟨h1, h2, h3, h4⟩ := h
  by_cases q1 : kn.1 < 12
  · obtain ⟨x, x1, c, x2, -⟩ := h1 q1
    exact (Array.getElem?_eq_some_iff.mp x2).1
  · by_cases q2 : kn.1 = 12 ∨ kn.1 = 20
    · obtain ⟨x, x1, -⟩ := h2 q2
      exact (Array.getElem?_eq_some_iff.mp x1).1
    · by_cases q3 : kn.1 = 13
      · obtain ⟨x, x1, -⟩ := h3 q3
        exact (Array.getElem?_eq_some_iff.mp x1).1
      · obtain ⟨x, x1, -⟩ := h4 (by omega) (by omega)
        exact (Array.getElem?_eq_some_iff.mp x1).1
/-- one cell of ours is written -/
theorem Hp.put {D : va_G} {B : Nat} {s : State} {H H1 : Heap} {I I1 : MI} {L L1 : ML} {N N1 : NT} {a : Nat} (h : Hp D B s H I L N) (hk : (N.2.1 a).1 < 20) (hz : H1.size = H.size) (hq : ∀ q, q ≠ a → H1[q]? = H[q]?) (hN : N1.2 = N.2)
    (hr : ∀ q, q ≠ a → I1 q = I q ∧ L1 q = L q ∧ N1.1 q = N.1 q) (hc : CellAt D s H1 a (N.2.1 a) (I1 a) (L1 a) (N1.1 a)) : Hp D B s H1 I1 L1 N1 := by
  obtain ⟨h1, h2, h3, h4, h5⟩ := h
  have hlt : a < H.size := (h3 a).lt (by omega)
  refine ⟨by rw [hN, hz]; exact h1, by rw [hN]; exact h2, fun q => ?_, fun q hq2 => ?_, fun q => by rw [hN]; exact h5 q⟩
  · rw [hN]
    by_cases e : q = a
    · subst e; exact hc
    · obtain ⟨r1, r2, r3⟩ := hr q e
      rw [r1, r2, r3]
      exact (h3 q).kept (hq q e)
  · rw [hN] at hq2 ⊢
    have e : q ≠ a := by omega
    obtain ⟨r1, r2, r3⟩ := hr q e
    rw [r1, r2, r3]
    exact h4 q hq2
theorem upd2_ne {α : Type} {f : Nat → Nat → α} {a k q : Nat} {v : α} (h : q ≠ a) : upd2 f a k v q = f q := up_n _ _ h
theorem upd2_row {α : Type} {f : Nat → Nat → α} {a k : Nat} {v : α} : upd2 f a k v a = up (f a) k v := up_s _ _ _
section HEAP
variable {l : Launch} {D : va_G} {B : Nat} {own : String} {cc : ByteArray} {nL : Nat} {mn : String} {R : Room} {g : GT} {ls ls' : List (Option MV)} {st : List MV} {I : MI} {L : ML} {N : NT} {kc ks : Nat}
theorem get_core {p : Program} {e : Env} {s : State} {m : MethodId} {args : Array Value} {below : List Frame} {meth : Method} {c : Code} {Q : State → Prop} {H : Heap} {locs : List Loc} {lr : Array Slot} {rest : List Value}
    (hx : p.tables.exec = Jvm.exec) (hb : c.code = cc) (ho : s.vm.findClass own = some m.cls) (hts : ∀ w ∈ lw_gd, w.before args s = true) (hK : va_K D vwCl [] s) (hH : Hp D B s H I L N) {idx ci j a n pc : Nat} (hf : FL own idx ci j) (hs : N.2.1 a = (ci, n)) (hd : decode cc pc = .ok (.getfield idx, 3))
    (kk : W p l e R s m args below meth c H locs kc ks Q (F0 m (pc + 3) lr (fval ci (I a) (L a) (N.1 a) j :: rest))) : W p l e R s m args below meth c H locs kc ks Q (F0 m pc lr (.ref a :: rest)) := by
  obtain ⟨ref, q, hc, hj, hlink, hsame⟩ := hf
  obtain ⟨hci, hin, -⟩ := cls_ok ci q hc
  have hcell := hH.2.2.1 a
  rw [hs] at hcell
  obtain ⟨q', hq', cell, q1, q2, q3, q4⟩ := hcell.1 hci
  cases hc.symm.trans hq'
  obtain ⟨hSl, hfc, kC, hkC, hkind⟩ := hK.1 ci _ hc
  obtain ⟨cf, kf, fi, f, hi, hsl⟩ := hSl j hj
  have hfnd : s.fieldFound? ref (q.2.1 j).2.1 (q.2.1 j).2.2.1 = some (cf, kf, fi, f) := by
    rcases hsame with h | h
    · rw [h]; exact hi
    · exact u_same (hts _ h) _ hi
  refine W.getf hx hb ho (hts _ hlink) hfnd (u_facts hfc hkC (u_lays hts hin hj) hi).1 q1 (by rw [q3]; exact fun h => by cases h) (v := fval ci (I a) (L a) (N.1 a) j) ?_ rfl rfl hd kk
  rw [hsl, q4 j hj]
theorem G_getI (pc : Nat) (hC : Cx l D B own cc nL mn R g) {idx ci j a n : Nat} (hf : FL own idx ci j) (hs : N.2.1 a = (ci, n)) (ht : fty ci j = 0) (hd : decode cc pc = .ok (.getfield idx, 3)) (kk : g (pc + 3) ls (vi (I a j) :: st) I L N kc ks) : g pc ls (vr (some a) :: st) I L N kc ks := by
  obtain ⟨p, e, s, m, args, below, meth, c, Q, ⟨hx, hb, hml, ho, hts, hK, hnm⟩, rfl⟩ := hC
  intro lr H locs hl hH hS
  refine get_core hx hb ho hts hK.1 hH hf hs hd ?_
  rw [show fval ci (I a) (L a) (N.1 a) j = .int (I a j) by simp [fval, ht]]
  exact kk lr H locs hl hH hS
theorem G_getL (pc : Nat) (hC : Cx l D B own cc nL mn R g) {idx ci j a n : Nat} (hf : FL own idx ci j) (hs : N.2.1 a = (ci, n)) (ht : fty ci j = 1) (hd : decode cc pc = .ok (.getfield idx, 3)) (kk : g (pc + 3) ls (vl (L a j) :: st) I L N kc ks) : g pc ls (vr (some a) :: st) I L N kc ks := by
  obtain ⟨p, e, s, m, args, below, meth, c, Q, ⟨hx, hb, hml, ho, hts, hK, hnm⟩, rfl⟩ := hC
  intro lr H locs hl hH hS
  refine get_core hx hb ho hts hK.1 hH hf hs hd ?_
  rw [show fval ci (I a) (L a) (N.1 a) j = .long (L a j) by simp [fval, ht]]
  exact kk lr H locs hl hH hS
theorem G_getR (pc : Nat) (hC : Cx l D B own cc nL mn R g) {idx ci j a n : Nat} {r : Option Nat} (hf : FL own idx ci j) (hs : N.2.1 a = (ci, n)) (hr : N.1 a j = r) (ht : fty ci j = 2) (hd : decode cc pc = .ok (.getfield idx, 3)) (kk : g (pc + 3) ls (vr r :: st) I L N kc ks) : g pc ls (vr (some a) :: st) I L N kc ks := by
  obtain ⟨p, e, s, m, args, below, meth, c, Q, ⟨hx, hb, hml, ho, hts, hK, hnm⟩, rfl⟩ := hC
  intro lr H locs hl hH hS
  refine get_core hx hb ho hts hK.1 hH hf hs hd ?_
  rw [show fval ci (I a) (L a) (N.1 a) j = va_rf r by simp [fval, ht, hr]]
  exact kk lr H locs hl hH hS
theorem put_core {p : Program} {e : Env} {s : State} {m : MethodId} {args : Array Value} {below : List Frame} {meth : Method} {c : Code} {Q : State → Prop} {H : Heap} {locs : List Loc} {lr : Array Slot} {rest : List Value}
    (hx : p.tables.exec = Jvm.exec) (hb : c.code = cc) (ho : s.vm.findClass own = some m.cls) (hts : ∀ w ∈ lw_gd, w.before args s = true) (hK : va_K D vwCl [] s) (hnm : meth.name = mn) (hH : Hp D B s H I L N) (hS : va_S (fun q => B ≤ q) s.heap H locs) {idx ci j a n pc : Nat} {ty : FieldType} {v : Value} (hf : FP own mn idx ci j ty) (hs : N.2.1 a = (ci, n)) (hn : narrow ty v = v) (hfit : fits ty v = true)
    {I1 : MI} {L1 : ML} {R1 : MR} (hv : fval ci (I1 a) (L1 a) (R1 a) j = v) (hv2 : ∀ k, k ≠ j → fval ci (I1 a) (L1 a) (R1 a) k = fval ci (I a) (L a) (N.1 a) k) (hr : ∀ q, q ≠ a → I1 q = I q ∧ L1 q = L q ∧ R1 q = N.1 q)
    (hd : decode cc pc = .ok (.putfield idx, 3)) (kk : ∀ (H1 : Heap) (locs1 : List Loc), Hp D B s H1 I1 L1 (R1, N.2) → va_S (fun q => B ≤ q) s.heap H1 locs1 → W p l e R s m args below meth c H1 locs1 kc ks Q (F0 m (pc + 3) lr rest)) : W p l e R s m args below meth c H locs kc ks Q (F0 m pc lr (v :: .ref a :: rest)) := by
  obtain ⟨ref, q, hc, hj, hlink, hsame, hty, hfin⟩ := hf
  obtain ⟨hci, hin, tys, htys, hnms, -⟩ := cls_ok ci q hc
  have hcell := hH.2.2.1 a
  have hlow : (N.2.1 a).1 < 20 := by rw [hs]; show ci < 20; omega
  have hBa : B ≤ a := hH.2.2.2.2 a hlow
  rw [hs] at hcell
  obtain ⟨q', hq', cell, q1, q2, q3, q4⟩ := hcell.1 hci
  cases hc.symm.trans hq'
  have hap := va_apart (own := own) hts hin tys htys hnms hK hc
  obtain ⟨hSl, hfc, kC, hkC, hkind⟩ := hK.1 ci _ hc
  obtain ⟨cf, kf, fi, f, hi, hsl⟩ := hSl j hj
  have hfnd : s.fieldFound? ref (q.2.1 j).2.1 (q.2.1 j).2.2.1 = some (cf, kf, fi, f) := by rw [hsame]; exact hi
  have hlay := hts _ (hin _ (u_in_lay hj))
  have hst := (u_facts hfc hkC (u_lays hts hin hj) hi).1
  have fin : ∀ (H' : Heap) (lo : Loc), lo.base = a → H'[a]? = some (cell.setSlot f.slot v) → H'.size = H.size → (∀ q, q ≠ a → H'[q]? = H[q]?) → Hp D B s H' I1 L1 (R1, N.2) ∧ va_S (fun q => B ≤ q) s.heap H' (locs ++ [lo]) := by
    intro H' lo hlo e1 e2 e3
    refine ⟨hH.put hlow e2 e3 rfl hr ?_, ?_⟩
    · rw [hs]
      refine ⟨fun _ => ⟨q, hc, ?_⟩, fun h => absurd h (by show ¬ (ci = 12 ∨ ci = 20); omega), fun h => absurd h (by show ¬ ci = 13; omega), fun h => absurd h (by show ¬ 14 ≤ ci; omega)⟩
      rw [hsl] at e1
      refine t_OB.to (V := updV (fval ci (I a) (L a) (N.1 a)) j v) ⟨_, e1, q2, q3, t_set q4 hap hj v⟩ (fun k _ => ?_)
      by_cases hkj : k = j
      · subst hkj; simp [updV]; exact hv.symm
      · simp [updV, hkj]; exact (hv2 k hkj).symm
    · have := hS.put (k := lo.slot) e2 e3 hBa
      obtain ⟨lb, lsl⟩ := lo
      simp only at hlo
      subst hlo
      exact this
  rcases hfin with hfin | ⟨hfin, hini, hdecl⟩
  · unfold u_lay at hlay
    rw [if_neg (by rw [hfin]; decide)] at hlay
    have h6 := u_store hfc hkC hkind hlay hi hty hn hfit
    refine W.putK hx hb (f := f) ⟨ho, hts _ hlink, ⟨_, _, _, hfnd⟩, hst⟩ (by rw [q2]; exact h6) q1 q3 (by rw [hsl]; exact k2_hasslot (q4 j hj)) rfl rfl hd fun H' e1 e2 e3 => ?_
    obtain ⟨z1, z2⟩ := fin H' ⟨a, f.slot⟩ rfl e1 e2 e3
    exact kk H' _ z1 z2
  · unfold u_lay at hlay
    rw [if_pos hfin] at hlay
    have hcf : m.cls = cf := by
      obtain ⟨_, _, c', _, _, _, -, -, hf', -, -, -, hown2, -⟩ := Cond.laysFinal_spec hlay
      have e1 : c' = cf := by have := hi.symm.trans hf'; simp at this; exact this.1.symm
      rw [hdecl] at hown2
      rw [← e1]; exact Option.some.inj (ho.symm.trans hown2)
    have h6 := u_fits hfc hkC hkind (Or.inr hlay) hi hty hn hfit
    refine W.putFinK hx hb ho (hts _ hlink) hfnd hst hcf (hnm.trans hini) (by rw [q2]; exact h6) q1 q3 (by rw [hsl]; exact k2_hasslot (q4 j hj)) rfl rfl hd fun H' e1 e2 e3 => ?_
    obtain ⟨z1, z2⟩ := fin H' ⟨a, f.slot⟩ rfl e1 e2 e3
    exact kk H' _ z1 z2
theorem G_putI (pc : Nat) (hC : Cx l D B own cc nL mn R g) {idx ci j a n : Nat} {ty : FieldType} {x : Int32} (hf : FP own mn idx ci j ty) (hs : N.2.1 a = (ci, n)) (ht : fty ci j = 0) (hn : narrow ty (.int x) = .int x) (hfit : fits ty (.int x) = true) (hd : decode cc pc = .ok (.putfield idx, 3)) (kk : g (pc + 3) ls st (upd2 I a j x) L N kc ks) : g pc ls (vi x :: vr (some a) :: st) I L N kc ks := by
  obtain ⟨p, e, s, m, args, below, meth, c, Q, ⟨hx, hb, hml, ho, hts, hK, hnm⟩, rfl⟩ := hC
  intro lr H locs hl hH hS
  refine put_core (I1 := upd2 I a j x) (L1 := L) (R1 := N.1) (v := .int x) hx hb ho hts hK.1 hnm hH hS hf hs hn hfit ?_ ?_ (fun q h => ⟨upd2_ne h, rfl, rfl⟩) hd (fun H1 locs1 h1 h2 => kk lr H1 locs1 hl h1 h2)
  · simp [fval, ht, upd2_row, up_s]
  · intro k hk; simp [fval, upd2_row, up_n _ _ hk]
theorem G_putL (pc : Nat) (hC : Cx l D B own cc nL mn R g) {idx ci j a n : Nat} {x : Int64} (hf : FP own mn idx ci j .long) (hs : N.2.1 a = (ci, n)) (ht : fty ci j = 1) (hd : decode cc pc = .ok (.putfield idx, 3)) (kk : g (pc + 3) ls st I (upd2 L a j x) N kc ks) : g pc ls (vl x :: vr (some a) :: st) I L N kc ks := by
  obtain ⟨p, e, s, m, args, below, meth, c, Q, ⟨hx, hb, hml, ho, hts, hK, hnm⟩, rfl⟩ := hC
  intro lr H locs hl hH hS
  refine put_core (I1 := I) (L1 := upd2 L a j x) (R1 := N.1) (v := .long x) hx hb ho hts hK.1 hnm hH hS hf hs rfl rfl ?_ ?_ (fun q h => ⟨rfl, upd2_ne h, rfl⟩) hd (fun H1 locs1 h1 h2 => kk lr H1 locs1 hl h1 h2)
  · simp [fval, ht, upd2_row, up_s]
  · intro k hk; simp [fval, upd2_row, up_n _ _ hk]
theorem G_putR (pc : Nat) (hC : Cx l D B own cc nL mn R g) {idx ci j a n : Nat} {ty : FieldType} {r : Option Nat} (hf : FP own mn idx ci j ty) (hs : N.2.1 a = (ci, n)) (ht : fty ci j = 2) (hty : ty.isReference = true) (hd : decode cc pc = .ok (.putfield idx, 3)) (kk : g (pc + 3) ls st I L (upd2 N.1 a j r, N.2) kc ks) : g pc ls (vr r :: vr (some a) :: st) I L N kc ks := by
  obtain ⟨p, e, s, m, args, below, meth, c, Q, ⟨hx, hb, hml, ho, hts, hK, hnm⟩, rfl⟩ := hC
  intro lr H locs hl hH hS
  refine put_core (I1 := I) (L1 := L) (R1 := upd2 N.1 a j r) (v := va_rf r) hx hb ho hts hK.1 hnm hH hS hf hs (by cases r <;> cases ty <;> first | rfl | cases hty) (by cases r <;> cases ty <;> first | rfl | cases hty) ?_ ?_ (fun q h => ⟨rfl, rfl, upd2_ne h⟩) hd (fun H1 locs1 h1 h2 => kk lr H1 locs1 hl h1 h2)
  · simp [fval, ht, upd2_row, up_s]
  · intro k hk; simp [fval, upd2_row, up_n _ _ hk]
end HEAP
end
section
/-! ===== arrays, what is made ===== -/
theorem nI_out {n : Nat} {i : Int32} {j : Nat} (hi : i = nI j) (hj : j < n) (hn : n < 2 ^ 31) : ¬ (i < 0 ∨ n ≤ i.toNatClampNeg) := by
  rw [hi]; exact nI_in hj hn
section ARR
variable {l : Launch} {D : va_G} {B : Nat} {own : String} {cc : ByteArray} {nL : Nat} {mn : String} {R : Room} {g : GT} {ls ls' : List (Option MV)} {st : List MV} {I : MI} {L : ML} {N : NT} {kc ks : Nat}
theorem G_iald (pc : Nat) (hC : Cx l D B own cc nL mn R g) {a n : Nat} {i : Int32} {j : Nat} {kd : Nat} (hs : N.2.1 a = (kd, n)) (hkd : kd = 12 ∨ kd = 20) (hi : i = nI j) (hj : j < n) (hn : n < 2 ^ 31) (hd : decode cc pc = .ok (.iaload, 1)) (kk : g (pc + 1) ls (vi (I a j) :: st) I L N kc ks) : g pc ls (vi i :: vr (some a) :: st) I L N kc ks := by
  obtain ⟨p, e, s, m, args, below, meth, c, Q, ⟨hx, hb, hml, ho, hts, hK, hnm⟩, rfl⟩ := hC
  intro lr H locs hl hH hS
  have hcell := hH.2.2.1 a
  rw [hs] at hcell
  obtain ⟨cell, c1, c2, c3, c4, c5⟩ := hcell.2.1 hkd
  have hc : i.toNatClampNeg = j := by rw [hi]; exact nI_clamp (by omega)
  exact W.iald (v := .int (I a j)) hx hb c1 c2 c3 (by rw [c4]; exact nI_out hi hj hn) (by rw [hc]; exact c5 j hj) rfl rfl hd (kk lr H locs hl hH hS)
theorem G_lald (pc : Nat) (hC : Cx l D B own cc nL mn R g) {a n : Nat} {i : Int32} {j : Nat} (hs : N.2.1 a = (13, n)) (hi : i = nI j) (hj : j < n) (hn : n < 2 ^ 31) (hd : decode cc pc = .ok (.laload, 1)) (kk : g (pc + 1) ls (vl (L a j) :: st) I L N kc ks) : g pc ls (vi i :: vr (some a) :: st) I L N kc ks := by
  obtain ⟨p, e, s, m, args, below, meth, c, Q, ⟨hx, hb, hml, ho, hts, hK, hnm⟩, rfl⟩ := hC
  intro lr H locs hl hH hS
  have hcell := hH.2.2.1 a
  rw [hs] at hcell
  obtain ⟨cell, c1, c2, c3, c4, c5⟩ := hcell.2.2.1 rfl
  have hc : i.toNatClampNeg = j := by rw [hi]; exact nI_clamp (by omega)
  exact W.lald (v := .long (L a j)) hx hb c1 c2 c3 (by rw [c4]; exact nI_out hi hj hn) (by rw [hc]; exact c5 j hj) rfl rfl hd (kk lr H locs hl hH hS)
theorem G_aald (pc : Nat) (hC : Cx l D B own cc nL mn R g) {a n kd : Nat} {i : Int32} {j : Nat} {r : Option Nat} (hs : N.2.1 a = (kd, n)) (hk1 : 14 ≤ kd) (hk2 : kd < 20) (hi : i = nI j) (hj : j < n) (hn : n < 2 ^ 31) (hr : N.1 a j = r) (hd : decode cc pc = .ok (.aaload, 1)) (kk : g (pc + 1) ls (vr r :: st) I L N kc ks) : g pc ls (vi i :: vr (some a) :: st) I L N kc ks := by
  obtain ⟨p, e, s, m, args, below, meth, c, Q, ⟨hx, hb, hml, ho, hts, hK, hnm⟩, rfl⟩ := hC
  intro lr H locs hl hH hS
  have hcell := hH.2.2.1 a
  rw [hs] at hcell
  obtain ⟨cell, c1, c2, c3, c3', c4, c5⟩ := hcell.2.2.2 hk1 hk2
  have hc : i.toNatClampNeg = j := by rw [hi]; exact nI_clamp (by omega)
  exact W.aald (v := va_rf r) hx hb c1 c2 rfl (by rw [c3]; exact fun h => by cases h) (by rw [c4]; exact nI_out hi hj hn) (by rw [hc, ← hr]; exact c5 j hj) rfl rfl hd (kk lr H locs hl hH hS)
theorem G_alen (pc : Nat) (hC : Cx l D B own cc nL mn R g) {a n kd : Nat} (hs : N.2.1 a = (kd, n)) (hk1 : 12 ≤ kd) (hk2 : kd ≤ 20) (hd : decode cc pc = .ok (.arraylength, 1)) (kk : g (pc + 1) ls (vi (nI n) :: st) I L N kc ks) : g pc ls (vr (some a) :: st) I L N kc ks := by
  obtain ⟨p, e, s, m, args, below, meth, c, Q, ⟨hx, hb, hml, ho, hts, hK, hnm⟩, rfl⟩ := hC
  intro lr H locs hl hH hS
  have hcell := hH.2.2.1 a
  rw [hs] at hcell
  have h : ∃ (cell : Cell) (ty : FieldType), H[a]? = some cell ∧ s.isArrayOf cell ty ∧ cell.slots.size = n := by
    by_cases q2 : kd = 12 ∨ kd = 20
    · obtain ⟨x, x1, x2, -, x4, -⟩ := hcell.2.1 q2
      exact ⟨x, _, x1, x2, x4⟩
    · by_cases q3 : kd = 13
      · obtain ⟨x, x1, x2, -, x4, -⟩ := hcell.2.2.1 q3
        exact ⟨x, _, x1, x2, x4⟩
      · obtain ⟨x, x1, x2, -, -, x4, -⟩ := hcell.2.2.2 (show 14 ≤ kd by omega) (show kd < 20 by omega)
        exact ⟨x, _, x1, x2, x4⟩
  obtain ⟨cell, ty, c1, c2, c4⟩ := h
  exact W.alen hx hb c1 c2 (by rw [c4]; rfl) rfl rfl hd (kk lr H locs hl hH hS)
theorem slots_set {cell : Cell} {n j : Nat} {f : Nat → Value} {v : Value} (h : ∀ k : Nat, k < n → cell.slots[k]? = some (f k)) (hj : j < n) (hz : cell.slots.size = n) : ∀ k : Nat, k < n → (cell.setSlot j v).slots[k]? = some (up f j v k) := by
  intro k hk
  by_cases e : k = j
  · subst e
    rw [Cell.slots_setSlot_self _ (by omega), up_s]
  · rw [slot_ne _ _ (fun q => e q.symm), up_n _ _ e]
    exact h k hk
theorem G_iast (pc : Nat) (hC : Cx l D B own cc nL mn R g) {a n : Nat} {i x : Int32} {j : Nat} (hs : N.2.1 a = (12, n)) (hi : i = nI j) (hj : j < n) (hn : n < 2 ^ 31) (hd : decode cc pc = .ok (.iastore, 1)) (kk : g (pc + 1) ls st (upd2 I a j x) L N kc ks) : g pc ls (vi x :: vi i :: vr (some a) :: st) I L N kc ks := by
  obtain ⟨p, e, s, m, args, below, meth, c, Q, ⟨hx, hb, hml, ho, hts, hK, hnm⟩, rfl⟩ := hC
  intro lr H locs hl hH hS
  have hcell := hH.2.2.1 a
  have hlow : (N.2.1 a).1 < 20 := by rw [hs]; simp only; omega
  have hBa : B ≤ a := hH.2.2.2.2 a hlow
  rw [hs] at hcell
  obtain ⟨cell, c1, c2, c3, c4, c5⟩ := hcell.2.1 (Or.inl rfl)
  have hc : i.toNatClampNeg = j := by rw [hi]; exact nI_clamp (by omega)
  refine W.iast hx hb c1 c2 c3 (by rw [c4]; exact nI_out hi hj hn) rfl rfl hd fun H' e1 e2 e3 => ?_
  rw [hc] at e1 ⊢
  refine kk lr H' _ hl (hH.put hlow e2 e3 rfl (fun q h => ⟨upd2_ne h, rfl, rfl⟩) ?_) (hS.put e2 e3 hBa)
  rw [hs]
  refine ⟨fun h => absurd h (by simp only; omega), fun _ => ⟨_, e1, c2, c3, by simpa [Cell.setSlot] using c4, fun k hk => ?_⟩, fun h => absurd h (by simp only; omega), fun h => absurd h (by simp only; omega)⟩
  rw [slots_set (f := fun k => .int (I a k)) c5 hj c4 k hk, upd2_row]
  by_cases q : k = j <;> simp [up, q]
theorem G_last (pc : Nat) (hC : Cx l D B own cc nL mn R g) {a n : Nat} {i : Int32} {x : Int64} {j : Nat} (hs : N.2.1 a = (13, n)) (hi : i = nI j) (hj : j < n) (hn : n < 2 ^ 31) (hd : decode cc pc = .ok (.lastore, 1)) (kk : g (pc + 1) ls st I (upd2 L a j x) N kc ks) : g pc ls (vl x :: vi i :: vr (some a) :: st) I L N kc ks := by
  obtain ⟨p, e, s, m, args, below, meth, c, Q, ⟨hx, hb, hml, ho, hts, hK, hnm⟩, rfl⟩ := hC
  intro lr H locs hl hH hS
  have hcell := hH.2.2.1 a
  have hlow : (N.2.1 a).1 < 20 := by rw [hs]; simp only; omega
  have hBa : B ≤ a := hH.2.2.2.2 a hlow
  rw [hs] at hcell
  obtain ⟨cell, c1, c2, c3, c4, c5⟩ := hcell.2.2.1 rfl
  have hc : i.toNatClampNeg = j := by rw [hi]; exact nI_clamp (by omega)
  refine W.last hx hb c1 c2 c3 (by rw [c4]; exact nI_out hi hj hn) rfl rfl hd fun H' e1 e2 e3 => ?_
  rw [hc] at e1 ⊢
  refine kk lr H' _ hl (hH.put hlow e2 e3 rfl (fun q h => ⟨rfl, upd2_ne h, rfl⟩) ?_) (hS.put e2 e3 hBa)
  rw [hs]
  refine ⟨fun h => absurd h (by simp only; omega), fun h => absurd h (by simp only; omega), fun _ => ⟨_, e1, c2, c3, by simpa [Cell.setSlot] using c4, fun k hk => ?_⟩, fun h => absurd h (by simp only; omega)⟩
  rw [slots_set (f := fun k => .long (L a k)) c5 hj c4 k hk, upd2_row]
  by_cases q : k = j <;> simp [up, q]
theorem ast_fin {s : State} {H H' : Heap} {a n kd j : Nat} {r : Option Nat} {cell : Cell} (hH : Hp D B s H I L N) (hs : N.2.1 a = (kd, n)) (hk1 : 14 ≤ kd) (hk2 : kd < 20) (hj : j < n) (c2 : s.isArrayOf cell (.object (elC kd))) (c3 : cell.vm = .none) (c3' : va_RA s cell.cls (.object (elC kd))) (c4 : cell.slots.size = n) (c5 : ∀ j : Nat, j < n → cell.slots[j]? = some (va_rf (N.1 a j)))
    (e1 : H'[a]? = some (cell.setSlot j (va_rf r))) (e2 : H'.size = H.size) (e3 : ∀ q, q ≠ a → H'[q]? = H[q]?) : Hp D B s H' I L (upd2 N.1 a j r, N.2) := by
  refine hH.put (by rw [hs]; show kd < 20; exact hk2) e2 e3 rfl (fun q h => ⟨rfl, rfl, upd2_ne h⟩) ?_
  rw [hs]
  refine ⟨fun h => absurd h (by show ¬ kd < 12; omega), fun h => absurd h (by show ¬ (kd = 12 ∨ kd = 20); omega), fun h => absurd h (by show ¬ kd = 13; omega), fun _ _ => ⟨_, e1, c2, c3, c3', by simpa [Cell.setSlot] using c4, fun k hk => ?_⟩⟩
  rw [slots_set (f := fun k => va_rf (N.1 a k)) c5 hj c4 k hk]
  show _ = some (va_rf ((upd2 N.1 a j r) a k))
  rw [upd2_row]
  by_cases q : k = j <;> simp [up, q]
theorem G_aastN (pc : Nat) (hC : Cx l D B own cc nL mn R g) {a n kd : Nat} {i : Int32} {j : Nat} (hs : N.2.1 a = (kd, n)) (hk1 : 14 ≤ kd) (hk2 : kd < 20) (hi : i = nI j) (hj : j < n) (hn : n < 2 ^ 31) (hd : decode cc pc = .ok (.aastore, 1)) (kk : g (pc + 1) ls st I L (upd2 N.1 a j none, N.2) kc ks) : g pc ls (vr none :: vi i :: vr (some a) :: st) I L N kc ks := by
  obtain ⟨p, e, s, m, args, below, meth, c, Q, ⟨hx, hb, hml, ho, hts, hK, hnm⟩, rfl⟩ := hC
  intro lr H locs hl hH hS
  have hcell := hH.2.2.1 a
  have hBa : B ≤ a := hH.2.2.2.2 a (by rw [hs]; exact hk2)
  rw [hs] at hcell
  obtain ⟨cell, c1, c2, c3, c3', c4, c5⟩ := hcell.2.2.2 hk1 hk2
  have hc : i.toNatClampNeg = j := by rw [hi]; exact nI_clamp (by omega)
  refine va_WaastN (C := elC kd) hx hb c1 c2 (by rw [c3]; exact fun h => by cases h) (by rw [c4]; exact nI_out hi hj hn) rfl rfl hd fun H' e1 e2 e3 => ?_
  rw [hc] at e1 ⊢
  exact kk lr H' _ hl (ast_fin hH hs hk1 hk2 hj c2 c3 c3' c4 c5 e1 e2 e3) (hS.put e2 e3 hBa)
/-- an object of the class itself, or of one that may be cast to it -/
theorem G_aast (pc : Nat) (hC : Cx l D B own cc nL mn R g) {a n kd b ci nb : Nat} {i : Int32} {j : Nat} (q : vw_C) (hs : N.2.1 a = (kd, n)) (hk1 : 14 ≤ kd) (hk2 : kd < 20) (hb0 : N.2.1 b = (ci, nb)) (hcq : vwCl[ci]? = some q) (hcast : q.1 = elC kd ∨ Cond.castable q.1 (elC kd) ∈ nwL) (hi : i = nI j) (hj : j < n) (hn : n < 2 ^ 31) (hd : decode cc pc = .ok (.aastore, 1)) (kk : g (pc + 1) ls st I L (upd2 N.1 a j (some b), N.2) kc ks) : g pc ls (vr (some b) :: vi i :: vr (some a) :: st) I L N kc ks := by
  obtain ⟨p, e, s, m, args, below, meth, c, Q, ⟨hx, hb, hml, ho, hts, hK, hnm⟩, rfl⟩ := hC
  intro lr H locs hl hH hS
  have hcell := hH.2.2.1 a
  have hBa : B ≤ a := hH.2.2.2.2 a (by rw [hs]; exact hk2)
  rw [hs] at hcell
  obtain ⟨cell, c1, c2, c3, c3', c4, c5⟩ := hcell.2.2.2 hk1 hk2
  have hcb := hH.2.2.1 b
  rw [hb0] at hcb
  have hci := (cls_ok ci q hcq).1
  obtain ⟨q', hq', cellV, g1, g2, g3, -⟩ := hcb.1 hci
  have hcls := (hK.1.1 ci q hcq).2
  obtain ⟨kC, hkC, -⟩ := hcls.2
  obtain ⟨kA, comp, k1, k2, k3, k4⟩ := id c3'
  have hc : i.toNatClampNeg = j := by rw [hi]; exact nI_clamp (by omega)
  obtain ⟨kcomp, hkcomp, -⟩ := Vm.findClass_spec k3
  have hasg : s.vm.assignable cellV.cls comp = true := by
    rcases hcast with h | h
    · have : comp = D.1 ci := Option.some.inj (k3.symm.trans (by rw [← h]; exact hcls.1))
      rw [this, g2]; exact va_assign hcls
    · obtain ⟨c0, t1, f1, f2, f3⟩ := Cond.castable_spec (va_Nw.use (A := args) rfl (hK.2.2.2 _ h))
      cases hcls.1.symm.trans f1
      cases k3.symm.trans f2
      rw [g2]; exact f3
  refine W.aast hx hb c1 (fun q h => by rw [c3] at h; cases h) (fun h => by rw [c3] at h; cases h) k1 k2 rfl hkcomp ⟨fun h => (nI_out hi hj hn) (Or.inl h), by rw [c4, hc]; exact hj⟩ g1 (fun q h => by rw [g3] at h; cases h) (by rw [g2]; exact hkC) hasg rfl rfl hd fun H' e1 e2 e3 => ?_
  rw [hc] at e1 ⊢
  exact kk lr H' _ hl (ast_fin (r := some b) hH hs hk1 hk2 hj c2 c3 c3' c4 c5 e1 e2 e3) (hS.put e2 e3 hBa)
end ARR
end
section
/-! ===== what is made; returns; calls ===== -/
theorem CellAt.moved {D : va_G} {u U : State} {H : Heap} {a : Nat} {kn : Nat × Nat} {f : Nat → Int32} {g : Nat → Int64} {r : Nat → Option Nat} (hvm : u.vm.Alike U.vm) (h : CellAt D u H a kn f g r) : CellAt D U H a kn f g r := by
  obtain ⟨h1, h2, h3, h4⟩ := h
  refine ⟨h1, fun q => ?_, fun q => ?_, fun q q2 => ?_⟩
  · obtain ⟨x, x1, x2, x3⟩ := h2 q
    exact ⟨x, x1, State.isArrayOf_alike hvm x2, x3⟩
  · obtain ⟨x, x1, x2, x3⟩ := h3 q
    exact ⟨x, x1, State.isArrayOf_alike hvm x2, x3⟩
  · obtain ⟨x, x1, x2, x3, x4, x5⟩ := h4 q q2
    exact ⟨x, x1, State.isArrayOf_alike hvm x2, x3, x4.moved hvm, x5⟩
theorem Hp.moved {D : va_G} {B : Nat} {u U : State} {H H1 : Heap} {I : MI} {L : ML} {N : NT} (h : Hp D B u H I L N) (hvm : u.vm.Alike U.vm) (hh : H1 = H) : Hp D B U H1 I L N := by
  subst hh
  obtain ⟨h1, h2, h3, h4, h5⟩ := h
  exact ⟨h1, h2, fun a => (h3 a).moved hvm, h4, h5⟩
theorem PcOf.blind {D : va_G} {B : Nat} {as : List MV} {I : MI} {L : ML} {N : NT} : FrameBlind (PcOf D B as I L N) := by
  intro a U g mk h
  obtain ⟨h1, h2, h3⟩ := h
  exact ⟨h1, h2.calling, h3.moved (Vm.Alike.refl U.vm) rfl⟩
/-- a cell more -/
theorem Hp.grow {D : va_G} {B : Nat} {s : State} {H H1 : Heap} {I : MI} {L : ML} {N : NT} {kn : Nat × Nat} (h : Hp D B s H I L N) (hz : H1.size = H.size + 1) (hq : ∀ q : Nat, q < H.size → H1[q]? = H[q]?) (hc : CellAt D s H1 H.size kn (fun _ => 0) (fun _ => 0) (fun _ => none)) : Hp D B s H1 I L (N.1, (up N.2.1 N.2.2 kn, N.2.2 + 1)) := by
  obtain ⟨h1, h2, h3, h4, h5⟩ := h
  obtain ⟨z1, z2⟩ := h4 N.2.2 (Nat.le_refl _)
  refine ⟨by rw [hz, h1], Nat.le_succ_of_le h2, fun a => ?_, fun a ha => ?_, fun a => ?_⟩
  · show CellAt D s H1 a (up N.2.1 N.2.2 kn a) (I a) (L a) (N.1 a)
    by_cases e : a = N.2.2
    · subst e
      rw [up_s, show I N.2.2 = fun _ => 0 from funext fun k => (z2 k).1, show L N.2.2 = fun _ => 0 from funext fun k => (z2 k).2.1, show N.1 N.2.2 = fun _ => none from funext fun k => (z2 k).2.2, ← h1]
      exact hc
    · rw [up_n _ _ e]
      by_cases hl : a < H.size
      · exact (h3 a).kept (hq a hl)
      · have := (h4 a (by omega)).1
        refine ⟨fun h => absurd h (by omega), fun h => absurd h (by omega), fun h => absurd h (by omega), fun _ h => absurd h (by omega)⟩
  · have ha' : N.2.2 + 1 ≤ a := ha
    show (up N.2.1 N.2.2 kn a).1 = 21 ∧ _
    rw [up_n _ _ (by omega)]
    exact h4 a (by omega)
  · show (up N.2.1 N.2.2 kn a).1 < 20 → B ≤ a
    by_cases e : a = N.2.2
    · intro _; omega
    · rw [up_n _ _ e]; exact h5 a
theorem va_S.grow {A : Nat → Prop} {H0 H H1 : Heap} {locs : List Loc} (h : va_S A H0 H locs) (hz : H1.size = H.size + 1) (hq : ∀ q : Nat, q < H.size → H1[q]? = H[q]?) : va_S A H0 H1 locs :=
  ⟨Nat.le_trans h.1 (by omega), fun x h1 h2 => (hq x (Nat.lt_of_lt_of_le h1 h.1)).trans (h.2.1 x h1 h2), h.2.2⟩
section MADE
variable {l : Launch} {D : va_G} {B : Nat} {own : String} {cc : ByteArray} {nL : Nat} {mn : String} {R : Room} {g : GT} {ls ls' : List (Option MV)} {st st0 : List MV} {I : MI} {L : ML} {N : NT} {kc ks : Nat}
theorem G_newI (pc : Nat) (hC : Cx l D B own cc nL mn R g) {i : Int32} {n : Nat} (hi : i = nI n) (hn : n < 100000) (hw : Cond.arrayClass .int ∈ lw_gd) (hc : kc + 1 ≤ R.cells) (hs : ks + n ≤ R.slots) (hd : decode cc pc = .ok (.newarray .int, 2)) (kk : g (pc + 2) ls (vr (some N.2.2) :: st) I L (N.1, (up N.2.1 N.2.2 (12, n), N.2.2 + 1)) (kc + 1) (ks + n)) : g pc ls (vi i :: st) I L N kc ks := by
  obtain ⟨p, e, s, m, args, below, meth, c, Q, ⟨hx, hb, hml, ho, hts, hK, hnm⟩, rfl⟩ := hC
  intro lr H locs hl hH hS
  subst hi
  refine va_newaK (atype := .int) hx hb (hts _ hw) rfl hd rfl (nI_pos (by omega)) (nI_clamp (by omega)) (by show n * 4 ≤ _; omega) hc hs rfl fun H1 cA e1 z1 o1 hAr hNm => ?_
  have := kk lr H1 locs hl (hH.grow z1 o1 ⟨fun h => absurd h (by simp only; omega), fun _ => ⟨_, e1, hAr _ _, (fun h => by cases h), arrV_size _ _ _, fun j hj => by rw [arrV_read _ _ hj]; rfl⟩, fun h => absurd h (by simp only; omega), fun h => absurd h (by simp only; omega)⟩) (hS.grow z1 o1)
  rw [hH.1]; exact this
theorem G_newL (pc : Nat) (hC : Cx l D B own cc nL mn R g) {i : Int32} {n : Nat} (hi : i = nI n) (hn : n < 100000) (hw : Cond.arrayClass .long ∈ lw_gd) (hc : kc + 1 ≤ R.cells) (hs : ks + n ≤ R.slots) (hd : decode cc pc = .ok (.newarray .long, 2)) (kk : g (pc + 2) ls (vr (some N.2.2) :: st) I L (N.1, (up N.2.1 N.2.2 (13, n), N.2.2 + 1)) (kc + 1) (ks + n)) : g pc ls (vi i :: st) I L N kc ks := by
  obtain ⟨p, e, s, m, args, below, meth, c, Q, ⟨hx, hb, hml, ho, hts, hK, hnm⟩, rfl⟩ := hC
  intro lr H locs hl hH hS
  subst hi
  refine va_newaK (atype := .long) hx hb (hts _ hw) rfl hd rfl (nI_pos (by omega)) (nI_clamp (by omega)) (by show n * 8 ≤ _; omega) hc hs rfl fun H1 cA e1 z1 o1 hAr hNm => ?_
  have := kk lr H1 locs hl (hH.grow z1 o1 ⟨fun h => absurd h (by simp only; omega), fun h => absurd h (by simp only; omega), fun _ => ⟨_, e1, hAr _ _, (fun h => by cases h), arrV_size _ _ _, fun j hj => by rw [arrV_read _ _ hj]; rfl⟩, fun h => absurd h (by simp only; omega)⟩) (hS.grow z1 o1)
  rw [hH.1]; exact this
theorem G_anew (pc : Nat) (hC : Cx l D B own cc nL mn R g) {i : Int32} {n idx : Nat} (kd : Nat) (hk1 : 14 ≤ kd) (hk2 : kd < 20) (hi : i = nI n) (hn : n < 100000) (hw : Cond.classLink own idx (elC kd) ∈ lw_gd) (hao : elC kd ∈ aoL) (hc : kc + 1 ≤ R.cells) (hs : ks + n ≤ R.slots) (hd : decode cc pc = .ok (.anewarray idx, 3)) (kk : g (pc + 3) ls (vr (some N.2.2) :: st) I L (N.1, (up N.2.1 N.2.2 (kd, n), N.2.2 + 1)) (kc + 1) (ks + n)) : g pc ls (vi i :: st) I L N kc ks := by
  obtain ⟨p, e, s, m, args, below, meth, c, Q, ⟨hx, hb, hml, ho, hts, hK, hnm⟩, rfl⟩ := hC
  intro lr H locs hl hH hS
  subst hi
  have hcl : (nI n).toNatClampNeg = n := nI_clamp (by omega)
  refine W.anew hx hb ho (hts _ hw) (va_AO.use (hK.2.2.1 _ hao)) rfl hd rfl (nI_pos (by omega)) (by rw [hcl]; omega) hc (by rw [hcl]; exact hs) fun cA kA comp f1 f2 f3 f4 => ?_
  rw [hcl]
  generalize hH1 : H.push ({ cls := cA, slots := Array.replicate n .null, vm := .none } : Cell) = H1
  have z1 : H1.size = H.size + 1 := by rw [← hH1, Array.size_push]
  have e1 : H1[H.size]? = some (arrV cA n (fun _ => .null)) := by rw [← hH1, Array.getElem?_push_size, ← arrV_new]
  have o1 : ∀ q : Nat, q < H.size → H1[q]? = H[q]? := fun q hq => by rw [← hH1, Array.getElem?_push, if_neg (Nat.ne_of_lt hq)]
  have := kk lr H1 locs hl (hH.grow z1 o1 ⟨fun h => absurd h (by simp only; omega), fun h => absurd h (by simp only; omega), fun h => absurd h (by simp only; omega), fun _ _ => ⟨_, e1, ⟨(fun k h => by cases h), kA, f2, comp, f3⟩, rfl, ⟨kA, comp, f2, f3, f4, f1⟩, arrV_size _ _ _, fun j hj => by rw [arrV_read _ _ hj]; rfl⟩⟩) (hS.grow z1 o1)
  rw [← hH.1] at this; exact this
theorem G_new (pc : Nat) (hC : Cx l D B own cc nL mn R g) {idx ci : Nat} (q : vw_C) (hq : vwCl[ci]? = some q) (hw1 : Cond.classLink own idx q.1 ∈ lw_gd) (hw2 : Cond.instantiable q.1 q.2.2 ∈ lw_gd) (hw3 : Cond.initialized q.1 ∈ lw_gd) (hc : kc + 1 ≤ R.cells) (hs : ks + q.2.2 ≤ R.slots) (hd : decode cc pc = .ok (.new idx, 3)) (kk : g (pc + 3) ls (vr (some N.2.2) :: st) I L (N.1, (up N.2.1 N.2.2 (ci, q.2.2), N.2.2 + 1)) (kc + 1) (ks + q.2.2)) : g pc ls st I L N kc ks := by
  obtain ⟨p, e, s, m, args, below, meth, c, Q, ⟨hx, hb, hml, ho, hts, hK, hnm⟩, rfl⟩ := hC
  intro lr H locs hl hH hS
  obtain ⟨hci, hin, ty, hty, -, hdef⟩ := cls_ok ci q hq
  have hKn := hK.1.1 ci q hq
  refine W.newcK hx hb ho (hts _ hw1) (hts _ hw2) (hts _ hw3) rfl hd hc hs hKn.2.1 rfl fun H1 kC hkC e1 z1 o1 => ?_
  have := kk lr H1 locs hl (hH.grow z1 o1 ⟨fun _ => ⟨q, hq, (u_born ty hts hin hKn hkC e1 hty).to hdef⟩, fun h => absurd h (by simp only; omega), fun h => absurd h (by simp only; omega), fun h => absurd h (by simp only; omega)⟩) (hS.grow z1 o1)
  rw [← hH.1] at this; exact this
theorem G_objInit (pc : Nat) (hC : Cx l D B own cc nL mn R g) {idx a : Nat} (hw1 : Cond.methodLink own idx Lib.objectInit ∈ lw_gd) (hw2 : Cond.instanceMethod Lib.objectInit ∈ lw_gd) (hw3 : Cond.code Lib.objectInit ⟨#[0xb1]⟩ 1 none ∈ lw_gd) (hf : 1 ≤ R.frames) (hlo : (st.map mcat).sum + 12 ≤ R.locals) (hd : decode cc pc = .ok (.invokespecial idx, 3)) (kk : g (pc + 3) ls st I L N kc ks) : g pc ls (vr (some a) :: st) I L N kc ks := by
  obtain ⟨p, e, s, m, args, below, meth, c, Q, ⟨hx, hb, hml, ho, hts, hK, hnm⟩, rfl⟩ := hC
  intro lr H locs hl hH hS
  refine W.objInit hx hb ho (hts _ hw1) (hts _ hw2) (hts _ hw3) rfl (hl.1.trans hml.symm) rfl hd hf ?_ (kk lr H locs hl hH hS)
  show 2 * 0 + _ + 12 ≤ _
  rw [show ((st.map mv).map fun v => v.category) = st.map mcat by rw [List.map_map]; exact List.map_congr_left (fun v _ => mcat_ok v)]
  omega
theorem cats (st : List MV) : ((st.map mv).map fun v => v.category) = st.map mcat := by rw [List.map_map]; exact List.map_congr_left (fun v _ => mcat_ok v)
theorem G_mmax (pc : Nat) (hC : Cx l D B own cc nL mn R g) {idx : Nat} {x y : Int32} (hw1 : Cond.methodLink own idx Lib.Math.max.name ∈ lw_gd) (hw2 : Cond.static Lib.Math.max.name ∈ lw_gd) (hw3 : Cond.initialized "java/lang/Math" ∈ lw_gd) (hw4 : Cond.code Lib.Math.max.name Lib.Math.max.code 2 (some .int) ∈ lw_gd) (hf : 1 ≤ R.frames) (hlo : (st.map mcat).sum + 13 ≤ R.locals) (hc : kc ≤ R.cells) (hs : ks ≤ R.slots) (hd : decode cc pc = .ok (.invokestatic idx, 3)) (kk : g (pc + 3) ls (vi (if x < y then y else x) :: st) I L N kc ks) : g pc ls (vi y :: vi x :: st) I L N kc ks := by
  obtain ⟨p, e, s, m, args, below, meth, c, Q, ⟨hx, hb, hml, ho, hts, hK, hnm⟩, rfl⟩ := hC
  intro lr H locs hl hH hS
  exact va_mmax hx hb (hml.trans hl.1.symm) ho (hts _ hw1) (hts _ hw2) (hts _ hw3) (hts _ hw4) hf (by rw [cats]; exact hlo) hc hs hd (kk lr H locs hl hH hS)
theorem G_mmin (pc : Nat) (hC : Cx l D B own cc nL mn R g) {idx : Nat} {x y : Int32} (hw1 : Cond.methodLink own idx Lib.Math.min.name ∈ lw_gd) (hw2 : Cond.static Lib.Math.min.name ∈ lw_gd) (hw3 : Cond.initialized "java/lang/Math" ∈ lw_gd) (hw4 : Cond.code Lib.Math.min.name Lib.Math.min.code 2 (some .int) ∈ lw_gd) (hf : 1 ≤ R.frames) (hlo : (st.map mcat).sum + 13 ≤ R.locals) (hc : kc ≤ R.cells) (hs : ks ≤ R.slots) (hd : decode cc pc = .ok (.invokestatic idx, 3)) (kk : g (pc + 3) ls (vi (if y < x then y else x) :: st) I L N kc ks) : g pc ls (vi y :: vi x :: st) I L N kc ks := by
  obtain ⟨p, e, s, m, args, below, meth, c, Q, ⟨hx, hb, hml, ho, hts, hK, hnm⟩, rfl⟩ := hC
  intro lr H locs hl hH hS
  exact va_mmin hx hb (hml.trans hl.1.symm) ho (hts _ hw1) (hts _ hw2) (hts _ hw3) (hts _ hw4) hf (by rw [cats]; exact hlo) hc hs hd (kk lr H locs hl hH hS)
theorem recv {s : State} {H : Heap} {b ci nb : Nat} {q : vw_C} (hK : KK D s) (hH : Hp D B s H I L N) (hb : N.2.1 b = (ci, nb)) (hq : vwCl[ci]? = some q) : ∃ cell : Cell, H[b]? = some cell ∧ cell.vm.isStatics = false ∧ s.vm.findClass q.1 = some cell.cls := by
  have hcb := hH.2.2.1 b
  rw [hb] at hcb
  obtain ⟨q', hq', cellV, g1, g2, g3, -⟩ := hcb.1 (cls_ok ci q hq).1
  exact ⟨cellV, g1, by rw [g3]; rfl, by rw [g2]; exact (hK.1.1 ci q hq).2.1⟩
theorem G_instY (pc : Nat) (hC : Cx l D B own cc nL mn R g) {idx b ci nb : Nat} {q : vw_C} (hb0 : N.2.1 b = (ci, nb)) (hq : vwCl[ci]? = some q) (hw : Cond.classLink own idx q.1 ∈ lw_gd) (hd : decode cc pc = .ok (.instanceof idx, 3)) (kk : g (pc + 3) ls (vi 1 :: st) I L N kc ks) : g pc ls (vr (some b) :: st) I L N kc ks := by
  obtain ⟨p, e, s, m, args, below, meth, c, Q, ⟨hx, hb, hml, ho, hts, hK, hnm⟩, rfl⟩ := hC
  intro lr H locs hl hH hS
  exact va_instS hx hb ho (hts _ hw) (hK.1.1 ci q hq).2 (recv hK hH hb0 hq) hd (kk lr H locs hl hH hS)
theorem G_instNo (pc : Nat) (hC : Cx l D B own cc nL mn R g) {idx b ci nb : Nat} {q : vw_C} (hb0 : N.2.1 b = (ci, nb)) (hq : vwCl[ci]? = some q) (hq2 : q.1 = "GeoThreads$Way" ∨ q.1 = "GeoThreads$Reader") (hw : Cond.classLink own idx "GeoThreads$Share" ∈ lw_gd) (hd : decode cc pc = .ok (.instanceof idx, 3)) (kk : g (pc + 3) ls (vi 0 :: st) I L N kc ks) : g pc ls (vr (some b) :: st) I L N kc ks := by
  obtain ⟨p, e, s, m, args, below, meth, c, Q, ⟨hx, hb, hml, ho, hts, hK, hnm⟩, rfl⟩ := hC
  intro lr H locs hl hH hS
  have hr := recv hK hH hb0 hq
  rcases hq2 with h | h
  · rw [h] at hr
    exact va_instNo hx hb ho (hts _ hw) hK.2.1.1 hr hd (kk lr H locs hl hH hS)
  · rw [h] at hr
    exact va_instNo hx hb ho (hts _ hw) hK.2.1.2 hr hd (kk lr H locs hl hH hS)
theorem G_castY (pc : Nat) (hC : Cx l D B own cc nL mn R g) {idx b ci nb : Nat} {q : vw_C} (hb0 : N.2.1 b = (ci, nb)) (hq : vwCl[ci]? = some q) (hw : Cond.classLink own idx q.1 ∈ lw_gd) (hd : decode cc pc = .ok (.checkcast idx, 3)) (kk : g (pc + 3) ls (vr (some b) :: st) I L N kc ks) : g pc ls (vr (some b) :: st) I L N kc ks := by
  obtain ⟨p, e, s, m, args, below, meth, c, Q, ⟨hx, hb, hml, ho, hts, hK, hnm⟩, rfl⟩ := hC
  intro lr H locs hl hH hS
  exact va_castS hx hb ho (hts _ hw) (hK.1.1 ci q hq).2 (recv hK hH hb0 hq) hd (kk lr H locs hl hH hS)
-- returns
variable {ret : Option FieldType} {mc ms : Nat} {Qm : Option MV → MI → ML → NT → Prop}
theorem R_i (pc : Nat) {ty : FieldType} (hC : Cr l D B own cc nL mn R (some ty) mc ms Qm g) {x : Int32} (hn : narrow ty (.int x) = .int x) (hd : decode cc pc = .ok (.ireturn, 1)) (hc : kc ≤ mc) (hs : ks ≤ ms) (hq : Qm (some (vi x)) I L N) : g pc ls [vi x] I L N kc ks := by
  obtain ⟨p, e, s, m, args, below, meth, c, ⟨hx, hb, hml, ho, hts, hK, hnm⟩, hr, hlk, rfl⟩ := hC
  intro lr H locs hl hH hS
  refine W.widen hc hs ?_
  exact W.zret hx hb hr hn (fun t ht hW => ⟨some (vi x), I, L, N, rfl, hq, hH.moved hW.alike ht, hS.F ht⟩) hS.2.2 hd hlk
theorem R_l (pc : Nat) (hC : Cr l D B own cc nL mn R (some .long) mc ms Qm g) {x : Int64} (hd : decode cc pc = .ok (.lreturn, 1)) (hc : kc ≤ mc) (hs : ks ≤ ms) (hq : Qm (some (vl x)) I L N) : g pc ls [vl x] I L N kc ks := by
  obtain ⟨p, e, s, m, args, below, meth, c, ⟨hx, hb, hml, ho, hts, hK, hnm⟩, hr, hlk, rfl⟩ := hC
  intro lr H locs hl hH hS
  refine W.widen hc hs ?_
  exact W.lret hx hb hr (fun t ht hW => ⟨some (vl x), I, L, N, rfl, hq, hH.moved hW.alike ht, hS.F ht⟩) hS.2.2 hd hlk
theorem R_v (pc : Nat) (hC : Cr l D B own cc nL mn R none mc ms Qm g) (hd : decode cc pc = .ok (.return_, 1)) (hc : kc ≤ mc) (hs : ks ≤ ms) (hq : Qm none I L N) : g pc ls [] I L N kc ks := by
  obtain ⟨p, e, s, m, args, below, meth, c, ⟨hx, hb, hml, ho, hts, hK, hnm⟩, hr, hlk, rfl⟩ := hC
  intro lr H locs hl hH hS
  refine W.widen hc hs ?_
  exact W.vret hx hb hr (fun t ht hW => ⟨none, I, L, N, rfl, hq, hH.moved hW.alike ht, hS.F ht⟩) hS.2.2 hd hlk
theorem R_a (pc : Nat) {nm : String} (hC : Cr l D B own cc nL mn R (some (.object nm)) mc ms Qm g) {r : Option Nat} (hd : decode cc pc = .ok (.areturn, 1)) (hc : kc ≤ mc) (hs : ks ≤ ms) (hq : Qm (some (vr r)) I L N) : g pc ls [vr r] I L N kc ks := by
  obtain ⟨p, e, s, m, args, below, meth, c, ⟨hx, hb, hml, ho, hts, hK, hnm⟩, hr, hlk, rfl⟩ := hC
  intro lr H locs hl hH hS
  refine W.widen hc hs ?_
  exact W.aret (v := va_rf r) hx hb hr (Or.inl ⟨_, rfl⟩) (by cases r with
    | none => exact Or.inl rfl
    | some a => exact Or.inr ⟨a, rfl⟩) (fun t ht hW => ⟨some (vr r), I, L, N, rfl, hq, hH.moved hW.alike ht, hS.F ht⟩) hS.2.2 hd hlk
end MADE
section CALLS
variable {l : Launch} {D : va_G} {B : Nat} {own : String} {cc : ByteArray} {nL : Nat} {mn : String} {R : Room} {g : GT} {ls ls' : List (Option MV)} {st st0 : List MV} {I : MI} {L : ML} {N : NT} {kc ks : Nat}
variable {M : MD} {as : List MV} {mc ms idx n : Nat} {Qm : Option MV → MI → ML → NT → Prop}
theorem call_core {p : Program} {e : Env} {s : State} {m : MethodId} {args a : Array Value} {below : List Frame} {meth : Method} {c : Code} {Q : State → Prop} {H : Heap} {locs : List Loc} {lr : Array Slot} {st1 : List Value} {pc : Nat}
    (hr : va_Run p l e R s m args below meth c H locs kc ks mc ms (F0 m pc lr st1) (st.map mv) (QcOf D B Qm a) (fun q => B ≤ q)) (hS : va_S (fun q => B ≤ q) s.heap H locs)
    (kk : ∀ v I' L' N', Qm v I' L' N' → ∀ (H1 : Heap) (locs1 : List Loc), Hp D B s H1 I' L' N' → va_S (fun q => B ≤ q) s.heap H1 locs1 → W p l e R s m args below meth c H1 locs1 (kc + mc) (ks + ms) Q (F0 m (pc + 3) lr ((v.toList ++ st).map mv))) : W p l e R s m args below meth c H locs kc ks Q (F0 m pc lr st1) := by
  intro T hT X
  obtain ⟨v, st₀, t, T', L0, h0, X', hL, e1, e2, ⟨v', I', L', N', hv, hq, hH, hz, hk⟩, stp⟩ := hr T hT X
  have hv2 : v = v'.map mv := by cases hv; rfl
  subst hv2
  rw [h0] at hz hk
  have hal : t.vm.Alike s.vm := by rw [← e2]; exact X'.warmed.alike.symm
  obtain ⟨t2, a1, b1⟩ := kk v' I' L' N' hq T'.heap (locs ++ L0) (hH.moved hal e1)
    ⟨Nat.le_trans hS.1 (by rw [e1]; exact hz), fun q h1 h2 => by rw [e1, hk q (Nat.lt_of_lt_of_le h1 hS.1) h2]; exact hS.2.1 q h1 h2, fun q hq => by
      rcases List.mem_append.mp hq with h | h
      · exact hS.2.2 q h
      · exact hL q h⟩ T' rfl X'
  refine ⟨t2, stp t2 ?_, b1⟩
  have : (v'.map mv).toList ++ st.map mv = (v'.toList ++ st).map mv := by cases v' <;> simp
  rw [this]
  exact a1
/-- a method's own words -/
def MokV (M : MD) (n : Nat) : Prop := Cond.code M.y M.cc M.nL M.ret ∈ lw_gd ∧ Cond.instanceMethod M.y ∈ lw_gd ∧ Cond.selects M.y.cls M.y M.y ∈ lw_gd ∧ Cond.initialized M.y.cls ∈ lw_gd ∧ M.y.cls ≠ "java/lang/invoke/MethodHandle" ∧ M.y.cls ≠ "java/lang/invoke/VarHandle" ∧ (parseMethodDescriptor M.y.desc).map (fun d => d.parameters.length) = some n
def MokS (M : MD) (n : Nat) : Prop := Cond.code M.y M.cc M.nL M.ret ∈ lw_gd ∧ Cond.static M.y ∈ lw_gd ∧ Cond.initialized M.y.cls ∈ lw_gd ∧ M.y.cls ≠ "java/lang/invoke/MethodHandle" ∧ M.y.cls ≠ "java/lang/invoke/VarHandle" ∧ (parseMethodDescriptor M.y.desc).map (fun d => d.parameters.length) = some n
def MokI (M : MD) (n : Nat) : Prop := Cond.code M.y M.cc M.nL none ∈ lw_gd ∧ M.ret = none ∧ M.y.name = "<init>" ∧ Cond.instanceMethod M.y ∈ lw_gd ∧ Cond.initialized M.y.cls ∈ lw_gd ∧ M.y.cls ≠ "java/lang/invoke/MethodHandle" ∧ M.y.cls ≠ "java/lang/invoke/VarHandle" ∧ (parseMethodDescriptor M.y.desc).map (fun d => d.parameters.length) = some n
theorem good_ws {w : Cond} (h : w ∈ lw_gd) : GoodIn lw_gd (w :: lw_gd) := by
  intro x hx
  rcases List.mem_cons.mp hx with rfl | hx
  · exact gd_good _ h
  · exact gd_good _ hx
theorem pre_s {s : State} {H : Heap} (hK : KK D s) (hH : Hp D B s H I L N) : PreS s H (PcOf D B as I L N) (as.map mv) :=
  ⟨PcOf.blind, fun U hU hW => ⟨rfl, hK.warm hW, hH.moved hW.alike hU⟩⟩
theorem G_callV (pc : Nat) (hC : Cx l D B own cc nL mn R g) {b ci nb : Nat} {q : vw_C} (hM : Ct l D B M (vr (some b) :: as) I L N mc ms Qm) (hm : MokV M n) (hlink : Cond.methodLink own idx M.y ∈ lw_gd) (hb0 : N.2.1 b = (ci, nb)) (hq : vwCl[ci]? = some q) (hqy : q.1 = M.y.cls) (hn : as.length = n) (hstk : st0 = as.reverse ++ vr (some b) :: st) (hcat : (st.map mcat).sum ≤ 8)
    (hR : M.fr + 1 ≤ R.frames ∧ 8 + (M.nL + 11) + M.lo ≤ R.locals) (hf : kc + mc ≤ R.cells ∧ ks + ms ≤ R.slots) (hd : decode cc pc = .ok (.invokevirtual idx, 3)) (kk : ∀ v I' L' N', Qm v I' L' N' → g (pc + 3) ls (v.toList ++ st) I' L' N' (kc + mc) (ks + ms)) : g pc ls st0 I L N kc ks := by
  obtain ⟨p, e, s, m, args, below, meth, c, Q, ⟨hx, hb, hml, ho, hts, hK, hnm⟩, rfl⟩ := hC
  intro lr H locs hl hH hS
  obtain ⟨m1, m2, m3, m4, m5, m6, m7⟩ := hm
  have hr := recv hK hH hb0 hq
  rw [hqy] at hr
  have hG : GoodIn lw_gd (wsV own idx M.y.cls M.y (.code M.y M.cc M.nL M.ret :: lw_gd)) := by
    intro w hw
    unfold wsV at hw
    rcases List.mem_append.mp hw with h | h
    · simp only [List.mem_cons, List.not_mem_nil, or_false] at h
      rcases h with rfl | rfl | rfl | rfl
      · exact gd_good _ hlink
      · exact gd_good _ m2
      · exact gd_good _ m3
      · exact gd_good _ m4
    · exact good_ws m1 w h
  refine call_core (va_runV (As := as.map mv) (rest := st.map mv) ⟨hx, hb, hml, ho, hts⟩ hM (cwV n hts hG rfl rfl rfl ⟨rfl, m5, m6, m7⟩ hR) ⟨PcOf.blind, hr, (pre_s (as := vr (some b) :: as) hK hH).2⟩ rfl (by rw [List.length_map]; exact hn) hl.1 (by rw [hstk]; simp [mv, va_rf]) (lv_room (by rw [cats]; exact hcat)) hd hf) hS (fun v I' L' N' hq' H1 locs1 h1 h2 => kk v I' L' N' hq' lr H1 locs1 hl h1 h2)
theorem G_callS (pc : Nat) (hC : Cx l D B own cc nL mn R g) (hM : Ct l D B M as I L N mc ms Qm) (hm : MokS M n) (hlink : Cond.methodLink own idx M.y ∈ lw_gd) (hown : M.y.cls = own) (hn : as.length = n) (hstk : st0 = as.reverse ++ st) (hcat : (st.map mcat).sum ≤ 8)
    (hR : M.fr + 1 ≤ R.frames ∧ 8 + (M.nL + 11) + M.lo ≤ R.locals) (hf : kc + mc ≤ R.cells ∧ ks + ms ≤ R.slots) (hd : decode cc pc = .ok (.invokestatic idx, 3)) (kk : ∀ v I' L' N', Qm v I' L' N' → g (pc + 3) ls (v.toList ++ st) I' L' N' (kc + mc) (ks + ms)) : g pc ls st0 I L N kc ks := by
  obtain ⟨p, e, s, m, args, below, meth, c, Q, ⟨hx, hb, hml, ho, hts, hK, hnm⟩, rfl⟩ := hC
  intro lr H locs hl hH hS
  obtain ⟨m1, m2, m4, m5, m6, m7⟩ := hm
  have hG : GoodIn lw_gd (wsS own idx M.y (.code M.y M.cc M.nL M.ret :: lw_gd)) := by
    intro w hw
    unfold wsS at hw
    rcases List.mem_append.mp hw with h | h
    · simp only [List.mem_cons, List.not_mem_nil, or_false] at h
      rcases h with rfl | rfl | rfl
      · exact gd_good _ hlink
      · exact gd_good _ m2
      · exact gd_good _ (hown ▸ m4)
    · exact good_ws m1 w h
  refine call_core (va_runS (As := as.map mv) (rest := st.map mv) ⟨hx, hb, hml, ho, hts⟩ hM (cwS n hts hG rfl rfl rfl ⟨hown, m5, m6, m7⟩ hR) (pre_s hK hH) rfl (by rw [List.length_map]; exact hn) hl.1 (by rw [hstk]; simp) (lv_room (by rw [cats]; exact hcat)) hd hf) hS (fun v I' L' N' hq' H1 locs1 h1 h2 => kk v I' L' N' hq' lr H1 locs1 hl h1 h2)
theorem G_callI (pc : Nat) (hC : Cx l D B own cc nL mn R g) {b : Nat} (hM : Ct l D B M (vr (some b) :: as) I L N mc ms Qm) (hm : MokI M n) (hlink : Cond.methodLink own idx M.y ∈ lw_gd) (hn : as.length = n) (hstk : st0 = as.reverse ++ vr (some b) :: st) (hcat : (st.map mcat).sum ≤ 8)
    (hR : M.fr + 1 ≤ R.frames ∧ 8 + (M.nL + 11) + M.lo ≤ R.locals) (hf : kc + mc ≤ R.cells ∧ ks + ms ≤ R.slots) (hd : decode cc pc = .ok (.invokespecial idx, 3)) (kk : ∀ v I' L' N', Qm v I' L' N' → g (pc + 3) ls (v.toList ++ st) I' L' N' (kc + mc) (ks + ms)) : g pc ls st0 I L N kc ks := by
  obtain ⟨p, e, s, m, args, below, meth, c, Q, ⟨hx, hb, hml, ho, hts, hK, hnm⟩, rfl⟩ := hC
  intro lr H locs hl hH hS
  obtain ⟨m1, m1', m2, m3, m4, m5, m6, m7⟩ := hm
  have hG : GoodIn lw_gd (.code M.y M.cc M.nL none :: lw_gd) := good_ws m1
  unfold Ct at hM
  rw [m1'] at hM
  refine call_core (va_runI (As := as.map mv) (rest := st.map mv) ⟨hx, hb, hml, ho, hts⟩ hM (cwI n hts hG rfl rfl rfl (hts _ m4) (hts _ hlink) (hts _ m3) m2 ⟨m5, m6, m7⟩ hR) (pre_s (as := vr (some b) :: as) hK hH) rfl (by rw [List.length_map]; exact hn) hl.1 (by rw [hstk]; simp [mv, va_rf]) (lv_room (by rw [cats]; exact hcat)) hd hf) hS (fun v I' L' N' hq' H1 locs1 h1 h2 => kk v I' L' N' hq' lr H1 locs1 hl h1 h2)
theorem G_callIN (pc : Nat) (hC : Cx l D B own cc nL mn R g) {b : Nat} {host : String} (hM : Ct l D B M (vr (some b) :: as) I L N mc ms Qm) (hm : MokI M n) (hlink : Cond.methodLinkNest own idx M.y host ∈ nwL) (hn : as.length = n) (hstk : st0 = as.reverse ++ vr (some b) :: st) (hcat : (st.map mcat).sum ≤ 8)
    (hR : M.fr + 1 ≤ R.frames ∧ 8 + (M.nL + 11) + M.lo ≤ R.locals) (hf : kc + mc ≤ R.cells ∧ ks + ms ≤ R.slots) (hd : decode cc pc = .ok (.invokespecial idx, 3)) (kk : ∀ v I' L' N', Qm v I' L' N' → g (pc + 3) ls (v.toList ++ st) I' L' N' (kc + mc) (ks + ms)) : g pc ls st0 I L N kc ks := by
  obtain ⟨p, e, s, m, args, below, meth, c, Q, ⟨hx, hb, hml, ho, hts, hK, hnm⟩, rfl⟩ := hC
  intro lr H locs hl hH hS
  obtain ⟨m1, m1', m2, m3, m4, m5, m6, m7⟩ := hm
  have hG : GoodIn lw_gd (.code M.y M.cc M.nL none :: lw_gd) := good_ws m1
  unfold Ct at hM
  rw [m1'] at hM
  refine call_core (va_runIN (As := as.map mv) (rest := st.map mv) ⟨hx, hb, hml, ho, hts⟩ hM ⟨va_cnB n hts hG rfl rfl rfl (hK.2.2.2 _ hlink) (hts _ m4) ⟨m5, m6, m7⟩ hR, m2, hts _ m3⟩ (pre_s (as := vr (some b) :: as) hK hH) rfl (by rw [List.length_map]; exact hn) hl.1 (by rw [hstk]; simp [mv, va_rf]) (lv_room (by rw [cats]; exact hcat)) hd hf) hS (fun v I' L' N' hq' H1 locs1 h1 h2 => kk v I' L' N' hq' lr H1 locs1 hl h1 h2)
/-- a method that Task names (x), of the object's own class (M) or of Task itself -/
def MokU (x : MethodName) (C : String) (M : MD) (n : Nat) : Prop := Cond.code M.y M.cc M.nL M.ret ∈ lw_gd ∧ Cond.instanceMethod M.y ∈ lw_gd ∧ Cond.selects C x M.y ∈ lw_gd ∧ Cond.initialized M.y.cls ∈ lw_gd ∧ Cond.sameMethod x.cls "GeoThreads$Task" x.name x.desc ∈ lw_gd ∧ (parseMethodDescriptor x.desc).map (fun d => d.parameters.length) = some n ∧ (Cond.declares ⟨"GeoThreads$Task", x.name, x.desc⟩ ∈ nwL ∨ (Cond.instanceMethod ⟨"GeoThreads$Task", x.name, x.desc⟩ ∈ lw_gd ∧ ∃ b0 m0 r0, Cond.code ⟨"GeoThreads$Task", x.name, x.desc⟩ b0 m0 r0 ∈ lw_gd))
theorem G_callU (pc : Nat) (hC : Cx l D B own cc nL mn R g) {b ci nb : Nat} {q : vw_C} {x : MethodName} (hM : Ct l D B M (vr (some b) :: as) I L N mc ms Qm) (hm : MokU x q.1 M n) (hlink : Cond.methodLink own idx x ∈ lw_gd) (hb0 : N.2.1 b = (ci, nb)) (hq : vwCl[ci]? = some q) (hn : as.length = n) (hstk : st0 = as.reverse ++ vr (some b) :: st) (hcat : (st.map mcat).sum ≤ 8)
    (hR : M.fr + 1 ≤ R.frames ∧ 8 + (M.nL + 11) + M.lo ≤ R.locals) (hf : kc + mc ≤ R.cells ∧ ks + ms ≤ R.slots) (hd : decode cc pc = .ok (.invokevirtual idx, 3)) (kk : ∀ v I' L' N', Qm v I' L' N' → g (pc + 3) ls (v.toList ++ st) I' L' N' (kc + mc) (ks + ms)) : g pc ls st0 I L N kc ks := by
  obtain ⟨p, e, s, m, args, below, meth, c, Q, ⟨hx, hb, hml, ho, hts, hK, hnm⟩, rfl⟩ := hC
  intro lr H locs hl hH hS
  obtain ⟨m1, m2, m3, m4, m5, m6, m7⟩ := hm
  have hr := recv hK hH hb0 hq
  have hdecl : va_Decl s ⟨"GeoThreads$Task", x.name, x.desc⟩ := by
    rcases m7 with h | ⟨h1, b0, m0, r0, h2⟩
    · exact va_Decl.abs (hK.2.2.2 _ h)
    · exact va_Decl.of (hts _ h1) (hts _ h2)
  have cw : va_CU R s args own q.1 "GeoThreads$Task" idx x M.y M.cc M.nL M.ret (.code M.y M.cc M.nL M.ret :: lw_gd) { frames := M.fr, cells := mc, slots := ms, locals := M.lo } mc ms n := by
    refine ⟨⟨rfl, rfl, hR.1, hR.2, pay_in hts (good_ws m1), List.mem_cons_self⟩, hts _ m1, hts _ m4, ⟨by decide, by decide⟩, fun sig h => ?_, hts _ hlink, hts _ m5, hdecl, hts _ m3, hts _ m2⟩
    rw [h] at m6
    exact (Option.some.inj m6).symm
  refine call_core (va_runU (As := as.map mv) (rest := st.map mv) ⟨hx, hb, hml, ho, hts⟩ hM cw ⟨PcOf.blind, hr, (pre_s (as := vr (some b) :: as) hK hH).2⟩ rfl (by rw [List.length_map]; exact hn) hl.1 (by rw [hstk]; simp [mv, va_rf]) (lv_room (by rw [cats]; exact hcat)) hd hf) hS (fun v I' L' N' hq' H1 locs1 h1 h2 => kk v I' L' N' hq' lr H1 locs1 hl h1 h2)
end CALLS
end
section
theorem in_L : Cond.initialized "GeoThreadsLaw" ∈ lw_gd := (gd_mem (List.mem_of_getElem? (i := 51) (by decide +kernel)) rfl)
theorem in_X11 : Cond.initialized "GeoThreads" ∈ lw_gd := (gd_mem (List.mem_of_getElem? (i := 52) (by decide +kernel)) rfl)
theorem in_Math : Cond.initialized "java/lang/Math" ∈ lw_gd := (gd_mem (List.mem_of_getElem? (i := 53) (by decide +kernel)) rfl)
theorem in_X4 : Cond.initialized "GeoThreads$Plan" ∈ lw_gd := (gd_mem (List.mem_of_getElem? (i := 54) (by decide +kernel)) rfl)
theorem in_X0 : Cond.initialized "GeoThreads$Course" ∈ lw_gd := (gd_mem (List.mem_of_getElem? (i := 55) (by decide +kernel)) rfl)
theorem in_X10 : Cond.initialized "GeoThreads$Work" ∈ lw_gd := (gd_mem (List.mem_of_getElem? (i := 56) (by decide +kernel)) rfl)
theorem in_X2 : Cond.initialized "GeoThreads$Hunt" ∈ lw_gd := (gd_mem (List.mem_of_getElem? (i := 57) (by decide +kernel)) rfl)
theorem in_X12 : Cond.initialized "GeoThreadsModel" ∈ lw_gd := (gd_mem (List.mem_of_getElem? (i := 58) (by decide +kernel)) rfl)
theorem in_X1 : Cond.initialized "GeoThreads$Grid" ∈ lw_gd := (gd_mem (List.mem_of_getElem? (i := 59) (by decide +kernel)) rfl)
theorem in_X3 : Cond.initialized "GeoThreads$Line" ∈ lw_gd := (gd_mem (List.mem_of_getElem? (i := 60) (by decide +kernel)) rfl)
theorem in_X8 : Cond.initialized "GeoThreads$Task" ∈ lw_gd := (gd_mem (List.mem_of_getElem? (i := 61) (by decide +kernel)) rfl)
theorem in_X9 : Cond.initialized "GeoThreads$Way" ∈ lw_gd := (gd_mem (List.mem_of_getElem? (i := 62) (by decide +kernel)) rfl)
theorem in_X5 : Cond.initialized "GeoThreads$Reader" ∈ lw_gd := (gd_mem (List.mem_of_getElem? (i := 63) (by decide +kernel)) rfl)
theorem in_X6 : Cond.initialized "GeoThreads$Search" ∈ lw_gd := (gd_mem (List.mem_of_getElem? (i := 64) (by decide +kernel)) rfl)
theorem in_X7 : Cond.initialized "GeoThreads$Share" ∈ lw_gd := (gd_mem (List.mem_of_getElem? (i := 65) (by decide +kernel)) rfl)
theorem cl_L_7 : Cond.classLink RL 7 "GeoThreads" ∈ lw_gd := (gd_mem (List.mem_of_getElem? (i := 66) (by decide +kernel)) rfl)
theorem it_X11 : Cond.instantiable "GeoThreads" 6 ∈ lw_gd := (gd_mem (List.mem_of_getElem? (i := 67) (by decide +kernel)) rfl)
theorem lk_L_15 : Cond.methodLink RL 15 yX11_init ∈ lw_gd := (gd_mem (List.mem_of_getElem? (i := 68) (by decide +kernel)) rfl)
theorem lk_X11_3 : Cond.methodLink RX11 3 Lib.objectInit ∈ lw_gd := (gd_mem (List.mem_of_getElem? (i := 71) (by decide +kernel)) rfl)
theorem lk_X11_11 : Cond.methodLink RX11 11 Lib.Math.min.name ∈ lw_gd := (gd_mem (List.mem_of_getElem? (i := 74) (by decide +kernel)) rfl)
theorem lk_X11_17 : Cond.methodLink RX11 17 Lib.Math.max.name ∈ lw_gd := (gd_mem (List.mem_of_getElem? (i := 77) (by decide +kernel)) rfl)
theorem cl_X11_27 : Cond.classLink RX11 27 "GeoThreads$Plan" ∈ lw_gd := (gd_mem (List.mem_of_getElem? (i := 80) (by decide +kernel)) rfl)
theorem it_X4 : Cond.instantiable "GeoThreads$Plan" 8 ∈ lw_gd := (gd_mem (List.mem_of_getElem? (i := 81) (by decide +kernel)) rfl)
theorem ln_X11_29 : Cond.methodLinkNest RX11 29 yX4_init "GeoThreads" ∈ nwL := (nw_mem (List.mem_of_getElem? (i := 82) (by decide +kernel)) rfl)
theorem lk_X4_3 : Cond.methodLink RX4 3 Lib.objectInit ∈ lw_gd := (gd_mem (List.mem_of_getElem? (i := 85) (by decide +kernel)) rfl)
theorem cl_X4_9 : Cond.classLink RX4 9 "GeoThreads$Grid" ∈ lw_gd := (gd_mem (List.mem_of_getElem? (i := 86) (by decide +kernel)) rfl)
theorem cl_X4_17 : Cond.classLink RX4 17 "GeoThreads$Task" ∈ lw_gd := (gd_mem (List.mem_of_getElem? (i := 88) (by decide +kernel)) rfl)
theorem cl_X4_23 : Cond.classLink RX4 23 "GeoThreads$Search" ∈ lw_gd := (gd_mem (List.mem_of_getElem? (i := 90) (by decide +kernel)) rfl)
theorem fl_X4_11_4 : FL RX4 11 4 0 := ⟨"GeoThreads$Plan", (RX4, TX4, 8), rfl, by decide, (gd_mem (List.mem_of_getElem? (i := 92) (by decide +kernel)) rfl), (Or.inl rfl)⟩
theorem fp_X4_11_4 : FP RX4 "<init>" 11 4 0 (.array (.object "GeoThreads$Grid")) := ⟨"GeoThreads$Plan", (RX4, TX4, 8), rfl, by decide, (gd_mem (List.mem_of_getElem? (i := 92) (by decide +kernel)) rfl), rfl, by decide +kernel, Or.inr ⟨rfl, rfl, rfl⟩⟩
theorem fl_X11_80_4 : FL RX11 80 4 0 := ⟨"GeoThreads$Plan", (RX4, TX4, 8), rfl, by decide, (gd_mem (List.mem_of_getElem? (i := 93) (by decide +kernel)) rfl), (Or.inl rfl)⟩
theorem fl_X4_19_4 : FL RX4 19 4 1 := ⟨"GeoThreads$Plan", (RX4, TX4, 8), rfl, by decide, (gd_mem (List.mem_of_getElem? (i := 94) (by decide +kernel)) rfl), (Or.inl rfl)⟩
theorem fp_X4_19_4 : FP RX4 "<init>" 19 4 1 (.array (.object "GeoThreads$Task")) := ⟨"GeoThreads$Plan", (RX4, TX4, 8), rfl, by decide, (gd_mem (List.mem_of_getElem? (i := 94) (by decide +kernel)) rfl), rfl, by decide +kernel, Or.inr ⟨rfl, rfl, rfl⟩⟩
theorem fl_X0_142_4 : FL RX0 142 4 1 := ⟨"GeoThreads$Plan", (RX4, TX4, 8), rfl, by decide, (gd_mem (List.mem_of_getElem? (i := 95) (by decide +kernel)) rfl), (Or.inl rfl)⟩
theorem fl_X11_196_4 : FL RX11 196 4 1 := ⟨"GeoThreads$Plan", (RX4, TX4, 8), rfl, by decide, (gd_mem (List.mem_of_getElem? (i := 96) (by decide +kernel)) rfl), (Or.inl rfl)⟩
theorem fl_X4_25_4 : FL RX4 25 4 2 := ⟨"GeoThreads$Plan", (RX4, TX4, 8), rfl, by decide, (gd_mem (List.mem_of_getElem? (i := 97) (by decide +kernel)) rfl), (Or.inl rfl)⟩
theorem fp_X4_25_4 : FP RX4 "<init>" 25 4 2 (.array (.object "GeoThreads$Search")) := ⟨"GeoThreads$Plan", (RX4, TX4, 8), rfl, by decide, (gd_mem (List.mem_of_getElem? (i := 97) (by decide +kernel)) rfl), rfl, by decide +kernel, Or.inr ⟨rfl, rfl, rfl⟩⟩
theorem fl_X0_62_4 : FL RX0 62 4 2 := ⟨"GeoThreads$Plan", (RX4, TX4, 8), rfl, by decide, (gd_mem (List.mem_of_getElem? (i := 98) (by decide +kernel)) rfl), (Or.inl rfl)⟩
theorem fl_X11_137_4 : FL RX11 137 4 2 := ⟨"GeoThreads$Plan", (RX4, TX4, 8), rfl, by decide, (gd_mem (List.mem_of_getElem? (i := 99) (by decide +kernel)) rfl), (Or.inl rfl)⟩
theorem fl_X4_29_4 : FL RX4 29 4 3 := ⟨"GeoThreads$Plan", (RX4, TX4, 8), rfl, by decide, (gd_mem (List.mem_of_getElem? (i := 100) (by decide +kernel)) rfl), (Or.inl rfl)⟩
theorem fp_X4_29_4 : FP RX4 "<init>" 29 4 3 (.array .int) := ⟨"GeoThreads$Plan", (RX4, TX4, 8), rfl, by decide, (gd_mem (List.mem_of_getElem? (i := 100) (by decide +kernel)) rfl), rfl, by decide +kernel, Or.inr ⟨rfl, rfl, rfl⟩⟩
theorem fl_X0_119_4 : FL RX0 119 4 3 := ⟨"GeoThreads$Plan", (RX4, TX4, 8), rfl, by decide, (gd_mem (List.mem_of_getElem? (i := 101) (by decide +kernel)) rfl), (Or.inl rfl)⟩
theorem fl_X11_166_4 : FL RX11 166 4 3 := ⟨"GeoThreads$Plan", (RX4, TX4, 8), rfl, by decide, (gd_mem (List.mem_of_getElem? (i := 102) (by decide +kernel)) rfl), (Or.inl rfl)⟩
theorem fl_X4_33_4 : FL RX4 33 4 4 := ⟨"GeoThreads$Plan", (RX4, TX4, 8), rfl, by decide, (gd_mem (List.mem_of_getElem? (i := 103) (by decide +kernel)) rfl), (Or.inl rfl)⟩
theorem fp_X4_33_4 (mn : String) : FP RX4 mn 33 4 4 .int := ⟨"GeoThreads$Plan", (RX4, TX4, 8), rfl, by decide, (gd_mem (List.mem_of_getElem? (i := 103) (by decide +kernel)) rfl), rfl, by decide +kernel, Or.inl rfl⟩
theorem fl_X11_60_4 : FL RX11 60 4 4 := ⟨"GeoThreads$Plan", (RX4, TX4, 8), rfl, by decide, (gd_mem (List.mem_of_getElem? (i := 104) (by decide +kernel)) rfl), (Or.inl rfl)⟩
theorem fp_X11_60_4 (mn : String) : FP RX11 mn 60 4 4 .int := ⟨"GeoThreads$Plan", (RX4, TX4, 8), rfl, by decide, (gd_mem (List.mem_of_getElem? (i := 104) (by decide +kernel)) rfl), rfl, by decide +kernel, Or.inl rfl⟩
theorem fl_X4_37_4 : FL RX4 37 4 5 := ⟨"GeoThreads$Plan", (RX4, TX4, 8), rfl, by decide, (gd_mem (List.mem_of_getElem? (i := 105) (by decide +kernel)) rfl), (Or.inl rfl)⟩
theorem fp_X4_37_4 (mn : String) : FP RX4 mn 37 4 5 .int := ⟨"GeoThreads$Plan", (RX4, TX4, 8), rfl, by decide, (gd_mem (List.mem_of_getElem? (i := 105) (by decide +kernel)) rfl), rfl, by decide +kernel, Or.inl rfl⟩
theorem fl_X0_102_4 : FL RX0 102 4 5 := ⟨"GeoThreads$Plan", (RX4, TX4, 8), rfl, by decide, (gd_mem (List.mem_of_getElem? (i := 106) (by decide +kernel)) rfl), (Or.inl rfl)⟩
theorem fp_X0_102_4 (mn : String) : FP RX0 mn 102 4 5 .int := ⟨"GeoThreads$Plan", (RX4, TX4, 8), rfl, by decide, (gd_mem (List.mem_of_getElem? (i := 106) (by decide +kernel)) rfl), rfl, by decide +kernel, Or.inl rfl⟩
theorem fl_X11_182_4 : FL RX11 182 4 5 := ⟨"GeoThreads$Plan", (RX4, TX4, 8), rfl, by decide, (gd_mem (List.mem_of_getElem? (i := 107) (by decide +kernel)) rfl), (Or.inl rfl)⟩
theorem fp_X11_182_4 (mn : String) : FP RX11 mn 182 4 5 .int := ⟨"GeoThreads$Plan", (RX4, TX4, 8), rfl, by decide, (gd_mem (List.mem_of_getElem? (i := 107) (by decide +kernel)) rfl), rfl, by decide +kernel, Or.inl rfl⟩
theorem fl_X0_57_4 : FL RX0 57 4 6 := ⟨"GeoThreads$Plan", (RX4, TX4, 8), rfl, by decide, (gd_mem (List.mem_of_getElem? (i := 108) (by decide +kernel)) rfl), (Or.inl rfl)⟩
theorem fp_X0_57_4 (mn : String) : FP RX0 mn 57 4 6 .int := ⟨"GeoThreads$Plan", (RX4, TX4, 8), rfl, by decide, (gd_mem (List.mem_of_getElem? (i := 108) (by decide +kernel)) rfl), rfl, by decide +kernel, Or.inl rfl⟩
theorem fl_X11_134_4 : FL RX11 134 4 6 := ⟨"GeoThreads$Plan", (RX4, TX4, 8), rfl, by decide, (gd_mem (List.mem_of_getElem? (i := 109) (by decide +kernel)) rfl), (Or.inl rfl)⟩
theorem fp_X11_134_4 (mn : String) : FP RX11 mn 134 4 6 .int := ⟨"GeoThreads$Plan", (RX4, TX4, 8), rfl, by decide, (gd_mem (List.mem_of_getElem? (i := 109) (by decide +kernel)) rfl), rfl, by decide +kernel, Or.inl rfl⟩
theorem fl_X0_116_4 : FL RX0 116 4 7 := ⟨"GeoThreads$Plan", (RX4, TX4, 8), rfl, by decide, (gd_mem (List.mem_of_getElem? (i := 110) (by decide +kernel)) rfl), (Or.inl rfl)⟩
theorem fp_X0_116_4 (mn : String) : FP RX0 mn 116 4 7 .int := ⟨"GeoThreads$Plan", (RX4, TX4, 8), rfl, by decide, (gd_mem (List.mem_of_getElem? (i := 110) (by decide +kernel)) rfl), rfl, by decide +kernel, Or.inl rfl⟩
theorem fl_X11_163_4 : FL RX11 163 4 7 := ⟨"GeoThreads$Plan", (RX4, TX4, 8), rfl, by decide, (gd_mem (List.mem_of_getElem? (i := 111) (by decide +kernel)) rfl), (Or.inl rfl)⟩
theorem fp_X11_163_4 (mn : String) : FP RX11 mn 163 4 7 .int := ⟨"GeoThreads$Plan", (RX4, TX4, 8), rfl, by decide, (gd_mem (List.mem_of_getElem? (i := 111) (by decide +kernel)) rfl), rfl, by decide +kernel, Or.inl rfl⟩
theorem ar_int : Cond.arrayClass .int ∈ lw_gd := (gd_mem (List.mem_of_getElem? (i := 129) (by decide +kernel)) rfl)
theorem cl_X11_34 : Cond.classLink RX11 34 "GeoThreads$Course" ∈ lw_gd := (gd_mem (List.mem_of_getElem? (i := 130) (by decide +kernel)) rfl)
theorem it_X0 : Cond.instantiable "GeoThreads$Course" 19 ∈ lw_gd := (gd_mem (List.mem_of_getElem? (i := 131) (by decide +kernel)) rfl)
theorem lk_X11_36 : Cond.methodLink RX11 36 yX0_init ∈ lw_gd := (gd_mem (List.mem_of_getElem? (i := 132) (by decide +kernel)) rfl)
theorem lk_X0_3 : Cond.methodLink RX0 3 Lib.objectInit ∈ lw_gd := (gd_mem (List.mem_of_getElem? (i := 135) (by decide +kernel)) rfl)
theorem cl_X0_9 : Cond.classLink RX0 9 "GeoThreads$Work" ∈ lw_gd := (gd_mem (List.mem_of_getElem? (i := 136) (by decide +kernel)) rfl)
theorem cl_X0_17 : Cond.classLink RX0 17 "GeoThreads$Hunt" ∈ lw_gd := (gd_mem (List.mem_of_getElem? (i := 138) (by decide +kernel)) rfl)
theorem it_X10 : Cond.instantiable "GeoThreads$Work" 13 ∈ lw_gd := (gd_mem (List.mem_of_getElem? (i := 140) (by decide +kernel)) rfl)
theorem ln_X0_23 : Cond.methodLinkNest RX0 23 yX10_init "GeoThreads" ∈ nwL := (nw_mem (List.mem_of_getElem? (i := 141) (by decide +kernel)) rfl)
theorem lk_X10_3 : Cond.methodLink RX10 3 Lib.objectInit ∈ lw_gd := (gd_mem (List.mem_of_getElem? (i := 144) (by decide +kernel)) rfl)
theorem fl_X10_9_9 : FL RX10 9 9 0 := ⟨"GeoThreads$Work", (RX10, TX10, 13), rfl, by decide, (gd_mem (List.mem_of_getElem? (i := 145) (by decide +kernel)) rfl), (Or.inl rfl)⟩
theorem fp_X10_9_9 (mn : String) : FP RX10 mn 9 9 0 .int := ⟨"GeoThreads$Work", (RX10, TX10, 13), rfl, by decide, (gd_mem (List.mem_of_getElem? (i := 145) (by decide +kernel)) rfl), rfl, by decide +kernel, Or.inl rfl⟩
theorem fl_X7_25_9 : FL RX7 25 9 0 := ⟨"GeoThreads$Work", (RX10, TX10, 13), rfl, by decide, (gd_mem (List.mem_of_getElem? (i := 146) (by decide +kernel)) rfl), (Or.inl rfl)⟩
theorem fp_X7_25_9 (mn : String) : FP RX7 mn 25 9 0 .int := ⟨"GeoThreads$Work", (RX10, TX10, 13), rfl, by decide, (gd_mem (List.mem_of_getElem? (i := 146) (by decide +kernel)) rfl), rfl, by decide +kernel, Or.inl rfl⟩
theorem fl_X9_38_9 : FL RX9 38 9 0 := ⟨"GeoThreads$Work", (RX10, TX10, 13), rfl, by decide, (gd_mem (List.mem_of_getElem? (i := 147) (by decide +kernel)) rfl), (Or.inl rfl)⟩
theorem fp_X9_38_9 (mn : String) : FP RX9 mn 38 9 0 .int := ⟨"GeoThreads$Work", (RX10, TX10, 13), rfl, by decide, (gd_mem (List.mem_of_getElem? (i := 147) (by decide +kernel)) rfl), rfl, by decide +kernel, Or.inl rfl⟩
theorem fl_X5_63_9 : FL RX5 63 9 0 := ⟨"GeoThreads$Work", (RX10, TX10, 13), rfl, by decide, (gd_mem (List.mem_of_getElem? (i := 148) (by decide +kernel)) rfl), (Or.inl rfl)⟩
theorem fp_X5_63_9 (mn : String) : FP RX5 mn 63 9 0 .int := ⟨"GeoThreads$Work", (RX10, TX10, 13), rfl, by decide, (gd_mem (List.mem_of_getElem? (i := 148) (by decide +kernel)) rfl), rfl, by decide +kernel, Or.inl rfl⟩
theorem fl_X0_135_9 : FL RX0 135 9 0 := ⟨"GeoThreads$Work", (RX10, TX10, 13), rfl, by decide, (gd_mem (List.mem_of_getElem? (i := 149) (by decide +kernel)) rfl), (Or.inl rfl)⟩
theorem fp_X0_135_9 (mn : String) : FP RX0 mn 135 9 0 .int := ⟨"GeoThreads$Work", (RX10, TX10, 13), rfl, by decide, (gd_mem (List.mem_of_getElem? (i := 149) (by decide +kernel)) rfl), rfl, by decide +kernel, Or.inl rfl⟩
theorem fl_X11_205_9 : FL RX11 205 9 0 := ⟨"GeoThreads$Work", (RX10, TX10, 13), rfl, by decide, (gd_mem (List.mem_of_getElem? (i := 150) (by decide +kernel)) rfl), (Or.inl rfl)⟩
theorem fp_X11_205_9 (mn : String) : FP RX11 mn 205 9 0 .int := ⟨"GeoThreads$Work", (RX10, TX10, 13), rfl, by decide, (gd_mem (List.mem_of_getElem? (i := 150) (by decide +kernel)) rfl), rfl, by decide +kernel, Or.inl rfl⟩
theorem fl_X10_15_9 : FL RX10 15 9 1 := ⟨"GeoThreads$Work", (RX10, TX10, 13), rfl, by decide, (gd_mem (List.mem_of_getElem? (i := 151) (by decide +kernel)) rfl), (Or.inl rfl)⟩
theorem fp_X10_15_9 (mn : String) : FP RX10 mn 15 9 1 .int := ⟨"GeoThreads$Work", (RX10, TX10, 13), rfl, by decide, (gd_mem (List.mem_of_getElem? (i := 151) (by decide +kernel)) rfl), rfl, by decide +kernel, Or.inl rfl⟩
theorem fl_X11_210_9 : FL RX11 210 9 1 := ⟨"GeoThreads$Work", (RX10, TX10, 13), rfl, by decide, (gd_mem (List.mem_of_getElem? (i := 152) (by decide +kernel)) rfl), (Or.inl rfl)⟩
theorem fp_X11_210_9 (mn : String) : FP RX11 mn 210 9 1 .int := ⟨"GeoThreads$Work", (RX10, TX10, 13), rfl, by decide, (gd_mem (List.mem_of_getElem? (i := 152) (by decide +kernel)) rfl), rfl, by decide +kernel, Or.inl rfl⟩
theorem fl_X0_229_9 : FL RX0 229 9 1 := ⟨"GeoThreads$Work", (RX10, TX10, 13), rfl, by decide, (gd_mem (List.mem_of_getElem? (i := 153) (by decide +kernel)) rfl), (Or.inl rfl)⟩
theorem fp_X0_229_9 (mn : String) : FP RX0 mn 229 9 1 .int := ⟨"GeoThreads$Work", (RX10, TX10, 13), rfl, by decide, (gd_mem (List.mem_of_getElem? (i := 153) (by decide +kernel)) rfl), rfl, by decide +kernel, Or.inl rfl⟩
theorem fl_X10_18_9 : FL RX10 18 9 2 := ⟨"GeoThreads$Work", (RX10, TX10, 13), rfl, by decide, (gd_mem (List.mem_of_getElem? (i := 154) (by decide +kernel)) rfl), (Or.inl rfl)⟩
theorem fp_X10_18_9 (mn : String) : FP RX10 mn 18 9 2 .int := ⟨"GeoThreads$Work", (RX10, TX10, 13), rfl, by decide, (gd_mem (List.mem_of_getElem? (i := 154) (by decide +kernel)) rfl), rfl, by decide +kernel, Or.inl rfl⟩
theorem fl_X8_21_9 : FL RX8 21 9 2 := ⟨"GeoThreads$Work", (RX10, TX10, 13), rfl, by decide, (gd_mem (List.mem_of_getElem? (i := 155) (by decide +kernel)) rfl), (Or.inl rfl)⟩
theorem fp_X8_21_9 (mn : String) : FP RX8 mn 21 9 2 .int := ⟨"GeoThreads$Work", (RX10, TX10, 13), rfl, by decide, (gd_mem (List.mem_of_getElem? (i := 155) (by decide +kernel)) rfl), rfl, by decide +kernel, Or.inl rfl⟩
theorem fl_X0_171_9 : FL RX0 171 9 2 := ⟨"GeoThreads$Work", (RX10, TX10, 13), rfl, by decide, (gd_mem (List.mem_of_getElem? (i := 156) (by decide +kernel)) rfl), (Or.inl rfl)⟩
theorem fp_X0_171_9 (mn : String) : FP RX0 mn 171 9 2 .int := ⟨"GeoThreads$Work", (RX10, TX10, 13), rfl, by decide, (gd_mem (List.mem_of_getElem? (i := 156) (by decide +kernel)) rfl), rfl, by decide +kernel, Or.inl rfl⟩
theorem fl_X11_213_9 : FL RX11 213 9 2 := ⟨"GeoThreads$Work", (RX10, TX10, 13), rfl, by decide, (gd_mem (List.mem_of_getElem? (i := 157) (by decide +kernel)) rfl), (Or.inl rfl)⟩
theorem fp_X11_213_9 (mn : String) : FP RX11 mn 213 9 2 .int := ⟨"GeoThreads$Work", (RX10, TX10, 13), rfl, by decide, (gd_mem (List.mem_of_getElem? (i := 157) (by decide +kernel)) rfl), rfl, by decide +kernel, Or.inl rfl⟩
theorem fl_X10_21_9 : FL RX10 21 9 3 := ⟨"GeoThreads$Work", (RX10, TX10, 13), rfl, by decide, (gd_mem (List.mem_of_getElem? (i := 158) (by decide +kernel)) rfl), (Or.inl rfl)⟩
theorem fp_X10_21_9 (mn : String) : FP RX10 mn 21 9 3 .int := ⟨"GeoThreads$Work", (RX10, TX10, 13), rfl, by decide, (gd_mem (List.mem_of_getElem? (i := 158) (by decide +kernel)) rfl), rfl, by decide +kernel, Or.inl rfl⟩
theorem fl_X0_141_9 : FL RX0 141 9 3 := ⟨"GeoThreads$Work", (RX10, TX10, 13), rfl, by decide, (gd_mem (List.mem_of_getElem? (i := 159) (by decide +kernel)) rfl), (Or.inl rfl)⟩
theorem fp_X0_141_9 (mn : String) : FP RX0 mn 141 9 3 .int := ⟨"GeoThreads$Work", (RX10, TX10, 13), rfl, by decide, (gd_mem (List.mem_of_getElem? (i := 159) (by decide +kernel)) rfl), rfl, by decide +kernel, Or.inl rfl⟩
theorem fl_X11_216_9 : FL RX11 216 9 3 := ⟨"GeoThreads$Work", (RX10, TX10, 13), rfl, by decide, (gd_mem (List.mem_of_getElem? (i := 160) (by decide +kernel)) rfl), (Or.inl rfl)⟩
theorem fp_X11_216_9 (mn : String) : FP RX11 mn 216 9 3 .int := ⟨"GeoThreads$Work", (RX10, TX10, 13), rfl, by decide, (gd_mem (List.mem_of_getElem? (i := 160) (by decide +kernel)) rfl), rfl, by decide +kernel, Or.inl rfl⟩
theorem fl_X10_24_9 : FL RX10 24 9 4 := ⟨"GeoThreads$Work", (RX10, TX10, 13), rfl, by decide, (gd_mem (List.mem_of_getElem? (i := 161) (by decide +kernel)) rfl), (Or.inl rfl)⟩
theorem fp_X10_24_9 (mn : String) : FP RX10 mn 24 9 4 .int := ⟨"GeoThreads$Work", (RX10, TX10, 13), rfl, by decide, (gd_mem (List.mem_of_getElem? (i := 161) (by decide +kernel)) rfl), rfl, by decide +kernel, Or.inl rfl⟩
theorem fl_X9_25_9 : FL RX9 25 9 4 := ⟨"GeoThreads$Work", (RX10, TX10, 13), rfl, by decide, (gd_mem (List.mem_of_getElem? (i := 162) (by decide +kernel)) rfl), (Or.inl rfl)⟩
theorem fp_X9_25_9 (mn : String) : FP RX9 mn 25 9 4 .int := ⟨"GeoThreads$Work", (RX10, TX10, 13), rfl, by decide, (gd_mem (List.mem_of_getElem? (i := 162) (by decide +kernel)) rfl), rfl, by decide +kernel, Or.inl rfl⟩
theorem fl_X11_219_9 : FL RX11 219 9 4 := ⟨"GeoThreads$Work", (RX10, TX10, 13), rfl, by decide, (gd_mem (List.mem_of_getElem? (i := 163) (by decide +kernel)) rfl), (Or.inl rfl)⟩
theorem fp_X11_219_9 (mn : String) : FP RX11 mn 219 9 4 .int := ⟨"GeoThreads$Work", (RX10, TX10, 13), rfl, by decide, (gd_mem (List.mem_of_getElem? (i := 163) (by decide +kernel)) rfl), rfl, by decide +kernel, Or.inl rfl⟩
theorem fl_X10_27_9 : FL RX10 27 9 5 := ⟨"GeoThreads$Work", (RX10, TX10, 13), rfl, by decide, (gd_mem (List.mem_of_getElem? (i := 164) (by decide +kernel)) rfl), (Or.inl rfl)⟩
theorem fp_X10_27_9 (mn : String) : FP RX10 mn 27 9 5 .int := ⟨"GeoThreads$Work", (RX10, TX10, 13), rfl, by decide, (gd_mem (List.mem_of_getElem? (i := 164) (by decide +kernel)) rfl), rfl, by decide +kernel, Or.inl rfl⟩
theorem fl_X0_138_9 : FL RX0 138 9 5 := ⟨"GeoThreads$Work", (RX10, TX10, 13), rfl, by decide, (gd_mem (List.mem_of_getElem? (i := 165) (by decide +kernel)) rfl), (Or.inl rfl)⟩
theorem fp_X0_138_9 (mn : String) : FP RX0 mn 138 9 5 .int := ⟨"GeoThreads$Work", (RX10, TX10, 13), rfl, by decide, (gd_mem (List.mem_of_getElem? (i := 165) (by decide +kernel)) rfl), rfl, by decide +kernel, Or.inl rfl⟩
theorem fl_X11_222_9 : FL RX11 222 9 5 := ⟨"GeoThreads$Work", (RX10, TX10, 13), rfl, by decide, (gd_mem (List.mem_of_getElem? (i := 166) (by decide +kernel)) rfl), (Or.inl rfl)⟩
theorem fp_X11_222_9 (mn : String) : FP RX11 mn 222 9 5 .int := ⟨"GeoThreads$Work", (RX10, TX10, 13), rfl, by decide, (gd_mem (List.mem_of_getElem? (i := 166) (by decide +kernel)) rfl), rfl, by decide +kernel, Or.inl rfl⟩
theorem fl_X10_30_9 : FL RX10 30 9 6 := ⟨"GeoThreads$Work", (RX10, TX10, 13), rfl, by decide, (gd_mem (List.mem_of_getElem? (i := 167) (by decide +kernel)) rfl), (Or.inl rfl)⟩
theorem fp_X10_30_9 (mn : String) : FP RX10 mn 30 9 6 .int := ⟨"GeoThreads$Work", (RX10, TX10, 13), rfl, by decide, (gd_mem (List.mem_of_getElem? (i := 167) (by decide +kernel)) rfl), rfl, by decide +kernel, Or.inl rfl⟩
theorem fl_X5_66_9 : FL RX5 66 9 6 := ⟨"GeoThreads$Work", (RX10, TX10, 13), rfl, by decide, (gd_mem (List.mem_of_getElem? (i := 168) (by decide +kernel)) rfl), (Or.inl rfl)⟩
theorem fp_X5_66_9 (mn : String) : FP RX5 mn 66 9 6 .int := ⟨"GeoThreads$Work", (RX10, TX10, 13), rfl, by decide, (gd_mem (List.mem_of_getElem? (i := 168) (by decide +kernel)) rfl), rfl, by decide +kernel, Or.inl rfl⟩
theorem fl_X0_206_9 : FL RX0 206 9 6 := ⟨"GeoThreads$Work", (RX10, TX10, 13), rfl, by decide, (gd_mem (List.mem_of_getElem? (i := 169) (by decide +kernel)) rfl), (Or.inl rfl)⟩
theorem fp_X0_206_9 (mn : String) : FP RX0 mn 206 9 6 .int := ⟨"GeoThreads$Work", (RX10, TX10, 13), rfl, by decide, (gd_mem (List.mem_of_getElem? (i := 169) (by decide +kernel)) rfl), rfl, by decide +kernel, Or.inl rfl⟩
theorem fl_X11_225_9 : FL RX11 225 9 6 := ⟨"GeoThreads$Work", (RX10, TX10, 13), rfl, by decide, (gd_mem (List.mem_of_getElem? (i := 170) (by decide +kernel)) rfl), (Or.inl rfl)⟩
theorem fp_X11_225_9 (mn : String) : FP RX11 mn 225 9 6 .int := ⟨"GeoThreads$Work", (RX10, TX10, 13), rfl, by decide, (gd_mem (List.mem_of_getElem? (i := 170) (by decide +kernel)) rfl), rfl, by decide +kernel, Or.inl rfl⟩
theorem fl_X10_33_9 : FL RX10 33 9 7 := ⟨"GeoThreads$Work", (RX10, TX10, 13), rfl, by decide, (gd_mem (List.mem_of_getElem? (i := 171) (by decide +kernel)) rfl), (Or.inl rfl)⟩
theorem fp_X10_33_9 (mn : String) : FP RX10 mn 33 9 7 .int := ⟨"GeoThreads$Work", (RX10, TX10, 13), rfl, by decide, (gd_mem (List.mem_of_getElem? (i := 171) (by decide +kernel)) rfl), rfl, by decide +kernel, Or.inl rfl⟩
theorem fl_X5_31_9 : FL RX5 31 9 7 := ⟨"GeoThreads$Work", (RX10, TX10, 13), rfl, by decide, (gd_mem (List.mem_of_getElem? (i := 172) (by decide +kernel)) rfl), (Or.inl rfl)⟩
theorem fp_X5_31_9 (mn : String) : FP RX5 mn 31 9 7 .int := ⟨"GeoThreads$Work", (RX10, TX10, 13), rfl, by decide, (gd_mem (List.mem_of_getElem? (i := 172) (by decide +kernel)) rfl), rfl, by decide +kernel, Or.inl rfl⟩
theorem fl_X7_42_9 : FL RX7 42 9 7 := ⟨"GeoThreads$Work", (RX10, TX10, 13), rfl, by decide, (gd_mem (List.mem_of_getElem? (i := 173) (by decide +kernel)) rfl), (Or.inl rfl)⟩
theorem fp_X7_42_9 (mn : String) : FP RX7 mn 42 9 7 .int := ⟨"GeoThreads$Work", (RX10, TX10, 13), rfl, by decide, (gd_mem (List.mem_of_getElem? (i := 173) (by decide +kernel)) rfl), rfl, by decide +kernel, Or.inl rfl⟩
theorem fl_X10_36_9 : FL RX10 36 9 8 := ⟨"GeoThreads$Work", (RX10, TX10, 13), rfl, by decide, (gd_mem (List.mem_of_getElem? (i := 174) (by decide +kernel)) rfl), (Or.inl rfl)⟩
theorem fp_X10_36_9 (mn : String) : FP RX10 mn 36 9 8 .int := ⟨"GeoThreads$Work", (RX10, TX10, 13), rfl, by decide, (gd_mem (List.mem_of_getElem? (i := 174) (by decide +kernel)) rfl), rfl, by decide +kernel, Or.inl rfl⟩
theorem fl_X5_42_9 : FL RX5 42 9 8 := ⟨"GeoThreads$Work", (RX10, TX10, 13), rfl, by decide, (gd_mem (List.mem_of_getElem? (i := 175) (by decide +kernel)) rfl), (Or.inl rfl)⟩
theorem fp_X5_42_9 (mn : String) : FP RX5 mn 42 9 8 .int := ⟨"GeoThreads$Work", (RX10, TX10, 13), rfl, by decide, (gd_mem (List.mem_of_getElem? (i := 175) (by decide +kernel)) rfl), rfl, by decide +kernel, Or.inl rfl⟩
theorem fl_X7_65_9 : FL RX7 65 9 8 := ⟨"GeoThreads$Work", (RX10, TX10, 13), rfl, by decide, (gd_mem (List.mem_of_getElem? (i := 176) (by decide +kernel)) rfl), (Or.inl rfl)⟩
theorem fp_X7_65_9 (mn : String) : FP RX7 mn 65 9 8 .int := ⟨"GeoThreads$Work", (RX10, TX10, 13), rfl, by decide, (gd_mem (List.mem_of_getElem? (i := 176) (by decide +kernel)) rfl), rfl, by decide +kernel, Or.inl rfl⟩
theorem fl_X10_39_9 : FL RX10 39 9 9 := ⟨"GeoThreads$Work", (RX10, TX10, 13), rfl, by decide, (gd_mem (List.mem_of_getElem? (i := 177) (by decide +kernel)) rfl), (Or.inl rfl)⟩
theorem fp_X10_39_9 (mn : String) : FP RX10 mn 39 9 9 .long := ⟨"GeoThreads$Work", (RX10, TX10, 13), rfl, by decide, (gd_mem (List.mem_of_getElem? (i := 177) (by decide +kernel)) rfl), rfl, by decide +kernel, Or.inl rfl⟩
theorem fl_X7_85_9 : FL RX7 85 9 9 := ⟨"GeoThreads$Work", (RX10, TX10, 13), rfl, by decide, (gd_mem (List.mem_of_getElem? (i := 178) (by decide +kernel)) rfl), (Or.inl rfl)⟩
theorem fp_X7_85_9 (mn : String) : FP RX7 mn 85 9 9 .long := ⟨"GeoThreads$Work", (RX10, TX10, 13), rfl, by decide, (gd_mem (List.mem_of_getElem? (i := 178) (by decide +kernel)) rfl), rfl, by decide +kernel, Or.inl rfl⟩
theorem fl_X10_43_9 : FL RX10 43 9 10 := ⟨"GeoThreads$Work", (RX10, TX10, 13), rfl, by decide, (gd_mem (List.mem_of_getElem? (i := 179) (by decide +kernel)) rfl), (Or.inl rfl)⟩
theorem fp_X10_43_9 (mn : String) : FP RX10 mn 43 9 10 .long := ⟨"GeoThreads$Work", (RX10, TX10, 13), rfl, by decide, (gd_mem (List.mem_of_getElem? (i := 179) (by decide +kernel)) rfl), rfl, by decide +kernel, Or.inl rfl⟩
theorem fl_X5_69_9 : FL RX5 69 9 10 := ⟨"GeoThreads$Work", (RX10, TX10, 13), rfl, by decide, (gd_mem (List.mem_of_getElem? (i := 180) (by decide +kernel)) rfl), (Or.inl rfl)⟩
theorem fp_X5_69_9 (mn : String) : FP RX5 mn 69 9 10 .long := ⟨"GeoThreads$Work", (RX10, TX10, 13), rfl, by decide, (gd_mem (List.mem_of_getElem? (i := 180) (by decide +kernel)) rfl), rfl, by decide +kernel, Or.inl rfl⟩
theorem fl_X10_46_9 : FL RX10 46 9 11 := ⟨"GeoThreads$Work", (RX10, TX10, 13), rfl, by decide, (gd_mem (List.mem_of_getElem? (i := 181) (by decide +kernel)) rfl), (Or.inl rfl)⟩
theorem fp_X10_46_9 (mn : String) : FP RX10 mn 46 9 11 .boolean := ⟨"GeoThreads$Work", (RX10, TX10, 13), rfl, by decide, (gd_mem (List.mem_of_getElem? (i := 181) (by decide +kernel)) rfl), rfl, by decide +kernel, Or.inl rfl⟩
theorem fl_X0_161_9 : FL RX0 161 9 11 := ⟨"GeoThreads$Work", (RX10, TX10, 13), rfl, by decide, (gd_mem (List.mem_of_getElem? (i := 182) (by decide +kernel)) rfl), (Or.inl rfl)⟩
theorem fp_X0_161_9 (mn : String) : FP RX0 mn 161 9 11 .boolean := ⟨"GeoThreads$Work", (RX10, TX10, 13), rfl, by decide, (gd_mem (List.mem_of_getElem? (i := 182) (by decide +kernel)) rfl), rfl, by decide +kernel, Or.inl rfl⟩
theorem fl_X10_50_9 : FL RX10 50 9 12 := ⟨"GeoThreads$Work", (RX10, TX10, 13), rfl, by decide, (gd_mem (List.mem_of_getElem? (i := 183) (by decide +kernel)) rfl), (Or.inl rfl)⟩
theorem fp_X10_50_9 (mn : String) : FP RX10 mn 50 9 12 .boolean := ⟨"GeoThreads$Work", (RX10, TX10, 13), rfl, by decide, (gd_mem (List.mem_of_getElem? (i := 183) (by decide +kernel)) rfl), rfl, by decide +kernel, Or.inl rfl⟩
theorem fl_X0_164_9 : FL RX0 164 9 12 := ⟨"GeoThreads$Work", (RX10, TX10, 13), rfl, by decide, (gd_mem (List.mem_of_getElem? (i := 184) (by decide +kernel)) rfl), (Or.inl rfl)⟩
theorem fp_X0_164_9 (mn : String) : FP RX0 mn 164 9 12 .boolean := ⟨"GeoThreads$Work", (RX10, TX10, 13), rfl, by decide, (gd_mem (List.mem_of_getElem? (i := 184) (by decide +kernel)) rfl), rfl, by decide +kernel, Or.inl rfl⟩
theorem it_X2 : Cond.instantiable "GeoThreads$Hunt" 3 ∈ lw_gd := (gd_mem (List.mem_of_getElem? (i := 212) (by decide +kernel)) rfl)
theorem ln_X0_53 : Cond.methodLinkNest RX0 53 yX2_init "GeoThreads" ∈ nwL := (nw_mem (List.mem_of_getElem? (i := 213) (by decide +kernel)) rfl)
theorem lk_X2_3 : Cond.methodLink RX2 3 Lib.objectInit ∈ lw_gd := (gd_mem (List.mem_of_getElem? (i := 216) (by decide +kernel)) rfl)
theorem fl_X2_9_2 : FL RX2 9 2 0 := ⟨"GeoThreads$Hunt", (RX2, TX2, 3), rfl, by decide, (gd_mem (List.mem_of_getElem? (i := 217) (by decide +kernel)) rfl), (Or.inl rfl)⟩
theorem fp_X2_9_2 (mn : String) : FP RX2 mn 9 2 0 .long := ⟨"GeoThreads$Hunt", (RX2, TX2, 3), rfl, by decide, (gd_mem (List.mem_of_getElem? (i := 217) (by decide +kernel)) rfl), rfl, by decide +kernel, Or.inl rfl⟩
theorem fl_X0_226_2 : FL RX0 226 2 0 := ⟨"GeoThreads$Hunt", (RX2, TX2, 3), rfl, by decide, (gd_mem (List.mem_of_getElem? (i := 218) (by decide +kernel)) rfl), (Or.inl rfl)⟩
theorem fp_X0_226_2 (mn : String) : FP RX0 mn 226 2 0 .long := ⟨"GeoThreads$Hunt", (RX2, TX2, 3), rfl, by decide, (gd_mem (List.mem_of_getElem? (i := 218) (by decide +kernel)) rfl), rfl, by decide +kernel, Or.inl rfl⟩
theorem fl_X11_236_2 : FL RX11 236 2 0 := ⟨"GeoThreads$Hunt", (RX2, TX2, 3), rfl, by decide, (gd_mem (List.mem_of_getElem? (i := 219) (by decide +kernel)) rfl), (Or.inl rfl)⟩
theorem fp_X11_236_2 (mn : String) : FP RX11 mn 236 2 0 .long := ⟨"GeoThreads$Hunt", (RX2, TX2, 3), rfl, by decide, (gd_mem (List.mem_of_getElem? (i := 219) (by decide +kernel)) rfl), rfl, by decide +kernel, Or.inl rfl⟩
theorem fl_X2_15_2 : FL RX2 15 2 1 := ⟨"GeoThreads$Hunt", (RX2, TX2, 3), rfl, by decide, (gd_mem (List.mem_of_getElem? (i := 220) (by decide +kernel)) rfl), (Or.inl rfl)⟩
theorem fp_X2_15_2 (mn : String) : FP RX2 mn 15 2 1 .int := ⟨"GeoThreads$Hunt", (RX2, TX2, 3), rfl, by decide, (gd_mem (List.mem_of_getElem? (i := 220) (by decide +kernel)) rfl), rfl, by decide +kernel, Or.inl rfl⟩
theorem fl_X0_223_2 : FL RX0 223 2 1 := ⟨"GeoThreads$Hunt", (RX2, TX2, 3), rfl, by decide, (gd_mem (List.mem_of_getElem? (i := 221) (by decide +kernel)) rfl), (Or.inl rfl)⟩
theorem fp_X0_223_2 (mn : String) : FP RX0 mn 223 2 1 .int := ⟨"GeoThreads$Hunt", (RX2, TX2, 3), rfl, by decide, (gd_mem (List.mem_of_getElem? (i := 221) (by decide +kernel)) rfl), rfl, by decide +kernel, Or.inl rfl⟩
theorem fl_X11_233_2 : FL RX11 233 2 1 := ⟨"GeoThreads$Hunt", (RX2, TX2, 3), rfl, by decide, (gd_mem (List.mem_of_getElem? (i := 222) (by decide +kernel)) rfl), (Or.inl rfl)⟩
theorem fp_X11_233_2 (mn : String) : FP RX11 mn 233 2 1 .int := ⟨"GeoThreads$Hunt", (RX2, TX2, 3), rfl, by decide, (gd_mem (List.mem_of_getElem? (i := 222) (by decide +kernel)) rfl), rfl, by decide +kernel, Or.inl rfl⟩
theorem fl_X2_19_2 : FL RX2 19 2 2 := ⟨"GeoThreads$Hunt", (RX2, TX2, 3), rfl, by decide, (gd_mem (List.mem_of_getElem? (i := 223) (by decide +kernel)) rfl), (Or.inl rfl)⟩
theorem fp_X2_19_2 (mn : String) : FP RX2 mn 19 2 2 .long := ⟨"GeoThreads$Hunt", (RX2, TX2, 3), rfl, by decide, (gd_mem (List.mem_of_getElem? (i := 223) (by decide +kernel)) rfl), rfl, by decide +kernel, Or.inl rfl⟩
theorem fl_X7_89_2 : FL RX7 89 2 2 := ⟨"GeoThreads$Hunt", (RX2, TX2, 3), rfl, by decide, (gd_mem (List.mem_of_getElem? (i := 224) (by decide +kernel)) rfl), (Or.inl rfl)⟩
theorem fp_X7_89_2 (mn : String) : FP RX7 mn 89 2 2 .long := ⟨"GeoThreads$Hunt", (RX2, TX2, 3), rfl, by decide, (gd_mem (List.mem_of_getElem? (i := 224) (by decide +kernel)) rfl), rfl, by decide +kernel, Or.inl rfl⟩
theorem fl_X11_240_2 : FL RX11 240 2 2 := ⟨"GeoThreads$Hunt", (RX2, TX2, 3), rfl, by decide, (gd_mem (List.mem_of_getElem? (i := 225) (by decide +kernel)) rfl), (Or.inl rfl)⟩
theorem fp_X11_240_2 (mn : String) : FP RX11 mn 240 2 2 .long := ⟨"GeoThreads$Hunt", (RX2, TX2, 3), rfl, by decide, (gd_mem (List.mem_of_getElem? (i := 225) (by decide +kernel)) rfl), rfl, by decide +kernel, Or.inl rfl⟩
theorem fl_X0_42_0 : FL RX0 42 0 0 := ⟨"GeoThreads$Course", (RX0, TX0, 19), rfl, by decide, (gd_mem (List.mem_of_getElem? (i := 233) (by decide +kernel)) rfl), (Or.inl rfl)⟩
theorem fp_X0_42_0 : FP RX0 "<init>" 42 0 0 (.object "GeoThreads$Plan") := ⟨"GeoThreads$Course", (RX0, TX0, 19), rfl, by decide, (gd_mem (List.mem_of_getElem? (i := 233) (by decide +kernel)) rfl), rfl, by decide +kernel, Or.inr ⟨rfl, rfl, rfl⟩⟩
theorem fl_X0_46_0 : FL RX0 46 0 1 := ⟨"GeoThreads$Course", (RX0, TX0, 19), rfl, by decide, (gd_mem (List.mem_of_getElem? (i := 234) (by decide +kernel)) rfl), (Or.inl rfl)⟩
theorem fp_X0_46_0 : FP RX0 "<init>" 46 0 1 .int := ⟨"GeoThreads$Course", (RX0, TX0, 19), rfl, by decide, (gd_mem (List.mem_of_getElem? (i := 234) (by decide +kernel)) rfl), rfl, by decide +kernel, Or.inr ⟨rfl, rfl, rfl⟩⟩
theorem fl_X0_49_0 : FL RX0 49 0 2 := ⟨"GeoThreads$Course", (RX0, TX0, 19), rfl, by decide, (gd_mem (List.mem_of_getElem? (i := 235) (by decide +kernel)) rfl), (Or.inl rfl)⟩
theorem fp_X0_49_0 : FP RX0 "<init>" 49 0 2 .boolean := ⟨"GeoThreads$Course", (RX0, TX0, 19), rfl, by decide, (gd_mem (List.mem_of_getElem? (i := 235) (by decide +kernel)) rfl), rfl, by decide +kernel, Or.inr ⟨rfl, rfl, rfl⟩⟩
theorem fl_X0_11_0 : FL RX0 11 0 3 := ⟨"GeoThreads$Course", (RX0, TX0, 19), rfl, by decide, (gd_mem (List.mem_of_getElem? (i := 236) (by decide +kernel)) rfl), (Or.inl rfl)⟩
theorem fp_X0_11_0 : FP RX0 "<init>" 11 0 3 (.array (.object "GeoThreads$Work")) := ⟨"GeoThreads$Course", (RX0, TX0, 19), rfl, by decide, (gd_mem (List.mem_of_getElem? (i := 236) (by decide +kernel)) rfl), rfl, by decide +kernel, Or.inr ⟨rfl, rfl, rfl⟩⟩
theorem fl_X11_192_0 : FL RX11 192 0 3 := ⟨"GeoThreads$Course", (RX0, TX0, 19), rfl, by decide, (gd_mem (List.mem_of_getElem? (i := 237) (by decide +kernel)) rfl), (Or.inl rfl)⟩
theorem fl_X0_19_0 : FL RX0 19 0 4 := ⟨"GeoThreads$Course", (RX0, TX0, 19), rfl, by decide, (gd_mem (List.mem_of_getElem? (i := 238) (by decide +kernel)) rfl), (Or.inl rfl)⟩
theorem fp_X0_19_0 : FP RX0 "<init>" 19 0 4 (.array (.object "GeoThreads$Hunt")) := ⟨"GeoThreads$Course", (RX0, TX0, 19), rfl, by decide, (gd_mem (List.mem_of_getElem? (i := 238) (by decide +kernel)) rfl), rfl, by decide +kernel, Or.inr ⟨rfl, rfl, rfl⟩⟩
theorem fl_X11_146_0 : FL RX11 146 0 4 := ⟨"GeoThreads$Course", (RX0, TX0, 19), rfl, by decide, (gd_mem (List.mem_of_getElem? (i := 239) (by decide +kernel)) rfl), (Or.inl rfl)⟩
theorem fl_X0_24_0 : FL RX0 24 0 5 := ⟨"GeoThreads$Course", (RX0, TX0, 19), rfl, by decide, (gd_mem (List.mem_of_getElem? (i := 240) (by decide +kernel)) rfl), (Or.inl rfl)⟩
theorem fp_X0_24_0 : FP RX0 "<init>" 24 0 5 (.object "GeoThreads$Work") := ⟨"GeoThreads$Course", (RX0, TX0, 19), rfl, by decide, (gd_mem (List.mem_of_getElem? (i := 240) (by decide +kernel)) rfl), rfl, by decide +kernel, Or.inr ⟨rfl, rfl, rfl⟩⟩
theorem fl_X0_28_0 : FL RX0 28 0 6 := ⟨"GeoThreads$Course", (RX0, TX0, 19), rfl, by decide, (gd_mem (List.mem_of_getElem? (i := 241) (by decide +kernel)) rfl), (Or.inl rfl)⟩
theorem fp_X0_28_0 : FP RX0 "<init>" 28 0 6 (.array .int) := ⟨"GeoThreads$Course", (RX0, TX0, 19), rfl, by decide, (gd_mem (List.mem_of_getElem? (i := 241) (by decide +kernel)) rfl), rfl, by decide +kernel, Or.inr ⟨rfl, rfl, rfl⟩⟩
theorem fl_X0_32_0 : FL RX0 32 0 7 := ⟨"GeoThreads$Course", (RX0, TX0, 19), rfl, by decide, (gd_mem (List.mem_of_getElem? (i := 242) (by decide +kernel)) rfl), (Or.inl rfl)⟩
theorem fp_X0_32_0 : FP RX0 "<init>" 32 0 7 (.array .int) := ⟨"GeoThreads$Course", (RX0, TX0, 19), rfl, by decide, (gd_mem (List.mem_of_getElem? (i := 242) (by decide +kernel)) rfl), rfl, by decide +kernel, Or.inr ⟨rfl, rfl, rfl⟩⟩
theorem fl_X11_252_0 : FL RX11 252 0 7 := ⟨"GeoThreads$Course", (RX0, TX0, 19), rfl, by decide, (gd_mem (List.mem_of_getElem? (i := 243) (by decide +kernel)) rfl), (Or.inl rfl)⟩
theorem fl_X0_35_0 : FL RX0 35 0 8 := ⟨"GeoThreads$Course", (RX0, TX0, 19), rfl, by decide, (gd_mem (List.mem_of_getElem? (i := 244) (by decide +kernel)) rfl), (Or.inl rfl)⟩
theorem fp_X0_35_0 : FP RX0 "<init>" 35 0 8 (.array .int) := ⟨"GeoThreads$Course", (RX0, TX0, 19), rfl, by decide, (gd_mem (List.mem_of_getElem? (i := 244) (by decide +kernel)) rfl), rfl, by decide +kernel, Or.inr ⟨rfl, rfl, rfl⟩⟩
theorem fl_X11_249_0 : FL RX11 249 0 8 := ⟨"GeoThreads$Course", (RX0, TX0, 19), rfl, by decide, (gd_mem (List.mem_of_getElem? (i := 245) (by decide +kernel)) rfl), (Or.inl rfl)⟩
theorem fl_X0_75_0 : FL RX0 75 0 9 := ⟨"GeoThreads$Course", (RX0, TX0, 19), rfl, by decide, (gd_mem (List.mem_of_getElem? (i := 246) (by decide +kernel)) rfl), (Or.inl rfl)⟩
theorem fp_X0_75_0 (mn : String) : FP RX0 mn 75 0 9 .int := ⟨"GeoThreads$Course", (RX0, TX0, 19), rfl, by decide, (gd_mem (List.mem_of_getElem? (i := 246) (by decide +kernel)) rfl), rfl, by decide +kernel, Or.inl rfl⟩
theorem fl_X11_246_0 : FL RX11 246 0 9 := ⟨"GeoThreads$Course", (RX0, TX0, 19), rfl, by decide, (gd_mem (List.mem_of_getElem? (i := 247) (by decide +kernel)) rfl), (Or.inl rfl)⟩
theorem fp_X11_246_0 (mn : String) : FP RX11 mn 246 0 9 .int := ⟨"GeoThreads$Course", (RX0, TX0, 19), rfl, by decide, (gd_mem (List.mem_of_getElem? (i := 247) (by decide +kernel)) rfl), rfl, by decide +kernel, Or.inl rfl⟩
theorem fl_X0_38_0 : FL RX0 38 0 10 := ⟨"GeoThreads$Course", (RX0, TX0, 19), rfl, by decide, (gd_mem (List.mem_of_getElem? (i := 248) (by decide +kernel)) rfl), (Or.inl rfl)⟩
theorem fp_X0_38_0 (mn : String) : FP RX0 mn 38 0 10 .int := ⟨"GeoThreads$Course", (RX0, TX0, 19), rfl, by decide, (gd_mem (List.mem_of_getElem? (i := 248) (by decide +kernel)) rfl), rfl, by decide +kernel, Or.inl rfl⟩
theorem fl_X0_78_0 : FL RX0 78 0 11 := ⟨"GeoThreads$Course", (RX0, TX0, 19), rfl, by decide, (gd_mem (List.mem_of_getElem? (i := 249) (by decide +kernel)) rfl), (Or.inl rfl)⟩
theorem fp_X0_78_0 (mn : String) : FP RX0 mn 78 0 11 .int := ⟨"GeoThreads$Course", (RX0, TX0, 19), rfl, by decide, (gd_mem (List.mem_of_getElem? (i := 249) (by decide +kernel)) rfl), rfl, by decide +kernel, Or.inl rfl⟩
theorem fl_X11_259_0 : FL RX11 259 0 11 := ⟨"GeoThreads$Course", (RX0, TX0, 19), rfl, by decide, (gd_mem (List.mem_of_getElem? (i := 250) (by decide +kernel)) rfl), (Or.inl rfl)⟩
theorem fp_X11_259_0 (mn : String) : FP RX11 mn 259 0 11 .int := ⟨"GeoThreads$Course", (RX0, TX0, 19), rfl, by decide, (gd_mem (List.mem_of_getElem? (i := 250) (by decide +kernel)) rfl), rfl, by decide +kernel, Or.inl rfl⟩
theorem fl_X0_81_0 : FL RX0 81 0 12 := ⟨"GeoThreads$Course", (RX0, TX0, 19), rfl, by decide, (gd_mem (List.mem_of_getElem? (i := 251) (by decide +kernel)) rfl), (Or.inl rfl)⟩
theorem fp_X0_81_0 (mn : String) : FP RX0 mn 81 0 12 .int := ⟨"GeoThreads$Course", (RX0, TX0, 19), rfl, by decide, (gd_mem (List.mem_of_getElem? (i := 251) (by decide +kernel)) rfl), rfl, by decide +kernel, Or.inl rfl⟩
theorem fl_X11_262_0 : FL RX11 262 0 12 := ⟨"GeoThreads$Course", (RX0, TX0, 19), rfl, by decide, (gd_mem (List.mem_of_getElem? (i := 252) (by decide +kernel)) rfl), (Or.inl rfl)⟩
theorem fp_X11_262_0 (mn : String) : FP RX11 mn 262 0 12 .int := ⟨"GeoThreads$Course", (RX0, TX0, 19), rfl, by decide, (gd_mem (List.mem_of_getElem? (i := 252) (by decide +kernel)) rfl), rfl, by decide +kernel, Or.inl rfl⟩
theorem fl_X0_84_0 : FL RX0 84 0 13 := ⟨"GeoThreads$Course", (RX0, TX0, 19), rfl, by decide, (gd_mem (List.mem_of_getElem? (i := 253) (by decide +kernel)) rfl), (Or.inl rfl)⟩
theorem fp_X0_84_0 (mn : String) : FP RX0 mn 84 0 13 .int := ⟨"GeoThreads$Course", (RX0, TX0, 19), rfl, by decide, (gd_mem (List.mem_of_getElem? (i := 253) (by decide +kernel)) rfl), rfl, by decide +kernel, Or.inl rfl⟩
theorem fl_X11_255_0 : FL RX11 255 0 13 := ⟨"GeoThreads$Course", (RX0, TX0, 19), rfl, by decide, (gd_mem (List.mem_of_getElem? (i := 254) (by decide +kernel)) rfl), (Or.inl rfl)⟩
theorem fp_X11_255_0 (mn : String) : FP RX11 mn 255 0 13 .int := ⟨"GeoThreads$Course", (RX0, TX0, 19), rfl, by decide, (gd_mem (List.mem_of_getElem? (i := 254) (by decide +kernel)) rfl), rfl, by decide +kernel, Or.inl rfl⟩
theorem fl_X0_87_0 : FL RX0 87 0 14 := ⟨"GeoThreads$Course", (RX0, TX0, 19), rfl, by decide, (gd_mem (List.mem_of_getElem? (i := 255) (by decide +kernel)) rfl), (Or.inl rfl)⟩
theorem fp_X0_87_0 (mn : String) : FP RX0 mn 87 0 14 .int := ⟨"GeoThreads$Course", (RX0, TX0, 19), rfl, by decide, (gd_mem (List.mem_of_getElem? (i := 255) (by decide +kernel)) rfl), rfl, by decide +kernel, Or.inl rfl⟩
theorem fl_X11_256_0 : FL RX11 256 0 14 := ⟨"GeoThreads$Course", (RX0, TX0, 19), rfl, by decide, (gd_mem (List.mem_of_getElem? (i := 256) (by decide +kernel)) rfl), (Or.inl rfl)⟩
theorem fp_X11_256_0 (mn : String) : FP RX11 mn 256 0 14 .int := ⟨"GeoThreads$Course", (RX0, TX0, 19), rfl, by decide, (gd_mem (List.mem_of_getElem? (i := 256) (by decide +kernel)) rfl), rfl, by decide +kernel, Or.inl rfl⟩
theorem fl_X0_90_0 : FL RX0 90 0 15 := ⟨"GeoThreads$Course", (RX0, TX0, 19), rfl, by decide, (gd_mem (List.mem_of_getElem? (i := 257) (by decide +kernel)) rfl), (Or.inl rfl)⟩
theorem fp_X0_90_0 (mn : String) : FP RX0 mn 90 0 15 .int := ⟨"GeoThreads$Course", (RX0, TX0, 19), rfl, by decide, (gd_mem (List.mem_of_getElem? (i := 257) (by decide +kernel)) rfl), rfl, by decide +kernel, Or.inl rfl⟩
theorem fl_X11_185_0 : FL RX11 185 0 15 := ⟨"GeoThreads$Course", (RX0, TX0, 19), rfl, by decide, (gd_mem (List.mem_of_getElem? (i := 258) (by decide +kernel)) rfl), (Or.inl rfl)⟩
theorem fp_X11_185_0 (mn : String) : FP RX11 mn 185 0 15 .int := ⟨"GeoThreads$Course", (RX0, TX0, 19), rfl, by decide, (gd_mem (List.mem_of_getElem? (i := 258) (by decide +kernel)) rfl), rfl, by decide +kernel, Or.inl rfl⟩
theorem fl_X11_57_0 : FL RX11 57 0 16 := ⟨"GeoThreads$Course", (RX0, TX0, 19), rfl, by decide, (gd_mem (List.mem_of_getElem? (i := 259) (by decide +kernel)) rfl), (Or.inl rfl)⟩
theorem fp_X11_57_0 (mn : String) : FP RX11 mn 57 0 16 .int := ⟨"GeoThreads$Course", (RX0, TX0, 19), rfl, by decide, (gd_mem (List.mem_of_getElem? (i := 259) (by decide +kernel)) rfl), rfl, by decide +kernel, Or.inl rfl⟩
theorem fl_X0_93_0 : FL RX0 93 0 16 := ⟨"GeoThreads$Course", (RX0, TX0, 19), rfl, by decide, (gd_mem (List.mem_of_getElem? (i := 260) (by decide +kernel)) rfl), (Or.inl rfl)⟩
theorem fp_X0_93_0 (mn : String) : FP RX0 mn 93 0 16 .int := ⟨"GeoThreads$Course", (RX0, TX0, 19), rfl, by decide, (gd_mem (List.mem_of_getElem? (i := 260) (by decide +kernel)) rfl), rfl, by decide +kernel, Or.inl rfl⟩
theorem fl_X0_96_0 : FL RX0 96 0 17 := ⟨"GeoThreads$Course", (RX0, TX0, 19), rfl, by decide, (gd_mem (List.mem_of_getElem? (i := 261) (by decide +kernel)) rfl), (Or.inl rfl)⟩
theorem fp_X0_96_0 (mn : String) : FP RX0 mn 96 0 17 .int := ⟨"GeoThreads$Course", (RX0, TX0, 19), rfl, by decide, (gd_mem (List.mem_of_getElem? (i := 261) (by decide +kernel)) rfl), rfl, by decide +kernel, Or.inl rfl⟩
theorem fl_X0_99_0 : FL RX0 99 0 18 := ⟨"GeoThreads$Course", (RX0, TX0, 19), rfl, by decide, (gd_mem (List.mem_of_getElem? (i := 262) (by decide +kernel)) rfl), (Or.inl rfl)⟩
theorem fp_X0_99_0 (mn : String) : FP RX0 mn 99 0 18 .boolean := ⟨"GeoThreads$Course", (RX0, TX0, 19), rfl, by decide, (gd_mem (List.mem_of_getElem? (i := 262) (by decide +kernel)) rfl), rfl, by decide +kernel, Or.inl rfl⟩
theorem lk_X11_49 : Cond.methodLink RX11 49 yX0_begin ∈ lw_gd := (gd_mem (List.mem_of_getElem? (i := 302) (by decide +kernel)) rfl)
theorem lk_X0_54 : Cond.methodLink RX0 54 yX10_begin ∈ lw_gd := (gd_mem (List.mem_of_getElem? (i := 306) (by decide +kernel)) rfl)
theorem lk_X0_72 : Cond.methodLink RX0 72 yX2_begin ∈ lw_gd := (gd_mem (List.mem_of_getElem? (i := 310) (by decide +kernel)) rfl)
theorem fl_X11_20_10 : FL RX11 20 10 0 := ⟨"GeoThreads", (RX11, TX11, 6), rfl, by decide, (gd_mem (List.mem_of_getElem? (i := 314) (by decide +kernel)) rfl), (Or.inl rfl)⟩
theorem fp_X11_20_10 : FP RX11 "<init>" 20 10 0 .int := ⟨"GeoThreads", (RX11, TX11, 6), rfl, by decide, (gd_mem (List.mem_of_getElem? (i := 314) (by decide +kernel)) rfl), rfl, by decide +kernel, Or.inr ⟨rfl, rfl, rfl⟩⟩
theorem fl_X11_24_10 : FL RX11 24 10 1 := ⟨"GeoThreads", (RX11, TX11, 6), rfl, by decide, (gd_mem (List.mem_of_getElem? (i := 315) (by decide +kernel)) rfl), (Or.inl rfl)⟩
theorem fp_X11_24_10 : FP RX11 "<init>" 24 10 1 .int := ⟨"GeoThreads", (RX11, TX11, 6), rfl, by decide, (gd_mem (List.mem_of_getElem? (i := 315) (by decide +kernel)) rfl), rfl, by decide +kernel, Or.inr ⟨rfl, rfl, rfl⟩⟩
theorem fl_X11_30_10 : FL RX11 30 10 2 := ⟨"GeoThreads", (RX11, TX11, 6), rfl, by decide, (gd_mem (List.mem_of_getElem? (i := 316) (by decide +kernel)) rfl), (Or.inl rfl)⟩
theorem fp_X11_30_10 : FP RX11 "<init>" 30 10 2 (.object "GeoThreads$Plan") := ⟨"GeoThreads", (RX11, TX11, 6), rfl, by decide, (gd_mem (List.mem_of_getElem? (i := 316) (by decide +kernel)) rfl), rfl, by decide +kernel, Or.inr ⟨rfl, rfl, rfl⟩⟩
theorem fl_X11_39_10 : FL RX11 39 10 3 := ⟨"GeoThreads", (RX11, TX11, 6), rfl, by decide, (gd_mem (List.mem_of_getElem? (i := 317) (by decide +kernel)) rfl), (Or.inl rfl)⟩
theorem fp_X11_39_10 : FP RX11 "<init>" 39 10 3 (.object "GeoThreads$Course") := ⟨"GeoThreads", (RX11, TX11, 6), rfl, by decide, (gd_mem (List.mem_of_getElem? (i := 317) (by decide +kernel)) rfl), rfl, by decide +kernel, Or.inr ⟨rfl, rfl, rfl⟩⟩
theorem fl_X11_43_10 : FL RX11 43 10 4 := ⟨"GeoThreads", (RX11, TX11, 6), rfl, by decide, (gd_mem (List.mem_of_getElem? (i := 318) (by decide +kernel)) rfl), (Or.inl rfl)⟩
theorem fp_X11_43_10 : FP RX11 "<init>" 43 10 4 (.object "GeoThreads$Course") := ⟨"GeoThreads", (RX11, TX11, 6), rfl, by decide, (gd_mem (List.mem_of_getElem? (i := 318) (by decide +kernel)) rfl), rfl, by decide +kernel, Or.inr ⟨rfl, rfl, rfl⟩⟩
theorem fl_X11_46_10 : FL RX11 46 10 5 := ⟨"GeoThreads", (RX11, TX11, 6), rfl, by decide, (gd_mem (List.mem_of_getElem? (i := 319) (by decide +kernel)) rfl), (Or.inl rfl)⟩
theorem fp_X11_46_10 : FP RX11 "<init>" 46 10 5 (.object "GeoThreads$Course") := ⟨"GeoThreads", (RX11, TX11, 6), rfl, by decide, (gd_mem (List.mem_of_getElem? (i := 319) (by decide +kernel)) rfl), rfl, by decide +kernel, Or.inr ⟨rfl, rfl, rfl⟩⟩
theorem lk_L_21 : Cond.methodLink RL 21 yX11_grid ∈ lw_gd := (gd_mem (List.mem_of_getElem? (i := 333) (by decide +kernel)) rfl)
theorem lk_X11_53 : Cond.methodLink RX11 53 yX11_isKind ∈ lw_gd := (gd_mem (List.mem_of_getElem? (i := 337) (by decide +kernel)) rfl)
theorem lk_X11_63 : Cond.methodLink RX11 63 yX11_refusal ∈ lw_gd := (gd_mem (List.mem_of_getElem? (i := 340) (by decide +kernel)) rfl)
theorem cl_X11_67 : Cond.classLink RX11 67 "GeoThreads$Grid" ∈ lw_gd := (gd_mem (List.mem_of_getElem? (i := 343) (by decide +kernel)) rfl)
theorem it_X1 : Cond.instantiable "GeoThreads$Grid" 2 ∈ lw_gd := (gd_mem (List.mem_of_getElem? (i := 344) (by decide +kernel)) rfl)
theorem lk_X11_69 : Cond.methodLink RX11 69 yX1_init ∈ lw_gd := (gd_mem (List.mem_of_getElem? (i := 345) (by decide +kernel)) rfl)
theorem lk_X1_3 : Cond.methodLink RX1 3 Lib.objectInit ∈ lw_gd := (gd_mem (List.mem_of_getElem? (i := 348) (by decide +kernel)) rfl)
theorem cl_X1_15 : Cond.classLink RX1 15 "GeoThreads$Line" ∈ lw_gd := (gd_mem (List.mem_of_getElem? (i := 349) (by decide +kernel)) rfl)
theorem fl_X1_9_1 : FL RX1 9 1 0 := ⟨"GeoThreads$Grid", (RX1, TX1, 2), rfl, by decide, (gd_mem (List.mem_of_getElem? (i := 351) (by decide +kernel)) rfl), (Or.inl rfl)⟩
theorem fp_X1_9_1 : FP RX1 "<init>" 9 1 0 .int := ⟨"GeoThreads$Grid", (RX1, TX1, 2), rfl, by decide, (gd_mem (List.mem_of_getElem? (i := 351) (by decide +kernel)) rfl), rfl, by decide +kernel, Or.inr ⟨rfl, rfl, rfl⟩⟩
theorem fl_X5_22_1 : FL RX5 22 1 0 := ⟨"GeoThreads$Grid", (RX1, TX1, 2), rfl, by decide, (gd_mem (List.mem_of_getElem? (i := 352) (by decide +kernel)) rfl), (Or.inl rfl)⟩
theorem fl_X11_91_1 : FL RX11 91 1 0 := ⟨"GeoThreads$Grid", (RX1, TX1, 2), rfl, by decide, (gd_mem (List.mem_of_getElem? (i := 353) (by decide +kernel)) rfl), (Or.inl rfl)⟩
theorem fl_X7_51_1 : FL RX7 51 1 0 := ⟨"GeoThreads$Grid", (RX1, TX1, 2), rfl, by decide, (gd_mem (List.mem_of_getElem? (i := 354) (by decide +kernel)) rfl), (Or.inl rfl)⟩
theorem fl_X1_17_1 : FL RX1 17 1 1 := ⟨"GeoThreads$Grid", (RX1, TX1, 2), rfl, by decide, (gd_mem (List.mem_of_getElem? (i := 355) (by decide +kernel)) rfl), (Or.inl rfl)⟩
theorem fp_X1_17_1 : FP RX1 "<init>" 17 1 1 (.array (.object "GeoThreads$Line")) := ⟨"GeoThreads$Grid", (RX1, TX1, 2), rfl, by decide, (gd_mem (List.mem_of_getElem? (i := 355) (by decide +kernel)) rfl), rfl, by decide +kernel, Or.inr ⟨rfl, rfl, rfl⟩⟩
theorem fl_X11_72_1 : FL RX11 72 1 1 := ⟨"GeoThreads$Grid", (RX1, TX1, 2), rfl, by decide, (gd_mem (List.mem_of_getElem? (i := 356) (by decide +kernel)) rfl), (Or.inl rfl)⟩
theorem fl_X5_34_1 : FL RX5 34 1 1 := ⟨"GeoThreads$Grid", (RX1, TX1, 2), rfl, by decide, (gd_mem (List.mem_of_getElem? (i := 357) (by decide +kernel)) rfl), (Or.inl rfl)⟩
theorem fl_X7_61_1 : FL RX7 61 1 1 := ⟨"GeoThreads$Grid", (RX1, TX1, 2), rfl, by decide, (gd_mem (List.mem_of_getElem? (i := 358) (by decide +kernel)) rfl), (Or.inl rfl)⟩
theorem lk_X11_76 : Cond.methodLink RX11 76 yX11_newLine ∈ lw_gd := (gd_mem (List.mem_of_getElem? (i := 364) (by decide +kernel)) rfl)
theorem cl_X11_98 : Cond.classLink RX11 98 "GeoThreads$Line" ∈ lw_gd := (gd_mem (List.mem_of_getElem? (i := 367) (by decide +kernel)) rfl)
theorem it_X3 : Cond.instantiable "GeoThreads$Line" 2 ∈ lw_gd := (gd_mem (List.mem_of_getElem? (i := 368) (by decide +kernel)) rfl)
theorem lk_X11_270 : Cond.methodLink RX11 270 yX3_init ∈ lw_gd := (gd_mem (List.mem_of_getElem? (i := 369) (by decide +kernel)) rfl)
theorem lk_X3_3 : Cond.methodLink RX3 3 Lib.objectInit ∈ lw_gd := (gd_mem (List.mem_of_getElem? (i := 372) (by decide +kernel)) rfl)
theorem fl_X3_9_3 : FL RX3 9 3 0 := ⟨"GeoThreads$Line", (RX3, TX3, 2), rfl, by decide, (gd_mem (List.mem_of_getElem? (i := 373) (by decide +kernel)) rfl), (Or.inl rfl)⟩
theorem fp_X3_9_3 : FP RX3 "<init>" 9 3 0 .int := ⟨"GeoThreads$Line", (RX3, TX3, 2), rfl, by decide, (gd_mem (List.mem_of_getElem? (i := 373) (by decide +kernel)) rfl), rfl, by decide +kernel, Or.inr ⟨rfl, rfl, rfl⟩⟩
theorem fl_X11_104_3 : FL RX11 104 3 0 := ⟨"GeoThreads$Line", (RX3, TX3, 2), rfl, by decide, (gd_mem (List.mem_of_getElem? (i := 374) (by decide +kernel)) rfl), (Or.inl rfl)⟩
theorem fl_X3_15_3 : FL RX3 15 3 1 := ⟨"GeoThreads$Line", (RX3, TX3, 2), rfl, by decide, (gd_mem (List.mem_of_getElem? (i := 375) (by decide +kernel)) rfl), (Or.inl rfl)⟩
theorem fp_X3_15_3 : FP RX3 "<init>" 15 3 1 (.array .long) := ⟨"GeoThreads$Line", (RX3, TX3, 2), rfl, by decide, (gd_mem (List.mem_of_getElem? (i := 375) (by decide +kernel)) rfl), rfl, by decide +kernel, Or.inr ⟨rfl, rfl, rfl⟩⟩
theorem fl_X11_100_3 : FL RX11 100 3 1 := ⟨"GeoThreads$Line", (RX3, TX3, 2), rfl, by decide, (gd_mem (List.mem_of_getElem? (i := 376) (by decide +kernel)) rfl), (Or.inl rfl)⟩
theorem ar_long : Cond.arrayClass .long ∈ lw_gd := (gd_mem (List.mem_of_getElem? (i := 382) (by decide +kernel)) rfl)
theorem lk_L_26 : Cond.methodLink RL 26 yX11_line ∈ lw_gd := (gd_mem (List.mem_of_getElem? (i := 383) (by decide +kernel)) rfl)
theorem lk_X11_84 : Cond.methodLink RX11 84 yX4_gridAt ∈ lw_gd := (gd_mem (List.mem_of_getElem? (i := 387) (by decide +kernel)) rfl)
theorem lk_X11_88 : Cond.methodLink RX11 88 yX1_has ∈ lw_gd := (gd_mem (List.mem_of_getElem? (i := 391) (by decide +kernel)) rfl)
theorem lk_L_32 : Cond.methodLink RL 32 yX11_put ∈ lw_gd := (gd_mem (List.mem_of_getElem? (i := 395) (by decide +kernel)) rfl)
theorem lk_X11_94 : Cond.methodLink RX11 94 yX1_faultOf ∈ lw_gd := (gd_mem (List.mem_of_getElem? (i := 399) (by decide +kernel)) rfl)
theorem lk_X1_21 : Cond.methodLink RX1 21 yX1_has ∈ lw_gd := (gd_mem (List.mem_of_getElem? (i := 403) (by decide +kernel)) rfl)
theorem lk_X11_97 : Cond.methodLink RX11 97 yX3_has ∈ lw_gd := (gd_mem (List.mem_of_getElem? (i := 404) (by decide +kernel)) rfl)
theorem lk_X11_105 : Cond.methodLink RX11 105 yX11_numberOf ∈ lw_gd := (gd_mem (List.mem_of_getElem? (i := 408) (by decide +kernel)) rfl)
theorem kc_X11_271 : Cond.constantFloat RX11 271 (1082130432 : UInt32) ∈ lw_gd := (gd_mem (List.mem_of_getElem? (i := 411) (by decide +kernel)) rfl)
theorem kc_X11_272 : Cond.constantDouble RX11 272 (4616189618054758400 : UInt64) ∈ lw_gd := (gd_mem (List.mem_of_getElem? (i := 412) (by decide +kernel)) rfl)
theorem lk_L_37 : Cond.methodLink RL 37 yX11_item ∈ lw_gd := (gd_mem (List.mem_of_getElem? (i := 413) (by decide +kernel)) rfl)
theorem kc_X11_109 : Cond.constantLong RX11 109 (-9223372036854775808 : Int64) ∈ lw_gd := (gd_mem (List.mem_of_getElem? (i := 417) (by decide +kernel)) rfl)
theorem lk_L_42 : Cond.methodLink RL 42 yX11_lay ∈ lw_gd := (gd_mem (List.mem_of_getElem? (i := 418) (by decide +kernel)) rfl)
theorem lk_L_47 : Cond.methodLink RL 47 yX11_size ∈ lw_gd := (gd_mem (List.mem_of_getElem? (i := 422) (by decide +kernel)) rfl)
theorem lk_L_52 : Cond.methodLink RL 52 yX11_way ∈ lw_gd := (gd_mem (List.mem_of_getElem? (i := 426) (by decide +kernel)) rfl)
theorem kc_X11_111 : Cond.constant RX11 111 (100000 : Int32) ∈ lw_gd := (gd_mem (List.mem_of_getElem? (i := 430) (by decide +kernel)) rfl)
theorem lk_X11_112 : Cond.methodLink RX11 112 yX11_isLoad ∈ lw_gd := (gd_mem (List.mem_of_getElem? (i := 431) (by decide +kernel)) rfl)
theorem lk_X11_116 : Cond.methodLink RX11 116 yX11_refusalOfTask ∈ lw_gd := (gd_mem (List.mem_of_getElem? (i := 435) (by decide +kernel)) rfl)
theorem cl_X11_120 : Cond.classLink RX11 120 "GeoThreads$Way" ∈ lw_gd := (gd_mem (List.mem_of_getElem? (i := 439) (by decide +kernel)) rfl)
theorem it_X9 : Cond.instantiable "GeoThreads$Way" 6 ∈ lw_gd := (gd_mem (List.mem_of_getElem? (i := 440) (by decide +kernel)) rfl)
theorem lk_X11_122 : Cond.methodLink RX11 122 yX9_init ∈ lw_gd := (gd_mem (List.mem_of_getElem? (i := 441) (by decide +kernel)) rfl)
theorem lk_X9_3 : Cond.methodLink RX9 3 yX8_init ∈ lw_gd := (gd_mem (List.mem_of_getElem? (i := 444) (by decide +kernel)) rfl)
theorem lk_X8_3 : Cond.methodLink RX8 3 Lib.objectInit ∈ lw_gd := (gd_mem (List.mem_of_getElem? (i := 447) (by decide +kernel)) rfl)
theorem fl_X9_9_8 : FL RX9 9 8 3 := ⟨"GeoThreads$Way", (RX9, TX9, 6), rfl, by decide, (gd_mem (List.mem_of_getElem? (i := 448) (by decide +kernel)) rfl), (Or.inl rfl)⟩
theorem fp_X9_9_8 : FP RX9 "<init>" 9 8 3 .int := ⟨"GeoThreads$Way", (RX9, TX9, 6), rfl, by decide, (gd_mem (List.mem_of_getElem? (i := 448) (by decide +kernel)) rfl), rfl, by decide +kernel, Or.inr ⟨rfl, rfl, rfl⟩⟩
theorem fl_X9_15_8 : FL RX9 15 8 4 := ⟨"GeoThreads$Way", (RX9, TX9, 6), rfl, by decide, (gd_mem (List.mem_of_getElem? (i := 449) (by decide +kernel)) rfl), (Or.inl rfl)⟩
theorem fp_X9_15_8 : FP RX9 "<init>" 15 8 4 .long := ⟨"GeoThreads$Way", (RX9, TX9, 6), rfl, by decide, (gd_mem (List.mem_of_getElem? (i := 449) (by decide +kernel)) rfl), rfl, by decide +kernel, Or.inr ⟨rfl, rfl, rfl⟩⟩
theorem fl_X9_19_8 : FL RX9 19 8 5 := ⟨"GeoThreads$Way", (RX9, TX9, 6), rfl, by decide, (gd_mem (List.mem_of_getElem? (i := 450) (by decide +kernel)) rfl), (Or.inl rfl)⟩
theorem fp_X9_19_8 : FP RX9 "<init>" 19 8 5 .int := ⟨"GeoThreads$Way", (RX9, TX9, 6), rfl, by decide, (gd_mem (List.mem_of_getElem? (i := 450) (by decide +kernel)) rfl), rfl, by decide +kernel, Or.inr ⟨rfl, rfl, rfl⟩⟩
theorem fl_X8_9_5 : FL RX8 9 5 0 := ⟨"GeoThreads$Task", (RX5, TX5, 5), rfl, by decide, (gd_mem (List.mem_of_getElem? (i := 451) (by decide +kernel)) rfl), (Or.inl rfl)⟩
theorem fp_X8_9_5 : FP RX8 "<init>" 9 5 0 .int := ⟨"GeoThreads$Task", (RX5, TX5, 5), rfl, by decide, (gd_mem (List.mem_of_getElem? (i := 451) (by decide +kernel)) rfl), rfl, by decide +kernel, Or.inr ⟨rfl, rfl, rfl⟩⟩
theorem fl_X8_9_7 : FL RX8 9 7 0 := ⟨"GeoThreads$Task", (RX7, TX7, 7), rfl, by decide, (gd_mem (List.mem_of_getElem? (i := 451) (by decide +kernel)) rfl), (Or.inl rfl)⟩
theorem fp_X8_9_7 : FP RX8 "<init>" 9 7 0 .int := ⟨"GeoThreads$Task", (RX7, TX7, 7), rfl, by decide, (gd_mem (List.mem_of_getElem? (i := 451) (by decide +kernel)) rfl), rfl, by decide +kernel, Or.inr ⟨rfl, rfl, rfl⟩⟩
theorem fl_X8_9_8 : FL RX8 9 8 0 := ⟨"GeoThreads$Task", (RX9, TX9, 6), rfl, by decide, (gd_mem (List.mem_of_getElem? (i := 451) (by decide +kernel)) rfl), (Or.inl rfl)⟩
theorem fp_X8_9_8 : FP RX8 "<init>" 9 8 0 .int := ⟨"GeoThreads$Task", (RX9, TX9, 6), rfl, by decide, (gd_mem (List.mem_of_getElem? (i := 451) (by decide +kernel)) rfl), rfl, by decide +kernel, Or.inr ⟨rfl, rfl, rfl⟩⟩
theorem fl_X5_19_5 : FL RX5 19 5 0 := ⟨"GeoThreads$Reader", (RX5, TX5, 5), rfl, by decide, (gd_mem (List.mem_of_getElem? (i := 452) (by decide +kernel)) rfl), (Or.inr (gd_mem (List.mem_of_getElem? (i := 453) (by decide +kernel)) rfl))⟩
theorem fl_X9_22_8 : FL RX9 22 8 0 := ⟨"GeoThreads$Way", (RX9, TX9, 6), rfl, by decide, (gd_mem (List.mem_of_getElem? (i := 454) (by decide +kernel)) rfl), (Or.inr (gd_mem (List.mem_of_getElem? (i := 455) (by decide +kernel)) rfl))⟩
theorem fl_X11_200_5 : FL RX11 200 5 0 := ⟨"GeoThreads$Task", (RX5, TX5, 5), rfl, by decide, (gd_mem (List.mem_of_getElem? (i := 456) (by decide +kernel)) rfl), (Or.inl rfl)⟩
theorem fl_X11_200_7 : FL RX11 200 7 0 := ⟨"GeoThreads$Task", (RX7, TX7, 7), rfl, by decide, (gd_mem (List.mem_of_getElem? (i := 456) (by decide +kernel)) rfl), (Or.inl rfl)⟩
theorem fl_X11_200_8 : FL RX11 200 8 0 := ⟨"GeoThreads$Task", (RX9, TX9, 6), rfl, by decide, (gd_mem (List.mem_of_getElem? (i := 456) (by decide +kernel)) rfl), (Or.inl rfl)⟩
theorem fl_X8_15_5 : FL RX8 15 5 1 := ⟨"GeoThreads$Task", (RX5, TX5, 5), rfl, by decide, (gd_mem (List.mem_of_getElem? (i := 457) (by decide +kernel)) rfl), (Or.inl rfl)⟩
theorem fp_X8_15_5 : FP RX8 "<init>" 15 5 1 .int := ⟨"GeoThreads$Task", (RX5, TX5, 5), rfl, by decide, (gd_mem (List.mem_of_getElem? (i := 457) (by decide +kernel)) rfl), rfl, by decide +kernel, Or.inr ⟨rfl, rfl, rfl⟩⟩
theorem fl_X8_15_7 : FL RX8 15 7 1 := ⟨"GeoThreads$Task", (RX7, TX7, 7), rfl, by decide, (gd_mem (List.mem_of_getElem? (i := 457) (by decide +kernel)) rfl), (Or.inl rfl)⟩
theorem fp_X8_15_7 : FP RX8 "<init>" 15 7 1 .int := ⟨"GeoThreads$Task", (RX7, TX7, 7), rfl, by decide, (gd_mem (List.mem_of_getElem? (i := 457) (by decide +kernel)) rfl), rfl, by decide +kernel, Or.inr ⟨rfl, rfl, rfl⟩⟩
theorem fl_X8_15_8 : FL RX8 15 8 1 := ⟨"GeoThreads$Task", (RX9, TX9, 6), rfl, by decide, (gd_mem (List.mem_of_getElem? (i := 457) (by decide +kernel)) rfl), (Or.inl rfl)⟩
theorem fp_X8_15_8 : FP RX8 "<init>" 15 8 1 .int := ⟨"GeoThreads$Task", (RX9, TX9, 6), rfl, by decide, (gd_mem (List.mem_of_getElem? (i := 457) (by decide +kernel)) rfl), rfl, by decide +kernel, Or.inr ⟨rfl, rfl, rfl⟩⟩
theorem fl_X0_146_5 : FL RX0 146 5 1 := ⟨"GeoThreads$Task", (RX5, TX5, 5), rfl, by decide, (gd_mem (List.mem_of_getElem? (i := 458) (by decide +kernel)) rfl), (Or.inl rfl)⟩
theorem fl_X0_146_7 : FL RX0 146 7 1 := ⟨"GeoThreads$Task", (RX7, TX7, 7), rfl, by decide, (gd_mem (List.mem_of_getElem? (i := 458) (by decide +kernel)) rfl), (Or.inl rfl)⟩
theorem fl_X0_146_8 : FL RX0 146 8 1 := ⟨"GeoThreads$Task", (RX9, TX9, 6), rfl, by decide, (gd_mem (List.mem_of_getElem? (i := 458) (by decide +kernel)) rfl), (Or.inl rfl)⟩
theorem fl_X8_18_5 : FL RX8 18 5 2 := ⟨"GeoThreads$Task", (RX5, TX5, 5), rfl, by decide, (gd_mem (List.mem_of_getElem? (i := 459) (by decide +kernel)) rfl), (Or.inl rfl)⟩
theorem fp_X8_18_5 : FP RX8 "<init>" 18 5 2 .int := ⟨"GeoThreads$Task", (RX5, TX5, 5), rfl, by decide, (gd_mem (List.mem_of_getElem? (i := 459) (by decide +kernel)) rfl), rfl, by decide +kernel, Or.inr ⟨rfl, rfl, rfl⟩⟩
theorem fl_X8_18_7 : FL RX8 18 7 2 := ⟨"GeoThreads$Task", (RX7, TX7, 7), rfl, by decide, (gd_mem (List.mem_of_getElem? (i := 459) (by decide +kernel)) rfl), (Or.inl rfl)⟩
theorem fp_X8_18_7 : FP RX8 "<init>" 18 7 2 .int := ⟨"GeoThreads$Task", (RX7, TX7, 7), rfl, by decide, (gd_mem (List.mem_of_getElem? (i := 459) (by decide +kernel)) rfl), rfl, by decide +kernel, Or.inr ⟨rfl, rfl, rfl⟩⟩
theorem fl_X8_18_8 : FL RX8 18 8 2 := ⟨"GeoThreads$Task", (RX9, TX9, 6), rfl, by decide, (gd_mem (List.mem_of_getElem? (i := 459) (by decide +kernel)) rfl), (Or.inl rfl)⟩
theorem fp_X8_18_8 : FP RX8 "<init>" 18 8 2 .int := ⟨"GeoThreads$Task", (RX9, TX9, 6), rfl, by decide, (gd_mem (List.mem_of_getElem? (i := 459) (by decide +kernel)) rfl), rfl, by decide +kernel, Or.inr ⟨rfl, rfl, rfl⟩⟩
theorem fl_X0_178_5 : FL RX0 178 5 2 := ⟨"GeoThreads$Task", (RX5, TX5, 5), rfl, by decide, (gd_mem (List.mem_of_getElem? (i := 460) (by decide +kernel)) rfl), (Or.inl rfl)⟩
theorem fl_X0_178_7 : FL RX0 178 7 2 := ⟨"GeoThreads$Task", (RX7, TX7, 7), rfl, by decide, (gd_mem (List.mem_of_getElem? (i := 460) (by decide +kernel)) rfl), (Or.inl rfl)⟩
theorem fl_X0_178_8 : FL RX0 178 8 2 := ⟨"GeoThreads$Task", (RX9, TX9, 6), rfl, by decide, (gd_mem (List.mem_of_getElem? (i := 460) (by decide +kernel)) rfl), (Or.inl rfl)⟩
theorem lk_X11_125 : Cond.methodLink RX11 125 yX4_addTask ∈ lw_gd := (gd_mem (List.mem_of_getElem? (i := 474) (by decide +kernel)) rfl)
theorem lk_L_57 : Cond.methodLink RL 57 yX11_reader ∈ lw_gd := (gd_mem (List.mem_of_getElem? (i := 478) (by decide +kernel)) rfl)
theorem cl_X11_129 : Cond.classLink RX11 129 "GeoThreads$Reader" ∈ lw_gd := (gd_mem (List.mem_of_getElem? (i := 482) (by decide +kernel)) rfl)
theorem it_X5 : Cond.instantiable "GeoThreads$Reader" 5 ∈ lw_gd := (gd_mem (List.mem_of_getElem? (i := 483) (by decide +kernel)) rfl)
theorem lk_X11_131 : Cond.methodLink RX11 131 yX5_init ∈ lw_gd := (gd_mem (List.mem_of_getElem? (i := 484) (by decide +kernel)) rfl)
theorem lk_X5_3 : Cond.methodLink RX5 3 yX8_init ∈ lw_gd := (gd_mem (List.mem_of_getElem? (i := 487) (by decide +kernel)) rfl)
theorem fl_X5_9_5 : FL RX5 9 5 3 := ⟨"GeoThreads$Reader", (RX5, TX5, 5), rfl, by decide, (gd_mem (List.mem_of_getElem? (i := 488) (by decide +kernel)) rfl), (Or.inl rfl)⟩
theorem fp_X5_9_5 : FP RX5 "<init>" 9 5 3 (.object "GeoThreads$Grid") := ⟨"GeoThreads$Reader", (RX5, TX5, 5), rfl, by decide, (gd_mem (List.mem_of_getElem? (i := 488) (by decide +kernel)) rfl), rfl, by decide +kernel, Or.inr ⟨rfl, rfl, rfl⟩⟩
theorem fl_X5_15_5 : FL RX5 15 5 4 := ⟨"GeoThreads$Reader", (RX5, TX5, 5), rfl, by decide, (gd_mem (List.mem_of_getElem? (i := 489) (by decide +kernel)) rfl), (Or.inl rfl)⟩
theorem fp_X5_15_5 : FP RX5 "<init>" 15 5 4 .int := ⟨"GeoThreads$Reader", (RX5, TX5, 5), rfl, by decide, (gd_mem (List.mem_of_getElem? (i := 489) (by decide +kernel)) rfl), rfl, by decide +kernel, Or.inr ⟨rfl, rfl, rfl⟩⟩
theorem lk_L_62 : Cond.methodLink RL 62 yX11_search ∈ lw_gd := (gd_mem (List.mem_of_getElem? (i := 498) (by decide +kernel)) rfl)
theorem cl_X11_141 : Cond.classLink RX11 141 "GeoThreads$Search" ∈ lw_gd := (gd_mem (List.mem_of_getElem? (i := 502) (by decide +kernel)) rfl)
theorem it_X6 : Cond.instantiable "GeoThreads$Search" 4 ∈ lw_gd := (gd_mem (List.mem_of_getElem? (i := 503) (by decide +kernel)) rfl)
theorem lk_X11_143 : Cond.methodLink RX11 143 yX6_init ∈ lw_gd := (gd_mem (List.mem_of_getElem? (i := 504) (by decide +kernel)) rfl)
theorem lk_X6_1 : Cond.methodLink RX6 1 Lib.objectInit ∈ lw_gd := (gd_mem (List.mem_of_getElem? (i := 507) (by decide +kernel)) rfl)
theorem fl_X6_7_6 : FL RX6 7 6 0 := ⟨"GeoThreads$Search", (RX6, TX6, 4), rfl, by decide, (gd_mem (List.mem_of_getElem? (i := 508) (by decide +kernel)) rfl), (Or.inl rfl)⟩
theorem fp_X6_7_6 : FP RX6 "<init>" 7 6 0 (.object "GeoThreads$Grid") := ⟨"GeoThreads$Search", (RX6, TX6, 4), rfl, by decide, (gd_mem (List.mem_of_getElem? (i := 508) (by decide +kernel)) rfl), rfl, by decide +kernel, Or.inr ⟨rfl, rfl, rfl⟩⟩
theorem fl_X7_45_6 : FL RX7 45 6 0 := ⟨"GeoThreads$Search", (RX6, TX6, 4), rfl, by decide, (gd_mem (List.mem_of_getElem? (i := 509) (by decide +kernel)) rfl), (Or.inl rfl)⟩
theorem fl_X6_13_6 : FL RX6 13 6 1 := ⟨"GeoThreads$Search", (RX6, TX6, 4), rfl, by decide, (gd_mem (List.mem_of_getElem? (i := 510) (by decide +kernel)) rfl), (Or.inl rfl)⟩
theorem fp_X6_13_6 : FP RX6 "<init>" 13 6 1 .int := ⟨"GeoThreads$Search", (RX6, TX6, 4), rfl, by decide, (gd_mem (List.mem_of_getElem? (i := 510) (by decide +kernel)) rfl), rfl, by decide +kernel, Or.inr ⟨rfl, rfl, rfl⟩⟩
theorem fl_X7_56_6 : FL RX7 56 6 1 := ⟨"GeoThreads$Search", (RX6, TX6, 4), rfl, by decide, (gd_mem (List.mem_of_getElem? (i := 511) (by decide +kernel)) rfl), (Or.inl rfl)⟩
theorem fl_X6_17_6 : FL RX6 17 6 2 := ⟨"GeoThreads$Search", (RX6, TX6, 4), rfl, by decide, (gd_mem (List.mem_of_getElem? (i := 512) (by decide +kernel)) rfl), (Or.inl rfl)⟩
theorem fp_X6_17_6 : FP RX6 "<init>" 17 6 2 .int := ⟨"GeoThreads$Search", (RX6, TX6, 4), rfl, by decide, (gd_mem (List.mem_of_getElem? (i := 512) (by decide +kernel)) rfl), rfl, by decide +kernel, Or.inr ⟨rfl, rfl, rfl⟩⟩
theorem fl_X7_82_6 : FL RX7 82 6 2 := ⟨"GeoThreads$Search", (RX6, TX6, 4), rfl, by decide, (gd_mem (List.mem_of_getElem? (i := 513) (by decide +kernel)) rfl), (Or.inl rfl)⟩
theorem fl_X6_20_6 : FL RX6 20 6 3 := ⟨"GeoThreads$Search", (RX6, TX6, 4), rfl, by decide, (gd_mem (List.mem_of_getElem? (i := 514) (by decide +kernel)) rfl), (Or.inl rfl)⟩
theorem fp_X6_20_6 : FP RX6 "<init>" 20 6 3 .long := ⟨"GeoThreads$Search", (RX6, TX6, 4), rfl, by decide, (gd_mem (List.mem_of_getElem? (i := 514) (by decide +kernel)) rfl), rfl, by decide +kernel, Or.inr ⟨rfl, rfl, rfl⟩⟩
theorem fl_X0_66_6 : FL RX0 66 6 3 := ⟨"GeoThreads$Search", (RX6, TX6, 4), rfl, by decide, (gd_mem (List.mem_of_getElem? (i := 515) (by decide +kernel)) rfl), (Or.inl rfl)⟩
theorem lk_X11_150 : Cond.methodLink RX11 150 yX2_begin ∈ lw_gd := (gd_mem (List.mem_of_getElem? (i := 525) (by decide +kernel)) rfl)
theorem lk_L_66 : Cond.methodLink RL 66 yX11_share ∈ lw_gd := (gd_mem (List.mem_of_getElem? (i := 526) (by decide +kernel)) rfl)
theorem cl_X11_155 : Cond.classLink RX11 155 "GeoThreads$Share" ∈ lw_gd := (gd_mem (List.mem_of_getElem? (i := 530) (by decide +kernel)) rfl)
theorem it_X7 : Cond.instantiable "GeoThreads$Share" 7 ∈ lw_gd := (gd_mem (List.mem_of_getElem? (i := 531) (by decide +kernel)) rfl)
theorem lk_X11_157 : Cond.methodLink RX11 157 yX7_init ∈ lw_gd := (gd_mem (List.mem_of_getElem? (i := 532) (by decide +kernel)) rfl)
theorem lk_X7_3 : Cond.methodLink RX7 3 yX8_init ∈ lw_gd := (gd_mem (List.mem_of_getElem? (i := 535) (by decide +kernel)) rfl)
theorem fl_X7_9_7 : FL RX7 9 7 3 := ⟨"GeoThreads$Share", (RX7, TX7, 7), rfl, by decide, (gd_mem (List.mem_of_getElem? (i := 536) (by decide +kernel)) rfl), (Or.inl rfl)⟩
theorem fp_X7_9_7 : FP RX7 "<init>" 9 7 3 (.object "GeoThreads$Search") := ⟨"GeoThreads$Share", (RX7, TX7, 7), rfl, by decide, (gd_mem (List.mem_of_getElem? (i := 536) (by decide +kernel)) rfl), rfl, by decide +kernel, Or.inr ⟨rfl, rfl, rfl⟩⟩
theorem fl_X7_15_7 : FL RX7 15 7 4 := ⟨"GeoThreads$Share", (RX7, TX7, 7), rfl, by decide, (gd_mem (List.mem_of_getElem? (i := 537) (by decide +kernel)) rfl), (Or.inl rfl)⟩
theorem fp_X7_15_7 : FP RX7 "<init>" 15 7 4 .int := ⟨"GeoThreads$Share", (RX7, TX7, 7), rfl, by decide, (gd_mem (List.mem_of_getElem? (i := 537) (by decide +kernel)) rfl), rfl, by decide +kernel, Or.inr ⟨rfl, rfl, rfl⟩⟩
theorem fl_X0_199_7 : FL RX0 199 7 4 := ⟨"GeoThreads$Share", (RX7, TX7, 7), rfl, by decide, (gd_mem (List.mem_of_getElem? (i := 538) (by decide +kernel)) rfl), (Or.inl rfl)⟩
theorem fl_X7_19_7 : FL RX7 19 7 5 := ⟨"GeoThreads$Share", (RX7, TX7, 7), rfl, by decide, (gd_mem (List.mem_of_getElem? (i := 539) (by decide +kernel)) rfl), (Or.inl rfl)⟩
theorem fp_X7_19_7 : FP RX7 "<init>" 19 7 5 .int := ⟨"GeoThreads$Share", (RX7, TX7, 7), rfl, by decide, (gd_mem (List.mem_of_getElem? (i := 539) (by decide +kernel)) rfl), rfl, by decide +kernel, Or.inr ⟨rfl, rfl, rfl⟩⟩
theorem fl_X7_22_7 : FL RX7 22 7 6 := ⟨"GeoThreads$Share", (RX7, TX7, 7), rfl, by decide, (gd_mem (List.mem_of_getElem? (i := 540) (by decide +kernel)) rfl), (Or.inl rfl)⟩
theorem fp_X7_22_7 : FP RX7 "<init>" 22 7 6 .int := ⟨"GeoThreads$Share", (RX7, TX7, 7), rfl, by decide, (gd_mem (List.mem_of_getElem? (i := 540) (by decide +kernel)) rfl), rfl, by decide +kernel, Or.inr ⟨rfl, rfl, rfl⟩⟩
theorem lk_L_71 : Cond.methodLink RL 71 yX11_turn ∈ lw_gd := (gd_mem (List.mem_of_getElem? (i := 553) (by decide +kernel)) rfl)
theorem lk_X11_160 : Cond.methodLink RX11 160 yX11_isThread ∈ lw_gd := (gd_mem (List.mem_of_getElem? (i := 557) (by decide +kernel)) rfl)
theorem lk_L_76 : Cond.methodLink RL 76 yX11_run ∈ lw_gd := (gd_mem (List.mem_of_getElem? (i := 561) (by decide +kernel)) rfl)
theorem lk_X11_170 : Cond.methodLink RX11 170 yX0_goOn ∈ lw_gd := (gd_mem (List.mem_of_getElem? (i := 565) (by decide +kernel)) rfl)
theorem lk_X0_105 : Cond.methodLink RX0 105 yX0_nextThread ∈ lw_gd := (gd_mem (List.mem_of_getElem? (i := 569) (by decide +kernel)) rfl)
theorem lk_X0_109 : Cond.methodLink RX0 109 yX0_giveTurn ∈ lw_gd := (gd_mem (List.mem_of_getElem? (i := 573) (by decide +kernel)) rfl)
theorem lk_X0_122 : Cond.methodLink RX0 122 yX0_takeNext ∈ lw_gd := (gd_mem (List.mem_of_getElem? (i := 577) (by decide +kernel)) rfl)
theorem lk_X0_132 : Cond.methodLink RX0 132 yX0_leastThatFits ∈ lw_gd := (gd_mem (List.mem_of_getElem? (i := 581) (by decide +kernel)) rfl)
theorem lk_X0_151 : Cond.methodLink RX0 151 Lib.Math.max.name ∈ lw_gd := (gd_mem (List.mem_of_getElem? (i := 585) (by decide +kernel)) rfl)
theorem lk_X0_157 : Cond.methodLink RX0 157 yX0_write ∈ lw_gd := (gd_mem (List.mem_of_getElem? (i := 586) (by decide +kernel)) rfl)
theorem lk_X0_125 : Cond.methodLink RX0 125 yX0_goOnWith ∈ lw_gd := (gd_mem (List.mem_of_getElem? (i := 590) (by decide +kernel)) rfl)
theorem lk_X0_167 : Cond.methodLink RX0 167 ⟨"GeoThreads$Task", "step", "(LGeoThreads$Work;[LGeoThreads$Hunt;)V"⟩ ∈ lw_gd := (gd_mem (List.mem_of_getElem? (i := 594) (by decide +kernel)) rfl)
theorem lk_X5_25 : Cond.methodLink RX5 25 yX10_fail ∈ lw_gd := (gd_mem (List.mem_of_getElem? (i := 600) (by decide +kernel)) rfl)
theorem lk_X5_38 : Cond.methodLink RX5 38 yX5_meetMissing ∈ lw_gd := (gd_mem (List.mem_of_getElem? (i := 604) (by decide +kernel)) rfl)
theorem lk_X5_59 : Cond.methodLink RX5 59 yX10_nextLine ∈ lw_gd := (gd_mem (List.mem_of_getElem? (i := 608) (by decide +kernel)) rfl)
theorem lk_X5_45 : Cond.methodLink RX5 45 yX3_has ∈ lw_gd := (gd_mem (List.mem_of_getElem? (i := 612) (by decide +kernel)) rfl)
theorem lk_X5_51 : Cond.methodLink RX5 51 yX3_worth ∈ lw_gd := (gd_mem (List.mem_of_getElem? (i := 613) (by decide +kernel)) rfl)
theorem lk_X3_19 : Cond.methodLink RX3 19 yX3_has ∈ lw_gd := (gd_mem (List.mem_of_getElem? (i := 617) (by decide +kernel)) rfl)
theorem kc_X3_23 : Cond.constantLong RX3 23 (1000000 : Int64) ∈ lw_gd := (gd_mem (List.mem_of_getElem? (i := 618) (by decide +kernel)) rfl)
theorem lk_X5_55 : Cond.methodLink RX5 55 yX10_read ∈ lw_gd := (gd_mem (List.mem_of_getElem? (i := 619) (by decide +kernel)) rfl)
theorem lk_X7_30 : Cond.methodLink RX7 30 yX7_stepInLine ∈ lw_gd := (gd_mem (List.mem_of_getElem? (i := 626) (by decide +kernel)) rfl)
theorem lk_X7_57 : Cond.methodLink RX7 57 yX1_faultOf ∈ lw_gd := (gd_mem (List.mem_of_getElem? (i := 630) (by decide +kernel)) rfl)
theorem lk_X7_68 : Cond.methodLink RX7 68 yX3_has ∈ lw_gd := (gd_mem (List.mem_of_getElem? (i := 631) (by decide +kernel)) rfl)
theorem lk_X7_74 : Cond.methodLink RX7 74 yX3_worth ∈ lw_gd := (gd_mem (List.mem_of_getElem? (i := 632) (by decide +kernel)) rfl)
theorem lk_X7_78 : Cond.methodLink RX7 78 yX10_read ∈ lw_gd := (gd_mem (List.mem_of_getElem? (i := 633) (by decide +kernel)) rfl)
theorem lk_X7_94 : Cond.methodLink RX7 94 yX2_offer ∈ lw_gd := (gd_mem (List.mem_of_getElem? (i := 634) (by decide +kernel)) rfl)
theorem lk_X7_34 : Cond.methodLink RX7 34 yX10_fail ∈ lw_gd := (gd_mem (List.mem_of_getElem? (i := 638) (by decide +kernel)) rfl)
theorem lk_X7_38 : Cond.methodLink RX7 38 yX10_nextLine ∈ lw_gd := (gd_mem (List.mem_of_getElem? (i := 639) (by decide +kernel)) rfl)
theorem lk_X9_28 : Cond.methodLink RX9 28 Lib.Math.min.name ∈ lw_gd := (gd_mem (List.mem_of_getElem? (i := 643) (by decide +kernel)) rfl)
theorem lk_X9_34 : Cond.methodLink RX9 34 yX10_fail ∈ lw_gd := (gd_mem (List.mem_of_getElem? (i := 644) (by decide +kernel)) rfl)
theorem lk_X0_174 : Cond.methodLink RX0 174 yX8_usedBy ∈ lw_gd := (gd_mem (List.mem_of_getElem? (i := 645) (by decide +kernel)) rfl)
theorem lk_X0_181 : Cond.methodLink RX0 181 yX0_leave ∈ lw_gd := (gd_mem (List.mem_of_getElem? (i := 654) (by decide +kernel)) rfl)
theorem lk_X0_129 : Cond.methodLink RX0 129 yX0_lookWhatIsTaken ∈ lw_gd := (gd_mem (List.mem_of_getElem? (i := 658) (by decide +kernel)) rfl)
theorem lk_X0_184 : Cond.methodLink RX0 184 yX8_isWay ∈ lw_gd := (gd_mem (List.mem_of_getElem? (i := 662) (by decide +kernel)) rfl)
theorem lk_X0_188 : Cond.methodLink RX0 188 yX10_isLeft ∈ lw_gd := (gd_mem (List.mem_of_getElem? (i := 669) (by decide +kernel)) rfl)
theorem lk_X0_191 : Cond.methodLink RX0 191 yX0_takeWay ∈ lw_gd := (gd_mem (List.mem_of_getElem? (i := 673) (by decide +kernel)) rfl)
theorem lk_X0_194 : Cond.methodLink RX0 194 yX0_endWaiting ∈ lw_gd := (gd_mem (List.mem_of_getElem? (i := 677) (by decide +kernel)) rfl)
theorem lk_X0_113 : Cond.methodLink RX0 113 yX0_doFailedSharesAgain ∈ lw_gd := (gd_mem (List.mem_of_getElem? (i := 681) (by decide +kernel)) rfl)
theorem cl_X0_197 : Cond.classLink RX0 197 "GeoThreads$Share" ∈ lw_gd := (gd_mem (List.mem_of_getElem? (i := 685) (by decide +kernel)) rfl)
theorem lk_X0_202 : Cond.methodLink RX0 202 yX7_doAgain ∈ lw_gd := (gd_mem (List.mem_of_getElem? (i := 686) (by decide +kernel)) rfl)
theorem lk_X7_98 : Cond.methodLink RX7 98 yX10_begin ∈ lw_gd := (gd_mem (List.mem_of_getElem? (i := 690) (by decide +kernel)) rfl)
theorem lk_L_80 : Cond.methodLink RL 80 yX11_interrupt ∈ lw_gd := (gd_mem (List.mem_of_getElem? (i := 691) (by decide +kernel)) rfl)
theorem lk_X11_173 : Cond.methodLink RX11 173 yX11_isTask ∈ lw_gd := (gd_mem (List.mem_of_getElem? (i := 695) (by decide +kernel)) rfl)
theorem lk_X11_176 : Cond.methodLink RX11 176 yX0_breakOff ∈ lw_gd := (gd_mem (List.mem_of_getElem? (i := 699) (by decide +kernel)) rfl)
theorem lk_L_84 : Cond.methodLink RL 84 yX11_close ∈ lw_gd := (gd_mem (List.mem_of_getElem? (i := 703) (by decide +kernel)) rfl)
theorem lk_X11_179 : Cond.methodLink RX11 179 yX0_stopAll ∈ lw_gd := (gd_mem (List.mem_of_getElem? (i := 707) (by decide +kernel)) rfl)
theorem lk_L_89 : Cond.methodLink RL 89 yX11_anew ∈ lw_gd := (gd_mem (List.mem_of_getElem? (i := 711) (by decide +kernel)) rfl)
theorem lk_L_93 : Cond.methodLink RL 93 yX11_taken ∈ lw_gd := (gd_mem (List.mem_of_getElem? (i := 715) (by decide +kernel)) rfl)
theorem lk_L_97 : Cond.methodLink RL 97 yX11_answer ∈ lw_gd := (gd_mem (List.mem_of_getElem? (i := 719) (by decide +kernel)) rfl)
theorem lk_X11_188 : Cond.methodLink RX11 188 yX0_answerOf ∈ lw_gd := (gd_mem (List.mem_of_getElem? (i := 723) (by decide +kernel)) rfl)
theorem kc_X0_209 : Cond.constantLong RX0 209 (-9223372036854775808 : Int64) ∈ lw_gd := (gd_mem (List.mem_of_getElem? (i := 727) (by decide +kernel)) rfl)
theorem lk_X0_211 : Cond.methodLink RX0 211 ⟨"GeoThreads$Task", "foundBy", "(LGeoThreads$Work;)J"⟩ ∈ lw_gd := (gd_mem (List.mem_of_getElem? (i := 728) (by decide +kernel)) rfl)
theorem kc_X7_101 : Cond.constantLong RX7 101 (-9223372036854775808 : Int64) ∈ lw_gd := (gd_mem (List.mem_of_getElem? (i := 737) (by decide +kernel)) rfl)
theorem lk_L_102 : Cond.methodLink RL 102 yX11_told ∈ lw_gd := (gd_mem (List.mem_of_getElem? (i := 741) (by decide +kernel)) rfl)
theorem lk_X11_228 : Cond.methodLink RX11 228 ⟨"GeoThreads$Task", "rank", "()I"⟩ ∈ lw_gd := (gd_mem (List.mem_of_getElem? (i := 745) (by decide +kernel)) rfl)
theorem lk_L_106 : Cond.methodLink RL 106 yX11_best ∈ lw_gd := (gd_mem (List.mem_of_getElem? (i := 757) (by decide +kernel)) rfl)
theorem kc_X11_231 : Cond.constantLong RX11 231 (-1 : Int64) ∈ lw_gd := (gd_mem (List.mem_of_getElem? (i := 761) (by decide +kernel)) rfl)
theorem lk_X11_243 : Cond.methodLink RX11 243 yX0_lostOf ∈ lw_gd := (gd_mem (List.mem_of_getElem? (i := 762) (by decide +kernel)) rfl)
theorem lk_L_111 : Cond.methodLink RL 111 yX11_note ∈ lw_gd := (gd_mem (List.mem_of_getElem? (i := 766) (by decide +kernel)) rfl)
theorem lk_L_115 : Cond.methodLink RL 115 yX11_finished ∈ lw_gd := (gd_mem (List.mem_of_getElem? (i := 770) (by decide +kernel)) rfl)
theorem lk_L_119 : Cond.methodLink RL 119 yX11_count ∈ lw_gd := (gd_mem (List.mem_of_getElem? (i := 774) (by decide +kernel)) rfl)
theorem lk_L_123 : Cond.methodLink RL 123 yX11_equal ∈ lw_gd := (gd_mem (List.mem_of_getElem? (i := 778) (by decide +kernel)) rfl)
theorem kc_X11_265 : Cond.constant RX11 265 (1000000 : Int32) ∈ lw_gd := (gd_mem (List.mem_of_getElem? (i := 782) (by decide +kernel)) rfl)
theorem lk_X11_266 : Cond.methodLink RX11 266 yX0_foundAs ∈ lw_gd := (gd_mem (List.mem_of_getElem? (i := 783) (by decide +kernel)) rfl)
theorem lk_X0_215 : Cond.methodLink RX0 215 yX0_answerOf ∈ lw_gd := (gd_mem (List.mem_of_getElem? (i := 787) (by decide +kernel)) rfl)
theorem lk_X0_219 : Cond.methodLink RX0 219 yX0_endedAs ∈ lw_gd := (gd_mem (List.mem_of_getElem? (i := 788) (by decide +kernel)) rfl)
theorem lk_L_9 : Cond.methodLink RL 9 yL_cell ∈ lw_gd := (gd_mem (List.mem_of_getElem? (i := 792) (by decide +kernel)) rfl)
theorem cl_L_18 : Cond.classLink RL 18 "GeoThreadsModel" ∈ lw_gd := (gd_mem (List.mem_of_getElem? (i := 795) (by decide +kernel)) rfl)
theorem it_X12 : Cond.instantiable "GeoThreadsModel" 36 ∈ lw_gd := (gd_mem (List.mem_of_getElem? (i := 796) (by decide +kernel)) rfl)
theorem lk_L_20 : Cond.methodLink RL 20 yX12_init ∈ lw_gd := (gd_mem (List.mem_of_getElem? (i := 797) (by decide +kernel)) rfl)
theorem lk_X12_1 : Cond.methodLink RX12 1 Lib.objectInit ∈ lw_gd := (gd_mem (List.mem_of_getElem? (i := 800) (by decide +kernel)) rfl)
theorem lk_X12_93 : Cond.methodLink RX12 93 yX12_begins ∈ lw_gd := (gd_mem (List.mem_of_getElem? (i := 801) (by decide +kernel)) rfl)
theorem kc_X12_99 : Cond.constantLong RX12 99 (-9223372036854775808 : Int64) ∈ lw_gd := (gd_mem (List.mem_of_getElem? (i := 805) (by decide +kernel)) rfl)
theorem fl_X12_96_11 : FL RX12 96 11 0 := ⟨"GeoThreadsModel", (RX12, TX12, 36), rfl, by decide, (gd_mem (List.mem_of_getElem? (i := 806) (by decide +kernel)) rfl), (Or.inl rfl)⟩
theorem fp_X12_96_11 (mn : String) : FP RX12 mn 96 11 0 .int := ⟨"GeoThreadsModel", (RX12, TX12, 36), rfl, by decide, (gd_mem (List.mem_of_getElem? (i := 806) (by decide +kernel)) rfl), rfl, by decide +kernel, Or.inl rfl⟩
theorem fl_X12_86_11 : FL RX12 86 11 1 := ⟨"GeoThreadsModel", (RX12, TX12, 36), rfl, by decide, (gd_mem (List.mem_of_getElem? (i := 807) (by decide +kernel)) rfl), (Or.inl rfl)⟩
theorem fp_X12_86_11 : FP RX12 "<init>" 86 11 1 .int := ⟨"GeoThreadsModel", (RX12, TX12, 36), rfl, by decide, (gd_mem (List.mem_of_getElem? (i := 807) (by decide +kernel)) rfl), rfl, by decide +kernel, Or.inr ⟨rfl, rfl, rfl⟩⟩
theorem fl_X12_90_11 : FL RX12 90 11 2 := ⟨"GeoThreadsModel", (RX12, TX12, 36), rfl, by decide, (gd_mem (List.mem_of_getElem? (i := 808) (by decide +kernel)) rfl), (Or.inl rfl)⟩
theorem fp_X12_90_11 : FP RX12 "<init>" 90 11 2 .int := ⟨"GeoThreadsModel", (RX12, TX12, 36), rfl, by decide, (gd_mem (List.mem_of_getElem? (i := 808) (by decide +kernel)) rfl), rfl, by decide +kernel, Or.inr ⟨rfl, rfl, rfl⟩⟩
theorem fl_X12_104_11 : FL RX12 104 11 3 := ⟨"GeoThreadsModel", (RX12, TX12, 36), rfl, by decide, (gd_mem (List.mem_of_getElem? (i := 809) (by decide +kernel)) rfl), (Or.inl rfl)⟩
theorem fp_X12_104_11 (mn : String) : FP RX12 mn 104 11 3 .int := ⟨"GeoThreadsModel", (RX12, TX12, 36), rfl, by decide, (gd_mem (List.mem_of_getElem? (i := 809) (by decide +kernel)) rfl), rfl, by decide +kernel, Or.inl rfl⟩
theorem fl_X12_7_11 : FL RX12 7 11 4 := ⟨"GeoThreadsModel", (RX12, TX12, 36), rfl, by decide, (gd_mem (List.mem_of_getElem? (i := 810) (by decide +kernel)) rfl), (Or.inl rfl)⟩
theorem fp_X12_7_11 : FP RX12 "<init>" 7 11 4 (.array .int) := ⟨"GeoThreadsModel", (RX12, TX12, 36), rfl, by decide, (gd_mem (List.mem_of_getElem? (i := 810) (by decide +kernel)) rfl), rfl, by decide +kernel, Or.inr ⟨rfl, rfl, rfl⟩⟩
theorem fl_X12_13_11 : FL RX12 13 11 5 := ⟨"GeoThreadsModel", (RX12, TX12, 36), rfl, by decide, (gd_mem (List.mem_of_getElem? (i := 811) (by decide +kernel)) rfl), (Or.inl rfl)⟩
theorem fp_X12_13_11 : FP RX12 "<init>" 13 11 5 (.array .int) := ⟨"GeoThreadsModel", (RX12, TX12, 36), rfl, by decide, (gd_mem (List.mem_of_getElem? (i := 811) (by decide +kernel)) rfl), rfl, by decide +kernel, Or.inr ⟨rfl, rfl, rfl⟩⟩
theorem fl_X12_16_11 : FL RX12 16 11 6 := ⟨"GeoThreadsModel", (RX12, TX12, 36), rfl, by decide, (gd_mem (List.mem_of_getElem? (i := 812) (by decide +kernel)) rfl), (Or.inl rfl)⟩
theorem fp_X12_16_11 : FP RX12 "<init>" 16 11 6 (.array .int) := ⟨"GeoThreadsModel", (RX12, TX12, 36), rfl, by decide, (gd_mem (List.mem_of_getElem? (i := 812) (by decide +kernel)) rfl), rfl, by decide +kernel, Or.inr ⟨rfl, rfl, rfl⟩⟩
theorem fl_X12_111_11 : FL RX12 111 11 7 := ⟨"GeoThreadsModel", (RX12, TX12, 36), rfl, by decide, (gd_mem (List.mem_of_getElem? (i := 813) (by decide +kernel)) rfl), (Or.inl rfl)⟩
theorem fp_X12_111_11 (mn : String) : FP RX12 mn 111 11 7 .int := ⟨"GeoThreadsModel", (RX12, TX12, 36), rfl, by decide, (gd_mem (List.mem_of_getElem? (i := 813) (by decide +kernel)) rfl), rfl, by decide +kernel, Or.inl rfl⟩
theorem fl_X12_19_11 : FL RX12 19 11 8 := ⟨"GeoThreadsModel", (RX12, TX12, 36), rfl, by decide, (gd_mem (List.mem_of_getElem? (i := 814) (by decide +kernel)) rfl), (Or.inl rfl)⟩
theorem fp_X12_19_11 : FP RX12 "<init>" 19 11 8 (.array .int) := ⟨"GeoThreadsModel", (RX12, TX12, 36), rfl, by decide, (gd_mem (List.mem_of_getElem? (i := 814) (by decide +kernel)) rfl), rfl, by decide +kernel, Or.inr ⟨rfl, rfl, rfl⟩⟩
theorem fl_X12_22_11 : FL RX12 22 11 9 := ⟨"GeoThreadsModel", (RX12, TX12, 36), rfl, by decide, (gd_mem (List.mem_of_getElem? (i := 815) (by decide +kernel)) rfl), (Or.inl rfl)⟩
theorem fp_X12_22_11 : FP RX12 "<init>" 22 11 9 (.array .long) := ⟨"GeoThreadsModel", (RX12, TX12, 36), rfl, by decide, (gd_mem (List.mem_of_getElem? (i := 815) (by decide +kernel)) rfl), rfl, by decide +kernel, Or.inr ⟨rfl, rfl, rfl⟩⟩
theorem fl_X12_101_11 : FL RX12 101 11 10 := ⟨"GeoThreadsModel", (RX12, TX12, 36), rfl, by decide, (gd_mem (List.mem_of_getElem? (i := 816) (by decide +kernel)) rfl), (Or.inl rfl)⟩
theorem fp_X12_101_11 (mn : String) : FP RX12 mn 101 11 10 .int := ⟨"GeoThreadsModel", (RX12, TX12, 36), rfl, by decide, (gd_mem (List.mem_of_getElem? (i := 816) (by decide +kernel)) rfl), rfl, by decide +kernel, Or.inl rfl⟩
theorem fl_X12_26_11 : FL RX12 26 11 11 := ⟨"GeoThreadsModel", (RX12, TX12, 36), rfl, by decide, (gd_mem (List.mem_of_getElem? (i := 817) (by decide +kernel)) rfl), (Or.inl rfl)⟩
theorem fp_X12_26_11 : FP RX12 "<init>" 26 11 11 (.array .int) := ⟨"GeoThreadsModel", (RX12, TX12, 36), rfl, by decide, (gd_mem (List.mem_of_getElem? (i := 817) (by decide +kernel)) rfl), rfl, by decide +kernel, Or.inr ⟨rfl, rfl, rfl⟩⟩
theorem fl_X12_29_11 : FL RX12 29 11 12 := ⟨"GeoThreadsModel", (RX12, TX12, 36), rfl, by decide, (gd_mem (List.mem_of_getElem? (i := 818) (by decide +kernel)) rfl), (Or.inl rfl)⟩
theorem fp_X12_29_11 : FP RX12 "<init>" 29 11 12 (.array .int) := ⟨"GeoThreadsModel", (RX12, TX12, 36), rfl, by decide, (gd_mem (List.mem_of_getElem? (i := 818) (by decide +kernel)) rfl), rfl, by decide +kernel, Or.inr ⟨rfl, rfl, rfl⟩⟩
theorem fl_X12_32_11 : FL RX12 32 11 13 := ⟨"GeoThreadsModel", (RX12, TX12, 36), rfl, by decide, (gd_mem (List.mem_of_getElem? (i := 819) (by decide +kernel)) rfl), (Or.inl rfl)⟩
theorem fp_X12_32_11 : FP RX12 "<init>" 32 11 13 (.array .long) := ⟨"GeoThreadsModel", (RX12, TX12, 36), rfl, by decide, (gd_mem (List.mem_of_getElem? (i := 819) (by decide +kernel)) rfl), rfl, by decide +kernel, Or.inr ⟨rfl, rfl, rfl⟩⟩
theorem fl_X12_35_11 : FL RX12 35 11 14 := ⟨"GeoThreadsModel", (RX12, TX12, 36), rfl, by decide, (gd_mem (List.mem_of_getElem? (i := 820) (by decide +kernel)) rfl), (Or.inl rfl)⟩
theorem fp_X12_35_11 : FP RX12 "<init>" 35 11 14 (.array .int) := ⟨"GeoThreadsModel", (RX12, TX12, 36), rfl, by decide, (gd_mem (List.mem_of_getElem? (i := 820) (by decide +kernel)) rfl), rfl, by decide +kernel, Or.inr ⟨rfl, rfl, rfl⟩⟩
theorem fl_X12_38_11 : FL RX12 38 11 15 := ⟨"GeoThreadsModel", (RX12, TX12, 36), rfl, by decide, (gd_mem (List.mem_of_getElem? (i := 821) (by decide +kernel)) rfl), (Or.inl rfl)⟩
theorem fp_X12_38_11 : FP RX12 "<init>" 38 11 15 (.array .int) := ⟨"GeoThreadsModel", (RX12, TX12, 36), rfl, by decide, (gd_mem (List.mem_of_getElem? (i := 821) (by decide +kernel)) rfl), rfl, by decide +kernel, Or.inr ⟨rfl, rfl, rfl⟩⟩
theorem fl_X12_41_11 : FL RX12 41 11 16 := ⟨"GeoThreadsModel", (RX12, TX12, 36), rfl, by decide, (gd_mem (List.mem_of_getElem? (i := 822) (by decide +kernel)) rfl), (Or.inl rfl)⟩
theorem fp_X12_41_11 : FP RX12 "<init>" 41 11 16 (.array .int) := ⟨"GeoThreadsModel", (RX12, TX12, 36), rfl, by decide, (gd_mem (List.mem_of_getElem? (i := 822) (by decide +kernel)) rfl), rfl, by decide +kernel, Or.inr ⟨rfl, rfl, rfl⟩⟩
theorem fl_X12_44_11 : FL RX12 44 11 17 := ⟨"GeoThreadsModel", (RX12, TX12, 36), rfl, by decide, (gd_mem (List.mem_of_getElem? (i := 823) (by decide +kernel)) rfl), (Or.inl rfl)⟩
theorem fp_X12_44_11 : FP RX12 "<init>" 44 11 17 (.array .int) := ⟨"GeoThreadsModel", (RX12, TX12, 36), rfl, by decide, (gd_mem (List.mem_of_getElem? (i := 823) (by decide +kernel)) rfl), rfl, by decide +kernel, Or.inr ⟨rfl, rfl, rfl⟩⟩
theorem fl_X12_47_11 : FL RX12 47 11 18 := ⟨"GeoThreadsModel", (RX12, TX12, 36), rfl, by decide, (gd_mem (List.mem_of_getElem? (i := 824) (by decide +kernel)) rfl), (Or.inl rfl)⟩
theorem fp_X12_47_11 : FP RX12 "<init>" 47 11 18 (.array .int) := ⟨"GeoThreadsModel", (RX12, TX12, 36), rfl, by decide, (gd_mem (List.mem_of_getElem? (i := 824) (by decide +kernel)) rfl), rfl, by decide +kernel, Or.inr ⟨rfl, rfl, rfl⟩⟩
theorem fl_X12_50_11 : FL RX12 50 11 19 := ⟨"GeoThreadsModel", (RX12, TX12, 36), rfl, by decide, (gd_mem (List.mem_of_getElem? (i := 825) (by decide +kernel)) rfl), (Or.inl rfl)⟩
theorem fp_X12_50_11 : FP RX12 "<init>" 50 11 19 (.array .int) := ⟨"GeoThreadsModel", (RX12, TX12, 36), rfl, by decide, (gd_mem (List.mem_of_getElem? (i := 825) (by decide +kernel)) rfl), rfl, by decide +kernel, Or.inr ⟨rfl, rfl, rfl⟩⟩
theorem fl_X12_148_11 : FL RX12 148 11 20 := ⟨"GeoThreadsModel", (RX12, TX12, 36), rfl, by decide, (gd_mem (List.mem_of_getElem? (i := 826) (by decide +kernel)) rfl), (Or.inl rfl)⟩
theorem fp_X12_148_11 (mn : String) : FP RX12 mn 148 11 20 .int := ⟨"GeoThreadsModel", (RX12, TX12, 36), rfl, by decide, (gd_mem (List.mem_of_getElem? (i := 826) (by decide +kernel)) rfl), rfl, by decide +kernel, Or.inl rfl⟩
theorem fl_X12_53_11 : FL RX12 53 11 21 := ⟨"GeoThreadsModel", (RX12, TX12, 36), rfl, by decide, (gd_mem (List.mem_of_getElem? (i := 827) (by decide +kernel)) rfl), (Or.inl rfl)⟩
theorem fp_X12_53_11 : FP RX12 "<init>" 53 11 21 (.array .int) := ⟨"GeoThreadsModel", (RX12, TX12, 36), rfl, by decide, (gd_mem (List.mem_of_getElem? (i := 827) (by decide +kernel)) rfl), rfl, by decide +kernel, Or.inr ⟨rfl, rfl, rfl⟩⟩
theorem fl_X12_56_11 : FL RX12 56 11 22 := ⟨"GeoThreadsModel", (RX12, TX12, 36), rfl, by decide, (gd_mem (List.mem_of_getElem? (i := 828) (by decide +kernel)) rfl), (Or.inl rfl)⟩
theorem fp_X12_56_11 : FP RX12 "<init>" 56 11 22 (.array .int) := ⟨"GeoThreadsModel", (RX12, TX12, 36), rfl, by decide, (gd_mem (List.mem_of_getElem? (i := 828) (by decide +kernel)) rfl), rfl, by decide +kernel, Or.inr ⟨rfl, rfl, rfl⟩⟩
theorem fl_X12_59_11 : FL RX12 59 11 23 := ⟨"GeoThreadsModel", (RX12, TX12, 36), rfl, by decide, (gd_mem (List.mem_of_getElem? (i := 829) (by decide +kernel)) rfl), (Or.inl rfl)⟩
theorem fp_X12_59_11 : FP RX12 "<init>" 59 11 23 (.array .int) := ⟨"GeoThreadsModel", (RX12, TX12, 36), rfl, by decide, (gd_mem (List.mem_of_getElem? (i := 829) (by decide +kernel)) rfl), rfl, by decide +kernel, Or.inr ⟨rfl, rfl, rfl⟩⟩
theorem fl_X12_62_11 : FL RX12 62 11 24 := ⟨"GeoThreadsModel", (RX12, TX12, 36), rfl, by decide, (gd_mem (List.mem_of_getElem? (i := 830) (by decide +kernel)) rfl), (Or.inl rfl)⟩
theorem fp_X12_62_11 : FP RX12 "<init>" 62 11 24 (.array .long) := ⟨"GeoThreadsModel", (RX12, TX12, 36), rfl, by decide, (gd_mem (List.mem_of_getElem? (i := 830) (by decide +kernel)) rfl), rfl, by decide +kernel, Or.inr ⟨rfl, rfl, rfl⟩⟩
theorem fl_X12_151_11 : FL RX12 151 11 25 := ⟨"GeoThreadsModel", (RX12, TX12, 36), rfl, by decide, (gd_mem (List.mem_of_getElem? (i := 831) (by decide +kernel)) rfl), (Or.inl rfl)⟩
theorem fp_X12_151_11 (mn : String) : FP RX12 mn 151 11 25 .int := ⟨"GeoThreadsModel", (RX12, TX12, 36), rfl, by decide, (gd_mem (List.mem_of_getElem? (i := 831) (by decide +kernel)) rfl), rfl, by decide +kernel, Or.inl rfl⟩
theorem fl_X12_65_11 : FL RX12 65 11 26 := ⟨"GeoThreadsModel", (RX12, TX12, 36), rfl, by decide, (gd_mem (List.mem_of_getElem? (i := 832) (by decide +kernel)) rfl), (Or.inl rfl)⟩
theorem fp_X12_65_11 : FP RX12 "<init>" 65 11 26 (.array .int) := ⟨"GeoThreadsModel", (RX12, TX12, 36), rfl, by decide, (gd_mem (List.mem_of_getElem? (i := 832) (by decide +kernel)) rfl), rfl, by decide +kernel, Or.inr ⟨rfl, rfl, rfl⟩⟩
theorem fl_X12_68_11 : FL RX12 68 11 27 := ⟨"GeoThreadsModel", (RX12, TX12, 36), rfl, by decide, (gd_mem (List.mem_of_getElem? (i := 833) (by decide +kernel)) rfl), (Or.inl rfl)⟩
theorem fp_X12_68_11 : FP RX12 "<init>" 68 11 27 (.array .int) := ⟨"GeoThreadsModel", (RX12, TX12, 36), rfl, by decide, (gd_mem (List.mem_of_getElem? (i := 833) (by decide +kernel)) rfl), rfl, by decide +kernel, Or.inr ⟨rfl, rfl, rfl⟩⟩
theorem fl_X12_71_11 : FL RX12 71 11 28 := ⟨"GeoThreadsModel", (RX12, TX12, 36), rfl, by decide, (gd_mem (List.mem_of_getElem? (i := 834) (by decide +kernel)) rfl), (Or.inl rfl)⟩
theorem fp_X12_71_11 : FP RX12 "<init>" 71 11 28 (.array .int) := ⟨"GeoThreadsModel", (RX12, TX12, 36), rfl, by decide, (gd_mem (List.mem_of_getElem? (i := 834) (by decide +kernel)) rfl), rfl, by decide +kernel, Or.inr ⟨rfl, rfl, rfl⟩⟩
theorem fl_X12_74_11 : FL RX12 74 11 29 := ⟨"GeoThreadsModel", (RX12, TX12, 36), rfl, by decide, (gd_mem (List.mem_of_getElem? (i := 835) (by decide +kernel)) rfl), (Or.inl rfl)⟩
theorem fp_X12_74_11 : FP RX12 "<init>" 74 11 29 (.array .long) := ⟨"GeoThreadsModel", (RX12, TX12, 36), rfl, by decide, (gd_mem (List.mem_of_getElem? (i := 835) (by decide +kernel)) rfl), rfl, by decide +kernel, Or.inr ⟨rfl, rfl, rfl⟩⟩
theorem fl_X12_77_11 : FL RX12 77 11 30 := ⟨"GeoThreadsModel", (RX12, TX12, 36), rfl, by decide, (gd_mem (List.mem_of_getElem? (i := 836) (by decide +kernel)) rfl), (Or.inl rfl)⟩
theorem fp_X12_77_11 : FP RX12 "<init>" 77 11 30 (.array .long) := ⟨"GeoThreadsModel", (RX12, TX12, 36), rfl, by decide, (gd_mem (List.mem_of_getElem? (i := 836) (by decide +kernel)) rfl), rfl, by decide +kernel, Or.inr ⟨rfl, rfl, rfl⟩⟩
theorem fl_X12_184_11 : FL RX12 184 11 33 := ⟨"GeoThreadsModel", (RX12, TX12, 36), rfl, by decide, (gd_mem (List.mem_of_getElem? (i := 837) (by decide +kernel)) rfl), (Or.inl rfl)⟩
theorem fp_X12_184_11 (mn : String) : FP RX12 mn 184 11 33 .long := ⟨"GeoThreadsModel", (RX12, TX12, 36), rfl, by decide, (gd_mem (List.mem_of_getElem? (i := 837) (by decide +kernel)) rfl), rfl, by decide +kernel, Or.inl rfl⟩
theorem fl_X12_80_11 : FL RX12 80 11 34 := ⟨"GeoThreadsModel", (RX12, TX12, 36), rfl, by decide, (gd_mem (List.mem_of_getElem? (i := 838) (by decide +kernel)) rfl), (Or.inl rfl)⟩
theorem fp_X12_80_11 : FP RX12 "<init>" 80 11 34 (.array .int) := ⟨"GeoThreadsModel", (RX12, TX12, 36), rfl, by decide, (gd_mem (List.mem_of_getElem? (i := 838) (by decide +kernel)) rfl), rfl, by decide +kernel, Or.inr ⟨rfl, rfl, rfl⟩⟩
theorem fl_X12_83_11 : FL RX12 83 11 35 := ⟨"GeoThreadsModel", (RX12, TX12, 36), rfl, by decide, (gd_mem (List.mem_of_getElem? (i := 839) (by decide +kernel)) rfl), (Or.inl rfl)⟩
theorem fp_X12_83_11 : FP RX12 "<init>" 83 11 35 (.array .long) := ⟨"GeoThreadsModel", (RX12, TX12, 36), rfl, by decide, (gd_mem (List.mem_of_getElem? (i := 839) (by decide +kernel)) rfl), rfl, by decide +kernel, Or.inr ⟨rfl, rfl, rfl⟩⟩
theorem lk_L_25 : Cond.methodLink RL 25 yX12_grid ∈ lw_gd := (gd_mem (List.mem_of_getElem? (i := 913) (by decide +kernel)) rfl)
theorem lk_X12_107 : Cond.methodLink RX12 107 yX12_in ∈ lw_gd := (gd_mem (List.mem_of_getElem? (i := 917) (by decide +kernel)) rfl)
theorem lk_X12_114 : Cond.methodLink RX12 114 yX12_isOpen ∈ lw_gd := (gd_mem (List.mem_of_getElem? (i := 920) (by decide +kernel)) rfl)
theorem lk_X12_118 : Cond.methodLink RX12 118 yX12_newLine ∈ lw_gd := (gd_mem (List.mem_of_getElem? (i := 924) (by decide +kernel)) rfl)
theorem lk_L_29 : Cond.methodLink RL 29 yX12_line ∈ lw_gd := (gd_mem (List.mem_of_getElem? (i := 928) (by decide +kernel)) rfl)
theorem lk_X12_122 : Cond.methodLink RX12 122 yX12_isGrid ∈ lw_gd := (gd_mem (List.mem_of_getElem? (i := 932) (by decide +kernel)) rfl)
theorem lk_X12_126 : Cond.methodLink RX12 126 yX12_isLine ∈ lw_gd := (gd_mem (List.mem_of_getElem? (i := 936) (by decide +kernel)) rfl)
theorem lk_L_36 : Cond.methodLink RL 36 yX12_put ∈ lw_gd := (gd_mem (List.mem_of_getElem? (i := 940) (by decide +kernel)) rfl)
theorem lk_X12_133 : Cond.methodLink RX12 133 yX12_against ∈ lw_gd := (gd_mem (List.mem_of_getElem? (i := 944) (by decide +kernel)) rfl)
theorem lk_X12_137 : Cond.methodLink RX12 137 yX12_asKind ∈ lw_gd := (gd_mem (List.mem_of_getElem? (i := 948) (by decide +kernel)) rfl)
theorem kc_X12_130 : Cond.constantFloat RX12 130 (1082130432 : UInt32) ∈ lw_gd := (gd_mem (List.mem_of_getElem? (i := 951) (by decide +kernel)) rfl)
theorem kc_X12_131 : Cond.constantDouble RX12 131 (4616189618054758400 : UInt64) ∈ lw_gd := (gd_mem (List.mem_of_getElem? (i := 952) (by decide +kernel)) rfl)
theorem lk_L_41 : Cond.methodLink RL 41 yX12_item ∈ lw_gd := (gd_mem (List.mem_of_getElem? (i := 953) (by decide +kernel)) rfl)
theorem lk_L_46 : Cond.methodLink RL 46 yX12_lay ∈ lw_gd := (gd_mem (List.mem_of_getElem? (i := 957) (by decide +kernel)) rfl)
theorem lk_L_51 : Cond.methodLink RL 51 yX12_size ∈ lw_gd := (gd_mem (List.mem_of_getElem? (i := 961) (by decide +kernel)) rfl)
theorem lk_L_56 : Cond.methodLink RL 56 yX12_way ∈ lw_gd := (gd_mem (List.mem_of_getElem? (i := 965) (by decide +kernel)) rfl)
theorem kc_X12_141 : Cond.constant RX12 141 (100000 : Int32) ∈ lw_gd := (gd_mem (List.mem_of_getElem? (i := 969) (by decide +kernel)) rfl)
theorem lk_X12_142 : Cond.methodLink RX12 142 yX12_mayNeed ∈ lw_gd := (gd_mem (List.mem_of_getElem? (i := 970) (by decide +kernel)) rfl)
theorem lk_X12_145 : Cond.methodLink RX12 145 yX12_comes ∈ lw_gd := (gd_mem (List.mem_of_getElem? (i := 974) (by decide +kernel)) rfl)
theorem lk_L_61 : Cond.methodLink RL 61 yX12_reader ∈ lw_gd := (gd_mem (List.mem_of_getElem? (i := 978) (by decide +kernel)) rfl)
theorem lk_L_65 : Cond.methodLink RL 65 yX12_search ∈ lw_gd := (gd_mem (List.mem_of_getElem? (i := 982) (by decide +kernel)) rfl)
theorem lk_L_70 : Cond.methodLink RL 70 yX12_share ∈ lw_gd := (gd_mem (List.mem_of_getElem? (i := 986) (by decide +kernel)) rfl)
theorem lk_L_75 : Cond.methodLink RL 75 yX12_turn ∈ lw_gd := (gd_mem (List.mem_of_getElem? (i := 990) (by decide +kernel)) rfl)
theorem lk_L_79 : Cond.methodLink RL 79 yX12_run ∈ lw_gd := (gd_mem (List.mem_of_getElem? (i := 994) (by decide +kernel)) rfl)
theorem lk_X12_220 : Cond.methodLink RX12 220 yX12_turns ∈ lw_gd := (gd_mem (List.mem_of_getElem? (i := 998) (by decide +kernel)) rfl)
theorem lk_X12_205 : Cond.methodLink RX12 205 yX12_takes ∈ lw_gd := (gd_mem (List.mem_of_getElem? (i := 1002) (by decide +kernel)) rfl)
theorem lk_X12_173 : Cond.methodLink RX12 173 yX12_at ∈ lw_gd := (gd_mem (List.mem_of_getElem? (i := 1006) (by decide +kernel)) rfl)
theorem lk_X12_154 : Cond.methodLink RX12 154 yX12_set ∈ lw_gd := (gd_mem (List.mem_of_getElem? (i := 1010) (by decide +kernel)) rfl)
theorem lk_X12_160 : Cond.methodLink RX12 160 yX12_more ∈ lw_gd := (gd_mem (List.mem_of_getElem? (i := 1014) (by decide +kernel)) rfl)
theorem lk_X12_198 : Cond.methodLink RX12 198 yX12_notes ∈ lw_gd := (gd_mem (List.mem_of_getElem? (i := 1018) (by decide +kernel)) rfl)
theorem lk_X12_208 : Cond.methodLink RX12 208 yX12_step ∈ lw_gd := (gd_mem (List.mem_of_getElem? (i := 1022) (by decide +kernel)) rfl)
theorem lk_X12_164 : Cond.methodLink RX12 164 yX12_plain ∈ lw_gd := (gd_mem (List.mem_of_getElem? (i := 1026) (by decide +kernel)) rfl)
theorem lk_X12_177 : Cond.methodLink RX12 177 yX12_failed ∈ lw_gd := (gd_mem (List.mem_of_getElem? (i := 1030) (by decide +kernel)) rfl)
theorem lk_X12_167 : Cond.methodLink RX12 167 yX12_shared ∈ lw_gd := (gd_mem (List.mem_of_getElem? (i := 1034) (by decide +kernel)) rfl)
theorem lk_X12_192 : Cond.methodLink RX12 192 yX12_lineFault ∈ lw_gd := (gd_mem (List.mem_of_getElem? (i := 1038) (by decide +kernel)) rfl)
theorem lk_X12_180 : Cond.methodLink RX12 180 yX12_worth ∈ lw_gd := (gd_mem (List.mem_of_getElem? (i := 1042) (by decide +kernel)) rfl)
theorem kc_X12_158 : Cond.constantLong RX12 158 (1000000 : Int64) ∈ lw_gd := (gd_mem (List.mem_of_getElem? (i := 1045) (by decide +kernel)) rfl)
theorem lk_X12_195 : Cond.methodLink RX12 195 yX12_goes ∈ lw_gd := (gd_mem (List.mem_of_getElem? (i := 1046) (by decide +kernel)) rfl)
theorem lk_X12_188 : Cond.methodLink RX12 188 yX12_finds ∈ lw_gd := (gd_mem (List.mem_of_getElem? (i := 1050) (by decide +kernel)) rfl)
theorem lk_X12_170 : Cond.methodLink RX12 170 yX12_read ∈ lw_gd := (gd_mem (List.mem_of_getElem? (i := 1054) (by decide +kernel)) rfl)
theorem lk_X12_211 : Cond.methodLink RX12 211 yX12_ends ∈ lw_gd := (gd_mem (List.mem_of_getElem? (i := 1058) (by decide +kernel)) rfl)
theorem lk_X12_214 : Cond.methodLink RX12 214 yX12_looks ∈ lw_gd := (gd_mem (List.mem_of_getElem? (i := 1062) (by decide +kernel)) rfl)
theorem lk_X12_202 : Cond.methodLink RX12 202 yX12_falls ∈ lw_gd := (gd_mem (List.mem_of_getElem? (i := 1066) (by decide +kernel)) rfl)
theorem lk_X12_223 : Cond.methodLink RX12 223 yX12_again ∈ lw_gd := (gd_mem (List.mem_of_getElem? (i := 1070) (by decide +kernel)) rfl)
theorem lk_X12_217 : Cond.methodLink RX12 217 yX12_isLost ∈ lw_gd := (gd_mem (List.mem_of_getElem? (i := 1074) (by decide +kernel)) rfl)
theorem lk_L_83 : Cond.methodLink RL 83 yX12_interrupt ∈ lw_gd := (gd_mem (List.mem_of_getElem? (i := 1078) (by decide +kernel)) rfl)
theorem lk_X12_226 : Cond.methodLink RX12 226 yX12_isTask ∈ lw_gd := (gd_mem (List.mem_of_getElem? (i := 1082) (by decide +kernel)) rfl)
theorem lk_L_88 : Cond.methodLink RL 88 yX12_close ∈ lw_gd := (gd_mem (List.mem_of_getElem? (i := 1086) (by decide +kernel)) rfl)
theorem lk_L_92 : Cond.methodLink RL 92 yX12_anew ∈ lw_gd := (gd_mem (List.mem_of_getElem? (i := 1090) (by decide +kernel)) rfl)
theorem lk_L_96 : Cond.methodLink RL 96 yX12_taken ∈ lw_gd := (gd_mem (List.mem_of_getElem? (i := 1094) (by decide +kernel)) rfl)
theorem lk_L_101 : Cond.methodLink RL 101 yX12_answer ∈ lw_gd := (gd_mem (List.mem_of_getElem? (i := 1098) (by decide +kernel)) rfl)
theorem lk_X12_229 : Cond.methodLink RX12 229 yX12_answerOf ∈ lw_gd := (gd_mem (List.mem_of_getElem? (i := 1102) (by decide +kernel)) rfl)
theorem lk_L_105 : Cond.methodLink RL 105 yX12_told ∈ lw_gd := (gd_mem (List.mem_of_getElem? (i := 1106) (by decide +kernel)) rfl)
theorem lk_L_110 : Cond.methodLink RL 110 yX12_best ∈ lw_gd := (gd_mem (List.mem_of_getElem? (i := 1110) (by decide +kernel)) rfl)
theorem kc_X12_233 : Cond.constantLong RX12 233 (-1 : Int64) ∈ lw_gd := (gd_mem (List.mem_of_getElem? (i := 1114) (by decide +kernel)) rfl)
theorem lk_L_114 : Cond.methodLink RL 114 yX12_note ∈ lw_gd := (gd_mem (List.mem_of_getElem? (i := 1115) (by decide +kernel)) rfl)
theorem lk_L_118 : Cond.methodLink RL 118 yX12_finished ∈ lw_gd := (gd_mem (List.mem_of_getElem? (i := 1119) (by decide +kernel)) rfl)
theorem lk_L_122 : Cond.methodLink RL 122 yX12_count ∈ lw_gd := (gd_mem (List.mem_of_getElem? (i := 1123) (by decide +kernel)) rfl)
theorem lk_L_126 : Cond.methodLink RL 126 yX12_equal ∈ lw_gd := (gd_mem (List.mem_of_getElem? (i := 1127) (by decide +kernel)) rfl)
theorem lk_X12_235 : Cond.methodLink RX12 235 yX12_keep ∈ lw_gd := (gd_mem (List.mem_of_getElem? (i := 1131) (by decide +kernel)) rfl)
theorem lk_X12_238 : Cond.methodLink RX12 238 yX12_through ∈ lw_gd := (gd_mem (List.mem_of_getElem? (i := 1135) (by decide +kernel)) rfl)
theorem lk_X12_241 : Cond.methodLink RX12 241 yX12_isLikeFirst ∈ lw_gd := (gd_mem (List.mem_of_getElem? (i := 1139) (by decide +kernel)) rfl)
theorem lk_X12_244 : Cond.methodLink RX12 244 yX12_bring ∈ lw_gd := (gd_mem (List.mem_of_getElem? (i := 1143) (by decide +kernel)) rfl)
theorem kc_L_30 : Cond.constantLong RL 30 (4294967295 : Int64) ∈ lw_gd := (gd_mem (List.mem_of_getElem? (i := 1147) (by decide +kernel)) rfl)
theorem cs_X9 : Cond.castable "GeoThreads$Way" "GeoThreads$Task" ∈ nwL := (nw_mem (List.mem_of_getElem? (i := 1148) (by decide +kernel)) rfl)
theorem cs_X5 : Cond.castable "GeoThreads$Reader" "GeoThreads$Task" ∈ nwL := (nw_mem (List.mem_of_getElem? (i := 1149) (by decide +kernel)) rfl)
theorem cs_X7 : Cond.castable "GeoThreads$Share" "GeoThreads$Task" ∈ nwL := (nw_mem (List.mem_of_getElem? (i := 1150) (by decide +kernel)) rfl)
def mX0_init : MD := (yX0_init, cX0_init, 5, none, 2, 40)
theorem okX0_init : MokI mX0_init 3 := ⟨(gd_mem (List.mem_of_getElem? (i := 134) (by decide +kernel)) rfl), rfl, rfl, (gd_mem (List.mem_of_getElem? (i := 133) (by decide +kernel)) rfl), in_X0, by decide, by decide, by decide +kernel⟩
def mX0_begin : MD := (yX0_begin, cX0_begin, 3, none, 1, 22)
theorem okX0_begin : MokV mX0_begin 1 := ⟨(gd_mem (List.mem_of_getElem? (i := 305) (by decide +kernel)) rfl), (gd_mem (List.mem_of_getElem? (i := 303) (by decide +kernel)) rfl), (gd_mem (List.mem_of_getElem? (i := 304) (by decide +kernel)) rfl), in_X0, by decide, by decide, by decide +kernel⟩
def mX0_goOn : MD := (yX0_goOn, cX0_goOn, 3, (some .int), 6, 138)
theorem okX0_goOn : MokV mX0_goOn 1 := ⟨(gd_mem (List.mem_of_getElem? (i := 568) (by decide +kernel)) rfl), (gd_mem (List.mem_of_getElem? (i := 566) (by decide +kernel)) rfl), (gd_mem (List.mem_of_getElem? (i := 567) (by decide +kernel)) rfl), in_X0, by decide, by decide, by decide +kernel⟩
def mX0_nextThread : MD := (yX0_nextThread, cX0_nextThread, 2, (some .int), 0, 0)
theorem okX0_nextThread : MokV mX0_nextThread 0 := ⟨(gd_mem (List.mem_of_getElem? (i := 572) (by decide +kernel)) rfl), (gd_mem (List.mem_of_getElem? (i := 571) (by decide +kernel)) rfl), (gd_mem (List.mem_of_getElem? (i := 3) (by decide +kernel)) rfl), in_X0, by decide, by decide, by decide +kernel⟩
def mX0_giveTurn : MD := (yX0_giveTurn, cX0_giveTurn, 3, none, 5, 116)
theorem okX0_giveTurn : MokV mX0_giveTurn 1 := ⟨(gd_mem (List.mem_of_getElem? (i := 576) (by decide +kernel)) rfl), (gd_mem (List.mem_of_getElem? (i := 575) (by decide +kernel)) rfl), (gd_mem (List.mem_of_getElem? (i := 4) (by decide +kernel)) rfl), in_X0, by decide, by decide, by decide +kernel⟩
def mX0_takeNext : MD := (yX0_takeNext, cX0_takeNext, 4, none, 1, 23)
theorem okX0_takeNext : MokV mX0_takeNext 1 := ⟨(gd_mem (List.mem_of_getElem? (i := 580) (by decide +kernel)) rfl), (gd_mem (List.mem_of_getElem? (i := 579) (by decide +kernel)) rfl), (gd_mem (List.mem_of_getElem? (i := 5) (by decide +kernel)) rfl), in_X0, by decide, by decide, by decide +kernel⟩
def mX0_leastThatFits : MD := (yX0_leastThatFits, cX0_leastThatFits, 2, (some .int), 0, 0)
theorem okX0_leastThatFits : MokV mX0_leastThatFits 0 := ⟨(gd_mem (List.mem_of_getElem? (i := 584) (by decide +kernel)) rfl), (gd_mem (List.mem_of_getElem? (i := 583) (by decide +kernel)) rfl), (gd_mem (List.mem_of_getElem? (i := 6) (by decide +kernel)) rfl), in_X0, by decide, by decide, by decide +kernel⟩
def mX0_goOnWith : MD := (yX0_goOnWith, cX0_goOnWith, 5, none, 4, 92)
theorem okX0_goOnWith : MokV mX0_goOnWith 2 := ⟨(gd_mem (List.mem_of_getElem? (i := 593) (by decide +kernel)) rfl), (gd_mem (List.mem_of_getElem? (i := 592) (by decide +kernel)) rfl), (gd_mem (List.mem_of_getElem? (i := 8) (by decide +kernel)) rfl), in_X0, by decide, by decide, by decide +kernel⟩
def mX0_leave : MD := (yX0_leave, cX0_leave, 3, none, 1, 23)
theorem okX0_leave : MokV mX0_leave 2 := ⟨(gd_mem (List.mem_of_getElem? (i := 657) (by decide +kernel)) rfl), (gd_mem (List.mem_of_getElem? (i := 656) (by decide +kernel)) rfl), (gd_mem (List.mem_of_getElem? (i := 11) (by decide +kernel)) rfl), in_X0, by decide, by decide, by decide +kernel⟩
def mX0_endWaiting : MD := (yX0_endWaiting, cX0_endWaiting, 3, none, 0, 0)
theorem okX0_endWaiting : MokV mX0_endWaiting 2 := ⟨(gd_mem (List.mem_of_getElem? (i := 680) (by decide +kernel)) rfl), (gd_mem (List.mem_of_getElem? (i := 679) (by decide +kernel)) rfl), (gd_mem (List.mem_of_getElem? (i := 14) (by decide +kernel)) rfl), in_X0, by decide, by decide, by decide +kernel⟩
def mX0_write : MD := (yX0_write, cX0_write, 4, none, 0, 0)
theorem okX0_write : MokV mX0_write 3 := ⟨(gd_mem (List.mem_of_getElem? (i := 589) (by decide +kernel)) rfl), (gd_mem (List.mem_of_getElem? (i := 588) (by decide +kernel)) rfl), (gd_mem (List.mem_of_getElem? (i := 7) (by decide +kernel)) rfl), in_X0, by decide, by decide, by decide +kernel⟩
def mX0_lookWhatIsTaken : MD := (yX0_lookWhatIsTaken, cX0_lookWhatIsTaken, 2, none, 2, 44)
theorem okX0_lookWhatIsTaken : MokV mX0_lookWhatIsTaken 0 := ⟨(gd_mem (List.mem_of_getElem? (i := 661) (by decide +kernel)) rfl), (gd_mem (List.mem_of_getElem? (i := 660) (by decide +kernel)) rfl), (gd_mem (List.mem_of_getElem? (i := 12) (by decide +kernel)) rfl), in_X0, by decide, by decide, by decide +kernel⟩
def mX0_takeWay : MD := (yX0_takeWay, cX0_takeWay, 3, none, 1, 22)
theorem okX0_takeWay : MokV mX0_takeWay 1 := ⟨(gd_mem (List.mem_of_getElem? (i := 676) (by decide +kernel)) rfl), (gd_mem (List.mem_of_getElem? (i := 675) (by decide +kernel)) rfl), (gd_mem (List.mem_of_getElem? (i := 13) (by decide +kernel)) rfl), in_X0, by decide, by decide, by decide +kernel⟩
def mX0_doFailedSharesAgain : MD := (yX0_doFailedSharesAgain, cX0_doFailedSharesAgain, 4, none, 4, 95)
theorem okX0_doFailedSharesAgain : MokV mX0_doFailedSharesAgain 0 := ⟨(gd_mem (List.mem_of_getElem? (i := 684) (by decide +kernel)) rfl), (gd_mem (List.mem_of_getElem? (i := 683) (by decide +kernel)) rfl), (gd_mem (List.mem_of_getElem? (i := 15) (by decide +kernel)) rfl), in_X0, by decide, by decide, by decide +kernel⟩
def mX0_breakOff : MD := (yX0_breakOff, cX0_breakOff, 3, (some .int), 3, 65)
theorem okX0_breakOff : MokV mX0_breakOff 1 := ⟨(gd_mem (List.mem_of_getElem? (i := 702) (by decide +kernel)) rfl), (gd_mem (List.mem_of_getElem? (i := 700) (by decide +kernel)) rfl), (gd_mem (List.mem_of_getElem? (i := 701) (by decide +kernel)) rfl), in_X0, by decide, by decide, by decide +kernel⟩
def mX0_stopAll : MD := (yX0_stopAll, cX0_stopAll, 4, (some .int), 2, 45)
theorem okX0_stopAll : MokV mX0_stopAll 0 := ⟨(gd_mem (List.mem_of_getElem? (i := 710) (by decide +kernel)) rfl), (gd_mem (List.mem_of_getElem? (i := 708) (by decide +kernel)) rfl), (gd_mem (List.mem_of_getElem? (i := 709) (by decide +kernel)) rfl), in_X0, by decide, by decide, by decide +kernel⟩
def mX0_answerOf : MD := (yX0_answerOf, cX0_answerOf, 2, (some .long), 1, 21)
theorem okX0_answerOf : MokV mX0_answerOf 1 := ⟨(gd_mem (List.mem_of_getElem? (i := 726) (by decide +kernel)) rfl), (gd_mem (List.mem_of_getElem? (i := 724) (by decide +kernel)) rfl), (gd_mem (List.mem_of_getElem? (i := 725) (by decide +kernel)) rfl), in_X0, by decide, by decide, by decide +kernel⟩
def mX0_lostOf : MD := (yX0_lostOf, cX0_lostOf, 6, (some .int), 0, 0)
theorem okX0_lostOf : MokV mX0_lostOf 1 := ⟨(gd_mem (List.mem_of_getElem? (i := 765) (by decide +kernel)) rfl), (gd_mem (List.mem_of_getElem? (i := 763) (by decide +kernel)) rfl), (gd_mem (List.mem_of_getElem? (i := 764) (by decide +kernel)) rfl), in_X0, by decide, by decide, by decide +kernel⟩
def mX0_foundAs : MD := (yX0_foundAs, cX0_foundAs, 3, (some .boolean), 2, 44)
theorem okX0_foundAs : MokV mX0_foundAs 1 := ⟨(gd_mem (List.mem_of_getElem? (i := 786) (by decide +kernel)) rfl), (gd_mem (List.mem_of_getElem? (i := 784) (by decide +kernel)) rfl), (gd_mem (List.mem_of_getElem? (i := 785) (by decide +kernel)) rfl), in_X0, by decide, by decide, by decide +kernel⟩
def mX0_endedAs : MD := (yX0_endedAs, cX0_endedAs, 5, (some .boolean), 1, 20)
theorem okX0_endedAs : MokV mX0_endedAs 2 := ⟨(gd_mem (List.mem_of_getElem? (i := 791) (by decide +kernel)) rfl), (gd_mem (List.mem_of_getElem? (i := 790) (by decide +kernel)) rfl), (gd_mem (List.mem_of_getElem? (i := 17) (by decide +kernel)) rfl), in_X0, by decide, by decide, by decide +kernel⟩
def mX1_init : MD := (yX1_init, cX1_init, 3, none, 1, 20)
theorem okX1_init : MokI mX1_init 2 := ⟨(gd_mem (List.mem_of_getElem? (i := 347) (by decide +kernel)) rfl), rfl, rfl, (gd_mem (List.mem_of_getElem? (i := 346) (by decide +kernel)) rfl), in_X1, by decide, by decide, by decide +kernel⟩
def mX1_has : MD := (yX1_has, cX1_has, 2, (some .boolean), 0, 0)
theorem okX1_has : MokV mX1_has 1 := ⟨(gd_mem (List.mem_of_getElem? (i := 394) (by decide +kernel)) rfl), (gd_mem (List.mem_of_getElem? (i := 392) (by decide +kernel)) rfl), (gd_mem (List.mem_of_getElem? (i := 393) (by decide +kernel)) rfl), in_X1, by decide, by decide, by decide +kernel⟩
def mX1_faultOf : MD := (yX1_faultOf, cX1_faultOf, 2, (some .int), 1, 21)
theorem okX1_faultOf : MokV mX1_faultOf 1 := ⟨(gd_mem (List.mem_of_getElem? (i := 402) (by decide +kernel)) rfl), (gd_mem (List.mem_of_getElem? (i := 400) (by decide +kernel)) rfl), (gd_mem (List.mem_of_getElem? (i := 401) (by decide +kernel)) rfl), in_X1, by decide, by decide, by decide +kernel⟩
def mX2_init : MD := (yX2_init, cX2_init, 1, none, 1, 20)
theorem okX2_init : MokI mX2_init 0 := ⟨(gd_mem (List.mem_of_getElem? (i := 215) (by decide +kernel)) rfl), rfl, rfl, (gd_mem (List.mem_of_getElem? (i := 214) (by decide +kernel)) rfl), in_X2, by decide, by decide, by decide +kernel⟩
def mX2_begin : MD := (yX2_begin, cX2_begin, 3, none, 0, 0)
theorem okX2_begin : MokV mX2_begin 1 := ⟨(gd_mem (List.mem_of_getElem? (i := 313) (by decide +kernel)) rfl), (gd_mem (List.mem_of_getElem? (i := 311) (by decide +kernel)) rfl), (gd_mem (List.mem_of_getElem? (i := 312) (by decide +kernel)) rfl), in_X2, by decide, by decide, by decide +kernel⟩
def mX2_offer : MD := (yX2_offer, cX2_offer, 5, none, 0, 0)
theorem okX2_offer : MokV mX2_offer 2 := ⟨(gd_mem (List.mem_of_getElem? (i := 637) (by decide +kernel)) rfl), (gd_mem (List.mem_of_getElem? (i := 635) (by decide +kernel)) rfl), (gd_mem (List.mem_of_getElem? (i := 636) (by decide +kernel)) rfl), in_X2, by decide, by decide, by decide +kernel⟩
def mX3_init : MD := (yX3_init, cX3_init, 3, none, 1, 20)
theorem okX3_init : MokI mX3_init 2 := ⟨(gd_mem (List.mem_of_getElem? (i := 371) (by decide +kernel)) rfl), rfl, rfl, (gd_mem (List.mem_of_getElem? (i := 370) (by decide +kernel)) rfl), in_X3, by decide, by decide, by decide +kernel⟩
def mX3_has : MD := (yX3_has, cX3_has, 2, (some .boolean), 0, 0)
theorem okX3_has : MokV mX3_has 1 := ⟨(gd_mem (List.mem_of_getElem? (i := 407) (by decide +kernel)) rfl), (gd_mem (List.mem_of_getElem? (i := 405) (by decide +kernel)) rfl), (gd_mem (List.mem_of_getElem? (i := 406) (by decide +kernel)) rfl), in_X3, by decide, by decide, by decide +kernel⟩
def mX3_worth : MD := (yX3_worth, cX3_worth, 2, (some .long), 1, 21)
theorem okX3_worth : MokV mX3_worth 1 := ⟨(gd_mem (List.mem_of_getElem? (i := 616) (by decide +kernel)) rfl), (gd_mem (List.mem_of_getElem? (i := 614) (by decide +kernel)) rfl), (gd_mem (List.mem_of_getElem? (i := 615) (by decide +kernel)) rfl), in_X3, by decide, by decide, by decide +kernel⟩
def mX4_init : MD := (yX4_init, cX4_init, 1, none, 1, 20)
theorem okX4_init : MokI mX4_init 0 := ⟨(gd_mem (List.mem_of_getElem? (i := 84) (by decide +kernel)) rfl), rfl, rfl, (gd_mem (List.mem_of_getElem? (i := 83) (by decide +kernel)) rfl), in_X4, by decide, by decide, by decide +kernel⟩
def mX4_gridAt : MD := (yX4_gridAt, cX4_gridAt, 2, (some (.object "GeoThreads$Grid")), 0, 0)
theorem okX4_gridAt : MokV mX4_gridAt 1 := ⟨(gd_mem (List.mem_of_getElem? (i := 390) (by decide +kernel)) rfl), (gd_mem (List.mem_of_getElem? (i := 388) (by decide +kernel)) rfl), (gd_mem (List.mem_of_getElem? (i := 389) (by decide +kernel)) rfl), in_X4, by decide, by decide, by decide +kernel⟩
def mX4_addTask : MD := (yX4_addTask, cX4_addTask, 2, (some .int), 0, 0)
theorem okX4_addTask : MokV mX4_addTask 1 := ⟨(gd_mem (List.mem_of_getElem? (i := 477) (by decide +kernel)) rfl), (gd_mem (List.mem_of_getElem? (i := 475) (by decide +kernel)) rfl), (gd_mem (List.mem_of_getElem? (i := 476) (by decide +kernel)) rfl), in_X4, by decide, by decide, by decide +kernel⟩
def mX5_init : MD := (yX5_init, cX5_init, 6, none, 2, 43)
theorem okX5_init : MokI mX5_init 5 := ⟨(gd_mem (List.mem_of_getElem? (i := 486) (by decide +kernel)) rfl), rfl, rfl, (gd_mem (List.mem_of_getElem? (i := 485) (by decide +kernel)) rfl), in_X5, by decide, by decide, by decide +kernel⟩
def mX5_rank : MD := (yX5_rank, cX5_rank, 1, (some .int), 0, 0)
theorem ouX5_rank_X5 : MokU ⟨"GeoThreads$Task", "rank", "()I"⟩ "GeoThreads$Reader" mX5_rank 0 := ⟨(gd_mem (List.mem_of_getElem? (i := 750) (by decide +kernel)) rfl), (gd_mem (List.mem_of_getElem? (i := 749) (by decide +kernel)) rfl), (gd_mem (List.mem_of_getElem? (i := 748) (by decide +kernel)) rfl), in_X5, (gd_mem (List.mem_of_getElem? (i := 747) (by decide +kernel)) rfl), by decide +kernel, Or.inl (nw_mem (List.mem_of_getElem? (i := 746) (by decide +kernel)) rfl)⟩
def mX5_step : MD := (yX5_step, cX5_step, 5, none, 2, 42)
theorem ouX5_step_X5 : MokU ⟨"GeoThreads$Task", "step", "(LGeoThreads$Work;[LGeoThreads$Hunt;)V"⟩ "GeoThreads$Reader" mX5_step 2 := ⟨(gd_mem (List.mem_of_getElem? (i := 599) (by decide +kernel)) rfl), (gd_mem (List.mem_of_getElem? (i := 598) (by decide +kernel)) rfl), (gd_mem (List.mem_of_getElem? (i := 597) (by decide +kernel)) rfl), in_X5, (gd_mem (List.mem_of_getElem? (i := 596) (by decide +kernel)) rfl), by decide +kernel, Or.inl (nw_mem (List.mem_of_getElem? (i := 595) (by decide +kernel)) rfl)⟩
def mX5_meetMissing : MD := (yX5_meetMissing, cX5_meetMissing, 2, none, 1, 21)
theorem okX5_meetMissing : MokV mX5_meetMissing 1 := ⟨(gd_mem (List.mem_of_getElem? (i := 607) (by decide +kernel)) rfl), (gd_mem (List.mem_of_getElem? (i := 606) (by decide +kernel)) rfl), (gd_mem (List.mem_of_getElem? (i := 9) (by decide +kernel)) rfl), in_X5, by decide, by decide, by decide +kernel⟩
def mX5_foundBy : MD := (yX5_foundBy, cX5_foundBy, 2, (some .long), 0, 0)
theorem ouX5_foundBy_X5 : MokU ⟨"GeoThreads$Task", "foundBy", "(LGeoThreads$Work;)J"⟩ "GeoThreads$Reader" mX5_foundBy 1 := ⟨(gd_mem (List.mem_of_getElem? (i := 733) (by decide +kernel)) rfl), (gd_mem (List.mem_of_getElem? (i := 732) (by decide +kernel)) rfl), (gd_mem (List.mem_of_getElem? (i := 731) (by decide +kernel)) rfl), in_X5, (gd_mem (List.mem_of_getElem? (i := 730) (by decide +kernel)) rfl), by decide +kernel, Or.inl (nw_mem (List.mem_of_getElem? (i := 729) (by decide +kernel)) rfl)⟩
def mX6_init : MD := (yX6_init, cX6_init, 6, none, 1, 20)
theorem okX6_init : MokI mX6_init 4 := ⟨(gd_mem (List.mem_of_getElem? (i := 506) (by decide +kernel)) rfl), rfl, rfl, (gd_mem (List.mem_of_getElem? (i := 505) (by decide +kernel)) rfl), in_X6, by decide, by decide, by decide +kernel⟩
def mX7_init : MD := (yX7_init, cX7_init, 7, none, 2, 43)
theorem okX7_init : MokI mX7_init 6 := ⟨(gd_mem (List.mem_of_getElem? (i := 534) (by decide +kernel)) rfl), rfl, rfl, (gd_mem (List.mem_of_getElem? (i := 533) (by decide +kernel)) rfl), in_X7, by decide, by decide, by decide +kernel⟩
def mX7_rank : MD := (yX7_rank, cX7_rank, 1, (some .int), 0, 0)
theorem ouX7_rank_X7 : MokU ⟨"GeoThreads$Task", "rank", "()I"⟩ "GeoThreads$Share" mX7_rank 0 := ⟨(gd_mem (List.mem_of_getElem? (i := 753) (by decide +kernel)) rfl), (gd_mem (List.mem_of_getElem? (i := 752) (by decide +kernel)) rfl), (gd_mem (List.mem_of_getElem? (i := 751) (by decide +kernel)) rfl), in_X7, (gd_mem (List.mem_of_getElem? (i := 747) (by decide +kernel)) rfl), by decide +kernel, Or.inl (nw_mem (List.mem_of_getElem? (i := 746) (by decide +kernel)) rfl)⟩
def mX7_step : MD := (yX7_step, cX7_step, 4, none, 3, 69)
theorem ouX7_step_X7 : MokU ⟨"GeoThreads$Task", "step", "(LGeoThreads$Work;[LGeoThreads$Hunt;)V"⟩ "GeoThreads$Share" mX7_step 2 := ⟨(gd_mem (List.mem_of_getElem? (i := 625) (by decide +kernel)) rfl), (gd_mem (List.mem_of_getElem? (i := 624) (by decide +kernel)) rfl), (gd_mem (List.mem_of_getElem? (i := 623) (by decide +kernel)) rfl), in_X7, (gd_mem (List.mem_of_getElem? (i := 596) (by decide +kernel)) rfl), by decide +kernel, Or.inl (nw_mem (List.mem_of_getElem? (i := 595) (by decide +kernel)) rfl)⟩
def mX7_stepInLine : MD := (yX7_stepInLine, cX7_stepInLine, 8, (some .int), 2, 42)
theorem okX7_stepInLine : MokV mX7_stepInLine 2 := ⟨(gd_mem (List.mem_of_getElem? (i := 629) (by decide +kernel)) rfl), (gd_mem (List.mem_of_getElem? (i := 628) (by decide +kernel)) rfl), (gd_mem (List.mem_of_getElem? (i := 10) (by decide +kernel)) rfl), in_X7, by decide, by decide, by decide +kernel⟩
def mX7_doAgain : MD := (yX7_doAgain, cX7_doAgain, 7, (some .int), 3, 69)
theorem okX7_doAgain : MokV mX7_doAgain 2 := ⟨(gd_mem (List.mem_of_getElem? (i := 689) (by decide +kernel)) rfl), (gd_mem (List.mem_of_getElem? (i := 687) (by decide +kernel)) rfl), (gd_mem (List.mem_of_getElem? (i := 688) (by decide +kernel)) rfl), in_X7, by decide, by decide, by decide +kernel⟩
def mX7_foundBy : MD := (yX7_foundBy, cX7_foundBy, 2, (some .long), 0, 0)
theorem ouX7_foundBy_X7 : MokU ⟨"GeoThreads$Task", "foundBy", "(LGeoThreads$Work;)J"⟩ "GeoThreads$Share" mX7_foundBy 1 := ⟨(gd_mem (List.mem_of_getElem? (i := 736) (by decide +kernel)) rfl), (gd_mem (List.mem_of_getElem? (i := 735) (by decide +kernel)) rfl), (gd_mem (List.mem_of_getElem? (i := 734) (by decide +kernel)) rfl), in_X7, (gd_mem (List.mem_of_getElem? (i := 730) (by decide +kernel)) rfl), by decide +kernel, Or.inl (nw_mem (List.mem_of_getElem? (i := 729) (by decide +kernel)) rfl)⟩
def mX7_usedBy : MD := (yX7_usedBy, cX7_usedBy, 2, (some .int), 0, 0)
theorem ouX7_usedBy_X7 : MokU ⟨"GeoThreads$Task", "usedBy", "(LGeoThreads$Work;)I"⟩ "GeoThreads$Share" mX7_usedBy 1 := ⟨(gd_mem (List.mem_of_getElem? (i := 651) (by decide +kernel)) rfl), (gd_mem (List.mem_of_getElem? (i := 650) (by decide +kernel)) rfl), (gd_mem (List.mem_of_getElem? (i := 649) (by decide +kernel)) rfl), in_X7, (gd_mem (List.mem_of_getElem? (i := 647) (by decide +kernel)) rfl), by decide +kernel, Or.inr ⟨(gd_mem (List.mem_of_getElem? (i := 646) (by decide +kernel)) rfl), cX8_usedBy, 2, (some .int), (gd_mem (List.mem_of_getElem? (i := 653) (by decide +kernel)) rfl)⟩⟩
def mX8_init : MD := (yX8_init, cX8_init, 4, none, 1, 20)
theorem okX8_init : MokI mX8_init 3 := ⟨(gd_mem (List.mem_of_getElem? (i := 446) (by decide +kernel)) rfl), rfl, rfl, (gd_mem (List.mem_of_getElem? (i := 445) (by decide +kernel)) rfl), in_X8, by decide, by decide, by decide +kernel⟩
def mX8_isWay : MD := (yX8_isWay, cX8_isWay, 1, (some .boolean), 0, 0)
theorem ouX8_isWay_X9 : MokU ⟨"GeoThreads$Task", "isWay", "()Z"⟩ "GeoThreads$Way" mX8_isWay 0 := ⟨(gd_mem (List.mem_of_getElem? (i := 668) (by decide +kernel)) rfl), (gd_mem (List.mem_of_getElem? (i := 663) (by decide +kernel)) rfl), (gd_mem (List.mem_of_getElem? (i := 667) (by decide +kernel)) rfl), in_X8, (gd_mem (List.mem_of_getElem? (i := 664) (by decide +kernel)) rfl), by decide +kernel, Or.inr ⟨(gd_mem (List.mem_of_getElem? (i := 663) (by decide +kernel)) rfl), cX8_isWay, 1, (some .boolean), (gd_mem (List.mem_of_getElem? (i := 668) (by decide +kernel)) rfl)⟩⟩
theorem ouX8_isWay_X5 : MokU ⟨"GeoThreads$Task", "isWay", "()Z"⟩ "GeoThreads$Reader" mX8_isWay 0 := ⟨(gd_mem (List.mem_of_getElem? (i := 668) (by decide +kernel)) rfl), (gd_mem (List.mem_of_getElem? (i := 663) (by decide +kernel)) rfl), (gd_mem (List.mem_of_getElem? (i := 665) (by decide +kernel)) rfl), in_X8, (gd_mem (List.mem_of_getElem? (i := 664) (by decide +kernel)) rfl), by decide +kernel, Or.inr ⟨(gd_mem (List.mem_of_getElem? (i := 663) (by decide +kernel)) rfl), cX8_isWay, 1, (some .boolean), (gd_mem (List.mem_of_getElem? (i := 668) (by decide +kernel)) rfl)⟩⟩
theorem ouX8_isWay_X7 : MokU ⟨"GeoThreads$Task", "isWay", "()Z"⟩ "GeoThreads$Share" mX8_isWay 0 := ⟨(gd_mem (List.mem_of_getElem? (i := 668) (by decide +kernel)) rfl), (gd_mem (List.mem_of_getElem? (i := 663) (by decide +kernel)) rfl), (gd_mem (List.mem_of_getElem? (i := 666) (by decide +kernel)) rfl), in_X8, (gd_mem (List.mem_of_getElem? (i := 664) (by decide +kernel)) rfl), by decide +kernel, Or.inr ⟨(gd_mem (List.mem_of_getElem? (i := 663) (by decide +kernel)) rfl), cX8_isWay, 1, (some .boolean), (gd_mem (List.mem_of_getElem? (i := 668) (by decide +kernel)) rfl)⟩⟩
def mX8_usedBy : MD := (yX8_usedBy, cX8_usedBy, 2, (some .int), 0, 0)
theorem ouX8_usedBy_X9 : MokU ⟨"GeoThreads$Task", "usedBy", "(LGeoThreads$Work;)I"⟩ "GeoThreads$Way" mX8_usedBy 1 := ⟨(gd_mem (List.mem_of_getElem? (i := 653) (by decide +kernel)) rfl), (gd_mem (List.mem_of_getElem? (i := 646) (by decide +kernel)) rfl), (gd_mem (List.mem_of_getElem? (i := 652) (by decide +kernel)) rfl), in_X8, (gd_mem (List.mem_of_getElem? (i := 647) (by decide +kernel)) rfl), by decide +kernel, Or.inr ⟨(gd_mem (List.mem_of_getElem? (i := 646) (by decide +kernel)) rfl), cX8_usedBy, 2, (some .int), (gd_mem (List.mem_of_getElem? (i := 653) (by decide +kernel)) rfl)⟩⟩
theorem ouX8_usedBy_X5 : MokU ⟨"GeoThreads$Task", "usedBy", "(LGeoThreads$Work;)I"⟩ "GeoThreads$Reader" mX8_usedBy 1 := ⟨(gd_mem (List.mem_of_getElem? (i := 653) (by decide +kernel)) rfl), (gd_mem (List.mem_of_getElem? (i := 646) (by decide +kernel)) rfl), (gd_mem (List.mem_of_getElem? (i := 648) (by decide +kernel)) rfl), in_X8, (gd_mem (List.mem_of_getElem? (i := 647) (by decide +kernel)) rfl), by decide +kernel, Or.inr ⟨(gd_mem (List.mem_of_getElem? (i := 646) (by decide +kernel)) rfl), cX8_usedBy, 2, (some .int), (gd_mem (List.mem_of_getElem? (i := 653) (by decide +kernel)) rfl)⟩⟩
def mX9_init : MD := (yX9_init, cX9_init, 8, none, 2, 43)
theorem okX9_init : MokI mX9_init 6 := ⟨(gd_mem (List.mem_of_getElem? (i := 443) (by decide +kernel)) rfl), rfl, rfl, (gd_mem (List.mem_of_getElem? (i := 442) (by decide +kernel)) rfl), in_X9, by decide, by decide, by decide +kernel⟩
def mX9_rank : MD := (yX9_rank, cX9_rank, 1, (some .int), 0, 0)
theorem ouX9_rank_X9 : MokU ⟨"GeoThreads$Task", "rank", "()I"⟩ "GeoThreads$Way" mX9_rank 0 := ⟨(gd_mem (List.mem_of_getElem? (i := 756) (by decide +kernel)) rfl), (gd_mem (List.mem_of_getElem? (i := 755) (by decide +kernel)) rfl), (gd_mem (List.mem_of_getElem? (i := 754) (by decide +kernel)) rfl), in_X9, (gd_mem (List.mem_of_getElem? (i := 747) (by decide +kernel)) rfl), by decide +kernel, Or.inl (nw_mem (List.mem_of_getElem? (i := 746) (by decide +kernel)) rfl)⟩
def mX9_step : MD := (yX9_step, cX9_step, 5, none, 1, 21)
theorem ouX9_step_X9 : MokU ⟨"GeoThreads$Task", "step", "(LGeoThreads$Work;[LGeoThreads$Hunt;)V"⟩ "GeoThreads$Way" mX9_step 2 := ⟨(gd_mem (List.mem_of_getElem? (i := 642) (by decide +kernel)) rfl), (gd_mem (List.mem_of_getElem? (i := 641) (by decide +kernel)) rfl), (gd_mem (List.mem_of_getElem? (i := 640) (by decide +kernel)) rfl), in_X9, (gd_mem (List.mem_of_getElem? (i := 596) (by decide +kernel)) rfl), by decide +kernel, Or.inl (nw_mem (List.mem_of_getElem? (i := 595) (by decide +kernel)) rfl)⟩
def mX9_foundBy : MD := (yX9_foundBy, cX9_foundBy, 2, (some .long), 0, 0)
theorem ouX9_foundBy_X9 : MokU ⟨"GeoThreads$Task", "foundBy", "(LGeoThreads$Work;)J"⟩ "GeoThreads$Way" mX9_foundBy 1 := ⟨(gd_mem (List.mem_of_getElem? (i := 740) (by decide +kernel)) rfl), (gd_mem (List.mem_of_getElem? (i := 739) (by decide +kernel)) rfl), (gd_mem (List.mem_of_getElem? (i := 738) (by decide +kernel)) rfl), in_X9, (gd_mem (List.mem_of_getElem? (i := 730) (by decide +kernel)) rfl), by decide +kernel, Or.inl (nw_mem (List.mem_of_getElem? (i := 729) (by decide +kernel)) rfl)⟩
def mX10_init : MD := (yX10_init, cX10_init, 1, none, 1, 20)
theorem okX10_init : MokI mX10_init 0 := ⟨(gd_mem (List.mem_of_getElem? (i := 143) (by decide +kernel)) rfl), rfl, rfl, (gd_mem (List.mem_of_getElem? (i := 142) (by decide +kernel)) rfl), in_X10, by decide, by decide, by decide +kernel⟩
def mX10_begin : MD := (yX10_begin, cX10_begin, 1, none, 0, 0)
theorem okX10_begin : MokV mX10_begin 0 := ⟨(gd_mem (List.mem_of_getElem? (i := 309) (by decide +kernel)) rfl), (gd_mem (List.mem_of_getElem? (i := 307) (by decide +kernel)) rfl), (gd_mem (List.mem_of_getElem? (i := 308) (by decide +kernel)) rfl), in_X10, by decide, by decide, by decide +kernel⟩
def mX10_isLeft : MD := (yX10_isLeft, cX10_isLeft, 1, (some .boolean), 0, 0)
theorem okX10_isLeft : MokV mX10_isLeft 0 := ⟨(gd_mem (List.mem_of_getElem? (i := 672) (by decide +kernel)) rfl), (gd_mem (List.mem_of_getElem? (i := 670) (by decide +kernel)) rfl), (gd_mem (List.mem_of_getElem? (i := 671) (by decide +kernel)) rfl), in_X10, by decide, by decide, by decide +kernel⟩
def mX10_fail : MD := (yX10_fail, cX10_fail, 2, none, 0, 0)
theorem okX10_fail : MokV mX10_fail 1 := ⟨(gd_mem (List.mem_of_getElem? (i := 603) (by decide +kernel)) rfl), (gd_mem (List.mem_of_getElem? (i := 601) (by decide +kernel)) rfl), (gd_mem (List.mem_of_getElem? (i := 602) (by decide +kernel)) rfl), in_X10, by decide, by decide, by decide +kernel⟩
def mX10_read : MD := (yX10_read, cX10_read, 3, none, 0, 0)
theorem okX10_read : MokV mX10_read 1 := ⟨(gd_mem (List.mem_of_getElem? (i := 622) (by decide +kernel)) rfl), (gd_mem (List.mem_of_getElem? (i := 620) (by decide +kernel)) rfl), (gd_mem (List.mem_of_getElem? (i := 621) (by decide +kernel)) rfl), in_X10, by decide, by decide, by decide +kernel⟩
def mX10_nextLine : MD := (yX10_nextLine, cX10_nextLine, 1, none, 0, 0)
theorem okX10_nextLine : MokV mX10_nextLine 0 := ⟨(gd_mem (List.mem_of_getElem? (i := 611) (by decide +kernel)) rfl), (gd_mem (List.mem_of_getElem? (i := 609) (by decide +kernel)) rfl), (gd_mem (List.mem_of_getElem? (i := 610) (by decide +kernel)) rfl), in_X10, by decide, by decide, by decide +kernel⟩
def mX11_init : MD := (yX11_init, cX11_init, 3, none, 3, 64)
theorem okX11_init : MokI mX11_init 2 := ⟨(gd_mem (List.mem_of_getElem? (i := 70) (by decide +kernel)) rfl), rfl, rfl, (gd_mem (List.mem_of_getElem? (i := 69) (by decide +kernel)) rfl), in_X11, by decide, by decide, by decide +kernel⟩
def mX11_grid : MD := (yX11_grid, cX11_grid, 6, (some .int), 3, 63)
theorem okX11_grid : MokV mX11_grid 3 := ⟨(gd_mem (List.mem_of_getElem? (i := 336) (by decide +kernel)) rfl), (gd_mem (List.mem_of_getElem? (i := 334) (by decide +kernel)) rfl), (gd_mem (List.mem_of_getElem? (i := 335) (by decide +kernel)) rfl), in_X11, by decide, by decide, by decide +kernel⟩
def mX11_line : MD := (yX11_line, cX11_line, 5, (some .int), 3, 63)
theorem okX11_line : MokV mX11_line 3 := ⟨(gd_mem (List.mem_of_getElem? (i := 386) (by decide +kernel)) rfl), (gd_mem (List.mem_of_getElem? (i := 384) (by decide +kernel)) rfl), (gd_mem (List.mem_of_getElem? (i := 385) (by decide +kernel)) rfl), in_X11, by decide, by decide, by decide +kernel⟩
def mX11_put : MD := (yX11_put, cX11_put, 9, (some .int), 2, 42)
theorem okX11_put : MokV mX11_put 4 := ⟨(gd_mem (List.mem_of_getElem? (i := 398) (by decide +kernel)) rfl), (gd_mem (List.mem_of_getElem? (i := 396) (by decide +kernel)) rfl), (gd_mem (List.mem_of_getElem? (i := 397) (by decide +kernel)) rfl), in_X11, by decide, by decide, by decide +kernel⟩
def mX11_item : MD := (yX11_item, cX11_item, 7, (some .long), 2, 42)
theorem okX11_item : MokV mX11_item 4 := ⟨(gd_mem (List.mem_of_getElem? (i := 416) (by decide +kernel)) rfl), (gd_mem (List.mem_of_getElem? (i := 414) (by decide +kernel)) rfl), (gd_mem (List.mem_of_getElem? (i := 415) (by decide +kernel)) rfl), in_X11, by decide, by decide, by decide +kernel⟩
def mX11_lay : MD := (yX11_lay, cX11_lay, 8, (some .int), 1, 21)
theorem okX11_lay : MokV mX11_lay 4 := ⟨(gd_mem (List.mem_of_getElem? (i := 421) (by decide +kernel)) rfl), (gd_mem (List.mem_of_getElem? (i := 419) (by decide +kernel)) rfl), (gd_mem (List.mem_of_getElem? (i := 420) (by decide +kernel)) rfl), in_X11, by decide, by decide, by decide +kernel⟩
def mX11_size : MD := (yX11_size, cX11_size, 5, (some .int), 2, 42)
theorem okX11_size : MokV mX11_size 2 := ⟨(gd_mem (List.mem_of_getElem? (i := 425) (by decide +kernel)) rfl), (gd_mem (List.mem_of_getElem? (i := 423) (by decide +kernel)) rfl), (gd_mem (List.mem_of_getElem? (i := 424) (by decide +kernel)) rfl), in_X11, by decide, by decide, by decide +kernel⟩
def mX11_way : MD := (yX11_way, cX11_way, 9, (some .int), 3, 70)
theorem okX11_way : MokV mX11_way 6 := ⟨(gd_mem (List.mem_of_getElem? (i := 429) (by decide +kernel)) rfl), (gd_mem (List.mem_of_getElem? (i := 427) (by decide +kernel)) rfl), (gd_mem (List.mem_of_getElem? (i := 428) (by decide +kernel)) rfl), in_X11, by decide, by decide, by decide +kernel⟩
def mX11_reader : MD := (yX11_reader, cX11_reader, 8, (some .int), 3, 68)
theorem okX11_reader : MokV mX11_reader 5 := ⟨(gd_mem (List.mem_of_getElem? (i := 481) (by decide +kernel)) rfl), (gd_mem (List.mem_of_getElem? (i := 479) (by decide +kernel)) rfl), (gd_mem (List.mem_of_getElem? (i := 480) (by decide +kernel)) rfl), in_X11, by decide, by decide, by decide +kernel⟩
def mX11_search : MD := (yX11_search, cX11_search, 7, (some .int), 2, 45)
theorem okX11_search : MokV mX11_search 4 := ⟨(gd_mem (List.mem_of_getElem? (i := 501) (by decide +kernel)) rfl), (gd_mem (List.mem_of_getElem? (i := 499) (by decide +kernel)) rfl), (gd_mem (List.mem_of_getElem? (i := 500) (by decide +kernel)) rfl), in_X11, by decide, by decide, by decide +kernel⟩
def mX11_share : MD := (yX11_share, cX11_share, 8, (some .int), 3, 69)
theorem okX11_share : MokV mX11_share 5 := ⟨(gd_mem (List.mem_of_getElem? (i := 529) (by decide +kernel)) rfl), (gd_mem (List.mem_of_getElem? (i := 527) (by decide +kernel)) rfl), (gd_mem (List.mem_of_getElem? (i := 528) (by decide +kernel)) rfl), in_X11, by decide, by decide, by decide +kernel⟩
def mX11_turn : MD := (yX11_turn, cX11_turn, 2, (some .int), 1, 21)
theorem okX11_turn : MokV mX11_turn 1 := ⟨(gd_mem (List.mem_of_getElem? (i := 556) (by decide +kernel)) rfl), (gd_mem (List.mem_of_getElem? (i := 554) (by decide +kernel)) rfl), (gd_mem (List.mem_of_getElem? (i := 555) (by decide +kernel)) rfl), in_X11, by decide, by decide, by decide +kernel⟩
def mX11_run : MD := (yX11_run, cX11_run, 2, (some .int), 7, 160)
theorem okX11_run : MokV mX11_run 1 := ⟨(gd_mem (List.mem_of_getElem? (i := 564) (by decide +kernel)) rfl), (gd_mem (List.mem_of_getElem? (i := 562) (by decide +kernel)) rfl), (gd_mem (List.mem_of_getElem? (i := 563) (by decide +kernel)) rfl), in_X11, by decide, by decide, by decide +kernel⟩
def mX11_interrupt : MD := (yX11_interrupt, cX11_interrupt, 2, (some .int), 4, 87)
theorem okX11_interrupt : MokV mX11_interrupt 1 := ⟨(gd_mem (List.mem_of_getElem? (i := 694) (by decide +kernel)) rfl), (gd_mem (List.mem_of_getElem? (i := 692) (by decide +kernel)) rfl), (gd_mem (List.mem_of_getElem? (i := 693) (by decide +kernel)) rfl), in_X11, by decide, by decide, by decide +kernel⟩
def mX11_close : MD := (yX11_close, cX11_close, 1, (some .int), 3, 68)
theorem okX11_close : MokV mX11_close 0 := ⟨(gd_mem (List.mem_of_getElem? (i := 706) (by decide +kernel)) rfl), (gd_mem (List.mem_of_getElem? (i := 704) (by decide +kernel)) rfl), (gd_mem (List.mem_of_getElem? (i := 705) (by decide +kernel)) rfl), in_X11, by decide, by decide, by decide +kernel⟩
def mX11_anew : MD := (yX11_anew, cX11_anew, 1, (some .int), 2, 44)
theorem okX11_anew : MokV mX11_anew 0 := ⟨(gd_mem (List.mem_of_getElem? (i := 714) (by decide +kernel)) rfl), (gd_mem (List.mem_of_getElem? (i := 712) (by decide +kernel)) rfl), (gd_mem (List.mem_of_getElem? (i := 713) (by decide +kernel)) rfl), in_X11, by decide, by decide, by decide +kernel⟩
def mX11_taken : MD := (yX11_taken, cX11_taken, 1, (some .int), 0, 0)
theorem okX11_taken : MokV mX11_taken 0 := ⟨(gd_mem (List.mem_of_getElem? (i := 718) (by decide +kernel)) rfl), (gd_mem (List.mem_of_getElem? (i := 716) (by decide +kernel)) rfl), (gd_mem (List.mem_of_getElem? (i := 717) (by decide +kernel)) rfl), in_X11, by decide, by decide, by decide +kernel⟩
def mX11_answer : MD := (yX11_answer, cX11_answer, 2, (some .long), 2, 42)
theorem okX11_answer : MokV mX11_answer 1 := ⟨(gd_mem (List.mem_of_getElem? (i := 722) (by decide +kernel)) rfl), (gd_mem (List.mem_of_getElem? (i := 720) (by decide +kernel)) rfl), (gd_mem (List.mem_of_getElem? (i := 721) (by decide +kernel)) rfl), in_X11, by decide, by decide, by decide +kernel⟩
def mX11_told : MD := (yX11_told, cX11_told, 4, (some .int), 1, 21)
theorem okX11_told : MokV mX11_told 2 := ⟨(gd_mem (List.mem_of_getElem? (i := 744) (by decide +kernel)) rfl), (gd_mem (List.mem_of_getElem? (i := 742) (by decide +kernel)) rfl), (gd_mem (List.mem_of_getElem? (i := 743) (by decide +kernel)) rfl), in_X11, by decide, by decide, by decide +kernel⟩
def mX11_best : MD := (yX11_best, cX11_best, 4, (some .long), 1, 25)
theorem okX11_best : MokV mX11_best 2 := ⟨(gd_mem (List.mem_of_getElem? (i := 760) (by decide +kernel)) rfl), (gd_mem (List.mem_of_getElem? (i := 758) (by decide +kernel)) rfl), (gd_mem (List.mem_of_getElem? (i := 759) (by decide +kernel)) rfl), in_X11, by decide, by decide, by decide +kernel⟩
def mX11_note : MD := (yX11_note, cX11_note, 2, (some .int), 0, 0)
theorem okX11_note : MokV mX11_note 1 := ⟨(gd_mem (List.mem_of_getElem? (i := 769) (by decide +kernel)) rfl), (gd_mem (List.mem_of_getElem? (i := 767) (by decide +kernel)) rfl), (gd_mem (List.mem_of_getElem? (i := 768) (by decide +kernel)) rfl), in_X11, by decide, by decide, by decide +kernel⟩
def mX11_finished : MD := (yX11_finished, cX11_finished, 2, (some .int), 1, 21)
theorem okX11_finished : MokV mX11_finished 1 := ⟨(gd_mem (List.mem_of_getElem? (i := 773) (by decide +kernel)) rfl), (gd_mem (List.mem_of_getElem? (i := 771) (by decide +kernel)) rfl), (gd_mem (List.mem_of_getElem? (i := 772) (by decide +kernel)) rfl), in_X11, by decide, by decide, by decide +kernel⟩
def mX11_count : MD := (yX11_count, cX11_count, 2, (some .int), 0, 0)
theorem okX11_count : MokV mX11_count 1 := ⟨(gd_mem (List.mem_of_getElem? (i := 777) (by decide +kernel)) rfl), (gd_mem (List.mem_of_getElem? (i := 775) (by decide +kernel)) rfl), (gd_mem (List.mem_of_getElem? (i := 776) (by decide +kernel)) rfl), in_X11, by decide, by decide, by decide +kernel⟩
def mX11_equal : MD := (yX11_equal, cX11_equal, 2, (some .int), 7, 160)
theorem okX11_equal : MokV mX11_equal 1 := ⟨(gd_mem (List.mem_of_getElem? (i := 781) (by decide +kernel)) rfl), (gd_mem (List.mem_of_getElem? (i := 779) (by decide +kernel)) rfl), (gd_mem (List.mem_of_getElem? (i := 780) (by decide +kernel)) rfl), in_X11, by decide, by decide, by decide +kernel⟩
def mX11_refusal : MD := (yX11_refusal, cX11_refusal, 1, (some .int), 0, 0)
theorem okX11_refusal : MokS mX11_refusal 1 := ⟨(gd_mem (List.mem_of_getElem? (i := 342) (by decide +kernel)) rfl), (gd_mem (List.mem_of_getElem? (i := 341) (by decide +kernel)) rfl), in_X11, by decide, by decide, by decide +kernel⟩
def mX11_isKind : MD := (yX11_isKind, cX11_isKind, 1, (some .boolean), 0, 0)
theorem okX11_isKind : MokS mX11_isKind 1 := ⟨(gd_mem (List.mem_of_getElem? (i := 339) (by decide +kernel)) rfl), (gd_mem (List.mem_of_getElem? (i := 338) (by decide +kernel)) rfl), in_X11, by decide, by decide, by decide +kernel⟩
def mX11_isThread : MD := (yX11_isThread, cX11_isThread, 2, (some .boolean), 0, 0)
theorem okX11_isThread : MokV mX11_isThread 1 := ⟨(gd_mem (List.mem_of_getElem? (i := 560) (by decide +kernel)) rfl), (gd_mem (List.mem_of_getElem? (i := 559) (by decide +kernel)) rfl), (gd_mem (List.mem_of_getElem? (i := 2) (by decide +kernel)) rfl), in_X11, by decide, by decide, by decide +kernel⟩
def mX11_isTask : MD := (yX11_isTask, cX11_isTask, 2, (some .boolean), 0, 0)
theorem okX11_isTask : MokV mX11_isTask 1 := ⟨(gd_mem (List.mem_of_getElem? (i := 698) (by decide +kernel)) rfl), (gd_mem (List.mem_of_getElem? (i := 697) (by decide +kernel)) rfl), (gd_mem (List.mem_of_getElem? (i := 16) (by decide +kernel)) rfl), in_X11, by decide, by decide, by decide +kernel⟩
def mX11_isLoad : MD := (yX11_isLoad, cX11_isLoad, 3, (some .boolean), 0, 0)
theorem okX11_isLoad : MokV mX11_isLoad 2 := ⟨(gd_mem (List.mem_of_getElem? (i := 434) (by decide +kernel)) rfl), (gd_mem (List.mem_of_getElem? (i := 433) (by decide +kernel)) rfl), (gd_mem (List.mem_of_getElem? (i := 0) (by decide +kernel)) rfl), in_X11, by decide, by decide, by decide +kernel⟩
def mX11_refusalOfTask : MD := (yX11_refusalOfTask, cX11_refusalOfTask, 1, (some .int), 0, 0)
theorem okX11_refusalOfTask : MokV mX11_refusalOfTask 0 := ⟨(gd_mem (List.mem_of_getElem? (i := 438) (by decide +kernel)) rfl), (gd_mem (List.mem_of_getElem? (i := 437) (by decide +kernel)) rfl), (gd_mem (List.mem_of_getElem? (i := 1) (by decide +kernel)) rfl), in_X11, by decide, by decide, by decide +kernel⟩
def mX11_newLine : MD := (yX11_newLine, cX11_newLine, 2, (some (.object "GeoThreads$Line")), 2, 42)
theorem okX11_newLine : MokS mX11_newLine 2 := ⟨(gd_mem (List.mem_of_getElem? (i := 366) (by decide +kernel)) rfl), (gd_mem (List.mem_of_getElem? (i := 365) (by decide +kernel)) rfl), in_X11, by decide, by decide, by decide +kernel⟩
def mX11_numberOf : MD := (yX11_numberOf, cX11_numberOf, 3, (some .long), 0, 0)
theorem okX11_numberOf : MokS mX11_numberOf 2 := ⟨(gd_mem (List.mem_of_getElem? (i := 410) (by decide +kernel)) rfl), (gd_mem (List.mem_of_getElem? (i := 409) (by decide +kernel)) rfl), in_X11, by decide, by decide, by decide +kernel⟩
def mX12_init : MD := (yX12_init, cX12_init, 3, none, 1, 21)
theorem okX12_init : MokI mX12_init 2 := ⟨(gd_mem (List.mem_of_getElem? (i := 799) (by decide +kernel)) rfl), rfl, rfl, (gd_mem (List.mem_of_getElem? (i := 798) (by decide +kernel)) rfl), in_X12, by decide, by decide, by decide +kernel⟩
def mX12_in : MD := (yX12_in, cX12_in, 3, (some .boolean), 0, 0)
theorem okX12_in : MokS mX12_in 3 := ⟨(gd_mem (List.mem_of_getElem? (i := 919) (by decide +kernel)) rfl), (gd_mem (List.mem_of_getElem? (i := 918) (by decide +kernel)) rfl), in_X12, by decide, by decide, by decide +kernel⟩
def mX12_begins : MD := (yX12_begins, cX12_begins, 2, none, 0, 0)
theorem okX12_begins : MokV mX12_begins 0 := ⟨(gd_mem (List.mem_of_getElem? (i := 804) (by decide +kernel)) rfl), (gd_mem (List.mem_of_getElem? (i := 803) (by decide +kernel)) rfl), (gd_mem (List.mem_of_getElem? (i := 18) (by decide +kernel)) rfl), in_X12, by decide, by decide, by decide +kernel⟩
def mX12_isOpen : MD := (yX12_isOpen, cX12_isOpen, 1, (some .boolean), 0, 0)
theorem okX12_isOpen : MokV mX12_isOpen 0 := ⟨(gd_mem (List.mem_of_getElem? (i := 923) (by decide +kernel)) rfl), (gd_mem (List.mem_of_getElem? (i := 922) (by decide +kernel)) rfl), (gd_mem (List.mem_of_getElem? (i := 19) (by decide +kernel)) rfl), in_X12, by decide, by decide, by decide +kernel⟩
def mX12_isGrid : MD := (yX12_isGrid, cX12_isGrid, 2, (some .boolean), 1, 22)
theorem okX12_isGrid : MokV mX12_isGrid 1 := ⟨(gd_mem (List.mem_of_getElem? (i := 935) (by decide +kernel)) rfl), (gd_mem (List.mem_of_getElem? (i := 934) (by decide +kernel)) rfl), (gd_mem (List.mem_of_getElem? (i := 21) (by decide +kernel)) rfl), in_X12, by decide, by decide, by decide +kernel⟩
def mX12_isTask : MD := (yX12_isTask, cX12_isTask, 2, (some .boolean), 1, 22)
theorem okX12_isTask : MokV mX12_isTask 1 := ⟨(gd_mem (List.mem_of_getElem? (i := 1085) (by decide +kernel)) rfl), (gd_mem (List.mem_of_getElem? (i := 1084) (by decide +kernel)) rfl), (gd_mem (List.mem_of_getElem? (i := 45) (by decide +kernel)) rfl), in_X12, by decide, by decide, by decide +kernel⟩
def mX12_newLine : MD := (yX12_newLine, cX12_newLine, 2, (some .int), 0, 0)
theorem okX12_newLine : MokV mX12_newLine 1 := ⟨(gd_mem (List.mem_of_getElem? (i := 927) (by decide +kernel)) rfl), (gd_mem (List.mem_of_getElem? (i := 926) (by decide +kernel)) rfl), (gd_mem (List.mem_of_getElem? (i := 20) (by decide +kernel)) rfl), in_X12, by decide, by decide, by decide +kernel⟩
def mX12_grid : MD := (yX12_grid, cX12_grid, 5, (some .int), 1, 22)
theorem okX12_grid : MokV mX12_grid 3 := ⟨(gd_mem (List.mem_of_getElem? (i := 916) (by decide +kernel)) rfl), (gd_mem (List.mem_of_getElem? (i := 914) (by decide +kernel)) rfl), (gd_mem (List.mem_of_getElem? (i := 915) (by decide +kernel)) rfl), in_X12, by decide, by decide, by decide +kernel⟩
def mX12_isLine : MD := (yX12_isLine, cX12_isLine, 3, (some .boolean), 1, 22)
theorem okX12_isLine : MokV mX12_isLine 2 := ⟨(gd_mem (List.mem_of_getElem? (i := 939) (by decide +kernel)) rfl), (gd_mem (List.mem_of_getElem? (i := 938) (by decide +kernel)) rfl), (gd_mem (List.mem_of_getElem? (i := 22) (by decide +kernel)) rfl), in_X12, by decide, by decide, by decide +kernel⟩
def mX12_line : MD := (yX12_line, cX12_line, 4, (some .int), 2, 44)
theorem okX12_line : MokV mX12_line 3 := ⟨(gd_mem (List.mem_of_getElem? (i := 931) (by decide +kernel)) rfl), (gd_mem (List.mem_of_getElem? (i := 929) (by decide +kernel)) rfl), (gd_mem (List.mem_of_getElem? (i := 930) (by decide +kernel)) rfl), in_X12, by decide, by decide, by decide +kernel⟩
def mX12_against : MD := (yX12_against, cX12_against, 5, (some .int), 2, 44)
theorem okX12_against : MokV mX12_against 3 := ⟨(gd_mem (List.mem_of_getElem? (i := 947) (by decide +kernel)) rfl), (gd_mem (List.mem_of_getElem? (i := 946) (by decide +kernel)) rfl), (gd_mem (List.mem_of_getElem? (i := 23) (by decide +kernel)) rfl), in_X12, by decide, by decide, by decide +kernel⟩
def mX12_asKind : MD := (yX12_asKind, cX12_asKind, 3, (some .long), 0, 0)
theorem okX12_asKind : MokS mX12_asKind 2 := ⟨(gd_mem (List.mem_of_getElem? (i := 950) (by decide +kernel)) rfl), (gd_mem (List.mem_of_getElem? (i := 949) (by decide +kernel)) rfl), in_X12, by decide, by decide, by decide +kernel⟩
def mX12_put : MD := (yX12_put, cX12_put, 7, (some .int), 3, 68)
theorem okX12_put : MokV mX12_put 4 := ⟨(gd_mem (List.mem_of_getElem? (i := 943) (by decide +kernel)) rfl), (gd_mem (List.mem_of_getElem? (i := 941) (by decide +kernel)) rfl), (gd_mem (List.mem_of_getElem? (i := 942) (by decide +kernel)) rfl), in_X12, by decide, by decide, by decide +kernel⟩
def mX12_item : MD := (yX12_item, cX12_item, 5, (some .long), 3, 68)
theorem okX12_item : MokV mX12_item 4 := ⟨(gd_mem (List.mem_of_getElem? (i := 956) (by decide +kernel)) rfl), (gd_mem (List.mem_of_getElem? (i := 954) (by decide +kernel)) rfl), (gd_mem (List.mem_of_getElem? (i := 955) (by decide +kernel)) rfl), in_X12, by decide, by decide, by decide +kernel⟩
def mX12_lay : MD := (yX12_lay, cX12_lay, 6, (some .int), 2, 44)
theorem okX12_lay : MokV mX12_lay 4 := ⟨(gd_mem (List.mem_of_getElem? (i := 960) (by decide +kernel)) rfl), (gd_mem (List.mem_of_getElem? (i := 958) (by decide +kernel)) rfl), (gd_mem (List.mem_of_getElem? (i := 959) (by decide +kernel)) rfl), in_X12, by decide, by decide, by decide +kernel⟩
def mX12_size : MD := (yX12_size, cX12_size, 4, (some .int), 2, 44)
theorem okX12_size : MokV mX12_size 2 := ⟨(gd_mem (List.mem_of_getElem? (i := 964) (by decide +kernel)) rfl), (gd_mem (List.mem_of_getElem? (i := 962) (by decide +kernel)) rfl), (gd_mem (List.mem_of_getElem? (i := 963) (by decide +kernel)) rfl), in_X12, by decide, by decide, by decide +kernel⟩
def mX12_mayNeed : MD := (yX12_mayNeed, cX12_mayNeed, 3, (some .boolean), 1, 22)
theorem okX12_mayNeed : MokV mX12_mayNeed 2 := ⟨(gd_mem (List.mem_of_getElem? (i := 973) (by decide +kernel)) rfl), (gd_mem (List.mem_of_getElem? (i := 972) (by decide +kernel)) rfl), (gd_mem (List.mem_of_getElem? (i := 24) (by decide +kernel)) rfl), in_X12, by decide, by decide, by decide +kernel⟩
def mX12_comes : MD := (yX12_comes, cX12_comes, 4, (some .int), 0, 0)
theorem okX12_comes : MokV mX12_comes 3 := ⟨(gd_mem (List.mem_of_getElem? (i := 977) (by decide +kernel)) rfl), (gd_mem (List.mem_of_getElem? (i := 976) (by decide +kernel)) rfl), (gd_mem (List.mem_of_getElem? (i := 25) (by decide +kernel)) rfl), in_X12, by decide, by decide, by decide +kernel⟩
def mX12_way : MD := (yX12_way, cX12_way, 8, (some .int), 2, 44)
theorem okX12_way : MokV mX12_way 6 := ⟨(gd_mem (List.mem_of_getElem? (i := 968) (by decide +kernel)) rfl), (gd_mem (List.mem_of_getElem? (i := 966) (by decide +kernel)) rfl), (gd_mem (List.mem_of_getElem? (i := 967) (by decide +kernel)) rfl), in_X12, by decide, by decide, by decide +kernel⟩
def mX12_reader : MD := (yX12_reader, cX12_reader, 6, (some .int), 2, 44)
theorem okX12_reader : MokV mX12_reader 5 := ⟨(gd_mem (List.mem_of_getElem? (i := 981) (by decide +kernel)) rfl), (gd_mem (List.mem_of_getElem? (i := 979) (by decide +kernel)) rfl), (gd_mem (List.mem_of_getElem? (i := 980) (by decide +kernel)) rfl), in_X12, by decide, by decide, by decide +kernel⟩
def mX12_search : MD := (yX12_search, cX12_search, 6, (some .int), 2, 43)
theorem okX12_search : MokV mX12_search 4 := ⟨(gd_mem (List.mem_of_getElem? (i := 985) (by decide +kernel)) rfl), (gd_mem (List.mem_of_getElem? (i := 983) (by decide +kernel)) rfl), (gd_mem (List.mem_of_getElem? (i := 984) (by decide +kernel)) rfl), in_X12, by decide, by decide, by decide +kernel⟩
def mX12_share : MD := (yX12_share, cX12_share, 6, (some .int), 2, 44)
theorem okX12_share : MokV mX12_share 5 := ⟨(gd_mem (List.mem_of_getElem? (i := 989) (by decide +kernel)) rfl), (gd_mem (List.mem_of_getElem? (i := 987) (by decide +kernel)) rfl), (gd_mem (List.mem_of_getElem? (i := 988) (by decide +kernel)) rfl), in_X12, by decide, by decide, by decide +kernel⟩
def mX12_turn : MD := (yX12_turn, cX12_turn, 2, (some .int), 1, 22)
theorem okX12_turn : MokV mX12_turn 1 := ⟨(gd_mem (List.mem_of_getElem? (i := 993) (by decide +kernel)) rfl), (gd_mem (List.mem_of_getElem? (i := 991) (by decide +kernel)) rfl), (gd_mem (List.mem_of_getElem? (i := 992) (by decide +kernel)) rfl), in_X12, by decide, by decide, by decide +kernel⟩
def mX12_at : MD := (yX12_at, cX12_at, 3, (some .int), 0, 0)
theorem okX12_at : MokV mX12_at 2 := ⟨(gd_mem (List.mem_of_getElem? (i := 1009) (by decide +kernel)) rfl), (gd_mem (List.mem_of_getElem? (i := 1008) (by decide +kernel)) rfl), (gd_mem (List.mem_of_getElem? (i := 28) (by decide +kernel)) rfl), in_X12, by decide, by decide, by decide +kernel⟩
def mX12_set : MD := (yX12_set, cX12_set, 4, none, 0, 0)
theorem okX12_set : MokV mX12_set 3 := ⟨(gd_mem (List.mem_of_getElem? (i := 1013) (by decide +kernel)) rfl), (gd_mem (List.mem_of_getElem? (i := 1012) (by decide +kernel)) rfl), (gd_mem (List.mem_of_getElem? (i := 29) (by decide +kernel)) rfl), in_X12, by decide, by decide, by decide +kernel⟩
def mX12_more : MD := (yX12_more, cX12_more, 3, none, 0, 0)
theorem okX12_more : MokV mX12_more 2 := ⟨(gd_mem (List.mem_of_getElem? (i := 1017) (by decide +kernel)) rfl), (gd_mem (List.mem_of_getElem? (i := 1016) (by decide +kernel)) rfl), (gd_mem (List.mem_of_getElem? (i := 30) (by decide +kernel)) rfl), in_X12, by decide, by decide, by decide +kernel⟩
def mX12_failed : MD := (yX12_failed, cX12_failed, 3, (some .int), 1, 23)
theorem okX12_failed : MokV mX12_failed 2 := ⟨(gd_mem (List.mem_of_getElem? (i := 1033) (by decide +kernel)) rfl), (gd_mem (List.mem_of_getElem? (i := 1032) (by decide +kernel)) rfl), (gd_mem (List.mem_of_getElem? (i := 34) (by decide +kernel)) rfl), in_X12, by decide, by decide, by decide +kernel⟩
def mX12_worth : MD := (yX12_worth, cX12_worth, 2, (some .long), 0, 0)
theorem okX12_worth : MokS mX12_worth 1 := ⟨(gd_mem (List.mem_of_getElem? (i := 1044) (by decide +kernel)) rfl), (gd_mem (List.mem_of_getElem? (i := 1043) (by decide +kernel)) rfl), in_X12, by decide, by decide, by decide +kernel⟩
def mX12_step : MD := (yX12_step, cX12_step, 4, (some .int), 4, 92)
theorem okX12_step : MokV mX12_step 1 := ⟨(gd_mem (List.mem_of_getElem? (i := 1025) (by decide +kernel)) rfl), (gd_mem (List.mem_of_getElem? (i := 1024) (by decide +kernel)) rfl), (gd_mem (List.mem_of_getElem? (i := 32) (by decide +kernel)) rfl), in_X12, by decide, by decide, by decide +kernel⟩
def mX12_plain : MD := (yX12_plain, cX12_plain, 6, (some .int), 2, 45)
theorem okX12_plain : MokV mX12_plain 1 := ⟨(gd_mem (List.mem_of_getElem? (i := 1029) (by decide +kernel)) rfl), (gd_mem (List.mem_of_getElem? (i := 1028) (by decide +kernel)) rfl), (gd_mem (List.mem_of_getElem? (i := 33) (by decide +kernel)) rfl), in_X12, by decide, by decide, by decide +kernel⟩
def mX12_read : MD := (yX12_read, cX12_read, 4, (some .int), 2, 45)
theorem okX12_read : MokV mX12_read 1 := ⟨(gd_mem (List.mem_of_getElem? (i := 1057) (by decide +kernel)) rfl), (gd_mem (List.mem_of_getElem? (i := 1056) (by decide +kernel)) rfl), (gd_mem (List.mem_of_getElem? (i := 39) (by decide +kernel)) rfl), in_X12, by decide, by decide, by decide +kernel⟩
def mX12_lineFault : MD := (yX12_lineFault, cX12_lineFault, 4, (some .int), 2, 44)
theorem okX12_lineFault : MokV mX12_lineFault 2 := ⟨(gd_mem (List.mem_of_getElem? (i := 1041) (by decide +kernel)) rfl), (gd_mem (List.mem_of_getElem? (i := 1040) (by decide +kernel)) rfl), (gd_mem (List.mem_of_getElem? (i := 36) (by decide +kernel)) rfl), in_X12, by decide, by decide, by decide +kernel⟩
def mX12_finds : MD := (yX12_finds, cX12_finds, 6, none, 0, 0)
theorem okX12_finds : MokV mX12_finds 3 := ⟨(gd_mem (List.mem_of_getElem? (i := 1053) (by decide +kernel)) rfl), (gd_mem (List.mem_of_getElem? (i := 1052) (by decide +kernel)) rfl), (gd_mem (List.mem_of_getElem? (i := 38) (by decide +kernel)) rfl), in_X12, by decide, by decide, by decide +kernel⟩
def mX12_goes : MD := (yX12_goes, cX12_goes, 7, (some .int), 1, 25)
theorem okX12_goes : MokV mX12_goes 3 := ⟨(gd_mem (List.mem_of_getElem? (i := 1049) (by decide +kernel)) rfl), (gd_mem (List.mem_of_getElem? (i := 1048) (by decide +kernel)) rfl), (gd_mem (List.mem_of_getElem? (i := 37) (by decide +kernel)) rfl), in_X12, by decide, by decide, by decide +kernel⟩
def mX12_shared : MD := (yX12_shared, cX12_shared, 6, (some .int), 3, 67)
theorem okX12_shared : MokV mX12_shared 1 := ⟨(gd_mem (List.mem_of_getElem? (i := 1037) (by decide +kernel)) rfl), (gd_mem (List.mem_of_getElem? (i := 1036) (by decide +kernel)) rfl), (gd_mem (List.mem_of_getElem? (i := 35) (by decide +kernel)) rfl), in_X12, by decide, by decide, by decide +kernel⟩
def mX12_notes : MD := (yX12_notes, cX12_notes, 2, none, 0, 0)
theorem okX12_notes : MokV mX12_notes 1 := ⟨(gd_mem (List.mem_of_getElem? (i := 1021) (by decide +kernel)) rfl), (gd_mem (List.mem_of_getElem? (i := 1020) (by decide +kernel)) rfl), (gd_mem (List.mem_of_getElem? (i := 31) (by decide +kernel)) rfl), in_X12, by decide, by decide, by decide +kernel⟩
def mX12_ends : MD := (yX12_ends, cX12_ends, 4, none, 1, 23)
theorem okX12_ends : MokV mX12_ends 3 := ⟨(gd_mem (List.mem_of_getElem? (i := 1061) (by decide +kernel)) rfl), (gd_mem (List.mem_of_getElem? (i := 1060) (by decide +kernel)) rfl), (gd_mem (List.mem_of_getElem? (i := 40) (by decide +kernel)) rfl), in_X12, by decide, by decide, by decide +kernel⟩
def mX12_falls : MD := (yX12_falls, cX12_falls, 3, none, 1, 23)
theorem okX12_falls : MokV mX12_falls 2 := ⟨(gd_mem (List.mem_of_getElem? (i := 1069) (by decide +kernel)) rfl), (gd_mem (List.mem_of_getElem? (i := 1068) (by decide +kernel)) rfl), (gd_mem (List.mem_of_getElem? (i := 42) (by decide +kernel)) rfl), in_X12, by decide, by decide, by decide +kernel⟩
def mX12_takes : MD := (yX12_takes, cX12_takes, 3, none, 1, 23)
theorem okX12_takes : MokV mX12_takes 1 := ⟨(gd_mem (List.mem_of_getElem? (i := 1005) (by decide +kernel)) rfl), (gd_mem (List.mem_of_getElem? (i := 1004) (by decide +kernel)) rfl), (gd_mem (List.mem_of_getElem? (i := 27) (by decide +kernel)) rfl), in_X12, by decide, by decide, by decide +kernel⟩
def mX12_looks : MD := (yX12_looks, cX12_looks, 3, none, 2, 45)
theorem okX12_looks : MokV mX12_looks 0 := ⟨(gd_mem (List.mem_of_getElem? (i := 1065) (by decide +kernel)) rfl), (gd_mem (List.mem_of_getElem? (i := 1064) (by decide +kernel)) rfl), (gd_mem (List.mem_of_getElem? (i := 41) (by decide +kernel)) rfl), in_X12, by decide, by decide, by decide +kernel⟩
def mX12_turns : MD := (yX12_turns, cX12_turns, 4, none, 5, 115)
theorem okX12_turns : MokV mX12_turns 1 := ⟨(gd_mem (List.mem_of_getElem? (i := 1001) (by decide +kernel)) rfl), (gd_mem (List.mem_of_getElem? (i := 1000) (by decide +kernel)) rfl), (gd_mem (List.mem_of_getElem? (i := 26) (by decide +kernel)) rfl), in_X12, by decide, by decide, by decide +kernel⟩
def mX12_again : MD := (yX12_again, cX12_again, 3, none, 4, 92)
theorem okX12_again : MokV mX12_again 0 := ⟨(gd_mem (List.mem_of_getElem? (i := 1073) (by decide +kernel)) rfl), (gd_mem (List.mem_of_getElem? (i := 1072) (by decide +kernel)) rfl), (gd_mem (List.mem_of_getElem? (i := 43) (by decide +kernel)) rfl), in_X12, by decide, by decide, by decide +kernel⟩
def mX12_isLost : MD := (yX12_isLost, cX12_isLost, 6, (some .boolean), 3, 67)
theorem okX12_isLost : MokV mX12_isLost 2 := ⟨(gd_mem (List.mem_of_getElem? (i := 1077) (by decide +kernel)) rfl), (gd_mem (List.mem_of_getElem? (i := 1076) (by decide +kernel)) rfl), (gd_mem (List.mem_of_getElem? (i := 44) (by decide +kernel)) rfl), in_X12, by decide, by decide, by decide +kernel⟩
def mX12_run : MD := (yX12_run, cX12_run, 4, (some .int), 6, 138)
theorem okX12_run : MokV mX12_run 1 := ⟨(gd_mem (List.mem_of_getElem? (i := 997) (by decide +kernel)) rfl), (gd_mem (List.mem_of_getElem? (i := 995) (by decide +kernel)) rfl), (gd_mem (List.mem_of_getElem? (i := 996) (by decide +kernel)) rfl), in_X12, by decide, by decide, by decide +kernel⟩
def mX12_interrupt : MD := (yX12_interrupt, cX12_interrupt, 2, (some .int), 3, 67)
theorem okX12_interrupt : MokV mX12_interrupt 1 := ⟨(gd_mem (List.mem_of_getElem? (i := 1081) (by decide +kernel)) rfl), (gd_mem (List.mem_of_getElem? (i := 1079) (by decide +kernel)) rfl), (gd_mem (List.mem_of_getElem? (i := 1080) (by decide +kernel)) rfl), in_X12, by decide, by decide, by decide +kernel⟩
def mX12_close : MD := (yX12_close, cX12_close, 3, (some .int), 2, 46)
theorem okX12_close : MokV mX12_close 0 := ⟨(gd_mem (List.mem_of_getElem? (i := 1089) (by decide +kernel)) rfl), (gd_mem (List.mem_of_getElem? (i := 1087) (by decide +kernel)) rfl), (gd_mem (List.mem_of_getElem? (i := 1088) (by decide +kernel)) rfl), in_X12, by decide, by decide, by decide +kernel⟩
def mX12_anew : MD := (yX12_anew, cX12_anew, 1, (some .int), 1, 21)
theorem okX12_anew : MokV mX12_anew 0 := ⟨(gd_mem (List.mem_of_getElem? (i := 1093) (by decide +kernel)) rfl), (gd_mem (List.mem_of_getElem? (i := 1091) (by decide +kernel)) rfl), (gd_mem (List.mem_of_getElem? (i := 1092) (by decide +kernel)) rfl), in_X12, by decide, by decide, by decide +kernel⟩
def mX12_taken : MD := (yX12_taken, cX12_taken, 1, (some .int), 0, 0)
theorem okX12_taken : MokV mX12_taken 0 := ⟨(gd_mem (List.mem_of_getElem? (i := 1097) (by decide +kernel)) rfl), (gd_mem (List.mem_of_getElem? (i := 1095) (by decide +kernel)) rfl), (gd_mem (List.mem_of_getElem? (i := 1096) (by decide +kernel)) rfl), in_X12, by decide, by decide, by decide +kernel⟩
def mX12_answerOf : MD := (yX12_answerOf, cX12_answerOf, 2, (some .long), 0, 0)
theorem okX12_answerOf : MokV mX12_answerOf 1 := ⟨(gd_mem (List.mem_of_getElem? (i := 1105) (by decide +kernel)) rfl), (gd_mem (List.mem_of_getElem? (i := 1104) (by decide +kernel)) rfl), (gd_mem (List.mem_of_getElem? (i := 46) (by decide +kernel)) rfl), in_X12, by decide, by decide, by decide +kernel⟩
def mX12_answer : MD := (yX12_answer, cX12_answer, 2, (some .long), 2, 43)
theorem okX12_answer : MokV mX12_answer 1 := ⟨(gd_mem (List.mem_of_getElem? (i := 1101) (by decide +kernel)) rfl), (gd_mem (List.mem_of_getElem? (i := 1099) (by decide +kernel)) rfl), (gd_mem (List.mem_of_getElem? (i := 1100) (by decide +kernel)) rfl), in_X12, by decide, by decide, by decide +kernel⟩
def mX12_told : MD := (yX12_told, cX12_told, 3, (some .int), 2, 43)
theorem okX12_told : MokV mX12_told 2 := ⟨(gd_mem (List.mem_of_getElem? (i := 1109) (by decide +kernel)) rfl), (gd_mem (List.mem_of_getElem? (i := 1107) (by decide +kernel)) rfl), (gd_mem (List.mem_of_getElem? (i := 1108) (by decide +kernel)) rfl), in_X12, by decide, by decide, by decide +kernel⟩
def mX12_best : MD := (yX12_best, cX12_best, 5, (some .long), 1, 22)
theorem okX12_best : MokV mX12_best 2 := ⟨(gd_mem (List.mem_of_getElem? (i := 1113) (by decide +kernel)) rfl), (gd_mem (List.mem_of_getElem? (i := 1111) (by decide +kernel)) rfl), (gd_mem (List.mem_of_getElem? (i := 1112) (by decide +kernel)) rfl), in_X12, by decide, by decide, by decide +kernel⟩
def mX12_note : MD := (yX12_note, cX12_note, 2, (some .int), 1, 22)
theorem okX12_note : MokV mX12_note 1 := ⟨(gd_mem (List.mem_of_getElem? (i := 1118) (by decide +kernel)) rfl), (gd_mem (List.mem_of_getElem? (i := 1116) (by decide +kernel)) rfl), (gd_mem (List.mem_of_getElem? (i := 1117) (by decide +kernel)) rfl), in_X12, by decide, by decide, by decide +kernel⟩
def mX12_finished : MD := (yX12_finished, cX12_finished, 2, (some .int), 1, 22)
theorem okX12_finished : MokV mX12_finished 1 := ⟨(gd_mem (List.mem_of_getElem? (i := 1122) (by decide +kernel)) rfl), (gd_mem (List.mem_of_getElem? (i := 1120) (by decide +kernel)) rfl), (gd_mem (List.mem_of_getElem? (i := 1121) (by decide +kernel)) rfl), in_X12, by decide, by decide, by decide +kernel⟩
def mX12_count : MD := (yX12_count, cX12_count, 2, (some .int), 0, 0)
theorem okX12_count : MokV mX12_count 1 := ⟨(gd_mem (List.mem_of_getElem? (i := 1126) (by decide +kernel)) rfl), (gd_mem (List.mem_of_getElem? (i := 1124) (by decide +kernel)) rfl), (gd_mem (List.mem_of_getElem? (i := 1125) (by decide +kernel)) rfl), in_X12, by decide, by decide, by decide +kernel⟩
def mX12_keep : MD := (yX12_keep, cX12_keep, 2, none, 0, 0)
theorem okX12_keep : MokV mX12_keep 0 := ⟨(gd_mem (List.mem_of_getElem? (i := 1134) (by decide +kernel)) rfl), (gd_mem (List.mem_of_getElem? (i := 1133) (by decide +kernel)) rfl), (gd_mem (List.mem_of_getElem? (i := 47) (by decide +kernel)) rfl), in_X12, by decide, by decide, by decide +kernel⟩
def mX12_bring : MD := (yX12_bring, cX12_bring, 2, none, 0, 0)
theorem okX12_bring : MokV mX12_bring 0 := ⟨(gd_mem (List.mem_of_getElem? (i := 1146) (by decide +kernel)) rfl), (gd_mem (List.mem_of_getElem? (i := 1145) (by decide +kernel)) rfl), (gd_mem (List.mem_of_getElem? (i := 50) (by decide +kernel)) rfl), in_X12, by decide, by decide, by decide +kernel⟩
def mX12_through : MD := (yX12_through, cX12_through, 2, none, 6, 138)
theorem okX12_through : MokV mX12_through 1 := ⟨(gd_mem (List.mem_of_getElem? (i := 1138) (by decide +kernel)) rfl), (gd_mem (List.mem_of_getElem? (i := 1137) (by decide +kernel)) rfl), (gd_mem (List.mem_of_getElem? (i := 48) (by decide +kernel)) rfl), in_X12, by decide, by decide, by decide +kernel⟩
def mX12_equal : MD := (yX12_equal, cX12_equal, 3, (some .int), 7, 159)
theorem okX12_equal : MokV mX12_equal 1 := ⟨(gd_mem (List.mem_of_getElem? (i := 1130) (by decide +kernel)) rfl), (gd_mem (List.mem_of_getElem? (i := 1128) (by decide +kernel)) rfl), (gd_mem (List.mem_of_getElem? (i := 1129) (by decide +kernel)) rfl), in_X12, by decide, by decide, by decide +kernel⟩
def mX12_isLikeFirst : MD := (yX12_isLikeFirst, cX12_isLikeFirst, 7, (some .boolean), 1, 22)
theorem okX12_isLikeFirst : MokV mX12_isLikeFirst 0 := ⟨(gd_mem (List.mem_of_getElem? (i := 1142) (by decide +kernel)) rfl), (gd_mem (List.mem_of_getElem? (i := 1141) (by decide +kernel)) rfl), (gd_mem (List.mem_of_getElem? (i := 49) (by decide +kernel)) rfl), in_X12, by decide, by decide, by decide +kernel⟩
def mL_cell : MD := (yL_cell, cL_cell, 2, (some .int), 0, 0)
theorem okL_cell : MokS mL_cell 2 := ⟨(gd_mem (List.mem_of_getElem? (i := 794) (by decide +kernel)) rfl), (gd_mem (List.mem_of_getElem? (i := 793) (by decide +kernel)) rfl), in_L, by decide, by decide, by decide +kernel⟩
end
section
/-! ===== a block of cells of our own: cells b .. b + n - 1 hold k, all else is G ===== -/
def pt {α : Type} (b n : Nat) (k G : Nat → Nat → α) : Nat → Nat → α := fun a => if b ≤ a ∧ a < b + n then k (a - b) else G a
theorem pt_row {α : Type} {b n o : Nat} {k G : Nat → Nat → α} (h : o < n) : pt b n k G (b + o) = k o := by
  unfold pt
  rw [if_pos ⟨Nat.le_add_right _ _, by omega⟩, Nat.add_sub_cancel_left]
theorem pt_out {α : Type} {b n a : Nat} {k G : Nat → Nat → α} (h : a < b ∨ b + n ≤ a) : pt b n k G a = G a := by
  unfold pt
  rw [if_neg (by omega)]
theorem pt_upd {α : Type} {b n o j : Nat} {k G : Nat → Nat → α} {v : α} (h : o < n) : upd2 (pt b n k G) (b + o) j v = pt b n (upd2 k o j v) G := by
  funext a
  by_cases e : a = b + o
  · subst e
    rw [upd2_row, pt_row h, pt_row h, upd2_row]
  · rw [upd2_ne e]
    unfold pt
    by_cases hi : b ≤ a ∧ a < b + n
    · rw [if_pos hi, if_pos hi, upd2_ne (by omega)]
    · rw [if_neg hi, if_neg hi]
def bI (c : Prop) [Decidable c] : Int32 := if c then 1 else 0
/-- the reference's block: the object, then its rows -/
def shR (o : Nat) : Nat × Nat := ([(11, 36), (12, 6), (12, 6), (12, 120), (12, 600), (13, 7200), (12, 20), (12, 20), (13, 20), (12, 20), (12, 20), (12, 20), (12, 20), (12, 20), (12, 20), (12, 8), (12, 8), (12, 8), (13, 8), (12, 400), (12, 310), (12, 310), (13, 36), (13, 36), (12, 310), (13, 36)] : List (Nat × Nat)).getD o (21, 0)
def rfR (j : Nat) : Option Nat := ([none, none, none, none, some 1, some 2, some 3, none, some 4, some 5, none, some 6, some 7, some 8, some 9, some 10, some 11, some 12, some 13, some 14, none, some 15, some 16, some 17, some 18, none, some 19, some 20, some 21, some 22, some 23, none, none, none, some 24, some 25] : List (Option Nat)).getD j none
def FixR (b : Nat) (N : NT) : Prop := (∀ o, o < 26 → N.2.1 (b + o) = shR o) ∧ ∀ j o, rfR j = some o → N.1 (b + 0) j = some (b + o)
theorem FixR.sh {b : Nat} {N : NT} (h : FixR b N) {o k n : Nat} (hs : shR o = (k, n)) (hk : k ≠ 21) : N.2.1 (b + o) = (k, n) ∧ o < 26 := by
  have : o < 26 := by
    rcases Nat.lt_or_ge o 26 with q | q
    · exact q
    · have e : shR o = (21, 0) := by
        unfold shR
        simp only [List.getD_eq_getElem?_getD]
        rw [List.getElem?_eq_none (by simpa using q)]
        rfl
      rw [e] at hs
      cases hs
      exact absurd rfl hk
  exact ⟨by rw [h.1 o this]; exact hs, this⟩
section NUM
variable {l : Launch} {D : va_G} {B : Nat} {own : String} {cc : ByteArray} {nL : Nat} {mn : String} {R : Room} {g : GT} {ls ls' : List (Option MV)} {st st0 : List MV} {I : MI} {L : ML} {N : NT} {kc ks : Nat}
theorem G_iaddN (pc : Nat) (hC : Cx l D B own cc nL mn R g) {x y : Nat} (hd : decode cc pc = .ok (.iadd, 1)) (kk : g (pc + 1) ls (vi (nI (x + y)) :: st) I L N kc ks) : g pc ls (vi (nI y) :: vi (nI x) :: st) I L N kc ks := G_iadd pc hC hd (by rw [nI_add]; exact kk)
theorem G_imulN (pc : Nat) (hC : Cx l D B own cc nL mn R g) {x y : Nat} (hd : decode cc pc = .ok (.imul, 1)) (kk : g (pc + 1) ls (vi (nI (x * y)) :: st) I L N kc ks) : g pc ls (vi (nI y) :: vi (nI x) :: st) I L N kc ks := G_imul pc hC hd (by rw [pk_mul]; exact kk)
theorem G_isubN (pc : Nat) (hC : Cx l D B own cc nL mn R g) {x y : Nat} (h : y ≤ x) (hd : decode cc pc = .ok (.isub, 1)) (kk : g (pc + 1) ls (vi (nI (x - y)) :: st) I L N kc ks) : g pc ls (vi (nI y) :: vi (nI x) :: st) I L N kc ks := G_isub pc hC hd (by rw [pk_sub h]; exact kk)
theorem bI_0 {c : Prop} [Decidable c] : bI c = 0 ↔ ¬ c := by unfold bI; by_cases h : c <;> simp [h]
theorem G_if_eq_b (pc tgt : Nat) (hC : Cx l D B own cc nL mn R g) {c : Prop} [Decidable c] {off : Int} (hd : decode cc pc = .ok (.ifCond .eq off, 3)) (ht : (pc : Int) + off = (tgt : Int)) (kt : ¬ c → g tgt ls st I L N kc ks) (kf : c → g (pc + 3) ls st I L N kc ks) : g pc ls (vi (bI c) :: st) I L N kc ks := G_if_eq pc tgt hC hd ht (fun h => kt (bI_0.mp h)) (fun h => kf (by simpa [bI_0] using h))
theorem G_if_ne_b (pc tgt : Nat) (hC : Cx l D B own cc nL mn R g) {c : Prop} [Decidable c] {off : Int} (hd : decode cc pc = .ok (.ifCond .ne off, 3)) (ht : (pc : Int) + off = (tgt : Int)) (kt : c → g tgt ls st I L N kc ks) (kf : ¬ c → g (pc + 3) ls st I L N kc ks) : g pc ls (vi (bI c) :: st) I L N kc ks := G_if_ne pc tgt hC hd ht (fun h => kt (by simpa [bI_0] using h)) (fun h => kf (by simpa [bI_0] using h))
-- calls of one answer
variable {M : MD} {as : List MV} {idx n : Nat}
theorem G_callV1 (pc : Nat) (hC : Cx l D B own cc nL mn R g) {b ci nb : Nat} {q : vw_C} {v : MV} {I1 : MI} {L1 : ML} (hM : Cq l D B M (vr (some b) :: as) I L N (some v) I1 L1) (hm : MokV M n) (hlink : Cond.methodLink own idx M.y ∈ lw_gd) (hb0 : N.2.1 b = (ci, nb)) (hq : vwCl[ci]? = some q) (hqy : q.1 = M.y.cls) (hn : as.length = n) (hstk : st0 = as.reverse ++ vr (some b) :: st) (hcat : (st.map mcat).sum ≤ 8)
    (hR : M.fr + 1 ≤ R.frames ∧ 8 + (M.nL + 11) + M.lo ≤ R.locals) (hf : kc ≤ R.cells ∧ ks ≤ R.slots) (hd : decode cc pc = .ok (.invokevirtual idx, 3)) (kk : g (pc + 3) ls (v :: st) I1 L1 N kc ks) : g pc ls st0 I L N kc ks :=
  G_callV pc hC hM hm hlink hb0 hq hqy hn hstk hcat hR hf hd (fun v' I' L' N' h => by obtain ⟨rfl, rfl, rfl, rfl⟩ := h; exact kk)
theorem G_callV0 (pc : Nat) (hC : Cx l D B own cc nL mn R g) {b ci nb : Nat} {q : vw_C} {I1 : MI} {L1 : ML} (hM : Cq l D B M (vr (some b) :: as) I L N none I1 L1) (hm : MokV M n) (hlink : Cond.methodLink own idx M.y ∈ lw_gd) (hb0 : N.2.1 b = (ci, nb)) (hq : vwCl[ci]? = some q) (hqy : q.1 = M.y.cls) (hn : as.length = n) (hstk : st0 = as.reverse ++ vr (some b) :: st) (hcat : (st.map mcat).sum ≤ 8)
    (hR : M.fr + 1 ≤ R.frames ∧ 8 + (M.nL + 11) + M.lo ≤ R.locals) (hf : kc ≤ R.cells ∧ ks ≤ R.slots) (hd : decode cc pc = .ok (.invokevirtual idx, 3)) (kk : g (pc + 3) ls st I1 L1 N kc ks) : g pc ls st0 I L N kc ks :=
  G_callV pc hC hM hm hlink hb0 hq hqy hn hstk hcat hR hf hd (fun v' I' L' N' h => by obtain ⟨rfl, rfl, rfl, rfl⟩ := h; exact kk)
theorem G_callS1 (pc : Nat) (hC : Cx l D B own cc nL mn R g) {v : MV} {I1 : MI} {L1 : ML} (hM : Cq l D B M as I L N (some v) I1 L1) (hm : MokS M n) (hlink : Cond.methodLink own idx M.y ∈ lw_gd) (hown : M.y.cls = own) (hn : as.length = n) (hstk : st0 = as.reverse ++ st) (hcat : (st.map mcat).sum ≤ 8)
    (hR : M.fr + 1 ≤ R.frames ∧ 8 + (M.nL + 11) + M.lo ≤ R.locals) (hf : kc ≤ R.cells ∧ ks ≤ R.slots) (hd : decode cc pc = .ok (.invokestatic idx, 3)) (kk : g (pc + 3) ls (v :: st) I1 L1 N kc ks) : g pc ls st0 I L N kc ks :=
  G_callS pc hC hM hm hlink hown hn hstk hcat hR hf hd (fun v' I' L' N' h => by obtain ⟨rfl, rfl, rfl, rfl⟩ := h; exact kk)
end NUM
section REF
variable {l : Launch} {D : va_G} {B : Nat} {own : String} {cc : ByteArray} {nL : Nat} {mn : String} {R : Room} {g : GT} {ls ls' : List (Option MV)} {st st0 : List MV} {r G : MI} {rl GL : ML} {N : NT} {kc ks b : Nat} {I : MI} {L : ML}
theorem M_getI (pc : Nat) (hC : Cx l D B own cc nL mn R g) (hF : FixR b N) {idx j : Nat} (hf : FL own idx 11 j) (ht : fty 11 j = 0) (hd : decode cc pc = .ok (.getfield idx, 3)) (kk : g (pc + 3) ls (vi (r 0 j) :: st) (pt b 26 r G) L N kc ks) : g pc ls (vr (some (b + 0)) :: st) (pt b 26 r G) L N kc ks :=
  G_getI pc hC hf (hF.sh (o := 0) rfl (by decide)).1 ht hd (by rw [pt_row (by decide)]; exact kk)
theorem M_getL (pc : Nat) (hC : Cx l D B own cc nL mn R g) (hF : FixR b N) {idx j : Nat} (hf : FL own idx 11 j) (ht : fty 11 j = 1) (hd : decode cc pc = .ok (.getfield idx, 3)) (kk : g (pc + 3) ls (vl (rl 0 j) :: st) I (pt b 26 rl GL) N kc ks) : g pc ls (vr (some (b + 0)) :: st) I (pt b 26 rl GL) N kc ks :=
  G_getL pc hC hf (hF.sh (o := 0) rfl (by decide)).1 ht hd (by rw [pt_row (by decide)]; exact kk)
theorem M_getR (pc : Nat) (hC : Cx l D B own cc nL mn R g) (hF : FixR b N) {idx j o : Nat} (hf : FL own idx 11 j) (ho : rfR j = some o) (ht : fty 11 j = 2) (hd : decode cc pc = .ok (.getfield idx, 3)) (kk : g (pc + 3) ls (vr (some (b + o)) :: st) I L N kc ks) : g pc ls (vr (some (b + 0)) :: st) I L N kc ks :=
  G_getR pc hC hf (hF.sh (o := 0) rfl (by decide)).1 (hF.2 j o ho) ht hd kk
theorem M_putI (pc : Nat) (hC : Cx l D B own cc nL mn R g) (hF : FixR b N) {idx j : Nat} {x : Int32} (hf : FP own mn idx 11 j .int) (ht : fty 11 j = 0) (hd : decode cc pc = .ok (.putfield idx, 3)) (kk : g (pc + 3) ls st (pt b 26 (upd2 r 0 j x) G) L N kc ks) : g pc ls (vi x :: vr (some (b + 0)) :: st) (pt b 26 r G) L N kc ks :=
  G_putI pc hC hf (hF.sh (o := 0) rfl (by decide)).1 ht rfl rfl hd (by rw [pt_upd (by decide)]; exact kk)
theorem M_putL (pc : Nat) (hC : Cx l D B own cc nL mn R g) (hF : FixR b N) {idx j : Nat} {x : Int64} (hf : FP own mn idx 11 j .long) (ht : fty 11 j = 1) (hd : decode cc pc = .ok (.putfield idx, 3)) (kk : g (pc + 3) ls st I (pt b 26 (upd2 rl 0 j x) GL) N kc ks) : g pc ls (vl x :: vr (some (b + 0)) :: st) I (pt b 26 rl GL) N kc ks :=
  G_putL pc hC hf (hF.sh (o := 0) rfl (by decide)).1 ht hd (by rw [pt_upd (by decide)]; exact kk)
theorem M_iald (pc : Nat) (hC : Cx l D B own cc nL mn R g) (hF : FixR b N) {o n j : Nat} {i : Int32} (hs : shR o = (12, n)) (hn : n < 2 ^ 31) (hi : i = nI j) (hj : j < n) (hd : decode cc pc = .ok (.iaload, 1)) (kk : g (pc + 1) ls (vi (r o j) :: st) (pt b 26 r G) L N kc ks) : g pc ls (vi i :: vr (some (b + o)) :: st) (pt b 26 r G) L N kc ks :=
  G_iald pc hC (hF.sh hs (by decide)).1 (Or.inl rfl) hi hj hn hd (by rw [pt_row (hF.sh hs (by decide)).2]; exact kk)
theorem M_lald (pc : Nat) (hC : Cx l D B own cc nL mn R g) (hF : FixR b N) {o n j : Nat} {i : Int32} (hs : shR o = (13, n)) (hn : n < 2 ^ 31) (hi : i = nI j) (hj : j < n) (hd : decode cc pc = .ok (.laload, 1)) (kk : g (pc + 1) ls (vl (rl o j) :: st) I (pt b 26 rl GL) N kc ks) : g pc ls (vi i :: vr (some (b + o)) :: st) I (pt b 26 rl GL) N kc ks :=
  G_lald pc hC (hF.sh hs (by decide)).1 hi hj hn hd (by rw [pt_row (hF.sh hs (by decide)).2]; exact kk)
theorem M_iast (pc : Nat) (hC : Cx l D B own cc nL mn R g) (hF : FixR b N) {o n j : Nat} {i x : Int32} (hs : shR o = (12, n)) (hn : n < 2 ^ 31) (hi : i = nI j) (hj : j < n) (hd : decode cc pc = .ok (.iastore, 1)) (kk : g (pc + 1) ls st (pt b 26 (upd2 r o j x) G) L N kc ks) : g pc ls (vi x :: vi i :: vr (some (b + o)) :: st) (pt b 26 r G) L N kc ks :=
  G_iast pc hC (hF.sh hs (by decide)).1 hi hj hn hd (by rw [pt_upd (hF.sh hs (by decide)).2]; exact kk)
theorem M_last (pc : Nat) (hC : Cx l D B own cc nL mn R g) (hF : FixR b N) {o n j : Nat} {i : Int32} {x : Int64} (hs : shR o = (13, n)) (hn : n < 2 ^ 31) (hi : i = nI j) (hj : j < n) (hd : decode cc pc = .ok (.lastore, 1)) (kk : g (pc + 1) ls st I (pt b 26 (upd2 rl o j x) GL) N kc ks) : g pc ls (vl x :: vi i :: vr (some (b + o)) :: st) I (pt b 26 rl GL) N kc ks :=
  G_last pc hC (hF.sh hs (by decide)).1 hi hj hn hd (by rw [pt_upd (hF.sh hs (by decide)).2]; exact kk)
end REF
end
section
/-! ===== a whole number, by 4 and times 4, is never NaN ===== -/
theorem fp_rr (f : FP.Core.Fmt) (s : Bool) (a c : Nat) (e : Int) : FP.Core.roundRatio f s a c e ≠ .nan := by
  unfold FP.Core.roundRatio FP.Core.roundAt FP.Core.settle FP.Core.bound
  intro h
  repeat' split at h
  all_goals cases h
theorem fp_l2f (v : Int64) : FP.Core.fIsNaN (FP.l2f v) = false := by
  rw [FP.Core.notNaN_iff32, show FP.l2f v = FP.Core.l2f v from rfl, FP.Core.val32_l2f]
  exact fp_rr _ _ _ _ _
theorem fp_l2d (v : Int64) : FP.Core.dIsNaN (FP.l2d v) = false := by
  rw [FP.Core.notNaN_iff, show FP.l2d v = FP.Core.l2d v from rfl, FP.Core.val64_l2d]
  exact fp_rr _ _ _ _ _
abbrev c4f : UInt32 := 1082130432
abbrev c4d : UInt64 := 4616189618054758400
theorem fp_n32 {x : UInt32} (h : FP.Core.fIsNaN x = false) : vf_n32 x := by
  have h1 : ¬ 2139095040 < x.toNat % 2 ^ 31 := fun q => by rw [(FP.Core.isNaN_bits32 x).mpr q] at h; cases h
  unfold vf_n32
  rw [UInt32.le_iff_toNat_le, UInt32.toNat_and]
  show x.toNat &&& (2 ^ 31 - 1) ≤ _
  rw [Nat.and_two_pow_sub_one_eq_mod]
  exact Nat.le_of_not_lt h1
theorem fp_n64 {x : UInt64} (h : FP.Core.dIsNaN x = false) : vf_n64 x := by
  have h1 : ¬ 9218868437227405312 < x.toNat % 2 ^ 63 := fun q => by rw [(FP.Core.isNaN_bits x).mpr q] at h; cases h
  unfold vf_n64
  rw [UInt64.le_iff_toNat_le, UInt64.toNat_and]
  show x.toNat &&& (2 ^ 63 - 1) ≤ _
  rw [Nat.and_two_pow_sub_one_eq_mod]
  exact Nat.le_of_not_lt h1
theorem fp_4f : FP.Core.FFin c4f ∧ ¬ FP.Core.FZero c4f := by
  have h : FP.Core.val32 c4f = .fin false (2 ^ 23) (-21) := by decide +kernel
  exact ⟨⟨_, _, _, h⟩, fun ⟨s, q, e⟩ => by rw [h] at e; cases e⟩
theorem fp_4d : FP.Core.DFin c4d ∧ ¬ FP.Core.DZero c4d := by
  have h : FP.Core.val64 c4d = .fin false (2 ^ 52) (-50) := by decide +kernel
  exact ⟨⟨_, _, _, h⟩, fun ⟨s, q, e⟩ => by rw [h] at e; cases e⟩
theorem fp_fdiv (v : Int64) : FP.Core.fIsNaN (FP.fdiv (FP.l2f v) c4f) = false := FP.Core.fdiv_out (fp_l2f v) fp_4f.1 fp_4f.2
theorem fp_ddiv (v : Int64) : FP.Core.dIsNaN (FP.ddiv (FP.l2d v) c4d) = false := FP.Core.ddiv_out (fp_l2d v) fp_4d.1 fp_4d.2
theorem fp_fmul (v : Int64) : FP.Core.fIsNaN (FP.fmul c4f (FP.fdiv (FP.l2f v) c4f)) = false := by
  rw [show FP.fmul c4f (FP.fdiv (FP.l2f v) c4f) = FP.fmul (FP.fdiv (FP.l2f v) c4f) c4f from FP.Core.fmul_comm _ _]
  exact FP.Core.fmul_out' (fp_fdiv v) fp_4f.1 fp_4f.2
theorem fp_dmul (v : Int64) : FP.Core.dIsNaN (FP.dmul c4d (FP.ddiv (FP.l2d v) c4d)) = false := by
  rw [show FP.dmul c4d (FP.ddiv (FP.l2d v) c4d) = FP.dmul (FP.ddiv (FP.l2d v) c4d) c4d from FP.Core.dmul_comm _ _]
  exact FP.Core.dmul_out' (fp_ddiv v) fp_4d.1 fp_4d.2
/-- what an item keeps of v: its number -/
def F_ak (k : Nat) (v : Int64) : Int64 := match k with
  | 0 => v.toInt32.toInt8.toInt32.toInt64
  | 1 => v.toInt32.toInt16.toInt32.toInt64
  | 2 => v.toInt32.toInt64
  | 3 => v
  | 4 => FP.f2l (FP.fmul c4f (FP.fdiv (FP.l2f v) c4f))
  | _ => FP.d2l (FP.dmul c4d (FP.ddiv (FP.l2d v) c4d))
end
section
/-! ===== the reference's small methods ===== -/
theorem narrow_bI (c : Prop) [Decidable c] : narrow .boolean (.int (bI c)) = .int (bI c) := by unfold bI; by_cases h : c <;> simp [h] <;> rfl
theorem nI_one : nI 1 = 1 := by decide
theorem bI_iff {c d : Prop} [Decidable c] [Decidable d] (h : c ↔ d) : bI c = bI d := by unfold bI; by_cases q : c <;> simp [q, h.mp, show d ↔ c from h.symm]
abbrev inR (x : Int32) (n : Nat) : Prop := 0 ≤ x.toInt ∧ x.toInt < (n : Int)
theorem inR_of {x : Int32} {n : Nat} (h : inR x n) (hn : n < 2 ^ 31) : ∃ j : Nat, j < n ∧ x = nI j := vp_in_of (vp_in_iff.mpr h) hn
theorem inR_nI {n j : Nat} (h : j < n) (hn : n < 2 ^ 31) : inR (nI j) n := by unfold inR; rw [nI_toInt (by omega)]; omega
theorem in_inR {x : Int32} {n : Nat} (hn : n < 2 ^ 30) : (nI 0 ≤ x ∧ x ≤ nI n - nI 1) ↔ inR x n := by
  rw [Int32.le_iff_toInt_le, Int32.le_iff_toInt_le, pk_sub_toInt hn (by omega), nI_toInt (by omega)]
  unfold inR
  omega
theorem nI_eq_of {a c : Nat} (h : nI a = nI c) (ha : a < 2 ^ 31) (hc : c < 2 ^ 31) : a = c := (nI_eq ha hc).mp h
section M1
variable {l : Launch} {D : va_G} {B b : Nat} {N : NT} {r G : MI} {rl GL : ML} {I : MI} {L : ML}
theorem ref_in {v lo hi : Int32} : Cq l D B mX12_in [vi v, vi lo, vi hi] I L N (some (vi (bI (lo ≤ v ∧ v ≤ hi)))) I L := by
  refine Ct.of (M := mX12_in) (by decide) (Nat.le_of_ble_eq_true rfl) (fun g (hR : Cr l D B RX12 cX12_in 3 "in" { frames := 0, cells := 0, slots := 0, locals := 0 } (some .boolean) 0 0 _ g) => ?_)
  have hC := hR.cx
  show g 0 [some (vi v), some (vi lo), some (vi hi)] [] _ _ N 0 0
  refine G_iload_n 0 hC rfl dX12_in_0 ?_
  refine G_iload_n 1 hC rfl dX12_in_1 ?_
  refine G_icmp_lt 2 14 hC dX12_in_2 (by decide) (fun h2 => ?_) (fun h2 => ?_)
  · refine G_iconst 14 hC (nI 0) (by decide) dX12_in_14 ?_
    refine R_i 15 hR (by first | rfl | exact narrow_bI _) dX12_in_15 (Nat.le_refl _) (Nat.le_refl _) ?_
    refine ⟨?_, rfl, rfl, rfl⟩
    simp only [Int32.lt_iff_toInt_lt, Int32.le_iff_toInt_le, bI] at *
    split <;> first | rfl | (exfalso; omega)
  · refine G_iload_n 5 hC rfl dX12_in_5 ?_
    refine G_iload_n 6 hC rfl dX12_in_6 ?_
    refine G_icmp_gt 7 14 hC dX12_in_7 (by decide) (fun h7 => ?_) (fun h7 => ?_)
    · refine G_iconst 14 hC (nI 0) (by decide) dX12_in_14 ?_
      refine R_i 15 hR (by first | rfl | exact narrow_bI _) dX12_in_15 (Nat.le_refl _) (Nat.le_refl _) ?_
      refine ⟨?_, rfl, rfl, rfl⟩
      simp only [Int32.lt_iff_toInt_lt, Int32.le_iff_toInt_le, bI] at *
      split <;> first | rfl | (exfalso; omega)
    · refine G_iconst 10 hC (nI 1) (by decide) dX12_in_10 ?_
      refine G_goto 11 15 hC dX12_in_11 (by decide) ?_
      refine R_i 15 hR (by first | rfl | exact narrow_bI _) dX12_in_15 (Nat.le_refl _) (Nat.le_refl _) ?_
      refine ⟨?_, rfl, rfl, rfl⟩
      simp only [Int32.lt_iff_toInt_lt, Int32.le_iff_toInt_le, bI] at *
      split <;> first | rfl | (exfalso; omega)
theorem ref_isOpen (hF : FixR b N) : Cq l D B mX12_isOpen [vr (some (b + 0))] (pt b 26 r G) L N (some (vi (bI (r 20 246 = 1)))) (pt b 26 r G) L := by
  refine Ct.of (M := mX12_isOpen) (by decide) (Nat.le_of_ble_eq_true rfl) (fun g (hR : Cr l D B RX12 cX12_isOpen 1 "isOpen" { frames := 0, cells := 0, slots := 0, locals := 0 } (some .boolean) 0 0 _ g) => ?_)
  have hC := hR.cx
  show g 0 [some (vr (some (b + 0)))] [] _ _ N 0 0
  refine G_aload_n 0 hC rfl dX12_isOpen_0 ?_
  refine M_getR 1 hC hF fl_X12_68_11 rfl rfl dX12_isOpen_1 ?_
  refine G_sipush 4 hC (nI 246) (by decide) dX12_isOpen_4 ?_
  refine M_iald 7 hC hF rfl (by decide) rfl (by omega) dX12_isOpen_7 ?_
  refine G_iconst 8 hC (nI 1) (by decide) dX12_isOpen_8 ?_
  refine G_icmp_ne 9 16 hC dX12_isOpen_9 (by decide) (fun h9 => ?_) (fun h9 => ?_)
  · refine G_iconst 16 hC (nI 0) (by decide) dX12_isOpen_16 ?_
    refine R_i 17 hR (by first | rfl | exact narrow_bI _) dX12_isOpen_17 (Nat.le_refl _) (Nat.le_refl _) ?_
    exact ⟨by simp_all [bI, nI_0, nI_one], rfl, rfl, rfl⟩
  · refine G_iconst 12 hC (nI 1) (by decide) dX12_isOpen_12 ?_
    refine G_goto 13 17 hC dX12_isOpen_13 (by decide) ?_
    refine R_i 17 hR (by first | rfl | exact narrow_bI _) dX12_isOpen_17 (Nat.le_refl _) (Nat.le_refl _) ?_
    exact ⟨by simp_all [bI, nI_0, nI_one], rfl, rfl, rfl⟩
theorem ref_isGrid (hF : FixR b N) {x : Int32} {ng : Nat} (h : r 0 3 = nI ng) (hn : ng ≤ 6) : Cq l D B mX12_isGrid [vr (some (b + 0)), vi x] (pt b 26 r G) L N (some (vi (bI (inR x ng)))) (pt b 26 r G) L := by
  refine Ct.of (M := mX12_isGrid) (by decide) (Nat.le_of_ble_eq_true rfl) (fun g (hR : Cr l D B RX12 cX12_isGrid 2 "isGrid" { frames := 1, cells := 0, slots := 0, locals := 22 } (some .boolean) 0 0 _ g) => ?_)
  have hC := hR.cx
  show g 0 [some (vr (some (b + 0))), some (vi x)] [] _ _ N 0 0
  refine G_iload_n 0 hC rfl dX12_isGrid_0 ?_
  refine G_iconst 1 hC (nI 0) (by decide) dX12_isGrid_1 ?_
  refine G_aload_n 2 hC rfl dX12_isGrid_2 ?_
  refine M_getI 3 hC hF fl_X12_104_11 rfl dX12_isGrid_3 ?_
  refine G_iconst 6 hC (nI 1) (by decide) dX12_isGrid_6 ?_
  refine G_isub 7 hC dX12_isGrid_7 ?_
  refine G_callS1 8 hC (ref_in) okX12_in lk_X12_107 rfl rfl rfl (by decide) (by decide) (by decide) dX12_isGrid_8 ?_
  refine R_i 11 hR (by first | rfl | exact narrow_bI _) dX12_isGrid_11 (Nat.le_refl _) (Nat.le_refl _) ?_
  exact ⟨by rw [h]; rw [bI_iff (in_inR (by omega))], rfl, rfl, rfl⟩
theorem ref_isTask (hF : FixR b N) {x : Int32} {nt : Nat} (h : r 0 10 = nI nt) (hn : nt ≤ 20) : Cq l D B mX12_isTask [vr (some (b + 0)), vi x] (pt b 26 r G) L N (some (vi (bI (inR x nt)))) (pt b 26 r G) L := by
  refine Ct.of (M := mX12_isTask) (by decide) (Nat.le_of_ble_eq_true rfl) (fun g (hR : Cr l D B RX12 cX12_isTask 2 "isTask" { frames := 1, cells := 0, slots := 0, locals := 22 } (some .boolean) 0 0 _ g) => ?_)
  have hC := hR.cx
  show g 0 [some (vr (some (b + 0))), some (vi x)] [] _ _ N 0 0
  refine G_iload_n 0 hC rfl dX12_isTask_0 ?_
  refine G_iconst 1 hC (nI 0) (by decide) dX12_isTask_1 ?_
  refine G_aload_n 2 hC rfl dX12_isTask_2 ?_
  refine M_getI 3 hC hF fl_X12_101_11 rfl dX12_isTask_3 ?_
  refine G_iconst 6 hC (nI 1) (by decide) dX12_isTask_6 ?_
  refine G_isub 7 hC dX12_isTask_7 ?_
  refine G_callS1 8 hC (ref_in) okX12_in lk_X12_107 rfl rfl rfl (by decide) (by decide) (by decide) dX12_isTask_8 ?_
  refine R_i 11 hR (by first | rfl | exact narrow_bI _) dX12_isTask_11 (Nat.le_refl _) (Nat.le_refl _) ?_
  exact ⟨by rw [h]; rw [bI_iff (in_inR (by omega))], rfl, rfl, rfl⟩
theorem ref_at (hF : FixR b N) {t w : Nat} (ht : t < 20) (hw : w < 12) : Cq l D B mX12_at [vr (some (b + 0)), vi (nI t), vi (nI w)] (pt b 26 r G) L N (some (vi (r 20 (12 * t + w)))) (pt b 26 r G) L := by
  refine Ct.of (M := mX12_at) (by decide) (Nat.le_of_ble_eq_true rfl) (fun g (hR : Cr l D B RX12 cX12_at 3 "at" { frames := 0, cells := 0, slots := 0, locals := 0 } (some .int) 0 0 _ g) => ?_)
  have hC := hR.cx
  show g 0 [some (vr (some (b + 0))), some (vi (nI t)), some (vi (nI w))] [] _ _ N 0 0
  refine G_aload_n 0 hC rfl dX12_at_0 ?_
  refine M_getR 1 hC hF fl_X12_68_11 rfl rfl dX12_at_1 ?_
  refine G_bipush 4 hC (nI 12) (by decide) dX12_at_4 ?_
  refine G_iload_n 6 hC rfl dX12_at_6 ?_
  refine G_imulN 7 hC dX12_at_7 ?_
  refine G_iload_n 8 hC rfl dX12_at_8 ?_
  refine G_iaddN 9 hC dX12_at_9 ?_
  refine M_iald 10 hC hF rfl (by decide) rfl (by omega) dX12_at_10 ?_
  refine R_i 11 hR (by first | rfl | exact narrow_bI _) dX12_at_11 (Nat.le_refl _) (Nat.le_refl _) ?_
  exact ⟨rfl, rfl, rfl, rfl⟩
theorem ref_set (hF : FixR b N) {t w : Nat} {v : Int32} (ht : t < 20) (hw : w < 12) : Cq l D B mX12_set [vr (some (b + 0)), vi (nI t), vi (nI w), vi v] (pt b 26 r G) L N none (pt b 26 (upd2 r 20 (12 * t + w) v) G) L := by
  refine Ct.of (M := mX12_set) (by decide) (Nat.le_of_ble_eq_true rfl) (fun g (hR : Cr l D B RX12 cX12_set 4 "set" { frames := 0, cells := 0, slots := 0, locals := 0 } none 0 0 _ g) => ?_)
  have hC := hR.cx
  show g 0 [some (vr (some (b + 0))), some (vi (nI t)), some (vi (nI w)), some (vi v)] [] _ _ N 0 0
  refine G_aload_n 0 hC rfl dX12_set_0 ?_
  refine M_getR 1 hC hF fl_X12_68_11 rfl rfl dX12_set_1 ?_
  refine G_bipush 4 hC (nI 12) (by decide) dX12_set_4 ?_
  refine G_iload_n 6 hC rfl dX12_set_6 ?_
  refine G_imulN 7 hC dX12_set_7 ?_
  refine G_iload_n 8 hC rfl dX12_set_8 ?_
  refine G_iaddN 9 hC dX12_set_9 ?_
  refine G_iload_n 10 hC rfl dX12_set_10 ?_
  refine M_iast 11 hC hF rfl (by decide) rfl (by omega) dX12_set_11 ?_
  refine R_v 12 hR dX12_set_12 (Nat.le_refl _) (Nat.le_refl _) ?_
  exact ⟨rfl, rfl, rfl, rfl⟩
theorem ref_more (hF : FixR b N) {t w : Nat} (ht : t < 20) (hw : w < 12) : Cq l D B mX12_more [vr (some (b + 0)), vi (nI t), vi (nI w)] (pt b 26 r G) L N none (pt b 26 (upd2 r 20 (12 * t + w) (r 20 (12 * t + w) + nI 1)) G) L := by
  refine Ct.of (M := mX12_more) (by decide) (Nat.le_of_ble_eq_true rfl) (fun g (hR : Cr l D B RX12 cX12_more 3 "more" { frames := 0, cells := 0, slots := 0, locals := 0 } none 0 0 _ g) => ?_)
  have hC := hR.cx
  show g 0 [some (vr (some (b + 0))), some (vi (nI t)), some (vi (nI w))] [] _ _ N 0 0
  refine G_aload_n 0 hC rfl dX12_more_0 ?_
  refine M_getR 1 hC hF fl_X12_68_11 rfl rfl dX12_more_1 ?_
  refine G_bipush 4 hC (nI 12) (by decide) dX12_more_4 ?_
  refine G_iload_n 6 hC rfl dX12_more_6 ?_
  refine G_imulN 7 hC dX12_more_7 ?_
  refine G_iload_n 8 hC rfl dX12_more_8 ?_
  refine G_iaddN 9 hC dX12_more_9 ?_
  first | refine G_dup2 10 hC rfl rfl dX12_more_10 ?_ | refine G_dup2L 10 hC dX12_more_10 ?_
  refine M_iald 11 hC hF rfl (by decide) rfl (by omega) dX12_more_11 ?_
  refine G_iconst 12 hC (nI 1) (by decide) dX12_more_12 ?_
  refine G_iadd 13 hC dX12_more_13 ?_
  refine M_iast 14 hC hF rfl (by decide) rfl (by omega) dX12_more_14 ?_
  refine R_v 15 hR dX12_more_15 (Nat.le_refl _) (Nat.le_refl _) ?_
  exact ⟨rfl, rfl, rfl, rfl⟩
end M1
end
section
/-! ===== the reference's methods of grids and tasks, the small ones ===== -/
theorem bI_t {c : Prop} [Decidable c] (h : c) : nI 1 = bI c := by unfold bI; rw [if_pos h]; rfl
theorem bI_f {c : Prop} [Decidable c] (h : ¬ c) : nI 0 = bI c := by unfold bI; rw [if_neg h]; rfl
theorem sw_any (x : Int32) (n : Nat) (hn : n < 2 ^ 30) : (x.toInt < 0 ∨ (n : Int) < x.toInt) ∨ ∃ k : Nat, k ≤ n ∧ x = nI k := by
  by_cases h : x.toInt < 0 ∨ (n : Int) < x.toInt
  · exact Or.inl h
  · obtain ⟨j, hj, e⟩ := inR_of (x := x) (n := n + 1) ⟨by omega, by omega⟩ (by omega)
    exact Or.inr ⟨j, by omega, e⟩
/-- of the grid g0 (size by row 2): what is wrong with an item k of line i: 2, 1, or 0 -/
def F_ag (r : MI) (g0 : Nat) (i k : Int32) : Int32 := if inR i (r 2 g0).toNatClampNeg then (if r 3 (20 * g0 + i.toNatClampNeg) < 0 then nI 1 else if inR k (r 4 (r 3 (20 * g0 + i.toNatClampNeg)).toNatClampNeg).toNatClampNeg then nI 0 else nI 2) else nI 2
/-- the lines of a grid: missing, or made -/
def PlOk (r : MI) (g0 sz : Nat) : Prop := ∀ i, i < sz → r 3 (20 * g0 + i) = -1 ∨ ∃ p, p < 600 ∧ r 3 (20 * g0 + i) = nI p ∧ ∃ q, q ≤ 12 ∧ r 4 p = nI q
theorem F_ag_out {r : MI} {g0 sz : Nat} {i k : Int32} (h2 : r 2 g0 = nI sz) (hz : sz ≤ 12) (h : ¬ inR i sz) : F_ag r g0 i k = nI 2 := by
  unfold F_ag; rw [h2, nI_clamp (by omega), if_neg h]
theorem F_ag_in {r : MI} {g0 sz i1 : Nat} {k : Int32} (h2 : r 2 g0 = nI sz) (hz : sz ≤ 12) (h : i1 < sz) : F_ag r g0 (nI i1) k = if r 3 (20 * g0 + i1) < 0 then nI 1 else if inR k (r 4 (r 3 (20 * g0 + i1)).toNatClampNeg).toNatClampNeg then nI 0 else nI 2 := by
  unfold F_ag; rw [h2, nI_clamp (show sz < 2 ^ 31 by omega), nI_clamp (show i1 < 2 ^ 31 by omega), if_pos (inR_nI h (by omega))]
theorem F_ag_mi {r : MI} {g0 sz i1 : Nat} {k : Int32} (h2 : r 2 g0 = nI sz) (hz : sz ≤ 12) (h : i1 < sz) (hp : r 3 (20 * g0 + i1) = -1) : F_ag r g0 (nI i1) k = nI 1 := by
  rw [F_ag_in h2 hz h, hp, if_pos (by decide)]
theorem F_ag_ln {r : MI} {g0 sz i1 p q : Nat} {k : Int32} (h2 : r 2 g0 = nI sz) (hz : sz ≤ 12) (h : i1 < sz) (hp0 : p < 600) (hp : r 3 (20 * g0 + i1) = nI p) (hq0 : q ≤ 12) (hq : r 4 p = nI q) : F_ag r g0 (nI i1) k = if inR k q then nI 0 else nI 2 := by
  rw [F_ag_in h2 hz h, hp, if_neg (nI_pos (by omega)), nI_clamp (show p < 2 ^ 31 by omega), hq, nI_clamp (show q < 2 ^ 31 by omega)]
def F_worth (v : Int64) : Int64 := if v ≤ 0 then 0 else if 1000000 < v then 1000000 else v
def F_lf (r : MI) (s0 g0 : Nat) (i : Int32) : Int32 := if r 1 g0 ≠ r 16 s0 then nI 3 else if ¬ inR i (r 2 g0).toNatClampNeg then nI 2 else if r 3 (20 * g0 + i.toNatClampNeg) < 0 then nI 1 else nI 0
section M2
variable {l : Launch} {D : va_G} {B b : Nat} {N : NT} {r G : MI} {rl GL : ML} {I : MI} {L : ML}
theorem ref_newLine (hF : FixR b N) {m nl : Nat} (h : r 0 7 = nI nl) (hn : nl < 600) (hm : m ≠ 13) (hm2 : m < 2 ^ 31) : Cq l D B mX12_newLine [vr (some (b + 0)), vi (nI m)] (pt b 26 r G) L N (some (vi (nI nl))) (pt b 26 (upd2 (upd2 r 4 nl (nI m)) 0 7 (nI (nl + 1))) G) L := by
  refine Ct.of (M := mX12_newLine) (by decide) (Nat.le_of_ble_eq_true rfl) (fun g (hR : Cr l D B RX12 cX12_newLine 2 "newLine" { frames := 0, cells := 0, slots := 0, locals := 0 } (some .int) 0 0 _ g) => ?_)
  have hC := hR.cx
  show g 0 [some (vr (some (b + 0))), some (vi (nI m))] [] _ _ N 0 0
  refine G_iload_n 0 hC rfl dX12_newLine_0 ?_
  refine G_bipush 1 hC (nI 13) (by decide) dX12_newLine_1 ?_
  refine G_icmp_ne 3 8 hC dX12_newLine_3 (by decide) (fun h3 => ?_) (fun h3 => ?_)
  · refine G_aload_n 8 hC rfl dX12_newLine_8 ?_
    refine M_getR 9 hC hF fl_X12_19_11 rfl rfl dX12_newLine_9 ?_
    refine G_aload_n 12 hC rfl dX12_newLine_12 ?_
    refine M_getI 13 hC hF fl_X12_111_11 rfl dX12_newLine_13 ?_
    refine G_iload_n 16 hC rfl dX12_newLine_16 ?_
    refine M_iast 17 hC hF rfl (by decide) (by first | rfl | exact h) (by omega) dX12_newLine_17 ?_
    refine G_aload_n 18 hC rfl dX12_newLine_18 ?_
    refine G_dup 19 hC rfl dX12_newLine_19 ?_
    refine M_getI 20 hC hF fl_X12_111_11 rfl dX12_newLine_20 ?_
    refine G_iconst 23 hC (nI 1) (by decide) dX12_newLine_23 ?_
    refine G_iadd 24 hC dX12_newLine_24 ?_
    refine M_putI 25 hC hF (fp_X12_111_11 _) rfl dX12_newLine_25 ?_
    refine G_aload_n 28 hC rfl dX12_newLine_28 ?_
    refine M_getI 29 hC hF fl_X12_111_11 rfl dX12_newLine_29 ?_
    refine G_iconst 32 hC (nI 1) (by decide) dX12_newLine_32 ?_
    refine G_isub 33 hC dX12_newLine_33 ?_
    refine R_i 34 hR (by first | rfl | exact narrow_bI _) dX12_newLine_34 (Nat.le_refl _) (Nat.le_refl _) ?_
    have h7 : upd2 r 4 nl (nI m) 0 7 = nI nl := h
    exact ⟨by show some (vi (upd2 (upd2 r 4 nl (nI m)) 0 7 _ 0 7 - nI 1)) = _; rw [upd2_row, up_s, h7, nI_add, pk_sub (by omega)]; rfl, by rw [h7, nI_add], rfl, rfl⟩
  · exact absurd (nI_eq_of h3 (by omega) (by omega)) hm
theorem ref_isLine (hF : FixR b N) {g0 sz : Nat} {x : Int32} (hg : g0 < 6) (h : r 2 g0 = nI sz) (hn : sz ≤ 20) : Cq l D B mX12_isLine [vr (some (b + 0)), vi (nI g0), vi x] (pt b 26 r G) L N (some (vi (bI (inR x sz)))) (pt b 26 r G) L := by
  refine Ct.of (M := mX12_isLine) (by decide) (Nat.le_of_ble_eq_true rfl) (fun g (hR : Cr l D B RX12 cX12_isLine 3 "isLine" { frames := 1, cells := 0, slots := 0, locals := 22 } (some .boolean) 0 0 _ g) => ?_)
  have hC := hR.cx
  show g 0 [some (vr (some (b + 0))), some (vi (nI g0)), some (vi x)] [] _ _ N 0 0
  refine G_iload_n 0 hC rfl dX12_isLine_0 ?_
  refine G_iconst 1 hC (nI 0) (by decide) dX12_isLine_1 ?_
  refine G_aload_n 2 hC rfl dX12_isLine_2 ?_
  refine M_getR 3 hC hF fl_X12_13_11 rfl rfl dX12_isLine_3 ?_
  refine G_iload_n 6 hC rfl dX12_isLine_6 ?_
  refine M_iald 7 hC hF rfl (by decide) rfl (by omega) dX12_isLine_7 ?_
  refine G_iconst 8 hC (nI 1) (by decide) dX12_isLine_8 ?_
  refine G_isub 9 hC dX12_isLine_9 ?_
  refine G_callS1 10 hC (ref_in) okX12_in lk_X12_107 rfl rfl rfl (by decide) (by decide) (by decide) dX12_isLine_10 ?_
  refine R_i 13 hR (by first | rfl | exact narrow_bI _) dX12_isLine_13 (Nat.le_refl _) (Nat.le_refl _) ?_
  exact ⟨by rw [h]; rw [bI_iff (in_inR (by omega))], rfl, rfl, rfl⟩
theorem ref_mayNeed (hF : FixR b N) {x y : Int32} : Cq l D B mX12_mayNeed [vr (some (b + 0)), vi x, vi y] (pt b 26 r G) L N (some (vi (bI ((nI 0 ≤ x ∧ x ≤ r 0 2) ∧ nI 1 ≤ y ∧ y ≤ nI 1000)))) (pt b 26 r G) L := by
  refine Ct.of (M := mX12_mayNeed) (by decide) (Nat.le_of_ble_eq_true rfl) (fun g (hR : Cr l D B RX12 cX12_mayNeed 3 "mayNeed" { frames := 1, cells := 0, slots := 0, locals := 22 } (some .boolean) 0 0 _ g) => ?_)
  have hC := hR.cx
  show g 0 [some (vr (some (b + 0))), some (vi x), some (vi y)] [] _ _ N 0 0
  refine G_iload_n 0 hC rfl dX12_mayNeed_0 ?_
  refine G_iconst 1 hC (nI 0) (by decide) dX12_mayNeed_1 ?_
  refine G_aload_n 2 hC rfl dX12_mayNeed_2 ?_
  refine M_getI 3 hC hF fl_X12_90_11 rfl dX12_mayNeed_3 ?_
  refine G_callS1 6 hC (ref_in) okX12_in lk_X12_107 rfl rfl rfl (by decide) (by decide) (by decide) dX12_mayNeed_6 ?_
  first | refine G_if_eq_b 9 27 hC dX12_mayNeed_9 (by decide) (fun h9 => ?_) (fun h9 => ?_) | refine G_if_eq 9 27 hC dX12_mayNeed_9 (by decide) (fun h9 => ?_) (fun h9 => ?_)
  · refine G_iconst 27 hC (nI 0) (by decide) dX12_mayNeed_27 ?_
    refine R_i 28 hR (by first | rfl | exact narrow_bI _) dX12_mayNeed_28 (Nat.le_refl _) (Nat.le_refl _) ?_
    refine ⟨?_, rfl, rfl, rfl⟩
    clear hR hC
    first | (refine congrArg (fun z => some (vi z)) (bI_t ?_); grind) | (refine congrArg (fun z => some (vi z)) (bI_f ?_); grind)
  · refine G_iload_n 12 hC rfl dX12_mayNeed_12 ?_
    refine G_iconst 13 hC (nI 1) (by decide) dX12_mayNeed_13 ?_
    refine G_sipush 14 hC (nI 1000) (by decide) dX12_mayNeed_14 ?_
    refine G_callS1 17 hC (ref_in) okX12_in lk_X12_107 rfl rfl rfl (by decide) (by decide) (by decide) dX12_mayNeed_17 ?_
    first | refine G_if_eq_b 20 27 hC dX12_mayNeed_20 (by decide) (fun h20 => ?_) (fun h20 => ?_) | refine G_if_eq 20 27 hC dX12_mayNeed_20 (by decide) (fun h20 => ?_) (fun h20 => ?_)
    · refine G_iconst 27 hC (nI 0) (by decide) dX12_mayNeed_27 ?_
      refine R_i 28 hR (by first | rfl | exact narrow_bI _) dX12_mayNeed_28 (Nat.le_refl _) (Nat.le_refl _) ?_
      refine ⟨?_, rfl, rfl, rfl⟩
      clear hR hC
      first | (refine congrArg (fun z => some (vi z)) (bI_t ?_); grind) | (refine congrArg (fun z => some (vi z)) (bI_f ?_); grind)
    · refine G_iconst 23 hC (nI 1) (by decide) dX12_mayNeed_23 ?_
      refine G_goto 24 28 hC dX12_mayNeed_24 (by decide) ?_
      refine R_i 28 hR (by first | rfl | exact narrow_bI _) dX12_mayNeed_28 (Nat.le_refl _) (Nat.le_refl _) ?_
      refine ⟨?_, rfl, rfl, rfl⟩
      clear hR hC
      first | (refine congrArg (fun z => some (vi z)) (bI_t ?_); grind) | (refine congrArg (fun z => some (vi z)) (bI_f ?_); grind)
theorem ref_failed (hF : FixR b N) {t : Nat} {v : Int32} (ht : t < 20) : Cq l D B mX12_failed [vr (some (b + 0)), vi (nI t), vi v] (pt b 26 r G) L N (some (vi (nI 3))) (pt b 26 (upd2 r 20 (12 * t + 1) v) G) L := by
  refine Ct.of (M := mX12_failed) (by decide) (Nat.le_of_ble_eq_true rfl) (fun g (hR : Cr l D B RX12 cX12_failed 3 "failed" { frames := 1, cells := 0, slots := 0, locals := 23 } (some .int) 0 0 _ g) => ?_)
  have hC := hR.cx
  show g 0 [some (vr (some (b + 0))), some (vi (nI t)), some (vi v)] [] _ _ N 0 0
  refine G_aload_n 0 hC rfl dX12_failed_0 ?_
  refine G_iload_n 1 hC rfl dX12_failed_1 ?_
  refine G_iconst 2 hC (nI 1) (by decide) dX12_failed_2 ?_
  refine G_iload_n 3 hC rfl dX12_failed_3 ?_
  refine G_callV0 4 hC (ref_set hF (by omega) (by omega)) okX12_set lk_X12_154 ((hF.sh (o := 0) rfl (by decide)).1) rfl rfl rfl rfl (by decide) (by decide) (by decide) dX12_failed_4 ?_
  refine G_iconst 7 hC (nI 3) (by decide) dX12_failed_7 ?_
  refine R_i 8 hR (by first | rfl | exact narrow_bI _) dX12_failed_8 (Nat.le_refl _) (Nat.le_refl _) ?_
  exact ⟨rfl, rfl, rfl, rfl⟩
theorem ref_worth {v : Int64} : Cq l D B mX12_worth [vl v] I L N (some (vl (F_worth v))) I L := by
  refine Ct.of (M := mX12_worth) (by decide) (Nat.le_of_ble_eq_true rfl) (fun g (hR : Cr l D B RX12 cX12_worth 2 "worth" { frames := 0, cells := 0, slots := 0, locals := 0 } (some .long) 0 0 _ g) => ?_)
  have hC := hR.cx
  show g 0 [some (vl v), none] [] _ _ N 0 0
  refine G_lload_n 0 hC rfl dX12_worth_0 ?_
  refine G_lconst 1 hC 0 (by decide) dX12_worth_1 ?_
  refine G_lcmp 2 hC dX12_worth_2 ?_
  refine G_if_gt 3 10 hC dX12_worth_3 (by decide) (fun h3 => ?_) (fun h3 => ?_)
  · refine G_lload_n 10 hC rfl dX12_worth_10 ?_
    refine G_ldc2 11 hC kc_X12_158 dX12_worth_11 ?_
    refine G_lcmp 14 hC dX12_worth_14 ?_
    refine G_if_le 15 24 hC dX12_worth_15 (by decide) (fun h15 => ?_) (fun h15 => ?_)
    · refine G_lload_n 24 hC rfl dX12_worth_24 ?_
      refine R_l 25 hR dX12_worth_25 (Nat.le_refl _) (Nat.le_refl _) ?_
      refine ⟨?_, rfl, rfl, rfl⟩
      clear hR hC
      unfold F_worth
      simp only [lg_cmp_gt, lg_cmp_le] at *
      grind
    · refine G_ldc2 18 hC kc_X12_158 dX12_worth_18 ?_
      refine G_goto 21 25 hC dX12_worth_21 (by decide) ?_
      refine R_l 25 hR dX12_worth_25 (Nat.le_refl _) (Nat.le_refl _) ?_
      refine ⟨?_, rfl, rfl, rfl⟩
      clear hR hC
      unfold F_worth
      simp only [lg_cmp_gt, lg_cmp_le] at *
      grind
  · refine G_lconst 6 hC 0 (by decide) dX12_worth_6 ?_
    refine G_goto 7 25 hC dX12_worth_7 (by decide) ?_
    refine R_l 25 hR dX12_worth_25 (Nat.le_refl _) (Nat.le_refl _) ?_
    refine ⟨?_, rfl, rfl, rfl⟩
    clear hR hC
    unfold F_worth
    simp only [lg_cmp_gt, lg_cmp_le] at *
    grind
theorem ref_asKind {k : Nat} {v : Int64} (hk : k ≤ 5) : Cq l D B mX12_asKind [vi (nI k), vl v] I L N (some (vl (F_ak k v))) I L := by
  refine Ct.of (M := mX12_asKind) (by decide) (Nat.le_of_ble_eq_true rfl) (fun g (hR : Cr l D B RX12 cX12_asKind 3 "asKind" { frames := 0, cells := 0, slots := 0, locals := 0 } (some .long) 0 0 _ g) => ?_)
  have hC := hR.cx
  show g 0 [some (vi (nI k)), some (vl v), none] [] _ _ N 0 0
  refine G_iload_n 0 hC rfl dX12_asKind_0 ?_
  rcases (show k = 0 ∨ k = 1 ∨ k = 2 ∨ k = 3 ∨ k = 4 ∨ k = 5 by omega) with rfl | rfl | rfl | rfl | rfl | rfl
  · refine G_tableIn 1 35 36 hC dX12_asKind_1 (by decide) (by decide) rfl (by decide) ?_
    refine G_lload_n 36 hC rfl dX12_asKind_36 ?_
    refine G_l2i 37 hC dX12_asKind_37 ?_
    refine G_i2b 38 hC dX12_asKind_38 ?_
    refine G_i2l 39 hC dX12_asKind_39 ?_
    refine R_l 40 hR dX12_asKind_40 (Nat.le_refl _) (Nat.le_refl _) ?_
    exact ⟨rfl, rfl, rfl, rfl⟩
  · refine G_tableIn 1 40 41 hC dX12_asKind_1 (by decide) (by decide) rfl (by decide) ?_
    refine G_lload_n 41 hC rfl dX12_asKind_41 ?_
    refine G_l2i 42 hC dX12_asKind_42 ?_
    refine G_i2s 43 hC dX12_asKind_43 ?_
    refine G_i2l 44 hC dX12_asKind_44 ?_
    refine R_l 45 hR dX12_asKind_45 (Nat.le_refl _) (Nat.le_refl _) ?_
    exact ⟨rfl, rfl, rfl, rfl⟩
  · refine G_tableIn 1 45 46 hC dX12_asKind_1 (by decide) (by decide) rfl (by decide) ?_
    refine G_lload_n 46 hC rfl dX12_asKind_46 ?_
    refine G_l2i 47 hC dX12_asKind_47 ?_
    refine G_i2l 48 hC dX12_asKind_48 ?_
    refine R_l 49 hR dX12_asKind_49 (Nat.le_refl _) (Nat.le_refl _) ?_
    exact ⟨rfl, rfl, rfl, rfl⟩
  · refine G_tableIn 1 49 50 hC dX12_asKind_1 (by decide) (by decide) rfl (by decide) ?_
    refine G_lload_n 50 hC rfl dX12_asKind_50 ?_
    refine R_l 51 hR dX12_asKind_51 (Nat.le_refl _) (Nat.le_refl _) ?_
    exact ⟨rfl, rfl, rfl, rfl⟩
  · refine G_tableIn 1 51 52 hC dX12_asKind_1 (by decide) (by decide) rfl (by decide) ?_
    refine G_ldcf 52 hC kc_X12_130 dX12_asKind_52 ?_
    refine G_lload_n 54 hC rfl dX12_asKind_54 ?_
    refine G_l2f 55 hC dX12_asKind_55 ?_
    refine G_ldcf 56 hC kc_X12_130 dX12_asKind_56 ?_
    refine G_fdiv 58 hC (fp_n32 (fp_fdiv v)) dX12_asKind_58 ?_
    refine G_fmul 59 hC (fp_n32 (fp_fmul v)) dX12_asKind_59 ?_
    refine G_f2l 60 hC dX12_asKind_60 ?_
    refine R_l 61 hR dX12_asKind_61 (Nat.le_refl _) (Nat.le_refl _) ?_
    exact ⟨rfl, rfl, rfl, rfl⟩
  · refine G_tableOut 1 62 hC dX12_asKind_1 (by decide) (by decide) ?_
    refine G_ldc2d 62 hC kc_X12_131 dX12_asKind_62 ?_
    refine G_lload_n 65 hC rfl dX12_asKind_65 ?_
    refine G_l2d 66 hC dX12_asKind_66 ?_
    refine G_ldc2d 67 hC kc_X12_131 dX12_asKind_67 ?_
    refine G_ddiv 70 hC (fp_n64 (fp_ddiv v)) dX12_asKind_70 ?_
    refine G_dmul 71 hC (fp_n64 (fp_dmul v)) dX12_asKind_71 ?_
    refine G_d2l 72 hC dX12_asKind_72 ?_
    refine R_l 73 hR dX12_asKind_73 (Nat.le_refl _) (Nat.le_refl _) ?_
    exact ⟨rfl, rfl, rfl, rfl⟩
theorem ref_against (hF : FixR b N) {g0 sz : Nat} {i k : Int32} (hg : g0 < 6) (h2 : r 2 g0 = nI sz) (hz : sz ≤ 12) (hpl : PlOk r g0 sz) : Cq l D B mX12_against [vr (some (b + 0)), vi (nI g0), vi i, vi k] (pt b 26 r G) L N (some (vi (F_ag r g0 i k))) (pt b 26 r G) L := by
  refine Ct.of (M := mX12_against) (by decide) (Nat.le_of_ble_eq_true rfl) (fun g (hR : Cr l D B RX12 cX12_against 5 "against" { frames := 2, cells := 0, slots := 0, locals := 44 } (some .int) 0 0 _ g) => ?_)
  have hC := hR.cx
  show g 0 [some (vr (some (b + 0))), some (vi (nI g0)), some (vi i), some (vi k), none] [] _ _ N 0 0
  refine G_aload_n 0 hC rfl dX12_against_0 ?_
  refine G_iload_n 1 hC rfl dX12_against_1 ?_
  refine G_iload_n 2 hC rfl dX12_against_2 ?_
  refine G_callV1 3 hC (ref_isLine hF hg h2 (by omega)) okX12_isLine lk_X12_126 ((hF.sh (o := 0) rfl (by decide)).1) rfl rfl rfl rfl (by decide) (by decide) (by decide) dX12_against_3 ?_
  first | refine G_if_ne_b 6 11 hC dX12_against_6 (by decide) (fun h6 => ?_) (fun h6 => ?_) | refine G_if_ne 6 11 hC dX12_against_6 (by decide) (fun h6 => ?_) (fun h6 => ?_)
  · obtain ⟨i1, hi1, rfl⟩ := inR_of h6 (by omega)
    refine G_aload_n 11 hC rfl dX12_against_11 ?_
    refine M_getR 12 hC hF fl_X12_16_11 rfl rfl dX12_against_12 ?_
    refine G_bipush 15 hC (nI 20) (by decide) dX12_against_15 ?_
    refine G_iload_n 17 hC rfl dX12_against_17 ?_
    refine G_imulN 18 hC dX12_against_18 ?_
    refine G_iload_n 19 hC rfl dX12_against_19 ?_
    refine G_iaddN 20 hC dX12_against_20 ?_
    refine M_iald 21 hC hF rfl (by decide) (by first | rfl | exact hp) (by omega) dX12_against_21 ?_
    refine G_istore 22 hC (by decide) (ls' := [_, _, _, _, _]) rfl dX12_against_22 ?_
    refine G_iload 24 hC rfl dX12_against_24 ?_
    refine G_if_ge 26 33 hC dX12_against_26 (by decide) (fun h26 => ?_) (fun h26 => ?_)
    · rcases hpl i1 hi1 with hp | ⟨p, hp0, hp, q, hq0, hq⟩
      · exact absurd h26 (by rw [hp]; decide)
      refine G_iload_n 33 hC rfl dX12_against_33 ?_
      refine G_iconst 34 hC (nI 0) (by decide) dX12_against_34 ?_
      refine G_aload_n 35 hC rfl dX12_against_35 ?_
      refine M_getR 36 hC hF fl_X12_19_11 rfl rfl dX12_against_36 ?_
      refine G_iload 39 hC rfl dX12_against_39 ?_
      refine M_iald 41 hC hF rfl (by decide) (by first | rfl | exact hp) (by omega) dX12_against_41 ?_
      refine G_iconst 42 hC (nI 1) (by decide) dX12_against_42 ?_
      refine G_isub 43 hC dX12_against_43 ?_
      refine G_callS1 44 hC (ref_in) okX12_in lk_X12_107 rfl rfl rfl (by decide) (by decide) (by decide) dX12_against_44 ?_
      first | refine G_if_eq_b 47 54 hC dX12_against_47 (by decide) (fun h47 => ?_) (fun h47 => ?_) | refine G_if_eq 47 54 hC dX12_against_47 (by decide) (fun h47 => ?_) (fun h47 => ?_)
      · refine G_iconst 54 hC (nI 2) (by decide) dX12_against_54 ?_
        refine R_i 55 hR (by first | rfl | exact narrow_bI _) dX12_against_55 (Nat.le_refl _) (Nat.le_refl _) ?_
        refine ⟨?_, rfl, rfl, rfl⟩
        first | (rw [F_ag_out h2 hz h6]; done) | (rw [F_ag_mi h2 hz hi1 hp]; done) | (rw [F_ag_ln h2 hz hi1 hp0 hp hq0 hq, if_pos ((in_inR (by omega)).mp (hq ▸ h47))]; done) | (rw [F_ag_ln h2 hz hi1 hp0 hp hq0 hq, if_neg (fun z => h47 (hq.symm ▸ (in_inR (by omega)).mpr z))]; done)
      · refine G_iconst 50 hC (nI 0) (by decide) dX12_against_50 ?_
        refine G_goto 51 55 hC dX12_against_51 (by decide) ?_
        refine R_i 55 hR (by first | rfl | exact narrow_bI _) dX12_against_55 (Nat.le_refl _) (Nat.le_refl _) ?_
        refine ⟨?_, rfl, rfl, rfl⟩
        first | (rw [F_ag_out h2 hz h6]; done) | (rw [F_ag_mi h2 hz hi1 hp]; done) | (rw [F_ag_ln h2 hz hi1 hp0 hp hq0 hq, if_pos ((in_inR (by omega)).mp (hq ▸ h47))]; done) | (rw [F_ag_ln h2 hz hi1 hp0 hp hq0 hq, if_neg (fun z => h47 (hq.symm ▸ (in_inR (by omega)).mpr z))]; done)
    · rcases hpl i1 hi1 with hp | ⟨p, hp0, hp, q, hq0, hq⟩
      rotate_left
      · exact absurd (by rw [hp]; exact nI_pos' (by omega)) h26
      refine G_iconst 29 hC (nI 1) (by decide) dX12_against_29 ?_
      refine G_goto 30 55 hC dX12_against_30 (by decide) ?_
      refine R_i 55 hR (by first | rfl | exact narrow_bI _) dX12_against_55 (Nat.le_refl _) (Nat.le_refl _) ?_
      refine ⟨?_, rfl, rfl, rfl⟩
      first | (rw [F_ag_out h2 hz h6]; done) | (rw [F_ag_mi h2 hz hi1 hp]; done) | (rw [F_ag_ln h2 hz hi1 hp0 hp hq0 hq, if_pos ((in_inR (by omega)).mp (hq ▸ h47))]; done) | (rw [F_ag_ln h2 hz hi1 hp0 hp hq0 hq, if_neg (fun z => h47 (hq.symm ▸ (in_inR (by omega)).mpr z))]; done)
  · refine G_iconst 9 hC (nI 2) (by decide) dX12_against_9 ?_
    refine R_i 10 hR (by first | rfl | exact narrow_bI _) dX12_against_10 (Nat.le_refl _) (Nat.le_refl _) ?_
    refine ⟨?_, rfl, rfl, rfl⟩
    first | (rw [F_ag_out h2 hz h6]; done) | (rw [F_ag_mi h2 hz hi1 hp]; done) | (rw [F_ag_ln h2 hz hi1 hp0 hp hq0 hq, if_pos ((in_inR (by omega)).mp (hq ▸ h47))]; done) | (rw [F_ag_ln h2 hz hi1 hp0 hp hq0 hq, if_neg (fun z => h47 (hq.symm ▸ (in_inR (by omega)).mpr z))]; done)
theorem ref_lineFault (hF : FixR b N) {s0 g0 sz : Nat} {i : Int32} (hs : s0 < 8) (hsg : r 15 s0 = nI g0) (hg : g0 < 6) (h2 : r 2 g0 = nI sz) (hz : sz ≤ 12) (hpl : PlOk r g0 sz) : Cq l D B mX12_lineFault [vr (some (b + 0)), vi (nI s0), vi i] (pt b 26 r G) L N (some (vi (F_lf r s0 g0 i))) (pt b 26 r G) L := by
  refine Ct.of (M := mX12_lineFault) (by decide) (Nat.le_of_ble_eq_true rfl) (fun g (hR : Cr l D B RX12 cX12_lineFault 4 "lineFault" { frames := 2, cells := 0, slots := 0, locals := 44 } (some .int) 0 0 _ g) => ?_)
  have hC := hR.cx
  show g 0 [some (vr (some (b + 0))), some (vi (nI s0)), some (vi i), none] [] _ _ N 0 0
  refine G_aload_n 0 hC rfl dX12_lineFault_0 ?_
  refine M_getR 1 hC hF fl_X12_53_11 rfl rfl dX12_lineFault_1 ?_
  refine G_iload_n 4 hC rfl dX12_lineFault_4 ?_
  refine M_iald 5 hC hF rfl (by decide) rfl (by omega) dX12_lineFault_5 ?_
  refine G_istore_n 6 hC 3 rfl (by decide) (ls' := [_, _, _, _]) rfl dX12_lineFault_6 ?_
  rw [hsg]
  refine G_aload_n 7 hC rfl dX12_lineFault_7 ?_
  refine M_getR 8 hC hF fl_X12_7_11 rfl rfl dX12_lineFault_8 ?_
  refine G_iload_n 11 hC rfl dX12_lineFault_11 ?_
  refine M_iald 12 hC hF rfl (by decide) rfl (by omega) dX12_lineFault_12 ?_
  refine G_aload_n 13 hC rfl dX12_lineFault_13 ?_
  refine M_getR 14 hC hF fl_X12_56_11 rfl rfl dX12_lineFault_14 ?_
  refine G_iload_n 17 hC rfl dX12_lineFault_17 ?_
  refine M_iald 18 hC hF rfl (by decide) rfl (by omega) dX12_lineFault_18 ?_
  refine G_icmp_eq 19 26 hC dX12_lineFault_19 (by decide) (fun h19 => ?_) (fun h19 => ?_)
  · refine G_aload_n 26 hC rfl dX12_lineFault_26 ?_
    refine G_iload_n 27 hC rfl dX12_lineFault_27 ?_
    refine G_iload_n 28 hC rfl dX12_lineFault_28 ?_
    refine G_callV1 29 hC (ref_isLine hF (g0 := g0) hg h2 (by omega)) okX12_isLine lk_X12_126 ((hF.sh (o := 0) rfl (by decide)).1) rfl rfl rfl rfl (by decide) (by decide) (by decide) dX12_lineFault_29 ?_
    first | refine G_if_ne_b 32 39 hC dX12_lineFault_32 (by decide) (fun h32 => ?_) (fun h32 => ?_) | refine G_if_ne 32 39 hC dX12_lineFault_32 (by decide) (fun h32 => ?_) (fun h32 => ?_)
    · obtain ⟨i1, hi1, rfl⟩ := inR_of h32 (by omega)
      refine G_aload_n 39 hC rfl dX12_lineFault_39 ?_
      refine M_getR 40 hC hF fl_X12_16_11 rfl rfl dX12_lineFault_40 ?_
      refine G_bipush 43 hC (nI 20) (by decide) dX12_lineFault_43 ?_
      refine G_iload_n 45 hC rfl dX12_lineFault_45 ?_
      refine G_imulN 46 hC dX12_lineFault_46 ?_
      refine G_iload_n 47 hC rfl dX12_lineFault_47 ?_
      refine G_iaddN 48 hC dX12_lineFault_48 ?_
      refine M_iald 49 hC hF rfl (by decide) rfl (by omega) dX12_lineFault_49 ?_
      refine G_if_ge 50 57 hC dX12_lineFault_50 (by decide) (fun h50 => ?_) (fun h50 => ?_)
      · refine G_iconst 57 hC (nI 0) (by decide) dX12_lineFault_57 ?_
        refine R_i 58 hR (by first | rfl | exact narrow_bI _) dX12_lineFault_58 (Nat.le_refl _) (Nat.le_refl _) ?_
        refine ⟨?_, rfl, rfl, rfl⟩
        unfold F_lf
        first | (rw [if_pos h19]; done) | (rw [if_neg (by simpa using h19), h2, nI_clamp (by omega), if_pos h32]; done) | (rw [if_neg (by simpa using h19), h2, nI_clamp (by omega), if_neg (by simpa using h32), nI_clamp (by omega)]; first | (rw [if_neg (by simpa using h50)]; done) | (rw [if_pos (by simpa using h50)]; done))
      · refine G_iconst 53 hC (nI 1) (by decide) dX12_lineFault_53 ?_
        refine G_goto 54 58 hC dX12_lineFault_54 (by decide) ?_
        refine R_i 58 hR (by first | rfl | exact narrow_bI _) dX12_lineFault_58 (Nat.le_refl _) (Nat.le_refl _) ?_
        refine ⟨?_, rfl, rfl, rfl⟩
        unfold F_lf
        first | (rw [if_pos h19]; done) | (rw [if_neg (by simpa using h19), h2, nI_clamp (by omega), if_pos h32]; done) | (rw [if_neg (by simpa using h19), h2, nI_clamp (by omega), if_neg (by simpa using h32), nI_clamp (by omega)]; first | (rw [if_neg (by simpa using h50)]; done) | (rw [if_pos (by simpa using h50)]; done))
    · refine G_iconst 35 hC (nI 2) (by decide) dX12_lineFault_35 ?_
      refine G_goto 36 58 hC dX12_lineFault_36 (by decide) ?_
      refine R_i 58 hR (by first | rfl | exact narrow_bI _) dX12_lineFault_58 (Nat.le_refl _) (Nat.le_refl _) ?_
      refine ⟨?_, rfl, rfl, rfl⟩
      unfold F_lf
      first | (rw [if_pos h19]; done) | (rw [if_neg (by simpa using h19), h2, nI_clamp (by omega), if_pos h32]; done) | (rw [if_neg (by simpa using h19), h2, nI_clamp (by omega), if_neg (by simpa using h32), nI_clamp (by omega)]; first | (rw [if_neg (by simpa using h50)]; done) | (rw [if_pos (by simpa using h50)]; done))
  · refine G_iconst 22 hC (nI 3) (by decide) dX12_lineFault_22 ?_
    refine G_goto 23 58 hC dX12_lineFault_23 (by decide) ?_
    refine R_i 58 hR (by first | rfl | exact narrow_bI _) dX12_lineFault_58 (Nat.le_refl _) (Nat.le_refl _) ?_
    refine ⟨?_, rfl, rfl, rfl⟩
    unfold F_lf
    first | (rw [if_pos h19]; done) | (rw [if_neg (by simpa using h19), h2, nI_clamp (by omega), if_pos h32]; done) | (rw [if_neg (by simpa using h19), h2, nI_clamp (by omega), if_neg (by simpa using h32), nI_clamp (by omega)]; first | (rw [if_neg (by simpa using h50)]; done) | (rw [if_pos (by simpa using h50)]; done))
end M2
end
section
/-! ===== the reference in a run: row 20 ('now') is n, row 22 ('great') is q, the field 'sum' is S; all else stays ===== -/
abbrev RI (b : Nat) (r : MI) (n : Nat → Int32) (G : MI) : MI := pt b 26 (up r 20 n) G
abbrev RLg (b : Nat) (rl : ML) (S : Int64) (q : Nat → Int64) (GL : ML) : ML := pt b 26 (up (upd2 rl 0 33 S) 22 q) GL
theorem up_up {α : Type} (f : Nat → α) (k : Nat) (v w : α) : up (up f k v) k w = up f k w := by
  funext j; by_cases h : j = k <;> simp [up, h]
theorem up_upd2 {α : Type} (f : Nat → Nat → α) (a j : Nat) (n : Nat → α) (v : α) : upd2 (up f a n) a j v = up f a (up n j v) := by
  unfold upd2; rw [up_s, up_up]
theorem up_upd2n {α : Type} (f : Nat → Nat → α) {a c j : Nat} (n : Nat → α) (v : α) (h : a ≠ c) : upd2 (up f a n) c j v = up (upd2 f c j v) a n := by
  funext x
  unfold upd2
  by_cases h1 : x = c
  · subst h1
    rw [up_s, up_n _ _ (fun q => h q.symm), up_n _ _ (fun q => h q.symm), up_s]
  · rw [up_n _ _ h1]
    by_cases h2 : x = a
    · subst h2; rw [up_s, up_s]
    · rw [up_n _ _ h2, up_n _ _ h2, up_n _ _ h1]
theorem up_ne {α : Type} {f : Nat → α} {k j : Nat} {v : α} (h : j ≠ k) : up f k v j = f j := up_n f v h
theorem upd2_same {α : Type} (f : Nat → Nat → α) (a j : Nat) : upd2 f a j (f a j) = f := by
  funext x
  unfold upd2
  by_cases h1 : x = a
  · subst h1; rw [up_s]; funext y; by_cases h2 : y = j <;> simp [up, h2]
  · rw [up_n _ _ h1]
theorem upd2_upd2 {α : Type} (f : Nat → Nat → α) (a j : Nat) (v w : α) : upd2 (upd2 f a j v) a j w = upd2 f a j w := by
  unfold upd2; rw [up_s, up_up, up_up]
section RUN
variable {l : Launch} {D : va_G} {B : Nat} {own : String} {cc : ByteArray} {nL : Nat} {mn : String} {R : Room} {g : GT} {ls ls' : List (Option MV)} {st st0 : List MV} {r G : MI} {n : Nat → Int32} {rl GL : ML} {S : Int64} {q : Nat → Int64} {N : NT} {kc ks b : Nat} {I : MI} {L : ML}
theorem N_getI (pc : Nat) (hC : Cx l D B own cc nL mn R g) (hF : FixR b N) {idx j : Nat} (hf : FL own idx 11 j) (ht : fty 11 j = 0) (hd : decode cc pc = .ok (.getfield idx, 3)) (kk : g (pc + 3) ls (vi (r 0 j) :: st) (RI b r n G) L N kc ks) : g pc ls (vr (some (b + 0)) :: st) (RI b r n G) L N kc ks := M_getI pc hC hF hf ht hd kk
theorem N_thr (pc : Nat) (hC : Cx l D B own cc nL mn R g) (hF : FixR b N) {idx : Nat} (h0 : r 0 0 = nI 0) (hf : FP own mn idx 11 0 .int) (hd : decode cc pc = .ok (.putfield idx, 3)) (kk : g (pc + 3) ls st (pt b 26 r G) L N kc ks) : g pc ls (vi (nI 0) :: vr (some (b + 0)) :: st) (pt b 26 r G) L N kc ks := M_putI pc hC hF hf rfl hd (by rw [← h0, upd2_same]; exact kk)
theorem N_iald (pc : Nat) (hC : Cx l D B own cc nL mn R g) (hF : FixR b N) {j : Nat} {i : Int32} (hi : i = nI j) (hj : j < 310) (hd : decode cc pc = .ok (.iaload, 1)) (kk : g (pc + 1) ls (vi (n j) :: st) (RI b r n G) L N kc ks) : g pc ls (vi i :: vr (some (b + 20)) :: st) (RI b r n G) L N kc ks := M_iald pc hC hF (o := 20) (n := 310) rfl (by decide) hi hj hd kk
theorem N_ialdO (pc : Nat) (hC : Cx l D B own cc nL mn R g) (hF : FixR b N) {o z j : Nat} {i : Int32} (hs : shR o = (12, z)) (ho : o ≠ 20) (hn : z < 2 ^ 31) (hi : i = nI j) (hj : j < z) (hd : decode cc pc = .ok (.iaload, 1)) (kk : g (pc + 1) ls (vi (r o j) :: st) (RI b r n G) L N kc ks) : g pc ls (vi i :: vr (some (b + o)) :: st) (RI b r n G) L N kc ks := M_iald pc hC hF hs hn hi hj hd (by rw [up_n _ _ ho]; exact kk)
theorem N_iast (pc : Nat) (hC : Cx l D B own cc nL mn R g) (hF : FixR b N) {j : Nat} {i x : Int32} (hi : i = nI j) (hj : j < 310) (hd : decode cc pc = .ok (.iastore, 1)) (kk : g (pc + 1) ls st (RI b r (up n j x) G) L N kc ks) : g pc ls (vi x :: vi i :: vr (some (b + 20)) :: st) (RI b r n G) L N kc ks := M_iast pc hC hF (o := 20) (n := 310) rfl (by decide) hi hj hd (by rw [up_upd2]; exact kk)
theorem Q_lald (pc : Nat) (hC : Cx l D B own cc nL mn R g) (hF : FixR b N) {j : Nat} {i : Int32} (hi : i = nI j) (hj : j < 36) (hd : decode cc pc = .ok (.laload, 1)) (kk : g (pc + 1) ls (vl (q j) :: st) I (RLg b rl S q GL) N kc ks) : g pc ls (vi i :: vr (some (b + 22)) :: st) I (RLg b rl S q GL) N kc ks := M_lald pc hC hF (o := 22) (n := 36) rfl (by decide) hi hj hd kk
theorem Q_laldO (pc : Nat) (hC : Cx l D B own cc nL mn R g) (hF : FixR b N) {o z j : Nat} {i : Int32} (hs : shR o = (13, z)) (ho : o ≠ 22) (ho2 : o ≠ 0) (hn : z < 2 ^ 31) (hi : i = nI j) (hj : j < z) (hd : decode cc pc = .ok (.laload, 1)) (kk : g (pc + 1) ls (vl (rl o j) :: st) I (RLg b rl S q GL) N kc ks) : g pc ls (vi i :: vr (some (b + o)) :: st) I (RLg b rl S q GL) N kc ks := M_lald pc hC hF hs hn hi hj hd (by rw [up_n _ _ ho, upd2_ne ho2]; exact kk)
theorem Q_last (pc : Nat) (hC : Cx l D B own cc nL mn R g) (hF : FixR b N) {j : Nat} {i : Int32} {x : Int64} (hi : i = nI j) (hj : j < 36) (hd : decode cc pc = .ok (.lastore, 1)) (kk : g (pc + 1) ls st I (RLg b rl S (up q j x) GL) N kc ks) : g pc ls (vl x :: vi i :: vr (some (b + 22)) :: st) I (RLg b rl S q GL) N kc ks := M_last pc hC hF (o := 22) (n := 36) rfl (by decide) hi hj hd (by rw [up_upd2]; exact kk)
theorem Q_getL (pc : Nat) (hC : Cx l D B own cc nL mn R g) (hF : FixR b N) {idx : Nat} (hf : FL own idx 11 33) (hd : decode cc pc = .ok (.getfield idx, 3)) (kk : g (pc + 3) ls (vl S :: st) I (RLg b rl S q GL) N kc ks) : g pc ls (vr (some (b + 0)) :: st) I (RLg b rl S q GL) N kc ks := M_getL pc hC hF hf rfl hd (by rw [up_n _ _ (by decide), upd2_row, up_s]; exact kk)
theorem Q_putL (pc : Nat) (hC : Cx l D B own cc nL mn R g) (hF : FixR b N) {idx : Nat} {x : Int64} (hf : FP own mn idx 11 33 .long) (hd : decode cc pc = .ok (.putfield idx, 3)) (kk : g (pc + 3) ls st I (RLg b rl x q GL) N kc ks) : g pc ls (vl x :: vr (some (b + 0)) :: st) I (RLg b rl S q GL) N kc ks := M_putL pc hC hF hf rfl hd (by rw [up_upd2n _ _ _ (by decide), upd2_upd2]; exact kk)
theorem n_at (hF : FixR b N) {t w : Nat} (ht : t < 20) (hw : w < 12) : Cq l D B mX12_at [vr (some (b + 0)), vi (nI t), vi (nI w)] (RI b r n G) L N (some (vi (n (12 * t + w)))) (RI b r n G) L := ref_at hF ht hw
theorem n_set (hF : FixR b N) {t w : Nat} {v : Int32} (ht : t < 20) (hw : w < 12) : Cq l D B mX12_set [vr (some (b + 0)), vi (nI t), vi (nI w), vi v] (RI b r n G) L N none (RI b r (up n (12 * t + w) v) G) L := by
  have h := ref_set (l := l) (D := D) (B := B) (r := up r 20 n) (G := G) (L := L) hF ht hw (v := v)
  rw [up_upd2] at h; exact h
theorem n_more (hF : FixR b N) {t w : Nat} (ht : t < 20) (hw : w < 12) : Cq l D B mX12_more [vr (some (b + 0)), vi (nI t), vi (nI w)] (RI b r n G) L N none (RI b r (up n (12 * t + w) (n (12 * t + w) + nI 1)) G) L := by
  have h := ref_more (l := l) (D := D) (B := B) (r := up r 20 n) (G := G) (L := L) hF ht hw
  rw [up_upd2, up_s] at h; exact h
theorem n_failed (hF : FixR b N) {t : Nat} {v : Int32} (ht : t < 20) : Cq l D B mX12_failed [vr (some (b + 0)), vi (nI t), vi v] (RI b r n G) L N (some (vi (nI 3))) (RI b r (up n (12 * t + 1) v) G) L := by
  have h := ref_failed (l := l) (D := D) (B := B) (r := up r 20 n) (G := G) (L := L) hF ht (v := v)
  rw [up_upd2] at h; exact h
end RUN
end
section
/-! ===== the reference's methods of a run ===== -/
def F_notes (n : Nat → Int32) (k : Nat) (v : Int32) : Nat → Int32 := up (up n (262 + k) v) 244 (nI (k + 1))
def F_ends (r : MI) (n : Nat → Int32) (t : Nat) (v : Int32) (h k : Nat) : Nat → Int32 :=
  F_notes (up (up (up (up (up n (12 * t + 0) v) 242 (n 242 + r 10 t)) (250 + h) (-9)) (256 + h) (n (256 + h) + nI 1)) 247 (n 247 - nI 1)) k (nI (100 * t + 10 * h) + v)
def F_falls (n : Nat → Int32) (t : Nat) (v : Int32) : Nat → Int32 := up (up (up n (12 * t + 0) v) 247 (n 247 - nI 1)) 248 (n 248 - nI 1)
def F_better (n : Nat → Int32) (q : Nat → Int64) (s i : Nat) (v : Int64) : Prop := n (302 + s) = -9 ∨ v < q (20 + s) ∨ (q (20 + s) = v ∧ nI i < n (302 + s))
noncomputable def F_finds (n : Nat → Int32) (q : Nat → Int64) (s i : Nat) (v : Int64) : (Nat → Int32) × (Nat → Int64) := @ite _ (F_better n q s i v) (Classical.propDecidable _) (up n (302 + s) (nI i), up (up q (20 + s) v) (28 + s) v) (n, q)
theorem F_finds_t {n : Nat → Int32} {q : Nat → Int64} {s i : Nat} {v : Int64} (h : F_better n q s i v) : F_finds n q s i v = (up n (302 + s) (nI i), up (up q (20 + s) v) (28 + s) v) := by unfold F_finds; rw [if_pos h]
theorem F_finds_f {n : Nat → Int32} {q : Nat → Int64} {s i : Nat} {v : Int64} (h : ¬ F_better n q s i v) : F_finds n q s i v = (n, q) := by unfold F_finds; rw [if_neg h]
section M3
variable {l : Launch} {D : va_G} {B b : Nat} {N : NT} {r G : MI} {rl GL : ML} {n : Nat → Int32} {q : Nat → Int64} {S : Int64} {I : MI} {L : ML}
theorem n_notes (hF : FixR b N) {k : Nat} {v : Int32} (hk : n 244 = nI k) (hk2 : k < 40) : Cq l D B mX12_notes [vr (some (b + 0)), vi v] (RI b r n G) L N none (RI b r (F_notes n k v) G) L := by
  refine Ct.of (M := mX12_notes) (by decide) (Nat.le_of_ble_eq_true rfl) (fun g (hR : Cr l D B RX12 cX12_notes 2 "notes" { frames := 0, cells := 0, slots := 0, locals := 0 } none 0 0 _ g) => ?_)
  have hC := hR.cx
  show g 0 [some (vr (some (b + 0))), some (vi v)] [] _ _ N 0 0
  refine G_aload_n 0 hC rfl dX12_notes_0 ?_
  refine M_getR 1 hC hF fl_X12_68_11 rfl rfl dX12_notes_1 ?_
  refine G_sipush 4 hC (nI 262) (by decide) dX12_notes_4 ?_
  refine G_aload_n 7 hC rfl dX12_notes_7 ?_
  refine M_getR 8 hC hF fl_X12_68_11 rfl rfl dX12_notes_8 ?_
  refine G_sipush 11 hC (nI 244) (by decide) dX12_notes_11 ?_
  refine N_iald 14 hC hF rfl (by omega) dX12_notes_14 ?_
  refine G_iadd 15 hC dX12_notes_15 ?_
  refine G_iload_n 16 hC rfl dX12_notes_16 ?_
  refine N_iast 17 hC hF (by rw [hk, nI_add]) (by omega) dX12_notes_17 ?_
  refine G_aload_n 18 hC rfl dX12_notes_18 ?_
  refine M_getR 19 hC hF fl_X12_68_11 rfl rfl dX12_notes_19 ?_
  refine G_sipush 22 hC (nI 244) (by decide) dX12_notes_22 ?_
  first | refine G_dup2 25 hC rfl rfl dX12_notes_25 ?_ | refine G_dup2L 25 hC dX12_notes_25 ?_
  refine N_iald 26 hC hF rfl (by omega) dX12_notes_26 ?_
  refine G_iconst 27 hC (nI 1) (by decide) dX12_notes_27 ?_
  refine G_iadd 28 hC dX12_notes_28 ?_
  refine N_iast 29 hC hF rfl (by omega) dX12_notes_29 ?_
  refine R_v 30 hR dX12_notes_30 (Nat.le_refl _) (Nat.le_refl _) ?_
  refine ⟨rfl, ?_, rfl, rfl⟩
  unfold F_notes
  rw [up_ne (show 244 ≠ 262 + k by omega), hk, nI_add]
theorem n_ends (hF : FixR b N) {t h k : Nat} {v : Int32} (ht : t < 20) (hh : h < 6) (hk : n 244 = nI k) (hk2 : k < 40) : Cq l D B mX12_ends [vr (some (b + 0)), vi (nI t), vi v, vi (nI h)] (RI b r n G) L N none (RI b r (F_ends r n t v h k) G) L := by
  refine Ct.of (M := mX12_ends) (by decide) (Nat.le_of_ble_eq_true rfl) (fun g (hR : Cr l D B RX12 cX12_ends 4 "ends" { frames := 1, cells := 0, slots := 0, locals := 23 } none 0 0 _ g) => ?_)
  have hC := hR.cx
  show g 0 [some (vr (some (b + 0))), some (vi (nI t)), some (vi v), some (vi (nI h))] [] _ _ N 0 0
  refine G_aload_n 0 hC rfl dX12_ends_0 ?_
  refine G_iload_n 1 hC rfl dX12_ends_1 ?_
  refine G_iconst 2 hC (nI 0) (by decide) dX12_ends_2 ?_
  refine G_iload_n 3 hC rfl dX12_ends_3 ?_
  refine G_callV0 4 hC (n_set hF (by omega) (by omega)) okX12_set lk_X12_154 ((hF.sh (o := 0) rfl (by decide)).1) rfl rfl rfl rfl (by decide) (by decide) (by decide) dX12_ends_4 ?_
  refine G_aload_n 7 hC rfl dX12_ends_7 ?_
  refine M_getR 8 hC hF fl_X12_68_11 rfl rfl dX12_ends_8 ?_
  refine G_sipush 11 hC (nI 242) (by decide) dX12_ends_11 ?_
  first | refine G_dup2 14 hC rfl rfl dX12_ends_14 ?_ | refine G_dup2L 14 hC dX12_ends_14 ?_
  refine N_iald 15 hC hF rfl (by omega) dX12_ends_15 ?_
  refine G_aload_n 16 hC rfl dX12_ends_16 ?_
  refine M_getR 17 hC hF fl_X12_38_11 rfl rfl dX12_ends_17 ?_
  refine G_iload_n 20 hC rfl dX12_ends_20 ?_
  refine N_ialdO 21 hC hF rfl (by decide) (by decide) rfl (by omega) dX12_ends_21 ?_
  refine G_iadd 22 hC dX12_ends_22 ?_
  refine N_iast 23 hC hF rfl (by omega) dX12_ends_23 ?_
  refine G_aload_n 24 hC rfl dX12_ends_24 ?_
  refine M_getR 25 hC hF fl_X12_68_11 rfl rfl dX12_ends_25 ?_
  refine G_sipush 28 hC (nI 250) (by decide) dX12_ends_28 ?_
  refine G_iload_n 31 hC rfl dX12_ends_31 ?_
  refine G_iaddN 32 hC dX12_ends_32 ?_
  refine G_bipush 33 hC (-9) (by decide) dX12_ends_33 ?_
  refine N_iast 35 hC hF rfl (by omega) dX12_ends_35 ?_
  refine G_aload_n 36 hC rfl dX12_ends_36 ?_
  refine M_getR 37 hC hF fl_X12_68_11 rfl rfl dX12_ends_37 ?_
  refine G_sipush 40 hC (nI 256) (by decide) dX12_ends_40 ?_
  refine G_iload_n 43 hC rfl dX12_ends_43 ?_
  refine G_iaddN 44 hC dX12_ends_44 ?_
  first | refine G_dup2 45 hC rfl rfl dX12_ends_45 ?_ | refine G_dup2L 45 hC dX12_ends_45 ?_
  refine N_iald 46 hC hF rfl (by omega) dX12_ends_46 ?_
  refine G_iconst 47 hC (nI 1) (by decide) dX12_ends_47 ?_
  refine G_iadd 48 hC dX12_ends_48 ?_
  refine N_iast 49 hC hF rfl (by omega) dX12_ends_49 ?_
  refine G_aload_n 50 hC rfl dX12_ends_50 ?_
  refine M_getR 51 hC hF fl_X12_68_11 rfl rfl dX12_ends_51 ?_
  refine G_sipush 54 hC (nI 247) (by decide) dX12_ends_54 ?_
  first | refine G_dup2 57 hC rfl rfl dX12_ends_57 ?_ | refine G_dup2L 57 hC dX12_ends_57 ?_
  refine N_iald 58 hC hF rfl (by omega) dX12_ends_58 ?_
  refine G_iconst 59 hC (nI 1) (by decide) dX12_ends_59 ?_
  refine G_isub 60 hC dX12_ends_60 ?_
  refine N_iast 61 hC hF rfl (by omega) dX12_ends_61 ?_
  refine G_aload_n 62 hC rfl dX12_ends_62 ?_
  refine G_bipush 63 hC (nI 100) (by decide) dX12_ends_63 ?_
  refine G_iload_n 65 hC rfl dX12_ends_65 ?_
  refine G_imulN 66 hC dX12_ends_66 ?_
  refine G_bipush 67 hC (nI 10) (by decide) dX12_ends_67 ?_
  refine G_iload_n 69 hC rfl dX12_ends_69 ?_
  refine G_imulN 70 hC dX12_ends_70 ?_
  refine G_iaddN 71 hC dX12_ends_71 ?_
  refine G_iload_n 72 hC rfl dX12_ends_72 ?_
  refine G_iadd 73 hC dX12_ends_73 ?_
  refine G_callV0 74 hC (n_notes hF (k := k) (by simp (disch := omega) only [up_ne, up_s]; exact hk) hk2) okX12_notes lk_X12_198 ((hF.sh (o := 0) rfl (by decide)).1) rfl rfl rfl rfl (by decide) (by decide) (by decide) dX12_ends_74 ?_
  refine R_v 77 hR dX12_ends_77 (Nat.le_refl _) (Nat.le_refl _) ?_
  refine ⟨rfl, ?_, rfl, rfl⟩
  unfold F_ends
  simp (disch := omega) only [up_ne, up_s]
theorem n_falls (hF : FixR b N) {t : Nat} {v : Int32} (ht : t < 20) : Cq l D B mX12_falls [vr (some (b + 0)), vi (nI t), vi v] (RI b r n G) L N none (RI b r (F_falls n t v) G) L := by
  refine Ct.of (M := mX12_falls) (by decide) (Nat.le_of_ble_eq_true rfl) (fun g (hR : Cr l D B RX12 cX12_falls 3 "falls" { frames := 1, cells := 0, slots := 0, locals := 23 } none 0 0 _ g) => ?_)
  have hC := hR.cx
  show g 0 [some (vr (some (b + 0))), some (vi (nI t)), some (vi v)] [] _ _ N 0 0
  refine G_aload_n 0 hC rfl dX12_falls_0 ?_
  refine G_iload_n 1 hC rfl dX12_falls_1 ?_
  refine G_iconst 2 hC (nI 0) (by decide) dX12_falls_2 ?_
  refine G_iload_n 3 hC rfl dX12_falls_3 ?_
  refine G_callV0 4 hC (n_set hF (by omega) (by omega)) okX12_set lk_X12_154 ((hF.sh (o := 0) rfl (by decide)).1) rfl rfl rfl rfl (by decide) (by decide) (by decide) dX12_falls_4 ?_
  refine G_aload_n 7 hC rfl dX12_falls_7 ?_
  refine M_getR 8 hC hF fl_X12_68_11 rfl rfl dX12_falls_8 ?_
  refine G_sipush 11 hC (nI 247) (by decide) dX12_falls_11 ?_
  first | refine G_dup2 14 hC rfl rfl dX12_falls_14 ?_ | refine G_dup2L 14 hC dX12_falls_14 ?_
  refine N_iald 15 hC hF rfl (by omega) dX12_falls_15 ?_
  refine G_iconst 16 hC (nI 1) (by decide) dX12_falls_16 ?_
  refine G_isub 17 hC dX12_falls_17 ?_
  refine N_iast 18 hC hF rfl (by omega) dX12_falls_18 ?_
  refine G_aload_n 19 hC rfl dX12_falls_19 ?_
  refine M_getR 20 hC hF fl_X12_68_11 rfl rfl dX12_falls_20 ?_
  refine G_sipush 23 hC (nI 248) (by decide) dX12_falls_23 ?_
  first | refine G_dup2 26 hC rfl rfl dX12_falls_26 ?_ | refine G_dup2L 26 hC dX12_falls_26 ?_
  refine N_iald 27 hC hF rfl (by omega) dX12_falls_27 ?_
  refine G_iconst 28 hC (nI 1) (by decide) dX12_falls_28 ?_
  refine G_isub 29 hC dX12_falls_29 ?_
  refine N_iast 30 hC hF rfl (by omega) dX12_falls_30 ?_
  refine R_v 31 hR dX12_falls_31 (Nat.le_refl _) (Nat.le_refl _) ?_
  refine ⟨rfl, ?_, rfl, rfl⟩
  unfold F_falls
  simp (disch := omega) only [up_ne, up_s]
theorem n_finds (hF : FixR b N) {s i : Nat} {v : Int64} (hs : s < 8) : Cq l D B mX12_finds [vr (some (b + 0)), vi (nI s), vi (nI i), vl v] (RI b r n G) (RLg b rl S q GL) N none (RI b r (F_finds n q s i v).1 G) (RLg b rl S (F_finds n q s i v).2 GL) := by
  refine Ct.of (M := mX12_finds) (by decide) (Nat.le_of_ble_eq_true rfl) (fun g (hR : Cr l D B RX12 cX12_finds 6 "finds" { frames := 0, cells := 0, slots := 0, locals := 0 } none 0 0 _ g) => ?_)
  have hC := hR.cx
  show g 0 [some (vr (some (b + 0))), some (vi (nI s)), some (vi (nI i)), some (vl v), none, none] [] _ _ N 0 0
  refine G_aload_n 0 hC rfl dX12_finds_0 ?_
  refine M_getR 1 hC hF fl_X12_68_11 rfl rfl dX12_finds_1 ?_
  refine G_sipush 4 hC (nI 302) (by decide) dX12_finds_4 ?_
  refine G_iload_n 7 hC rfl dX12_finds_7 ?_
  refine G_iaddN 8 hC dX12_finds_8 ?_
  refine N_iald 9 hC hF rfl (by omega) dX12_finds_9 ?_
  refine G_bipush 10 hC (-9) (by decide) dX12_finds_10 ?_
  refine G_icmp_eq 12 57 hC dX12_finds_12 (by decide) (fun h12 => ?_) (fun h12 => ?_)
  · refine G_iconst 57 hC (nI 1) (by decide) dX12_finds_57 ?_
    refine G_goto 58 62 hC dX12_finds_58 (by decide) ?_
    refine G_istore 62 hC (by decide) (ls' := [_, _, _, _, _, _]) rfl dX12_finds_62 ?_
    refine G_iload 64 hC rfl dX12_finds_64 ?_
    first | refine G_if_eq_b 66 100 hC dX12_finds_66 (by decide) (fun h66 => ?_) (fun h66 => ?_) | refine G_if_eq 66 100 hC dX12_finds_66 (by decide) (fun h66 => ?_) (fun h66 => ?_)
    · refine R_v 100 hR dX12_finds_100 (Nat.le_refl _) (Nat.le_refl _) ?_
      first
        | exact absurd h66 (by decide)
        | (have hb : F_better n q s i v := by
             unfold F_better
             first | exact Or.inl h12 | exact Or.inr (Or.inl ((lg_cmp_gt _ _).mp h26)) | exact Or.inr (Or.inr ⟨(lg_cmp_eq _ _).mp h40, Int32.not_le.mp h54⟩)
           refine ⟨rfl, ?_, ?_, rfl⟩ <;> rw [F_finds_t hb])
        | (have hb : ¬ F_better n q s i v := by
             unfold F_better
             rintro (z | z | ⟨z1, z2⟩)
             · exact h12 z
             · exact h26 ((lg_cmp_gt _ _).mpr z)
             · first | exact h40 ((lg_cmp_eq _ _).mpr z1) | exact absurd h54 (Int32.not_le.mpr z2)
           refine ⟨rfl, ?_, ?_, rfl⟩ <;> rw [F_finds_f hb])
    · refine G_aload_n 69 hC rfl dX12_finds_69 ?_
      refine M_getR 70 hC hF fl_X12_74_11 rfl rfl dX12_finds_70 ?_
      refine G_bipush 73 hC (nI 20) (by decide) dX12_finds_73 ?_
      refine G_iload_n 75 hC rfl dX12_finds_75 ?_
      refine G_iaddN 76 hC dX12_finds_76 ?_
      refine G_lload_n 77 hC rfl dX12_finds_77 ?_
      refine Q_last 78 hC hF rfl (by omega) dX12_finds_78 ?_
      refine G_aload_n 79 hC rfl dX12_finds_79 ?_
      refine M_getR 80 hC hF fl_X12_68_11 rfl rfl dX12_finds_80 ?_
      refine G_sipush 83 hC (nI 302) (by decide) dX12_finds_83 ?_
      refine G_iload_n 86 hC rfl dX12_finds_86 ?_
      refine G_iaddN 87 hC dX12_finds_87 ?_
      refine G_iload_n 88 hC rfl dX12_finds_88 ?_
      refine N_iast 89 hC hF rfl (by omega) dX12_finds_89 ?_
      refine G_aload_n 90 hC rfl dX12_finds_90 ?_
      refine M_getR 91 hC hF fl_X12_74_11 rfl rfl dX12_finds_91 ?_
      refine G_bipush 94 hC (nI 28) (by decide) dX12_finds_94 ?_
      refine G_iload_n 96 hC rfl dX12_finds_96 ?_
      refine G_iaddN 97 hC dX12_finds_97 ?_
      refine G_lload_n 98 hC rfl dX12_finds_98 ?_
      refine Q_last 99 hC hF rfl (by omega) dX12_finds_99 ?_
      refine R_v 100 hR dX12_finds_100 (Nat.le_refl _) (Nat.le_refl _) ?_
      first
        | exact absurd h66 (by decide)
        | (have hb : F_better n q s i v := by
             unfold F_better
             first | exact Or.inl h12 | exact Or.inr (Or.inl ((lg_cmp_gt _ _).mp h26)) | exact Or.inr (Or.inr ⟨(lg_cmp_eq _ _).mp h40, Int32.not_le.mp h54⟩)
           refine ⟨rfl, ?_, ?_, rfl⟩ <;> rw [F_finds_t hb])
        | (have hb : ¬ F_better n q s i v := by
             unfold F_better
             rintro (z | z | ⟨z1, z2⟩)
             · exact h12 z
             · exact h26 ((lg_cmp_gt _ _).mpr z)
             · first | exact h40 ((lg_cmp_eq _ _).mpr z1) | exact absurd h54 (Int32.not_le.mpr z2)
           refine ⟨rfl, ?_, ?_, rfl⟩ <;> rw [F_finds_f hb])
  · refine G_aload_n 15 hC rfl dX12_finds_15 ?_
    refine M_getR 16 hC hF fl_X12_74_11 rfl rfl dX12_finds_16 ?_
    refine G_bipush 19 hC (nI 20) (by decide) dX12_finds_19 ?_
    refine G_iload_n 21 hC rfl dX12_finds_21 ?_
    refine G_iaddN 22 hC dX12_finds_22 ?_
    refine Q_lald 23 hC hF rfl (by omega) dX12_finds_23 ?_
    refine G_lload_n 24 hC rfl dX12_finds_24 ?_
    refine G_lcmp 25 hC dX12_finds_25 ?_
    refine G_if_gt 26 57 hC dX12_finds_26 (by decide) (fun h26 => ?_) (fun h26 => ?_)
    · refine G_iconst 57 hC (nI 1) (by decide) dX12_finds_57 ?_
      refine G_goto 58 62 hC dX12_finds_58 (by decide) ?_
      refine G_istore 62 hC (by decide) (ls' := [_, _, _, _, _, _]) rfl dX12_finds_62 ?_
      refine G_iload 64 hC rfl dX12_finds_64 ?_
      first | refine G_if_eq_b 66 100 hC dX12_finds_66 (by decide) (fun h66 => ?_) (fun h66 => ?_) | refine G_if_eq 66 100 hC dX12_finds_66 (by decide) (fun h66 => ?_) (fun h66 => ?_)
      · refine R_v 100 hR dX12_finds_100 (Nat.le_refl _) (Nat.le_refl _) ?_
        first
          | exact absurd h66 (by decide)
          | (have hb : F_better n q s i v := by
               unfold F_better
               first | exact Or.inl h12 | exact Or.inr (Or.inl ((lg_cmp_gt _ _).mp h26)) | exact Or.inr (Or.inr ⟨(lg_cmp_eq _ _).mp h40, Int32.not_le.mp h54⟩)
             refine ⟨rfl, ?_, ?_, rfl⟩ <;> rw [F_finds_t hb])
          | (have hb : ¬ F_better n q s i v := by
               unfold F_better
               rintro (z | z | ⟨z1, z2⟩)
               · exact h12 z
               · exact h26 ((lg_cmp_gt _ _).mpr z)
               · first | exact h40 ((lg_cmp_eq _ _).mpr z1) | exact absurd h54 (Int32.not_le.mpr z2)
             refine ⟨rfl, ?_, ?_, rfl⟩ <;> rw [F_finds_f hb])
      · refine G_aload_n 69 hC rfl dX12_finds_69 ?_
        refine M_getR 70 hC hF fl_X12_74_11 rfl rfl dX12_finds_70 ?_
        refine G_bipush 73 hC (nI 20) (by decide) dX12_finds_73 ?_
        refine G_iload_n 75 hC rfl dX12_finds_75 ?_
        refine G_iaddN 76 hC dX12_finds_76 ?_
        refine G_lload_n 77 hC rfl dX12_finds_77 ?_
        refine Q_last 78 hC hF rfl (by omega) dX12_finds_78 ?_
        refine G_aload_n 79 hC rfl dX12_finds_79 ?_
        refine M_getR 80 hC hF fl_X12_68_11 rfl rfl dX12_finds_80 ?_
        refine G_sipush 83 hC (nI 302) (by decide) dX12_finds_83 ?_
        refine G_iload_n 86 hC rfl dX12_finds_86 ?_
        refine G_iaddN 87 hC dX12_finds_87 ?_
        refine G_iload_n 88 hC rfl dX12_finds_88 ?_
        refine N_iast 89 hC hF rfl (by omega) dX12_finds_89 ?_
        refine G_aload_n 90 hC rfl dX12_finds_90 ?_
        refine M_getR 91 hC hF fl_X12_74_11 rfl rfl dX12_finds_91 ?_
        refine G_bipush 94 hC (nI 28) (by decide) dX12_finds_94 ?_
        refine G_iload_n 96 hC rfl dX12_finds_96 ?_
        refine G_iaddN 97 hC dX12_finds_97 ?_
        refine G_lload_n 98 hC rfl dX12_finds_98 ?_
        refine Q_last 99 hC hF rfl (by omega) dX12_finds_99 ?_
        refine R_v 100 hR dX12_finds_100 (Nat.le_refl _) (Nat.le_refl _) ?_
        first
          | exact absurd h66 (by decide)
          | (have hb : F_better n q s i v := by
               unfold F_better
               first | exact Or.inl h12 | exact Or.inr (Or.inl ((lg_cmp_gt _ _).mp h26)) | exact Or.inr (Or.inr ⟨(lg_cmp_eq _ _).mp h40, Int32.not_le.mp h54⟩)
             refine ⟨rfl, ?_, ?_, rfl⟩ <;> rw [F_finds_t hb])
          | (have hb : ¬ F_better n q s i v := by
               unfold F_better
               rintro (z | z | ⟨z1, z2⟩)
               · exact h12 z
               · exact h26 ((lg_cmp_gt _ _).mpr z)
               · first | exact h40 ((lg_cmp_eq _ _).mpr z1) | exact absurd h54 (Int32.not_le.mpr z2)
             refine ⟨rfl, ?_, ?_, rfl⟩ <;> rw [F_finds_f hb])
    · refine G_aload_n 29 hC rfl dX12_finds_29 ?_
      refine M_getR 30 hC hF fl_X12_74_11 rfl rfl dX12_finds_30 ?_
      refine G_bipush 33 hC (nI 20) (by decide) dX12_finds_33 ?_
      refine G_iload_n 35 hC rfl dX12_finds_35 ?_
      refine G_iaddN 36 hC dX12_finds_36 ?_
      refine Q_lald 37 hC hF rfl (by omega) dX12_finds_37 ?_
      refine G_lload_n 38 hC rfl dX12_finds_38 ?_
      refine G_lcmp 39 hC dX12_finds_39 ?_
      first | refine G_if_ne_b 40 61 hC dX12_finds_40 (by decide) (fun h40 => ?_) (fun h40 => ?_) | refine G_if_ne 40 61 hC dX12_finds_40 (by decide) (fun h40 => ?_) (fun h40 => ?_)
      · refine G_iconst 61 hC (nI 0) (by decide) dX12_finds_61 ?_
        refine G_istore 62 hC (by decide) (ls' := [_, _, _, _, _, _]) rfl dX12_finds_62 ?_
        refine G_iload 64 hC rfl dX12_finds_64 ?_
        first | refine G_if_eq_b 66 100 hC dX12_finds_66 (by decide) (fun h66 => ?_) (fun h66 => ?_) | refine G_if_eq 66 100 hC dX12_finds_66 (by decide) (fun h66 => ?_) (fun h66 => ?_)
        · refine R_v 100 hR dX12_finds_100 (Nat.le_refl _) (Nat.le_refl _) ?_
          first
            | exact absurd h66 (by decide)
            | (have hb : F_better n q s i v := by
                 unfold F_better
                 first | exact Or.inl h12 | exact Or.inr (Or.inl ((lg_cmp_gt _ _).mp h26)) | exact Or.inr (Or.inr ⟨(lg_cmp_eq _ _).mp h40, Int32.not_le.mp h54⟩)
               refine ⟨rfl, ?_, ?_, rfl⟩ <;> rw [F_finds_t hb])
            | (have hb : ¬ F_better n q s i v := by
                 unfold F_better
                 rintro (z | z | ⟨z1, z2⟩)
                 · exact h12 z
                 · exact h26 ((lg_cmp_gt _ _).mpr z)
                 · first | exact h40 ((lg_cmp_eq _ _).mpr z1) | exact absurd h54 (Int32.not_le.mpr z2)
               refine ⟨rfl, ?_, ?_, rfl⟩ <;> rw [F_finds_f hb])
        · refine G_aload_n 69 hC rfl dX12_finds_69 ?_
          refine M_getR 70 hC hF fl_X12_74_11 rfl rfl dX12_finds_70 ?_
          refine G_bipush 73 hC (nI 20) (by decide) dX12_finds_73 ?_
          refine G_iload_n 75 hC rfl dX12_finds_75 ?_
          refine G_iaddN 76 hC dX12_finds_76 ?_
          refine G_lload_n 77 hC rfl dX12_finds_77 ?_
          refine Q_last 78 hC hF rfl (by omega) dX12_finds_78 ?_
          refine G_aload_n 79 hC rfl dX12_finds_79 ?_
          refine M_getR 80 hC hF fl_X12_68_11 rfl rfl dX12_finds_80 ?_
          refine G_sipush 83 hC (nI 302) (by decide) dX12_finds_83 ?_
          refine G_iload_n 86 hC rfl dX12_finds_86 ?_
          refine G_iaddN 87 hC dX12_finds_87 ?_
          refine G_iload_n 88 hC rfl dX12_finds_88 ?_
          refine N_iast 89 hC hF rfl (by omega) dX12_finds_89 ?_
          refine G_aload_n 90 hC rfl dX12_finds_90 ?_
          refine M_getR 91 hC hF fl_X12_74_11 rfl rfl dX12_finds_91 ?_
          refine G_bipush 94 hC (nI 28) (by decide) dX12_finds_94 ?_
          refine G_iload_n 96 hC rfl dX12_finds_96 ?_
          refine G_iaddN 97 hC dX12_finds_97 ?_
          refine G_lload_n 98 hC rfl dX12_finds_98 ?_
          refine Q_last 99 hC hF rfl (by omega) dX12_finds_99 ?_
          refine R_v 100 hR dX12_finds_100 (Nat.le_refl _) (Nat.le_refl _) ?_
          first
            | exact absurd h66 (by decide)
            | (have hb : F_better n q s i v := by
                 unfold F_better
                 first | exact Or.inl h12 | exact Or.inr (Or.inl ((lg_cmp_gt _ _).mp h26)) | exact Or.inr (Or.inr ⟨(lg_cmp_eq _ _).mp h40, Int32.not_le.mp h54⟩)
               refine ⟨rfl, ?_, ?_, rfl⟩ <;> rw [F_finds_t hb])
            | (have hb : ¬ F_better n q s i v := by
                 unfold F_better
                 rintro (z | z | ⟨z1, z2⟩)
                 · exact h12 z
                 · exact h26 ((lg_cmp_gt _ _).mpr z)
                 · first | exact h40 ((lg_cmp_eq _ _).mpr z1) | exact absurd h54 (Int32.not_le.mpr z2)
               refine ⟨rfl, ?_, ?_, rfl⟩ <;> rw [F_finds_f hb])
      · refine G_aload_n 43 hC rfl dX12_finds_43 ?_
        refine M_getR 44 hC hF fl_X12_68_11 rfl rfl dX12_finds_44 ?_
        refine G_sipush 47 hC (nI 302) (by decide) dX12_finds_47 ?_
        refine G_iload_n 50 hC rfl dX12_finds_50 ?_
        refine G_iaddN 51 hC dX12_finds_51 ?_
        refine N_iald 52 hC hF rfl (by omega) dX12_finds_52 ?_
        refine G_iload_n 53 hC rfl dX12_finds_53 ?_
        refine G_icmp_le 54 61 hC dX12_finds_54 (by decide) (fun h54 => ?_) (fun h54 => ?_)
        · refine G_iconst 61 hC (nI 0) (by decide) dX12_finds_61 ?_
          refine G_istore 62 hC (by decide) (ls' := [_, _, _, _, _, _]) rfl dX12_finds_62 ?_
          refine G_iload 64 hC rfl dX12_finds_64 ?_
          first | refine G_if_eq_b 66 100 hC dX12_finds_66 (by decide) (fun h66 => ?_) (fun h66 => ?_) | refine G_if_eq 66 100 hC dX12_finds_66 (by decide) (fun h66 => ?_) (fun h66 => ?_)
          · refine R_v 100 hR dX12_finds_100 (Nat.le_refl _) (Nat.le_refl _) ?_
            first
              | exact absurd h66 (by decide)
              | (have hb : F_better n q s i v := by
                   unfold F_better
                   first | exact Or.inl h12 | exact Or.inr (Or.inl ((lg_cmp_gt _ _).mp h26)) | exact Or.inr (Or.inr ⟨(lg_cmp_eq _ _).mp h40, Int32.not_le.mp h54⟩)
                 refine ⟨rfl, ?_, ?_, rfl⟩ <;> rw [F_finds_t hb])
              | (have hb : ¬ F_better n q s i v := by
                   unfold F_better
                   rintro (z | z | ⟨z1, z2⟩)
                   · exact h12 z
                   · exact h26 ((lg_cmp_gt _ _).mpr z)
                   · first | exact h40 ((lg_cmp_eq _ _).mpr z1) | exact absurd h54 (Int32.not_le.mpr z2)
                 refine ⟨rfl, ?_, ?_, rfl⟩ <;> rw [F_finds_f hb])
          · refine G_aload_n 69 hC rfl dX12_finds_69 ?_
            refine M_getR 70 hC hF fl_X12_74_11 rfl rfl dX12_finds_70 ?_
            refine G_bipush 73 hC (nI 20) (by decide) dX12_finds_73 ?_
            refine G_iload_n 75 hC rfl dX12_finds_75 ?_
            refine G_iaddN 76 hC dX12_finds_76 ?_
            refine G_lload_n 77 hC rfl dX12_finds_77 ?_
            refine Q_last 78 hC hF rfl (by omega) dX12_finds_78 ?_
            refine G_aload_n 79 hC rfl dX12_finds_79 ?_
            refine M_getR 80 hC hF fl_X12_68_11 rfl rfl dX12_finds_80 ?_
            refine G_sipush 83 hC (nI 302) (by decide) dX12_finds_83 ?_
            refine G_iload_n 86 hC rfl dX12_finds_86 ?_
            refine G_iaddN 87 hC dX12_finds_87 ?_
            refine G_iload_n 88 hC rfl dX12_finds_88 ?_
            refine N_iast 89 hC hF rfl (by omega) dX12_finds_89 ?_
            refine G_aload_n 90 hC rfl dX12_finds_90 ?_
            refine M_getR 91 hC hF fl_X12_74_11 rfl rfl dX12_finds_91 ?_
            refine G_bipush 94 hC (nI 28) (by decide) dX12_finds_94 ?_
            refine G_iload_n 96 hC rfl dX12_finds_96 ?_
            refine G_iaddN 97 hC dX12_finds_97 ?_
            refine G_lload_n 98 hC rfl dX12_finds_98 ?_
            refine Q_last 99 hC hF rfl (by omega) dX12_finds_99 ?_
            refine R_v 100 hR dX12_finds_100 (Nat.le_refl _) (Nat.le_refl _) ?_
            first
              | exact absurd h66 (by decide)
              | (have hb : F_better n q s i v := by
                   unfold F_better
                   first | exact Or.inl h12 | exact Or.inr (Or.inl ((lg_cmp_gt _ _).mp h26)) | exact Or.inr (Or.inr ⟨(lg_cmp_eq _ _).mp h40, Int32.not_le.mp h54⟩)
                 refine ⟨rfl, ?_, ?_, rfl⟩ <;> rw [F_finds_t hb])
              | (have hb : ¬ F_better n q s i v := by
                   unfold F_better
                   rintro (z | z | ⟨z1, z2⟩)
                   · exact h12 z
                   · exact h26 ((lg_cmp_gt _ _).mpr z)
                   · first | exact h40 ((lg_cmp_eq _ _).mpr z1) | exact absurd h54 (Int32.not_le.mpr z2)
                 refine ⟨rfl, ?_, ?_, rfl⟩ <;> rw [F_finds_f hb])
        · refine G_iconst 57 hC (nI 1) (by decide) dX12_finds_57 ?_
          refine G_goto 58 62 hC dX12_finds_58 (by decide) ?_
          refine G_istore 62 hC (by decide) (ls' := [_, _, _, _, _, _]) rfl dX12_finds_62 ?_
          refine G_iload 64 hC rfl dX12_finds_64 ?_
          first | refine G_if_eq_b 66 100 hC dX12_finds_66 (by decide) (fun h66 => ?_) (fun h66 => ?_) | refine G_if_eq 66 100 hC dX12_finds_66 (by decide) (fun h66 => ?_) (fun h66 => ?_)
          · refine R_v 100 hR dX12_finds_100 (Nat.le_refl _) (Nat.le_refl _) ?_
            first
              | exact absurd h66 (by decide)
              | (have hb : F_better n q s i v := by
                   unfold F_better
                   first | exact Or.inl h12 | exact Or.inr (Or.inl ((lg_cmp_gt _ _).mp h26)) | exact Or.inr (Or.inr ⟨(lg_cmp_eq _ _).mp h40, Int32.not_le.mp h54⟩)
                 refine ⟨rfl, ?_, ?_, rfl⟩ <;> rw [F_finds_t hb])
              | (have hb : ¬ F_better n q s i v := by
                   unfold F_better
                   rintro (z | z | ⟨z1, z2⟩)
                   · exact h12 z
                   · exact h26 ((lg_cmp_gt _ _).mpr z)
                   · first | exact h40 ((lg_cmp_eq _ _).mpr z1) | exact absurd h54 (Int32.not_le.mpr z2)
                 refine ⟨rfl, ?_, ?_, rfl⟩ <;> rw [F_finds_f hb])
          · refine G_aload_n 69 hC rfl dX12_finds_69 ?_
            refine M_getR 70 hC hF fl_X12_74_11 rfl rfl dX12_finds_70 ?_
            refine G_bipush 73 hC (nI 20) (by decide) dX12_finds_73 ?_
            refine G_iload_n 75 hC rfl dX12_finds_75 ?_
            refine G_iaddN 76 hC dX12_finds_76 ?_
            refine G_lload_n 77 hC rfl dX12_finds_77 ?_
            refine Q_last 78 hC hF rfl (by omega) dX12_finds_78 ?_
            refine G_aload_n 79 hC rfl dX12_finds_79 ?_
            refine M_getR 80 hC hF fl_X12_68_11 rfl rfl dX12_finds_80 ?_
            refine G_sipush 83 hC (nI 302) (by decide) dX12_finds_83 ?_
            refine G_iload_n 86 hC rfl dX12_finds_86 ?_
            refine G_iaddN 87 hC dX12_finds_87 ?_
            refine G_iload_n 88 hC rfl dX12_finds_88 ?_
            refine N_iast 89 hC hF rfl (by omega) dX12_finds_89 ?_
            refine G_aload_n 90 hC rfl dX12_finds_90 ?_
            refine M_getR 91 hC hF fl_X12_74_11 rfl rfl dX12_finds_91 ?_
            refine G_bipush 94 hC (nI 28) (by decide) dX12_finds_94 ?_
            refine G_iload_n 96 hC rfl dX12_finds_96 ?_
            refine G_iaddN 97 hC dX12_finds_97 ?_
            refine G_lload_n 98 hC rfl dX12_finds_98 ?_
            refine Q_last 99 hC hF rfl (by omega) dX12_finds_99 ?_
            refine R_v 100 hR dX12_finds_100 (Nat.le_refl _) (Nat.le_refl _) ?_
            first
              | exact absurd h66 (by decide)
              | (have hb : F_better n q s i v := by
                   unfold F_better
                   first | exact Or.inl h12 | exact Or.inr (Or.inl ((lg_cmp_gt _ _).mp h26)) | exact Or.inr (Or.inr ⟨(lg_cmp_eq _ _).mp h40, Int32.not_le.mp h54⟩)
                 refine ⟨rfl, ?_, ?_, rfl⟩ <;> rw [F_finds_t hb])
              | (have hb : ¬ F_better n q s i v := by
                   unfold F_better
                   rintro (z | z | ⟨z1, z2⟩)
                   · exact h12 z
                   · exact h26 ((lg_cmp_gt _ _).mpr z)
                   · first | exact h40 ((lg_cmp_eq _ _).mpr z1) | exact absurd h54 (Int32.not_le.mpr z2)
                 refine ⟨rfl, ?_, ?_, rfl⟩ <;> rw [F_finds_f hb])
end M3
end
section
/-! ===== steps of the reference ===== -/
theorem i64_ne0 {x : Int32} (h : ¬ x = 0) : ¬ x.toInt64 = 0 := fun q => h (by have := congrArg Int64.toInt32 q; simpa using this)
theorem up_self {α : Type} (f : Nat → α) (k : Nat) : up f k (f k) = f := by
  funext j; by_cases h : j = k <;> simp [up, h]
noncomputable def F_goes (r : MI) (n : Nat → Int32) (q : Nat → Int64) (S : Int64) (s i : Nat) (rd : Int32) (p : Nat) : Int32 × ((Nat → Int32) × (Nat → Int64)) :=
  if r 17 s = 0 then (nI 6, (n, q)) else if q (28 + s) < S / (r 17 s).toInt64 then (-1, (n, q)) else if rd < r 4 p then (nI 0, (n, q)) else (-1, F_finds n q s i (S / (r 17 s).toInt64))
section FG
variable {r : MI} {n : Nat → Int32} {q : Nat → Int64} {S : Int64} {s i p : Nat} {rd : Int32}
theorem F_goes_0 (h : r 17 s = 0) : F_goes r n q S s i rd p = (nI 6, (n, q)) := by unfold F_goes; rw [if_pos h]
theorem F_goes_1 (h : ¬ r 17 s = 0) (h1 : q (28 + s) < S / (r 17 s).toInt64) : F_goes r n q S s i rd p = (-1, (n, q)) := by unfold F_goes; rw [if_neg h, if_pos h1]
theorem F_goes_2 (h : ¬ r 17 s = 0) (h1 : S / (r 17 s).toInt64 ≤ q (28 + s)) (h2 : ¬ r 4 p ≤ rd) : F_goes r n q S s i rd p = (nI 0, (n, q)) := by unfold F_goes; rw [if_neg h, if_neg (Int64.not_lt.mpr h1), if_pos (Int32.not_le.mp h2)]
theorem F_goes_3 (h : ¬ r 17 s = 0) (h1 : S / (r 17 s).toInt64 ≤ q (28 + s)) (h2 : r 4 p ≤ rd) : F_goes r n q S s i rd p = (-1, F_finds n q s i (S / (r 17 s).toInt64)) := by unfold F_goes; rw [if_neg h, if_neg (Int64.not_lt.mpr h1), if_neg (Int32.not_lt.mpr h2)]
end FG
def plR (p Q m : Nat) : Nat := p + min m (Q - p)
def F_plV (p Q m f : Nat) : Int32 := if p < f ∧ f ≤ plR p Q m then nI 3 else if plR p Q m = Q then nI 2 else nI 1
def F_plN (n : Nat → Int32) (t p Q m f : Nat) : Nat → Int32 := if p < f ∧ f ≤ plR p Q m then up (up n (12 * t + 4) (nI f)) (12 * t + 1) (nI 7) else up n (12 * t + 4) (nI (plR p Q m))
section M4
variable {l : Launch} {D : va_G} {B b : Nat} {N : NT} {r G : MI} {rl GL : ML} {n : Nat → Int32} {q : Nat → Int64} {S : Int64} {I : MI} {L : ML}
theorem n_goes (hF : FixR b N) {s i p g0 : Nat} {rd : Int32} (hs : s < 8) (hg : r 15 s = nI g0) (hg2 : g0 < 6) (hi : i < 20) (hp : r 3 (20 * g0 + i) = nI p) (hp2 : p < 600) : Cq l D B mX12_goes [vr (some (b + 0)), vi (nI s), vi (nI i), vi rd] (RI b r n G) (RLg b rl S q GL) N (some (vi (F_goes r n q S s i rd p).1)) (RI b r (F_goes r n q S s i rd p).2.1 G) (RLg b rl S (F_goes r n q S s i rd p).2.2 GL) := by
  refine Ct.of (M := mX12_goes) (by decide) (Nat.le_of_ble_eq_true rfl) (fun g (hR : Cr l D B RX12 cX12_goes 7 "goes" { frames := 1, cells := 0, slots := 0, locals := 25 } (some .int) 0 0 _ g) => ?_)
  have hC := hR.cx
  show g 0 [some (vr (some (b + 0))), some (vi (nI s)), some (vi (nI i)), some (vi rd), none, none, none] [] _ _ N 0 0
  refine G_aload_n 0 hC rfl dX12_goes_0 ?_
  refine M_getR 1 hC hF fl_X12_59_11 rfl rfl dX12_goes_1 ?_
  refine G_iload_n 4 hC rfl dX12_goes_4 ?_
  refine N_ialdO 5 hC hF rfl (by decide) (by decide) rfl (by omega) dX12_goes_5 ?_
  first | refine G_if_ne_b 6 12 hC dX12_goes_6 (by decide) (fun h6 => ?_) (fun h6 => ?_) | refine G_if_ne 6 12 hC dX12_goes_6 (by decide) (fun h6 => ?_) (fun h6 => ?_)
  · refine G_aload_n 12 hC rfl dX12_goes_12 ?_
    refine Q_getL 13 hC hF fl_X12_184_11 dX12_goes_13 ?_
    refine G_aload_n 16 hC rfl dX12_goes_16 ?_
    refine M_getR 17 hC hF fl_X12_59_11 rfl rfl dX12_goes_17 ?_
    refine G_iload_n 20 hC rfl dX12_goes_20 ?_
    refine N_ialdO 21 hC hF rfl (by decide) (by decide) rfl (by omega) dX12_goes_21 ?_
    refine G_i2l 22 hC dX12_goes_22 ?_
    refine G_ldiv 23 hC (i64_ne0 h6) dX12_goes_23 ?_
    refine G_lstore 24 hC (by decide) (ls' := [_, _, _, _, _, _, _]) rfl dX12_goes_24 ?_
    refine G_lload 26 hC rfl dX12_goes_26 ?_
    refine G_aload_n 28 hC rfl dX12_goes_28 ?_
    refine M_getR 29 hC hF fl_X12_74_11 rfl rfl dX12_goes_29 ?_
    refine G_bipush 32 hC (nI 28) (by decide) dX12_goes_32 ?_
    refine G_iload_n 34 hC rfl dX12_goes_34 ?_
    refine G_iaddN 35 hC dX12_goes_35 ?_
    refine Q_lald 36 hC hF rfl (by omega) dX12_goes_36 ?_
    refine G_lcmp 37 hC dX12_goes_37 ?_
    refine G_if_le 38 43 hC dX12_goes_38 (by decide) (fun h38 => ?_) (fun h38 => ?_)
    · refine G_aload_n 43 hC rfl dX12_goes_43 ?_
      refine M_getR 44 hC hF fl_X12_53_11 rfl rfl dX12_goes_44 ?_
      refine G_iload_n 47 hC rfl dX12_goes_47 ?_
      refine N_ialdO 48 hC hF rfl (by decide) (by decide) rfl (by omega) dX12_goes_48 ?_
      rw [hg]
      refine G_istore 49 hC (by decide) (ls' := [_, _, _, _, _, _, _]) rfl dX12_goes_49 ?_
      refine G_iload_n 51 hC rfl dX12_goes_51 ?_
      refine G_aload_n 52 hC rfl dX12_goes_52 ?_
      refine M_getR 53 hC hF fl_X12_19_11 rfl rfl dX12_goes_53 ?_
      refine G_aload_n 56 hC rfl dX12_goes_56 ?_
      refine M_getR 57 hC hF fl_X12_16_11 rfl rfl dX12_goes_57 ?_
      refine G_bipush 60 hC (nI 20) (by decide) dX12_goes_60 ?_
      refine G_iload 62 hC rfl dX12_goes_62 ?_
      refine G_imulN 64 hC dX12_goes_64 ?_
      refine G_iload_n 65 hC rfl dX12_goes_65 ?_
      refine G_iaddN 66 hC dX12_goes_66 ?_
      refine N_ialdO 67 hC hF rfl (by decide) (by decide) rfl (by omega) dX12_goes_67 ?_
      refine N_ialdO 68 hC hF rfl (by decide) (by decide) (hp) (by omega) dX12_goes_68 ?_
      refine G_icmp_ge 69 74 hC dX12_goes_69 (by decide) (fun h69 => ?_) (fun h69 => ?_)
      · refine G_aload_n 74 hC rfl dX12_goes_74 ?_
        refine G_iload_n 75 hC rfl dX12_goes_75 ?_
        refine G_iload_n 76 hC rfl dX12_goes_76 ?_
        refine G_lload 77 hC rfl dX12_goes_77 ?_
        refine G_callV0 79 hC (n_finds hF hs) okX12_finds lk_X12_188 ((hF.sh (o := 0) rfl (by decide)).1) rfl rfl rfl rfl (by decide) (by decide) (by decide) dX12_goes_79 ?_
        refine G_iconst 82 hC (-1) (by decide) dX12_goes_82 ?_
        refine R_i 83 hR (by first | rfl | exact narrow_bI _) dX12_goes_83 (Nat.le_refl _) (Nat.le_refl _) ?_
        have h := (lg_cmp_le _ _).mp h38
        exact ⟨by rw [F_goes_3 h6 h h69], by rw [F_goes_3 h6 h h69], by rw [F_goes_3 h6 h h69], rfl⟩
      · refine G_iconst 72 hC (nI 0) (by decide) dX12_goes_72 ?_
        refine R_i 73 hR (by first | rfl | exact narrow_bI _) dX12_goes_73 (Nat.le_refl _) (Nat.le_refl _) ?_
        have h := (lg_cmp_le _ _).mp h38
        exact ⟨by rw [F_goes_2 h6 h h69], by rw [F_goes_2 h6 h h69], by rw [F_goes_2 h6 h h69], rfl⟩
    · refine G_iconst 41 hC (-1) (by decide) dX12_goes_41 ?_
      refine R_i 42 hR (by first | rfl | exact narrow_bI _) dX12_goes_42 (Nat.le_refl _) (Nat.le_refl _) ?_
      have h := Int64.not_le.mp (fun z => h38 ((lg_cmp_le _ _).mpr z))
      exact ⟨by rw [F_goes_1 h6 h], by rw [F_goes_1 h6 h], by rw [F_goes_1 h6 h], rfl⟩
  · refine G_bipush 9 hC (nI 6) (by decide) dX12_goes_9 ?_
    refine R_i 11 hR (by first | rfl | exact narrow_bI _) dX12_goes_11 (Nat.le_refl _) (Nat.le_refl _) ?_
    exact ⟨by rw [F_goes_0 h6], by rw [F_goes_0 h6], by rw [F_goes_0 h6], rfl⟩
theorem n_plain (hF : FixR b N) {t p Q m f : Nat} (ht : t < 20) (hp : n (12 * t + 4) = nI p) (hQ : r 7 t = nI Q) (hpQ : p ≤ Q) (hQ2 : Q ≤ 100000) (hf : r 9 t = nI f) (hf2 : f < 2 ^ 31) (hm : (r 6 t = 0 → (1 : Int64) = lN m) ∧ (¬ r 6 t = 0 → (1 : Int64) <<< ((n (12 * t + 2) - nI 1).toInt64 &&& 63) = lN m)) (hm2 : m < 2 ^ 62) : Cq l D B mX12_plain [vr (some (b + 0)), vi (nI t)] (RI b r n G) L N (some (vi (F_plV p Q m f))) (RI b r (F_plN n t p Q m f) G) L := by
  refine Ct.of (M := mX12_plain) (by decide) (Nat.le_of_ble_eq_true rfl) (fun g (hR : Cr l D B RX12 cX12_plain 6 "plain" _ _ 0 0 _ g) => ?_)
  have hC := hR.cx
  have hRb : plR p Q m ≤ Q ∧ p ≤ plR p Q m ∧ plR p Q m ≤ p + m := by unfold plR; omega
  have loop : ∀ (k j : Nat), plR p Q m - (p + j) < k → p + j ≤ plR p Q m → ¬ (p < f ∧ f ≤ p + j) → g 27 [some (vr (some (b + 0))), some (vi (nI t)), some (vl (lN m)), none, some (vl (lN j)), none] [] (RI b r (up n (12 * t + 4) (nI (p + j))) G) L N 0 0 := by
    intro k
    induction k with
    | zero => intro j h; omega
    | succ k ih =>
      intro j hk hjR hno
      refine G_lload 27 hC rfl dX12_plain_27 ?_
      refine G_lload_n 29 hC rfl dX12_plain_29 ?_
      refine G_lcmp 30 hC dX12_plain_30 ?_
      refine G_if_ge 31 87 hC dX12_plain_31 (by decide) (fun h31 => ?_) (fun h31 => ?_)
      · have a87 : p + j = plR p Q m := by
          unfold plR at *
          first | (have z := (pk_lLE (by omega) (by omega)).mp ((lg_cmp_ge _ _).mp h31); omega) | (rw [hQ] at h46; have z := (nI_leI (by omega) (by omega)).mp h46; omega)
        refine G_aload_n 87 hC rfl dX12_plain_87 ?_
        refine G_iload_n 88 hC rfl dX12_plain_88 ?_
        refine G_iconst 89 hC (nI 4) (by decide) dX12_plain_89 ?_
        refine G_callV1 90 hC (n_at hF (by omega) (by omega)) okX12_at lk_X12_173 ((hF.sh (o := 0) rfl (by decide)).1) rfl rfl rfl rfl (by decide) (by decide) (by decide) dX12_plain_90 ?_
        rw [up_s]
        refine G_aload_n 93 hC rfl dX12_plain_93 ?_
        refine M_getR 94 hC hF fl_X12_29_11 rfl rfl dX12_plain_94 ?_
        refine G_iload_n 97 hC rfl dX12_plain_97 ?_
        refine N_ialdO 98 hC hF rfl (by decide) (by decide) rfl (by omega) dX12_plain_98 ?_
        refine G_icmp_ne 99 106 hC dX12_plain_99 (by decide) (fun h99 => ?_) (fun h99 => ?_)
        · refine G_iconst 106 hC (nI 1) (by decide) dX12_plain_106 ?_
          refine R_i 107 hR (by first | rfl | exact narrow_bI _) dX12_plain_107 (Nat.le_refl _) (Nat.le_refl _) ?_
          refine ⟨?_, ?_, rfl, rfl⟩
          · unfold F_plV; rw [if_neg (by omega)]; first | (rw [if_pos (show plR p Q m = Q by rw [← a87]; exact nI_eq_of (h99.trans hQ) (by omega) (by omega))]; done) | (rw [if_neg (fun z => h99 (by rw [hQ, a87, z]))]; done)
          · unfold F_plN; rw [if_neg (by omega), a87]
        · refine G_iconst 102 hC (nI 2) (by decide) dX12_plain_102 ?_
          refine G_goto 103 107 hC dX12_plain_103 (by decide) ?_
          refine R_i 107 hR (by first | rfl | exact narrow_bI _) dX12_plain_107 (Nat.le_refl _) (Nat.le_refl _) ?_
          refine ⟨?_, ?_, rfl, rfl⟩
          · unfold F_plV; rw [if_neg (by omega)]; first | (rw [if_pos (show plR p Q m = Q by rw [← a87]; exact nI_eq_of (h99.trans hQ) (by omega) (by omega))]; done) | (rw [if_neg (fun z => h99 (by rw [hQ, a87, z]))]; done)
          · unfold F_plN; rw [if_neg (by omega), a87]
      · have a31 : j < m := by
          rcases Nat.lt_or_ge j m with z | z
          · exact z
          · exact absurd ((lg_cmp_ge _ _).mpr ((pk_lLE (by omega) (by omega)).mpr z)) h31
        refine G_aload_n 34 hC rfl dX12_plain_34 ?_
        refine G_iload_n 35 hC rfl dX12_plain_35 ?_
        refine G_iconst 36 hC (nI 4) (by decide) dX12_plain_36 ?_
        refine G_callV1 37 hC (n_at hF (by omega) (by omega)) okX12_at lk_X12_173 ((hF.sh (o := 0) rfl (by decide)).1) rfl rfl rfl rfl (by decide) (by decide) (by decide) dX12_plain_37 ?_
        rw [up_s]
        refine G_aload_n 40 hC rfl dX12_plain_40 ?_
        refine M_getR 41 hC hF fl_X12_29_11 rfl rfl dX12_plain_41 ?_
        refine G_iload_n 44 hC rfl dX12_plain_44 ?_
        refine N_ialdO 45 hC hF rfl (by decide) (by decide) rfl (by omega) dX12_plain_45 ?_
        refine G_icmp_ge 46 87 hC dX12_plain_46 (by decide) (fun h46 => ?_) (fun h46 => ?_)
        · have a87 : p + j = plR p Q m := by
            unfold plR at *
            first | (have z := (pk_lLE (by omega) (by omega)).mp ((lg_cmp_ge _ _).mp h31); omega) | (rw [hQ] at h46; have z := (nI_leI (by omega) (by omega)).mp h46; omega)
          refine G_aload_n 87 hC rfl dX12_plain_87 ?_
          refine G_iload_n 88 hC rfl dX12_plain_88 ?_
          refine G_iconst 89 hC (nI 4) (by decide) dX12_plain_89 ?_
          refine G_callV1 90 hC (n_at hF (by omega) (by omega)) okX12_at lk_X12_173 ((hF.sh (o := 0) rfl (by decide)).1) rfl rfl rfl rfl (by decide) (by decide) (by decide) dX12_plain_90 ?_
          rw [up_s]
          refine G_aload_n 93 hC rfl dX12_plain_93 ?_
          refine M_getR 94 hC hF fl_X12_29_11 rfl rfl dX12_plain_94 ?_
          refine G_iload_n 97 hC rfl dX12_plain_97 ?_
          refine N_ialdO 98 hC hF rfl (by decide) (by decide) rfl (by omega) dX12_plain_98 ?_
          refine G_icmp_ne 99 106 hC dX12_plain_99 (by decide) (fun h99 => ?_) (fun h99 => ?_)
          · refine G_iconst 106 hC (nI 1) (by decide) dX12_plain_106 ?_
            refine R_i 107 hR (by first | rfl | exact narrow_bI _) dX12_plain_107 (Nat.le_refl _) (Nat.le_refl _) ?_
            refine ⟨?_, ?_, rfl, rfl⟩
            · unfold F_plV; rw [if_neg (by omega)]; first | (rw [if_pos (show plR p Q m = Q by rw [← a87]; exact nI_eq_of (h99.trans hQ) (by omega) (by omega))]; done) | (rw [if_neg (fun z => h99 (by rw [hQ, a87, z]))]; done)
            · unfold F_plN; rw [if_neg (by omega), a87]
          · refine G_iconst 102 hC (nI 2) (by decide) dX12_plain_102 ?_
            refine G_goto 103 107 hC dX12_plain_103 (by decide) ?_
            refine R_i 107 hR (by first | rfl | exact narrow_bI _) dX12_plain_107 (Nat.le_refl _) (Nat.le_refl _) ?_
            refine ⟨?_, ?_, rfl, rfl⟩
            · unfold F_plV; rw [if_neg (by omega)]; first | (rw [if_pos (show plR p Q m = Q by rw [← a87]; exact nI_eq_of (h99.trans hQ) (by omega) (by omega))]; done) | (rw [if_neg (fun z => h99 (by rw [hQ, a87, z]))]; done)
            · unfold F_plN; rw [if_neg (by omega), a87]
        · have a46 : p + j < Q := by
            rcases Nat.lt_or_ge (p + j) Q with z | z
            · exact z
            · exact absurd (by rw [hQ]; exact (nI_leI (by omega) (by omega)).mpr z) h46
          refine G_aload_n 49 hC rfl dX12_plain_49 ?_
          refine G_iload_n 50 hC rfl dX12_plain_50 ?_
          refine G_iconst 51 hC (nI 4) (by decide) dX12_plain_51 ?_
          refine G_callV0 52 hC (n_more hF (by omega) (by omega)) okX12_more lk_X12_160 ((hF.sh (o := 0) rfl (by decide)).1) rfl rfl rfl rfl (by decide) (by decide) (by decide) dX12_plain_52 ?_
          rw [up_up, up_s, nI_add, Nat.add_assoc]
          refine G_aload_n 55 hC rfl dX12_plain_55 ?_
          refine G_iload_n 56 hC rfl dX12_plain_56 ?_
          refine G_iconst 57 hC (nI 4) (by decide) dX12_plain_57 ?_
          refine G_callV1 58 hC (n_at hF (by omega) (by omega)) okX12_at lk_X12_173 ((hF.sh (o := 0) rfl (by decide)).1) rfl rfl rfl rfl (by decide) (by decide) (by decide) dX12_plain_58 ?_
          rw [up_s]
          refine G_aload_n 61 hC rfl dX12_plain_61 ?_
          refine M_getR 62 hC hF fl_X12_35_11 rfl rfl dX12_plain_62 ?_
          refine G_iload_n 65 hC rfl dX12_plain_65 ?_
          refine N_ialdO 66 hC hF rfl (by decide) (by decide) rfl (by omega) dX12_plain_66 ?_
          refine G_icmp_ne 67 78 hC dX12_plain_67 (by decide) (fun h67 => ?_) (fun h67 => ?_)
          · have a67 : f ≠ p + (j + 1) := fun z => h67 (by rw [hf, z])
            refine G_lload 78 hC rfl dX12_plain_78 ?_
            refine G_lconst 80 hC 1 (by decide) dX12_plain_80 ?_
            refine G_ladd 81 hC dX12_plain_81 ?_
            rw [lN_1]
            refine G_lstore 82 hC (by decide) (ls' := [_, _, _, _, _, _]) rfl dX12_plain_82 ?_
            refine G_goto 84 27 hC dX12_plain_84 (by decide) ?_
            exact ih (j + 1) (by unfold plR at *; omega) (by unfold plR at *; omega) (by omega)
          · have a67 : f = p + (j + 1) := nI_eq_of (hf.symm.trans h67.symm) hf2 (by omega)
            refine G_aload_n 70 hC rfl dX12_plain_70 ?_
            refine G_iload_n 71 hC rfl dX12_plain_71 ?_
            refine G_bipush 72 hC (nI 7) (by decide) dX12_plain_72 ?_
            refine G_callV1 74 hC (n_failed hF (by omega)) okX12_failed lk_X12_177 ((hF.sh (o := 0) rfl (by decide)).1) rfl rfl rfl rfl (by decide) (by decide) (by decide) dX12_plain_74 ?_
            refine R_i 77 hR (by first | rfl | exact narrow_bI _) dX12_plain_77 (Nat.le_refl _) (Nat.le_refl _) ?_
            refine ⟨?_, ?_, rfl, rfl⟩
            · unfold F_plV; rw [if_pos (by unfold plR at *; omega)]
            · unfold F_plN; rw [if_pos (by unfold plR at *; omega), ← a67]
  show g 0 [some (vr (some (b + 0))), some (vi (nI t)), none, none, none, none] [] _ _ N 0 0
  refine G_aload_n 0 hC rfl dX12_plain_0 ?_
  refine M_getR 1 hC hF fl_X12_26_11 rfl rfl dX12_plain_1 ?_
  refine G_iload_n 4 hC rfl dX12_plain_4 ?_
  refine N_ialdO 5 hC hF rfl (by decide) (by decide) rfl (by omega) dX12_plain_5 ?_
  first | refine G_if_ne_b 6 13 hC dX12_plain_6 (by decide) (fun h6 => ?_) (fun h6 => ?_) | refine G_if_ne 6 13 hC dX12_plain_6 (by decide) (fun h6 => ?_) (fun h6 => ?_)
  · refine G_lconst 13 hC 1 (by decide) dX12_plain_13 ?_
    refine G_aload_n 14 hC rfl dX12_plain_14 ?_
    refine G_iload_n 15 hC rfl dX12_plain_15 ?_
    refine G_iconst 16 hC (nI 2) (by decide) dX12_plain_16 ?_
    refine G_callV1 17 hC (n_at hF (by omega) (by omega)) okX12_at lk_X12_173 ((hF.sh (o := 0) rfl (by decide)).1) rfl rfl rfl rfl (by decide) (by decide) (by decide) dX12_plain_17 ?_
    refine G_iconst 20 hC (nI 1) (by decide) dX12_plain_20 ?_
    refine G_isub 21 hC dX12_plain_21 ?_
    refine G_lshl 22 hC dX12_plain_22 ?_
    first | rw [hm.1 h6] | rw [hm.2 h6]
    refine G_lstore_n 23 hC 2 rfl (by decide) (ls' := [_, _, _, _, _, _]) rfl dX12_plain_23 ?_
    refine G_lconst 24 hC 0 (by decide) dX12_plain_24 ?_
    refine G_lstore 25 hC (by decide) (ls' := [_, _, _, _, _, _]) rfl dX12_plain_25 ?_
    have z := loop _ 0 (Nat.lt_succ_self _) (by unfold plR; omega) (by omega)
    rw [show up n (12 * t + 4) (nI (p + 0)) = n by show up n (12 * t + 4) (nI p) = n; rw [← hp, up_self]] at z
    exact z
  · refine G_lconst 9 hC 1 (by decide) dX12_plain_9 ?_
    refine G_goto 10 23 hC dX12_plain_10 (by decide) ?_
    first | rw [hm.1 h6] | rw [hm.2 h6]
    refine G_lstore_n 23 hC 2 rfl (by decide) (ls' := [_, _, _, _, _, _]) rfl dX12_plain_23 ?_
    refine G_lconst 24 hC 0 (by decide) dX12_plain_24 ?_
    refine G_lstore 25 hC (by decide) (ls' := [_, _, _, _, _, _]) rfl dX12_plain_25 ?_
    have z := loop _ 0 (Nat.lt_succ_self _) (by unfold plR; omega) (by omega)
    rw [show up n (12 * t + 4) (nI (p + 0)) = n by show up n (12 * t + 4) (nI p) = n; rw [← hp, up_self]] at z
    exact z
end M4
end
section
/-! ===== a reader's step of the reference ===== -/
def F_read (r : MI) (rl : ML) (t g0 : Nat) : Nat → Nat → Nat → (Nat → Int32) → (Nat → Int64) → Int32 × ((Nat → Int32) × (Nat → Int64))
  | 0, _, _, n, q => (nI 2, (n, q))
  | k + 1, ln, it, n, q =>
    if r 3 (20 * g0 + ln) < 0 then
      if r 6 t = nI 2 then (nI 3, (up n (12 * t + 1) (nI 1), q))
      else (nI 1, (up (up n (12 * t + 6) (n (12 * t + 6) + nI 1)) (12 * t + 7) (nI (ln + 1)), q))
    else if nI it < r 4 (r 3 (20 * g0 + ln)).toNatClampNeg then
      (nI 1, (up (up n (12 * t + 8) (nI (it + 1))) (12 * t + 4) (n (12 * t + 4) + nI 1), up q t (q t + F_worth (rl 5 (12 * (r 3 (20 * g0 + ln)).toNatClampNeg + it)))))
    else F_read r rl t g0 k (ln + 1) 0 (up (up n (12 * t + 7) (nI (ln + 1))) (12 * t + 8) (nI 0)) q
section FR
variable {r : MI} {rl : ML} {n : Nat → Int32} {q : Nat → Int64} {t g0 k ln it p z : Nat}
theorem F_read_m1 (hp : r 3 (20 * g0 + ln) = -1) (hs : r 6 t = nI 2) : F_read r rl t g0 (k + 1) ln it n q = (nI 3, (up n (12 * t + 1) (nI 1), q)) := by
  unfold F_read; rw [if_pos (by rw [hp]; decide), if_pos hs]
theorem F_read_m2 (hp : r 3 (20 * g0 + ln) = -1) (hs : ¬ r 6 t = nI 2) : F_read r rl t g0 (k + 1) ln it n q = (nI 1, (up (up n (12 * t + 6) (n (12 * t + 6) + nI 1)) (12 * t + 7) (nI (ln + 1)), q)) := by
  unfold F_read; rw [if_pos (by rw [hp]; decide), if_neg hs]
theorem F_read_i (hp : r 3 (20 * g0 + ln) = nI p) (hp0 : p < 600) (hz : r 4 p = nI z) (hz0 : z ≤ 12) (hi : it < z) : F_read r rl t g0 (k + 1) ln it n q = (nI 1, (up (up n (12 * t + 8) (nI (it + 1))) (12 * t + 4) (n (12 * t + 4) + nI 1), up q t (q t + F_worth (rl 5 (12 * p + it))))) := by
  unfold F_read; rw [hp, if_neg (nI_pos (by omega)), nI_clamp (by omega), hz, if_pos ((nI_ltI (by omega) (by omega)).mpr hi)]
theorem F_read_n (hp : r 3 (20 * g0 + ln) = nI p) (hp0 : p < 600) (hz : r 4 p = nI z) (hz0 : z ≤ 12) (hit : it ≤ 12) (hi : z ≤ it) : F_read r rl t g0 (k + 1) ln it n q = F_read r rl t g0 k (ln + 1) 0 (up (up n (12 * t + 7) (nI (ln + 1))) (12 * t + 8) (nI 0)) q := by
  conv => lhs; unfold F_read
  rw [hp, if_neg (nI_pos (by omega)), nI_clamp (by omega), hz, if_neg (nI_nlt hi (by omega))]
end FR
section M5
variable {l : Launch} {D : va_G} {B b : Nat} {N : NT} {r G : MI} {rl GL : ML} {n : Nat → Int32} {q : Nat → Int64} {S : Int64} {I : MI} {L : ML}
theorem n_read_cast (hF : FixR b N) {t g0 : Nat} (ht : t < 20) (hg : r 12 t = nI g0) (hg2 : g0 < 6) (hk : ¬ r 1 g0 = r 13 t) : Cq l D B mX12_read [vr (some (b + 0)), vi (nI t)] (RI b r n G) L N (some (vi (nI 3))) (RI b r (up n (12 * t + 1) (nI 3)) G) L := by
  refine Ct.of (M := mX12_read) (by decide) (Nat.le_of_ble_eq_true rfl) (fun g (hR : Cr l D B RX12 cX12_read 4 "read" { frames := 2, cells := 0, slots := 0, locals := 45 } (some .int) 0 0 _ g) => ?_)
  have hC := hR.cx
  show g 0 [some (vr (some (b + 0))), some (vi (nI t)), none, none] [] _ _ N 0 0
  refine G_aload_n 0 hC rfl dX12_read_0 ?_
  refine M_getR 1 hC hF fl_X12_44_11 rfl rfl dX12_read_1 ?_
  refine G_iload_n 4 hC rfl dX12_read_4 ?_
  refine N_ialdO 5 hC hF rfl (by decide) (by decide) rfl (by omega) dX12_read_5 ?_
  rw [hg]
  refine G_istore_n 6 hC 2 rfl (by decide) (ls' := [_, _, _, _]) rfl dX12_read_6 ?_
  refine G_aload_n 7 hC rfl dX12_read_7 ?_
  refine M_getR 8 hC hF fl_X12_7_11 rfl rfl dX12_read_8 ?_
  refine G_iload_n 11 hC rfl dX12_read_11 ?_
  refine N_ialdO 12 hC hF rfl (by decide) (by decide) rfl (by omega) dX12_read_12 ?_
  refine G_aload_n 13 hC rfl dX12_read_13 ?_
  refine M_getR 14 hC hF fl_X12_47_11 rfl rfl dX12_read_14 ?_
  refine G_iload_n 17 hC rfl dX12_read_17 ?_
  refine N_ialdO 18 hC hF rfl (by decide) (by decide) rfl (by omega) dX12_read_18 ?_
  refine G_icmp_eq 19 29 hC dX12_read_19 (by decide) (fun h19 => ?_) (fun h19 => ?_)
  · exact absurd h19 hk
  · refine G_aload_n 22 hC rfl dX12_read_22 ?_
    refine G_iload_n 23 hC rfl dX12_read_23 ?_
    refine G_iconst 24 hC (nI 3) (by decide) dX12_read_24 ?_
    refine G_callV1 25 hC (n_failed hF (by omega)) okX12_failed lk_X12_177 ((hF.sh (o := 0) rfl (by decide)).1) rfl rfl rfl rfl (Nat.le_of_ble_eq_true rfl) (by decide) (by decide) dX12_read_25 ?_
    refine R_i 28 hR (by first | rfl | exact narrow_bI _) dX12_read_28 (Nat.le_refl _) (Nat.le_refl _) ?_
    exact ⟨rfl, rfl, rfl, rfl⟩
theorem n_read (hF : FixR b N) {t g0 sz ln it : Nat} (ht : t < 20) (hg : r 12 t = nI g0) (hg2 : g0 < 6) (hk : r 1 g0 = r 13 t) (h2 : r 2 g0 = nI sz) (hsz : sz ≤ 12) (hpl : PlOk r g0 sz) (hl : n (12 * t + 7) = nI ln) (hi : n (12 * t + 8) = nI it) (hln : ln ≤ sz) (hit : it ≤ 12) : Cq l D B mX12_read [vr (some (b + 0)), vi (nI t)] (RI b r n G) (RLg b rl S q GL) N (some (vi (F_read r rl t g0 (sz - ln) ln it n q).1)) (RI b r (F_read r rl t g0 (sz - ln) ln it n q).2.1 G) (RLg b rl S (F_read r rl t g0 (sz - ln) ln it n q).2.2 GL) := by
  obtain ⟨W, hW⟩ : ∃ W, F_read r rl t g0 (sz - ln) ln it n q = W := ⟨_, rfl⟩
  rw [hW]
  refine Ct.of (M := mX12_read) (by decide) (Nat.le_of_ble_eq_true rfl) (fun g (hR : Cr l D B RX12 cX12_read 4 "read" { frames := 2, cells := 0, slots := 0, locals := 45 } (some .int) 0 0 _ g) => ?_)
  have hC := hR.cx
  have loop : ∀ (k ln it : Nat) (n1 : Nat → Int32) (q1 : Nat → Int64) (x3 : Option MV), sz - ln = k → ln ≤ sz → it ≤ 12 → n1 (12 * t + 7) = nI ln → n1 (12 * t + 8) = nI it → F_read r rl t g0 k ln it n1 q1 = W → g 29 [some (vr (some (b + 0))), some (vi (nI t)), some (vi (nI g0)), x3] [] (RI b r n1 G) (RLg b rl S q1 GL) N 0 0 := by
    intro k
    induction k using Nat.strongRecOn with
    | _ k ih =>
      intro ln it n1 q1 x3 hk1 hln hit hl hi hE
      refine G_aload_n 29 hC rfl dX12_read_29 ?_
      refine G_iload_n 30 hC rfl dX12_read_30 ?_
      refine G_bipush 31 hC (nI 7) (by decide) dX12_read_31 ?_
      refine G_callV1 33 hC (n_at hF (by omega) (by omega)) okX12_at lk_X12_173 ((hF.sh (o := 0) rfl (by decide)).1) rfl rfl rfl rfl (Nat.le_of_ble_eq_true rfl) (by decide) (by decide) dX12_read_33 ?_
      rw [hl]
      refine G_aload_n 36 hC rfl dX12_read_36 ?_
      refine M_getR 37 hC hF fl_X12_13_11 rfl rfl dX12_read_37 ?_
      refine G_iload_n 40 hC rfl dX12_read_40 ?_
      refine N_ialdO 41 hC hF rfl (by decide) (by decide) rfl (by omega) dX12_read_41 ?_
      rw [h2]
      refine G_icmp_ge 42 182 hC dX12_read_42 (by decide) (fun h42 => ?_) (fun h42 => ?_)
      · refine G_iconst 182 hC (nI 2) (by decide) dX12_read_182 ?_
        refine R_i 183 hR (by first | rfl | exact narrow_bI _) dX12_read_183 (Nat.le_refl _) (Nat.le_refl _) ?_
        have z := (nI_leI (by omega) (by omega)).mp h42
        have hk0 : k = 0 := by omega
        subst hk0
        rw [← hE]
        exact ⟨rfl, rfl, rfl, rfl⟩
      · have a42 : ln < sz := by
          rcases Nat.lt_or_ge ln sz with z | z
          · exact z
          · exact absurd ((nI_leI (by omega) (by omega)).mpr z) h42
        obtain ⟨k, rfl⟩ : ∃ k1, k = k1 + 1 := ⟨k - 1, by omega⟩
        rcases hpl ln a42 with hp | ⟨p, hp0, hp, z, hz0, hz⟩
        · refine G_aload_n 45 hC rfl dX12_read_45 ?_
          refine M_getR 46 hC hF fl_X12_16_11 rfl rfl dX12_read_46 ?_
          refine G_bipush 49 hC (nI 20) (by decide) dX12_read_49 ?_
          refine G_iload_n 51 hC rfl dX12_read_51 ?_
          refine G_imulN 52 hC dX12_read_52 ?_
          refine G_aload_n 53 hC rfl dX12_read_53 ?_
          refine G_iload_n 54 hC rfl dX12_read_54 ?_
          refine G_bipush 55 hC (nI 7) (by decide) dX12_read_55 ?_
          refine G_callV1 57 hC (n_at hF (by omega) (by omega)) okX12_at lk_X12_173 ((hF.sh (o := 0) rfl (by decide)).1) rfl rfl rfl rfl (Nat.le_of_ble_eq_true rfl) (by decide) (by decide) dX12_read_57 ?_
          rw [hl]
          refine G_iaddN 60 hC dX12_read_60 ?_
          refine N_ialdO 61 hC hF rfl (by decide) (by decide) rfl (by omega) dX12_read_61 ?_
          rw [hp]
          refine G_istore_n 62 hC 3 rfl (by decide) (ls' := [_, _, _, _]) rfl dX12_read_62 ?_
          refine G_iload_n 63 hC rfl dX12_read_63 ?_
          refine G_if_ge 64 84 hC dX12_read_64 (by decide) (fun h64 => ?_) (fun h64 => ?_)
          · exact absurd h64 (by decide)
          · refine G_aload_n 67 hC rfl dX12_read_67 ?_
            refine M_getR 68 hC hF fl_X12_26_11 rfl rfl dX12_read_68 ?_
            refine G_iload_n 71 hC rfl dX12_read_71 ?_
            refine N_ialdO 72 hC hF rfl (by decide) (by decide) rfl (by omega) dX12_read_72 ?_
            refine G_iconst 73 hC (nI 2) (by decide) dX12_read_73 ?_
            refine G_icmp_ne 74 84 hC dX12_read_74 (by decide) (fun h74 => ?_) (fun h74 => ?_)
            · refine G_iload_n 84 hC rfl dX12_read_84 ?_
              refine G_if_ge 85 104 hC dX12_read_85 (by decide) (fun h85 => ?_) (fun h85 => ?_)
              · exact absurd h85 (by decide)
              · refine G_aload_n 88 hC rfl dX12_read_88 ?_
                refine G_iload_n 89 hC rfl dX12_read_89 ?_
                refine G_bipush 90 hC (nI 6) (by decide) dX12_read_90 ?_
                refine G_callV0 92 hC (n_more hF (by omega) (by omega)) okX12_more lk_X12_160 ((hF.sh (o := 0) rfl (by decide)).1) rfl rfl rfl rfl (Nat.le_of_ble_eq_true rfl) (by decide) (by decide) dX12_read_92 ?_
                refine G_aload_n 95 hC rfl dX12_read_95 ?_
                refine G_iload_n 96 hC rfl dX12_read_96 ?_
                refine G_bipush 97 hC (nI 7) (by decide) dX12_read_97 ?_
                refine G_callV0 99 hC (n_more hF (by omega) (by omega)) okX12_more lk_X12_160 ((hF.sh (o := 0) rfl (by decide)).1) rfl rfl rfl rfl (Nat.le_of_ble_eq_true rfl) (by decide) (by decide) dX12_read_99 ?_
                rw [up_ne (show 12 * t + 7 ≠ 12 * t + 6 by omega), hl, nI_add]
                refine G_iconst 102 hC (nI 1) (by decide) dX12_read_102 ?_
                refine R_i 103 hR (by first | rfl | exact narrow_bI _) dX12_read_103 (Nat.le_refl _) (Nat.le_refl _) ?_
                rw [← hE, F_read_m2 hp h74]
                exact ⟨rfl, rfl, rfl, rfl⟩
            · refine G_aload_n 77 hC rfl dX12_read_77 ?_
              refine G_iload_n 78 hC rfl dX12_read_78 ?_
              refine G_iconst 79 hC (nI 1) (by decide) dX12_read_79 ?_
              refine G_callV1 80 hC (n_failed hF (by omega)) okX12_failed lk_X12_177 ((hF.sh (o := 0) rfl (by decide)).1) rfl rfl rfl rfl (Nat.le_of_ble_eq_true rfl) (by decide) (by decide) dX12_read_80 ?_
              refine R_i 83 hR (by first | rfl | exact narrow_bI _) dX12_read_83 (Nat.le_refl _) (Nat.le_refl _) ?_
              rw [← hE, F_read_m1 hp h74]
              exact ⟨rfl, rfl, rfl, rfl⟩
        · refine G_aload_n 45 hC rfl dX12_read_45 ?_
          refine M_getR 46 hC hF fl_X12_16_11 rfl rfl dX12_read_46 ?_
          refine G_bipush 49 hC (nI 20) (by decide) dX12_read_49 ?_
          refine G_iload_n 51 hC rfl dX12_read_51 ?_
          refine G_imulN 52 hC dX12_read_52 ?_
          refine G_aload_n 53 hC rfl dX12_read_53 ?_
          refine G_iload_n 54 hC rfl dX12_read_54 ?_
          refine G_bipush 55 hC (nI 7) (by decide) dX12_read_55 ?_
          refine G_callV1 57 hC (n_at hF (by omega) (by omega)) okX12_at lk_X12_173 ((hF.sh (o := 0) rfl (by decide)).1) rfl rfl rfl rfl (Nat.le_of_ble_eq_true rfl) (by decide) (by decide) dX12_read_57 ?_
          rw [hl]
          refine G_iaddN 60 hC dX12_read_60 ?_
          refine N_ialdO 61 hC hF rfl (by decide) (by decide) rfl (by omega) dX12_read_61 ?_
          rw [hp]
          refine G_istore_n 62 hC 3 rfl (by decide) (ls' := [_, _, _, _]) rfl dX12_read_62 ?_
          refine G_iload_n 63 hC rfl dX12_read_63 ?_
          refine G_if_ge 64 84 hC dX12_read_64 (by decide) (fun h64 => ?_) (fun h64 => ?_)
          · refine G_iload_n 84 hC rfl dX12_read_84 ?_
            refine G_if_ge 85 104 hC dX12_read_85 (by decide) (fun h85 => ?_) (fun h85 => ?_)
            · refine G_aload_n 104 hC rfl dX12_read_104 ?_
              refine G_iload_n 105 hC rfl dX12_read_105 ?_
              refine G_bipush 106 hC (nI 8) (by decide) dX12_read_106 ?_
              refine G_callV1 108 hC (n_at hF (by omega) (by omega)) okX12_at lk_X12_173 ((hF.sh (o := 0) rfl (by decide)).1) rfl rfl rfl rfl (Nat.le_of_ble_eq_true rfl) (by decide) (by decide) dX12_read_108 ?_
              rw [hi]
              refine G_aload_n 111 hC rfl dX12_read_111 ?_
              refine M_getR 112 hC hF fl_X12_19_11 rfl rfl dX12_read_112 ?_
              refine G_iload_n 115 hC rfl dX12_read_115 ?_
              refine N_ialdO 116 hC hF rfl (by decide) (by decide) rfl (by omega) dX12_read_116 ?_
              refine G_icmp_ge 117 164 hC dX12_read_117 (by decide) (fun h117 => ?_) (fun h117 => ?_)
              · refine G_aload_n 164 hC rfl dX12_read_164 ?_
                refine G_iload_n 165 hC rfl dX12_read_165 ?_
                refine G_bipush 166 hC (nI 7) (by decide) dX12_read_166 ?_
                refine G_callV0 168 hC (n_more hF (by omega) (by omega)) okX12_more lk_X12_160 ((hF.sh (o := 0) rfl (by decide)).1) rfl rfl rfl rfl (Nat.le_of_ble_eq_true rfl) (by decide) (by decide) dX12_read_168 ?_
                rw [hl, nI_add]
                refine G_aload_n 171 hC rfl dX12_read_171 ?_
                refine G_iload_n 172 hC rfl dX12_read_172 ?_
                refine G_bipush 173 hC (nI 8) (by decide) dX12_read_173 ?_
                refine G_iconst 175 hC (nI 0) (by decide) dX12_read_175 ?_
                refine G_callV0 176 hC (n_set hF (by omega) (by omega)) okX12_set lk_X12_154 ((hF.sh (o := 0) rfl (by decide)).1) rfl rfl rfl rfl (Nat.le_of_ble_eq_true rfl) (by decide) (by decide) dX12_read_176 ?_
                refine G_goto 179 29 hC dX12_read_179 (by decide) ?_
                refine ih k (Nat.lt_succ_self k) (ln + 1) 0 _ _ _ (by omega) (by omega) (by omega) (by simp (disch := omega) only [up_ne, up_s]) (by simp only [up_s]) ?_
                rw [← hE, F_read_n hp hp0 hz hz0 hit ((nI_leI (by omega) (by omega)).mp (hz ▸ h117))]
              · have a117 : it < z := by
                  rcases Nat.lt_or_ge it z with y | y
                  · exact y
                  · exact absurd (by rw [hz]; exact (nI_leI (by omega) (by omega)).mpr y) h117
                refine G_aload_n 120 hC rfl dX12_read_120 ?_
                refine M_getR 121 hC hF fl_X12_74_11 rfl rfl dX12_read_121 ?_
                refine G_iload_n 124 hC rfl dX12_read_124 ?_
                first | refine G_dup2 125 hC rfl rfl dX12_read_125 ?_ | refine G_dup2L 125 hC dX12_read_125 ?_
                refine Q_lald 126 hC hF rfl (by omega) dX12_read_126 ?_
                refine G_aload_n 127 hC rfl dX12_read_127 ?_
                refine M_getR 128 hC hF fl_X12_22_11 rfl rfl dX12_read_128 ?_
                refine G_bipush 131 hC (nI 12) (by decide) dX12_read_131 ?_
                refine G_iload_n 133 hC rfl dX12_read_133 ?_
                refine G_imulN 134 hC dX12_read_134 ?_
                refine G_aload_n 135 hC rfl dX12_read_135 ?_
                refine G_iload_n 136 hC rfl dX12_read_136 ?_
                refine G_bipush 137 hC (nI 8) (by decide) dX12_read_137 ?_
                refine G_callV1 139 hC (n_at hF (by omega) (by omega)) okX12_at lk_X12_173 ((hF.sh (o := 0) rfl (by decide)).1) rfl rfl rfl rfl (Nat.le_of_ble_eq_true rfl) (by decide) (by decide) dX12_read_139 ?_
                rw [hi]
                refine G_iaddN 142 hC dX12_read_142 ?_
                refine Q_laldO 143 hC hF rfl (by decide) (by decide) (by decide) rfl (by omega) dX12_read_143 ?_
                refine G_callS1 144 hC (ref_worth) okX12_worth lk_X12_180 rfl rfl rfl (Nat.le_of_ble_eq_true rfl) (by decide) (by decide) dX12_read_144 ?_
                refine G_ladd 147 hC dX12_read_147 ?_
                refine Q_last 148 hC hF rfl (by omega) dX12_read_148 ?_
                refine G_aload_n 149 hC rfl dX12_read_149 ?_
                refine G_iload_n 150 hC rfl dX12_read_150 ?_
                refine G_bipush 151 hC (nI 8) (by decide) dX12_read_151 ?_
                refine G_callV0 153 hC (n_more hF (by omega) (by omega)) okX12_more lk_X12_160 ((hF.sh (o := 0) rfl (by decide)).1) rfl rfl rfl rfl (Nat.le_of_ble_eq_true rfl) (by decide) (by decide) dX12_read_153 ?_
                refine G_aload_n 156 hC rfl dX12_read_156 ?_
                refine G_iload_n 157 hC rfl dX12_read_157 ?_
                refine G_iconst 158 hC (nI 4) (by decide) dX12_read_158 ?_
                refine G_callV0 159 hC (n_more hF (by omega) (by omega)) okX12_more lk_X12_160 ((hF.sh (o := 0) rfl (by decide)).1) rfl rfl rfl rfl (Nat.le_of_ble_eq_true rfl) (by decide) (by decide) dX12_read_159 ?_
                rw [up_ne (show 12 * t + 4 ≠ 12 * t + 8 by omega), hi, nI_add]
                refine G_iconst 162 hC (nI 1) (by decide) dX12_read_162 ?_
                refine R_i 163 hR (by first | rfl | exact narrow_bI _) dX12_read_163 (Nat.le_refl _) (Nat.le_refl _) ?_
                rw [← hE, F_read_i hp hp0 hz hz0 a117]
                exact ⟨rfl, rfl, rfl, rfl⟩
            · exact absurd (nI_pos' (by omega)) h85
          · exact absurd (nI_pos' (by omega)) h64
  show g 0 [some (vr (some (b + 0))), some (vi (nI t)), none, none] [] _ _ N 0 0
  refine G_aload_n 0 hC rfl dX12_read_0 ?_
  refine M_getR 1 hC hF fl_X12_44_11 rfl rfl dX12_read_1 ?_
  refine G_iload_n 4 hC rfl dX12_read_4 ?_
  refine N_ialdO 5 hC hF rfl (by decide) (by decide) rfl (by omega) dX12_read_5 ?_
  rw [hg]
  refine G_istore_n 6 hC 2 rfl (by decide) (ls' := [_, _, _, _]) rfl dX12_read_6 ?_
  refine G_aload_n 7 hC rfl dX12_read_7 ?_
  refine M_getR 8 hC hF fl_X12_7_11 rfl rfl dX12_read_8 ?_
  refine G_iload_n 11 hC rfl dX12_read_11 ?_
  refine N_ialdO 12 hC hF rfl (by decide) (by decide) rfl (by omega) dX12_read_12 ?_
  refine G_aload_n 13 hC rfl dX12_read_13 ?_
  refine M_getR 14 hC hF fl_X12_47_11 rfl rfl dX12_read_14 ?_
  refine G_iload_n 17 hC rfl dX12_read_17 ?_
  refine N_ialdO 18 hC hF rfl (by decide) (by decide) rfl (by omega) dX12_read_18 ?_
  refine G_icmp_eq 19 29 hC dX12_read_19 (by decide) (fun h19 => ?_) (fun h19 => ?_)
  · exact loop _ ln it n q none rfl hln hit hl hi hW
  · exact absurd hk h19
end M5
end
