section
-- ===== PART A: goes FIRST, ahead of the names: the tables' words, and 'selects' of the private methods out of them =====
/-- a private method of a class that the tables say can be made, by its rows of tables_1 -/
def lw_okq (q : MethodName × Nat) : Prop := (q.1.cls ≠ "java/lang/invoke/MethodHandle" ∧ q.1.cls ≠ "java/lang/invoke/VarHandle") ∧ Cond.instantiable q.1.cls q.2 ∈ tables_1 ∧ Cond.privateMethod q.1 ∈ tables_1 ∧ Cond.instanceMethod q.1 ∈ tables_1
theorem lw_p0 : lw_okq (⟨"LastMap$Pad", "firstWrongOfSlips", "(I)I"⟩, 3) := ⟨⟨by decide +kernel, by decide +kernel⟩, List.mem_of_getElem? (i := 25) (by decide +kernel), List.mem_of_getElem? (i := 113) (by decide +kernel), List.mem_of_getElem? (i := 114) (by decide +kernel)⟩
theorem lw_p1 : lw_okq (⟨"LastMap$Pad", "firstWrongOfSlip", "(II)I"⟩, 3) := ⟨⟨by decide +kernel, by decide +kernel⟩, List.mem_of_getElem? (i := 25) (by decide +kernel), List.mem_of_getElem? (i := 117) (by decide +kernel), List.mem_of_getElem? (i := 118) (by decide +kernel)⟩
theorem lw_p2 : lw_okq (⟨"LastMap$Pad", "kindAt", "(I)I"⟩, 3) := ⟨⟨by decide +kernel, by decide +kernel⟩, List.mem_of_getElem? (i := 25) (by decide +kernel), List.mem_of_getElem? (i := 121) (by decide +kernel), List.mem_of_getElem? (i := 122) (by decide +kernel)⟩
theorem lw_p3 : lw_okq (⟨"LastMap$Pad", "signAt", "(I)I"⟩, 3) := ⟨⟨by decide +kernel, by decide +kernel⟩, List.mem_of_getElem? (i := 25) (by decide +kernel), List.mem_of_getElem? (i := 125) (by decide +kernel), List.mem_of_getElem? (i := 126) (by decide +kernel)⟩
theorem lw_p4 : lw_okq (⟨"LastMap$Pad", "lengthOfSlip", "(I)I"⟩, 3) := ⟨⟨by decide +kernel, by decide +kernel⟩, List.mem_of_getElem? (i := 25) (by decide +kernel), List.mem_of_getElem? (i := 141) (by decide +kernel), List.mem_of_getElem? (i := 142) (by decide +kernel)⟩
theorem lw_p5 : lw_okq (⟨"LastMap", "isSite", "(I)Z"⟩, 5) := ⟨⟨by decide +kernel, by decide +kernel⟩, List.mem_of_getElem? (i := 17) (by decide +kernel), List.mem_of_getElem? (i := 178) (by decide +kernel), List.mem_of_getElem? (i := 179) (by decide +kernel)⟩
theorem lw_p6 : lw_okq (⟨"LastMap", "isTold", "(I)Z"⟩, 5) := ⟨⟨by decide +kernel, by decide +kernel⟩, List.mem_of_getElem? (i := 17) (by decide +kernel), List.mem_of_getElem? (i := 182) (by decide +kernel), List.mem_of_getElem? (i := 183) (by decide +kernel)⟩
theorem lw_p7 : lw_okq (⟨"LastMap", "firstIdle", "(I)I"⟩, 5) := ⟨⟨by decide +kernel, by decide +kernel⟩, List.mem_of_getElem? (i := 17) (by decide +kernel), List.mem_of_getElem? (i := 216) (by decide +kernel), List.mem_of_getElem? (i := 217) (by decide +kernel)⟩
theorem lw_p8 : lw_okq (⟨"LastMap", "tableOf", "(II)LLastMap$Table;"⟩, 5) := ⟨⟨by decide +kernel, by decide +kernel⟩, List.mem_of_getElem? (i := 17) (by decide +kernel), List.mem_of_getElem? (i := 244) (by decide +kernel), List.mem_of_getElem? (i := 245) (by decide +kernel)⟩
theorem lw_p9 : lw_okq (⟨"LastMap", "readySearch", "()LLastMap$Search;"⟩, 5) := ⟨⟨by decide +kernel, by decide +kernel⟩, List.mem_of_getElem? (i := 17) (by decide +kernel), List.mem_of_getElem? (i := 255) (by decide +kernel), List.mem_of_getElem? (i := 256) (by decide +kernel)⟩
theorem lw_p10 : lw_okq (⟨"LastMap$Search", "takeOldest", "()LLastMap$Table;"⟩, 3) := ⟨⟨by decide +kernel, by decide +kernel⟩, List.mem_of_getElem? (i := 259) (by decide +kernel), List.mem_of_getElem? (i := 285) (by decide +kernel), List.mem_of_getElem? (i := 286) (by decide +kernel)⟩
theorem lw_p11 : lw_okq (⟨"LastMap$Table", "queueGoal", "(II)V"⟩, 7) := ⟨⟨by decide +kernel, by decide +kernel⟩, List.mem_of_getElem? (i := 288) (by decide +kernel), List.mem_of_getElem? (i := 324) (by decide +kernel), List.mem_of_getElem? (i := 325) (by decide +kernel)⟩
theorem lw_p12 : lw_okq (⟨"LastMap$Table", "reach", "(II)V"⟩, 7) := ⟨⟨by decide +kernel, by decide +kernel⟩, List.mem_of_getElem? (i := 288) (by decide +kernel), List.mem_of_getElem? (i := 328) (by decide +kernel), List.mem_of_getElem? (i := 329) (by decide +kernel)⟩
theorem lw_p13 : lw_okq (⟨"LastMap", "rowAnswer", "(LLastMap$Table;III)I"⟩, 5) := ⟨⟨by decide +kernel, by decide +kernel⟩, List.mem_of_getElem? (i := 17) (by decide +kernel), List.mem_of_getElem? (i := 336) (by decide +kernel), List.mem_of_getElem? (i := 337) (by decide +kernel)⟩
theorem lw_p14 : lw_okq (⟨"LastMap$Table", "searchFor", "(I)V"⟩, 7) := ⟨⟨by decide +kernel, by decide +kernel⟩, List.mem_of_getElem? (i := 288) (by decide +kernel), List.mem_of_getElem? (i := 344) (by decide +kernel), List.mem_of_getElem? (i := 345) (by decide +kernel)⟩
theorem lw_p15 : lw_okq (⟨"LastMap$Table", "queueBefore", "(I)V"⟩, 7) := ⟨⟨by decide +kernel, by decide +kernel⟩, List.mem_of_getElem? (i := 288) (by decide +kernel), List.mem_of_getElem? (i := 355) (by decide +kernel), List.mem_of_getElem? (i := 356) (by decide +kernel)⟩
def lw_privs_1 : List (MethodName × Nat) := [(⟨"LastMap$Pad", "firstWrongOfSlips", "(I)I"⟩, 3), (⟨"LastMap$Pad", "firstWrongOfSlip", "(II)I"⟩, 3), (⟨"LastMap$Pad", "kindAt", "(I)I"⟩, 3), (⟨"LastMap$Pad", "signAt", "(I)I"⟩, 3), (⟨"LastMap$Pad", "lengthOfSlip", "(I)I"⟩, 3), (⟨"LastMap", "isSite", "(I)Z"⟩, 5), (⟨"LastMap", "isTold", "(I)Z"⟩, 5), (⟨"LastMap", "firstIdle", "(I)I"⟩, 5), (⟨"LastMap", "tableOf", "(II)LLastMap$Table;"⟩, 5), (⟨"LastMap", "readySearch", "()LLastMap$Search;"⟩, 5), (⟨"LastMap$Search", "takeOldest", "()LLastMap$Table;"⟩, 3), (⟨"LastMap$Table", "queueGoal", "(II)V"⟩, 7), (⟨"LastMap$Table", "reach", "(II)V"⟩, 7), (⟨"LastMap", "rowAnswer", "(LLastMap$Table;III)I"⟩, 5), (⟨"LastMap$Table", "searchFor", "(I)V"⟩, 7), (⟨"LastMap$Table", "queueBefore", "(I)V"⟩, 7)]
theorem lw_r1 : ∀ q ∈ lw_privs_1, lw_okq q := List.forall_mem_cons.mpr ⟨lw_p0, List.forall_mem_cons.mpr ⟨lw_p1, List.forall_mem_cons.mpr ⟨lw_p2, List.forall_mem_cons.mpr ⟨lw_p3, List.forall_mem_cons.mpr ⟨lw_p4, List.forall_mem_cons.mpr ⟨lw_p5, List.forall_mem_cons.mpr ⟨lw_p6, List.forall_mem_cons.mpr ⟨lw_p7, List.forall_mem_cons.mpr ⟨lw_p8, List.forall_mem_cons.mpr ⟨lw_p9, List.forall_mem_cons.mpr ⟨lw_p10, List.forall_mem_cons.mpr ⟨lw_p11, List.forall_mem_cons.mpr ⟨lw_p12, List.forall_mem_cons.mpr ⟨lw_p13, List.forall_mem_cons.mpr ⟨lw_p14, List.forall_mem_cons.mpr ⟨lw_p15, fun _ h => absurd h List.not_mem_nil⟩⟩⟩⟩⟩⟩⟩⟩⟩⟩⟩⟩⟩⟩⟩⟩
theorem lw_p16 : lw_okq (⟨"LastMap$Table", "canHaveMade", "(II)Z"⟩, 7) := ⟨⟨by decide +kernel, by decide +kernel⟩, List.mem_of_getElem? (i := 288) (by decide +kernel), List.mem_of_getElem? (i := 360) (by decide +kernel), List.mem_of_getElem? (i := 361) (by decide +kernel)⟩
theorem lw_p17 : lw_okq (⟨"LastMap", "firstNearer", "(LLastMap$Table;II)I"⟩, 5) := ⟨⟨by decide +kernel, by decide +kernel⟩, List.mem_of_getElem? (i := 17) (by decide +kernel), List.mem_of_getElem? (i := 364) (by decide +kernel), List.mem_of_getElem? (i := 365) (by decide +kernel)⟩
theorem lw_p18 : lw_okq (⟨"LastMap", "areTold", "(I)Z"⟩, 5) := ⟨⟨by decide +kernel, by decide +kernel⟩, List.mem_of_getElem? (i := 17) (by decide +kernel), List.mem_of_getElem? (i := 396) (by decide +kernel), List.mem_of_getElem? (i := 397) (by decide +kernel)⟩
theorem lw_p19 : lw_okq (⟨"LastMap", "noteAllTo", "(III)V"⟩, 5) := ⟨⟨by decide +kernel, by decide +kernel⟩, List.mem_of_getElem? (i := 17) (by decide +kernel), List.mem_of_getElem? (i := 422) (by decide +kernel), List.mem_of_getElem? (i := 423) (by decide +kernel)⟩
theorem lw_p20 : lw_okq (⟨"LastMap$Trees", "draw", "(IIIZ)V"⟩, 5) := ⟨⟨by decide +kernel, by decide +kernel⟩, List.mem_of_getElem? (i := 400) (by decide +kernel), List.mem_of_getElem? (i := 438) (by decide +kernel), List.mem_of_getElem? (i := 439) (by decide +kernel)⟩
theorem lw_p21 : lw_okq (⟨"LastMap$Trees", "weigh", "(I)V"⟩, 5) := ⟨⟨by decide +kernel, by decide +kernel⟩, List.mem_of_getElem? (i := 400) (by decide +kernel), List.mem_of_getElem? (i := 442) (by decide +kernel), List.mem_of_getElem? (i := 443) (by decide +kernel)⟩
theorem lw_p22 : lw_okq (⟨"LastMap$Trees", "slipsOf", "(II)I"⟩, 5) := ⟨⟨by decide +kernel, by decide +kernel⟩, List.mem_of_getElem? (i := 400) (by decide +kernel), List.mem_of_getElem? (i := 450) (by decide +kernel), List.mem_of_getElem? (i := 451) (by decide +kernel)⟩
theorem lw_p23 : lw_okq (⟨"LastMap$Trees", "comesOf", "(II)Z"⟩, 5) := ⟨⟨by decide +kernel, by decide +kernel⟩, List.mem_of_getElem? (i := 400) (by decide +kernel), List.mem_of_getElem? (i := 454) (by decide +kernel), List.mem_of_getElem? (i := 455) (by decide +kernel)⟩
theorem lw_p24 : lw_okq (⟨"LastMap", "goalPast", "(II)I"⟩, 5) := ⟨⟨by decide +kernel, by decide +kernel⟩, List.mem_of_getElem? (i := 17) (by decide +kernel), List.mem_of_getElem? (i := 497) (by decide +kernel), List.mem_of_getElem? (i := 498) (by decide +kernel)⟩
theorem lw_p25 : lw_okq (⟨"LastMap", "mostAt", "(II)I"⟩, 5) := ⟨⟨by decide +kernel, by decide +kernel⟩, List.mem_of_getElem? (i := 17) (by decide +kernel), List.mem_of_getElem? (i := 507) (by decide +kernel), List.mem_of_getElem? (i := 508) (by decide +kernel)⟩
theorem lw_p26 : lw_okq (⟨"LastMap", "howMany", "(III)I"⟩, 5) := ⟨⟨by decide +kernel, by decide +kernel⟩, List.mem_of_getElem? (i := 17) (by decide +kernel), List.mem_of_getElem? (i := 511) (by decide +kernel), List.mem_of_getElem? (i := 512) (by decide +kernel)⟩
theorem lw_p27 : lw_okq (⟨"LastMap", "afterDraw", "(III)I"⟩, 5) := ⟨⟨by decide +kernel, by decide +kernel⟩, List.mem_of_getElem? (i := 17) (by decide +kernel), List.mem_of_getElem? (i := 547) (by decide +kernel), List.mem_of_getElem? (i := 548) (by decide +kernel)⟩
theorem lw_p28 : lw_okq (⟨"LastMap", "isSome", "(III)Z"⟩, 5) := ⟨⟨by decide +kernel, by decide +kernel⟩, List.mem_of_getElem? (i := 17) (by decide +kernel), List.mem_of_getElem? (i := 551) (by decide +kernel), List.mem_of_getElem? (i := 552) (by decide +kernel)⟩
theorem lw_p29 : lw_okq (⟨"LastMapModel", "begin", "(I)V"⟩, 28) := ⟨⟨by decide +kernel, by decide +kernel⟩, List.mem_of_getElem? (i := 573) (by decide +kernel), List.mem_of_getElem? (i := 579) (by decide +kernel), List.mem_of_getElem? (i := 580) (by decide +kernel)⟩
theorem lw_p30 : lw_okq (⟨"LastMapModel", "findParts", "()V"⟩, 28) := ⟨⟨by decide +kernel, by decide +kernel⟩, List.mem_of_getElem? (i := 573) (by decide +kernel), List.mem_of_getElem? (i := 583) (by decide +kernel), List.mem_of_getElem? (i := 584) (by decide +kernel)⟩
theorem lw_p31 : lw_okq (⟨"LastMapModel", "faultOfMap", "(Z)I"⟩, 28) := ⟨⟨by decide +kernel, by decide +kernel⟩, List.mem_of_getElem? (i := 573) (by decide +kernel), List.mem_of_getElem? (i := 696) (by decide +kernel), List.mem_of_getElem? (i := 697) (by decide +kernel)⟩
def lw_privs_2 : List (MethodName × Nat) := [(⟨"LastMap$Table", "canHaveMade", "(II)Z"⟩, 7), (⟨"LastMap", "firstNearer", "(LLastMap$Table;II)I"⟩, 5), (⟨"LastMap", "areTold", "(I)Z"⟩, 5), (⟨"LastMap", "noteAllTo", "(III)V"⟩, 5), (⟨"LastMap$Trees", "draw", "(IIIZ)V"⟩, 5), (⟨"LastMap$Trees", "weigh", "(I)V"⟩, 5), (⟨"LastMap$Trees", "slipsOf", "(II)I"⟩, 5), (⟨"LastMap$Trees", "comesOf", "(II)Z"⟩, 5), (⟨"LastMap", "goalPast", "(II)I"⟩, 5), (⟨"LastMap", "mostAt", "(II)I"⟩, 5), (⟨"LastMap", "howMany", "(III)I"⟩, 5), (⟨"LastMap", "afterDraw", "(III)I"⟩, 5), (⟨"LastMap", "isSome", "(III)Z"⟩, 5), (⟨"LastMapModel", "begin", "(I)V"⟩, 28), (⟨"LastMapModel", "findParts", "()V"⟩, 28), (⟨"LastMapModel", "faultOfMap", "(Z)I"⟩, 28)]
theorem lw_r2 : ∀ q ∈ lw_privs_2, lw_okq q := List.forall_mem_cons.mpr ⟨lw_p16, List.forall_mem_cons.mpr ⟨lw_p17, List.forall_mem_cons.mpr ⟨lw_p18, List.forall_mem_cons.mpr ⟨lw_p19, List.forall_mem_cons.mpr ⟨lw_p20, List.forall_mem_cons.mpr ⟨lw_p21, List.forall_mem_cons.mpr ⟨lw_p22, List.forall_mem_cons.mpr ⟨lw_p23, List.forall_mem_cons.mpr ⟨lw_p24, List.forall_mem_cons.mpr ⟨lw_p25, List.forall_mem_cons.mpr ⟨lw_p26, List.forall_mem_cons.mpr ⟨lw_p27, List.forall_mem_cons.mpr ⟨lw_p28, List.forall_mem_cons.mpr ⟨lw_p29, List.forall_mem_cons.mpr ⟨lw_p30, List.forall_mem_cons.mpr ⟨lw_p31, fun _ h => absurd h List.not_mem_nil⟩⟩⟩⟩⟩⟩⟩⟩⟩⟩⟩⟩⟩⟩⟩⟩
theorem lw_p32 : lw_okq (⟨"LastMapModel", "faultOfSlips", "()I"⟩, 28) := ⟨⟨by decide +kernel, by decide +kernel⟩, List.mem_of_getElem? (i := 573) (by decide +kernel), List.mem_of_getElem? (i := 705) (by decide +kernel), List.mem_of_getElem? (i := 706) (by decide +kernel)⟩
theorem lw_p33 : lw_okq (⟨"LastMapModel", "isSite", "(I)Z"⟩, 28) := ⟨⟨by decide +kernel, by decide +kernel⟩, List.mem_of_getElem? (i := 573) (by decide +kernel), List.mem_of_getElem? (i := 724) (by decide +kernel), List.mem_of_getElem? (i := 725) (by decide +kernel)⟩
theorem lw_p34 : lw_okq (⟨"LastMapModel", "isTold", "(I)Z"⟩, 28) := ⟨⟨by decide +kernel, by decide +kernel⟩, List.mem_of_getElem? (i := 573) (by decide +kernel), List.mem_of_getElem? (i := 728) (by decide +kernel), List.mem_of_getElem? (i := 729) (by decide +kernel)⟩
theorem lw_p35 : lw_okq (⟨"LastMapModel", "signAt", "(II)I"⟩, 28) := ⟨⟨by decide +kernel, by decide +kernel⟩, List.mem_of_getElem? (i := 573) (by decide +kernel), List.mem_of_getElem? (i := 732) (by decide +kernel), List.mem_of_getElem? (i := 733) (by decide +kernel)⟩
theorem lw_p36 : lw_okq (⟨"LastMapModel", "badFrom", "(I)I"⟩, 28) := ⟨⟨by decide +kernel, by decide +kernel⟩, List.mem_of_getElem? (i := 573) (by decide +kernel), List.mem_of_getElem? (i := 752) (by decide +kernel), List.mem_of_getElem? (i := 753) (by decide +kernel)⟩
theorem lw_p37 : lw_okq (⟨"LastMapModel", "slipped", "(II)I"⟩, 28) := ⟨⟨by decide +kernel, by decide +kernel⟩, List.mem_of_getElem? (i := 573) (by decide +kernel), List.mem_of_getElem? (i := 756) (by decide +kernel), List.mem_of_getElem? (i := 757) (by decide +kernel)⟩
theorem lw_p38 : lw_okq (⟨"LastMapModel", "with", "(III)I"⟩, 28) := ⟨⟨by decide +kernel, by decide +kernel⟩, List.mem_of_getElem? (i := 573) (by decide +kernel), List.mem_of_getElem? (i := 760) (by decide +kernel), List.mem_of_getElem? (i := 761) (by decide +kernel)⟩
theorem lw_p39 : lw_okq (⟨"LastMapModel", "farOf", "(III)I"⟩, 28) := ⟨⟨by decide +kernel, by decide +kernel⟩, List.mem_of_getElem? (i := 573) (by decide +kernel), List.mem_of_getElem? (i := 772) (by decide +kernel), List.mem_of_getElem? (i := 773) (by decide +kernel)⟩
theorem lw_p40 : lw_okq (⟨"LastMapModel", "goFrom", "(II)V"⟩, 28) := ⟨⟨by decide +kernel, by decide +kernel⟩, List.mem_of_getElem? (i := 573) (by decide +kernel), List.mem_of_getElem? (i := 776) (by decide +kernel), List.mem_of_getElem? (i := 777) (by decide +kernel)⟩
theorem lw_p41 : lw_okq (⟨"LastMapModel", "all", "()I"⟩, 28) := ⟨⟨by decide +kernel, by decide +kernel⟩, List.mem_of_getElem? (i := 573) (by decide +kernel), List.mem_of_getElem? (i := 780) (by decide +kernel), List.mem_of_getElem? (i := 781) (by decide +kernel)⟩
theorem lw_p42 : lw_okq (⟨"LastMapModel", "slipsThere", "()I"⟩, 28) := ⟨⟨by decide +kernel, by decide +kernel⟩, List.mem_of_getElem? (i := 573) (by decide +kernel), List.mem_of_getElem? (i := 784) (by decide +kernel), List.mem_of_getElem? (i := 785) (by decide +kernel)⟩
theorem lw_p43 : lw_okq (⟨"LastMapModel", "slipAt", "(I)I"⟩, 28) := ⟨⟨by decide +kernel, by decide +kernel⟩, List.mem_of_getElem? (i := 573) (by decide +kernel), List.mem_of_getElem? (i := 788) (by decide +kernel), List.mem_of_getElem? (i := 789) (by decide +kernel)⟩
theorem lw_p44 : lw_okq (⟨"LastMapModel", "slipTo", "(II)I"⟩, 28) := ⟨⟨by decide +kernel, by decide +kernel⟩, List.mem_of_getElem? (i := 573) (by decide +kernel), List.mem_of_getElem? (i := 795) (by decide +kernel), List.mem_of_getElem? (i := 796) (by decide +kernel)⟩
theorem lw_p45 : lw_okq (⟨"LastMapModel", "areTold", "(I)Z"⟩, 28) := ⟨⟨by decide +kernel, by decide +kernel⟩, List.mem_of_getElem? (i := 573) (by decide +kernel), List.mem_of_getElem? (i := 814) (by decide +kernel), List.mem_of_getElem? (i := 815) (by decide +kernel)⟩
theorem lw_p46 : lw_okq (⟨"LastMapModel", "findTrees", "(II)V"⟩, 28) := ⟨⟨by decide +kernel, by decide +kernel⟩, List.mem_of_getElem? (i := 573) (by decide +kernel), List.mem_of_getElem? (i := 818) (by decide +kernel), List.mem_of_getElem? (i := 819) (by decide +kernel)⟩
theorem lw_p47 : lw_okq (⟨"LastMapModel", "findOffs", "(II)V"⟩, 28) := ⟨⟨by decide +kernel, by decide +kernel⟩, List.mem_of_getElem? (i := 573) (by decide +kernel), List.mem_of_getElem? (i := 822) (by decide +kernel), List.mem_of_getElem? (i := 823) (by decide +kernel)⟩
def lw_privs_3 : List (MethodName × Nat) := [(⟨"LastMapModel", "faultOfSlips", "()I"⟩, 28), (⟨"LastMapModel", "isSite", "(I)Z"⟩, 28), (⟨"LastMapModel", "isTold", "(I)Z"⟩, 28), (⟨"LastMapModel", "signAt", "(II)I"⟩, 28), (⟨"LastMapModel", "badFrom", "(I)I"⟩, 28), (⟨"LastMapModel", "slipped", "(II)I"⟩, 28), (⟨"LastMapModel", "with", "(III)I"⟩, 28), (⟨"LastMapModel", "farOf", "(III)I"⟩, 28), (⟨"LastMapModel", "goFrom", "(II)V"⟩, 28), (⟨"LastMapModel", "all", "()I"⟩, 28), (⟨"LastMapModel", "slipsThere", "()I"⟩, 28), (⟨"LastMapModel", "slipAt", "(I)I"⟩, 28), (⟨"LastMapModel", "slipTo", "(II)I"⟩, 28), (⟨"LastMapModel", "areTold", "(I)Z"⟩, 28), (⟨"LastMapModel", "findTrees", "(II)V"⟩, 28), (⟨"LastMapModel", "findOffs", "(II)V"⟩, 28)]
theorem lw_r3 : ∀ q ∈ lw_privs_3, lw_okq q := List.forall_mem_cons.mpr ⟨lw_p32, List.forall_mem_cons.mpr ⟨lw_p33, List.forall_mem_cons.mpr ⟨lw_p34, List.forall_mem_cons.mpr ⟨lw_p35, List.forall_mem_cons.mpr ⟨lw_p36, List.forall_mem_cons.mpr ⟨lw_p37, List.forall_mem_cons.mpr ⟨lw_p38, List.forall_mem_cons.mpr ⟨lw_p39, List.forall_mem_cons.mpr ⟨lw_p40, List.forall_mem_cons.mpr ⟨lw_p41, List.forall_mem_cons.mpr ⟨lw_p42, List.forall_mem_cons.mpr ⟨lw_p43, List.forall_mem_cons.mpr ⟨lw_p44, List.forall_mem_cons.mpr ⟨lw_p45, List.forall_mem_cons.mpr ⟨lw_p46, List.forall_mem_cons.mpr ⟨lw_p47, fun _ h => absurd h List.not_mem_nil⟩⟩⟩⟩⟩⟩⟩⟩⟩⟩⟩⟩⟩⟩⟩⟩
theorem lw_p48 : lw_okq (⟨"LastMapModel", "layTree", "(II)Z"⟩, 28) := ⟨⟨by decide +kernel, by decide +kernel⟩, List.mem_of_getElem? (i := 573) (by decide +kernel), List.mem_of_getElem? (i := 826) (by decide +kernel), List.mem_of_getElem? (i := 827) (by decide +kernel)⟩
theorem lw_p49 : lw_okq (⟨"LastMapModel", "noRounds", "(I)Z"⟩, 28) := ⟨⟨by decide +kernel, by decide +kernel⟩, List.mem_of_getElem? (i := 573) (by decide +kernel), List.mem_of_getElem? (i := 830) (by decide +kernel), List.mem_of_getElem? (i := 831) (by decide +kernel)⟩
theorem lw_p50 : lw_okq (⟨"LastMapModel", "sumOfTree", "(I)I"⟩, 28) := ⟨⟨by decide +kernel, by decide +kernel⟩, List.mem_of_getElem? (i := 573) (by decide +kernel), List.mem_of_getElem? (i := 834) (by decide +kernel), List.mem_of_getElem? (i := 835) (by decide +kernel)⟩
theorem lw_p51 : lw_okq (⟨"LastMapModel", "findToward", "(II)V"⟩, 28) := ⟨⟨by decide +kernel, by decide +kernel⟩, List.mem_of_getElem? (i := 573) (by decide +kernel), List.mem_of_getElem? (i := 842) (by decide +kernel), List.mem_of_getElem? (i := 843) (by decide +kernel)⟩
theorem lw_p52 : lw_okq (⟨"LastMapModel", "leadsTo", "(III)Z"⟩, 28) := ⟨⟨by decide +kernel, by decide +kernel⟩, List.mem_of_getElem? (i := 573) (by decide +kernel), List.mem_of_getElem? (i := 846) (by decide +kernel), List.mem_of_getElem? (i := 847) (by decide +kernel)⟩
theorem lw_p53 : lw_okq (⟨"LastMapModel", "isWished", "(III)Z"⟩, 28) := ⟨⟨by decide +kernel, by decide +kernel⟩, List.mem_of_getElem? (i := 573) (by decide +kernel), List.mem_of_getElem? (i := 854) (by decide +kernel), List.mem_of_getElem? (i := 855) (by decide +kernel)⟩
theorem lw_p54 : lw_okq (⟨"LastMapModel", "mostAt", "(II)I"⟩, 28) := ⟨⟨by decide +kernel, by decide +kernel⟩, List.mem_of_getElem? (i := 573) (by decide +kernel), List.mem_of_getElem? (i := 862) (by decide +kernel), List.mem_of_getElem? (i := 863) (by decide +kernel)⟩
theorem lw_p55 : lw_okq (⟨"LastMapModel", "holdsAt", "(II)Z"⟩, 28) := ⟨⟨by decide +kernel, by decide +kernel⟩, List.mem_of_getElem? (i := 573) (by decide +kernel), List.mem_of_getElem? (i := 866) (by decide +kernel), List.mem_of_getElem? (i := 867) (by decide +kernel)⟩
theorem lw_p56 : lw_okq (⟨"LastMapModel", "otherThan", "(II)I"⟩, 28) := ⟨⟨by decide +kernel, by decide +kernel⟩, List.mem_of_getElem? (i := 573) (by decide +kernel), List.mem_of_getElem? (i := 882) (by decide +kernel), List.mem_of_getElem? (i := 883) (by decide +kernel)⟩
theorem lw_p57 : lw_okq (⟨"LastMapModel", "slipsFrom", "(III)I"⟩, 28) := ⟨⟨by decide +kernel, by decide +kernel⟩, List.mem_of_getElem? (i := 573) (by decide +kernel), List.mem_of_getElem? (i := 899) (by decide +kernel), List.mem_of_getElem? (i := 900) (by decide +kernel)⟩
theorem lw_p58 : lw_okq (⟨"LastMapModel", "passAll", "()V"⟩, 28) := ⟨⟨by decide +kernel, by decide +kernel⟩, List.mem_of_getElem? (i := 573) (by decide +kernel), List.mem_of_getElem? (i := 907) (by decide +kernel), List.mem_of_getElem? (i := 908) (by decide +kernel)⟩
theorem lw_p59 : lw_okq (⟨"LastMapModel", "pass", "(I)I"⟩, 28) := ⟨⟨by decide +kernel, by decide +kernel⟩, List.mem_of_getElem? (i := 573) (by decide +kernel), List.mem_of_getElem? (i := 911) (by decide +kernel), List.mem_of_getElem? (i := 912) (by decide +kernel)⟩
def lw_privs_4 : List (MethodName × Nat) := [(⟨"LastMapModel", "layTree", "(II)Z"⟩, 28), (⟨"LastMapModel", "noRounds", "(I)Z"⟩, 28), (⟨"LastMapModel", "sumOfTree", "(I)I"⟩, 28), (⟨"LastMapModel", "findToward", "(II)V"⟩, 28), (⟨"LastMapModel", "leadsTo", "(III)Z"⟩, 28), (⟨"LastMapModel", "isWished", "(III)Z"⟩, 28), (⟨"LastMapModel", "mostAt", "(II)I"⟩, 28), (⟨"LastMapModel", "holdsAt", "(II)Z"⟩, 28), (⟨"LastMapModel", "otherThan", "(II)I"⟩, 28), (⟨"LastMapModel", "slipsFrom", "(III)I"⟩, 28), (⟨"LastMapModel", "passAll", "()V"⟩, 28), (⟨"LastMapModel", "pass", "(I)I"⟩, 28)]
theorem lw_r4 : ∀ q ∈ lw_privs_4, lw_okq q := List.forall_mem_cons.mpr ⟨lw_p48, List.forall_mem_cons.mpr ⟨lw_p49, List.forall_mem_cons.mpr ⟨lw_p50, List.forall_mem_cons.mpr ⟨lw_p51, List.forall_mem_cons.mpr ⟨lw_p52, List.forall_mem_cons.mpr ⟨lw_p53, List.forall_mem_cons.mpr ⟨lw_p54, List.forall_mem_cons.mpr ⟨lw_p55, List.forall_mem_cons.mpr ⟨lw_p56, List.forall_mem_cons.mpr ⟨lw_p57, List.forall_mem_cons.mpr ⟨lw_p58, List.forall_mem_cons.mpr ⟨lw_p59, fun _ h => absurd h List.not_mem_nil⟩⟩⟩⟩⟩⟩⟩⟩⟩⟩⟩⟩
def lw_privs : List (MethodName × Nat) := lw_privs_1 ++ (lw_privs_2 ++ (lw_privs_3 ++ (lw_privs_4)))
def lw_tbl : List Cond := k2_sels lw_privs ++ tables_1
theorem lw_privs_ok : ∀ q ∈ lw_privs, lw_okq q := by
  show ∀ q ∈ lw_privs_1 ++ (lw_privs_2 ++ (lw_privs_3 ++ (lw_privs_4))), lw_okq q
  exact List.forall_mem_append.mpr ⟨lw_r1, List.forall_mem_append.mpr ⟨lw_r2, List.forall_mem_append.mpr ⟨lw_r3, lw_r4⟩⟩⟩
-- ===== end of PART A; then your names; then what follows =====
end
section
theorem goodIn_r {big : List Cond} (ws : List Cond) (ps : List Nat) (hp : ws = ps.filterMap (fun i => big[i]?)) (h : ws.all goodWord = true) : GoodIn big ws := by
  intro w hw
  have h1 := List.all_eq_true.mp h w hw
  rw [hp] at hw
  obtain ⟨i, -, hi⟩ := List.mem_filterMap.mp hw
  have hm : w ∈ big := by first | exact List.mem_of_getElem? hi | exact List.getElem?_mem hi
  exact ⟨hm, good_of_word h1⟩
theorem goodIn_app {big a b : List Cond} (ha : GoodIn big a) (hb : GoodIn big b) : GoodIn big (a ++ b) := fun w h => (List.mem_append.mp h).elim (ha w) (hb w)
theorem goodIn_ca {big a b : List Cond} {c : Cond} (ha : GoodIn big (c :: a)) (hb : GoodIn big b) : GoodIn big (c :: (a ++ b)) := fun w h => (List.mem_cons.mp h).elim (fun e => ha w (List.mem_cons.mpr (Or.inl e))) (fun h => (List.mem_append.mp h).elim (fun h => ha w (List.mem_cons.mpr (Or.inr h))) (hb w))
theorem goodIn_sub {big ws : List Cond} (hm : ∀ w ∈ ws, w ∈ big) (h : ws.all goodWord = true) : GoodIn big ws := fun w hw => ⟨hm w hw, good_of_word (List.all_eq_true.mp h w hw)⟩

def RX0 : String := "LastMap$Goals"
def TX0 : u_T := fun k => match k with
  | _ => ("", "", "", false)
def tyX0 : Nat → FieldType := fun k => match k with
  | _ => .int
abbrev wsX00 : List Cond := u_ws RX0 TX0 0
theorem nmX0 : ∀ a, a < 0 → ∀ b, b < 0 → a ≠ b → (TX0 a).2.1 ≠ (TX0 b).2.1 := by decide +kernel
theorem tyX0_ok : ∀ k, k < 0 → parseFieldDescriptor (TX0 k).2.2.1 = some (tyX0 k) := by decide +kernel
abbrev cX0_with : ByteArray := prog_2_method_2_code
def yX0_with : MethodName := ⟨RX0, "with", "(III)I"⟩
abbrev cX0_markAt : ByteArray := prog_2_method_3_code
def yX0_markAt : MethodName := ⟨RX0, "markAt", "(II)I"⟩
abbrev cX0_onlyMap : ByteArray := prog_2_method_4_code
def yX0_onlyMap : MethodName := ⟨RX0, "onlyMap", "(II)I"⟩
def RX1 : String := "LastMap$Maps"
def TX1 : u_T := fun k => match k with
  | _ => ("", "", "", false)
def tyX1 : Nat → FieldType := fun k => match k with
  | _ => .int
abbrev wsX10 : List Cond := u_ws RX1 TX1 0
theorem nmX1 : ∀ a, a < 0 → ∀ b, b < 0 → a ≠ b → (TX1 a).2.1 ≠ (TX1 b).2.1 := by decide +kernel
theorem tyX1_ok : ∀ k, k < 0 → parseFieldDescriptor (TX1 k).2.2.1 = some (tyX1 k) := by decide +kernel
abbrev cX1_weight : ByteArray := prog_3_method_2_code
def yX1_weight : MethodName := ⟨RX1, "weight", "(I)I"⟩
abbrev cX1_countOf : ByteArray := prog_3_method_3_code
def yX1_countOf : MethodName := ⟨RX1, "countOf", "(I)I"⟩
abbrev cX1_signAt : ByteArray := prog_3_method_4_code
def yX1_signAt : MethodName := ⟨RX1, "signAt", "(II)I"⟩
abbrev cX1_signBy : ByteArray := prog_3_method_5_code
def yX1_signBy : MethodName := ⟨RX1, "signBy", "(II)I"⟩
abbrev cX1_with : ByteArray := prog_3_method_6_code
def yX1_with : MethodName := ⟨RX1, "with", "(III)I"⟩
abbrev cX1_unlike : ByteArray := prog_3_method_7_code
def yX1_unlike : MethodName := ⟨RX1, "unlike", "(II)I"⟩
def RX2 : String := "LastMap$Pad"
def TX2 : u_T := fun k => match k with
  | 0 => ("LastMap$Pad", "signs", "[I", true)
  | 1 => ("LastMap$Pad", "slips", "[I", true)
  | _ => ("LastMap$Pad", "length", "I", false)
def tyX2 : Nat → FieldType := fun k => match k with
  | 0 => .array .int
  | 1 => .array .int
  | _ => .int
abbrev wsX20 : List Cond := u_ws RX2 TX2 3
theorem nmX2 : ∀ a, a < 3 → ∀ b, b < 3 → a ≠ b → (TX2 a).2.1 ≠ (TX2 b).2.1 := by decide +kernel
theorem tyX2_ok : ∀ k, k < 3 → parseFieldDescriptor (TX2 k).2.2.1 = some (tyX2 k) := by decide +kernel
abbrev cX2_init : ByteArray := prog_4_method_1_code
def yX2_init : MethodName := ⟨RX2, "<init>", "()V"⟩
abbrev cX2_put : ByteArray := prog_4_method_2_code
def yX2_put : MethodName := ⟨RX2, "put", "(I)Z"⟩
abbrev cX2_signAt : ByteArray := prog_4_method_3_code
def yX2_signAt : MethodName := ⟨RX2, "signAt", "(I)I"⟩
abbrev cX2_markAt : ByteArray := prog_4_method_4_code
def yX2_markAt : MethodName := ⟨RX2, "markAt", "(I)I"⟩
abbrev cX2_firstWrong : ByteArray := prog_4_method_5_code
def yX2_firstWrong : MethodName := ⟨RX2, "firstWrong", "(II)I"⟩
abbrev cX2_firstWrongOfSlips : ByteArray := prog_4_method_6_code
def yX2_firstWrongOfSlips : MethodName := ⟨RX2, "firstWrongOfSlips", "(I)I"⟩
abbrev cX2_firstWrongOfSlip : ByteArray := prog_4_method_7_code
def yX2_firstWrongOfSlip : MethodName := ⟨RX2, "firstWrongOfSlip", "(II)I"⟩
abbrev cX2_kindAt : ByteArray := prog_4_method_8_code
def yX2_kindAt : MethodName := ⟨RX2, "kindAt", "(I)I"⟩
abbrev cX2_lengthOfSlip : ByteArray := prog_4_method_9_code
def yX2_lengthOfSlip : MethodName := ⟨RX2, "lengthOfSlip", "(I)I"⟩
abbrev cX2_mapCode : ByteArray := prog_4_method_10_code
def yX2_mapCode : MethodName := ⟨RX2, "mapCode", "()I"⟩
abbrev cX2_readSlips : ByteArray := prog_4_method_11_code
def yX2_readSlips : MethodName := ⟨RX2, "readSlips", "()I"⟩
abbrev cX2_slipAt : ByteArray := prog_4_method_12_code
def yX2_slipAt : MethodName := ⟨RX2, "slipAt", "(I)I"⟩
def RX3 : String := "LastMap$Papers"
def TX3 : u_T := fun k => match k with
  | 0 => ("LastMap$Papers", "siteCount", "I", false)
  | 1 => ("LastMap$Papers", "toldMaps", "I", false)
  | 2 => ("LastMap$Papers", "spadeCount", "I", false)
  | 3 => ("LastMap$Papers", "ground", "I", false)
  | 4 => ("LastMap$Papers", "codes", "[I", true)
  | _ => ("LastMap$Papers", "kinds", "[I", true)
def tyX3 : Nat → FieldType := fun k => match k with
  | 0 => .int
  | 1 => .int
  | 2 => .int
  | 3 => .int
  | 4 => .array .int
  | _ => .array .int
abbrev wsX30 : List Cond := u_ws RX3 TX3 6
theorem nmX3 : ∀ a, a < 6 → ∀ b, b < 6 → a ≠ b → (TX3 a).2.1 ≠ (TX3 b).2.1 := by decide +kernel
theorem tyX3_ok : ∀ k, k < 6 → parseFieldDescriptor (TX3 k).2.2.1 = some (tyX3 k) := by decide +kernel
abbrev cX3_init : ByteArray := prog_5_method_1_code
def yX3_init : MethodName := ⟨RX3, "<init>", "()V"⟩
abbrev cX3_codeOf : ByteArray := prog_5_method_2_code
def yX3_codeOf : MethodName := ⟨RX3, "codeOf", "(I)I"⟩
abbrev cX3_tell : ByteArray := prog_5_method_3_code
def yX3_tell : MethodName := ⟨RX3, "tell", "(II)V"⟩
abbrev cX3_kindsOf : ByteArray := prog_5_method_4_code
def yX3_kindsOf : MethodName := ⟨RX3, "kindsOf", "(I)I"⟩
abbrev cX3_teach : ByteArray := prog_5_method_5_code
def yX3_teach : MethodName := ⟨RX3, "teach", "(II)V"⟩
abbrev cX3_take : ByteArray := prog_5_method_6_code
def yX3_take : MethodName := ⟨RX3, "take", "(LLastMap$Papers;)V"⟩
def RX4 : String := "LastMap$Search"
def TX4 : u_T := fun k => match k with
  | 0 => ("LastMap$Search", "tables", "[LLastMap$Table;", true)
  | 1 => ("LastMap$Search", "sums", "[I", true)
  | _ => ("LastMap$Search", "oldest", "I", false)
def tyX4 : Nat → FieldType := fun k => match k with
  | 0 => .array (.object "LastMap$Table")
  | 1 => .array .int
  | _ => .int
abbrev wsX40 : List Cond := u_ws RX4 TX4 3
theorem nmX4 : ∀ a, a < 3 → ∀ b, b < 3 → a ≠ b → (TX4 a).2.1 ≠ (TX4 b).2.1 := by decide +kernel
theorem tyX4_ok : ∀ k, k < 3 → parseFieldDescriptor (TX4 k).2.2.1 = some (tyX4 k) := by decide +kernel
abbrev cX4_init : ByteArray := prog_6_method_1_code
def yX4_init : MethodName := ⟨RX4, "<init>", "()V"⟩
abbrev cX4_toward : ByteArray := prog_6_method_2_code
def yX4_toward : MethodName := ⟨RX4, "toward", "(III)LLastMap$Table;"⟩
abbrev cX4_takeOldest : ByteArray := prog_6_method_3_code
def yX4_takeOldest : MethodName := ⟨RX4, "takeOldest", "()LLastMap$Table;"⟩
abbrev cX4_clearSums : ByteArray := prog_6_method_4_code
def yX4_clearSums : MethodName := ⟨RX4, "clearSums", "()V"⟩
abbrev cX4_addToSums : ByteArray := prog_6_method_5_code
def yX4_addToSums : MethodName := ⟨RX4, "addToSums", "(LLastMap$Table;)V"⟩
abbrev cX4_sumOf : ByteArray := prog_6_method_6_code
def yX4_sumOf : MethodName := ⟨RX4, "sumOf", "(I)I"⟩
abbrev cX4_firstOfLeastSum : ByteArray := prog_6_method_7_code
def yX4_firstOfLeastSum : MethodName := ⟨RX4, "firstOfLeastSum", "(I)I"⟩
def RX5 : String := "LastMap$Signs"
def TX5 : u_T := fun k => match k with
  | _ => ("", "", "", false)
def tyX5 : Nat → FieldType := fun k => match k with
  | _ => .int
abbrev wsX50 : List Cond := u_ws RX5 TX5 0
theorem nmX5 : ∀ a, a < 0 → ∀ b, b < 0 → a ≠ b → (TX5 a).2.1 ≠ (TX5 b).2.1 := by decide +kernel
theorem tyX5_ok : ∀ k, k < 0 → parseFieldDescriptor (TX5 k).2.2.1 = some (tyX5 k) := by decide +kernel
abbrev cX5_written : ByteArray := prog_7_method_2_code
def yX5_written : MethodName := ⟨RX5, "written", "(I)I"⟩
abbrev cX5_number : ByteArray := prog_7_method_3_code
def yX5_number : MethodName := ⟨RX5, "number", "(I)I"⟩
def RX6 : String := "LastMap$Slips"
def TX6 : u_T := fun k => match k with
  | _ => ("", "", "", false)
def tyX6 : Nat → FieldType := fun k => match k with
  | _ => .int
abbrev wsX60 : List Cond := u_ws RX6 TX6 0
theorem nmX6 : ∀ a, a < 0 → ∀ b, b < 0 → a ≠ b → (TX6 a).2.1 ≠ (TX6 b).2.1 := by decide +kernel
theorem tyX6_ok : ∀ k, k < 0 → parseFieldDescriptor (TX6 k).2.2.1 = some (tyX6 k) := by decide +kernel
abbrev cX6_inOrder : ByteArray := prog_8_method_2_code
def yX6_inOrder : MethodName := ⟨RX6, "inOrder", "(I)I"⟩
abbrev cX6_number : ByteArray := prog_8_method_3_code
def yX6_number : MethodName := ⟨RX6, "number", "(III)I"⟩
abbrev cX6_sitesFor : ByteArray := prog_8_method_4_code
def yX6_sitesFor : MethodName := ⟨RX6, "sitesFor", "(II)I"⟩
abbrev cX6_isMade : ByteArray := prog_8_method_5_code
def yX6_isMade : MethodName := ⟨RX6, "isMade", "(III)Z"⟩
abbrev cX6_after : ByteArray := prog_8_method_6_code
def yX6_after : MethodName := ⟨RX6, "after", "(II)I"⟩
def RX7 : String := "LastMap$Table"
def TX7 : u_T := fun k => match k with
  | 0 => ("LastMap$Table", "slips", "[B", true)
  | 1 => ("LastMap$Table", "queue", "[I", true)
  | 2 => ("LastMap$Table", "queued", "I", false)
  | 3 => ("LastMap$Table", "searched", "I", false)
  | 4 => ("LastMap$Table", "goal", "I", false)
  | 5 => ("LastMap$Table", "kinds", "I", false)
  | _ => ("LastMap$Table", "n", "I", false)
def tyX7 : Nat → FieldType := fun k => match k with
  | 0 => .array .byte
  | 1 => .array .int
  | 2 => .int
  | 3 => .int
  | 4 => .int
  | 5 => .int
  | _ => .int
abbrev wsX70 : List Cond := u_ws RX7 TX7 7
theorem nmX7 : ∀ a, a < 7 → ∀ b, b < 7 → a ≠ b → (TX7 a).2.1 ≠ (TX7 b).2.1 := by decide +kernel
theorem tyX7_ok : ∀ k, k < 7 → parseFieldDescriptor (TX7 k).2.2.1 = some (tyX7 k) := by decide +kernel
abbrev cX7_init : ByteArray := prog_9_method_1_code
def yX7_init : MethodName := ⟨RX7, "<init>", "()V"⟩
abbrev cX7_isFor : ByteArray := prog_9_method_2_code
def yX7_isFor : MethodName := ⟨RX7, "isFor", "(III)Z"⟩
abbrev cX7_begin : ByteArray := prog_9_method_3_code
def yX7_begin : MethodName := ⟨RX7, "begin", "(III)V"⟩
abbrev cX7_slipsFrom : ByteArray := prog_9_method_4_code
def yX7_slipsFrom : MethodName := ⟨RX7, "slipsFrom", "(I)I"⟩
abbrev cX7_known : ByteArray := prog_9_method_5_code
def yX7_known : MethodName := ⟨RX7, "known", "(I)I"⟩
abbrev cX7_searchAll : ByteArray := prog_9_method_6_code
def yX7_searchAll : MethodName := ⟨RX7, "searchAll", "()V"⟩
abbrev cX7_searchFor : ByteArray := prog_9_method_7_code
def yX7_searchFor : MethodName := ⟨RX7, "searchFor", "(I)V"⟩
abbrev cX7_queueGoal : ByteArray := prog_9_method_8_code
def yX7_queueGoal : MethodName := ⟨RX7, "queueGoal", "(II)V"⟩
abbrev cX7_queueBefore : ByteArray := prog_9_method_9_code
def yX7_queueBefore : MethodName := ⟨RX7, "queueBefore", "(I)V"⟩
abbrev cX7_canHaveMade : ByteArray := prog_9_method_10_code
def yX7_canHaveMade : MethodName := ⟨RX7, "canHaveMade", "(II)Z"⟩
abbrev cX7_reach : ByteArray := prog_9_method_11_code
def yX7_reach : MethodName := ⟨RX7, "reach", "(II)V"⟩
def RX8 : String := "LastMap$Trees"
def TX8 : u_T := fun k => match k with
  | 0 => ("LastMap$Trees", "slips", "[I", true)
  | 1 => ("LastMap$Trees", "from", "[I", true)
  | 2 => ("LastMap$Trees", "best", "[I", true)
  | 3 => ("LastMap$Trees", "least", "I", false)
  | _ => ("LastMap$Trees", "many", "I", false)
def tyX8 : Nat → FieldType := fun k => match k with
  | 0 => .array .int
  | 1 => .array .int
  | 2 => .array .int
  | 3 => .int
  | _ => .int
abbrev wsX80 : List Cond := u_ws RX8 TX8 5
theorem nmX8 : ∀ a, a < 5 → ∀ b, b < 5 → a ≠ b → (TX8 a).2.1 ≠ (TX8 b).2.1 := by decide +kernel
theorem tyX8_ok : ∀ k, k < 5 → parseFieldDescriptor (TX8 k).2.2.1 = some (tyX8 k) := by decide +kernel
abbrev cX8_init : ByteArray := prog_10_method_1_code
def yX8_init : MethodName := ⟨RX8, "<init>", "()V"⟩
abbrev cX8_note : ByteArray := prog_10_method_2_code
def yX8_note : MethodName := ⟨RX8, "note", "(III)V"⟩
abbrev cX8_slipsOf : ByteArray := prog_10_method_3_code
def yX8_slipsOf : MethodName := ⟨RX8, "slipsOf", "(II)I"⟩
abbrev cX8_seek : ByteArray := prog_10_method_4_code
def yX8_seek : MethodName := ⟨RX8, "seek", "(I)V"⟩
abbrev cX8_draw : ByteArray := prog_10_method_5_code
def yX8_draw : MethodName := ⟨RX8, "draw", "(IIIZ)V"⟩
abbrev cX8_comesOf : ByteArray := prog_10_method_6_code
def yX8_comesOf : MethodName := ⟨RX8, "comesOf", "(II)Z"⟩
abbrev cX8_weigh : ByteArray := prog_10_method_7_code
def yX8_weigh : MethodName := ⟨RX8, "weigh", "(I)V"⟩
abbrev cX8_answer : ByteArray := prog_10_method_8_code
def yX8_answer : MethodName := ⟨RX8, "answer", "(I)I"⟩
def RX9 : String := "LastMap"
def TX9 : u_T := fun k => match k with
  | 0 => ("LastMap", "pad", "LLastMap$Pad;", true)
  | 1 => ("LastMap", "papers", "LLastMap$Papers;", true)
  | 2 => ("LastMap", "images", "[LLastMap$Papers;", true)
  | 3 => ("LastMap", "search", "LLastMap$Search;", false)
  | _ => ("LastMap", "trees", "LLastMap$Trees;", false)
def tyX9 : Nat → FieldType := fun k => match k with
  | 0 => .object "LastMap$Pad"
  | 1 => .object "LastMap$Papers"
  | 2 => .array (.object "LastMap$Papers")
  | 3 => .object "LastMap$Search"
  | _ => .object "LastMap$Trees"
abbrev wsX90 : List Cond := u_ws RX9 TX9 5
theorem nmX9 : ∀ a, a < 5 → ∀ b, b < 5 → a ≠ b → (TX9 a).2.1 ≠ (TX9 b).2.1 := by decide +kernel
theorem tyX9_ok : ∀ k, k < 5 → parseFieldDescriptor (TX9 k).2.2.1 = some (tyX9 k) := by decide +kernel
abbrev cX9_init : ByteArray := prog_1_method_1_code
def yX9_init : MethodName := ⟨RX9, "<init>", "()V"⟩
abbrev cX9_sites : ByteArray := prog_1_method_2_code
def yX9_sites : MethodName := ⟨RX9, "sites", "(I)I"⟩
abbrev cX9_say : ByteArray := prog_1_method_3_code
def yX9_say : MethodName := ⟨RX9, "say", "(I)I"⟩
abbrev cX9_wipe : ByteArray := prog_1_method_4_code
def yX9_wipe : MethodName := ⟨RX9, "wipe", "()I"⟩
abbrev cX9_fault : ByteArray := prog_1_method_5_code
def yX9_fault : MethodName := ⟨RX9, "fault", "(I)I"⟩
abbrev cX9_map : ByteArray := prog_1_method_6_code
def yX9_map : MethodName := ⟨RX9, "map", "(I)I"⟩
abbrev cX9_at : ByteArray := prog_1_method_7_code
def yX9_at : MethodName := ⟨RX9, "at", "(II)I"⟩
abbrev cX9_hand : ByteArray := prog_1_method_8_code
def yX9_hand : MethodName := ⟨RX9, "hand", "(II)I"⟩
abbrev cX9_judge : ByteArray := prog_1_method_9_code
def yX9_judge : MethodName := ⟨RX9, "judge", "(I)I"⟩
abbrev cX9_copy : ByteArray := prog_1_method_10_code
def yX9_copy : MethodName := ⟨RX9, "copy", "(II)I"⟩
abbrev cX9_far : ByteArray := prog_1_method_11_code
def yX9_far : MethodName := ⟨RX9, "far", "(IIII)I"⟩
abbrev cX9_who : ByteArray := prog_1_method_12_code
def yX9_who : MethodName := ⟨RX9, "who", "(III)I"⟩
abbrev cX9_between : ByteArray := prog_1_method_13_code
def yX9_between : MethodName := ⟨RX9, "between", "(IIII)I"⟩
abbrev cX9_tree : ByteArray := prog_1_method_14_code
def yX9_tree : MethodName := ⟨RX9, "tree", "(III)I"⟩
abbrev cX9_lost : ByteArray := prog_1_method_15_code
def yX9_lost : MethodName := ⟨RX9, "lost", "(III)I"⟩
abbrev cX9_wished : ByteArray := prog_1_method_16_code
def yX9_wished : MethodName := ⟨RX9, "wished", "(IIII)I"⟩
abbrev cX9_holds : ByteArray := prog_1_method_17_code
def yX9_holds : MethodName := ⟨RX9, "holds", "(II)I"⟩
abbrev cX9_spades : ByteArray := prog_1_method_18_code
def yX9_spades : MethodName := ⟨RX9, "spades", "(I)I"⟩
abbrev cX9_land : ByteArray := prog_1_method_19_code
def yX9_land : MethodName := ⟨RX9, "land", "(I)I"⟩
abbrev cX9_years : ByteArray := prog_1_method_20_code
def yX9_years : MethodName := ⟨RX9, "years", "(I)I"⟩
abbrev cX9_follow : ByteArray := prog_1_method_21_code
def yX9_follow : MethodName := ⟨RX9, "follow", "(II)I"⟩
abbrev cX9_drawn : ByteArray := prog_1_method_22_code
def yX9_drawn : MethodName := ⟨RX9, "drawn", "(IIIII)I"⟩
abbrev cX9_image : ByteArray := prog_1_method_23_code
def yX9_image : MethodName := ⟨RX9, "image", "(I)I"⟩
abbrev cX9_restore : ByteArray := prog_1_method_24_code
def yX9_restore : MethodName := ⟨RX9, "restore", "(I)I"⟩
abbrev cX9_told : ByteArray := prog_1_method_25_code
def yX9_told : MethodName := ⟨RX9, "told", "(I)I"⟩
abbrev cX9_isMap : ByteArray := prog_1_method_26_code
def yX9_isMap : MethodName := ⟨RX9, "isMap", "(I)Z"⟩
abbrev cX9_isHand : ByteArray := prog_1_method_27_code
def yX9_isHand : MethodName := ⟨RX9, "isHand", "(I)Z"⟩
abbrev cX9_isSite : ByteArray := prog_1_method_28_code
def yX9_isSite : MethodName := ⟨RX9, "isSite", "(I)Z"⟩
abbrev cX9_isSet : ByteArray := prog_1_method_29_code
def yX9_isSet : MethodName := ⟨RX9, "isSet", "(I)Z"⟩
abbrev cX9_isOf : ByteArray := prog_1_method_30_code
def yX9_isOf : MethodName := ⟨RX9, "isOf", "(II)Z"⟩
abbrev cX9_isTold : ByteArray := prog_1_method_31_code
def yX9_isTold : MethodName := ⟨RX9, "isTold", "(I)Z"⟩
abbrev cX9_areTold : ByteArray := prog_1_method_32_code
def yX9_areTold : MethodName := ⟨RX9, "areTold", "(I)Z"⟩
abbrev cX9_isTreeQuestion : ByteArray := prog_1_method_33_code
def yX9_isTreeQuestion : MethodName := ⟨RX9, "isTreeQuestion", "(II)Z"⟩
abbrev cX9_firstIdle : ByteArray := prog_1_method_34_code
def yX9_firstIdle : MethodName := ⟨RX9, "firstIdle", "(I)I"⟩
abbrev cX9_afterDraw : ByteArray := prog_1_method_35_code
def yX9_afterDraw : MethodName := ⟨RX9, "afterDraw", "(III)I"⟩
abbrev cX9_isSome : ByteArray := prog_1_method_36_code
def yX9_isSome : MethodName := ⟨RX9, "isSome", "(III)Z"⟩
abbrev cX9_readySearch : ByteArray := prog_1_method_37_code
def yX9_readySearch : MethodName := ⟨RX9, "readySearch", "()LLastMap$Search;"⟩
abbrev cX9_tableOf : ByteArray := prog_1_method_38_code
def yX9_tableOf : MethodName := ⟨RX9, "tableOf", "(II)LLastMap$Table;"⟩
abbrev cX9_noteAllTo : ByteArray := prog_1_method_39_code
def yX9_noteAllTo : MethodName := ⟨RX9, "noteAllTo", "(III)V"⟩
abbrev cX9_rowAnswer : ByteArray := prog_1_method_40_code
def yX9_rowAnswer : MethodName := ⟨RX9, "rowAnswer", "(LLastMap$Table;III)I"⟩
abbrev cX9_firstNearer : ByteArray := prog_1_method_41_code
def yX9_firstNearer : MethodName := ⟨RX9, "firstNearer", "(LLastMap$Table;II)I"⟩
abbrev cX9_goalPast : ByteArray := prog_1_method_42_code
def yX9_goalPast : MethodName := ⟨RX9, "goalPast", "(II)I"⟩
abbrev cX9_howMany : ByteArray := prog_1_method_43_code
def yX9_howMany : MethodName := ⟨RX9, "howMany", "(III)I"⟩
abbrev cX9_mostAt : ByteArray := prog_1_method_44_code
def yX9_mostAt : MethodName := ⟨RX9, "mostAt", "(II)I"⟩
def RX10 : String := "LastMapModel"
def TX10 : u_T := fun k => match k with
  | 0 => ("LastMapModel", "sites", "I", false)
  | 1 => ("LastMapModel", "maps", "[I", true)
  | 2 => ("LastMapModel", "told", "I", false)
  | 3 => ("LastMapModel", "kinds", "[I", true)
  | 4 => ("LastMapModel", "land", "I", false)
  | 5 => ("LastMapModel", "spades", "I", false)
  | 6 => ("LastMapModel", "part", "[I", true)
  | 7 => ("LastMapModel", "pad", "[I", true)
  | 8 => ("LastMapModel", "padMany", "I", false)
  | 9 => ("LastMapModel", "slips", "[I", true)
  | 10 => ("LastMapModel", "slipMany", "I", false)
  | 11 => ("LastMapModel", "made", "I", false)
  | 12 => ("LastMapModel", "queue", "[I", true)
  | 13 => ("LastMapModel", "depth", "[I", true)
  | 14 => ("LastMapModel", "by", "[I", true)
  | 15 => ("LastMapModel", "from", "[I", true)
  | 16 => ("LastMapModel", "come", "I", false)
  | 17 => ("LastMapModel", "offOf", "[I", true)
  | 18 => ("LastMapModel", "parent", "[I", true)
  | 19 => ("LastMapModel", "best", "[I", true)
  | 20 => ("LastMapModel", "trees", "I", false)
  | 21 => ("LastMapModel", "least", "I", false)
  | 22 => ("LastMapModel", "sums", "[I", true)
  | 23 => ("LastMapModel", "toward", "[I", true)
  | 24 => ("LastMapModel", "kept", "[I", true)
  | 25 => ("LastMapModel", "isKept", "[Z", true)
  | 26 => ("LastMapModel", "keptAt", "I", false)
  | _ => ("LastMapModel", "isWriting", "Z", false)
def tyX10 : Nat → FieldType := fun k => match k with
  | 0 => .int
  | 1 => .array .int
  | 2 => .int
  | 3 => .array .int
  | 4 => .int
  | 5 => .int
  | 6 => .array .int
  | 7 => .array .int
  | 8 => .int
  | 9 => .array .int
  | 10 => .int
  | 11 => .int
  | 12 => .array .int
  | 13 => .array .int
  | 14 => .array .int
  | 15 => .array .int
  | 16 => .int
  | 17 => .array .int
  | 18 => .array .int
  | 19 => .array .int
  | 20 => .int
  | 21 => .int
  | 22 => .array .int
  | 23 => .array .int
  | 24 => .array .int
  | 25 => .array .boolean
  | 26 => .int
  | _ => .boolean
abbrev wsX100 : List Cond := u_ws RX10 TX10 28
theorem nmX10 : ∀ a, a < 28 → ∀ b, b < 28 → a ≠ b → (TX10 a).2.1 ≠ (TX10 b).2.1 := by decide +kernel
theorem tyX10_ok : ∀ k, k < 28 → parseFieldDescriptor (TX10 k).2.2.1 = some (tyX10 k) := by decide +kernel
abbrev cX10_init : ByteArray := prog_12_method_1_code
def yX10_init : MethodName := ⟨RX10, "<init>", "()V"⟩
abbrev cX10_in : ByteArray := prog_12_method_3_code
def yX10_in : MethodName := ⟨RX10, "in", "(JJJ)Z"⟩
abbrev cX10_begin : ByteArray := prog_12_method_4_code
def yX10_begin : MethodName := ⟨RX10, "begin", "(I)V"⟩
abbrev cX10_findParts : ByteArray := prog_12_method_5_code
def yX10_findParts : MethodName := ⟨RX10, "findParts", "()V"⟩
abbrev cX10_all : ByteArray := prog_12_method_6_code
def yX10_all : MethodName := ⟨RX10, "all", "()I"⟩
abbrev cX10_isSite : ByteArray := prog_12_method_7_code
def yX10_isSite : MethodName := ⟨RX10, "isSite", "(I)Z"⟩
abbrev cX10_isMap : ByteArray := prog_12_method_8_code
def yX10_isMap : MethodName := ⟨RX10, "isMap", "(I)Z"⟩
abbrev cX10_isHand : ByteArray := prog_12_method_9_code
def yX10_isHand : MethodName := ⟨RX10, "isHand", "(I)Z"⟩
abbrev cX10_isTold : ByteArray := prog_12_method_10_code
def yX10_isTold : MethodName := ⟨RX10, "isTold", "(I)Z"⟩
abbrev cX10_sites : ByteArray := prog_12_method_11_code
def yX10_sites : MethodName := ⟨RX10, "sites", "(I)I"⟩
abbrev cX10_signAt : ByteArray := prog_12_method_12_code
def yX10_signAt : MethodName := ⟨RX10, "signAt", "(II)I"⟩
abbrev cX10_with : ByteArray := prog_12_method_13_code
def yX10_with : MethodName := ⟨RX10, "with", "(III)I"⟩
abbrev cX10_codeOf : ByteArray := prog_12_method_14_code
def yX10_codeOf : MethodName := ⟨RX10, "codeOf", "(I)I"⟩
abbrev cX10_signOf : ByteArray := prog_12_method_15_code
def yX10_signOf : MethodName := ⟨RX10, "signOf", "(I)I"⟩
abbrev cX10_say : ByteArray := prog_12_method_16_code
def yX10_say : MethodName := ⟨RX10, "say", "(I)I"⟩
abbrev cX10_wipe : ByteArray := prog_12_method_17_code
def yX10_wipe : MethodName := ⟨RX10, "wipe", "()I"⟩
abbrev cX10_faultOfMap : ByteArray := prog_12_method_18_code
def yX10_faultOfMap : MethodName := ⟨RX10, "faultOfMap", "(Z)I"⟩
abbrev cX10_kindOf : ByteArray := prog_12_method_19_code
def yX10_kindOf : MethodName := ⟨RX10, "kindOf", "(I)I"⟩
abbrev cX10_faultOfSlips : ByteArray := prog_12_method_20_code
def yX10_faultOfSlips : MethodName := ⟨RX10, "faultOfSlips", "()I"⟩
abbrev cX10_fault : ByteArray := prog_12_method_21_code
def yX10_fault : MethodName := ⟨RX10, "fault", "(I)I"⟩
abbrev cX10_map : ByteArray := prog_12_method_22_code
def yX10_map : MethodName := ⟨RX10, "map", "(I)I"⟩
abbrev cX10_at : ByteArray := prog_12_method_23_code
def yX10_at : MethodName := ⟨RX10, "at", "(II)I"⟩
abbrev cX10_hand : ByteArray := prog_12_method_24_code
def yX10_hand : MethodName := ⟨RX10, "hand", "(II)I"⟩
abbrev cX10_slipsThere : ByteArray := prog_12_method_25_code
def yX10_slipsThere : MethodName := ⟨RX10, "slipsThere", "()I"⟩
abbrev cX10_slipAt : ByteArray := prog_12_method_26_code
def yX10_slipAt : MethodName := ⟨RX10, "slipAt", "(I)I"⟩
abbrev cX10_slipped : ByteArray := prog_12_method_27_code
def yX10_slipped : MethodName := ⟨RX10, "slipped", "(II)I"⟩
abbrev cX10_makes : ByteArray := prog_12_method_28_code
def yX10_makes : MethodName := ⟨RX10, "makes", "(II)Z"⟩
abbrev cX10_judge : ByteArray := prog_12_method_29_code
def yX10_judge : MethodName := ⟨RX10, "judge", "(I)I"⟩
abbrev cX10_badFrom : ByteArray := prog_12_method_30_code
def yX10_badFrom : MethodName := ⟨RX10, "badFrom", "(I)I"⟩
abbrev cX10_copy : ByteArray := prog_12_method_31_code
def yX10_copy : MethodName := ⟨RX10, "copy", "(II)I"⟩
abbrev cX10_goFrom : ByteArray := prog_12_method_32_code
def yX10_goFrom : MethodName := ⟨RX10, "goFrom", "(II)V"⟩
abbrev cX10_slipTo : ByteArray := prog_12_method_33_code
def yX10_slipTo : MethodName := ⟨RX10, "slipTo", "(II)I"⟩
abbrev cX10_farOf : ByteArray := prog_12_method_34_code
def yX10_farOf : MethodName := ⟨RX10, "farOf", "(III)I"⟩
abbrev cX10_far : ByteArray := prog_12_method_35_code
def yX10_far : MethodName := ⟨RX10, "far", "(IIII)I"⟩
abbrev cX10_who : ByteArray := prog_12_method_36_code
def yX10_who : MethodName := ⟨RX10, "who", "(III)I"⟩
abbrev cX10_between : ByteArray := prog_12_method_37_code
def yX10_between : MethodName := ⟨RX10, "between", "(IIII)I"⟩
abbrev cX10_areTold : ByteArray := prog_12_method_38_code
def yX10_areTold : MethodName := ⟨RX10, "areTold", "(I)Z"⟩
abbrev cX10_findOffs : ByteArray := prog_12_method_39_code
def yX10_findOffs : MethodName := ⟨RX10, "findOffs", "(II)V"⟩
abbrev cX10_layTree : ByteArray := prog_12_method_40_code
def yX10_layTree : MethodName := ⟨RX10, "layTree", "(II)Z"⟩
abbrev cX10_noRounds : ByteArray := prog_12_method_41_code
def yX10_noRounds : MethodName := ⟨RX10, "noRounds", "(I)Z"⟩
abbrev cX10_sumOfTree : ByteArray := prog_12_method_42_code
def yX10_sumOfTree : MethodName := ⟨RX10, "sumOfTree", "(I)I"⟩
abbrev cX10_findTrees : ByteArray := prog_12_method_43_code
def yX10_findTrees : MethodName := ⟨RX10, "findTrees", "(II)V"⟩
abbrev cX10_tree : ByteArray := prog_12_method_44_code
def yX10_tree : MethodName := ⟨RX10, "tree", "(III)I"⟩
abbrev cX10_leadsTo : ByteArray := prog_12_method_45_code
def yX10_leadsTo : MethodName := ⟨RX10, "leadsTo", "(III)Z"⟩
abbrev cX10_findToward : ByteArray := prog_12_method_46_code
def yX10_findToward : MethodName := ⟨RX10, "findToward", "(II)V"⟩
abbrev cX10_lost : ByteArray := prog_12_method_47_code
def yX10_lost : MethodName := ⟨RX10, "lost", "(III)I"⟩
abbrev cX10_isWished : ByteArray := prog_12_method_48_code
def yX10_isWished : MethodName := ⟨RX10, "isWished", "(III)Z"⟩
abbrev cX10_wished : ByteArray := prog_12_method_49_code
def yX10_wished : MethodName := ⟨RX10, "wished", "(IIII)I"⟩
abbrev cX10_mostAt : ByteArray := prog_12_method_50_code
def yX10_mostAt : MethodName := ⟨RX10, "mostAt", "(II)I"⟩
abbrev cX10_holdsAt : ByteArray := prog_12_method_51_code
def yX10_holdsAt : MethodName := ⟨RX10, "holdsAt", "(II)Z"⟩
abbrev cX10_holds : ByteArray := prog_12_method_52_code
def yX10_holds : MethodName := ⟨RX10, "holds", "(II)I"⟩
abbrev cX10_spades : ByteArray := prog_12_method_53_code
def yX10_spades : MethodName := ⟨RX10, "spades", "(I)I"⟩
abbrev cX10_land : ByteArray := prog_12_method_54_code
def yX10_land : MethodName := ⟨RX10, "land", "(I)I"⟩
abbrev cX10_otherThan : ByteArray := prog_12_method_55_code
def yX10_otherThan : MethodName := ⟨RX10, "otherThan", "(II)I"⟩
abbrev cX10_years : ByteArray := prog_12_method_56_code
def yX10_years : MethodName := ⟨RX10, "years", "(I)I"⟩
abbrev cX10_follow : ByteArray := prog_12_method_57_code
def yX10_follow : MethodName := ⟨RX10, "follow", "(II)I"⟩
abbrev cX10_slipsFrom : ByteArray := prog_12_method_58_code
def yX10_slipsFrom : MethodName := ⟨RX10, "slipsFrom", "(III)I"⟩
abbrev cX10_drawn : ByteArray := prog_12_method_59_code
def yX10_drawn : MethodName := ⟨RX10, "drawn", "(IIIII)I"⟩
abbrev cX10_pass : ByteArray := prog_12_method_60_code
def yX10_pass : MethodName := ⟨RX10, "pass", "(I)I"⟩
abbrev cX10_passAll : ByteArray := prog_12_method_61_code
def yX10_passAll : MethodName := ⟨RX10, "passAll", "()V"⟩
abbrev cX10_image : ByteArray := prog_12_method_62_code
def yX10_image : MethodName := ⟨RX10, "image", "(I)I"⟩
abbrev cX10_restore : ByteArray := prog_12_method_63_code
def yX10_restore : MethodName := ⟨RX10, "restore", "(I)I"⟩
abbrev cX10_told : ByteArray := prog_12_method_64_code
def yX10_told : MethodName := ⟨RX10, "told", "(I)I"⟩
def RJ6 : String := "java/lang/Integer"
def TJ6 : u_T := fun k => match k with
  | _ => ("", "", "", false)
def tyJ6 : Nat → FieldType := fun k => match k with
  | _ => .int
abbrev wsJ60 : List Cond := u_ws RJ6 TJ6 0
theorem nmJ6 : ∀ a, a < 0 → ∀ b, b < 0 → a ≠ b → (TJ6 a).2.1 ≠ (TJ6 b).2.1 := by decide +kernel
theorem tyJ6_ok : ∀ k, k < 0 → parseFieldDescriptor (TJ6 k).2.2.1 = some (tyJ6 k) := by decide +kernel
abbrev cJ6_bitCount_0f7a4 : ByteArray := prog_13_method_49_code
def yJ6_bitCount_0f7a4 : MethodName := ⟨RJ6, "bitCount", "(I)I"⟩
def RJ9 : String := "java/lang/Math"
def TJ9 : u_T := fun k => match k with
  | _ => ("", "", "", false)
def tyJ9 : Nat → FieldType := fun k => match k with
  | _ => .int
abbrev wsJ90 : List Cond := u_ws RJ9 TJ9 0
theorem nmJ9 : ∀ a, a < 0 → ∀ b, b < 0 → a ≠ b → (TJ9 a).2.1 ≠ (TJ9 b).2.1 := by decide +kernel
theorem tyJ9_ok : ∀ k, k < 0 → parseFieldDescriptor (TJ9 k).2.2.1 = some (tyJ9 k) := by decide +kernel
abbrev cJ9_max_7cf53 : ByteArray := prog_14_method_65_code
def yJ9_max_7cf53 : MethodName := ⟨RJ9, "max", "(II)I"⟩
def RJ10 : String := "java/lang/System"
def TJ10 : u_T := fun k => match k with
  | _ => ("", "", "", false)
def tyJ10 : Nat → FieldType := fun k => match k with
  | _ => .int
abbrev wsJ100 : List Cond := u_ws RJ10 TJ10 0
theorem nmJ10 : ∀ a, a < 0 → ∀ b, b < 0 → a ≠ b → (TJ10 a).2.1 ≠ (TJ10 b).2.1 := by decide +kernel
theorem tyJ10_ok : ∀ k, k < 0 → parseFieldDescriptor (TJ10 k).2.2.1 = some (tyJ10 k) := by decide +kernel
def RJ7 : String := "java/util/Arrays"
def TJ7 : u_T := fun k => match k with
  | _ => ("", "", "", false)
def tyJ7 : Nat → FieldType := fun k => match k with
  | _ => .int
abbrev wsJ70 : List Cond := u_ws RJ7 TJ7 0
theorem nmJ7 : ∀ a, a < 0 → ∀ b, b < 0 → a ≠ b → (TJ7 a).2.1 ≠ (TJ7 b).2.1 := by decide +kernel
theorem tyJ7_ok : ∀ k, k < 0 → parseFieldDescriptor (TJ7 k).2.2.1 = some (tyJ7 k) := by decide +kernel
abbrev cJ7_fill_53178 : ByteArray := prog_16_method_103_code
def yJ7_fill_53178 : MethodName := ⟨RJ7, "fill", "([II)V"⟩
abbrev cJ7_fill_031fb : ByteArray := prog_16_method_109_code
def yJ7_fill_031fb : MethodName := ⟨RJ7, "fill", "([BB)V"⟩
def RL : String := "LastMapLaw"
abbrev cL_law : ByteArray := code
def yL_law : MethodName := ⟨RL, "law", "([I)Z"⟩
def wsX0_with : List Cond := .code yX0_with cX0_with 3 (some .int) :: ([])
def wsX0_markAt : List Cond := .code yX0_markAt cX0_markAt 2 (some .int) :: ([])
def wsX1_weight : List Cond := .code yX1_weight cX1_weight 1 (some .int) :: ([.fieldLink RX1 9 "LastMap$Maps" "WEIGHTS" "[I"])
def wsX1_signBy : List Cond := .code yX1_signBy cX1_signBy 2 (some .int) :: ([])
def wsX1_signAt : List Cond := .code yX1_signAt cX1_signAt 2 (some .int) :: ([.methodLink RX1 15 yX1_weight, .static yX1_weight, .initialized RX1, .code yX1_weight cX1_weight 1 (some .int), .fieldLink RX1 9 "LastMap$Maps" "WEIGHTS" "[I", .methodLink RX1 19 yX1_signBy, .static yX1_signBy, .code yX1_signBy cX1_signBy 2 (some .int)])
def wsX0_onlyMap : List Cond := .code yX0_onlyMap cX0_onlyMap 4 (some .int) :: ([.methodLink RX0 7 yX1_signAt, .static yX1_signAt, .initialized RX1, .code yX1_signAt cX1_signAt 2 (some .int), .methodLink RX1 15 yX1_weight, .static yX1_weight, .code yX1_weight cX1_weight 1 (some .int), .fieldLink RX1 9 "LastMap$Maps" "WEIGHTS" "[I", .methodLink RX1 19 yX1_signBy, .static yX1_signBy, .code yX1_signBy cX1_signBy 2 (some .int), .methodLink RX0 13 yX0_with, .static yX0_with, .initialized RX0, .code yX0_with cX0_with 3 (some .int)])
def wsX1_countOf : List Cond := .code yX1_countOf cX1_countOf 2 (some .int) :: ([.methodLink RX1 15 yX1_weight, .static yX1_weight, .initialized RX1, .code yX1_weight cX1_weight 1 (some .int), .fieldLink RX1 9 "LastMap$Maps" "WEIGHTS" "[I"])
def wsX1_with : List Cond := .code yX1_with cX1_with 3 (some .int) :: ([.methodLink RX1 23 yX1_signAt, .static yX1_signAt, .initialized RX1, .code yX1_signAt cX1_signAt 2 (some .int), .methodLink RX1 15 yX1_weight, .static yX1_weight, .code yX1_weight cX1_weight 1 (some .int), .fieldLink RX1 9 "LastMap$Maps" "WEIGHTS" "[I", .methodLink RX1 19 yX1_signBy, .static yX1_signBy, .code yX1_signBy cX1_signBy 2 (some .int)])
def wsX1_unlike : List Cond := .code yX1_unlike cX1_unlike 4 (some .int) :: ([.methodLink RX1 23 yX1_signAt, .static yX1_signAt, .initialized RX1, .code yX1_signAt cX1_signAt 2 (some .int), .methodLink RX1 15 yX1_weight, .static yX1_weight, .code yX1_weight cX1_weight 1 (some .int), .fieldLink RX1 9 "LastMap$Maps" "WEIGHTS" "[I", .methodLink RX1 19 yX1_signBy, .static yX1_signBy, .code yX1_signBy cX1_signBy 2 (some .int)])
def wsX2_init : List Cond := .code yX2_init cX2_init 1 none :: ([.methodLink RX2 3 objectInit, .instanceMethod objectInit, .code objectInit ⟨#[0xb1]⟩ 1 none, .arrayClass .int, .fieldLink RX2 9 "LastMap$Pad" "signs" "[I", .fieldLink RX2 15 "LastMap$Pad" "slips" "[I"] ++ wsX20)
def wsX2_put : List Cond := .code yX2_put cX2_put 2 (some .boolean) :: ([.fieldLink RX2 18 "LastMap$Pad" "length" "I", .fieldLink RX2 9 "LastMap$Pad" "signs" "[I"] ++ wsX20)
def wsX2_signAt : List Cond := .code yX2_signAt cX2_signAt 2 (some .int) :: ([.fieldLink RX2 18 "LastMap$Pad" "length" "I", .fieldLink RX2 9 "LastMap$Pad" "signs" "[I"] ++ wsX20)
def wsX5_number : List Cond := .code yX5_number cX5_number 2 (some .int) :: ([.fieldLink RX5 7 "LastMap$Signs" "WRITTEN" "[I"])
def wsX2_markAt : List Cond := .code yX2_markAt cX2_markAt 2 (some .int) :: ([.methodLink RX2 22 yX2_signAt, .instanceMethod yX2_signAt, .selects RX2 yX2_signAt yX2_signAt, .initialized RX2, .code yX2_signAt cX2_signAt 2 (some .int), .fieldLink RX2 18 "LastMap$Pad" "length" "I", .fieldLink RX2 9 "LastMap$Pad" "signs" "[I", .methodLink RX2 26 yX5_number, .static yX5_number, .initialized RX5, .code yX5_number cX5_number 2 (some .int), .fieldLink RX5 7 "LastMap$Signs" "WRITTEN" "[I"] ++ wsX20)
def wsX2_kindAt : List Cond := .code yX2_kindAt cX2_kindAt 2 (some .int) :: ([.methodLink RX2 22 yX2_signAt, .instanceMethod yX2_signAt, .selects RX2 yX2_signAt yX2_signAt, .initialized RX2, .code yX2_signAt cX2_signAt 2 (some .int), .fieldLink RX2 18 "LastMap$Pad" "length" "I", .fieldLink RX2 9 "LastMap$Pad" "signs" "[I"] ++ wsX20)
def wsX6_sitesFor : List Cond := .code yX6_sitesFor cX6_sitesFor 2 (some .int) :: ([])
def wsX2_firstWrongOfSlip : List Cond := .code yX2_firstWrongOfSlip cX2_firstWrongOfSlip 6 (some .int) :: ([.fieldLink RX2 18 "LastMap$Pad" "length" "I", .methodLink RX2 44 yX2_kindAt, .instanceMethod yX2_kindAt, .selects RX2 yX2_kindAt yX2_kindAt, .initialized RX2, .code yX2_kindAt cX2_kindAt 2 (some .int), .methodLink RX2 22 yX2_signAt, .instanceMethod yX2_signAt, .selects RX2 yX2_signAt yX2_signAt, .code yX2_signAt cX2_signAt 2 (some .int), .fieldLink RX2 9 "LastMap$Pad" "signs" "[I", .methodLink RX2 47 yX6_sitesFor, .static yX6_sitesFor, .initialized RX6, .code yX6_sitesFor cX6_sitesFor 2 (some .int), .methodLink RX2 34 yX2_markAt, .instanceMethod yX2_markAt, .selects RX2 yX2_markAt yX2_markAt, .code yX2_markAt cX2_markAt 2 (some .int), .methodLink RX2 26 yX5_number, .static yX5_number, .initialized RX5, .code yX5_number cX5_number 2 (some .int), .fieldLink RX5 7 "LastMap$Signs" "WRITTEN" "[I"] ++ wsX20)
def wsX2_lengthOfSlip : List Cond := .code yX2_lengthOfSlip cX2_lengthOfSlip 2 (some .int) :: ([.methodLink RX2 44 yX2_kindAt, .instanceMethod yX2_kindAt, .selects RX2 yX2_kindAt yX2_kindAt, .initialized RX2, .code yX2_kindAt cX2_kindAt 2 (some .int), .methodLink RX2 22 yX2_signAt, .instanceMethod yX2_signAt, .selects RX2 yX2_signAt yX2_signAt, .code yX2_signAt cX2_signAt 2 (some .int), .fieldLink RX2 18 "LastMap$Pad" "length" "I", .fieldLink RX2 9 "LastMap$Pad" "signs" "[I"] ++ wsX20)
def wsX2_firstWrongOfSlips_r1 : List Cond := [Cond.fieldLink RX2 18 "LastMap$Pad" "length" "I", Cond.methodLink RX2 37 yX2_firstWrongOfSlip, Cond.instanceMethod yX2_firstWrongOfSlip, Cond.selects RX2 yX2_firstWrongOfSlip yX2_firstWrongOfSlip, Cond.initialized RX2, Cond.code yX2_firstWrongOfSlip cX2_firstWrongOfSlip 6 (some .int), Cond.methodLink RX2 44 yX2_kindAt, Cond.instanceMethod yX2_kindAt, Cond.selects RX2 yX2_kindAt yX2_kindAt, Cond.code yX2_kindAt cX2_kindAt 2 (some .int), Cond.methodLink RX2 22 yX2_signAt, Cond.instanceMethod yX2_signAt, Cond.selects RX2 yX2_signAt yX2_signAt, Cond.code yX2_signAt cX2_signAt 2 (some .int), Cond.fieldLink RX2 9 "LastMap$Pad" "signs" "[I", Cond.methodLink RX2 47 yX6_sitesFor, Cond.static yX6_sitesFor, Cond.initialized RX6, Cond.code yX6_sitesFor cX6_sitesFor 2 (some .int), Cond.methodLink RX2 34 yX2_markAt, Cond.instanceMethod yX2_markAt, Cond.selects RX2 yX2_markAt yX2_markAt, Cond.code yX2_markAt cX2_markAt 2 (some .int), Cond.methodLink RX2 26 yX5_number]
def wsX2_firstWrongOfSlips_r2 : List Cond := [Cond.static yX5_number, Cond.initialized RX5, Cond.code yX5_number cX5_number 2 (some .int), Cond.fieldLink RX5 7 "LastMap$Signs" "WRITTEN" "[I", Cond.methodLink RX2 41 yX2_lengthOfSlip, Cond.instanceMethod yX2_lengthOfSlip, Cond.selects RX2 yX2_lengthOfSlip yX2_lengthOfSlip, Cond.code yX2_lengthOfSlip cX2_lengthOfSlip 2 (some .int)]
def wsX2_firstWrongOfSlips : List Cond := .code yX2_firstWrongOfSlips cX2_firstWrongOfSlips 5 (some .int) :: ((wsX2_firstWrongOfSlips_r1 ++ wsX2_firstWrongOfSlips_r2) ++ wsX20)
def wsX2_firstWrong_r1 : List Cond := [Cond.fieldLink RX2 18 "LastMap$Pad" "length" "I", Cond.methodLink RX2 31 yX2_firstWrongOfSlips, Cond.instanceMethod yX2_firstWrongOfSlips, Cond.selects RX2 yX2_firstWrongOfSlips yX2_firstWrongOfSlips, Cond.initialized RX2, Cond.code yX2_firstWrongOfSlips cX2_firstWrongOfSlips 5 (some .int), Cond.methodLink RX2 37 yX2_firstWrongOfSlip, Cond.instanceMethod yX2_firstWrongOfSlip, Cond.selects RX2 yX2_firstWrongOfSlip yX2_firstWrongOfSlip, Cond.code yX2_firstWrongOfSlip cX2_firstWrongOfSlip 6 (some .int), Cond.methodLink RX2 44 yX2_kindAt, Cond.instanceMethod yX2_kindAt, Cond.selects RX2 yX2_kindAt yX2_kindAt, Cond.code yX2_kindAt cX2_kindAt 2 (some .int), Cond.methodLink RX2 22 yX2_signAt, Cond.instanceMethod yX2_signAt, Cond.selects RX2 yX2_signAt yX2_signAt, Cond.code yX2_signAt cX2_signAt 2 (some .int), Cond.fieldLink RX2 9 "LastMap$Pad" "signs" "[I", Cond.methodLink RX2 47 yX6_sitesFor, Cond.static yX6_sitesFor, Cond.initialized RX6, Cond.code yX6_sitesFor cX6_sitesFor 2 (some .int), Cond.methodLink RX2 34 yX2_markAt]
def wsX2_firstWrong_r2 : List Cond := [Cond.instanceMethod yX2_markAt, Cond.selects RX2 yX2_markAt yX2_markAt, Cond.code yX2_markAt cX2_markAt 2 (some .int), Cond.methodLink RX2 26 yX5_number, Cond.static yX5_number, Cond.initialized RX5, Cond.code yX5_number cX5_number 2 (some .int), Cond.fieldLink RX5 7 "LastMap$Signs" "WRITTEN" "[I", Cond.methodLink RX2 41 yX2_lengthOfSlip, Cond.instanceMethod yX2_lengthOfSlip, Cond.selects RX2 yX2_lengthOfSlip yX2_lengthOfSlip, Cond.code yX2_lengthOfSlip cX2_lengthOfSlip 2 (some .int)]
def wsX2_firstWrong : List Cond := .code yX2_firstWrong cX2_firstWrong 6 (some .int) :: ((wsX2_firstWrong_r1 ++ wsX2_firstWrong_r2) ++ wsX20)
def wsX2_mapCode_r1 : List Cond := [Cond.fieldLink RX2 18 "LastMap$Pad" "length" "I", Cond.methodLink RX2 34 yX2_markAt, Cond.instanceMethod yX2_markAt, Cond.selects RX2 yX2_markAt yX2_markAt, Cond.initialized RX2, Cond.code yX2_markAt cX2_markAt 2 (some .int), Cond.methodLink RX2 22 yX2_signAt, Cond.instanceMethod yX2_signAt, Cond.selects RX2 yX2_signAt yX2_signAt, Cond.code yX2_signAt cX2_signAt 2 (some .int), Cond.fieldLink RX2 9 "LastMap$Pad" "signs" "[I", Cond.methodLink RX2 26 yX5_number, Cond.static yX5_number, Cond.initialized RX5, Cond.code yX5_number cX5_number 2 (some .int), Cond.fieldLink RX5 7 "LastMap$Signs" "WRITTEN" "[I", Cond.methodLink RX2 52 yX1_with, Cond.static yX1_with, Cond.initialized RX1, Cond.code yX1_with cX1_with 3 (some .int), Cond.methodLink RX1 23 yX1_signAt, Cond.static yX1_signAt, Cond.code yX1_signAt cX1_signAt 2 (some .int), Cond.methodLink RX1 15 yX1_weight]
def wsX2_mapCode_r2 : List Cond := [Cond.static yX1_weight, Cond.code yX1_weight cX1_weight 1 (some .int), Cond.fieldLink RX1 9 "LastMap$Maps" "WEIGHTS" "[I", Cond.methodLink RX1 19 yX1_signBy, Cond.static yX1_signBy, Cond.code yX1_signBy cX1_signBy 2 (some .int)]
def wsX2_mapCode : List Cond := .code yX2_mapCode cX2_mapCode 3 (some .int) :: ((wsX2_mapCode_r1 ++ wsX2_mapCode_r2) ++ wsX20)
def wsX6_number : List Cond := .code yX6_number cX6_number 3 (some .int) :: ([])
def wsX2_readSlips_r1 : List Cond := [Cond.fieldLink RX2 15 "LastMap$Pad" "slips" "[I", Cond.fieldLink RX2 18 "LastMap$Pad" "length" "I", Cond.methodLink RX2 44 yX2_kindAt, Cond.instanceMethod yX2_kindAt, Cond.selects RX2 yX2_kindAt yX2_kindAt, Cond.initialized RX2, Cond.code yX2_kindAt cX2_kindAt 2 (some .int), Cond.methodLink RX2 22 yX2_signAt, Cond.instanceMethod yX2_signAt, Cond.selects RX2 yX2_signAt yX2_signAt, Cond.code yX2_signAt cX2_signAt 2 (some .int), Cond.fieldLink RX2 9 "LastMap$Pad" "signs" "[I", Cond.methodLink RX2 34 yX2_markAt, Cond.instanceMethod yX2_markAt, Cond.selects RX2 yX2_markAt yX2_markAt, Cond.code yX2_markAt cX2_markAt 2 (some .int), Cond.methodLink RX2 26 yX5_number, Cond.static yX5_number, Cond.initialized RX5, Cond.code yX5_number cX5_number 2 (some .int), Cond.fieldLink RX5 7 "LastMap$Signs" "WRITTEN" "[I", Cond.methodLink RX2 58 yX6_number, Cond.static yX6_number, Cond.initialized RX6]
def wsX2_readSlips_r2 : List Cond := [Cond.code yX6_number cX6_number 3 (some .int), Cond.methodLink RX2 41 yX2_lengthOfSlip, Cond.instanceMethod yX2_lengthOfSlip, Cond.selects RX2 yX2_lengthOfSlip yX2_lengthOfSlip, Cond.code yX2_lengthOfSlip cX2_lengthOfSlip 2 (some .int)]
def wsX2_readSlips : List Cond := .code yX2_readSlips cX2_readSlips 5 (some .int) :: ((wsX2_readSlips_r1 ++ wsX2_readSlips_r2) ++ wsX20)
def wsX2_slipAt : List Cond := .code yX2_slipAt cX2_slipAt 2 (some .int) :: ([.fieldLink RX2 15 "LastMap$Pad" "slips" "[I"] ++ wsX20)
def wsX3_init : List Cond := .code yX3_init cX3_init 1 none :: ([.methodLink RX3 3 objectInit, .instanceMethod objectInit, .code objectInit ⟨#[0xb1]⟩ 1 none, .fieldLink RX3 9 "LastMap$Papers" "siteCount" "I", .fieldLink RX3 15 "LastMap$Papers" "spadeCount" "I", .arrayClass .int, .fieldLink RX3 18 "LastMap$Papers" "codes" "[I", .fieldLink RX3 22 "LastMap$Papers" "kinds" "[I"] ++ wsX30)
def wsX3_codeOf : List Cond := .code yX3_codeOf cX3_codeOf 2 (some .int) :: ([.fieldLink RX3 18 "LastMap$Papers" "codes" "[I"] ++ wsX30)
def wsX3_tell : List Cond := .code yX3_tell cX3_tell 3 none :: ([.fieldLink RX3 18 "LastMap$Papers" "codes" "[I", .fieldLink RX3 25 "LastMap$Papers" "toldMaps" "I"] ++ wsX30)
def wsX3_kindsOf : List Cond := .code yX3_kindsOf cX3_kindsOf 2 (some .int) :: ([.fieldLink RX3 22 "LastMap$Papers" "kinds" "[I"] ++ wsX30)
def wsX3_teach : List Cond := .code yX3_teach cX3_teach 3 none :: ([.fieldLink RX3 22 "LastMap$Papers" "kinds" "[I"] ++ wsX30)
def wsX3_take : List Cond := .code yX3_take cX3_take 3 none :: ([.fieldLink RX3 9 "LastMap$Papers" "siteCount" "I", .fieldLink RX3 25 "LastMap$Papers" "toldMaps" "I", .fieldLink RX3 15 "LastMap$Papers" "spadeCount" "I", .fieldLink RX3 28 "LastMap$Papers" "ground" "I", .fieldLink RX3 18 "LastMap$Papers" "codes" "[I", .fieldLink RX3 22 "LastMap$Papers" "kinds" "[I", .methodLink RX3 31 yX3_codeOf, .instanceMethod yX3_codeOf, .selects RX3 yX3_codeOf yX3_codeOf, .initialized RX3, .code yX3_codeOf cX3_codeOf 2 (some .int), .methodLink RX3 35 yX3_kindsOf, .instanceMethod yX3_kindsOf, .selects RX3 yX3_kindsOf yX3_kindsOf, .code yX3_kindsOf cX3_kindsOf 2 (some .int)] ++ wsX30)
def wsX4_init : List Cond := .code yX4_init cX4_init 1 none :: ([.methodLink RX4 3 objectInit, .instanceMethod objectInit, .code objectInit ⟨#[0xb1]⟩ 1 none, .classLink RX4 11 RX7, .fieldLink RX4 13 "LastMap$Search" "tables" "[LLastMap$Table;", .arrayClass .int, .fieldLink RX4 19 "LastMap$Search" "sums" "[I"] ++ wsX40)
def wsX7_isFor : List Cond := .code yX7_isFor cX7_isFor 4 (some .boolean) :: ([.fieldLink RX7 21 "LastMap$Table" "goal" "I", .fieldLink RX7 25 "LastMap$Table" "kinds" "I", .fieldLink RX7 28 "LastMap$Table" "n" "I"] ++ wsX70)
def wsX7_init : List Cond := .code yX7_init cX7_init 1 none :: ([.methodLink RX7 3 objectInit, .instanceMethod objectInit, .code objectInit ⟨#[0xb1]⟩ 1 none, .arrayClass .byte, .fieldLink RX7 11 "LastMap$Table" "slips" "[B", .arrayClass .int, .fieldLink RX7 17 "LastMap$Table" "queue" "[I"] ++ wsX70)
def wsX4_takeOldest : List Cond := .code yX4_takeOldest cX4_takeOldest 3 (some (.object "LastMap$Table")) :: ([.fieldLink RX4 35 "LastMap$Search" "oldest" "I", .fieldLink RX4 13 "LastMap$Search" "tables" "[LLastMap$Table;", .classLink RX4 11 RX7, .instantiable RX7 7, .initialized RX7, .instanceMethod yX7_init, .code yX7_init cX7_init 1 none, .methodLink RX7 3 objectInit, .instanceMethod objectInit, .code objectInit ⟨#[0xb1]⟩ 1 none, .arrayClass .byte, .fieldLink RX7 11 "LastMap$Table" "slips" "[B", .arrayClass .int, .fieldLink RX7 17 "LastMap$Table" "queue" "[I"] ++ wsX40 ++ wsX70)
def wsJ7_fill_031fb : List Cond := .code yJ7_fill_031fb cJ7_fill_031fb 4 none :: ([])
def wsX7_reach : List Cond := .code yX7_reach cX7_reach 3 none :: ([.fieldLink RX7 11 "LastMap$Table" "slips" "[B", .fieldLink RX7 31 "LastMap$Table" "queued" "I", .fieldLink RX7 17 "LastMap$Table" "queue" "[I"] ++ wsX70)
def wsX7_queueGoal : List Cond := .code yX7_queueGoal cX7_queueGoal 5 none :: ([.fieldLink RX7 28 "LastMap$Table" "n" "I", .fieldLink RX7 21 "LastMap$Table" "goal" "I", .methodLink RX7 61 yX7_reach, .instanceMethod yX7_reach, .selects RX7 yX7_reach yX7_reach, .initialized RX7, .code yX7_reach cX7_reach 3 none, .fieldLink RX7 11 "LastMap$Table" "slips" "[B", .fieldLink RX7 31 "LastMap$Table" "queued" "I", .fieldLink RX7 17 "LastMap$Table" "queue" "[I", .methodLink RX7 64 yX0_markAt, .static yX0_markAt, .initialized RX0, .code yX0_markAt cX0_markAt 2 (some .int), .methodLink RX7 70 yX1_weight, .static yX1_weight, .initialized RX1, .code yX1_weight cX1_weight 1 (some .int), .fieldLink RX1 9 "LastMap$Maps" "WEIGHTS" "[I", .methodLink RX7 43 yX7_queueGoal, .instanceMethod yX7_queueGoal, .selects RX7 yX7_queueGoal yX7_queueGoal] ++ wsX70)
def wsX7_begin_r1 : List Cond := [Cond.fieldLink RX7 21 "LastMap$Table" "goal" "I", Cond.fieldLink RX7 25 "LastMap$Table" "kinds" "I", Cond.fieldLink RX7 28 "LastMap$Table" "n" "I", Cond.fieldLink RX7 31 "LastMap$Table" "queued" "I", Cond.fieldLink RX7 34 "LastMap$Table" "searched" "I", Cond.fieldLink RX7 11 "LastMap$Table" "slips" "[B", Cond.methodLink RX7 37 yJ7_fill_031fb, Cond.static yJ7_fill_031fb, Cond.initialized RJ7, Cond.code yJ7_fill_031fb cJ7_fill_031fb 4 none, Cond.methodLink RX7 43 yX7_queueGoal, Cond.instanceMethod yX7_queueGoal, Cond.selects RX7 yX7_queueGoal yX7_queueGoal, Cond.initialized RX7, Cond.code yX7_queueGoal cX7_queueGoal 5 none, Cond.methodLink RX7 61 yX7_reach, Cond.instanceMethod yX7_reach, Cond.selects RX7 yX7_reach yX7_reach, Cond.code yX7_reach cX7_reach 3 none, Cond.fieldLink RX7 17 "LastMap$Table" "queue" "[I", Cond.methodLink RX7 64 yX0_markAt, Cond.static yX0_markAt, Cond.initialized RX0, Cond.code yX0_markAt cX0_markAt 2 (some .int)]
def wsX7_begin_r2 : List Cond := [Cond.methodLink RX7 70 yX1_weight, Cond.static yX1_weight, Cond.initialized RX1, Cond.code yX1_weight cX1_weight 1 (some .int), Cond.fieldLink RX1 9 "LastMap$Maps" "WEIGHTS" "[I"]
def wsX7_begin : List Cond := .code yX7_begin cX7_begin 4 none :: ((wsX7_begin_r1 ++ wsX7_begin_r2) ++ wsX70)
def wsX4_toward_r1 : List Cond := [Cond.fieldLink RX4 13 "LastMap$Search" "tables" "[LLastMap$Table;", Cond.methodLink RX4 23 yX7_isFor, Cond.instanceMethod yX7_isFor, Cond.selects RX7 yX7_isFor yX7_isFor, Cond.initialized RX7, Cond.code yX7_isFor cX7_isFor 4 (some .boolean), Cond.fieldLink RX7 21 "LastMap$Table" "goal" "I", Cond.fieldLink RX7 25 "LastMap$Table" "kinds" "I", Cond.fieldLink RX7 28 "LastMap$Table" "n" "I", Cond.methodLink RX4 27 yX4_takeOldest, Cond.instanceMethod yX4_takeOldest, Cond.selects RX4 yX4_takeOldest yX4_takeOldest, Cond.initialized RX4, Cond.code yX4_takeOldest cX4_takeOldest 3 (some (.object "LastMap$Table")), Cond.fieldLink RX4 35 "LastMap$Search" "oldest" "I", Cond.classLink RX4 11 RX7, Cond.instantiable RX7 7, Cond.instanceMethod yX7_init, Cond.code yX7_init cX7_init 1 none, Cond.methodLink RX7 3 objectInit, Cond.instanceMethod objectInit, Cond.code objectInit ⟨#[0xb1]⟩ 1 none, Cond.arrayClass .byte, Cond.fieldLink RX7 11 "LastMap$Table" "slips" "[B"]
def wsX4_toward_r2 : List Cond := [Cond.arrayClass .int, Cond.fieldLink RX7 17 "LastMap$Table" "queue" "[I", Cond.methodLink RX4 31 yX7_begin, Cond.instanceMethod yX7_begin, Cond.selects RX7 yX7_begin yX7_begin, Cond.code yX7_begin cX7_begin 4 none, Cond.fieldLink RX7 31 "LastMap$Table" "queued" "I", Cond.fieldLink RX7 34 "LastMap$Table" "searched" "I", Cond.methodLink RX7 37 yJ7_fill_031fb, Cond.static yJ7_fill_031fb, Cond.initialized RJ7, Cond.code yJ7_fill_031fb cJ7_fill_031fb 4 none, Cond.methodLink RX7 43 yX7_queueGoal, Cond.instanceMethod yX7_queueGoal, Cond.selects RX7 yX7_queueGoal yX7_queueGoal, Cond.code yX7_queueGoal cX7_queueGoal 5 none, Cond.methodLink RX7 61 yX7_reach, Cond.instanceMethod yX7_reach, Cond.selects RX7 yX7_reach yX7_reach, Cond.code yX7_reach cX7_reach 3 none, Cond.methodLink RX7 64 yX0_markAt, Cond.static yX0_markAt, Cond.initialized RX0, Cond.code yX0_markAt cX0_markAt 2 (some .int)]
def wsX4_toward_r3 : List Cond := [Cond.methodLink RX7 70 yX1_weight, Cond.static yX1_weight, Cond.initialized RX1, Cond.code yX1_weight cX1_weight 1 (some .int), Cond.fieldLink RX1 9 "LastMap$Maps" "WEIGHTS" "[I"]
def wsX4_toward : List Cond := .code yX4_toward cX4_toward 6 (some (.object "LastMap$Table")) :: ((wsX4_toward_r1 ++ (wsX4_toward_r2 ++ wsX4_toward_r3)) ++ wsX40 ++ wsX70)
def wsJ7_fill_53178 : List Cond := .code yJ7_fill_53178 cJ7_fill_53178 4 none :: ([])
def wsX4_clearSums : List Cond := .code yX4_clearSums cX4_clearSums 1 none :: ([.fieldLink RX4 19 "LastMap$Search" "sums" "[I", .methodLink RX4 40 yJ7_fill_53178, .static yJ7_fill_53178, .initialized RJ7, .code yJ7_fill_53178 cJ7_fill_53178 4 none] ++ wsX40)
def wsX7_known : List Cond := .code yX7_known cX7_known 2 (some .int) :: ([.fieldLink RX7 11 "LastMap$Table" "slips" "[B"] ++ wsX70)
def wsX7_canHaveMade : List Cond := .code yX7_canHaveMade cX7_canHaveMade 3 (some .boolean) :: ([.fieldLink RX7 25 "LastMap$Table" "kinds" "I"] ++ wsX70)
def wsX7_queueBefore_r1 : List Cond := [Cond.fieldLink RX7 28 "LastMap$Table" "n" "I", Cond.fieldLink RX7 25 "LastMap$Table" "kinds" "I", Cond.methodLink RX7 51 yX7_known, Cond.instanceMethod yX7_known, Cond.selects RX7 yX7_known yX7_known, Cond.initialized RX7, Cond.code yX7_known cX7_known 2 (some .int), Cond.fieldLink RX7 11 "LastMap$Table" "slips" "[B", Cond.methodLink RX7 70 yX1_weight, Cond.static yX1_weight, Cond.initialized RX1, Cond.code yX1_weight cX1_weight 1 (some .int), Cond.fieldLink RX1 9 "LastMap$Maps" "WEIGHTS" "[I", Cond.methodLink RX7 73 yX1_signBy, Cond.static yX1_signBy, Cond.code yX1_signBy cX1_signBy 2 (some .int), Cond.methodLink RX7 76 yX7_canHaveMade, Cond.instanceMethod yX7_canHaveMade, Cond.selects RX7 yX7_canHaveMade yX7_canHaveMade, Cond.code yX7_canHaveMade cX7_canHaveMade 3 (some .boolean), Cond.methodLink RX7 61 yX7_reach, Cond.instanceMethod yX7_reach, Cond.selects RX7 yX7_reach yX7_reach, Cond.code yX7_reach cX7_reach 3 none]
def wsX7_queueBefore_r2 : List Cond := [Cond.fieldLink RX7 31 "LastMap$Table" "queued" "I", Cond.fieldLink RX7 17 "LastMap$Table" "queue" "[I"]
def wsX7_queueBefore : List Cond := .code yX7_queueBefore cX7_queueBefore 9 none :: ((wsX7_queueBefore_r1 ++ wsX7_queueBefore_r2) ++ wsX70)
def wsX7_searchFor_r1 : List Cond := [Cond.fieldLink RX7 28 "LastMap$Table" "n" "I", Cond.fieldLink RX7 31 "LastMap$Table" "queued" "I", Cond.fieldLink RX7 34 "LastMap$Table" "searched" "I", Cond.fieldLink RX7 17 "LastMap$Table" "queue" "[I", Cond.methodLink RX7 55 yX1_countOf, Cond.static yX1_countOf, Cond.initialized RX1, Cond.code yX1_countOf cX1_countOf 2 (some .int), Cond.methodLink RX1 15 yX1_weight, Cond.static yX1_weight, Cond.code yX1_weight cX1_weight 1 (some .int), Cond.fieldLink RX1 9 "LastMap$Maps" "WEIGHTS" "[I", Cond.methodLink RX7 51 yX7_known, Cond.instanceMethod yX7_known, Cond.selects RX7 yX7_known yX7_known, Cond.initialized RX7, Cond.code yX7_known cX7_known 2 (some .int), Cond.fieldLink RX7 11 "LastMap$Table" "slips" "[B", Cond.methodLink RX7 58 yX7_queueBefore, Cond.instanceMethod yX7_queueBefore, Cond.selects RX7 yX7_queueBefore yX7_queueBefore, Cond.code yX7_queueBefore cX7_queueBefore 9 none, Cond.fieldLink RX7 25 "LastMap$Table" "kinds" "I", Cond.methodLink RX7 70 yX1_weight]
def wsX7_searchFor_r2 : List Cond := [Cond.methodLink RX7 73 yX1_signBy, Cond.static yX1_signBy, Cond.code yX1_signBy cX1_signBy 2 (some .int), Cond.methodLink RX7 76 yX7_canHaveMade, Cond.instanceMethod yX7_canHaveMade, Cond.selects RX7 yX7_canHaveMade yX7_canHaveMade, Cond.code yX7_canHaveMade cX7_canHaveMade 3 (some .boolean), Cond.methodLink RX7 61 yX7_reach, Cond.instanceMethod yX7_reach, Cond.selects RX7 yX7_reach yX7_reach, Cond.code yX7_reach cX7_reach 3 none]
def wsX7_searchFor : List Cond := .code yX7_searchFor cX7_searchFor 3 none :: ((wsX7_searchFor_r1 ++ wsX7_searchFor_r2) ++ wsX70)
def wsX7_searchAll_r1 : List Cond := [Cond.methodLink RX7 47 yX7_searchFor, Cond.instanceMethod yX7_searchFor, Cond.selects RX7 yX7_searchFor yX7_searchFor, Cond.initialized RX7, Cond.code yX7_searchFor cX7_searchFor 3 none, Cond.fieldLink RX7 28 "LastMap$Table" "n" "I", Cond.fieldLink RX7 31 "LastMap$Table" "queued" "I", Cond.fieldLink RX7 34 "LastMap$Table" "searched" "I", Cond.fieldLink RX7 17 "LastMap$Table" "queue" "[I", Cond.methodLink RX7 55 yX1_countOf, Cond.static yX1_countOf, Cond.initialized RX1, Cond.code yX1_countOf cX1_countOf 2 (some .int), Cond.methodLink RX1 15 yX1_weight, Cond.static yX1_weight, Cond.code yX1_weight cX1_weight 1 (some .int), Cond.fieldLink RX1 9 "LastMap$Maps" "WEIGHTS" "[I", Cond.methodLink RX7 51 yX7_known, Cond.instanceMethod yX7_known, Cond.selects RX7 yX7_known yX7_known, Cond.code yX7_known cX7_known 2 (some .int), Cond.fieldLink RX7 11 "LastMap$Table" "slips" "[B", Cond.methodLink RX7 58 yX7_queueBefore, Cond.instanceMethod yX7_queueBefore]
def wsX7_searchAll_r2 : List Cond := [Cond.selects RX7 yX7_queueBefore yX7_queueBefore, Cond.code yX7_queueBefore cX7_queueBefore 9 none, Cond.fieldLink RX7 25 "LastMap$Table" "kinds" "I", Cond.methodLink RX7 70 yX1_weight, Cond.methodLink RX7 73 yX1_signBy, Cond.static yX1_signBy, Cond.code yX1_signBy cX1_signBy 2 (some .int), Cond.methodLink RX7 76 yX7_canHaveMade, Cond.instanceMethod yX7_canHaveMade, Cond.selects RX7 yX7_canHaveMade yX7_canHaveMade, Cond.code yX7_canHaveMade cX7_canHaveMade 3 (some .boolean), Cond.methodLink RX7 61 yX7_reach, Cond.instanceMethod yX7_reach, Cond.selects RX7 yX7_reach yX7_reach, Cond.code yX7_reach cX7_reach 3 none]
def wsX7_searchAll : List Cond := .code yX7_searchAll cX7_searchAll 1 none :: ((wsX7_searchAll_r1 ++ wsX7_searchAll_r2) ++ wsX70)
def wsX4_addToSums_r1 : List Cond := [Cond.fieldLink RX4 19 "LastMap$Search" "sums" "[I", Cond.methodLink RX4 46 yX7_searchAll, Cond.instanceMethod yX7_searchAll, Cond.selects RX7 yX7_searchAll yX7_searchAll, Cond.initialized RX7, Cond.code yX7_searchAll cX7_searchAll 1 none, Cond.methodLink RX7 47 yX7_searchFor, Cond.instanceMethod yX7_searchFor, Cond.selects RX7 yX7_searchFor yX7_searchFor, Cond.code yX7_searchFor cX7_searchFor 3 none, Cond.fieldLink RX7 28 "LastMap$Table" "n" "I", Cond.fieldLink RX7 31 "LastMap$Table" "queued" "I", Cond.fieldLink RX7 34 "LastMap$Table" "searched" "I", Cond.fieldLink RX7 17 "LastMap$Table" "queue" "[I", Cond.methodLink RX7 55 yX1_countOf, Cond.static yX1_countOf, Cond.initialized RX1, Cond.code yX1_countOf cX1_countOf 2 (some .int), Cond.methodLink RX1 15 yX1_weight, Cond.static yX1_weight, Cond.code yX1_weight cX1_weight 1 (some .int), Cond.fieldLink RX1 9 "LastMap$Maps" "WEIGHTS" "[I", Cond.methodLink RX7 51 yX7_known, Cond.instanceMethod yX7_known]
def wsX4_addToSums_r2 : List Cond := [Cond.selects RX7 yX7_known yX7_known, Cond.code yX7_known cX7_known 2 (some .int), Cond.fieldLink RX7 11 "LastMap$Table" "slips" "[B", Cond.methodLink RX7 58 yX7_queueBefore, Cond.instanceMethod yX7_queueBefore, Cond.selects RX7 yX7_queueBefore yX7_queueBefore, Cond.code yX7_queueBefore cX7_queueBefore 9 none, Cond.fieldLink RX7 25 "LastMap$Table" "kinds" "I", Cond.methodLink RX7 70 yX1_weight, Cond.methodLink RX7 73 yX1_signBy, Cond.static yX1_signBy, Cond.code yX1_signBy cX1_signBy 2 (some .int), Cond.methodLink RX7 76 yX7_canHaveMade, Cond.instanceMethod yX7_canHaveMade, Cond.selects RX7 yX7_canHaveMade yX7_canHaveMade, Cond.code yX7_canHaveMade cX7_canHaveMade 3 (some .boolean), Cond.methodLink RX7 61 yX7_reach, Cond.instanceMethod yX7_reach, Cond.selects RX7 yX7_reach yX7_reach, Cond.code yX7_reach cX7_reach 3 none, Cond.methodLink RX4 49 yX7_known]
def wsX4_addToSums : List Cond := .code yX4_addToSums cX4_addToSums 4 none :: ((wsX4_addToSums_r1 ++ wsX4_addToSums_r2) ++ wsX40 ++ wsX70)
def wsX4_sumOf : List Cond := .code yX4_sumOf cX4_sumOf 2 (some .int) :: ([.fieldLink RX4 19 "LastMap$Search" "sums" "[I"] ++ wsX40)
def wsX4_firstOfLeastSum : List Cond := .code yX4_firstOfLeastSum cX4_firstOfLeastSum 5 (some .int) :: ([.methodLink RX4 56 Lib.Math.max.name, .static Lib.Math.max.name, .initialized "java/lang/Math", .code Lib.Math.max.name Lib.Math.max.code 2 (some .int), .fieldLink RX4 19 "LastMap$Search" "sums" "[I", .methodLink RX4 53 yX1_weight, .static yX1_weight, .initialized RX1, .code yX1_weight cX1_weight 1 (some .int), .fieldLink RX1 9 "LastMap$Maps" "WEIGHTS" "[I", .methodLink RX4 62 yX4_sumOf, .instanceMethod yX4_sumOf, .selects RX4 yX4_sumOf yX4_sumOf, .initialized RX4, .code yX4_sumOf cX4_sumOf 2 (some .int)] ++ wsX40)
def wsX5_written : List Cond := .code yX5_written cX5_written 1 (some .int) :: ([.fieldLink RX5 7 "LastMap$Signs" "WRITTEN" "[I"])
def wsX6_inOrder : List Cond := .code yX6_inOrder cX6_inOrder 1 (some .int) :: ([.fieldLink RX6 9 "LastMap$Slips" "ORDER" "[I"])
def wsX6_isMade : List Cond := .code yX6_isMade cX6_isMade 4 (some .boolean) :: ([.methodLink RX6 15 yX6_sitesFor, .static yX6_sitesFor, .initialized RX6, .code yX6_sitesFor cX6_sitesFor 2 (some .int)])
def wsX6_after : List Cond := .code yX6_after cX6_after 4 (some .int) :: ([.methodLink RX6 19 yX1_signAt, .static yX1_signAt, .initialized RX1, .code yX1_signAt cX1_signAt 2 (some .int), .methodLink RX1 15 yX1_weight, .static yX1_weight, .code yX1_weight cX1_weight 1 (some .int), .fieldLink RX1 9 "LastMap$Maps" "WEIGHTS" "[I", .methodLink RX1 19 yX1_signBy, .static yX1_signBy, .code yX1_signBy cX1_signBy 2 (some .int), .methodLink RX6 24 yX1_with, .static yX1_with, .code yX1_with cX1_with 3 (some .int), .methodLink RX1 23 yX1_signAt])
def wsX7_slipsFrom_r1 : List Cond := [Cond.methodLink RX7 47 yX7_searchFor, Cond.instanceMethod yX7_searchFor, Cond.selects RX7 yX7_searchFor yX7_searchFor, Cond.initialized RX7, Cond.code yX7_searchFor cX7_searchFor 3 none, Cond.fieldLink RX7 28 "LastMap$Table" "n" "I", Cond.fieldLink RX7 31 "LastMap$Table" "queued" "I", Cond.fieldLink RX7 34 "LastMap$Table" "searched" "I", Cond.fieldLink RX7 17 "LastMap$Table" "queue" "[I", Cond.methodLink RX7 55 yX1_countOf, Cond.static yX1_countOf, Cond.initialized RX1, Cond.code yX1_countOf cX1_countOf 2 (some .int), Cond.methodLink RX1 15 yX1_weight, Cond.static yX1_weight, Cond.code yX1_weight cX1_weight 1 (some .int), Cond.fieldLink RX1 9 "LastMap$Maps" "WEIGHTS" "[I", Cond.methodLink RX7 51 yX7_known, Cond.instanceMethod yX7_known, Cond.selects RX7 yX7_known yX7_known, Cond.code yX7_known cX7_known 2 (some .int), Cond.fieldLink RX7 11 "LastMap$Table" "slips" "[B", Cond.methodLink RX7 58 yX7_queueBefore, Cond.instanceMethod yX7_queueBefore]
def wsX7_slipsFrom_r2 : List Cond := [Cond.selects RX7 yX7_queueBefore yX7_queueBefore, Cond.code yX7_queueBefore cX7_queueBefore 9 none, Cond.fieldLink RX7 25 "LastMap$Table" "kinds" "I", Cond.methodLink RX7 70 yX1_weight, Cond.methodLink RX7 73 yX1_signBy, Cond.static yX1_signBy, Cond.code yX1_signBy cX1_signBy 2 (some .int), Cond.methodLink RX7 76 yX7_canHaveMade, Cond.instanceMethod yX7_canHaveMade, Cond.selects RX7 yX7_canHaveMade yX7_canHaveMade, Cond.code yX7_canHaveMade cX7_canHaveMade 3 (some .boolean), Cond.methodLink RX7 61 yX7_reach, Cond.instanceMethod yX7_reach, Cond.selects RX7 yX7_reach yX7_reach, Cond.code yX7_reach cX7_reach 3 none]
def wsX7_slipsFrom : List Cond := .code yX7_slipsFrom cX7_slipsFrom 2 (some .int) :: ((wsX7_slipsFrom_r1 ++ wsX7_slipsFrom_r2) ++ wsX70)
def wsX8_init : List Cond := .code yX8_init cX8_init 1 none :: ([.methodLink RX8 3 objectInit, .instanceMethod objectInit, .code objectInit ⟨#[0xb1]⟩ 1 none, .arrayClass .int, .fieldLink RX8 9 "LastMap$Trees" "slips" "[I", .fieldLink RX8 15 "LastMap$Trees" "from" "[I", .fieldLink RX8 18 "LastMap$Trees" "best" "[I"] ++ wsX80)
def wsX9_isMap : List Cond := .code yX9_isMap cX9_isMap 1 (some .boolean) :: ([])
def wsX8_note : List Cond := .code yX8_note cX8_note 4 none :: ([.fieldLink RX8 9 "LastMap$Trees" "slips" "[I", .static yX9_isMap, .initialized RX9, .code yX9_isMap cX9_isMap 1 (some .boolean)] ++ wsX80)
def wsX8_slipsOf : List Cond := .code yX8_slipsOf cX8_slipsOf 3 (some .int) :: ([.fieldLink RX8 9 "LastMap$Trees" "slips" "[I", .static yX9_isMap, .initialized RX9, .code yX9_isMap cX9_isMap 1 (some .boolean)] ++ wsX80)
def wsX8_weigh : List Cond := .code yX8_weigh cX8_weigh 2 none :: ([.fieldLink RX8 25 "LastMap$Trees" "least" "I", .fieldLink RX8 29 "LastMap$Trees" "many" "I", .fieldLink RX8 15 "LastMap$Trees" "from" "[I", .fieldLink RX8 18 "LastMap$Trees" "best" "[I", .methodLink RX8 57 arraycopyName, .native arraycopyName, .static arraycopyName, .initialized "java/lang/System"] ++ wsX80)
def wsX9_isOf : List Cond := .code yX9_isOf cX9_isOf 2 (some .boolean) :: ([.methodLink RX9 48 yX9_isMap, .static yX9_isMap, .initialized RX9, .code yX9_isMap cX9_isMap 1 (some .boolean)])
def wsX8_comesOf : List Cond := .code yX8_comesOf cX8_comesOf 5 (some .boolean) :: ([.fieldLink RX8 15 "LastMap$Trees" "from" "[I", .static yX9_isMap, .initialized RX9, .code yX9_isMap cX9_isMap 1 (some .boolean)] ++ wsX80)
def wsX8_draw_r1 : List Cond := [Cond.fieldLink RX8 25 "LastMap$Trees" "least" "I", Cond.fieldLink RX8 15 "LastMap$Trees" "from" "[I", Cond.methodLink RX8 42 yX8_weigh, Cond.instanceMethod yX8_weigh, Cond.selects RX8 yX8_weigh yX8_weigh, Cond.initialized RX8, Cond.code yX8_weigh cX8_weigh 2 none, Cond.fieldLink RX8 29 "LastMap$Trees" "many" "I", Cond.fieldLink RX8 18 "LastMap$Trees" "best" "[I", Cond.methodLink RX8 57 arraycopyName, Cond.native arraycopyName, Cond.static arraycopyName, Cond.initialized "java/lang/System", Cond.static yX9_isOf, Cond.initialized RX9, Cond.code yX9_isOf cX9_isOf 2 (some .boolean), Cond.methodLink RX9 48 yX9_isMap, Cond.static yX9_isMap, Cond.code yX9_isMap cX9_isMap 1 (some .boolean), Cond.methodLink RX8 38 yX8_draw, Cond.instanceMethod yX8_draw, Cond.selects RX8 yX8_draw yX8_draw, Cond.methodLink RX8 50 yX8_slipsOf, Cond.instanceMethod yX8_slipsOf]
def wsX8_draw_r2 : List Cond := [Cond.selects RX8 yX8_slipsOf yX8_slipsOf, Cond.code yX8_slipsOf cX8_slipsOf 3 (some .int), Cond.fieldLink RX8 9 "LastMap$Trees" "slips" "[I", Cond.methodLink RX8 54 yX8_comesOf, Cond.instanceMethod yX8_comesOf, Cond.selects RX8 yX8_comesOf yX8_comesOf, Cond.code yX8_comesOf cX8_comesOf 5 (some .boolean)]
def wsX8_draw : List Cond := .code yX8_draw cX8_draw 7 none :: ((wsX8_draw_r1 ++ wsX8_draw_r2) ++ wsX80)
def wsX8_seek_r1 : List Cond := [Cond.fieldLink RX8 25 "LastMap$Trees" "least" "I", Cond.fieldLink RX8 29 "LastMap$Trees" "many" "I", Cond.fieldLink RX8 15 "LastMap$Trees" "from" "[I", Cond.methodLink RX8 32 yJ7_fill_53178, Cond.static yJ7_fill_53178, Cond.initialized RJ7, Cond.code yJ7_fill_53178 cJ7_fill_53178 4 none, Cond.methodLink RX8 38 yX8_draw, Cond.instanceMethod yX8_draw, Cond.selects RX8 yX8_draw yX8_draw, Cond.initialized RX8, Cond.code yX8_draw cX8_draw 7 none, Cond.methodLink RX8 42 yX8_weigh, Cond.instanceMethod yX8_weigh, Cond.selects RX8 yX8_weigh yX8_weigh, Cond.code yX8_weigh cX8_weigh 2 none, Cond.fieldLink RX8 18 "LastMap$Trees" "best" "[I", Cond.methodLink RX8 57 arraycopyName, Cond.native arraycopyName, Cond.static arraycopyName, Cond.initialized "java/lang/System", Cond.static yX9_isOf, Cond.initialized RX9, Cond.code yX9_isOf cX9_isOf 2 (some .boolean)]
def wsX8_seek_r2 : List Cond := [Cond.methodLink RX9 48 yX9_isMap, Cond.static yX9_isMap, Cond.code yX9_isMap cX9_isMap 1 (some .boolean), Cond.methodLink RX8 50 yX8_slipsOf, Cond.instanceMethod yX8_slipsOf, Cond.selects RX8 yX8_slipsOf yX8_slipsOf, Cond.code yX8_slipsOf cX8_slipsOf 3 (some .int), Cond.fieldLink RX8 9 "LastMap$Trees" "slips" "[I", Cond.methodLink RX8 54 yX8_comesOf, Cond.instanceMethod yX8_comesOf, Cond.selects RX8 yX8_comesOf yX8_comesOf, Cond.code yX8_comesOf cX8_comesOf 5 (some .boolean)]
def wsX8_seek : List Cond := .code yX8_seek cX8_seek 2 none :: ((wsX8_seek_r1 ++ wsX8_seek_r2) ++ wsX80)
def wsX8_answer : List Cond := .code yX8_answer cX8_answer 3 (some .int) :: ([.fieldLink RX8 25 "LastMap$Trees" "least" "I", .fieldLink RX8 29 "LastMap$Trees" "many" "I", .fieldLink RX8 18 "LastMap$Trees" "best" "[I", .static yX9_isMap, .initialized RX9, .code yX9_isMap cX9_isMap 1 (some .boolean)] ++ wsX80)
def wsX9_init_r1 : List Cond := [Cond.methodLink RX9 1 objectInit, Cond.instanceMethod objectInit, Cond.code objectInit ⟨#[0xb1]⟩ 1 none, Cond.classLink RX9 7 RX2, Cond.instantiable RX2 3, Cond.initialized RX2, Cond.fieldLink RX9 10 "LastMap" "pad" "LLastMap$Pad;", Cond.classLink RX9 16 RX3, Cond.instantiable RX3 6, Cond.initialized RX3, Cond.fieldLink RX9 19 "LastMap" "papers" "LLastMap$Papers;", Cond.fieldLink RX9 23 "LastMap" "images" "[LLastMap$Papers;", Cond.instanceMethod yX2_init, Cond.code yX2_init cX2_init 1 none, Cond.methodLink RX2 3 objectInit, Cond.arrayClass .int, Cond.fieldLink RX2 9 "LastMap$Pad" "signs" "[I", Cond.fieldLink RX2 15 "LastMap$Pad" "slips" "[I", Cond.instanceMethod yX3_init, Cond.code yX3_init cX3_init 1 none, Cond.methodLink RX3 3 objectInit, Cond.fieldLink RX3 9 "LastMap$Papers" "siteCount" "I", Cond.fieldLink RX3 15 "LastMap$Papers" "spadeCount" "I", Cond.fieldLink RX3 18 "LastMap$Papers" "codes" "[I"]
def wsX9_init_r2 : List Cond := [Cond.fieldLink RX3 22 "LastMap$Papers" "kinds" "[I"]
def wsX9_init : List Cond := .code yX9_init cX9_init 1 none :: ((wsX9_init_r1 ++ wsX9_init_r2) ++ wsX20 ++ wsX90 ++ wsX30)
def wsX9_sites : List Cond := .code yX9_sites cX9_sites 3 (some .int) :: ([.fieldLink RX9 19 "LastMap" "papers" "LLastMap$Papers;", .fieldLink RX9 27 "LastMap$Papers" "siteCount" "I", .fieldLink RX9 31 "LastMap$Papers" "toldMaps" "I", .fieldLink RX9 34 "LastMap$Papers" "ground" "I"] ++ wsX90 ++ wsX30)
def wsX9_say : List Cond := .code yX9_say cX9_say 2 (some .int) :: ([.fieldLink RX9 10 "LastMap" "pad" "LLastMap$Pad;", .fieldLink RX9 41 "LastMap$Pad" "length" "I", .methodLink RX9 37 yX2_put, .instanceMethod yX2_put, .selects RX2 yX2_put yX2_put, .initialized RX2, .code yX2_put cX2_put 2 (some .boolean), .fieldLink RX2 18 "LastMap$Pad" "length" "I", .fieldLink RX2 9 "LastMap$Pad" "signs" "[I"] ++ wsX90 ++ wsX20)
def wsX9_wipe : List Cond := .code yX9_wipe cX9_wipe 2 (some .int) :: ([.fieldLink RX9 10 "LastMap" "pad" "LLastMap$Pad;", .fieldLink RX9 41 "LastMap$Pad" "length" "I"] ++ wsX90 ++ wsX20)
def wsX9_fault_r1 : List Cond := [Cond.fieldLink RX9 10 "LastMap" "pad" "LLastMap$Pad;", Cond.fieldLink RX9 19 "LastMap" "papers" "LLastMap$Papers;", Cond.fieldLink RX9 27 "LastMap$Papers" "siteCount" "I", Cond.methodLink RX9 44 yX2_firstWrong, Cond.instanceMethod yX2_firstWrong, Cond.selects RX2 yX2_firstWrong yX2_firstWrong, Cond.initialized RX2, Cond.code yX2_firstWrong cX2_firstWrong 6 (some .int), Cond.fieldLink RX2 18 "LastMap$Pad" "length" "I", Cond.methodLink RX2 31 yX2_firstWrongOfSlips, Cond.instanceMethod yX2_firstWrongOfSlips, Cond.selects RX2 yX2_firstWrongOfSlips yX2_firstWrongOfSlips, Cond.code yX2_firstWrongOfSlips cX2_firstWrongOfSlips 5 (some .int), Cond.methodLink RX2 37 yX2_firstWrongOfSlip, Cond.instanceMethod yX2_firstWrongOfSlip, Cond.selects RX2 yX2_firstWrongOfSlip yX2_firstWrongOfSlip, Cond.code yX2_firstWrongOfSlip cX2_firstWrongOfSlip 6 (some .int), Cond.methodLink RX2 44 yX2_kindAt, Cond.instanceMethod yX2_kindAt, Cond.selects RX2 yX2_kindAt yX2_kindAt, Cond.code yX2_kindAt cX2_kindAt 2 (some .int), Cond.methodLink RX2 22 yX2_signAt, Cond.instanceMethod yX2_signAt, Cond.selects RX2 yX2_signAt yX2_signAt]
def wsX9_fault_r2 : List Cond := [Cond.code yX2_signAt cX2_signAt 2 (some .int), Cond.fieldLink RX2 9 "LastMap$Pad" "signs" "[I", Cond.methodLink RX2 47 yX6_sitesFor, Cond.static yX6_sitesFor, Cond.initialized RX6, Cond.code yX6_sitesFor cX6_sitesFor 2 (some .int), Cond.methodLink RX2 34 yX2_markAt, Cond.instanceMethod yX2_markAt, Cond.selects RX2 yX2_markAt yX2_markAt, Cond.code yX2_markAt cX2_markAt 2 (some .int), Cond.methodLink RX2 26 yX5_number, Cond.static yX5_number, Cond.initialized RX5, Cond.code yX5_number cX5_number 2 (some .int), Cond.fieldLink RX5 7 "LastMap$Signs" "WRITTEN" "[I", Cond.methodLink RX2 41 yX2_lengthOfSlip, Cond.instanceMethod yX2_lengthOfSlip, Cond.selects RX2 yX2_lengthOfSlip yX2_lengthOfSlip, Cond.code yX2_lengthOfSlip cX2_lengthOfSlip 2 (some .int)]
def wsX9_fault : List Cond := .code yX9_fault cX9_fault 2 (some .int) :: ((wsX9_fault_r1 ++ wsX9_fault_r2) ++ wsX90 ++ wsX30 ++ wsX20)
def wsX9_map_r1 : List Cond := [Cond.fieldLink RX9 10 "LastMap" "pad" "LLastMap$Pad;", Cond.fieldLink RX9 19 "LastMap" "papers" "LLastMap$Papers;", Cond.fieldLink RX9 27 "LastMap$Papers" "siteCount" "I", Cond.fieldLink RX9 41 "LastMap$Pad" "length" "I", Cond.methodLink RX9 48 yX9_isMap, Cond.static yX9_isMap, Cond.initialized RX9, Cond.code yX9_isMap cX9_isMap 1 (some .boolean), Cond.methodLink RX9 44 yX2_firstWrong, Cond.instanceMethod yX2_firstWrong, Cond.selects RX2 yX2_firstWrong yX2_firstWrong, Cond.initialized RX2, Cond.code yX2_firstWrong cX2_firstWrong 6 (some .int), Cond.fieldLink RX2 18 "LastMap$Pad" "length" "I", Cond.methodLink RX2 31 yX2_firstWrongOfSlips, Cond.instanceMethod yX2_firstWrongOfSlips, Cond.selects RX2 yX2_firstWrongOfSlips yX2_firstWrongOfSlips, Cond.code yX2_firstWrongOfSlips cX2_firstWrongOfSlips 5 (some .int), Cond.methodLink RX2 37 yX2_firstWrongOfSlip, Cond.instanceMethod yX2_firstWrongOfSlip, Cond.selects RX2 yX2_firstWrongOfSlip yX2_firstWrongOfSlip, Cond.code yX2_firstWrongOfSlip cX2_firstWrongOfSlip 6 (some .int), Cond.methodLink RX2 44 yX2_kindAt, Cond.instanceMethod yX2_kindAt]
def wsX9_map_r2 : List Cond := [Cond.selects RX2 yX2_kindAt yX2_kindAt, Cond.code yX2_kindAt cX2_kindAt 2 (some .int), Cond.methodLink RX2 22 yX2_signAt, Cond.instanceMethod yX2_signAt, Cond.selects RX2 yX2_signAt yX2_signAt, Cond.code yX2_signAt cX2_signAt 2 (some .int), Cond.fieldLink RX2 9 "LastMap$Pad" "signs" "[I", Cond.methodLink RX2 47 yX6_sitesFor, Cond.static yX6_sitesFor, Cond.initialized RX6, Cond.code yX6_sitesFor cX6_sitesFor 2 (some .int), Cond.methodLink RX2 34 yX2_markAt, Cond.instanceMethod yX2_markAt, Cond.selects RX2 yX2_markAt yX2_markAt, Cond.code yX2_markAt cX2_markAt 2 (some .int), Cond.methodLink RX2 26 yX5_number, Cond.static yX5_number, Cond.initialized RX5, Cond.code yX5_number cX5_number 2 (some .int), Cond.fieldLink RX5 7 "LastMap$Signs" "WRITTEN" "[I", Cond.methodLink RX2 41 yX2_lengthOfSlip, Cond.instanceMethod yX2_lengthOfSlip, Cond.selects RX2 yX2_lengthOfSlip yX2_lengthOfSlip, Cond.code yX2_lengthOfSlip cX2_lengthOfSlip 2 (some .int)]
def wsX9_map_r3 : List Cond := [Cond.methodLink RX9 51 yX2_mapCode, Cond.instanceMethod yX2_mapCode, Cond.selects RX2 yX2_mapCode yX2_mapCode, Cond.code yX2_mapCode cX2_mapCode 3 (some .int), Cond.methodLink RX2 52 yX1_with, Cond.static yX1_with, Cond.initialized RX1, Cond.code yX1_with cX1_with 3 (some .int), Cond.methodLink RX1 23 yX1_signAt, Cond.static yX1_signAt, Cond.code yX1_signAt cX1_signAt 2 (some .int), Cond.methodLink RX1 15 yX1_weight, Cond.static yX1_weight, Cond.code yX1_weight cX1_weight 1 (some .int), Cond.fieldLink RX1 9 "LastMap$Maps" "WEIGHTS" "[I", Cond.methodLink RX1 19 yX1_signBy, Cond.static yX1_signBy, Cond.code yX1_signBy cX1_signBy 2 (some .int), Cond.methodLink RX9 55 yX3_tell, Cond.instanceMethod yX3_tell, Cond.selects RX3 yX3_tell yX3_tell, Cond.initialized RX3, Cond.code yX3_tell cX3_tell 3 none, Cond.fieldLink RX3 18 "LastMap$Papers" "codes" "[I"]
def wsX9_map_r4 : List Cond := [Cond.fieldLink RX3 25 "LastMap$Papers" "toldMaps" "I"]
def wsX9_map : List Cond := .code yX9_map cX9_map 2 (some .int) :: ((wsX9_map_r1 ++ (wsX9_map_r2 ++ (wsX9_map_r3 ++ wsX9_map_r4))) ++ wsX90 ++ wsX30 ++ wsX20)
def wsX9_isSite : List Cond := .code yX9_isSite cX9_isSite 2 (some .boolean) :: ([.fieldLink RX9 19 "LastMap" "papers" "LLastMap$Papers;", .fieldLink RX9 27 "LastMap$Papers" "siteCount" "I"] ++ wsX90 ++ wsX30)
def wsX9_isTold : List Cond := .code yX9_isTold cX9_isTold 2 (some .boolean) :: ([.fieldLink RX9 19 "LastMap" "papers" "LLastMap$Papers;", .fieldLink RX9 31 "LastMap$Papers" "toldMaps" "I", .methodLink RX9 132 yX9_isOf, .static yX9_isOf, .initialized RX9, .code yX9_isOf cX9_isOf 2 (some .boolean), .methodLink RX9 48 yX9_isMap, .static yX9_isMap, .code yX9_isMap cX9_isMap 1 (some .boolean)] ++ wsX90 ++ wsX30)
def wsX9_at_r1 : List Cond := [Cond.fieldLink RX9 19 "LastMap" "papers" "LLastMap$Papers;", Cond.methodLink RX9 48 yX9_isMap, Cond.static yX9_isMap, Cond.initialized RX9, Cond.code yX9_isMap cX9_isMap 1 (some .boolean), Cond.methodLink RX9 59 yX9_isSite, Cond.instanceMethod yX9_isSite, Cond.selects RX9 yX9_isSite yX9_isSite, Cond.code yX9_isSite cX9_isSite 2 (some .boolean), Cond.fieldLink RX9 27 "LastMap$Papers" "siteCount" "I", Cond.methodLink RX9 62 yX9_isTold, Cond.instanceMethod yX9_isTold, Cond.selects RX9 yX9_isTold yX9_isTold, Cond.code yX9_isTold cX9_isTold 2 (some .boolean), Cond.fieldLink RX9 31 "LastMap$Papers" "toldMaps" "I", Cond.methodLink RX9 132 yX9_isOf, Cond.static yX9_isOf, Cond.code yX9_isOf cX9_isOf 2 (some .boolean), Cond.methodLink RX9 65 yX3_codeOf, Cond.instanceMethod yX3_codeOf, Cond.selects RX3 yX3_codeOf yX3_codeOf, Cond.initialized RX3, Cond.code yX3_codeOf cX3_codeOf 2 (some .int), Cond.fieldLink RX3 18 "LastMap$Papers" "codes" "[I"]
def wsX9_at_r2 : List Cond := [Cond.methodLink RX9 69 yX1_signAt, Cond.static yX1_signAt, Cond.initialized RX1, Cond.code yX1_signAt cX1_signAt 2 (some .int), Cond.methodLink RX1 15 yX1_weight, Cond.static yX1_weight, Cond.code yX1_weight cX1_weight 1 (some .int), Cond.fieldLink RX1 9 "LastMap$Maps" "WEIGHTS" "[I", Cond.methodLink RX1 19 yX1_signBy, Cond.static yX1_signBy, Cond.code yX1_signBy cX1_signBy 2 (some .int), Cond.methodLink RX9 74 yX5_written, Cond.static yX5_written, Cond.initialized RX5, Cond.code yX5_written cX5_written 1 (some .int), Cond.fieldLink RX5 7 "LastMap$Signs" "WRITTEN" "[I"]
def wsX9_at : List Cond := .code yX9_at cX9_at 3 (some .int) :: ((wsX9_at_r1 ++ wsX9_at_r2) ++ wsX90 ++ wsX30)
def wsX9_isHand : List Cond := .code yX9_isHand cX9_isHand 1 (some .boolean) :: ([])
def wsX9_hand : List Cond := .code yX9_hand cX9_hand 4 (some .int) :: ([.fieldLink RX9 19 "LastMap" "papers" "LLastMap$Papers;", .methodLink RX9 79 yX9_isHand, .static yX9_isHand, .initialized RX9, .code yX9_isHand cX9_isHand 1 (some .boolean), .methodLink RX9 82 yX3_kindsOf, .instanceMethod yX3_kindsOf, .selects RX3 yX3_kindsOf yX3_kindsOf, .initialized RX3, .code yX3_kindsOf cX3_kindsOf 2 (some .int), .fieldLink RX3 22 "LastMap$Papers" "kinds" "[I", .methodLink RX9 85 yX3_teach, .instanceMethod yX3_teach, .selects RX3 yX3_teach yX3_teach, .code yX3_teach cX3_teach 3 none] ++ wsX90 ++ wsX30)
def wsX9_firstIdle_r1 : List Cond := [Cond.fieldLink RX9 10 "LastMap" "pad" "LLastMap$Pad;", Cond.methodLink RX9 91 yX2_readSlips, Cond.instanceMethod yX2_readSlips, Cond.selects RX2 yX2_readSlips yX2_readSlips, Cond.initialized RX2, Cond.code yX2_readSlips cX2_readSlips 5 (some .int), Cond.fieldLink RX2 15 "LastMap$Pad" "slips" "[I", Cond.fieldLink RX2 18 "LastMap$Pad" "length" "I", Cond.methodLink RX2 44 yX2_kindAt, Cond.instanceMethod yX2_kindAt, Cond.selects RX2 yX2_kindAt yX2_kindAt, Cond.code yX2_kindAt cX2_kindAt 2 (some .int), Cond.methodLink RX2 22 yX2_signAt, Cond.instanceMethod yX2_signAt, Cond.selects RX2 yX2_signAt yX2_signAt, Cond.code yX2_signAt cX2_signAt 2 (some .int), Cond.fieldLink RX2 9 "LastMap$Pad" "signs" "[I", Cond.methodLink RX2 34 yX2_markAt, Cond.instanceMethod yX2_markAt, Cond.selects RX2 yX2_markAt yX2_markAt, Cond.code yX2_markAt cX2_markAt 2 (some .int), Cond.methodLink RX2 26 yX5_number, Cond.static yX5_number, Cond.initialized RX5]
def wsX9_firstIdle_r2 : List Cond := [Cond.code yX5_number cX5_number 2 (some .int), Cond.fieldLink RX5 7 "LastMap$Signs" "WRITTEN" "[I", Cond.methodLink RX2 58 yX6_number, Cond.static yX6_number, Cond.initialized RX6, Cond.code yX6_number cX6_number 3 (some .int), Cond.methodLink RX2 41 yX2_lengthOfSlip, Cond.instanceMethod yX2_lengthOfSlip, Cond.selects RX2 yX2_lengthOfSlip yX2_lengthOfSlip, Cond.code yX2_lengthOfSlip cX2_lengthOfSlip 2 (some .int), Cond.methodLink RX9 94 yX2_slipAt, Cond.instanceMethod yX2_slipAt, Cond.selects RX2 yX2_slipAt yX2_slipAt, Cond.code yX2_slipAt cX2_slipAt 2 (some .int), Cond.methodLink RX9 97 yX6_after, Cond.static yX6_after, Cond.code yX6_after cX6_after 4 (some .int), Cond.methodLink RX6 19 yX1_signAt, Cond.static yX1_signAt, Cond.initialized RX1, Cond.code yX1_signAt cX1_signAt 2 (some .int), Cond.methodLink RX1 15 yX1_weight, Cond.static yX1_weight, Cond.code yX1_weight cX1_weight 1 (some .int)]
def wsX9_firstIdle_r3 : List Cond := [Cond.fieldLink RX1 9 "LastMap$Maps" "WEIGHTS" "[I", Cond.methodLink RX1 19 yX1_signBy, Cond.static yX1_signBy, Cond.code yX1_signBy cX1_signBy 2 (some .int), Cond.methodLink RX6 24 yX1_with, Cond.static yX1_with, Cond.code yX1_with cX1_with 3 (some .int), Cond.methodLink RX1 23 yX1_signAt]
def wsX9_firstIdle : List Cond := .code yX9_firstIdle cX9_firstIdle 6 (some .int) :: ((wsX9_firstIdle_r1 ++ (wsX9_firstIdle_r2 ++ wsX9_firstIdle_r3)) ++ wsX90 ++ wsX20)
def wsX9_judge_r1 : List Cond := [Cond.fieldLink RX9 10 "LastMap" "pad" "LLastMap$Pad;", Cond.fieldLink RX9 19 "LastMap" "papers" "LLastMap$Papers;", Cond.fieldLink RX9 27 "LastMap$Papers" "siteCount" "I", Cond.methodLink RX9 48 yX9_isMap, Cond.static yX9_isMap, Cond.initialized RX9, Cond.code yX9_isMap cX9_isMap 1 (some .boolean), Cond.methodLink RX9 62 yX9_isTold, Cond.instanceMethod yX9_isTold, Cond.selects RX9 yX9_isTold yX9_isTold, Cond.code yX9_isTold cX9_isTold 2 (some .boolean), Cond.fieldLink RX9 31 "LastMap$Papers" "toldMaps" "I", Cond.methodLink RX9 132 yX9_isOf, Cond.static yX9_isOf, Cond.code yX9_isOf cX9_isOf 2 (some .boolean), Cond.methodLink RX9 44 yX2_firstWrong, Cond.instanceMethod yX2_firstWrong, Cond.selects RX2 yX2_firstWrong yX2_firstWrong, Cond.initialized RX2, Cond.code yX2_firstWrong cX2_firstWrong 6 (some .int), Cond.fieldLink RX2 18 "LastMap$Pad" "length" "I", Cond.methodLink RX2 31 yX2_firstWrongOfSlips, Cond.instanceMethod yX2_firstWrongOfSlips, Cond.selects RX2 yX2_firstWrongOfSlips yX2_firstWrongOfSlips]
def wsX9_judge_r2 : List Cond := [Cond.code yX2_firstWrongOfSlips cX2_firstWrongOfSlips 5 (some .int), Cond.methodLink RX2 37 yX2_firstWrongOfSlip, Cond.instanceMethod yX2_firstWrongOfSlip, Cond.selects RX2 yX2_firstWrongOfSlip yX2_firstWrongOfSlip, Cond.code yX2_firstWrongOfSlip cX2_firstWrongOfSlip 6 (some .int), Cond.methodLink RX2 44 yX2_kindAt, Cond.instanceMethod yX2_kindAt, Cond.selects RX2 yX2_kindAt yX2_kindAt, Cond.code yX2_kindAt cX2_kindAt 2 (some .int), Cond.methodLink RX2 22 yX2_signAt, Cond.instanceMethod yX2_signAt, Cond.selects RX2 yX2_signAt yX2_signAt, Cond.code yX2_signAt cX2_signAt 2 (some .int), Cond.fieldLink RX2 9 "LastMap$Pad" "signs" "[I", Cond.methodLink RX2 47 yX6_sitesFor, Cond.static yX6_sitesFor, Cond.initialized RX6, Cond.code yX6_sitesFor cX6_sitesFor 2 (some .int), Cond.methodLink RX2 34 yX2_markAt, Cond.instanceMethod yX2_markAt, Cond.selects RX2 yX2_markAt yX2_markAt, Cond.code yX2_markAt cX2_markAt 2 (some .int), Cond.methodLink RX2 26 yX5_number, Cond.static yX5_number]
def wsX9_judge_r3 : List Cond := [Cond.initialized RX5, Cond.code yX5_number cX5_number 2 (some .int), Cond.fieldLink RX5 7 "LastMap$Signs" "WRITTEN" "[I", Cond.methodLink RX2 41 yX2_lengthOfSlip, Cond.instanceMethod yX2_lengthOfSlip, Cond.selects RX2 yX2_lengthOfSlip yX2_lengthOfSlip, Cond.code yX2_lengthOfSlip cX2_lengthOfSlip 2 (some .int), Cond.methodLink RX9 65 yX3_codeOf, Cond.instanceMethod yX3_codeOf, Cond.selects RX3 yX3_codeOf yX3_codeOf, Cond.initialized RX3, Cond.code yX3_codeOf cX3_codeOf 2 (some .int), Cond.fieldLink RX3 18 "LastMap$Papers" "codes" "[I", Cond.methodLink RX9 88 yX9_firstIdle, Cond.instanceMethod yX9_firstIdle, Cond.selects RX9 yX9_firstIdle yX9_firstIdle, Cond.code yX9_firstIdle cX9_firstIdle 6 (some .int), Cond.methodLink RX9 91 yX2_readSlips, Cond.instanceMethod yX2_readSlips, Cond.selects RX2 yX2_readSlips yX2_readSlips, Cond.code yX2_readSlips cX2_readSlips 5 (some .int), Cond.fieldLink RX2 15 "LastMap$Pad" "slips" "[I", Cond.methodLink RX2 58 yX6_number, Cond.static yX6_number]
def wsX9_judge_r4 : List Cond := [Cond.code yX6_number cX6_number 3 (some .int), Cond.methodLink RX9 94 yX2_slipAt, Cond.instanceMethod yX2_slipAt, Cond.selects RX2 yX2_slipAt yX2_slipAt, Cond.code yX2_slipAt cX2_slipAt 2 (some .int), Cond.methodLink RX9 97 yX6_after, Cond.static yX6_after, Cond.code yX6_after cX6_after 4 (some .int), Cond.methodLink RX6 19 yX1_signAt, Cond.static yX1_signAt, Cond.initialized RX1, Cond.code yX1_signAt cX1_signAt 2 (some .int), Cond.methodLink RX1 15 yX1_weight, Cond.static yX1_weight, Cond.code yX1_weight cX1_weight 1 (some .int), Cond.fieldLink RX1 9 "LastMap$Maps" "WEIGHTS" "[I", Cond.methodLink RX1 19 yX1_signBy, Cond.static yX1_signBy, Cond.code yX1_signBy cX1_signBy 2 (some .int), Cond.methodLink RX6 24 yX1_with, Cond.static yX1_with, Cond.code yX1_with cX1_with 3 (some .int), Cond.methodLink RX1 23 yX1_signAt]
def wsX9_judge : List Cond := .code yX9_judge cX9_judge 2 (some .int) :: ((wsX9_judge_r1 ++ (wsX9_judge_r2 ++ (wsX9_judge_r3 ++ wsX9_judge_r4))) ++ wsX90 ++ wsX30 ++ wsX20)
def wsX9_copy_r1 : List Cond := [Cond.fieldLink RX9 10 "LastMap" "pad" "LLastMap$Pad;", Cond.fieldLink RX9 19 "LastMap" "papers" "LLastMap$Papers;", Cond.fieldLink RX9 27 "LastMap$Papers" "siteCount" "I", Cond.fieldLink RX9 41 "LastMap$Pad" "length" "I", Cond.methodLink RX9 48 yX9_isMap, Cond.static yX9_isMap, Cond.initialized RX9, Cond.code yX9_isMap cX9_isMap 1 (some .boolean), Cond.methodLink RX9 62 yX9_isTold, Cond.instanceMethod yX9_isTold, Cond.selects RX9 yX9_isTold yX9_isTold, Cond.code yX9_isTold cX9_isTold 2 (some .boolean), Cond.fieldLink RX9 31 "LastMap$Papers" "toldMaps" "I", Cond.methodLink RX9 132 yX9_isOf, Cond.static yX9_isOf, Cond.code yX9_isOf cX9_isOf 2 (some .boolean), Cond.methodLink RX9 44 yX2_firstWrong, Cond.instanceMethod yX2_firstWrong, Cond.selects RX2 yX2_firstWrong yX2_firstWrong, Cond.initialized RX2, Cond.code yX2_firstWrong cX2_firstWrong 6 (some .int), Cond.fieldLink RX2 18 "LastMap$Pad" "length" "I", Cond.methodLink RX2 31 yX2_firstWrongOfSlips, Cond.instanceMethod yX2_firstWrongOfSlips]
def wsX9_copy_r2 : List Cond := [Cond.selects RX2 yX2_firstWrongOfSlips yX2_firstWrongOfSlips, Cond.code yX2_firstWrongOfSlips cX2_firstWrongOfSlips 5 (some .int), Cond.methodLink RX2 37 yX2_firstWrongOfSlip, Cond.instanceMethod yX2_firstWrongOfSlip, Cond.selects RX2 yX2_firstWrongOfSlip yX2_firstWrongOfSlip, Cond.code yX2_firstWrongOfSlip cX2_firstWrongOfSlip 6 (some .int), Cond.methodLink RX2 44 yX2_kindAt, Cond.instanceMethod yX2_kindAt, Cond.selects RX2 yX2_kindAt yX2_kindAt, Cond.code yX2_kindAt cX2_kindAt 2 (some .int), Cond.methodLink RX2 22 yX2_signAt, Cond.instanceMethod yX2_signAt, Cond.selects RX2 yX2_signAt yX2_signAt, Cond.code yX2_signAt cX2_signAt 2 (some .int), Cond.fieldLink RX2 9 "LastMap$Pad" "signs" "[I", Cond.methodLink RX2 47 yX6_sitesFor, Cond.static yX6_sitesFor, Cond.initialized RX6, Cond.code yX6_sitesFor cX6_sitesFor 2 (some .int), Cond.methodLink RX2 34 yX2_markAt, Cond.instanceMethod yX2_markAt, Cond.selects RX2 yX2_markAt yX2_markAt, Cond.code yX2_markAt cX2_markAt 2 (some .int), Cond.methodLink RX2 26 yX5_number]
def wsX9_copy_r3 : List Cond := [Cond.static yX5_number, Cond.initialized RX5, Cond.code yX5_number cX5_number 2 (some .int), Cond.fieldLink RX5 7 "LastMap$Signs" "WRITTEN" "[I", Cond.methodLink RX2 41 yX2_lengthOfSlip, Cond.instanceMethod yX2_lengthOfSlip, Cond.selects RX2 yX2_lengthOfSlip yX2_lengthOfSlip, Cond.code yX2_lengthOfSlip cX2_lengthOfSlip 2 (some .int), Cond.methodLink RX9 65 yX3_codeOf, Cond.instanceMethod yX3_codeOf, Cond.selects RX3 yX3_codeOf yX3_codeOf, Cond.initialized RX3, Cond.code yX3_codeOf cX3_codeOf 2 (some .int), Cond.fieldLink RX3 18 "LastMap$Papers" "codes" "[I", Cond.methodLink RX9 88 yX9_firstIdle, Cond.instanceMethod yX9_firstIdle, Cond.selects RX9 yX9_firstIdle yX9_firstIdle, Cond.code yX9_firstIdle cX9_firstIdle 6 (some .int), Cond.methodLink RX9 91 yX2_readSlips, Cond.instanceMethod yX2_readSlips, Cond.selects RX2 yX2_readSlips yX2_readSlips, Cond.code yX2_readSlips cX2_readSlips 5 (some .int), Cond.fieldLink RX2 15 "LastMap$Pad" "slips" "[I", Cond.methodLink RX2 58 yX6_number]
def wsX9_copy_r4 : List Cond := [Cond.static yX6_number, Cond.code yX6_number cX6_number 3 (some .int), Cond.methodLink RX9 94 yX2_slipAt, Cond.instanceMethod yX2_slipAt, Cond.selects RX2 yX2_slipAt yX2_slipAt, Cond.code yX2_slipAt cX2_slipAt 2 (some .int), Cond.methodLink RX9 97 yX6_after, Cond.static yX6_after, Cond.code yX6_after cX6_after 4 (some .int), Cond.methodLink RX6 19 yX1_signAt, Cond.static yX1_signAt, Cond.initialized RX1, Cond.code yX1_signAt cX1_signAt 2 (some .int), Cond.methodLink RX1 15 yX1_weight, Cond.static yX1_weight, Cond.code yX1_weight cX1_weight 1 (some .int), Cond.fieldLink RX1 9 "LastMap$Maps" "WEIGHTS" "[I", Cond.methodLink RX1 19 yX1_signBy, Cond.static yX1_signBy, Cond.code yX1_signBy cX1_signBy 2 (some .int), Cond.methodLink RX6 24 yX1_with, Cond.static yX1_with, Cond.code yX1_with cX1_with 3 (some .int), Cond.methodLink RX1 23 yX1_signAt]
def wsX9_copy_r5 : List Cond := [Cond.methodLink RX9 55 yX3_tell, Cond.instanceMethod yX3_tell, Cond.selects RX3 yX3_tell yX3_tell, Cond.code yX3_tell cX3_tell 3 none, Cond.fieldLink RX3 25 "LastMap$Papers" "toldMaps" "I"]
def wsX9_copy : List Cond := .code yX9_copy cX9_copy 6 (some .int) :: ((wsX9_copy_r1 ++ (wsX9_copy_r2 ++ (wsX9_copy_r3 ++ (wsX9_copy_r4 ++ wsX9_copy_r5)))) ++ wsX90 ++ wsX30 ++ wsX20)
def wsX9_readySearch : List Cond := .code yX9_readySearch cX9_readySearch 1 (some (.object "LastMap$Search")) :: ([.fieldLink RX9 216 "LastMap" "search" "LLastMap$Search;", .classLink RX9 151 RX4, .instantiable RX4 3, .initialized RX4, .instanceMethod yX4_init, .code yX4_init cX4_init 1 none, .methodLink RX4 3 objectInit, .instanceMethod objectInit, .code objectInit ⟨#[0xb1]⟩ 1 none, .classLink RX4 11 RX7, .fieldLink RX4 13 "LastMap$Search" "tables" "[LLastMap$Table;", .arrayClass .int, .fieldLink RX4 19 "LastMap$Search" "sums" "[I"] ++ wsX90 ++ wsX40)
def wsX9_tableOf_r1 : List Cond := [Cond.fieldLink RX9 19 "LastMap" "papers" "LLastMap$Papers;", Cond.fieldLink RX9 27 "LastMap$Papers" "siteCount" "I", Cond.methodLink RX9 65 yX3_codeOf, Cond.instanceMethod yX3_codeOf, Cond.selects RX3 yX3_codeOf yX3_codeOf, Cond.initialized RX3, Cond.code yX3_codeOf cX3_codeOf 2 (some .int), Cond.fieldLink RX3 18 "LastMap$Papers" "codes" "[I", Cond.methodLink RX9 221 yX0_onlyMap, Cond.static yX0_onlyMap, Cond.initialized RX0, Cond.code yX0_onlyMap cX0_onlyMap 4 (some .int), Cond.methodLink RX0 7 yX1_signAt, Cond.static yX1_signAt, Cond.initialized RX1, Cond.code yX1_signAt cX1_signAt 2 (some .int), Cond.methodLink RX1 15 yX1_weight, Cond.static yX1_weight, Cond.code yX1_weight cX1_weight 1 (some .int), Cond.fieldLink RX1 9 "LastMap$Maps" "WEIGHTS" "[I", Cond.methodLink RX1 19 yX1_signBy, Cond.static yX1_signBy, Cond.code yX1_signBy cX1_signBy 2 (some .int), Cond.methodLink RX0 13 yX0_with]
def wsX9_tableOf_r2 : List Cond := [Cond.static yX0_with, Cond.code yX0_with cX0_with 3 (some .int), Cond.methodLink RX9 146 yX9_readySearch, Cond.instanceMethod yX9_readySearch, Cond.selects RX9 yX9_readySearch yX9_readySearch, Cond.initialized RX9, Cond.code yX9_readySearch cX9_readySearch 1 (some (.object "LastMap$Search")), Cond.fieldLink RX9 216 "LastMap" "search" "LLastMap$Search;", Cond.classLink RX9 151 RX4, Cond.instantiable RX4 3, Cond.initialized RX4, Cond.instanceMethod yX4_init, Cond.code yX4_init cX4_init 1 none, Cond.methodLink RX4 3 objectInit, Cond.instanceMethod objectInit, Cond.code objectInit ⟨#[0xb1]⟩ 1 none, Cond.classLink RX4 11 RX7, Cond.fieldLink RX4 13 "LastMap$Search" "tables" "[LLastMap$Table;", Cond.arrayClass .int, Cond.fieldLink RX4 19 "LastMap$Search" "sums" "[I", Cond.methodLink RX9 82 yX3_kindsOf, Cond.instanceMethod yX3_kindsOf, Cond.selects RX3 yX3_kindsOf yX3_kindsOf, Cond.code yX3_kindsOf cX3_kindsOf 2 (some .int)]
def wsX9_tableOf_r3 : List Cond := [Cond.fieldLink RX3 22 "LastMap$Papers" "kinds" "[I", Cond.methodLink RX9 168 yX4_toward, Cond.instanceMethod yX4_toward, Cond.selects RX4 yX4_toward yX4_toward, Cond.code yX4_toward cX4_toward 6 (some (.object "LastMap$Table")), Cond.methodLink RX4 23 yX7_isFor, Cond.instanceMethod yX7_isFor, Cond.selects RX7 yX7_isFor yX7_isFor, Cond.initialized RX7, Cond.code yX7_isFor cX7_isFor 4 (some .boolean), Cond.fieldLink RX7 21 "LastMap$Table" "goal" "I", Cond.fieldLink RX7 25 "LastMap$Table" "kinds" "I", Cond.fieldLink RX7 28 "LastMap$Table" "n" "I", Cond.methodLink RX4 27 yX4_takeOldest, Cond.instanceMethod yX4_takeOldest, Cond.selects RX4 yX4_takeOldest yX4_takeOldest, Cond.code yX4_takeOldest cX4_takeOldest 3 (some (.object "LastMap$Table")), Cond.fieldLink RX4 35 "LastMap$Search" "oldest" "I", Cond.instantiable RX7 7, Cond.instanceMethod yX7_init, Cond.code yX7_init cX7_init 1 none, Cond.methodLink RX7 3 objectInit, Cond.arrayClass .byte, Cond.fieldLink RX7 11 "LastMap$Table" "slips" "[B"]
def wsX9_tableOf_r4 : List Cond := [Cond.fieldLink RX7 17 "LastMap$Table" "queue" "[I", Cond.methodLink RX4 31 yX7_begin, Cond.instanceMethod yX7_begin, Cond.selects RX7 yX7_begin yX7_begin, Cond.code yX7_begin cX7_begin 4 none, Cond.fieldLink RX7 31 "LastMap$Table" "queued" "I", Cond.fieldLink RX7 34 "LastMap$Table" "searched" "I", Cond.methodLink RX7 37 yJ7_fill_031fb, Cond.static yJ7_fill_031fb, Cond.initialized RJ7, Cond.code yJ7_fill_031fb cJ7_fill_031fb 4 none, Cond.methodLink RX7 43 yX7_queueGoal, Cond.instanceMethod yX7_queueGoal, Cond.selects RX7 yX7_queueGoal yX7_queueGoal, Cond.code yX7_queueGoal cX7_queueGoal 5 none, Cond.methodLink RX7 61 yX7_reach, Cond.instanceMethod yX7_reach, Cond.selects RX7 yX7_reach yX7_reach, Cond.code yX7_reach cX7_reach 3 none, Cond.methodLink RX7 64 yX0_markAt, Cond.static yX0_markAt, Cond.code yX0_markAt cX0_markAt 2 (some .int), Cond.methodLink RX7 70 yX1_weight]
def wsX9_tableOf : List Cond := .code yX9_tableOf cX9_tableOf 4 (some (.object "LastMap$Table")) :: ((wsX9_tableOf_r1 ++ (wsX9_tableOf_r2 ++ (wsX9_tableOf_r3 ++ wsX9_tableOf_r4))) ++ wsX90 ++ wsX30 ++ wsX40 ++ wsX70)
def wsX9_firstNearer_r1 : List Cond := [Cond.fieldLink RX9 19 "LastMap" "papers" "LLastMap$Papers;", Cond.fieldLink RX9 27 "LastMap$Papers" "siteCount" "I", Cond.methodLink RX9 233 yX7_known, Cond.instanceMethod yX7_known, Cond.selects RX7 yX7_known yX7_known, Cond.initialized RX7, Cond.code yX7_known cX7_known 2 (some .int), Cond.fieldLink RX7 11 "LastMap$Table" "slips" "[B", Cond.methodLink RX9 206 yX6_inOrder, Cond.static yX6_inOrder, Cond.initialized RX6, Cond.code yX6_inOrder cX6_inOrder 1 (some .int), Cond.fieldLink RX6 9 "LastMap$Slips" "ORDER" "[I", Cond.methodLink RX9 213 yX6_isMade, Cond.static yX6_isMade, Cond.code yX6_isMade cX6_isMade 4 (some .boolean), Cond.methodLink RX6 15 yX6_sitesFor, Cond.static yX6_sitesFor, Cond.code yX6_sitesFor cX6_sitesFor 2 (some .int), Cond.methodLink RX9 97 yX6_after, Cond.static yX6_after, Cond.code yX6_after cX6_after 4 (some .int), Cond.methodLink RX6 19 yX1_signAt, Cond.static yX1_signAt]
def wsX9_firstNearer_r2 : List Cond := [Cond.initialized RX1, Cond.code yX1_signAt cX1_signAt 2 (some .int), Cond.methodLink RX1 15 yX1_weight, Cond.static yX1_weight, Cond.code yX1_weight cX1_weight 1 (some .int), Cond.fieldLink RX1 9 "LastMap$Maps" "WEIGHTS" "[I", Cond.methodLink RX1 19 yX1_signBy, Cond.static yX1_signBy, Cond.code yX1_signBy cX1_signBy 2 (some .int), Cond.methodLink RX6 24 yX1_with, Cond.static yX1_with, Cond.code yX1_with cX1_with 3 (some .int), Cond.methodLink RX1 23 yX1_signAt]
def wsX9_firstNearer : List Cond := .code yX9_firstNearer cX9_firstNearer 7 (some .int) :: ((wsX9_firstNearer_r1 ++ wsX9_firstNearer_r2) ++ wsX90 ++ wsX30 ++ wsX70)
def wsX9_rowAnswer_r1 : List Cond := [Cond.fieldLink RX9 19 "LastMap" "papers" "LLastMap$Papers;", Cond.methodLink RX9 110 yX7_slipsFrom, Cond.instanceMethod yX7_slipsFrom, Cond.selects RX7 yX7_slipsFrom yX7_slipsFrom, Cond.initialized RX7, Cond.code yX7_slipsFrom cX7_slipsFrom 2 (some .int), Cond.methodLink RX7 47 yX7_searchFor, Cond.instanceMethod yX7_searchFor, Cond.selects RX7 yX7_searchFor yX7_searchFor, Cond.code yX7_searchFor cX7_searchFor 3 none, Cond.fieldLink RX7 28 "LastMap$Table" "n" "I", Cond.fieldLink RX7 31 "LastMap$Table" "queued" "I", Cond.fieldLink RX7 34 "LastMap$Table" "searched" "I", Cond.fieldLink RX7 17 "LastMap$Table" "queue" "[I", Cond.methodLink RX7 55 yX1_countOf, Cond.static yX1_countOf, Cond.initialized RX1, Cond.code yX1_countOf cX1_countOf 2 (some .int), Cond.methodLink RX1 15 yX1_weight, Cond.static yX1_weight, Cond.code yX1_weight cX1_weight 1 (some .int), Cond.fieldLink RX1 9 "LastMap$Maps" "WEIGHTS" "[I", Cond.methodLink RX7 51 yX7_known, Cond.instanceMethod yX7_known]
def wsX9_rowAnswer_r2 : List Cond := [Cond.selects RX7 yX7_known yX7_known, Cond.code yX7_known cX7_known 2 (some .int), Cond.fieldLink RX7 11 "LastMap$Table" "slips" "[B", Cond.methodLink RX7 58 yX7_queueBefore, Cond.instanceMethod yX7_queueBefore, Cond.selects RX7 yX7_queueBefore yX7_queueBefore, Cond.code yX7_queueBefore cX7_queueBefore 9 none, Cond.fieldLink RX7 25 "LastMap$Table" "kinds" "I", Cond.methodLink RX7 70 yX1_weight, Cond.methodLink RX7 73 yX1_signBy, Cond.static yX1_signBy, Cond.code yX1_signBy cX1_signBy 2 (some .int), Cond.methodLink RX7 76 yX7_canHaveMade, Cond.instanceMethod yX7_canHaveMade, Cond.selects RX7 yX7_canHaveMade yX7_canHaveMade, Cond.code yX7_canHaveMade cX7_canHaveMade 3 (some .boolean), Cond.methodLink RX7 61 yX7_reach, Cond.instanceMethod yX7_reach, Cond.selects RX7 yX7_reach yX7_reach, Cond.code yX7_reach cX7_reach 3 none, Cond.methodLink RX9 82 yX3_kindsOf, Cond.instanceMethod yX3_kindsOf, Cond.selects RX3 yX3_kindsOf yX3_kindsOf, Cond.initialized RX3]
def wsX9_rowAnswer_r3 : List Cond := [Cond.code yX3_kindsOf cX3_kindsOf 2 (some .int), Cond.fieldLink RX3 22 "LastMap$Papers" "kinds" "[I", Cond.methodLink RX9 229 yX9_firstNearer, Cond.instanceMethod yX9_firstNearer, Cond.selects RX9 yX9_firstNearer yX9_firstNearer, Cond.initialized RX9, Cond.code yX9_firstNearer cX9_firstNearer 7 (some .int), Cond.fieldLink RX9 27 "LastMap$Papers" "siteCount" "I", Cond.methodLink RX9 233 yX7_known, Cond.methodLink RX9 206 yX6_inOrder, Cond.static yX6_inOrder, Cond.initialized RX6, Cond.code yX6_inOrder cX6_inOrder 1 (some .int), Cond.fieldLink RX6 9 "LastMap$Slips" "ORDER" "[I", Cond.methodLink RX9 213 yX6_isMade, Cond.static yX6_isMade, Cond.code yX6_isMade cX6_isMade 4 (some .boolean), Cond.methodLink RX6 15 yX6_sitesFor, Cond.static yX6_sitesFor, Cond.code yX6_sitesFor cX6_sitesFor 2 (some .int), Cond.methodLink RX9 97 yX6_after, Cond.static yX6_after, Cond.code yX6_after cX6_after 4 (some .int), Cond.methodLink RX6 19 yX1_signAt]
def wsX9_rowAnswer_r4 : List Cond := [Cond.static yX1_signAt, Cond.code yX1_signAt cX1_signAt 2 (some .int), Cond.methodLink RX1 19 yX1_signBy, Cond.methodLink RX6 24 yX1_with, Cond.static yX1_with, Cond.code yX1_with cX1_with 3 (some .int), Cond.methodLink RX1 23 yX1_signAt]
def wsX9_rowAnswer : List Cond := .code yX9_rowAnswer cX9_rowAnswer 8 (some .int) :: ((wsX9_rowAnswer_r1 ++ (wsX9_rowAnswer_r2 ++ (wsX9_rowAnswer_r3 ++ wsX9_rowAnswer_r4))) ++ wsX90 ++ wsX70 ++ wsX30)
def wsX9_far_r1 : List Cond := [Cond.fieldLink RX9 19 "LastMap" "papers" "LLastMap$Papers;", Cond.methodLink RX9 48 yX9_isMap, Cond.static yX9_isMap, Cond.initialized RX9, Cond.code yX9_isMap cX9_isMap 1 (some .boolean), Cond.methodLink RX9 79 yX9_isHand, Cond.static yX9_isHand, Cond.code yX9_isHand cX9_isHand 1 (some .boolean), Cond.methodLink RX9 62 yX9_isTold, Cond.instanceMethod yX9_isTold, Cond.selects RX9 yX9_isTold yX9_isTold, Cond.code yX9_isTold cX9_isTold 2 (some .boolean), Cond.fieldLink RX9 31 "LastMap$Papers" "toldMaps" "I", Cond.methodLink RX9 132 yX9_isOf, Cond.static yX9_isOf, Cond.code yX9_isOf cX9_isOf 2 (some .boolean), Cond.methodLink RX9 102 yX9_tableOf, Cond.instanceMethod yX9_tableOf, Cond.selects RX9 yX9_tableOf yX9_tableOf, Cond.code yX9_tableOf cX9_tableOf 4 (some (.object "LastMap$Table")), Cond.fieldLink RX9 27 "LastMap$Papers" "siteCount" "I", Cond.methodLink RX9 65 yX3_codeOf, Cond.instanceMethod yX3_codeOf, Cond.selects RX3 yX3_codeOf yX3_codeOf]
def wsX9_far_r2 : List Cond := [Cond.initialized RX3, Cond.code yX3_codeOf cX3_codeOf 2 (some .int), Cond.fieldLink RX3 18 "LastMap$Papers" "codes" "[I", Cond.methodLink RX9 221 yX0_onlyMap, Cond.static yX0_onlyMap, Cond.initialized RX0, Cond.code yX0_onlyMap cX0_onlyMap 4 (some .int), Cond.methodLink RX0 7 yX1_signAt, Cond.static yX1_signAt, Cond.initialized RX1, Cond.code yX1_signAt cX1_signAt 2 (some .int), Cond.methodLink RX1 15 yX1_weight, Cond.static yX1_weight, Cond.code yX1_weight cX1_weight 1 (some .int), Cond.fieldLink RX1 9 "LastMap$Maps" "WEIGHTS" "[I", Cond.methodLink RX1 19 yX1_signBy, Cond.static yX1_signBy, Cond.code yX1_signBy cX1_signBy 2 (some .int), Cond.methodLink RX0 13 yX0_with, Cond.static yX0_with, Cond.code yX0_with cX0_with 3 (some .int), Cond.methodLink RX9 146 yX9_readySearch, Cond.instanceMethod yX9_readySearch, Cond.selects RX9 yX9_readySearch yX9_readySearch]
def wsX9_far_r3 : List Cond := [Cond.code yX9_readySearch cX9_readySearch 1 (some (.object "LastMap$Search")), Cond.fieldLink RX9 216 "LastMap" "search" "LLastMap$Search;", Cond.classLink RX9 151 RX4, Cond.instantiable RX4 3, Cond.initialized RX4, Cond.instanceMethod yX4_init, Cond.code yX4_init cX4_init 1 none, Cond.methodLink RX4 3 objectInit, Cond.instanceMethod objectInit, Cond.code objectInit ⟨#[0xb1]⟩ 1 none, Cond.classLink RX4 11 RX7, Cond.fieldLink RX4 13 "LastMap$Search" "tables" "[LLastMap$Table;", Cond.arrayClass .int, Cond.fieldLink RX4 19 "LastMap$Search" "sums" "[I", Cond.methodLink RX9 82 yX3_kindsOf, Cond.instanceMethod yX3_kindsOf, Cond.selects RX3 yX3_kindsOf yX3_kindsOf, Cond.code yX3_kindsOf cX3_kindsOf 2 (some .int), Cond.fieldLink RX3 22 "LastMap$Papers" "kinds" "[I", Cond.methodLink RX9 168 yX4_toward, Cond.instanceMethod yX4_toward, Cond.selects RX4 yX4_toward yX4_toward, Cond.code yX4_toward cX4_toward 6 (some (.object "LastMap$Table")), Cond.methodLink RX4 23 yX7_isFor]
def wsX9_far_r4 : List Cond := [Cond.instanceMethod yX7_isFor, Cond.selects RX7 yX7_isFor yX7_isFor, Cond.initialized RX7, Cond.code yX7_isFor cX7_isFor 4 (some .boolean), Cond.fieldLink RX7 21 "LastMap$Table" "goal" "I", Cond.fieldLink RX7 25 "LastMap$Table" "kinds" "I", Cond.fieldLink RX7 28 "LastMap$Table" "n" "I", Cond.methodLink RX4 27 yX4_takeOldest, Cond.instanceMethod yX4_takeOldest, Cond.selects RX4 yX4_takeOldest yX4_takeOldest, Cond.code yX4_takeOldest cX4_takeOldest 3 (some (.object "LastMap$Table")), Cond.fieldLink RX4 35 "LastMap$Search" "oldest" "I", Cond.instantiable RX7 7, Cond.instanceMethod yX7_init, Cond.code yX7_init cX7_init 1 none, Cond.methodLink RX7 3 objectInit, Cond.arrayClass .byte, Cond.fieldLink RX7 11 "LastMap$Table" "slips" "[B", Cond.fieldLink RX7 17 "LastMap$Table" "queue" "[I", Cond.methodLink RX4 31 yX7_begin, Cond.instanceMethod yX7_begin, Cond.selects RX7 yX7_begin yX7_begin, Cond.code yX7_begin cX7_begin 4 none, Cond.fieldLink RX7 31 "LastMap$Table" "queued" "I"]
def wsX9_far_r5 : List Cond := [Cond.fieldLink RX7 34 "LastMap$Table" "searched" "I", Cond.methodLink RX7 37 yJ7_fill_031fb, Cond.static yJ7_fill_031fb, Cond.initialized RJ7, Cond.code yJ7_fill_031fb cJ7_fill_031fb 4 none, Cond.methodLink RX7 43 yX7_queueGoal, Cond.instanceMethod yX7_queueGoal, Cond.selects RX7 yX7_queueGoal yX7_queueGoal, Cond.code yX7_queueGoal cX7_queueGoal 5 none, Cond.methodLink RX7 61 yX7_reach, Cond.instanceMethod yX7_reach, Cond.selects RX7 yX7_reach yX7_reach, Cond.code yX7_reach cX7_reach 3 none, Cond.methodLink RX7 64 yX0_markAt, Cond.static yX0_markAt, Cond.code yX0_markAt cX0_markAt 2 (some .int), Cond.methodLink RX7 70 yX1_weight, Cond.methodLink RX9 106 yX9_rowAnswer, Cond.instanceMethod yX9_rowAnswer, Cond.selects RX9 yX9_rowAnswer yX9_rowAnswer, Cond.code yX9_rowAnswer cX9_rowAnswer 8 (some .int), Cond.methodLink RX9 110 yX7_slipsFrom, Cond.instanceMethod yX7_slipsFrom, Cond.selects RX7 yX7_slipsFrom yX7_slipsFrom]
def wsX9_far_r6 : List Cond := [Cond.code yX7_slipsFrom cX7_slipsFrom 2 (some .int), Cond.methodLink RX7 47 yX7_searchFor, Cond.instanceMethod yX7_searchFor, Cond.selects RX7 yX7_searchFor yX7_searchFor, Cond.code yX7_searchFor cX7_searchFor 3 none, Cond.methodLink RX7 55 yX1_countOf, Cond.static yX1_countOf, Cond.code yX1_countOf cX1_countOf 2 (some .int), Cond.methodLink RX7 51 yX7_known, Cond.instanceMethod yX7_known, Cond.selects RX7 yX7_known yX7_known, Cond.code yX7_known cX7_known 2 (some .int), Cond.methodLink RX7 58 yX7_queueBefore, Cond.instanceMethod yX7_queueBefore, Cond.selects RX7 yX7_queueBefore yX7_queueBefore, Cond.code yX7_queueBefore cX7_queueBefore 9 none, Cond.methodLink RX7 73 yX1_signBy, Cond.methodLink RX7 76 yX7_canHaveMade, Cond.instanceMethod yX7_canHaveMade, Cond.selects RX7 yX7_canHaveMade yX7_canHaveMade, Cond.code yX7_canHaveMade cX7_canHaveMade 3 (some .boolean), Cond.methodLink RX9 229 yX9_firstNearer, Cond.instanceMethod yX9_firstNearer, Cond.selects RX9 yX9_firstNearer yX9_firstNearer]
def wsX9_far_r7 : List Cond := [Cond.code yX9_firstNearer cX9_firstNearer 7 (some .int), Cond.methodLink RX9 233 yX7_known, Cond.methodLink RX9 206 yX6_inOrder, Cond.static yX6_inOrder, Cond.initialized RX6, Cond.code yX6_inOrder cX6_inOrder 1 (some .int), Cond.fieldLink RX6 9 "LastMap$Slips" "ORDER" "[I", Cond.methodLink RX9 213 yX6_isMade, Cond.static yX6_isMade, Cond.code yX6_isMade cX6_isMade 4 (some .boolean), Cond.methodLink RX6 15 yX6_sitesFor, Cond.static yX6_sitesFor, Cond.code yX6_sitesFor cX6_sitesFor 2 (some .int), Cond.methodLink RX9 97 yX6_after, Cond.static yX6_after, Cond.code yX6_after cX6_after 4 (some .int), Cond.methodLink RX6 19 yX1_signAt, Cond.methodLink RX6 24 yX1_with, Cond.static yX1_with, Cond.code yX1_with cX1_with 3 (some .int), Cond.methodLink RX1 23 yX1_signAt]
def wsX9_far : List Cond := .code yX9_far cX9_far 5 (some .int) :: ((wsX9_far_r1 ++ (wsX9_far_r2 ++ (wsX9_far_r3 ++ (wsX9_far_r4 ++ (wsX9_far_r5 ++ (wsX9_far_r6 ++ wsX9_far_r7)))))) ++ wsX90 ++ wsX30 ++ wsX40 ++ wsX70)
def wsX9_who_r1 : List Cond := [Cond.fieldLink RX9 19 "LastMap" "papers" "LLastMap$Papers;", Cond.methodLink RX9 48 yX9_isMap, Cond.static yX9_isMap, Cond.initialized RX9, Cond.code yX9_isMap cX9_isMap 1 (some .boolean), Cond.methodLink RX9 62 yX9_isTold, Cond.instanceMethod yX9_isTold, Cond.selects RX9 yX9_isTold yX9_isTold, Cond.code yX9_isTold cX9_isTold 2 (some .boolean), Cond.fieldLink RX9 31 "LastMap$Papers" "toldMaps" "I", Cond.methodLink RX9 132 yX9_isOf, Cond.static yX9_isOf, Cond.code yX9_isOf cX9_isOf 2 (some .boolean), Cond.methodLink RX9 102 yX9_tableOf, Cond.instanceMethod yX9_tableOf, Cond.selects RX9 yX9_tableOf yX9_tableOf, Cond.code yX9_tableOf cX9_tableOf 4 (some (.object "LastMap$Table")), Cond.fieldLink RX9 27 "LastMap$Papers" "siteCount" "I", Cond.methodLink RX9 65 yX3_codeOf, Cond.instanceMethod yX3_codeOf, Cond.selects RX3 yX3_codeOf yX3_codeOf, Cond.initialized RX3, Cond.code yX3_codeOf cX3_codeOf 2 (some .int), Cond.fieldLink RX3 18 "LastMap$Papers" "codes" "[I"]
def wsX9_who_r2 : List Cond := [Cond.methodLink RX9 221 yX0_onlyMap, Cond.static yX0_onlyMap, Cond.initialized RX0, Cond.code yX0_onlyMap cX0_onlyMap 4 (some .int), Cond.methodLink RX0 7 yX1_signAt, Cond.static yX1_signAt, Cond.initialized RX1, Cond.code yX1_signAt cX1_signAt 2 (some .int), Cond.methodLink RX1 15 yX1_weight, Cond.static yX1_weight, Cond.code yX1_weight cX1_weight 1 (some .int), Cond.fieldLink RX1 9 "LastMap$Maps" "WEIGHTS" "[I", Cond.methodLink RX1 19 yX1_signBy, Cond.static yX1_signBy, Cond.code yX1_signBy cX1_signBy 2 (some .int), Cond.methodLink RX0 13 yX0_with, Cond.static yX0_with, Cond.code yX0_with cX0_with 3 (some .int), Cond.methodLink RX9 146 yX9_readySearch, Cond.instanceMethod yX9_readySearch, Cond.selects RX9 yX9_readySearch yX9_readySearch, Cond.code yX9_readySearch cX9_readySearch 1 (some (.object "LastMap$Search")), Cond.fieldLink RX9 216 "LastMap" "search" "LLastMap$Search;", Cond.classLink RX9 151 RX4]
def wsX9_who_r3 : List Cond := [Cond.instantiable RX4 3, Cond.initialized RX4, Cond.instanceMethod yX4_init, Cond.code yX4_init cX4_init 1 none, Cond.methodLink RX4 3 objectInit, Cond.instanceMethod objectInit, Cond.code objectInit ⟨#[0xb1]⟩ 1 none, Cond.classLink RX4 11 RX7, Cond.fieldLink RX4 13 "LastMap$Search" "tables" "[LLastMap$Table;", Cond.arrayClass .int, Cond.fieldLink RX4 19 "LastMap$Search" "sums" "[I", Cond.methodLink RX9 82 yX3_kindsOf, Cond.instanceMethod yX3_kindsOf, Cond.selects RX3 yX3_kindsOf yX3_kindsOf, Cond.code yX3_kindsOf cX3_kindsOf 2 (some .int), Cond.fieldLink RX3 22 "LastMap$Papers" "kinds" "[I", Cond.methodLink RX9 168 yX4_toward, Cond.instanceMethod yX4_toward, Cond.selects RX4 yX4_toward yX4_toward, Cond.code yX4_toward cX4_toward 6 (some (.object "LastMap$Table")), Cond.methodLink RX4 23 yX7_isFor, Cond.instanceMethod yX7_isFor, Cond.selects RX7 yX7_isFor yX7_isFor, Cond.initialized RX7]
def wsX9_who_r4 : List Cond := [Cond.code yX7_isFor cX7_isFor 4 (some .boolean), Cond.fieldLink RX7 21 "LastMap$Table" "goal" "I", Cond.fieldLink RX7 25 "LastMap$Table" "kinds" "I", Cond.fieldLink RX7 28 "LastMap$Table" "n" "I", Cond.methodLink RX4 27 yX4_takeOldest, Cond.instanceMethod yX4_takeOldest, Cond.selects RX4 yX4_takeOldest yX4_takeOldest, Cond.code yX4_takeOldest cX4_takeOldest 3 (some (.object "LastMap$Table")), Cond.fieldLink RX4 35 "LastMap$Search" "oldest" "I", Cond.instantiable RX7 7, Cond.instanceMethod yX7_init, Cond.code yX7_init cX7_init 1 none, Cond.methodLink RX7 3 objectInit, Cond.arrayClass .byte, Cond.fieldLink RX7 11 "LastMap$Table" "slips" "[B", Cond.fieldLink RX7 17 "LastMap$Table" "queue" "[I", Cond.methodLink RX4 31 yX7_begin, Cond.instanceMethod yX7_begin, Cond.selects RX7 yX7_begin yX7_begin, Cond.code yX7_begin cX7_begin 4 none, Cond.fieldLink RX7 31 "LastMap$Table" "queued" "I", Cond.fieldLink RX7 34 "LastMap$Table" "searched" "I", Cond.methodLink RX7 37 yJ7_fill_031fb, Cond.static yJ7_fill_031fb]
def wsX9_who_r5 : List Cond := [Cond.initialized RJ7, Cond.code yJ7_fill_031fb cJ7_fill_031fb 4 none, Cond.methodLink RX7 43 yX7_queueGoal, Cond.instanceMethod yX7_queueGoal, Cond.selects RX7 yX7_queueGoal yX7_queueGoal, Cond.code yX7_queueGoal cX7_queueGoal 5 none, Cond.methodLink RX7 61 yX7_reach, Cond.instanceMethod yX7_reach, Cond.selects RX7 yX7_reach yX7_reach, Cond.code yX7_reach cX7_reach 3 none, Cond.methodLink RX7 64 yX0_markAt, Cond.static yX0_markAt, Cond.code yX0_markAt cX0_markAt 2 (some .int), Cond.methodLink RX7 70 yX1_weight, Cond.methodLink RX9 110 yX7_slipsFrom, Cond.instanceMethod yX7_slipsFrom, Cond.selects RX7 yX7_slipsFrom yX7_slipsFrom, Cond.code yX7_slipsFrom cX7_slipsFrom 2 (some .int), Cond.methodLink RX7 47 yX7_searchFor, Cond.instanceMethod yX7_searchFor, Cond.selects RX7 yX7_searchFor yX7_searchFor, Cond.code yX7_searchFor cX7_searchFor 3 none, Cond.methodLink RX7 55 yX1_countOf, Cond.static yX1_countOf]
def wsX9_who_r6 : List Cond := [Cond.code yX1_countOf cX1_countOf 2 (some .int), Cond.methodLink RX7 51 yX7_known, Cond.instanceMethod yX7_known, Cond.selects RX7 yX7_known yX7_known, Cond.code yX7_known cX7_known 2 (some .int), Cond.methodLink RX7 58 yX7_queueBefore, Cond.instanceMethod yX7_queueBefore, Cond.selects RX7 yX7_queueBefore yX7_queueBefore, Cond.code yX7_queueBefore cX7_queueBefore 9 none, Cond.methodLink RX7 73 yX1_signBy, Cond.methodLink RX7 76 yX7_canHaveMade, Cond.instanceMethod yX7_canHaveMade, Cond.selects RX7 yX7_canHaveMade yX7_canHaveMade, Cond.code yX7_canHaveMade cX7_canHaveMade 3 (some .boolean)]
def wsX9_who : List Cond := .code yX9_who cX9_who 7 (some .int) :: ((wsX9_who_r1 ++ (wsX9_who_r2 ++ (wsX9_who_r3 ++ (wsX9_who_r4 ++ (wsX9_who_r5 ++ wsX9_who_r6))))) ++ wsX90 ++ wsX30 ++ wsX40 ++ wsX70)
def wsX9_between_r1 : List Cond := [Cond.fieldLink RX9 19 "LastMap" "papers" "LLastMap$Papers;", Cond.methodLink RX9 48 yX9_isMap, Cond.static yX9_isMap, Cond.initialized RX9, Cond.code yX9_isMap cX9_isMap 1 (some .boolean), Cond.methodLink RX9 79 yX9_isHand, Cond.static yX9_isHand, Cond.code yX9_isHand cX9_isHand 1 (some .boolean), Cond.methodLink RX9 62 yX9_isTold, Cond.instanceMethod yX9_isTold, Cond.selects RX9 yX9_isTold yX9_isTold, Cond.code yX9_isTold cX9_isTold 2 (some .boolean), Cond.fieldLink RX9 31 "LastMap$Papers" "toldMaps" "I", Cond.methodLink RX9 132 yX9_isOf, Cond.static yX9_isOf, Cond.code yX9_isOf cX9_isOf 2 (some .boolean), Cond.methodLink RX9 102 yX9_tableOf, Cond.instanceMethod yX9_tableOf, Cond.selects RX9 yX9_tableOf yX9_tableOf, Cond.code yX9_tableOf cX9_tableOf 4 (some (.object "LastMap$Table")), Cond.fieldLink RX9 27 "LastMap$Papers" "siteCount" "I", Cond.methodLink RX9 65 yX3_codeOf, Cond.instanceMethod yX3_codeOf, Cond.selects RX3 yX3_codeOf yX3_codeOf]
def wsX9_between_r2 : List Cond := [Cond.initialized RX3, Cond.code yX3_codeOf cX3_codeOf 2 (some .int), Cond.fieldLink RX3 18 "LastMap$Papers" "codes" "[I", Cond.methodLink RX9 221 yX0_onlyMap, Cond.static yX0_onlyMap, Cond.initialized RX0, Cond.code yX0_onlyMap cX0_onlyMap 4 (some .int), Cond.methodLink RX0 7 yX1_signAt, Cond.static yX1_signAt, Cond.initialized RX1, Cond.code yX1_signAt cX1_signAt 2 (some .int), Cond.methodLink RX1 15 yX1_weight, Cond.static yX1_weight, Cond.code yX1_weight cX1_weight 1 (some .int), Cond.fieldLink RX1 9 "LastMap$Maps" "WEIGHTS" "[I", Cond.methodLink RX1 19 yX1_signBy, Cond.static yX1_signBy, Cond.code yX1_signBy cX1_signBy 2 (some .int), Cond.methodLink RX0 13 yX0_with, Cond.static yX0_with, Cond.code yX0_with cX0_with 3 (some .int), Cond.methodLink RX9 146 yX9_readySearch, Cond.instanceMethod yX9_readySearch, Cond.selects RX9 yX9_readySearch yX9_readySearch]
def wsX9_between_r3 : List Cond := [Cond.code yX9_readySearch cX9_readySearch 1 (some (.object "LastMap$Search")), Cond.fieldLink RX9 216 "LastMap" "search" "LLastMap$Search;", Cond.classLink RX9 151 RX4, Cond.instantiable RX4 3, Cond.initialized RX4, Cond.instanceMethod yX4_init, Cond.code yX4_init cX4_init 1 none, Cond.methodLink RX4 3 objectInit, Cond.instanceMethod objectInit, Cond.code objectInit ⟨#[0xb1]⟩ 1 none, Cond.classLink RX4 11 RX7, Cond.fieldLink RX4 13 "LastMap$Search" "tables" "[LLastMap$Table;", Cond.arrayClass .int, Cond.fieldLink RX4 19 "LastMap$Search" "sums" "[I", Cond.methodLink RX9 82 yX3_kindsOf, Cond.instanceMethod yX3_kindsOf, Cond.selects RX3 yX3_kindsOf yX3_kindsOf, Cond.code yX3_kindsOf cX3_kindsOf 2 (some .int), Cond.fieldLink RX3 22 "LastMap$Papers" "kinds" "[I", Cond.methodLink RX9 168 yX4_toward, Cond.instanceMethod yX4_toward, Cond.selects RX4 yX4_toward yX4_toward, Cond.code yX4_toward cX4_toward 6 (some (.object "LastMap$Table")), Cond.methodLink RX4 23 yX7_isFor]
def wsX9_between_r4 : List Cond := [Cond.instanceMethod yX7_isFor, Cond.selects RX7 yX7_isFor yX7_isFor, Cond.initialized RX7, Cond.code yX7_isFor cX7_isFor 4 (some .boolean), Cond.fieldLink RX7 21 "LastMap$Table" "goal" "I", Cond.fieldLink RX7 25 "LastMap$Table" "kinds" "I", Cond.fieldLink RX7 28 "LastMap$Table" "n" "I", Cond.methodLink RX4 27 yX4_takeOldest, Cond.instanceMethod yX4_takeOldest, Cond.selects RX4 yX4_takeOldest yX4_takeOldest, Cond.code yX4_takeOldest cX4_takeOldest 3 (some (.object "LastMap$Table")), Cond.fieldLink RX4 35 "LastMap$Search" "oldest" "I", Cond.instantiable RX7 7, Cond.instanceMethod yX7_init, Cond.code yX7_init cX7_init 1 none, Cond.methodLink RX7 3 objectInit, Cond.arrayClass .byte, Cond.fieldLink RX7 11 "LastMap$Table" "slips" "[B", Cond.fieldLink RX7 17 "LastMap$Table" "queue" "[I", Cond.methodLink RX4 31 yX7_begin, Cond.instanceMethod yX7_begin, Cond.selects RX7 yX7_begin yX7_begin, Cond.code yX7_begin cX7_begin 4 none, Cond.fieldLink RX7 31 "LastMap$Table" "queued" "I"]
def wsX9_between_r5 : List Cond := [Cond.fieldLink RX7 34 "LastMap$Table" "searched" "I", Cond.methodLink RX7 37 yJ7_fill_031fb, Cond.static yJ7_fill_031fb, Cond.initialized RJ7, Cond.code yJ7_fill_031fb cJ7_fill_031fb 4 none, Cond.methodLink RX7 43 yX7_queueGoal, Cond.instanceMethod yX7_queueGoal, Cond.selects RX7 yX7_queueGoal yX7_queueGoal, Cond.code yX7_queueGoal cX7_queueGoal 5 none, Cond.methodLink RX7 61 yX7_reach, Cond.instanceMethod yX7_reach, Cond.selects RX7 yX7_reach yX7_reach, Cond.code yX7_reach cX7_reach 3 none, Cond.methodLink RX7 64 yX0_markAt, Cond.static yX0_markAt, Cond.code yX0_markAt cX0_markAt 2 (some .int), Cond.methodLink RX7 70 yX1_weight, Cond.methodLink RX9 110 yX7_slipsFrom, Cond.instanceMethod yX7_slipsFrom, Cond.selects RX7 yX7_slipsFrom yX7_slipsFrom, Cond.code yX7_slipsFrom cX7_slipsFrom 2 (some .int), Cond.methodLink RX7 47 yX7_searchFor, Cond.instanceMethod yX7_searchFor, Cond.selects RX7 yX7_searchFor yX7_searchFor]
def wsX9_between_r6 : List Cond := [Cond.code yX7_searchFor cX7_searchFor 3 none, Cond.methodLink RX7 55 yX1_countOf, Cond.static yX1_countOf, Cond.code yX1_countOf cX1_countOf 2 (some .int), Cond.methodLink RX7 51 yX7_known, Cond.instanceMethod yX7_known, Cond.selects RX7 yX7_known yX7_known, Cond.code yX7_known cX7_known 2 (some .int), Cond.methodLink RX7 58 yX7_queueBefore, Cond.instanceMethod yX7_queueBefore, Cond.selects RX7 yX7_queueBefore yX7_queueBefore, Cond.code yX7_queueBefore cX7_queueBefore 9 none, Cond.methodLink RX7 73 yX1_signBy, Cond.methodLink RX7 76 yX7_canHaveMade, Cond.instanceMethod yX7_canHaveMade, Cond.selects RX7 yX7_canHaveMade yX7_canHaveMade, Cond.code yX7_canHaveMade cX7_canHaveMade 3 (some .boolean)]
def wsX9_between : List Cond := .code yX9_between cX9_between 6 (some .int) :: ((wsX9_between_r1 ++ (wsX9_between_r2 ++ (wsX9_between_r3 ++ (wsX9_between_r4 ++ (wsX9_between_r5 ++ wsX9_between_r6))))) ++ wsX90 ++ wsX30 ++ wsX40 ++ wsX70)
def wsX9_isSet : List Cond := .code yX9_isSet cX9_isSet 1 (some .boolean) :: ([])
def wsX9_isTreeQuestion : List Cond := .code yX9_isTreeQuestion cX9_isTreeQuestion 2 (some .boolean) :: ([.methodLink RX9 132 yX9_isOf, .static yX9_isOf, .initialized RX9, .code yX9_isOf cX9_isOf 2 (some .boolean), .methodLink RX9 48 yX9_isMap, .static yX9_isMap, .code yX9_isMap cX9_isMap 1 (some .boolean)])
def wsX9_areTold : List Cond := .code yX9_areTold cX9_areTold 2 (some .boolean) :: ([.fieldLink RX9 19 "LastMap" "papers" "LLastMap$Papers;", .fieldLink RX9 31 "LastMap$Papers" "toldMaps" "I"] ++ wsX90 ++ wsX30)
def wsX9_noteAllTo_r1 : List Cond := [Cond.fieldLink RX9 125 "LastMap" "trees" "LLastMap$Trees;", Cond.fieldLink RX9 19 "LastMap" "papers" "LLastMap$Papers;", Cond.methodLink RX9 102 yX9_tableOf, Cond.instanceMethod yX9_tableOf, Cond.selects RX9 yX9_tableOf yX9_tableOf, Cond.initialized RX9, Cond.code yX9_tableOf cX9_tableOf 4 (some (.object "LastMap$Table")), Cond.fieldLink RX9 27 "LastMap$Papers" "siteCount" "I", Cond.methodLink RX9 65 yX3_codeOf, Cond.instanceMethod yX3_codeOf, Cond.selects RX3 yX3_codeOf yX3_codeOf, Cond.initialized RX3, Cond.code yX3_codeOf cX3_codeOf 2 (some .int), Cond.fieldLink RX3 18 "LastMap$Papers" "codes" "[I", Cond.methodLink RX9 221 yX0_onlyMap, Cond.static yX0_onlyMap, Cond.initialized RX0, Cond.code yX0_onlyMap cX0_onlyMap 4 (some .int), Cond.methodLink RX0 7 yX1_signAt, Cond.static yX1_signAt, Cond.initialized RX1, Cond.code yX1_signAt cX1_signAt 2 (some .int), Cond.methodLink RX1 15 yX1_weight, Cond.static yX1_weight]
def wsX9_noteAllTo_r2 : List Cond := [Cond.code yX1_weight cX1_weight 1 (some .int), Cond.fieldLink RX1 9 "LastMap$Maps" "WEIGHTS" "[I", Cond.methodLink RX1 19 yX1_signBy, Cond.static yX1_signBy, Cond.code yX1_signBy cX1_signBy 2 (some .int), Cond.methodLink RX0 13 yX0_with, Cond.static yX0_with, Cond.code yX0_with cX0_with 3 (some .int), Cond.methodLink RX9 146 yX9_readySearch, Cond.instanceMethod yX9_readySearch, Cond.selects RX9 yX9_readySearch yX9_readySearch, Cond.code yX9_readySearch cX9_readySearch 1 (some (.object "LastMap$Search")), Cond.fieldLink RX9 216 "LastMap" "search" "LLastMap$Search;", Cond.classLink RX9 151 RX4, Cond.instantiable RX4 3, Cond.initialized RX4, Cond.instanceMethod yX4_init, Cond.code yX4_init cX4_init 1 none, Cond.methodLink RX4 3 objectInit, Cond.instanceMethod objectInit, Cond.code objectInit ⟨#[0xb1]⟩ 1 none, Cond.classLink RX4 11 RX7, Cond.fieldLink RX4 13 "LastMap$Search" "tables" "[LLastMap$Table;", Cond.arrayClass .int]
def wsX9_noteAllTo_r3 : List Cond := [Cond.fieldLink RX4 19 "LastMap$Search" "sums" "[I", Cond.methodLink RX9 82 yX3_kindsOf, Cond.instanceMethod yX3_kindsOf, Cond.selects RX3 yX3_kindsOf yX3_kindsOf, Cond.code yX3_kindsOf cX3_kindsOf 2 (some .int), Cond.fieldLink RX3 22 "LastMap$Papers" "kinds" "[I", Cond.methodLink RX9 168 yX4_toward, Cond.instanceMethod yX4_toward, Cond.selects RX4 yX4_toward yX4_toward, Cond.code yX4_toward cX4_toward 6 (some (.object "LastMap$Table")), Cond.methodLink RX4 23 yX7_isFor, Cond.instanceMethod yX7_isFor, Cond.selects RX7 yX7_isFor yX7_isFor, Cond.initialized RX7, Cond.code yX7_isFor cX7_isFor 4 (some .boolean), Cond.fieldLink RX7 21 "LastMap$Table" "goal" "I", Cond.fieldLink RX7 25 "LastMap$Table" "kinds" "I", Cond.fieldLink RX7 28 "LastMap$Table" "n" "I", Cond.methodLink RX4 27 yX4_takeOldest, Cond.instanceMethod yX4_takeOldest, Cond.selects RX4 yX4_takeOldest yX4_takeOldest, Cond.code yX4_takeOldest cX4_takeOldest 3 (some (.object "LastMap$Table")), Cond.fieldLink RX4 35 "LastMap$Search" "oldest" "I", Cond.instantiable RX7 7]
def wsX9_noteAllTo_r4 : List Cond := [Cond.instanceMethod yX7_init, Cond.code yX7_init cX7_init 1 none, Cond.methodLink RX7 3 objectInit, Cond.arrayClass .byte, Cond.fieldLink RX7 11 "LastMap$Table" "slips" "[B", Cond.fieldLink RX7 17 "LastMap$Table" "queue" "[I", Cond.methodLink RX4 31 yX7_begin, Cond.instanceMethod yX7_begin, Cond.selects RX7 yX7_begin yX7_begin, Cond.code yX7_begin cX7_begin 4 none, Cond.fieldLink RX7 31 "LastMap$Table" "queued" "I", Cond.fieldLink RX7 34 "LastMap$Table" "searched" "I", Cond.methodLink RX7 37 yJ7_fill_031fb, Cond.static yJ7_fill_031fb, Cond.initialized RJ7, Cond.code yJ7_fill_031fb cJ7_fill_031fb 4 none, Cond.methodLink RX7 43 yX7_queueGoal, Cond.instanceMethod yX7_queueGoal, Cond.selects RX7 yX7_queueGoal yX7_queueGoal, Cond.code yX7_queueGoal cX7_queueGoal 5 none, Cond.methodLink RX7 61 yX7_reach, Cond.instanceMethod yX7_reach, Cond.selects RX7 yX7_reach yX7_reach, Cond.code yX7_reach cX7_reach 3 none]
def wsX9_noteAllTo_r5 : List Cond := [Cond.methodLink RX7 64 yX0_markAt, Cond.static yX0_markAt, Cond.code yX0_markAt cX0_markAt 2 (some .int), Cond.methodLink RX7 70 yX1_weight, Cond.methodLink RX9 132 yX9_isOf, Cond.static yX9_isOf, Cond.code yX9_isOf cX9_isOf 2 (some .boolean), Cond.methodLink RX9 48 yX9_isMap, Cond.static yX9_isMap, Cond.code yX9_isMap cX9_isMap 1 (some .boolean), Cond.methodLink RX9 110 yX7_slipsFrom, Cond.instanceMethod yX7_slipsFrom, Cond.selects RX7 yX7_slipsFrom yX7_slipsFrom, Cond.code yX7_slipsFrom cX7_slipsFrom 2 (some .int), Cond.methodLink RX7 47 yX7_searchFor, Cond.instanceMethod yX7_searchFor, Cond.selects RX7 yX7_searchFor yX7_searchFor, Cond.code yX7_searchFor cX7_searchFor 3 none, Cond.methodLink RX7 55 yX1_countOf, Cond.static yX1_countOf, Cond.code yX1_countOf cX1_countOf 2 (some .int), Cond.methodLink RX7 51 yX7_known, Cond.instanceMethod yX7_known, Cond.selects RX7 yX7_known yX7_known]
def wsX9_noteAllTo_r6 : List Cond := [Cond.code yX7_known cX7_known 2 (some .int), Cond.methodLink RX7 58 yX7_queueBefore, Cond.instanceMethod yX7_queueBefore, Cond.selects RX7 yX7_queueBefore yX7_queueBefore, Cond.code yX7_queueBefore cX7_queueBefore 9 none, Cond.methodLink RX7 73 yX1_signBy, Cond.methodLink RX7 76 yX7_canHaveMade, Cond.instanceMethod yX7_canHaveMade, Cond.selects RX7 yX7_canHaveMade yX7_canHaveMade, Cond.code yX7_canHaveMade cX7_canHaveMade 3 (some .boolean), Cond.methodLink RX9 226 yX8_note, Cond.instanceMethod yX8_note, Cond.selects RX8 yX8_note yX8_note, Cond.initialized RX8, Cond.code yX8_note cX8_note 4 none, Cond.fieldLink RX8 9 "LastMap$Trees" "slips" "[I"]
def wsX9_noteAllTo : List Cond := .code yX9_noteAllTo cX9_noteAllTo 6 none :: ((wsX9_noteAllTo_r1 ++ (wsX9_noteAllTo_r2 ++ (wsX9_noteAllTo_r3 ++ (wsX9_noteAllTo_r4 ++ (wsX9_noteAllTo_r5 ++ wsX9_noteAllTo_r6))))) ++ wsX90 ++ wsX30 ++ wsX40 ++ wsX70 ++ wsX80)
def wsX9_tree_r1 : List Cond := [Cond.fieldLink RX9 125 "LastMap" "trees" "LLastMap$Trees;", Cond.classLink RX9 129 RX8, Cond.instantiable RX8 5, Cond.initialized RX8, Cond.methodLink RX9 79 yX9_isHand, Cond.static yX9_isHand, Cond.initialized RX9, Cond.code yX9_isHand cX9_isHand 1 (some .boolean), Cond.methodLink RX9 115 yX9_isSet, Cond.static yX9_isSet, Cond.code yX9_isSet cX9_isSet 1 (some .boolean), Cond.methodLink RX9 118 yX9_isTreeQuestion, Cond.static yX9_isTreeQuestion, Cond.code yX9_isTreeQuestion cX9_isTreeQuestion 2 (some .boolean), Cond.methodLink RX9 132 yX9_isOf, Cond.static yX9_isOf, Cond.code yX9_isOf cX9_isOf 2 (some .boolean), Cond.methodLink RX9 48 yX9_isMap, Cond.static yX9_isMap, Cond.code yX9_isMap cX9_isMap 1 (some .boolean), Cond.methodLink RX9 122 yX9_areTold, Cond.instanceMethod yX9_areTold, Cond.selects RX9 yX9_areTold yX9_areTold, Cond.code yX9_areTold cX9_areTold 2 (some .boolean)]
def wsX9_tree_r2 : List Cond := [Cond.fieldLink RX9 19 "LastMap" "papers" "LLastMap$Papers;", Cond.fieldLink RX9 31 "LastMap$Papers" "toldMaps" "I", Cond.instanceMethod yX8_init, Cond.code yX8_init cX8_init 1 none, Cond.methodLink RX8 3 objectInit, Cond.instanceMethod objectInit, Cond.code objectInit ⟨#[0xb1]⟩ 1 none, Cond.arrayClass .int, Cond.fieldLink RX8 9 "LastMap$Trees" "slips" "[I", Cond.fieldLink RX8 15 "LastMap$Trees" "from" "[I", Cond.fieldLink RX8 18 "LastMap$Trees" "best" "[I", Cond.methodLink RX9 135 yX9_noteAllTo, Cond.instanceMethod yX9_noteAllTo, Cond.selects RX9 yX9_noteAllTo yX9_noteAllTo, Cond.code yX9_noteAllTo cX9_noteAllTo 6 none, Cond.methodLink RX9 102 yX9_tableOf, Cond.instanceMethod yX9_tableOf, Cond.selects RX9 yX9_tableOf yX9_tableOf, Cond.code yX9_tableOf cX9_tableOf 4 (some (.object "LastMap$Table")), Cond.fieldLink RX9 27 "LastMap$Papers" "siteCount" "I", Cond.methodLink RX9 65 yX3_codeOf, Cond.instanceMethod yX3_codeOf, Cond.selects RX3 yX3_codeOf yX3_codeOf, Cond.initialized RX3]
def wsX9_tree_r3 : List Cond := [Cond.code yX3_codeOf cX3_codeOf 2 (some .int), Cond.fieldLink RX3 18 "LastMap$Papers" "codes" "[I", Cond.methodLink RX9 221 yX0_onlyMap, Cond.static yX0_onlyMap, Cond.initialized RX0, Cond.code yX0_onlyMap cX0_onlyMap 4 (some .int), Cond.methodLink RX0 7 yX1_signAt, Cond.static yX1_signAt, Cond.initialized RX1, Cond.code yX1_signAt cX1_signAt 2 (some .int), Cond.methodLink RX1 15 yX1_weight, Cond.static yX1_weight, Cond.code yX1_weight cX1_weight 1 (some .int), Cond.fieldLink RX1 9 "LastMap$Maps" "WEIGHTS" "[I", Cond.methodLink RX1 19 yX1_signBy, Cond.static yX1_signBy, Cond.code yX1_signBy cX1_signBy 2 (some .int), Cond.methodLink RX0 13 yX0_with, Cond.static yX0_with, Cond.code yX0_with cX0_with 3 (some .int), Cond.methodLink RX9 146 yX9_readySearch, Cond.instanceMethod yX9_readySearch, Cond.selects RX9 yX9_readySearch yX9_readySearch, Cond.code yX9_readySearch cX9_readySearch 1 (some (.object "LastMap$Search"))]
def wsX9_tree_r4 : List Cond := [Cond.fieldLink RX9 216 "LastMap" "search" "LLastMap$Search;", Cond.classLink RX9 151 RX4, Cond.instantiable RX4 3, Cond.initialized RX4, Cond.instanceMethod yX4_init, Cond.code yX4_init cX4_init 1 none, Cond.methodLink RX4 3 objectInit, Cond.classLink RX4 11 RX7, Cond.fieldLink RX4 13 "LastMap$Search" "tables" "[LLastMap$Table;", Cond.fieldLink RX4 19 "LastMap$Search" "sums" "[I", Cond.methodLink RX9 82 yX3_kindsOf, Cond.instanceMethod yX3_kindsOf, Cond.selects RX3 yX3_kindsOf yX3_kindsOf, Cond.code yX3_kindsOf cX3_kindsOf 2 (some .int), Cond.fieldLink RX3 22 "LastMap$Papers" "kinds" "[I", Cond.methodLink RX9 168 yX4_toward, Cond.instanceMethod yX4_toward, Cond.selects RX4 yX4_toward yX4_toward, Cond.code yX4_toward cX4_toward 6 (some (.object "LastMap$Table")), Cond.methodLink RX4 23 yX7_isFor, Cond.instanceMethod yX7_isFor, Cond.selects RX7 yX7_isFor yX7_isFor, Cond.initialized RX7, Cond.code yX7_isFor cX7_isFor 4 (some .boolean)]
def wsX9_tree_r5 : List Cond := [Cond.fieldLink RX7 21 "LastMap$Table" "goal" "I", Cond.fieldLink RX7 25 "LastMap$Table" "kinds" "I", Cond.fieldLink RX7 28 "LastMap$Table" "n" "I", Cond.methodLink RX4 27 yX4_takeOldest, Cond.instanceMethod yX4_takeOldest, Cond.selects RX4 yX4_takeOldest yX4_takeOldest, Cond.code yX4_takeOldest cX4_takeOldest 3 (some (.object "LastMap$Table")), Cond.fieldLink RX4 35 "LastMap$Search" "oldest" "I", Cond.instantiable RX7 7, Cond.instanceMethod yX7_init, Cond.code yX7_init cX7_init 1 none, Cond.methodLink RX7 3 objectInit, Cond.arrayClass .byte, Cond.fieldLink RX7 11 "LastMap$Table" "slips" "[B", Cond.fieldLink RX7 17 "LastMap$Table" "queue" "[I", Cond.methodLink RX4 31 yX7_begin, Cond.instanceMethod yX7_begin, Cond.selects RX7 yX7_begin yX7_begin, Cond.code yX7_begin cX7_begin 4 none, Cond.fieldLink RX7 31 "LastMap$Table" "queued" "I", Cond.fieldLink RX7 34 "LastMap$Table" "searched" "I", Cond.methodLink RX7 37 yJ7_fill_031fb, Cond.static yJ7_fill_031fb, Cond.initialized RJ7]
def wsX9_tree_r6 : List Cond := [Cond.code yJ7_fill_031fb cJ7_fill_031fb 4 none, Cond.methodLink RX7 43 yX7_queueGoal, Cond.instanceMethod yX7_queueGoal, Cond.selects RX7 yX7_queueGoal yX7_queueGoal, Cond.code yX7_queueGoal cX7_queueGoal 5 none, Cond.methodLink RX7 61 yX7_reach, Cond.instanceMethod yX7_reach, Cond.selects RX7 yX7_reach yX7_reach, Cond.code yX7_reach cX7_reach 3 none, Cond.methodLink RX7 64 yX0_markAt, Cond.static yX0_markAt, Cond.code yX0_markAt cX0_markAt 2 (some .int), Cond.methodLink RX7 70 yX1_weight, Cond.methodLink RX9 110 yX7_slipsFrom, Cond.instanceMethod yX7_slipsFrom, Cond.selects RX7 yX7_slipsFrom yX7_slipsFrom, Cond.code yX7_slipsFrom cX7_slipsFrom 2 (some .int), Cond.methodLink RX7 47 yX7_searchFor, Cond.instanceMethod yX7_searchFor, Cond.selects RX7 yX7_searchFor yX7_searchFor, Cond.code yX7_searchFor cX7_searchFor 3 none, Cond.methodLink RX7 55 yX1_countOf, Cond.static yX1_countOf, Cond.code yX1_countOf cX1_countOf 2 (some .int)]
def wsX9_tree_r7 : List Cond := [Cond.methodLink RX7 51 yX7_known, Cond.instanceMethod yX7_known, Cond.selects RX7 yX7_known yX7_known, Cond.code yX7_known cX7_known 2 (some .int), Cond.methodLink RX7 58 yX7_queueBefore, Cond.instanceMethod yX7_queueBefore, Cond.selects RX7 yX7_queueBefore yX7_queueBefore, Cond.code yX7_queueBefore cX7_queueBefore 9 none, Cond.methodLink RX7 73 yX1_signBy, Cond.methodLink RX7 76 yX7_canHaveMade, Cond.instanceMethod yX7_canHaveMade, Cond.selects RX7 yX7_canHaveMade yX7_canHaveMade, Cond.code yX7_canHaveMade cX7_canHaveMade 3 (some .boolean), Cond.methodLink RX9 226 yX8_note, Cond.instanceMethod yX8_note, Cond.selects RX8 yX8_note yX8_note, Cond.code yX8_note cX8_note 4 none, Cond.methodLink RX9 139 yX8_seek, Cond.instanceMethod yX8_seek, Cond.selects RX8 yX8_seek yX8_seek, Cond.code yX8_seek cX8_seek 2 none, Cond.fieldLink RX8 25 "LastMap$Trees" "least" "I", Cond.fieldLink RX8 29 "LastMap$Trees" "many" "I", Cond.methodLink RX8 32 yJ7_fill_53178]
def wsX9_tree_r8 : List Cond := [Cond.static yJ7_fill_53178, Cond.code yJ7_fill_53178 cJ7_fill_53178 4 none, Cond.methodLink RX8 38 yX8_draw, Cond.instanceMethod yX8_draw, Cond.selects RX8 yX8_draw yX8_draw, Cond.code yX8_draw cX8_draw 7 none, Cond.methodLink RX8 42 yX8_weigh, Cond.instanceMethod yX8_weigh, Cond.selects RX8 yX8_weigh yX8_weigh, Cond.code yX8_weigh cX8_weigh 2 none, Cond.methodLink RX8 57 arraycopyName, Cond.native arraycopyName, Cond.static arraycopyName, Cond.initialized "java/lang/System", Cond.methodLink RX8 50 yX8_slipsOf, Cond.instanceMethod yX8_slipsOf, Cond.selects RX8 yX8_slipsOf yX8_slipsOf, Cond.code yX8_slipsOf cX8_slipsOf 3 (some .int), Cond.methodLink RX8 54 yX8_comesOf, Cond.instanceMethod yX8_comesOf, Cond.selects RX8 yX8_comesOf yX8_comesOf, Cond.code yX8_comesOf cX8_comesOf 5 (some .boolean), Cond.methodLink RX9 143 yX8_answer, Cond.instanceMethod yX8_answer]
def wsX9_tree_r9 : List Cond := [Cond.selects RX8 yX8_answer yX8_answer, Cond.code yX8_answer cX8_answer 3 (some .int)]
def wsX9_tree : List Cond := .code yX9_tree cX9_tree 5 (some .int) :: ((wsX9_tree_r1 ++ (wsX9_tree_r2 ++ (wsX9_tree_r3 ++ (wsX9_tree_r4 ++ (wsX9_tree_r5 ++ (wsX9_tree_r6 ++ (wsX9_tree_r7 ++ (wsX9_tree_r8 ++ wsX9_tree_r9)))))))) ++ wsX90 ++ wsX80 ++ wsX30 ++ wsX40 ++ wsX70)
def wsX9_lost_r1 : List Cond := [Cond.fieldLink RX9 19 "LastMap" "papers" "LLastMap$Papers;", Cond.fieldLink RX9 27 "LastMap$Papers" "siteCount" "I", Cond.methodLink RX9 79 yX9_isHand, Cond.static yX9_isHand, Cond.initialized RX9, Cond.code yX9_isHand cX9_isHand 1 (some .boolean), Cond.methodLink RX9 115 yX9_isSet, Cond.static yX9_isSet, Cond.code yX9_isSet cX9_isSet 1 (some .boolean), Cond.methodLink RX9 122 yX9_areTold, Cond.instanceMethod yX9_areTold, Cond.selects RX9 yX9_areTold yX9_areTold, Cond.code yX9_areTold cX9_areTold 2 (some .boolean), Cond.fieldLink RX9 31 "LastMap$Papers" "toldMaps" "I", Cond.methodLink RX9 146 yX9_readySearch, Cond.instanceMethod yX9_readySearch, Cond.selects RX9 yX9_readySearch yX9_readySearch, Cond.code yX9_readySearch cX9_readySearch 1 (some (.object "LastMap$Search")), Cond.fieldLink RX9 216 "LastMap" "search" "LLastMap$Search;", Cond.classLink RX9 151 RX4, Cond.instantiable RX4 3, Cond.initialized RX4, Cond.instanceMethod yX4_init, Cond.code yX4_init cX4_init 1 none]
def wsX9_lost_r2 : List Cond := [Cond.methodLink RX4 3 objectInit, Cond.instanceMethod objectInit, Cond.code objectInit ⟨#[0xb1]⟩ 1 none, Cond.classLink RX4 11 RX7, Cond.fieldLink RX4 13 "LastMap$Search" "tables" "[LLastMap$Table;", Cond.arrayClass .int, Cond.fieldLink RX4 19 "LastMap$Search" "sums" "[I", Cond.methodLink RX9 150 yX4_clearSums, Cond.instanceMethod yX4_clearSums, Cond.selects RX4 yX4_clearSums yX4_clearSums, Cond.code yX4_clearSums cX4_clearSums 1 none, Cond.methodLink RX4 40 yJ7_fill_53178, Cond.static yJ7_fill_53178, Cond.initialized RJ7, Cond.code yJ7_fill_53178 cJ7_fill_53178 4 none, Cond.methodLink RX9 132 yX9_isOf, Cond.static yX9_isOf, Cond.code yX9_isOf cX9_isOf 2 (some .boolean), Cond.methodLink RX9 48 yX9_isMap, Cond.static yX9_isMap, Cond.code yX9_isMap cX9_isMap 1 (some .boolean), Cond.methodLink RX9 102 yX9_tableOf, Cond.instanceMethod yX9_tableOf, Cond.selects RX9 yX9_tableOf yX9_tableOf]
def wsX9_lost_r3 : List Cond := [Cond.code yX9_tableOf cX9_tableOf 4 (some (.object "LastMap$Table")), Cond.methodLink RX9 65 yX3_codeOf, Cond.instanceMethod yX3_codeOf, Cond.selects RX3 yX3_codeOf yX3_codeOf, Cond.initialized RX3, Cond.code yX3_codeOf cX3_codeOf 2 (some .int), Cond.fieldLink RX3 18 "LastMap$Papers" "codes" "[I", Cond.methodLink RX9 221 yX0_onlyMap, Cond.static yX0_onlyMap, Cond.initialized RX0, Cond.code yX0_onlyMap cX0_onlyMap 4 (some .int), Cond.methodLink RX0 7 yX1_signAt, Cond.static yX1_signAt, Cond.initialized RX1, Cond.code yX1_signAt cX1_signAt 2 (some .int), Cond.methodLink RX1 15 yX1_weight, Cond.static yX1_weight, Cond.code yX1_weight cX1_weight 1 (some .int), Cond.fieldLink RX1 9 "LastMap$Maps" "WEIGHTS" "[I", Cond.methodLink RX1 19 yX1_signBy, Cond.static yX1_signBy, Cond.code yX1_signBy cX1_signBy 2 (some .int), Cond.methodLink RX0 13 yX0_with, Cond.static yX0_with]
def wsX9_lost_r4 : List Cond := [Cond.code yX0_with cX0_with 3 (some .int), Cond.methodLink RX9 82 yX3_kindsOf, Cond.instanceMethod yX3_kindsOf, Cond.selects RX3 yX3_kindsOf yX3_kindsOf, Cond.code yX3_kindsOf cX3_kindsOf 2 (some .int), Cond.fieldLink RX3 22 "LastMap$Papers" "kinds" "[I", Cond.methodLink RX9 168 yX4_toward, Cond.instanceMethod yX4_toward, Cond.selects RX4 yX4_toward yX4_toward, Cond.code yX4_toward cX4_toward 6 (some (.object "LastMap$Table")), Cond.methodLink RX4 23 yX7_isFor, Cond.instanceMethod yX7_isFor, Cond.selects RX7 yX7_isFor yX7_isFor, Cond.initialized RX7, Cond.code yX7_isFor cX7_isFor 4 (some .boolean), Cond.fieldLink RX7 21 "LastMap$Table" "goal" "I", Cond.fieldLink RX7 25 "LastMap$Table" "kinds" "I", Cond.fieldLink RX7 28 "LastMap$Table" "n" "I", Cond.methodLink RX4 27 yX4_takeOldest, Cond.instanceMethod yX4_takeOldest, Cond.selects RX4 yX4_takeOldest yX4_takeOldest, Cond.code yX4_takeOldest cX4_takeOldest 3 (some (.object "LastMap$Table")), Cond.fieldLink RX4 35 "LastMap$Search" "oldest" "I", Cond.instantiable RX7 7]
def wsX9_lost_r5 : List Cond := [Cond.instanceMethod yX7_init, Cond.code yX7_init cX7_init 1 none, Cond.methodLink RX7 3 objectInit, Cond.arrayClass .byte, Cond.fieldLink RX7 11 "LastMap$Table" "slips" "[B", Cond.fieldLink RX7 17 "LastMap$Table" "queue" "[I", Cond.methodLink RX4 31 yX7_begin, Cond.instanceMethod yX7_begin, Cond.selects RX7 yX7_begin yX7_begin, Cond.code yX7_begin cX7_begin 4 none, Cond.fieldLink RX7 31 "LastMap$Table" "queued" "I", Cond.fieldLink RX7 34 "LastMap$Table" "searched" "I", Cond.methodLink RX7 37 yJ7_fill_031fb, Cond.static yJ7_fill_031fb, Cond.code yJ7_fill_031fb cJ7_fill_031fb 4 none, Cond.methodLink RX7 43 yX7_queueGoal, Cond.instanceMethod yX7_queueGoal, Cond.selects RX7 yX7_queueGoal yX7_queueGoal, Cond.code yX7_queueGoal cX7_queueGoal 5 none, Cond.methodLink RX7 61 yX7_reach, Cond.instanceMethod yX7_reach, Cond.selects RX7 yX7_reach yX7_reach, Cond.code yX7_reach cX7_reach 3 none, Cond.methodLink RX7 64 yX0_markAt]
def wsX9_lost_r6 : List Cond := [Cond.static yX0_markAt, Cond.code yX0_markAt cX0_markAt 2 (some .int), Cond.methodLink RX7 70 yX1_weight, Cond.methodLink RX9 155 yX4_addToSums, Cond.instanceMethod yX4_addToSums, Cond.selects RX4 yX4_addToSums yX4_addToSums, Cond.code yX4_addToSums cX4_addToSums 4 none, Cond.methodLink RX4 46 yX7_searchAll, Cond.instanceMethod yX7_searchAll, Cond.selects RX7 yX7_searchAll yX7_searchAll, Cond.code yX7_searchAll cX7_searchAll 1 none, Cond.methodLink RX7 47 yX7_searchFor, Cond.instanceMethod yX7_searchFor, Cond.selects RX7 yX7_searchFor yX7_searchFor, Cond.code yX7_searchFor cX7_searchFor 3 none, Cond.methodLink RX7 55 yX1_countOf, Cond.static yX1_countOf, Cond.code yX1_countOf cX1_countOf 2 (some .int), Cond.methodLink RX7 51 yX7_known, Cond.instanceMethod yX7_known, Cond.selects RX7 yX7_known yX7_known, Cond.code yX7_known cX7_known 2 (some .int), Cond.methodLink RX7 58 yX7_queueBefore, Cond.instanceMethod yX7_queueBefore]
def wsX9_lost_r7 : List Cond := [Cond.selects RX7 yX7_queueBefore yX7_queueBefore, Cond.code yX7_queueBefore cX7_queueBefore 9 none, Cond.methodLink RX7 73 yX1_signBy, Cond.methodLink RX7 76 yX7_canHaveMade, Cond.instanceMethod yX7_canHaveMade, Cond.selects RX7 yX7_canHaveMade yX7_canHaveMade, Cond.code yX7_canHaveMade cX7_canHaveMade 3 (some .boolean), Cond.methodLink RX4 49 yX7_known, Cond.methodLink RX9 159 yX4_firstOfLeastSum, Cond.instanceMethod yX4_firstOfLeastSum, Cond.selects RX4 yX4_firstOfLeastSum yX4_firstOfLeastSum, Cond.code yX4_firstOfLeastSum cX4_firstOfLeastSum 5 (some .int), Cond.methodLink RX4 56 Lib.Math.max.name, Cond.static Lib.Math.max.name, Cond.initialized "java/lang/Math", Cond.code Lib.Math.max.name Lib.Math.max.code 2 (some .int), Cond.methodLink RX4 53 yX1_weight, Cond.methodLink RX4 62 yX4_sumOf, Cond.instanceMethod yX4_sumOf, Cond.selects RX4 yX4_sumOf yX4_sumOf, Cond.code yX4_sumOf cX4_sumOf 2 (some .int), Cond.methodLink RX9 162 yX4_sumOf, Cond.methodLink RX9 59 yX9_isSite, Cond.instanceMethod yX9_isSite]
def wsX9_lost_r8 : List Cond := [Cond.selects RX9 yX9_isSite yX9_isSite, Cond.code yX9_isSite cX9_isSite 2 (some .boolean), Cond.methodLink RX9 69 yX1_signAt, Cond.methodLink RX9 74 yX5_written, Cond.static yX5_written, Cond.initialized RX5, Cond.code yX5_written cX5_written 1 (some .int), Cond.fieldLink RX5 7 "LastMap$Signs" "WRITTEN" "[I"]
def wsX9_lost : List Cond := .code yX9_lost cX9_lost 6 (some .int) :: ((wsX9_lost_r1 ++ (wsX9_lost_r2 ++ (wsX9_lost_r3 ++ (wsX9_lost_r4 ++ (wsX9_lost_r5 ++ (wsX9_lost_r6 ++ (wsX9_lost_r7 ++ wsX9_lost_r8))))))) ++ wsX90 ++ wsX30 ++ wsX40 ++ wsX70)
def wsX9_goalPast_r1 : List Cond := [Cond.fieldLink RX9 19 "LastMap" "papers" "LLastMap$Papers;", Cond.fieldLink RX9 27 "LastMap$Papers" "siteCount" "I", Cond.fieldLink RX9 10 "LastMap" "pad" "LLastMap$Pad;", Cond.methodLink RX9 236 yX2_markAt, Cond.instanceMethod yX2_markAt, Cond.selects RX2 yX2_markAt yX2_markAt, Cond.initialized RX2, Cond.code yX2_markAt cX2_markAt 2 (some .int), Cond.methodLink RX2 22 yX2_signAt, Cond.instanceMethod yX2_signAt, Cond.selects RX2 yX2_signAt yX2_signAt, Cond.code yX2_signAt cX2_signAt 2 (some .int), Cond.fieldLink RX2 18 "LastMap$Pad" "length" "I", Cond.fieldLink RX2 9 "LastMap$Pad" "signs" "[I", Cond.methodLink RX2 26 yX5_number, Cond.static yX5_number, Cond.initialized RX5, Cond.code yX5_number cX5_number 2 (some .int), Cond.fieldLink RX5 7 "LastMap$Signs" "WRITTEN" "[I", Cond.methodLink RX9 69 yX1_signAt, Cond.static yX1_signAt, Cond.initialized RX1, Cond.code yX1_signAt cX1_signAt 2 (some .int), Cond.methodLink RX1 15 yX1_weight]
def wsX9_goalPast_r2 : List Cond := [Cond.static yX1_weight, Cond.code yX1_weight cX1_weight 1 (some .int), Cond.fieldLink RX1 9 "LastMap$Maps" "WEIGHTS" "[I", Cond.methodLink RX1 19 yX1_signBy, Cond.static yX1_signBy, Cond.code yX1_signBy cX1_signBy 2 (some .int), Cond.methodLink RX9 239 yX0_with, Cond.static yX0_with, Cond.initialized RX0, Cond.code yX0_with cX0_with 3 (some .int)]
def wsX9_goalPast : List Cond := .code yX9_goalPast cX9_goalPast 8 (some .int) :: ((wsX9_goalPast_r1 ++ wsX9_goalPast_r2) ++ wsX90 ++ wsX30 ++ wsX20)
def wsX9_wished_r1 : List Cond := [Cond.fieldLink RX9 19 "LastMap" "papers" "LLastMap$Papers;", Cond.fieldLink RX9 27 "LastMap$Papers" "siteCount" "I", Cond.fieldLink RX9 10 "LastMap" "pad" "LLastMap$Pad;", Cond.methodLink RX9 48 yX9_isMap, Cond.static yX9_isMap, Cond.initialized RX9, Cond.code yX9_isMap cX9_isMap 1 (some .boolean), Cond.methodLink RX9 79 yX9_isHand, Cond.static yX9_isHand, Cond.code yX9_isHand cX9_isHand 1 (some .boolean), Cond.methodLink RX9 62 yX9_isTold, Cond.instanceMethod yX9_isTold, Cond.selects RX9 yX9_isTold yX9_isTold, Cond.code yX9_isTold cX9_isTold 2 (some .boolean), Cond.fieldLink RX9 31 "LastMap$Papers" "toldMaps" "I", Cond.methodLink RX9 132 yX9_isOf, Cond.static yX9_isOf, Cond.code yX9_isOf cX9_isOf 2 (some .boolean), Cond.methodLink RX9 44 yX2_firstWrong, Cond.instanceMethod yX2_firstWrong, Cond.selects RX2 yX2_firstWrong yX2_firstWrong, Cond.initialized RX2, Cond.code yX2_firstWrong cX2_firstWrong 6 (some .int), Cond.fieldLink RX2 18 "LastMap$Pad" "length" "I"]
def wsX9_wished_r2 : List Cond := [Cond.methodLink RX2 31 yX2_firstWrongOfSlips, Cond.instanceMethod yX2_firstWrongOfSlips, Cond.selects RX2 yX2_firstWrongOfSlips yX2_firstWrongOfSlips, Cond.code yX2_firstWrongOfSlips cX2_firstWrongOfSlips 5 (some .int), Cond.methodLink RX2 37 yX2_firstWrongOfSlip, Cond.instanceMethod yX2_firstWrongOfSlip, Cond.selects RX2 yX2_firstWrongOfSlip yX2_firstWrongOfSlip, Cond.code yX2_firstWrongOfSlip cX2_firstWrongOfSlip 6 (some .int), Cond.methodLink RX2 44 yX2_kindAt, Cond.instanceMethod yX2_kindAt, Cond.selects RX2 yX2_kindAt yX2_kindAt, Cond.code yX2_kindAt cX2_kindAt 2 (some .int), Cond.methodLink RX2 22 yX2_signAt, Cond.instanceMethod yX2_signAt, Cond.selects RX2 yX2_signAt yX2_signAt, Cond.code yX2_signAt cX2_signAt 2 (some .int), Cond.fieldLink RX2 9 "LastMap$Pad" "signs" "[I", Cond.methodLink RX2 47 yX6_sitesFor, Cond.static yX6_sitesFor, Cond.initialized RX6, Cond.code yX6_sitesFor cX6_sitesFor 2 (some .int), Cond.methodLink RX2 34 yX2_markAt, Cond.instanceMethod yX2_markAt, Cond.selects RX2 yX2_markAt yX2_markAt]
def wsX9_wished_r3 : List Cond := [Cond.code yX2_markAt cX2_markAt 2 (some .int), Cond.methodLink RX2 26 yX5_number, Cond.static yX5_number, Cond.initialized RX5, Cond.code yX5_number cX5_number 2 (some .int), Cond.fieldLink RX5 7 "LastMap$Signs" "WRITTEN" "[I", Cond.methodLink RX2 41 yX2_lengthOfSlip, Cond.instanceMethod yX2_lengthOfSlip, Cond.selects RX2 yX2_lengthOfSlip yX2_lengthOfSlip, Cond.code yX2_lengthOfSlip cX2_lengthOfSlip 2 (some .int), Cond.methodLink RX9 65 yX3_codeOf, Cond.instanceMethod yX3_codeOf, Cond.selects RX3 yX3_codeOf yX3_codeOf, Cond.initialized RX3, Cond.code yX3_codeOf cX3_codeOf 2 (some .int), Cond.fieldLink RX3 18 "LastMap$Papers" "codes" "[I", Cond.methodLink RX9 165 yX9_goalPast, Cond.instanceMethod yX9_goalPast, Cond.selects RX9 yX9_goalPast yX9_goalPast, Cond.code yX9_goalPast cX9_goalPast 8 (some .int), Cond.methodLink RX9 236 yX2_markAt, Cond.methodLink RX9 69 yX1_signAt, Cond.static yX1_signAt, Cond.initialized RX1]
def wsX9_wished_r4 : List Cond := [Cond.code yX1_signAt cX1_signAt 2 (some .int), Cond.methodLink RX1 15 yX1_weight, Cond.static yX1_weight, Cond.code yX1_weight cX1_weight 1 (some .int), Cond.fieldLink RX1 9 "LastMap$Maps" "WEIGHTS" "[I", Cond.methodLink RX1 19 yX1_signBy, Cond.static yX1_signBy, Cond.code yX1_signBy cX1_signBy 2 (some .int), Cond.methodLink RX9 239 yX0_with, Cond.static yX0_with, Cond.initialized RX0, Cond.code yX0_with cX0_with 3 (some .int), Cond.methodLink RX9 146 yX9_readySearch, Cond.instanceMethod yX9_readySearch, Cond.selects RX9 yX9_readySearch yX9_readySearch, Cond.code yX9_readySearch cX9_readySearch 1 (some (.object "LastMap$Search")), Cond.fieldLink RX9 216 "LastMap" "search" "LLastMap$Search;", Cond.classLink RX9 151 RX4, Cond.instantiable RX4 3, Cond.initialized RX4, Cond.instanceMethod yX4_init, Cond.code yX4_init cX4_init 1 none, Cond.methodLink RX4 3 objectInit, Cond.instanceMethod objectInit]
def wsX9_wished_r5 : List Cond := [Cond.code objectInit ⟨#[0xb1]⟩ 1 none, Cond.classLink RX4 11 RX7, Cond.fieldLink RX4 13 "LastMap$Search" "tables" "[LLastMap$Table;", Cond.arrayClass .int, Cond.fieldLink RX4 19 "LastMap$Search" "sums" "[I", Cond.methodLink RX9 82 yX3_kindsOf, Cond.instanceMethod yX3_kindsOf, Cond.selects RX3 yX3_kindsOf yX3_kindsOf, Cond.code yX3_kindsOf cX3_kindsOf 2 (some .int), Cond.fieldLink RX3 22 "LastMap$Papers" "kinds" "[I", Cond.methodLink RX9 168 yX4_toward, Cond.instanceMethod yX4_toward, Cond.selects RX4 yX4_toward yX4_toward, Cond.code yX4_toward cX4_toward 6 (some (.object "LastMap$Table")), Cond.methodLink RX4 23 yX7_isFor, Cond.instanceMethod yX7_isFor, Cond.selects RX7 yX7_isFor yX7_isFor, Cond.initialized RX7, Cond.code yX7_isFor cX7_isFor 4 (some .boolean), Cond.fieldLink RX7 21 "LastMap$Table" "goal" "I", Cond.fieldLink RX7 25 "LastMap$Table" "kinds" "I", Cond.fieldLink RX7 28 "LastMap$Table" "n" "I", Cond.methodLink RX4 27 yX4_takeOldest, Cond.instanceMethod yX4_takeOldest]
def wsX9_wished_r6 : List Cond := [Cond.selects RX4 yX4_takeOldest yX4_takeOldest, Cond.code yX4_takeOldest cX4_takeOldest 3 (some (.object "LastMap$Table")), Cond.fieldLink RX4 35 "LastMap$Search" "oldest" "I", Cond.instantiable RX7 7, Cond.instanceMethod yX7_init, Cond.code yX7_init cX7_init 1 none, Cond.methodLink RX7 3 objectInit, Cond.arrayClass .byte, Cond.fieldLink RX7 11 "LastMap$Table" "slips" "[B", Cond.fieldLink RX7 17 "LastMap$Table" "queue" "[I", Cond.methodLink RX4 31 yX7_begin, Cond.instanceMethod yX7_begin, Cond.selects RX7 yX7_begin yX7_begin, Cond.code yX7_begin cX7_begin 4 none, Cond.fieldLink RX7 31 "LastMap$Table" "queued" "I", Cond.fieldLink RX7 34 "LastMap$Table" "searched" "I", Cond.methodLink RX7 37 yJ7_fill_031fb, Cond.static yJ7_fill_031fb, Cond.initialized RJ7, Cond.code yJ7_fill_031fb cJ7_fill_031fb 4 none, Cond.methodLink RX7 43 yX7_queueGoal, Cond.instanceMethod yX7_queueGoal, Cond.selects RX7 yX7_queueGoal yX7_queueGoal, Cond.code yX7_queueGoal cX7_queueGoal 5 none]
def wsX9_wished_r7 : List Cond := [Cond.methodLink RX7 61 yX7_reach, Cond.instanceMethod yX7_reach, Cond.selects RX7 yX7_reach yX7_reach, Cond.code yX7_reach cX7_reach 3 none, Cond.methodLink RX7 64 yX0_markAt, Cond.static yX0_markAt, Cond.code yX0_markAt cX0_markAt 2 (some .int), Cond.methodLink RX7 70 yX1_weight, Cond.methodLink RX9 106 yX9_rowAnswer, Cond.instanceMethod yX9_rowAnswer, Cond.selects RX9 yX9_rowAnswer yX9_rowAnswer, Cond.code yX9_rowAnswer cX9_rowAnswer 8 (some .int), Cond.methodLink RX9 110 yX7_slipsFrom, Cond.instanceMethod yX7_slipsFrom, Cond.selects RX7 yX7_slipsFrom yX7_slipsFrom, Cond.code yX7_slipsFrom cX7_slipsFrom 2 (some .int), Cond.methodLink RX7 47 yX7_searchFor, Cond.instanceMethod yX7_searchFor, Cond.selects RX7 yX7_searchFor yX7_searchFor, Cond.code yX7_searchFor cX7_searchFor 3 none, Cond.methodLink RX7 55 yX1_countOf, Cond.static yX1_countOf, Cond.code yX1_countOf cX1_countOf 2 (some .int), Cond.methodLink RX7 51 yX7_known]
def wsX9_wished_r8 : List Cond := [Cond.instanceMethod yX7_known, Cond.selects RX7 yX7_known yX7_known, Cond.code yX7_known cX7_known 2 (some .int), Cond.methodLink RX7 58 yX7_queueBefore, Cond.instanceMethod yX7_queueBefore, Cond.selects RX7 yX7_queueBefore yX7_queueBefore, Cond.code yX7_queueBefore cX7_queueBefore 9 none, Cond.methodLink RX7 73 yX1_signBy, Cond.methodLink RX7 76 yX7_canHaveMade, Cond.instanceMethod yX7_canHaveMade, Cond.selects RX7 yX7_canHaveMade yX7_canHaveMade, Cond.code yX7_canHaveMade cX7_canHaveMade 3 (some .boolean), Cond.methodLink RX9 229 yX9_firstNearer, Cond.instanceMethod yX9_firstNearer, Cond.selects RX9 yX9_firstNearer yX9_firstNearer, Cond.code yX9_firstNearer cX9_firstNearer 7 (some .int), Cond.methodLink RX9 233 yX7_known, Cond.methodLink RX9 206 yX6_inOrder, Cond.static yX6_inOrder, Cond.code yX6_inOrder cX6_inOrder 1 (some .int), Cond.fieldLink RX6 9 "LastMap$Slips" "ORDER" "[I", Cond.methodLink RX9 213 yX6_isMade, Cond.static yX6_isMade, Cond.code yX6_isMade cX6_isMade 4 (some .boolean)]
def wsX9_wished_r9 : List Cond := [Cond.methodLink RX6 15 yX6_sitesFor, Cond.methodLink RX9 97 yX6_after, Cond.static yX6_after, Cond.code yX6_after cX6_after 4 (some .int), Cond.methodLink RX6 19 yX1_signAt, Cond.methodLink RX6 24 yX1_with, Cond.static yX1_with, Cond.code yX1_with cX1_with 3 (some .int), Cond.methodLink RX1 23 yX1_signAt]
def wsX9_wished : List Cond := .code yX9_wished cX9_wished 8 (some .int) :: ((wsX9_wished_r1 ++ (wsX9_wished_r2 ++ (wsX9_wished_r3 ++ (wsX9_wished_r4 ++ (wsX9_wished_r5 ++ (wsX9_wished_r6 ++ (wsX9_wished_r7 ++ (wsX9_wished_r8 ++ wsX9_wished_r9)))))))) ++ wsX90 ++ wsX30 ++ wsX20 ++ wsX40 ++ wsX70)
def wsX9_howMany_r1 : List Cond := [Cond.fieldLink RX9 19 "LastMap" "papers" "LLastMap$Papers;", Cond.methodLink RX9 132 yX9_isOf, Cond.static yX9_isOf, Cond.initialized RX9, Cond.code yX9_isOf cX9_isOf 2 (some .boolean), Cond.methodLink RX9 48 yX9_isMap, Cond.static yX9_isMap, Cond.code yX9_isMap cX9_isMap 1 (some .boolean), Cond.methodLink RX9 65 yX3_codeOf, Cond.instanceMethod yX3_codeOf, Cond.selects RX3 yX3_codeOf yX3_codeOf, Cond.initialized RX3, Cond.code yX3_codeOf cX3_codeOf 2 (some .int), Cond.fieldLink RX3 18 "LastMap$Papers" "codes" "[I", Cond.methodLink RX9 69 yX1_signAt, Cond.static yX1_signAt, Cond.initialized RX1, Cond.code yX1_signAt cX1_signAt 2 (some .int), Cond.methodLink RX1 15 yX1_weight, Cond.static yX1_weight, Cond.code yX1_weight cX1_weight 1 (some .int), Cond.fieldLink RX1 9 "LastMap$Maps" "WEIGHTS" "[I", Cond.methodLink RX1 19 yX1_signBy, Cond.static yX1_signBy]
def wsX9_howMany_r2 : List Cond := [Cond.code yX1_signBy cX1_signBy 2 (some .int)]
def wsX9_howMany : List Cond := .code yX9_howMany cX9_howMany 6 (some .int) :: ((wsX9_howMany_r1 ++ wsX9_howMany_r2) ++ wsX90 ++ wsX30)
def wsX9_mostAt_r1 : List Cond := [Cond.methodLink RX9 175 yX9_howMany, Cond.instanceMethod yX9_howMany, Cond.selects RX9 yX9_howMany yX9_howMany, Cond.initialized RX9, Cond.code yX9_howMany cX9_howMany 6 (some .int), Cond.fieldLink RX9 19 "LastMap" "papers" "LLastMap$Papers;", Cond.methodLink RX9 132 yX9_isOf, Cond.static yX9_isOf, Cond.code yX9_isOf cX9_isOf 2 (some .boolean), Cond.methodLink RX9 48 yX9_isMap, Cond.static yX9_isMap, Cond.code yX9_isMap cX9_isMap 1 (some .boolean), Cond.methodLink RX9 65 yX3_codeOf, Cond.instanceMethod yX3_codeOf, Cond.selects RX3 yX3_codeOf yX3_codeOf, Cond.initialized RX3, Cond.code yX3_codeOf cX3_codeOf 2 (some .int), Cond.fieldLink RX3 18 "LastMap$Papers" "codes" "[I", Cond.methodLink RX9 69 yX1_signAt, Cond.static yX1_signAt, Cond.initialized RX1, Cond.code yX1_signAt cX1_signAt 2 (some .int), Cond.methodLink RX1 15 yX1_weight, Cond.static yX1_weight]
def wsX9_mostAt_r2 : List Cond := [Cond.code yX1_weight cX1_weight 1 (some .int), Cond.fieldLink RX1 9 "LastMap$Maps" "WEIGHTS" "[I", Cond.methodLink RX1 19 yX1_signBy, Cond.static yX1_signBy, Cond.code yX1_signBy cX1_signBy 2 (some .int)]
def wsX9_mostAt : List Cond := .code yX9_mostAt cX9_mostAt 5 (some .int) :: ((wsX9_mostAt_r1 ++ wsX9_mostAt_r2) ++ wsX90 ++ wsX30)
def wsJ6_bitCount_0f7a4 : List Cond := .code yJ6_bitCount_0f7a4 cJ6_bitCount_0f7a4 1 (some .int) :: ([.constant RJ6 265 (1431655765), .constant RJ6 266 (858993459), .constant RJ6 267 (252645135)])
def wsX9_holds_r1 : List Cond := [Cond.fieldLink RX9 19 "LastMap" "papers" "LLastMap$Papers;", Cond.fieldLink RX9 27 "LastMap$Papers" "siteCount" "I", Cond.methodLink RX9 59 yX9_isSite, Cond.instanceMethod yX9_isSite, Cond.selects RX9 yX9_isSite yX9_isSite, Cond.initialized RX9, Cond.code yX9_isSite cX9_isSite 2 (some .boolean), Cond.methodLink RX9 115 yX9_isSet, Cond.static yX9_isSet, Cond.code yX9_isSet cX9_isSet 1 (some .boolean), Cond.methodLink RX9 122 yX9_areTold, Cond.instanceMethod yX9_areTold, Cond.selects RX9 yX9_areTold yX9_areTold, Cond.code yX9_areTold cX9_areTold 2 (some .boolean), Cond.fieldLink RX9 31 "LastMap$Papers" "toldMaps" "I", Cond.methodLink RX9 172 yX9_mostAt, Cond.instanceMethod yX9_mostAt, Cond.selects RX9 yX9_mostAt yX9_mostAt, Cond.code yX9_mostAt cX9_mostAt 5 (some .int), Cond.methodLink RX9 175 yX9_howMany, Cond.instanceMethod yX9_howMany, Cond.selects RX9 yX9_howMany yX9_howMany, Cond.code yX9_howMany cX9_howMany 6 (some .int), Cond.methodLink RX9 132 yX9_isOf]
def wsX9_holds_r2 : List Cond := [Cond.static yX9_isOf, Cond.code yX9_isOf cX9_isOf 2 (some .boolean), Cond.methodLink RX9 48 yX9_isMap, Cond.static yX9_isMap, Cond.code yX9_isMap cX9_isMap 1 (some .boolean), Cond.methodLink RX9 65 yX3_codeOf, Cond.instanceMethod yX3_codeOf, Cond.selects RX3 yX3_codeOf yX3_codeOf, Cond.initialized RX3, Cond.code yX3_codeOf cX3_codeOf 2 (some .int), Cond.fieldLink RX3 18 "LastMap$Papers" "codes" "[I", Cond.methodLink RX9 69 yX1_signAt, Cond.static yX1_signAt, Cond.initialized RX1, Cond.code yX1_signAt cX1_signAt 2 (some .int), Cond.methodLink RX1 15 yX1_weight, Cond.static yX1_weight, Cond.code yX1_weight cX1_weight 1 (some .int), Cond.fieldLink RX1 9 "LastMap$Maps" "WEIGHTS" "[I", Cond.methodLink RX1 19 yX1_signBy, Cond.static yX1_signBy, Cond.code yX1_signBy cX1_signBy 2 (some .int), Cond.methodLink RX9 74 yX5_written, Cond.static yX5_written]
def wsX9_holds_r3 : List Cond := [Cond.initialized RX5, Cond.code yX5_written cX5_written 1 (some .int), Cond.fieldLink RX5 7 "LastMap$Signs" "WRITTEN" "[I", Cond.methodLink RX9 179 yJ6_bitCount_0f7a4, Cond.static yJ6_bitCount_0f7a4, Cond.initialized RJ6, Cond.code yJ6_bitCount_0f7a4 cJ6_bitCount_0f7a4 1 (some .int), Cond.constant RJ6 265 (1431655765), Cond.constant RJ6 266 (858993459), Cond.constant RJ6 267 (252645135)]
def wsX9_holds : List Cond := .code yX9_holds cX9_holds 6 (some .int) :: ((wsX9_holds_r1 ++ (wsX9_holds_r2 ++ wsX9_holds_r3)) ++ wsX90 ++ wsX30)
def wsX9_spades : List Cond := .code yX9_spades cX9_spades 3 (some .int) :: ([.fieldLink RX9 19 "LastMap" "papers" "LLastMap$Papers;", .fieldLink RX9 184 "LastMap$Papers" "spadeCount" "I"] ++ wsX90 ++ wsX30)
def wsX9_land : List Cond := .code yX9_land cX9_land 2 (some .int) :: ([.fieldLink RX9 19 "LastMap" "papers" "LLastMap$Papers;", .fieldLink RX9 34 "LastMap$Papers" "ground" "I", .methodLink RX9 59 yX9_isSite, .instanceMethod yX9_isSite, .selects RX9 yX9_isSite yX9_isSite, .initialized RX9, .code yX9_isSite cX9_isSite 2 (some .boolean), .fieldLink RX9 27 "LastMap$Papers" "siteCount" "I", .methodLink RX9 69 yX1_signAt, .static yX1_signAt, .initialized RX1, .code yX1_signAt cX1_signAt 2 (some .int), .methodLink RX1 15 yX1_weight, .static yX1_weight, .code yX1_weight cX1_weight 1 (some .int), .fieldLink RX1 9 "LastMap$Maps" "WEIGHTS" "[I", .methodLink RX1 19 yX1_signBy, .static yX1_signBy, .code yX1_signBy cX1_signBy 2 (some .int), .methodLink RX9 74 yX5_written, .static yX5_written, .initialized RX5, .code yX5_written cX5_written 1 (some .int), .fieldLink RX5 7 "LastMap$Signs" "WRITTEN" "[I"] ++ wsX90 ++ wsX30)
def wsX9_years_r1 : List Cond := [Cond.fieldLink RX9 19 "LastMap" "papers" "LLastMap$Papers;", Cond.fieldLink RX9 34 "LastMap$Papers" "ground" "I", Cond.fieldLink RX9 184 "LastMap$Papers" "spadeCount" "I", Cond.methodLink RX9 190 Lib.Math.max.name, Cond.static Lib.Math.max.name, Cond.initialized "java/lang/Math", Cond.code Lib.Math.max.name Lib.Math.max.code 2 (some .int), Cond.methodLink RX9 48 yX9_isMap, Cond.static yX9_isMap, Cond.initialized RX9, Cond.code yX9_isMap cX9_isMap 1 (some .boolean), Cond.methodLink RX9 62 yX9_isTold, Cond.instanceMethod yX9_isTold, Cond.selects RX9 yX9_isTold yX9_isTold, Cond.code yX9_isTold cX9_isTold 2 (some .boolean), Cond.fieldLink RX9 31 "LastMap$Papers" "toldMaps" "I", Cond.methodLink RX9 132 yX9_isOf, Cond.static yX9_isOf, Cond.code yX9_isOf cX9_isOf 2 (some .boolean), Cond.methodLink RX9 65 yX3_codeOf, Cond.instanceMethod yX3_codeOf, Cond.selects RX3 yX3_codeOf yX3_codeOf, Cond.initialized RX3, Cond.code yX3_codeOf cX3_codeOf 2 (some .int)]
def wsX9_years_r2 : List Cond := [Cond.fieldLink RX3 18 "LastMap$Papers" "codes" "[I", Cond.methodLink RX9 187 yX1_unlike, Cond.static yX1_unlike, Cond.initialized RX1, Cond.code yX1_unlike cX1_unlike 4 (some .int), Cond.methodLink RX1 23 yX1_signAt, Cond.static yX1_signAt, Cond.code yX1_signAt cX1_signAt 2 (some .int), Cond.methodLink RX1 15 yX1_weight, Cond.static yX1_weight, Cond.code yX1_weight cX1_weight 1 (some .int), Cond.fieldLink RX1 9 "LastMap$Maps" "WEIGHTS" "[I", Cond.methodLink RX1 19 yX1_signBy, Cond.static yX1_signBy, Cond.code yX1_signBy cX1_signBy 2 (some .int)]
def wsX9_years : List Cond := .code yX9_years cX9_years 4 (some .int) :: ((wsX9_years_r1 ++ wsX9_years_r2) ++ wsX90 ++ wsX30)
def wsX9_follow_r1 : List Cond := [Cond.fieldLink RX9 19 "LastMap" "papers" "LLastMap$Papers;", Cond.fieldLink RX9 184 "LastMap$Papers" "spadeCount" "I", Cond.fieldLink RX9 27 "LastMap$Papers" "siteCount" "I", Cond.fieldLink RX9 34 "LastMap$Papers" "ground" "I", Cond.methodLink RX9 48 yX9_isMap, Cond.static yX9_isMap, Cond.initialized RX9, Cond.code yX9_isMap cX9_isMap 1 (some .boolean), Cond.methodLink RX9 62 yX9_isTold, Cond.instanceMethod yX9_isTold, Cond.selects RX9 yX9_isTold yX9_isTold, Cond.code yX9_isTold cX9_isTold 2 (some .boolean), Cond.fieldLink RX9 31 "LastMap$Papers" "toldMaps" "I", Cond.methodLink RX9 132 yX9_isOf, Cond.static yX9_isOf, Cond.code yX9_isOf cX9_isOf 2 (some .boolean), Cond.methodLink RX9 65 yX3_codeOf, Cond.instanceMethod yX3_codeOf, Cond.selects RX3 yX3_codeOf yX3_codeOf, Cond.initialized RX3, Cond.code yX3_codeOf cX3_codeOf 2 (some .int), Cond.fieldLink RX3 18 "LastMap$Papers" "codes" "[I", Cond.methodLink RX9 69 yX1_signAt, Cond.static yX1_signAt]
def wsX9_follow_r2 : List Cond := [Cond.initialized RX1, Cond.code yX1_signAt cX1_signAt 2 (some .int), Cond.methodLink RX1 15 yX1_weight, Cond.static yX1_weight, Cond.code yX1_weight cX1_weight 1 (some .int), Cond.fieldLink RX1 9 "LastMap$Maps" "WEIGHTS" "[I", Cond.methodLink RX1 19 yX1_signBy, Cond.static yX1_signBy, Cond.code yX1_signBy cX1_signBy 2 (some .int), Cond.methodLink RX9 195 yX1_with, Cond.static yX1_with, Cond.code yX1_with cX1_with 3 (some .int), Cond.methodLink RX1 23 yX1_signAt, Cond.methodLink RX9 187 yX1_unlike, Cond.static yX1_unlike, Cond.code yX1_unlike cX1_unlike 4 (some .int)]
def wsX9_follow : List Cond := .code yX9_follow cX9_follow 7 (some .int) :: ((wsX9_follow_r1 ++ wsX9_follow_r2) ++ wsX90 ++ wsX30)
def wsX9_isSome_r1 : List Cond := [Cond.fieldLink RX9 19 "LastMap" "papers" "LLastMap$Papers;", Cond.fieldLink RX9 27 "LastMap$Papers" "siteCount" "I", Cond.methodLink RX9 213 yX6_isMade, Cond.static yX6_isMade, Cond.initialized RX6, Cond.code yX6_isMade cX6_isMade 4 (some .boolean), Cond.methodLink RX6 15 yX6_sitesFor, Cond.static yX6_sitesFor, Cond.code yX6_sitesFor cX6_sitesFor 2 (some .int), Cond.methodLink RX9 97 yX6_after, Cond.static yX6_after, Cond.code yX6_after cX6_after 4 (some .int), Cond.methodLink RX6 19 yX1_signAt, Cond.static yX1_signAt, Cond.initialized RX1, Cond.code yX1_signAt cX1_signAt 2 (some .int), Cond.methodLink RX1 15 yX1_weight, Cond.static yX1_weight, Cond.code yX1_weight cX1_weight 1 (some .int), Cond.fieldLink RX1 9 "LastMap$Maps" "WEIGHTS" "[I", Cond.methodLink RX1 19 yX1_signBy, Cond.static yX1_signBy, Cond.code yX1_signBy cX1_signBy 2 (some .int), Cond.methodLink RX6 24 yX1_with]
def wsX9_isSome_r2 : List Cond := [Cond.static yX1_with, Cond.code yX1_with cX1_with 3 (some .int), Cond.methodLink RX1 23 yX1_signAt]
def wsX9_isSome : List Cond := .code yX9_isSome cX9_isSome 4 (some .boolean) :: ((wsX9_isSome_r1 ++ wsX9_isSome_r2) ++ wsX90 ++ wsX30)
def wsX9_afterDraw_r1 : List Cond := [Cond.methodLink RX9 206 yX6_inOrder, Cond.static yX6_inOrder, Cond.initialized RX6, Cond.code yX6_inOrder cX6_inOrder 1 (some .int), Cond.fieldLink RX6 9 "LastMap$Slips" "ORDER" "[I", Cond.methodLink RX9 209 yX9_isSome, Cond.instanceMethod yX9_isSome, Cond.selects RX9 yX9_isSome yX9_isSome, Cond.initialized RX9, Cond.code yX9_isSome cX9_isSome 4 (some .boolean), Cond.fieldLink RX9 19 "LastMap" "papers" "LLastMap$Papers;", Cond.fieldLink RX9 27 "LastMap$Papers" "siteCount" "I", Cond.methodLink RX9 213 yX6_isMade, Cond.static yX6_isMade, Cond.code yX6_isMade cX6_isMade 4 (some .boolean), Cond.methodLink RX6 15 yX6_sitesFor, Cond.static yX6_sitesFor, Cond.code yX6_sitesFor cX6_sitesFor 2 (some .int), Cond.methodLink RX9 97 yX6_after, Cond.static yX6_after, Cond.code yX6_after cX6_after 4 (some .int), Cond.methodLink RX6 19 yX1_signAt, Cond.static yX1_signAt, Cond.initialized RX1]
def wsX9_afterDraw_r2 : List Cond := [Cond.code yX1_signAt cX1_signAt 2 (some .int), Cond.methodLink RX1 15 yX1_weight, Cond.static yX1_weight, Cond.code yX1_weight cX1_weight 1 (some .int), Cond.fieldLink RX1 9 "LastMap$Maps" "WEIGHTS" "[I", Cond.methodLink RX1 19 yX1_signBy, Cond.static yX1_signBy, Cond.code yX1_signBy cX1_signBy 2 (some .int), Cond.methodLink RX6 24 yX1_with, Cond.static yX1_with, Cond.code yX1_with cX1_with 3 (some .int), Cond.methodLink RX1 23 yX1_signAt]
def wsX9_afterDraw : List Cond := .code yX9_afterDraw cX9_afterDraw 8 (some .int) :: ((wsX9_afterDraw_r1 ++ wsX9_afterDraw_r2) ++ wsX90 ++ wsX30)
def wsX9_drawn_r1 : List Cond := [Cond.fieldLink RX9 19 "LastMap" "papers" "LLastMap$Papers;", Cond.constant RX9 198 (65537), Cond.methodLink RX9 48 yX9_isMap, Cond.static yX9_isMap, Cond.initialized RX9, Cond.code yX9_isMap cX9_isMap 1 (some .boolean), Cond.methodLink RX9 79 yX9_isHand, Cond.static yX9_isHand, Cond.code yX9_isHand cX9_isHand 1 (some .boolean), Cond.methodLink RX9 59 yX9_isSite, Cond.instanceMethod yX9_isSite, Cond.selects RX9 yX9_isSite yX9_isSite, Cond.code yX9_isSite cX9_isSite 2 (some .boolean), Cond.fieldLink RX9 27 "LastMap$Papers" "siteCount" "I", Cond.methodLink RX9 62 yX9_isTold, Cond.instanceMethod yX9_isTold, Cond.selects RX9 yX9_isTold yX9_isTold, Cond.code yX9_isTold cX9_isTold 2 (some .boolean), Cond.fieldLink RX9 31 "LastMap$Papers" "toldMaps" "I", Cond.methodLink RX9 132 yX9_isOf, Cond.static yX9_isOf, Cond.code yX9_isOf cX9_isOf 2 (some .boolean), Cond.methodLink RX9 65 yX3_codeOf, Cond.instanceMethod yX3_codeOf]
def wsX9_drawn_r2 : List Cond := [Cond.selects RX3 yX3_codeOf yX3_codeOf, Cond.initialized RX3, Cond.code yX3_codeOf cX3_codeOf 2 (some .int), Cond.fieldLink RX3 18 "LastMap$Papers" "codes" "[I", Cond.methodLink RX9 82 yX3_kindsOf, Cond.instanceMethod yX3_kindsOf, Cond.selects RX3 yX3_kindsOf yX3_kindsOf, Cond.code yX3_kindsOf cX3_kindsOf 2 (some .int), Cond.fieldLink RX3 22 "LastMap$Papers" "kinds" "[I", Cond.methodLink RX9 199 yX9_afterDraw, Cond.instanceMethod yX9_afterDraw, Cond.selects RX9 yX9_afterDraw yX9_afterDraw, Cond.code yX9_afterDraw cX9_afterDraw 8 (some .int), Cond.methodLink RX9 206 yX6_inOrder, Cond.static yX6_inOrder, Cond.initialized RX6, Cond.code yX6_inOrder cX6_inOrder 1 (some .int), Cond.fieldLink RX6 9 "LastMap$Slips" "ORDER" "[I", Cond.methodLink RX9 209 yX9_isSome, Cond.instanceMethod yX9_isSome, Cond.selects RX9 yX9_isSome yX9_isSome, Cond.code yX9_isSome cX9_isSome 4 (some .boolean), Cond.methodLink RX9 213 yX6_isMade, Cond.static yX6_isMade]
def wsX9_drawn_r3 : List Cond := [Cond.code yX6_isMade cX6_isMade 4 (some .boolean), Cond.methodLink RX6 15 yX6_sitesFor, Cond.static yX6_sitesFor, Cond.code yX6_sitesFor cX6_sitesFor 2 (some .int), Cond.methodLink RX9 97 yX6_after, Cond.static yX6_after, Cond.code yX6_after cX6_after 4 (some .int), Cond.methodLink RX6 19 yX1_signAt, Cond.static yX1_signAt, Cond.initialized RX1, Cond.code yX1_signAt cX1_signAt 2 (some .int), Cond.methodLink RX1 15 yX1_weight, Cond.static yX1_weight, Cond.code yX1_weight cX1_weight 1 (some .int), Cond.fieldLink RX1 9 "LastMap$Maps" "WEIGHTS" "[I", Cond.methodLink RX1 19 yX1_signBy, Cond.static yX1_signBy, Cond.code yX1_signBy cX1_signBy 2 (some .int), Cond.methodLink RX6 24 yX1_with, Cond.static yX1_with, Cond.code yX1_with cX1_with 3 (some .int), Cond.methodLink RX1 23 yX1_signAt, Cond.methodLink RX9 187 yX1_unlike, Cond.static yX1_unlike]
def wsX9_drawn_r4 : List Cond := [Cond.code yX1_unlike cX1_unlike 4 (some .int), Cond.methodLink RX9 69 yX1_signAt, Cond.methodLink RX9 74 yX5_written, Cond.static yX5_written, Cond.initialized RX5, Cond.code yX5_written cX5_written 1 (some .int), Cond.fieldLink RX5 7 "LastMap$Signs" "WRITTEN" "[I"]
def wsX9_drawn : List Cond := .code yX9_drawn cX9_drawn 10 (some .int) :: ((wsX9_drawn_r1 ++ (wsX9_drawn_r2 ++ (wsX9_drawn_r3 ++ wsX9_drawn_r4))) ++ wsX90 ++ wsX30)
def wsX9_image_r1 : List Cond := [Cond.fieldLink RX9 23 "LastMap" "images" "[LLastMap$Papers;", Cond.classLink RX9 16 RX3, Cond.instantiable RX3 6, Cond.initialized RX3, Cond.fieldLink RX9 19 "LastMap" "papers" "LLastMap$Papers;", Cond.instanceMethod yX3_init, Cond.code yX3_init cX3_init 1 none, Cond.methodLink RX3 3 objectInit, Cond.instanceMethod objectInit, Cond.code objectInit ⟨#[0xb1]⟩ 1 none, Cond.fieldLink RX3 9 "LastMap$Papers" "siteCount" "I", Cond.fieldLink RX3 15 "LastMap$Papers" "spadeCount" "I", Cond.arrayClass .int, Cond.fieldLink RX3 18 "LastMap$Papers" "codes" "[I", Cond.fieldLink RX3 22 "LastMap$Papers" "kinds" "[I", Cond.methodLink RX9 202 yX3_take, Cond.instanceMethod yX3_take, Cond.selects RX3 yX3_take yX3_take, Cond.code yX3_take cX3_take 3 none, Cond.fieldLink RX3 25 "LastMap$Papers" "toldMaps" "I", Cond.fieldLink RX3 28 "LastMap$Papers" "ground" "I", Cond.methodLink RX3 31 yX3_codeOf, Cond.instanceMethod yX3_codeOf, Cond.selects RX3 yX3_codeOf yX3_codeOf]
def wsX9_image_r2 : List Cond := [Cond.code yX3_codeOf cX3_codeOf 2 (some .int), Cond.methodLink RX3 35 yX3_kindsOf, Cond.instanceMethod yX3_kindsOf, Cond.selects RX3 yX3_kindsOf yX3_kindsOf, Cond.code yX3_kindsOf cX3_kindsOf 2 (some .int)]
def wsX9_image : List Cond := .code yX9_image cX9_image 2 (some .int) :: ((wsX9_image_r1 ++ wsX9_image_r2) ++ wsX90 ++ wsX30)
def wsX9_restore : List Cond := .code yX9_restore cX9_restore 3 (some .int) :: ([.fieldLink RX9 23 "LastMap" "images" "[LLastMap$Papers;", .fieldLink RX9 19 "LastMap" "papers" "LLastMap$Papers;", .methodLink RX9 202 yX3_take, .instanceMethod yX3_take, .selects RX3 yX3_take yX3_take, .initialized RX3, .code yX3_take cX3_take 3 none, .fieldLink RX3 9 "LastMap$Papers" "siteCount" "I", .fieldLink RX3 25 "LastMap$Papers" "toldMaps" "I", .fieldLink RX3 15 "LastMap$Papers" "spadeCount" "I", .fieldLink RX3 28 "LastMap$Papers" "ground" "I", .fieldLink RX3 18 "LastMap$Papers" "codes" "[I", .fieldLink RX3 22 "LastMap$Papers" "kinds" "[I", .methodLink RX3 31 yX3_codeOf, .instanceMethod yX3_codeOf, .selects RX3 yX3_codeOf yX3_codeOf, .code yX3_codeOf cX3_codeOf 2 (some .int), .methodLink RX3 35 yX3_kindsOf, .instanceMethod yX3_kindsOf, .selects RX3 yX3_kindsOf yX3_kindsOf, .code yX3_kindsOf cX3_kindsOf 2 (some .int)] ++ wsX90 ++ wsX30)
def wsX9_told : List Cond := .code yX9_told cX9_told 2 (some .int) :: ([.fieldLink RX9 19 "LastMap" "papers" "LLastMap$Papers;", .fieldLink RX9 10 "LastMap" "pad" "LLastMap$Pad;", .fieldLink RX9 41 "LastMap$Pad" "length" "I", .fieldLink RX9 27 "LastMap$Papers" "siteCount" "I", .fieldLink RX9 31 "LastMap$Papers" "toldMaps" "I", .fieldLink RX9 184 "LastMap$Papers" "spadeCount" "I", .methodLink RX9 79 yX9_isHand, .static yX9_isHand, .initialized RX9, .code yX9_isHand cX9_isHand 1 (some .boolean), .methodLink RX9 82 yX3_kindsOf, .instanceMethod yX3_kindsOf, .selects RX3 yX3_kindsOf yX3_kindsOf, .initialized RX3, .code yX3_kindsOf cX3_kindsOf 2 (some .int), .fieldLink RX3 22 "LastMap$Papers" "kinds" "[I"] ++ wsX90 ++ wsX20 ++ wsX30)
def wsX10_findParts : List Cond := .code yX10_findParts cX10_findParts 3 none :: ([.fieldLink RX10 67 "LastMapModel" "sites" "I", .fieldLink RX10 16 "LastMapModel" "part" "[I"] ++ wsX100)
def wsX10_begin : List Cond := .code yX10_begin cX10_begin 3 none :: ([.fieldLink RX10 67 "LastMapModel" "sites" "I", .fieldLink RX10 70 "LastMapModel" "told" "I", .fieldLink RX10 73 "LastMapModel" "land" "I", .fieldLink RX10 7 "LastMapModel" "maps" "[I", .methodLink RX10 76 yX10_findParts, .instanceMethod yX10_findParts, .selects RX10 yX10_findParts yX10_findParts, .initialized RX10, .code yX10_findParts cX10_findParts 3 none, .fieldLink RX10 16 "LastMapModel" "part" "[I"] ++ wsX100)
def wsX10_init_r1 : List Cond := [Cond.methodLink RX10 1 objectInit, Cond.instanceMethod objectInit, Cond.code objectInit ⟨#[0xb1]⟩ 1 none, Cond.arrayClass .int, Cond.fieldLink RX10 7 "LastMapModel" "maps" "[I", Cond.fieldLink RX10 13 "LastMapModel" "kinds" "[I", Cond.fieldLink RX10 16 "LastMapModel" "part" "[I", Cond.fieldLink RX10 19 "LastMapModel" "pad" "[I", Cond.fieldLink RX10 22 "LastMapModel" "slips" "[I", Cond.fieldLink RX10 25 "LastMapModel" "queue" "[I", Cond.fieldLink RX10 28 "LastMapModel" "depth" "[I", Cond.fieldLink RX10 31 "LastMapModel" "by" "[I", Cond.fieldLink RX10 34 "LastMapModel" "from" "[I", Cond.fieldLink RX10 37 "LastMapModel" "offOf" "[I", Cond.fieldLink RX10 40 "LastMapModel" "parent" "[I", Cond.fieldLink RX10 43 "LastMapModel" "best" "[I", Cond.fieldLink RX10 46 "LastMapModel" "sums" "[I", Cond.fieldLink RX10 49 "LastMapModel" "toward" "[I", Cond.fieldLink RX10 52 "LastMapModel" "kept" "[I", Cond.arrayClass .boolean, Cond.fieldLink RX10 55 "LastMapModel" "isKept" "[Z", Cond.fieldLink RX10 59 "LastMapModel" "spades" "I", Cond.methodLink RX10 63 yX10_begin, Cond.instanceMethod yX10_begin]
def wsX10_init_r2 : List Cond := [Cond.selects RX10 yX10_begin yX10_begin, Cond.initialized RX10, Cond.code yX10_begin cX10_begin 3 none, Cond.fieldLink RX10 67 "LastMapModel" "sites" "I", Cond.fieldLink RX10 70 "LastMapModel" "told" "I", Cond.fieldLink RX10 73 "LastMapModel" "land" "I", Cond.methodLink RX10 76 yX10_findParts, Cond.instanceMethod yX10_findParts, Cond.selects RX10 yX10_findParts yX10_findParts, Cond.code yX10_findParts cX10_findParts 3 none]
def wsX10_init : List Cond := .code yX10_init cX10_init 2 none :: ((wsX10_init_r1 ++ wsX10_init_r2) ++ wsX100)
def wsX10_in : List Cond := .code yX10_in cX10_in 6 (some .boolean) :: ([])
def wsX10_all : List Cond := .code yX10_all cX10_all 1 (some .int) :: ([.fieldLink RX10 16 "LastMapModel" "part" "[I"] ++ wsX100)
def wsX10_isSite : List Cond := .code yX10_isSite cX10_isSite 2 (some .boolean) :: ([.fieldLink RX10 67 "LastMapModel" "sites" "I", .methodLink RX10 79 yX10_in, .static yX10_in, .initialized RX10, .code yX10_in cX10_in 6 (some .boolean)] ++ wsX100)
def wsX10_isMap : List Cond := .code yX10_isMap cX10_isMap 1 (some .boolean) :: ([.constantLong RX10 83 (5), .methodLink RX10 79 yX10_in, .static yX10_in, .initialized RX10, .code yX10_in cX10_in 6 (some .boolean)])
def wsX10_isHand : List Cond := .code yX10_isHand cX10_isHand 1 (some .boolean) :: ([.constantLong RX10 85 (3), .methodLink RX10 79 yX10_in, .static yX10_in, .initialized RX10, .code yX10_in cX10_in 6 (some .boolean)])
def wsX10_isTold : List Cond := .code yX10_isTold cX10_isTold 2 (some .boolean) :: ([.fieldLink RX10 70 "LastMapModel" "told" "I"] ++ wsX100)
def wsX10_sites : List Cond := .code yX10_sites cX10_sites 3 (some .int) :: ([.constantLong RX10 87 (2), .constantLong RX10 89 (6), .fieldLink RX10 67 "LastMapModel" "sites" "I", .methodLink RX10 79 yX10_in, .static yX10_in, .initialized RX10, .code yX10_in cX10_in 6 (some .boolean), .methodLink RX10 63 yX10_begin, .instanceMethod yX10_begin, .selects RX10 yX10_begin yX10_begin, .code yX10_begin cX10_begin 3 none, .fieldLink RX10 70 "LastMapModel" "told" "I", .fieldLink RX10 73 "LastMapModel" "land" "I", .fieldLink RX10 7 "LastMapModel" "maps" "[I", .methodLink RX10 76 yX10_findParts, .instanceMethod yX10_findParts, .selects RX10 yX10_findParts yX10_findParts, .code yX10_findParts cX10_findParts 3 none, .fieldLink RX10 16 "LastMapModel" "part" "[I"] ++ wsX100)
def wsX10_signAt : List Cond := .code yX10_signAt cX10_signAt 3 (some .int) :: ([.fieldLink RX10 16 "LastMapModel" "part" "[I"] ++ wsX100)
def wsX10_with : List Cond := .code yX10_with cX10_with 4 (some .int) :: ([.fieldLink RX10 16 "LastMapModel" "part" "[I", .methodLink RX10 91 yX10_signAt, .instanceMethod yX10_signAt, .selects RX10 yX10_signAt yX10_signAt, .initialized RX10, .code yX10_signAt cX10_signAt 3 (some .int)] ++ wsX100)
def wsX10_codeOf : List Cond := .code yX10_codeOf cX10_codeOf 1 (some .int) :: ([])
def wsX10_signOf : List Cond := .code yX10_signOf cX10_signOf 1 (some .int) :: ([.constantLong RX10 95 (97), .constantLong RX10 97 (100), .methodLink RX10 79 yX10_in, .static yX10_in, .initialized RX10, .code yX10_in cX10_in 6 (some .boolean)])
def wsX10_say : List Cond := .code yX10_say cX10_say 2 (some .int) :: ([.constantLong RX10 99 (33), .constantLong RX10 101 (126), .fieldLink RX10 103 "LastMapModel" "padMany" "I", .fieldLink RX10 19 "LastMapModel" "pad" "[I", .methodLink RX10 79 yX10_in, .static yX10_in, .initialized RX10, .code yX10_in cX10_in 6 (some .boolean)] ++ wsX100)
def wsX10_wipe : List Cond := .code yX10_wipe cX10_wipe 2 (some .int) :: ([.fieldLink RX10 103 "LastMapModel" "padMany" "I"] ++ wsX100)
def wsX10_faultOfMap : List Cond := .code yX10_faultOfMap cX10_faultOfMap 4 (some .int) :: ([.fieldLink RX10 103 "LastMapModel" "padMany" "I", .fieldLink RX10 19 "LastMapModel" "pad" "[I", .fieldLink RX10 67 "LastMapModel" "sites" "I", .methodLink RX10 106 yX10_signOf, .static yX10_signOf, .initialized RX10, .code yX10_signOf cX10_signOf 1 (some .int), .constantLong RX10 95 (97), .constantLong RX10 97 (100), .methodLink RX10 79 yX10_in, .static yX10_in, .code yX10_in cX10_in 6 (some .boolean)] ++ wsX100)
def wsX10_kindOf : List Cond := .code yX10_kindOf cX10_kindOf 1 (some .int) :: ([])
def wsX10_faultOfSlips : List Cond := .code yX10_faultOfSlips cX10_faultOfSlips 7 (some .int) :: ([.fieldLink RX10 110 "LastMapModel" "slipMany" "I", .fieldLink RX10 103 "LastMapModel" "padMany" "I", .fieldLink RX10 19 "LastMapModel" "pad" "[I", .fieldLink RX10 67 "LastMapModel" "sites" "I", .constantLong RX10 95 (97), .constantLong RX10 97 (100), .fieldLink RX10 22 "LastMapModel" "slips" "[I", .methodLink RX10 113 yX10_kindOf, .static yX10_kindOf, .initialized RX10, .code yX10_kindOf cX10_kindOf 1 (some .int), .methodLink RX10 79 yX10_in, .static yX10_in, .code yX10_in cX10_in 6 (some .boolean)] ++ wsX100)
def wsX10_fault_r1 : List Cond := [Cond.methodLink RX10 116 yX10_faultOfMap, Cond.instanceMethod yX10_faultOfMap, Cond.selects RX10 yX10_faultOfMap yX10_faultOfMap, Cond.initialized RX10, Cond.code yX10_faultOfMap cX10_faultOfMap 4 (some .int), Cond.fieldLink RX10 103 "LastMapModel" "padMany" "I", Cond.fieldLink RX10 19 "LastMapModel" "pad" "[I", Cond.fieldLink RX10 67 "LastMapModel" "sites" "I", Cond.methodLink RX10 106 yX10_signOf, Cond.static yX10_signOf, Cond.code yX10_signOf cX10_signOf 1 (some .int), Cond.constantLong RX10 95 (97), Cond.constantLong RX10 97 (100), Cond.methodLink RX10 79 yX10_in, Cond.static yX10_in, Cond.code yX10_in cX10_in 6 (some .boolean), Cond.methodLink RX10 120 yX10_faultOfSlips, Cond.instanceMethod yX10_faultOfSlips, Cond.selects RX10 yX10_faultOfSlips yX10_faultOfSlips, Cond.code yX10_faultOfSlips cX10_faultOfSlips 7 (some .int), Cond.fieldLink RX10 110 "LastMapModel" "slipMany" "I", Cond.fieldLink RX10 22 "LastMapModel" "slips" "[I", Cond.methodLink RX10 113 yX10_kindOf, Cond.static yX10_kindOf]
def wsX10_fault_r2 : List Cond := [Cond.code yX10_kindOf cX10_kindOf 1 (some .int)]
def wsX10_fault : List Cond := .code yX10_fault cX10_fault 2 (some .int) :: ((wsX10_fault_r1 ++ wsX10_fault_r2) ++ wsX100)
def wsX10_map : List Cond := .code yX10_map cX10_map 4 (some .int) :: ([.fieldLink RX10 67 "LastMapModel" "sites" "I", .fieldLink RX10 19 "LastMapModel" "pad" "[I", .fieldLink RX10 7 "LastMapModel" "maps" "[I", .fieldLink RX10 70 "LastMapModel" "told" "I", .fieldLink RX10 103 "LastMapModel" "padMany" "I", .methodLink RX10 124 yX10_isMap, .static yX10_isMap, .initialized RX10, .code yX10_isMap cX10_isMap 1 (some .boolean), .constantLong RX10 83 (5), .methodLink RX10 79 yX10_in, .static yX10_in, .code yX10_in cX10_in 6 (some .boolean), .methodLink RX10 116 yX10_faultOfMap, .instanceMethod yX10_faultOfMap, .selects RX10 yX10_faultOfMap yX10_faultOfMap, .code yX10_faultOfMap cX10_faultOfMap 4 (some .int), .methodLink RX10 106 yX10_signOf, .static yX10_signOf, .code yX10_signOf cX10_signOf 1 (some .int), .constantLong RX10 95 (97), .constantLong RX10 97 (100)] ++ wsX100)
def wsX10_at_r1 : List Cond := [Cond.fieldLink RX10 7 "LastMapModel" "maps" "[I", Cond.methodLink RX10 124 yX10_isMap, Cond.static yX10_isMap, Cond.initialized RX10, Cond.code yX10_isMap cX10_isMap 1 (some .boolean), Cond.constantLong RX10 83 (5), Cond.methodLink RX10 79 yX10_in, Cond.static yX10_in, Cond.code yX10_in cX10_in 6 (some .boolean), Cond.methodLink RX10 128 yX10_isSite, Cond.instanceMethod yX10_isSite, Cond.selects RX10 yX10_isSite yX10_isSite, Cond.code yX10_isSite cX10_isSite 2 (some .boolean), Cond.fieldLink RX10 67 "LastMapModel" "sites" "I", Cond.methodLink RX10 131 yX10_isTold, Cond.instanceMethod yX10_isTold, Cond.selects RX10 yX10_isTold yX10_isTold, Cond.code yX10_isTold cX10_isTold 2 (some .boolean), Cond.fieldLink RX10 70 "LastMapModel" "told" "I", Cond.methodLink RX10 91 yX10_signAt, Cond.instanceMethod yX10_signAt, Cond.selects RX10 yX10_signAt yX10_signAt, Cond.code yX10_signAt cX10_signAt 3 (some .int), Cond.fieldLink RX10 16 "LastMapModel" "part" "[I"]
def wsX10_at_r2 : List Cond := [Cond.methodLink RX10 134 yX10_codeOf, Cond.static yX10_codeOf, Cond.code yX10_codeOf cX10_codeOf 1 (some .int)]
def wsX10_at : List Cond := .code yX10_at cX10_at 3 (some .int) :: ((wsX10_at_r1 ++ wsX10_at_r2) ++ wsX100)
def wsX10_hand : List Cond := .code yX10_hand cX10_hand 4 (some .int) :: ([.constantLong RX10 140 (15), .fieldLink RX10 13 "LastMapModel" "kinds" "[I", .methodLink RX10 137 yX10_isHand, .static yX10_isHand, .initialized RX10, .code yX10_isHand cX10_isHand 1 (some .boolean), .constantLong RX10 85 (3), .methodLink RX10 79 yX10_in, .static yX10_in, .code yX10_in cX10_in 6 (some .boolean)] ++ wsX100)
def wsX10_slipsThere : List Cond := .code yX10_slipsThere cX10_slipsThere 1 (some .int) :: ([.fieldLink RX10 67 "LastMapModel" "sites" "I"] ++ wsX100)
def wsX10_slipAt : List Cond := .code yX10_slipAt cX10_slipAt 4 (some .int) :: ([.fieldLink RX10 67 "LastMapModel" "sites" "I"] ++ wsX100)
def wsX10_slipped : List Cond := .code yX10_slipped cX10_slipped 5 (some .int) :: ([.methodLink RX10 91 yX10_signAt, .instanceMethod yX10_signAt, .selects RX10 yX10_signAt yX10_signAt, .initialized RX10, .code yX10_signAt cX10_signAt 3 (some .int), .fieldLink RX10 16 "LastMapModel" "part" "[I", .methodLink RX10 142 yX10_with, .instanceMethod yX10_with, .selects RX10 yX10_with yX10_with, .code yX10_with cX10_with 4 (some .int)] ++ wsX100)
def wsX10_makes : List Cond := .code yX10_makes cX10_makes 2 (some .boolean) :: ([])
def wsX10_badFrom : List Cond := .code yX10_badFrom cX10_badFrom 4 (some .int) :: ([.fieldLink RX10 149 "LastMapModel" "made" "I", .fieldLink RX10 110 "LastMapModel" "slipMany" "I", .fieldLink RX10 22 "LastMapModel" "slips" "[I", .methodLink RX10 152 yX10_slipped, .instanceMethod yX10_slipped, .selects RX10 yX10_slipped yX10_slipped, .initialized RX10, .code yX10_slipped cX10_slipped 5 (some .int), .methodLink RX10 91 yX10_signAt, .instanceMethod yX10_signAt, .selects RX10 yX10_signAt yX10_signAt, .code yX10_signAt cX10_signAt 3 (some .int), .fieldLink RX10 16 "LastMapModel" "part" "[I", .methodLink RX10 142 yX10_with, .instanceMethod yX10_with, .selects RX10 yX10_with yX10_with, .code yX10_with cX10_with 4 (some .int)] ++ wsX100)
def wsX10_judge_r1 : List Cond := [Cond.fieldLink RX10 7 "LastMapModel" "maps" "[I", Cond.methodLink RX10 124 yX10_isMap, Cond.static yX10_isMap, Cond.initialized RX10, Cond.code yX10_isMap cX10_isMap 1 (some .boolean), Cond.constantLong RX10 83 (5), Cond.methodLink RX10 79 yX10_in, Cond.static yX10_in, Cond.code yX10_in cX10_in 6 (some .boolean), Cond.methodLink RX10 131 yX10_isTold, Cond.instanceMethod yX10_isTold, Cond.selects RX10 yX10_isTold yX10_isTold, Cond.code yX10_isTold cX10_isTold 2 (some .boolean), Cond.fieldLink RX10 70 "LastMapModel" "told" "I", Cond.methodLink RX10 120 yX10_faultOfSlips, Cond.instanceMethod yX10_faultOfSlips, Cond.selects RX10 yX10_faultOfSlips yX10_faultOfSlips, Cond.code yX10_faultOfSlips cX10_faultOfSlips 7 (some .int), Cond.fieldLink RX10 110 "LastMapModel" "slipMany" "I", Cond.fieldLink RX10 103 "LastMapModel" "padMany" "I", Cond.fieldLink RX10 19 "LastMapModel" "pad" "[I", Cond.fieldLink RX10 67 "LastMapModel" "sites" "I", Cond.constantLong RX10 95 (97), Cond.constantLong RX10 97 (100)]
def wsX10_judge_r2 : List Cond := [Cond.fieldLink RX10 22 "LastMapModel" "slips" "[I", Cond.methodLink RX10 113 yX10_kindOf, Cond.static yX10_kindOf, Cond.code yX10_kindOf cX10_kindOf 1 (some .int), Cond.methodLink RX10 146 yX10_badFrom, Cond.instanceMethod yX10_badFrom, Cond.selects RX10 yX10_badFrom yX10_badFrom, Cond.code yX10_badFrom cX10_badFrom 4 (some .int), Cond.fieldLink RX10 149 "LastMapModel" "made" "I", Cond.methodLink RX10 152 yX10_slipped, Cond.instanceMethod yX10_slipped, Cond.selects RX10 yX10_slipped yX10_slipped, Cond.code yX10_slipped cX10_slipped 5 (some .int), Cond.methodLink RX10 91 yX10_signAt, Cond.instanceMethod yX10_signAt, Cond.selects RX10 yX10_signAt yX10_signAt, Cond.code yX10_signAt cX10_signAt 3 (some .int), Cond.fieldLink RX10 16 "LastMapModel" "part" "[I", Cond.methodLink RX10 142 yX10_with, Cond.instanceMethod yX10_with, Cond.selects RX10 yX10_with yX10_with, Cond.code yX10_with cX10_with 4 (some .int)]
def wsX10_judge : List Cond := .code yX10_judge cX10_judge 2 (some .int) :: ((wsX10_judge_r1 ++ wsX10_judge_r2) ++ wsX100)
def wsX10_copy_r1 : List Cond := [Cond.fieldLink RX10 7 "LastMapModel" "maps" "[I", Cond.fieldLink RX10 149 "LastMapModel" "made" "I", Cond.fieldLink RX10 70 "LastMapModel" "told" "I", Cond.fieldLink RX10 103 "LastMapModel" "padMany" "I", Cond.fieldLink RX10 110 "LastMapModel" "slipMany" "I", Cond.methodLink RX10 124 yX10_isMap, Cond.static yX10_isMap, Cond.initialized RX10, Cond.code yX10_isMap cX10_isMap 1 (some .boolean), Cond.constantLong RX10 83 (5), Cond.methodLink RX10 79 yX10_in, Cond.static yX10_in, Cond.code yX10_in cX10_in 6 (some .boolean), Cond.methodLink RX10 131 yX10_isTold, Cond.instanceMethod yX10_isTold, Cond.selects RX10 yX10_isTold yX10_isTold, Cond.code yX10_isTold cX10_isTold 2 (some .boolean), Cond.methodLink RX10 120 yX10_faultOfSlips, Cond.instanceMethod yX10_faultOfSlips, Cond.selects RX10 yX10_faultOfSlips yX10_faultOfSlips, Cond.code yX10_faultOfSlips cX10_faultOfSlips 7 (some .int), Cond.fieldLink RX10 19 "LastMapModel" "pad" "[I", Cond.fieldLink RX10 67 "LastMapModel" "sites" "I", Cond.constantLong RX10 95 (97)]
def wsX10_copy_r2 : List Cond := [Cond.constantLong RX10 97 (100), Cond.fieldLink RX10 22 "LastMapModel" "slips" "[I", Cond.methodLink RX10 113 yX10_kindOf, Cond.static yX10_kindOf, Cond.code yX10_kindOf cX10_kindOf 1 (some .int), Cond.methodLink RX10 146 yX10_badFrom, Cond.instanceMethod yX10_badFrom, Cond.selects RX10 yX10_badFrom yX10_badFrom, Cond.code yX10_badFrom cX10_badFrom 4 (some .int), Cond.methodLink RX10 152 yX10_slipped, Cond.instanceMethod yX10_slipped, Cond.selects RX10 yX10_slipped yX10_slipped, Cond.code yX10_slipped cX10_slipped 5 (some .int), Cond.methodLink RX10 91 yX10_signAt, Cond.instanceMethod yX10_signAt, Cond.selects RX10 yX10_signAt yX10_signAt, Cond.code yX10_signAt cX10_signAt 3 (some .int), Cond.fieldLink RX10 16 "LastMapModel" "part" "[I", Cond.methodLink RX10 142 yX10_with, Cond.instanceMethod yX10_with, Cond.selects RX10 yX10_with yX10_with, Cond.code yX10_with cX10_with 4 (some .int)]
def wsX10_copy : List Cond := .code yX10_copy cX10_copy 3 (some .int) :: ((wsX10_copy_r1 ++ wsX10_copy_r2) ++ wsX100)
def wsX10_goFrom_r1 : List Cond := [Cond.fieldLink RX10 28 "LastMapModel" "depth" "[I", Cond.fieldLink RX10 25 "LastMapModel" "queue" "[I", Cond.fieldLink RX10 158 "LastMapModel" "come" "I", Cond.fieldLink RX10 31 "LastMapModel" "by" "[I", Cond.fieldLink RX10 34 "LastMapModel" "from" "[I", Cond.methodLink RX10 155 yX10_all, Cond.instanceMethod yX10_all, Cond.selects RX10 yX10_all yX10_all, Cond.initialized RX10, Cond.code yX10_all cX10_all 1 (some .int), Cond.fieldLink RX10 16 "LastMapModel" "part" "[I", Cond.methodLink RX10 161 yX10_slipsThere, Cond.instanceMethod yX10_slipsThere, Cond.selects RX10 yX10_slipsThere yX10_slipsThere, Cond.code yX10_slipsThere cX10_slipsThere 1 (some .int), Cond.fieldLink RX10 67 "LastMapModel" "sites" "I", Cond.methodLink RX10 164 yX10_slipAt, Cond.instanceMethod yX10_slipAt, Cond.selects RX10 yX10_slipAt yX10_slipAt, Cond.code yX10_slipAt cX10_slipAt 4 (some .int), Cond.methodLink RX10 167 yX10_makes, Cond.static yX10_makes, Cond.code yX10_makes cX10_makes 2 (some .boolean), Cond.methodLink RX10 152 yX10_slipped]
def wsX10_goFrom_r2 : List Cond := [Cond.instanceMethod yX10_slipped, Cond.selects RX10 yX10_slipped yX10_slipped, Cond.code yX10_slipped cX10_slipped 5 (some .int), Cond.methodLink RX10 91 yX10_signAt, Cond.instanceMethod yX10_signAt, Cond.selects RX10 yX10_signAt yX10_signAt, Cond.code yX10_signAt cX10_signAt 3 (some .int), Cond.methodLink RX10 142 yX10_with, Cond.instanceMethod yX10_with, Cond.selects RX10 yX10_with yX10_with, Cond.code yX10_with cX10_with 4 (some .int)]
def wsX10_goFrom : List Cond := .code yX10_goFrom cX10_goFrom 10 none :: ((wsX10_goFrom_r1 ++ wsX10_goFrom_r2) ++ wsX100)
def wsX10_slipTo : List Cond := .code yX10_slipTo cX10_slipTo 4 (some .int) :: ([.fieldLink RX10 28 "LastMapModel" "depth" "[I", .fieldLink RX10 34 "LastMapModel" "from" "[I", .fieldLink RX10 31 "LastMapModel" "by" "[I", .methodLink RX10 79 yX10_in, .static yX10_in, .initialized RX10, .code yX10_in cX10_in 6 (some .boolean)] ++ wsX100)
def wsX10_farOf_r1 : List Cond := [Cond.fieldLink RX10 28 "LastMapModel" "depth" "[I", Cond.methodLink RX10 171 yX10_goFrom, Cond.instanceMethod yX10_goFrom, Cond.selects RX10 yX10_goFrom yX10_goFrom, Cond.initialized RX10, Cond.code yX10_goFrom cX10_goFrom 10 none, Cond.fieldLink RX10 25 "LastMapModel" "queue" "[I", Cond.fieldLink RX10 158 "LastMapModel" "come" "I", Cond.fieldLink RX10 31 "LastMapModel" "by" "[I", Cond.fieldLink RX10 34 "LastMapModel" "from" "[I", Cond.methodLink RX10 155 yX10_all, Cond.instanceMethod yX10_all, Cond.selects RX10 yX10_all yX10_all, Cond.code yX10_all cX10_all 1 (some .int), Cond.fieldLink RX10 16 "LastMapModel" "part" "[I", Cond.methodLink RX10 161 yX10_slipsThere, Cond.instanceMethod yX10_slipsThere, Cond.selects RX10 yX10_slipsThere yX10_slipsThere, Cond.code yX10_slipsThere cX10_slipsThere 1 (some .int), Cond.fieldLink RX10 67 "LastMapModel" "sites" "I", Cond.methodLink RX10 164 yX10_slipAt, Cond.instanceMethod yX10_slipAt, Cond.selects RX10 yX10_slipAt yX10_slipAt, Cond.code yX10_slipAt cX10_slipAt 4 (some .int)]
def wsX10_farOf_r2 : List Cond := [Cond.methodLink RX10 167 yX10_makes, Cond.static yX10_makes, Cond.code yX10_makes cX10_makes 2 (some .boolean), Cond.methodLink RX10 152 yX10_slipped, Cond.instanceMethod yX10_slipped, Cond.selects RX10 yX10_slipped yX10_slipped, Cond.code yX10_slipped cX10_slipped 5 (some .int), Cond.methodLink RX10 91 yX10_signAt, Cond.instanceMethod yX10_signAt, Cond.selects RX10 yX10_signAt yX10_signAt, Cond.code yX10_signAt cX10_signAt 3 (some .int), Cond.methodLink RX10 142 yX10_with, Cond.instanceMethod yX10_with, Cond.selects RX10 yX10_with yX10_with, Cond.code yX10_with cX10_with 4 (some .int)]
def wsX10_farOf : List Cond := .code yX10_farOf cX10_farOf 4 (some .int) :: ((wsX10_farOf_r1 ++ wsX10_farOf_r2) ++ wsX100)
def wsX10_far_r1 : List Cond := [Cond.fieldLink RX10 7 "LastMapModel" "maps" "[I", Cond.fieldLink RX10 13 "LastMapModel" "kinds" "[I", Cond.methodLink RX10 124 yX10_isMap, Cond.static yX10_isMap, Cond.initialized RX10, Cond.code yX10_isMap cX10_isMap 1 (some .boolean), Cond.constantLong RX10 83 (5), Cond.methodLink RX10 79 yX10_in, Cond.static yX10_in, Cond.code yX10_in cX10_in 6 (some .boolean), Cond.methodLink RX10 137 yX10_isHand, Cond.static yX10_isHand, Cond.code yX10_isHand cX10_isHand 1 (some .boolean), Cond.constantLong RX10 85 (3), Cond.methodLink RX10 131 yX10_isTold, Cond.instanceMethod yX10_isTold, Cond.selects RX10 yX10_isTold yX10_isTold, Cond.code yX10_isTold cX10_isTold 2 (some .boolean), Cond.fieldLink RX10 70 "LastMapModel" "told" "I", Cond.methodLink RX10 175 yX10_farOf, Cond.instanceMethod yX10_farOf, Cond.selects RX10 yX10_farOf yX10_farOf, Cond.code yX10_farOf cX10_farOf 4 (some .int), Cond.fieldLink RX10 28 "LastMapModel" "depth" "[I"]
def wsX10_far_r2 : List Cond := [Cond.methodLink RX10 171 yX10_goFrom, Cond.instanceMethod yX10_goFrom, Cond.selects RX10 yX10_goFrom yX10_goFrom, Cond.code yX10_goFrom cX10_goFrom 10 none, Cond.fieldLink RX10 25 "LastMapModel" "queue" "[I", Cond.fieldLink RX10 158 "LastMapModel" "come" "I", Cond.fieldLink RX10 31 "LastMapModel" "by" "[I", Cond.fieldLink RX10 34 "LastMapModel" "from" "[I", Cond.methodLink RX10 155 yX10_all, Cond.instanceMethod yX10_all, Cond.selects RX10 yX10_all yX10_all, Cond.code yX10_all cX10_all 1 (some .int), Cond.fieldLink RX10 16 "LastMapModel" "part" "[I", Cond.methodLink RX10 161 yX10_slipsThere, Cond.instanceMethod yX10_slipsThere, Cond.selects RX10 yX10_slipsThere yX10_slipsThere, Cond.code yX10_slipsThere cX10_slipsThere 1 (some .int), Cond.fieldLink RX10 67 "LastMapModel" "sites" "I", Cond.methodLink RX10 164 yX10_slipAt, Cond.instanceMethod yX10_slipAt, Cond.selects RX10 yX10_slipAt yX10_slipAt, Cond.code yX10_slipAt cX10_slipAt 4 (some .int), Cond.methodLink RX10 167 yX10_makes, Cond.static yX10_makes]
def wsX10_far_r3 : List Cond := [Cond.code yX10_makes cX10_makes 2 (some .boolean), Cond.methodLink RX10 152 yX10_slipped, Cond.instanceMethod yX10_slipped, Cond.selects RX10 yX10_slipped yX10_slipped, Cond.code yX10_slipped cX10_slipped 5 (some .int), Cond.methodLink RX10 91 yX10_signAt, Cond.instanceMethod yX10_signAt, Cond.selects RX10 yX10_signAt yX10_signAt, Cond.code yX10_signAt cX10_signAt 3 (some .int), Cond.methodLink RX10 142 yX10_with, Cond.instanceMethod yX10_with, Cond.selects RX10 yX10_with yX10_with, Cond.code yX10_with cX10_with 4 (some .int), Cond.methodLink RX10 178 yX10_slipTo, Cond.instanceMethod yX10_slipTo, Cond.selects RX10 yX10_slipTo yX10_slipTo, Cond.code yX10_slipTo cX10_slipTo 4 (some .int)]
def wsX10_far : List Cond := .code yX10_far cX10_far 6 (some .int) :: ((wsX10_far_r1 ++ (wsX10_far_r2 ++ wsX10_far_r3)) ++ wsX100)
def wsX10_who_r1 : List Cond := [Cond.constantLong RX10 181 (30), Cond.fieldLink RX10 7 "LastMapModel" "maps" "[I", Cond.fieldLink RX10 13 "LastMapModel" "kinds" "[I", Cond.methodLink RX10 124 yX10_isMap, Cond.static yX10_isMap, Cond.initialized RX10, Cond.code yX10_isMap cX10_isMap 1 (some .boolean), Cond.constantLong RX10 83 (5), Cond.methodLink RX10 79 yX10_in, Cond.static yX10_in, Cond.code yX10_in cX10_in 6 (some .boolean), Cond.methodLink RX10 131 yX10_isTold, Cond.instanceMethod yX10_isTold, Cond.selects RX10 yX10_isTold yX10_isTold, Cond.code yX10_isTold cX10_isTold 2 (some .boolean), Cond.fieldLink RX10 70 "LastMapModel" "told" "I", Cond.methodLink RX10 175 yX10_farOf, Cond.instanceMethod yX10_farOf, Cond.selects RX10 yX10_farOf yX10_farOf, Cond.code yX10_farOf cX10_farOf 4 (some .int), Cond.fieldLink RX10 28 "LastMapModel" "depth" "[I", Cond.methodLink RX10 171 yX10_goFrom, Cond.instanceMethod yX10_goFrom, Cond.selects RX10 yX10_goFrom yX10_goFrom]
def wsX10_who_r2 : List Cond := [Cond.code yX10_goFrom cX10_goFrom 10 none, Cond.fieldLink RX10 25 "LastMapModel" "queue" "[I", Cond.fieldLink RX10 158 "LastMapModel" "come" "I", Cond.fieldLink RX10 31 "LastMapModel" "by" "[I", Cond.fieldLink RX10 34 "LastMapModel" "from" "[I", Cond.methodLink RX10 155 yX10_all, Cond.instanceMethod yX10_all, Cond.selects RX10 yX10_all yX10_all, Cond.code yX10_all cX10_all 1 (some .int), Cond.fieldLink RX10 16 "LastMapModel" "part" "[I", Cond.methodLink RX10 161 yX10_slipsThere, Cond.instanceMethod yX10_slipsThere, Cond.selects RX10 yX10_slipsThere yX10_slipsThere, Cond.code yX10_slipsThere cX10_slipsThere 1 (some .int), Cond.fieldLink RX10 67 "LastMapModel" "sites" "I", Cond.methodLink RX10 164 yX10_slipAt, Cond.instanceMethod yX10_slipAt, Cond.selects RX10 yX10_slipAt yX10_slipAt, Cond.code yX10_slipAt cX10_slipAt 4 (some .int), Cond.methodLink RX10 167 yX10_makes, Cond.static yX10_makes, Cond.code yX10_makes cX10_makes 2 (some .boolean), Cond.methodLink RX10 152 yX10_slipped, Cond.instanceMethod yX10_slipped]
def wsX10_who_r3 : List Cond := [Cond.selects RX10 yX10_slipped yX10_slipped, Cond.code yX10_slipped cX10_slipped 5 (some .int), Cond.methodLink RX10 91 yX10_signAt, Cond.instanceMethod yX10_signAt, Cond.selects RX10 yX10_signAt yX10_signAt, Cond.code yX10_signAt cX10_signAt 3 (some .int), Cond.methodLink RX10 142 yX10_with, Cond.instanceMethod yX10_with, Cond.selects RX10 yX10_with yX10_with, Cond.code yX10_with cX10_with 4 (some .int)]
def wsX10_who : List Cond := .code yX10_who cX10_who 7 (some .int) :: ((wsX10_who_r1 ++ (wsX10_who_r2 ++ wsX10_who_r3)) ++ wsX100)
def wsX10_between_r1 : List Cond := [Cond.constantLong RX10 183 (9), Cond.fieldLink RX10 7 "LastMapModel" "maps" "[I", Cond.fieldLink RX10 13 "LastMapModel" "kinds" "[I", Cond.methodLink RX10 124 yX10_isMap, Cond.static yX10_isMap, Cond.initialized RX10, Cond.code yX10_isMap cX10_isMap 1 (some .boolean), Cond.constantLong RX10 83 (5), Cond.methodLink RX10 79 yX10_in, Cond.static yX10_in, Cond.code yX10_in cX10_in 6 (some .boolean), Cond.methodLink RX10 137 yX10_isHand, Cond.static yX10_isHand, Cond.code yX10_isHand cX10_isHand 1 (some .boolean), Cond.constantLong RX10 85 (3), Cond.methodLink RX10 131 yX10_isTold, Cond.instanceMethod yX10_isTold, Cond.selects RX10 yX10_isTold yX10_isTold, Cond.code yX10_isTold cX10_isTold 2 (some .boolean), Cond.fieldLink RX10 70 "LastMapModel" "told" "I", Cond.methodLink RX10 175 yX10_farOf, Cond.instanceMethod yX10_farOf, Cond.selects RX10 yX10_farOf yX10_farOf, Cond.code yX10_farOf cX10_farOf 4 (some .int)]
def wsX10_between_r2 : List Cond := [Cond.fieldLink RX10 28 "LastMapModel" "depth" "[I", Cond.methodLink RX10 171 yX10_goFrom, Cond.instanceMethod yX10_goFrom, Cond.selects RX10 yX10_goFrom yX10_goFrom, Cond.code yX10_goFrom cX10_goFrom 10 none, Cond.fieldLink RX10 25 "LastMapModel" "queue" "[I", Cond.fieldLink RX10 158 "LastMapModel" "come" "I", Cond.fieldLink RX10 31 "LastMapModel" "by" "[I", Cond.fieldLink RX10 34 "LastMapModel" "from" "[I", Cond.methodLink RX10 155 yX10_all, Cond.instanceMethod yX10_all, Cond.selects RX10 yX10_all yX10_all, Cond.code yX10_all cX10_all 1 (some .int), Cond.fieldLink RX10 16 "LastMapModel" "part" "[I", Cond.methodLink RX10 161 yX10_slipsThere, Cond.instanceMethod yX10_slipsThere, Cond.selects RX10 yX10_slipsThere yX10_slipsThere, Cond.code yX10_slipsThere cX10_slipsThere 1 (some .int), Cond.fieldLink RX10 67 "LastMapModel" "sites" "I", Cond.methodLink RX10 164 yX10_slipAt, Cond.instanceMethod yX10_slipAt, Cond.selects RX10 yX10_slipAt yX10_slipAt, Cond.code yX10_slipAt cX10_slipAt 4 (some .int), Cond.methodLink RX10 167 yX10_makes]
def wsX10_between_r3 : List Cond := [Cond.static yX10_makes, Cond.code yX10_makes cX10_makes 2 (some .boolean), Cond.methodLink RX10 152 yX10_slipped, Cond.instanceMethod yX10_slipped, Cond.selects RX10 yX10_slipped yX10_slipped, Cond.code yX10_slipped cX10_slipped 5 (some .int), Cond.methodLink RX10 91 yX10_signAt, Cond.instanceMethod yX10_signAt, Cond.selects RX10 yX10_signAt yX10_signAt, Cond.code yX10_signAt cX10_signAt 3 (some .int), Cond.methodLink RX10 142 yX10_with, Cond.instanceMethod yX10_with, Cond.selects RX10 yX10_with yX10_with, Cond.code yX10_with cX10_with 4 (some .int)]
def wsX10_between : List Cond := .code yX10_between cX10_between 6 (some .int) :: ((wsX10_between_r1 ++ (wsX10_between_r2 ++ wsX10_between_r3)) ++ wsX100)
def wsX10_areTold : List Cond := .code yX10_areTold cX10_areTold 2 (some .boolean) :: ([.fieldLink RX10 70 "LastMapModel" "told" "I"] ++ wsX100)
def wsX10_findOffs_r1 : List Cond := [Cond.fieldLink RX10 7 "LastMapModel" "maps" "[I", Cond.fieldLink RX10 13 "LastMapModel" "kinds" "[I", Cond.fieldLink RX10 37 "LastMapModel" "offOf" "[I", Cond.fieldLink RX10 28 "LastMapModel" "depth" "[I", Cond.methodLink RX10 171 yX10_goFrom, Cond.instanceMethod yX10_goFrom, Cond.selects RX10 yX10_goFrom yX10_goFrom, Cond.initialized RX10, Cond.code yX10_goFrom cX10_goFrom 10 none, Cond.fieldLink RX10 25 "LastMapModel" "queue" "[I", Cond.fieldLink RX10 158 "LastMapModel" "come" "I", Cond.fieldLink RX10 31 "LastMapModel" "by" "[I", Cond.fieldLink RX10 34 "LastMapModel" "from" "[I", Cond.methodLink RX10 155 yX10_all, Cond.instanceMethod yX10_all, Cond.selects RX10 yX10_all yX10_all, Cond.code yX10_all cX10_all 1 (some .int), Cond.fieldLink RX10 16 "LastMapModel" "part" "[I", Cond.methodLink RX10 161 yX10_slipsThere, Cond.instanceMethod yX10_slipsThere, Cond.selects RX10 yX10_slipsThere yX10_slipsThere, Cond.code yX10_slipsThere cX10_slipsThere 1 (some .int), Cond.fieldLink RX10 67 "LastMapModel" "sites" "I", Cond.methodLink RX10 164 yX10_slipAt]
def wsX10_findOffs_r2 : List Cond := [Cond.instanceMethod yX10_slipAt, Cond.selects RX10 yX10_slipAt yX10_slipAt, Cond.code yX10_slipAt cX10_slipAt 4 (some .int), Cond.methodLink RX10 167 yX10_makes, Cond.static yX10_makes, Cond.code yX10_makes cX10_makes 2 (some .boolean), Cond.methodLink RX10 152 yX10_slipped, Cond.instanceMethod yX10_slipped, Cond.selects RX10 yX10_slipped yX10_slipped, Cond.code yX10_slipped cX10_slipped 5 (some .int), Cond.methodLink RX10 91 yX10_signAt, Cond.instanceMethod yX10_signAt, Cond.selects RX10 yX10_signAt yX10_signAt, Cond.code yX10_signAt cX10_signAt 3 (some .int), Cond.methodLink RX10 142 yX10_with, Cond.instanceMethod yX10_with, Cond.selects RX10 yX10_with yX10_with, Cond.code yX10_with cX10_with 4 (some .int)]
def wsX10_findOffs : List Cond := .code yX10_findOffs cX10_findOffs 5 none :: ((wsX10_findOffs_r1 ++ wsX10_findOffs_r2) ++ wsX100)
def wsX10_noRounds : List Cond := .code yX10_noRounds cX10_noRounds 6 (some .boolean) :: ([.fieldLink RX10 40 "LastMapModel" "parent" "[I"] ++ wsX100)
def wsX10_layTree : List Cond := .code yX10_layTree cX10_layTree 8 (some .boolean) :: ([.fieldLink RX10 40 "LastMapModel" "parent" "[I", .fieldLink RX10 37 "LastMapModel" "offOf" "[I", .methodLink RX10 185 yX10_noRounds, .instanceMethod yX10_noRounds, .selects RX10 yX10_noRounds yX10_noRounds, .initialized RX10, .code yX10_noRounds cX10_noRounds 6 (some .boolean)] ++ wsX100)
def wsX10_sumOfTree : List Cond := .code yX10_sumOfTree cX10_sumOfTree 4 (some .int) :: ([.fieldLink RX10 40 "LastMapModel" "parent" "[I", .fieldLink RX10 37 "LastMapModel" "offOf" "[I"] ++ wsX100)
def wsX10_findTrees_r1 : List Cond := [Cond.fieldLink RX10 191 "LastMapModel" "trees" "I", Cond.fieldLink RX10 194 "LastMapModel" "least" "I", Cond.fieldLink RX10 43 "LastMapModel" "best" "[I", Cond.fieldLink RX10 40 "LastMapModel" "parent" "[I", Cond.methodLink RX10 188 yX10_findOffs, Cond.instanceMethod yX10_findOffs, Cond.selects RX10 yX10_findOffs yX10_findOffs, Cond.initialized RX10, Cond.code yX10_findOffs cX10_findOffs 5 none, Cond.fieldLink RX10 7 "LastMapModel" "maps" "[I", Cond.fieldLink RX10 13 "LastMapModel" "kinds" "[I", Cond.fieldLink RX10 37 "LastMapModel" "offOf" "[I", Cond.fieldLink RX10 28 "LastMapModel" "depth" "[I", Cond.methodLink RX10 171 yX10_goFrom, Cond.instanceMethod yX10_goFrom, Cond.selects RX10 yX10_goFrom yX10_goFrom, Cond.code yX10_goFrom cX10_goFrom 10 none, Cond.fieldLink RX10 25 "LastMapModel" "queue" "[I", Cond.fieldLink RX10 158 "LastMapModel" "come" "I", Cond.fieldLink RX10 31 "LastMapModel" "by" "[I", Cond.fieldLink RX10 34 "LastMapModel" "from" "[I", Cond.methodLink RX10 155 yX10_all, Cond.instanceMethod yX10_all, Cond.selects RX10 yX10_all yX10_all]
def wsX10_findTrees_r2 : List Cond := [Cond.code yX10_all cX10_all 1 (some .int), Cond.fieldLink RX10 16 "LastMapModel" "part" "[I", Cond.methodLink RX10 161 yX10_slipsThere, Cond.instanceMethod yX10_slipsThere, Cond.selects RX10 yX10_slipsThere yX10_slipsThere, Cond.code yX10_slipsThere cX10_slipsThere 1 (some .int), Cond.fieldLink RX10 67 "LastMapModel" "sites" "I", Cond.methodLink RX10 164 yX10_slipAt, Cond.instanceMethod yX10_slipAt, Cond.selects RX10 yX10_slipAt yX10_slipAt, Cond.code yX10_slipAt cX10_slipAt 4 (some .int), Cond.methodLink RX10 167 yX10_makes, Cond.static yX10_makes, Cond.code yX10_makes cX10_makes 2 (some .boolean), Cond.methodLink RX10 152 yX10_slipped, Cond.instanceMethod yX10_slipped, Cond.selects RX10 yX10_slipped yX10_slipped, Cond.code yX10_slipped cX10_slipped 5 (some .int), Cond.methodLink RX10 91 yX10_signAt, Cond.instanceMethod yX10_signAt, Cond.selects RX10 yX10_signAt yX10_signAt, Cond.code yX10_signAt cX10_signAt 3 (some .int), Cond.methodLink RX10 142 yX10_with, Cond.instanceMethod yX10_with]
def wsX10_findTrees_r3 : List Cond := [Cond.selects RX10 yX10_with yX10_with, Cond.code yX10_with cX10_with 4 (some .int), Cond.methodLink RX10 197 yX10_layTree, Cond.instanceMethod yX10_layTree, Cond.selects RX10 yX10_layTree yX10_layTree, Cond.code yX10_layTree cX10_layTree 8 (some .boolean), Cond.methodLink RX10 185 yX10_noRounds, Cond.instanceMethod yX10_noRounds, Cond.selects RX10 yX10_noRounds yX10_noRounds, Cond.code yX10_noRounds cX10_noRounds 6 (some .boolean), Cond.methodLink RX10 200 yX10_sumOfTree, Cond.instanceMethod yX10_sumOfTree, Cond.selects RX10 yX10_sumOfTree yX10_sumOfTree, Cond.code yX10_sumOfTree cX10_sumOfTree 4 (some .int)]
def wsX10_findTrees : List Cond := .code yX10_findTrees cX10_findTrees 7 none :: ((wsX10_findTrees_r1 ++ (wsX10_findTrees_r2 ++ wsX10_findTrees_r3)) ++ wsX100)
def wsX10_tree_r1 : List Cond := [Cond.constantLong RX10 203 (63), Cond.fieldLink RX10 191 "LastMapModel" "trees" "I", Cond.fieldLink RX10 194 "LastMapModel" "least" "I", Cond.fieldLink RX10 43 "LastMapModel" "best" "[I", Cond.methodLink RX10 137 yX10_isHand, Cond.static yX10_isHand, Cond.initialized RX10, Cond.code yX10_isHand cX10_isHand 1 (some .boolean), Cond.constantLong RX10 85 (3), Cond.methodLink RX10 79 yX10_in, Cond.static yX10_in, Cond.code yX10_in cX10_in 6 (some .boolean), Cond.methodLink RX10 124 yX10_isMap, Cond.static yX10_isMap, Cond.code yX10_isMap cX10_isMap 1 (some .boolean), Cond.constantLong RX10 83 (5), Cond.methodLink RX10 205 yX10_areTold, Cond.instanceMethod yX10_areTold, Cond.selects RX10 yX10_areTold yX10_areTold, Cond.code yX10_areTold cX10_areTold 2 (some .boolean), Cond.fieldLink RX10 70 "LastMapModel" "told" "I", Cond.methodLink RX10 208 yX10_findTrees, Cond.instanceMethod yX10_findTrees, Cond.selects RX10 yX10_findTrees yX10_findTrees]
def wsX10_tree_r2 : List Cond := [Cond.code yX10_findTrees cX10_findTrees 7 none, Cond.fieldLink RX10 40 "LastMapModel" "parent" "[I", Cond.methodLink RX10 188 yX10_findOffs, Cond.instanceMethod yX10_findOffs, Cond.selects RX10 yX10_findOffs yX10_findOffs, Cond.code yX10_findOffs cX10_findOffs 5 none, Cond.fieldLink RX10 7 "LastMapModel" "maps" "[I", Cond.fieldLink RX10 13 "LastMapModel" "kinds" "[I", Cond.fieldLink RX10 37 "LastMapModel" "offOf" "[I", Cond.fieldLink RX10 28 "LastMapModel" "depth" "[I", Cond.methodLink RX10 171 yX10_goFrom, Cond.instanceMethod yX10_goFrom, Cond.selects RX10 yX10_goFrom yX10_goFrom, Cond.code yX10_goFrom cX10_goFrom 10 none, Cond.fieldLink RX10 25 "LastMapModel" "queue" "[I", Cond.fieldLink RX10 158 "LastMapModel" "come" "I", Cond.fieldLink RX10 31 "LastMapModel" "by" "[I", Cond.fieldLink RX10 34 "LastMapModel" "from" "[I", Cond.methodLink RX10 155 yX10_all, Cond.instanceMethod yX10_all, Cond.selects RX10 yX10_all yX10_all, Cond.code yX10_all cX10_all 1 (some .int), Cond.fieldLink RX10 16 "LastMapModel" "part" "[I", Cond.methodLink RX10 161 yX10_slipsThere]
def wsX10_tree_r3 : List Cond := [Cond.instanceMethod yX10_slipsThere, Cond.selects RX10 yX10_slipsThere yX10_slipsThere, Cond.code yX10_slipsThere cX10_slipsThere 1 (some .int), Cond.fieldLink RX10 67 "LastMapModel" "sites" "I", Cond.methodLink RX10 164 yX10_slipAt, Cond.instanceMethod yX10_slipAt, Cond.selects RX10 yX10_slipAt yX10_slipAt, Cond.code yX10_slipAt cX10_slipAt 4 (some .int), Cond.methodLink RX10 167 yX10_makes, Cond.static yX10_makes, Cond.code yX10_makes cX10_makes 2 (some .boolean), Cond.methodLink RX10 152 yX10_slipped, Cond.instanceMethod yX10_slipped, Cond.selects RX10 yX10_slipped yX10_slipped, Cond.code yX10_slipped cX10_slipped 5 (some .int), Cond.methodLink RX10 91 yX10_signAt, Cond.instanceMethod yX10_signAt, Cond.selects RX10 yX10_signAt yX10_signAt, Cond.code yX10_signAt cX10_signAt 3 (some .int), Cond.methodLink RX10 142 yX10_with, Cond.instanceMethod yX10_with, Cond.selects RX10 yX10_with yX10_with, Cond.code yX10_with cX10_with 4 (some .int), Cond.methodLink RX10 197 yX10_layTree]
def wsX10_tree_r4 : List Cond := [Cond.instanceMethod yX10_layTree, Cond.selects RX10 yX10_layTree yX10_layTree, Cond.code yX10_layTree cX10_layTree 8 (some .boolean), Cond.methodLink RX10 185 yX10_noRounds, Cond.instanceMethod yX10_noRounds, Cond.selects RX10 yX10_noRounds yX10_noRounds, Cond.code yX10_noRounds cX10_noRounds 6 (some .boolean), Cond.methodLink RX10 200 yX10_sumOfTree, Cond.instanceMethod yX10_sumOfTree, Cond.selects RX10 yX10_sumOfTree yX10_sumOfTree, Cond.code yX10_sumOfTree cX10_sumOfTree 4 (some .int)]
def wsX10_tree : List Cond := .code yX10_tree cX10_tree 5 (some .int) :: ((wsX10_tree_r1 ++ (wsX10_tree_r2 ++ (wsX10_tree_r3 ++ wsX10_tree_r4))) ++ wsX100)
def wsX10_leadsTo_r1 : List Cond := [Cond.fieldLink RX10 49 "LastMapModel" "toward" "[I", Cond.methodLink RX10 161 yX10_slipsThere, Cond.instanceMethod yX10_slipsThere, Cond.selects RX10 yX10_slipsThere yX10_slipsThere, Cond.initialized RX10, Cond.code yX10_slipsThere cX10_slipsThere 1 (some .int), Cond.fieldLink RX10 67 "LastMapModel" "sites" "I", Cond.methodLink RX10 164 yX10_slipAt, Cond.instanceMethod yX10_slipAt, Cond.selects RX10 yX10_slipAt yX10_slipAt, Cond.code yX10_slipAt cX10_slipAt 4 (some .int), Cond.methodLink RX10 167 yX10_makes, Cond.static yX10_makes, Cond.code yX10_makes cX10_makes 2 (some .boolean), Cond.methodLink RX10 152 yX10_slipped, Cond.instanceMethod yX10_slipped, Cond.selects RX10 yX10_slipped yX10_slipped, Cond.code yX10_slipped cX10_slipped 5 (some .int), Cond.methodLink RX10 91 yX10_signAt, Cond.instanceMethod yX10_signAt, Cond.selects RX10 yX10_signAt yX10_signAt, Cond.code yX10_signAt cX10_signAt 3 (some .int), Cond.fieldLink RX10 16 "LastMapModel" "part" "[I", Cond.methodLink RX10 142 yX10_with]
def wsX10_leadsTo_r2 : List Cond := [Cond.instanceMethod yX10_with, Cond.selects RX10 yX10_with yX10_with, Cond.code yX10_with cX10_with 4 (some .int)]
def wsX10_leadsTo : List Cond := .code yX10_leadsTo cX10_leadsTo 7 (some .boolean) :: ((wsX10_leadsTo_r1 ++ wsX10_leadsTo_r2) ++ wsX100)
def wsX10_findToward_r1 : List Cond := [Cond.fieldLink RX10 49 "LastMapModel" "toward" "[I", Cond.methodLink RX10 155 yX10_all, Cond.instanceMethod yX10_all, Cond.selects RX10 yX10_all yX10_all, Cond.initialized RX10, Cond.code yX10_all cX10_all 1 (some .int), Cond.fieldLink RX10 16 "LastMapModel" "part" "[I", Cond.methodLink RX10 211 yX10_leadsTo, Cond.instanceMethod yX10_leadsTo, Cond.selects RX10 yX10_leadsTo yX10_leadsTo, Cond.code yX10_leadsTo cX10_leadsTo 7 (some .boolean), Cond.methodLink RX10 161 yX10_slipsThere, Cond.instanceMethod yX10_slipsThere, Cond.selects RX10 yX10_slipsThere yX10_slipsThere, Cond.code yX10_slipsThere cX10_slipsThere 1 (some .int), Cond.fieldLink RX10 67 "LastMapModel" "sites" "I", Cond.methodLink RX10 164 yX10_slipAt, Cond.instanceMethod yX10_slipAt, Cond.selects RX10 yX10_slipAt yX10_slipAt, Cond.code yX10_slipAt cX10_slipAt 4 (some .int), Cond.methodLink RX10 167 yX10_makes, Cond.static yX10_makes, Cond.code yX10_makes cX10_makes 2 (some .boolean), Cond.methodLink RX10 152 yX10_slipped]
def wsX10_findToward_r2 : List Cond := [Cond.instanceMethod yX10_slipped, Cond.selects RX10 yX10_slipped yX10_slipped, Cond.code yX10_slipped cX10_slipped 5 (some .int), Cond.methodLink RX10 91 yX10_signAt, Cond.instanceMethod yX10_signAt, Cond.selects RX10 yX10_signAt yX10_signAt, Cond.code yX10_signAt cX10_signAt 3 (some .int), Cond.methodLink RX10 142 yX10_with, Cond.instanceMethod yX10_with, Cond.selects RX10 yX10_with yX10_with, Cond.code yX10_with cX10_with 4 (some .int)]
def wsX10_findToward : List Cond := .code yX10_findToward cX10_findToward 7 none :: ((wsX10_findToward_r1 ++ wsX10_findToward_r2) ++ wsX100)
def wsX10_lost_r1 : List Cond := [Cond.constantLong RX10 203 (63), Cond.fieldLink RX10 46 "LastMapModel" "sums" "[I", Cond.fieldLink RX10 7 "LastMapModel" "maps" "[I", Cond.fieldLink RX10 13 "LastMapModel" "kinds" "[I", Cond.fieldLink RX10 49 "LastMapModel" "toward" "[I", Cond.methodLink RX10 137 yX10_isHand, Cond.static yX10_isHand, Cond.initialized RX10, Cond.code yX10_isHand cX10_isHand 1 (some .boolean), Cond.constantLong RX10 85 (3), Cond.methodLink RX10 79 yX10_in, Cond.static yX10_in, Cond.code yX10_in cX10_in 6 (some .boolean), Cond.methodLink RX10 205 yX10_areTold, Cond.instanceMethod yX10_areTold, Cond.selects RX10 yX10_areTold yX10_areTold, Cond.code yX10_areTold cX10_areTold 2 (some .boolean), Cond.fieldLink RX10 70 "LastMapModel" "told" "I", Cond.methodLink RX10 155 yX10_all, Cond.instanceMethod yX10_all, Cond.selects RX10 yX10_all yX10_all, Cond.code yX10_all cX10_all 1 (some .int), Cond.fieldLink RX10 16 "LastMapModel" "part" "[I", Cond.methodLink RX10 215 yX10_findToward]
def wsX10_lost_r2 : List Cond := [Cond.instanceMethod yX10_findToward, Cond.selects RX10 yX10_findToward yX10_findToward, Cond.code yX10_findToward cX10_findToward 7 none, Cond.methodLink RX10 211 yX10_leadsTo, Cond.instanceMethod yX10_leadsTo, Cond.selects RX10 yX10_leadsTo yX10_leadsTo, Cond.code yX10_leadsTo cX10_leadsTo 7 (some .boolean), Cond.methodLink RX10 161 yX10_slipsThere, Cond.instanceMethod yX10_slipsThere, Cond.selects RX10 yX10_slipsThere yX10_slipsThere, Cond.code yX10_slipsThere cX10_slipsThere 1 (some .int), Cond.fieldLink RX10 67 "LastMapModel" "sites" "I", Cond.methodLink RX10 164 yX10_slipAt, Cond.instanceMethod yX10_slipAt, Cond.selects RX10 yX10_slipAt yX10_slipAt, Cond.code yX10_slipAt cX10_slipAt 4 (some .int), Cond.methodLink RX10 167 yX10_makes, Cond.static yX10_makes, Cond.code yX10_makes cX10_makes 2 (some .boolean), Cond.methodLink RX10 152 yX10_slipped, Cond.instanceMethod yX10_slipped, Cond.selects RX10 yX10_slipped yX10_slipped, Cond.code yX10_slipped cX10_slipped 5 (some .int), Cond.methodLink RX10 91 yX10_signAt]
def wsX10_lost_r3 : List Cond := [Cond.instanceMethod yX10_signAt, Cond.selects RX10 yX10_signAt yX10_signAt, Cond.code yX10_signAt cX10_signAt 3 (some .int), Cond.methodLink RX10 142 yX10_with, Cond.instanceMethod yX10_with, Cond.selects RX10 yX10_with yX10_with, Cond.code yX10_with cX10_with 4 (some .int), Cond.methodLink RX10 128 yX10_isSite, Cond.instanceMethod yX10_isSite, Cond.selects RX10 yX10_isSite yX10_isSite, Cond.code yX10_isSite cX10_isSite 2 (some .boolean), Cond.methodLink RX10 134 yX10_codeOf, Cond.static yX10_codeOf, Cond.code yX10_codeOf cX10_codeOf 1 (some .int)]
def wsX10_lost : List Cond := .code yX10_lost cX10_lost 7 (some .int) :: ((wsX10_lost_r1 ++ (wsX10_lost_r2 ++ wsX10_lost_r3)) ++ wsX100)
def wsX10_isWished : List Cond := .code yX10_isWished cX10_isWished 7 (some .boolean) :: ([.fieldLink RX10 67 "LastMapModel" "sites" "I", .fieldLink RX10 19 "LastMapModel" "pad" "[I", .methodLink RX10 91 yX10_signAt, .instanceMethod yX10_signAt, .selects RX10 yX10_signAt yX10_signAt, .initialized RX10, .code yX10_signAt cX10_signAt 3 (some .int), .fieldLink RX10 16 "LastMapModel" "part" "[I", .methodLink RX10 106 yX10_signOf, .static yX10_signOf, .code yX10_signOf cX10_signOf 1 (some .int), .constantLong RX10 95 (97), .constantLong RX10 97 (100), .methodLink RX10 79 yX10_in, .static yX10_in, .code yX10_in cX10_in 6 (some .boolean)] ++ wsX100)
def wsX10_wished_r1 : List Cond := [Cond.fieldLink RX10 67 "LastMapModel" "sites" "I", Cond.fieldLink RX10 7 "LastMapModel" "maps" "[I", Cond.fieldLink RX10 13 "LastMapModel" "kinds" "[I", Cond.fieldLink RX10 158 "LastMapModel" "come" "I", Cond.fieldLink RX10 25 "LastMapModel" "queue" "[I", Cond.fieldLink RX10 28 "LastMapModel" "depth" "[I", Cond.methodLink RX10 124 yX10_isMap, Cond.static yX10_isMap, Cond.initialized RX10, Cond.code yX10_isMap cX10_isMap 1 (some .boolean), Cond.constantLong RX10 83 (5), Cond.methodLink RX10 79 yX10_in, Cond.static yX10_in, Cond.code yX10_in cX10_in 6 (some .boolean), Cond.methodLink RX10 137 yX10_isHand, Cond.static yX10_isHand, Cond.code yX10_isHand cX10_isHand 1 (some .boolean), Cond.constantLong RX10 85 (3), Cond.methodLink RX10 131 yX10_isTold, Cond.instanceMethod yX10_isTold, Cond.selects RX10 yX10_isTold yX10_isTold, Cond.code yX10_isTold cX10_isTold 2 (some .boolean), Cond.fieldLink RX10 70 "LastMapModel" "told" "I", Cond.methodLink RX10 116 yX10_faultOfMap]
def wsX10_wished_r2 : List Cond := [Cond.instanceMethod yX10_faultOfMap, Cond.selects RX10 yX10_faultOfMap yX10_faultOfMap, Cond.code yX10_faultOfMap cX10_faultOfMap 4 (some .int), Cond.fieldLink RX10 103 "LastMapModel" "padMany" "I", Cond.fieldLink RX10 19 "LastMapModel" "pad" "[I", Cond.methodLink RX10 106 yX10_signOf, Cond.static yX10_signOf, Cond.code yX10_signOf cX10_signOf 1 (some .int), Cond.constantLong RX10 95 (97), Cond.constantLong RX10 97 (100), Cond.methodLink RX10 171 yX10_goFrom, Cond.instanceMethod yX10_goFrom, Cond.selects RX10 yX10_goFrom yX10_goFrom, Cond.code yX10_goFrom cX10_goFrom 10 none, Cond.fieldLink RX10 31 "LastMapModel" "by" "[I", Cond.fieldLink RX10 34 "LastMapModel" "from" "[I", Cond.methodLink RX10 155 yX10_all, Cond.instanceMethod yX10_all, Cond.selects RX10 yX10_all yX10_all, Cond.code yX10_all cX10_all 1 (some .int), Cond.fieldLink RX10 16 "LastMapModel" "part" "[I", Cond.methodLink RX10 161 yX10_slipsThere, Cond.instanceMethod yX10_slipsThere, Cond.selects RX10 yX10_slipsThere yX10_slipsThere]
def wsX10_wished_r3 : List Cond := [Cond.code yX10_slipsThere cX10_slipsThere 1 (some .int), Cond.methodLink RX10 164 yX10_slipAt, Cond.instanceMethod yX10_slipAt, Cond.selects RX10 yX10_slipAt yX10_slipAt, Cond.code yX10_slipAt cX10_slipAt 4 (some .int), Cond.methodLink RX10 167 yX10_makes, Cond.static yX10_makes, Cond.code yX10_makes cX10_makes 2 (some .boolean), Cond.methodLink RX10 152 yX10_slipped, Cond.instanceMethod yX10_slipped, Cond.selects RX10 yX10_slipped yX10_slipped, Cond.code yX10_slipped cX10_slipped 5 (some .int), Cond.methodLink RX10 91 yX10_signAt, Cond.instanceMethod yX10_signAt, Cond.selects RX10 yX10_signAt yX10_signAt, Cond.code yX10_signAt cX10_signAt 3 (some .int), Cond.methodLink RX10 142 yX10_with, Cond.instanceMethod yX10_with, Cond.selects RX10 yX10_with yX10_with, Cond.code yX10_with cX10_with 4 (some .int), Cond.methodLink RX10 218 yX10_isWished, Cond.instanceMethod yX10_isWished, Cond.selects RX10 yX10_isWished yX10_isWished, Cond.code yX10_isWished cX10_isWished 7 (some .boolean)]
def wsX10_wished_r4 : List Cond := [Cond.methodLink RX10 178 yX10_slipTo, Cond.instanceMethod yX10_slipTo, Cond.selects RX10 yX10_slipTo yX10_slipTo, Cond.code yX10_slipTo cX10_slipTo 4 (some .int)]
def wsX10_wished : List Cond := .code yX10_wished cX10_wished 6 (some .int) :: ((wsX10_wished_r1 ++ (wsX10_wished_r2 ++ (wsX10_wished_r3 ++ wsX10_wished_r4))) ++ wsX100)
def wsX10_mostAt : List Cond := .code yX10_mostAt cX10_mostAt 8 (some .int) :: ([.fieldLink RX10 7 "LastMapModel" "maps" "[I", .methodLink RX10 91 yX10_signAt, .instanceMethod yX10_signAt, .selects RX10 yX10_signAt yX10_signAt, .initialized RX10, .code yX10_signAt cX10_signAt 3 (some .int), .fieldLink RX10 16 "LastMapModel" "part" "[I"] ++ wsX100)
def wsX10_holdsAt : List Cond := .code yX10_holdsAt cX10_holdsAt 6 (some .boolean) :: ([.fieldLink RX10 7 "LastMapModel" "maps" "[I", .methodLink RX10 221 yX10_mostAt, .instanceMethod yX10_mostAt, .selects RX10 yX10_mostAt yX10_mostAt, .initialized RX10, .code yX10_mostAt cX10_mostAt 8 (some .int), .methodLink RX10 91 yX10_signAt, .instanceMethod yX10_signAt, .selects RX10 yX10_signAt yX10_signAt, .code yX10_signAt cX10_signAt 3 (some .int), .fieldLink RX10 16 "LastMapModel" "part" "[I"] ++ wsX100)
def wsX10_holds_r1 : List Cond := [Cond.constantLong RX10 203 (63), Cond.fieldLink RX10 67 "LastMapModel" "sites" "I", Cond.methodLink RX10 128 yX10_isSite, Cond.instanceMethod yX10_isSite, Cond.selects RX10 yX10_isSite yX10_isSite, Cond.initialized RX10, Cond.code yX10_isSite cX10_isSite 2 (some .boolean), Cond.methodLink RX10 79 yX10_in, Cond.static yX10_in, Cond.code yX10_in cX10_in 6 (some .boolean), Cond.methodLink RX10 205 yX10_areTold, Cond.instanceMethod yX10_areTold, Cond.selects RX10 yX10_areTold yX10_areTold, Cond.code yX10_areTold cX10_areTold 2 (some .boolean), Cond.fieldLink RX10 70 "LastMapModel" "told" "I", Cond.methodLink RX10 221 yX10_mostAt, Cond.instanceMethod yX10_mostAt, Cond.selects RX10 yX10_mostAt yX10_mostAt, Cond.code yX10_mostAt cX10_mostAt 8 (some .int), Cond.fieldLink RX10 7 "LastMapModel" "maps" "[I", Cond.methodLink RX10 91 yX10_signAt, Cond.instanceMethod yX10_signAt, Cond.selects RX10 yX10_signAt yX10_signAt, Cond.code yX10_signAt cX10_signAt 3 (some .int)]
def wsX10_holds_r2 : List Cond := [Cond.fieldLink RX10 16 "LastMapModel" "part" "[I", Cond.methodLink RX10 134 yX10_codeOf, Cond.static yX10_codeOf, Cond.code yX10_codeOf cX10_codeOf 1 (some .int), Cond.methodLink RX10 224 yX10_holdsAt, Cond.instanceMethod yX10_holdsAt, Cond.selects RX10 yX10_holdsAt yX10_holdsAt, Cond.code yX10_holdsAt cX10_holdsAt 6 (some .boolean)]
def wsX10_holds : List Cond := .code yX10_holds cX10_holds 5 (some .int) :: ((wsX10_holds_r1 ++ wsX10_holds_r2) ++ wsX100)
def wsX10_spades : List Cond := .code yX10_spades cX10_spades 3 (some .int) :: ([.constantLong RX10 89 (6), .fieldLink RX10 59 "LastMapModel" "spades" "I", .methodLink RX10 79 yX10_in, .static yX10_in, .initialized RX10, .code yX10_in cX10_in 6 (some .boolean)] ++ wsX100)
def wsX10_land : List Cond := .code yX10_land cX10_land 2 (some .int) :: ([.fieldLink RX10 73 "LastMapModel" "land" "I", .methodLink RX10 128 yX10_isSite, .instanceMethod yX10_isSite, .selects RX10 yX10_isSite yX10_isSite, .initialized RX10, .code yX10_isSite cX10_isSite 2 (some .boolean), .fieldLink RX10 67 "LastMapModel" "sites" "I", .methodLink RX10 79 yX10_in, .static yX10_in, .code yX10_in cX10_in 6 (some .boolean), .methodLink RX10 91 yX10_signAt, .instanceMethod yX10_signAt, .selects RX10 yX10_signAt yX10_signAt, .code yX10_signAt cX10_signAt 3 (some .int), .fieldLink RX10 16 "LastMapModel" "part" "[I", .methodLink RX10 134 yX10_codeOf, .static yX10_codeOf, .code yX10_codeOf cX10_codeOf 1 (some .int)] ++ wsX100)
def wsX10_otherThan : List Cond := .code yX10_otherThan cX10_otherThan 5 (some .int) :: ([.fieldLink RX10 67 "LastMapModel" "sites" "I", .methodLink RX10 91 yX10_signAt, .instanceMethod yX10_signAt, .selects RX10 yX10_signAt yX10_signAt, .initialized RX10, .code yX10_signAt cX10_signAt 3 (some .int), .fieldLink RX10 16 "LastMapModel" "part" "[I"] ++ wsX100)
def wsX10_years_r1 : List Cond := [Cond.fieldLink RX10 73 "LastMapModel" "land" "I", Cond.fieldLink RX10 7 "LastMapModel" "maps" "[I", Cond.fieldLink RX10 59 "LastMapModel" "spades" "I", Cond.methodLink RX10 124 yX10_isMap, Cond.static yX10_isMap, Cond.initialized RX10, Cond.code yX10_isMap cX10_isMap 1 (some .boolean), Cond.constantLong RX10 83 (5), Cond.methodLink RX10 79 yX10_in, Cond.static yX10_in, Cond.code yX10_in cX10_in 6 (some .boolean), Cond.methodLink RX10 131 yX10_isTold, Cond.instanceMethod yX10_isTold, Cond.selects RX10 yX10_isTold yX10_isTold, Cond.code yX10_isTold cX10_isTold 2 (some .boolean), Cond.fieldLink RX10 70 "LastMapModel" "told" "I", Cond.methodLink RX10 227 yX10_otherThan, Cond.instanceMethod yX10_otherThan, Cond.selects RX10 yX10_otherThan yX10_otherThan, Cond.code yX10_otherThan cX10_otherThan 5 (some .int), Cond.fieldLink RX10 67 "LastMapModel" "sites" "I", Cond.methodLink RX10 91 yX10_signAt, Cond.instanceMethod yX10_signAt, Cond.selects RX10 yX10_signAt yX10_signAt]
def wsX10_years_r2 : List Cond := [Cond.code yX10_signAt cX10_signAt 3 (some .int), Cond.fieldLink RX10 16 "LastMapModel" "part" "[I"]
def wsX10_years : List Cond := .code yX10_years cX10_years 2 (some .int) :: ((wsX10_years_r1 ++ wsX10_years_r2) ++ wsX100)
def wsX10_follow_r1 : List Cond := [Cond.constantLong RX10 183 (9), Cond.fieldLink RX10 59 "LastMapModel" "spades" "I", Cond.fieldLink RX10 67 "LastMapModel" "sites" "I", Cond.fieldLink RX10 7 "LastMapModel" "maps" "[I", Cond.fieldLink RX10 73 "LastMapModel" "land" "I", Cond.methodLink RX10 124 yX10_isMap, Cond.static yX10_isMap, Cond.initialized RX10, Cond.code yX10_isMap cX10_isMap 1 (some .boolean), Cond.constantLong RX10 83 (5), Cond.methodLink RX10 79 yX10_in, Cond.static yX10_in, Cond.code yX10_in cX10_in 6 (some .boolean), Cond.methodLink RX10 131 yX10_isTold, Cond.instanceMethod yX10_isTold, Cond.selects RX10 yX10_isTold yX10_isTold, Cond.code yX10_isTold cX10_isTold 2 (some .boolean), Cond.fieldLink RX10 70 "LastMapModel" "told" "I", Cond.methodLink RX10 91 yX10_signAt, Cond.instanceMethod yX10_signAt, Cond.selects RX10 yX10_signAt yX10_signAt, Cond.code yX10_signAt cX10_signAt 3 (some .int), Cond.fieldLink RX10 16 "LastMapModel" "part" "[I", Cond.methodLink RX10 142 yX10_with]
def wsX10_follow_r2 : List Cond := [Cond.instanceMethod yX10_with, Cond.selects RX10 yX10_with yX10_with, Cond.code yX10_with cX10_with 4 (some .int), Cond.methodLink RX10 227 yX10_otherThan, Cond.instanceMethod yX10_otherThan, Cond.selects RX10 yX10_otherThan yX10_otherThan, Cond.code yX10_otherThan cX10_otherThan 5 (some .int)]
def wsX10_follow : List Cond := .code yX10_follow cX10_follow 6 (some .int) :: ((wsX10_follow_r1 ++ wsX10_follow_r2) ++ wsX100)
def wsX10_slipsFrom_r1 : List Cond := [Cond.fieldLink RX10 149 "LastMapModel" "made" "I", Cond.methodLink RX10 161 yX10_slipsThere, Cond.instanceMethod yX10_slipsThere, Cond.selects RX10 yX10_slipsThere yX10_slipsThere, Cond.initialized RX10, Cond.code yX10_slipsThere cX10_slipsThere 1 (some .int), Cond.fieldLink RX10 67 "LastMapModel" "sites" "I", Cond.methodLink RX10 164 yX10_slipAt, Cond.instanceMethod yX10_slipAt, Cond.selects RX10 yX10_slipAt yX10_slipAt, Cond.code yX10_slipAt cX10_slipAt 4 (some .int), Cond.methodLink RX10 167 yX10_makes, Cond.static yX10_makes, Cond.code yX10_makes cX10_makes 2 (some .boolean), Cond.methodLink RX10 152 yX10_slipped, Cond.instanceMethod yX10_slipped, Cond.selects RX10 yX10_slipped yX10_slipped, Cond.code yX10_slipped cX10_slipped 5 (some .int), Cond.methodLink RX10 91 yX10_signAt, Cond.instanceMethod yX10_signAt, Cond.selects RX10 yX10_signAt yX10_signAt, Cond.code yX10_signAt cX10_signAt 3 (some .int), Cond.fieldLink RX10 16 "LastMapModel" "part" "[I", Cond.methodLink RX10 142 yX10_with]
def wsX10_slipsFrom_r2 : List Cond := [Cond.instanceMethod yX10_with, Cond.selects RX10 yX10_with yX10_with, Cond.code yX10_with cX10_with 4 (some .int)]
def wsX10_slipsFrom : List Cond := .code yX10_slipsFrom cX10_slipsFrom 8 (some .int) :: ((wsX10_slipsFrom_r1 ++ wsX10_slipsFrom_r2) ++ wsX100)
def wsX10_drawn_r1 : List Cond := [Cond.constantLong RX10 230 (9999), Cond.constantLong RX10 232 (60), Cond.fieldLink RX10 7 "LastMapModel" "maps" "[I", Cond.constantLong RX10 234 (75), Cond.constantLong RX10 236 (74), Cond.constantLong RX10 238 (65537), Cond.fieldLink RX10 13 "LastMapModel" "kinds" "[I", Cond.fieldLink RX10 149 "LastMapModel" "made" "I", Cond.methodLink RX10 124 yX10_isMap, Cond.static yX10_isMap, Cond.initialized RX10, Cond.code yX10_isMap cX10_isMap 1 (some .boolean), Cond.constantLong RX10 83 (5), Cond.methodLink RX10 79 yX10_in, Cond.static yX10_in, Cond.code yX10_in cX10_in 6 (some .boolean), Cond.methodLink RX10 137 yX10_isHand, Cond.static yX10_isHand, Cond.code yX10_isHand cX10_isHand 1 (some .boolean), Cond.constantLong RX10 85 (3), Cond.methodLink RX10 128 yX10_isSite, Cond.instanceMethod yX10_isSite, Cond.selects RX10 yX10_isSite yX10_isSite, Cond.code yX10_isSite cX10_isSite 2 (some .boolean)]
def wsX10_drawn_r2 : List Cond := [Cond.fieldLink RX10 67 "LastMapModel" "sites" "I", Cond.methodLink RX10 131 yX10_isTold, Cond.instanceMethod yX10_isTold, Cond.selects RX10 yX10_isTold yX10_isTold, Cond.code yX10_isTold cX10_isTold 2 (some .boolean), Cond.fieldLink RX10 70 "LastMapModel" "told" "I", Cond.methodLink RX10 240 yX10_slipsFrom, Cond.instanceMethod yX10_slipsFrom, Cond.selects RX10 yX10_slipsFrom yX10_slipsFrom, Cond.code yX10_slipsFrom cX10_slipsFrom 8 (some .int), Cond.methodLink RX10 161 yX10_slipsThere, Cond.instanceMethod yX10_slipsThere, Cond.selects RX10 yX10_slipsThere yX10_slipsThere, Cond.code yX10_slipsThere cX10_slipsThere 1 (some .int), Cond.methodLink RX10 164 yX10_slipAt, Cond.instanceMethod yX10_slipAt, Cond.selects RX10 yX10_slipAt yX10_slipAt, Cond.code yX10_slipAt cX10_slipAt 4 (some .int), Cond.methodLink RX10 167 yX10_makes, Cond.static yX10_makes, Cond.code yX10_makes cX10_makes 2 (some .boolean), Cond.methodLink RX10 152 yX10_slipped, Cond.instanceMethod yX10_slipped, Cond.selects RX10 yX10_slipped yX10_slipped]
def wsX10_drawn_r3 : List Cond := [Cond.code yX10_slipped cX10_slipped 5 (some .int), Cond.methodLink RX10 91 yX10_signAt, Cond.instanceMethod yX10_signAt, Cond.selects RX10 yX10_signAt yX10_signAt, Cond.code yX10_signAt cX10_signAt 3 (some .int), Cond.fieldLink RX10 16 "LastMapModel" "part" "[I", Cond.methodLink RX10 142 yX10_with, Cond.instanceMethod yX10_with, Cond.selects RX10 yX10_with yX10_with, Cond.code yX10_with cX10_with 4 (some .int), Cond.methodLink RX10 227 yX10_otherThan, Cond.instanceMethod yX10_otherThan, Cond.selects RX10 yX10_otherThan yX10_otherThan, Cond.code yX10_otherThan cX10_otherThan 5 (some .int), Cond.methodLink RX10 134 yX10_codeOf, Cond.static yX10_codeOf, Cond.code yX10_codeOf cX10_codeOf 1 (some .int)]
def wsX10_drawn : List Cond := .code yX10_drawn cX10_drawn 10 (some .int) :: ((wsX10_drawn_r1 ++ (wsX10_drawn_r2 ++ wsX10_drawn_r3)) ++ wsX100)
def wsX10_pass : List Cond := .code yX10_pass cX10_pass 3 (some .int) :: ([.fieldLink RX10 243 "LastMapModel" "isWriting" "Z", .fieldLink RX10 52 "LastMapModel" "kept" "[I", .fieldLink RX10 247 "LastMapModel" "keptAt" "I"] ++ wsX100)
def wsX10_passAll : List Cond := .code yX10_passAll cX10_passAll 2 none :: ([.fieldLink RX10 67 "LastMapModel" "sites" "I", .fieldLink RX10 70 "LastMapModel" "told" "I", .fieldLink RX10 73 "LastMapModel" "land" "I", .fieldLink RX10 59 "LastMapModel" "spades" "I", .fieldLink RX10 7 "LastMapModel" "maps" "[I", .fieldLink RX10 13 "LastMapModel" "kinds" "[I", .methodLink RX10 250 yX10_pass, .instanceMethod yX10_pass, .selects RX10 yX10_pass yX10_pass, .initialized RX10, .code yX10_pass cX10_pass 3 (some .int), .fieldLink RX10 243 "LastMapModel" "isWriting" "Z", .fieldLink RX10 52 "LastMapModel" "kept" "[I", .fieldLink RX10 247 "LastMapModel" "keptAt" "I", .methodLink RX10 76 yX10_findParts, .instanceMethod yX10_findParts, .selects RX10 yX10_findParts yX10_findParts, .code yX10_findParts cX10_findParts 3 none, .fieldLink RX10 16 "LastMapModel" "part" "[I"] ++ wsX100)
def wsX10_image_r1 : List Cond := [Cond.fieldLink RX10 247 "LastMapModel" "keptAt" "I", Cond.fieldLink RX10 243 "LastMapModel" "isWriting" "Z", Cond.fieldLink RX10 55 "LastMapModel" "isKept" "[Z", Cond.methodLink RX10 79 yX10_in, Cond.static yX10_in, Cond.initialized RX10, Cond.code yX10_in cX10_in 6 (some .boolean), Cond.methodLink RX10 253 yX10_passAll, Cond.instanceMethod yX10_passAll, Cond.selects RX10 yX10_passAll yX10_passAll, Cond.code yX10_passAll cX10_passAll 2 none, Cond.fieldLink RX10 67 "LastMapModel" "sites" "I", Cond.fieldLink RX10 70 "LastMapModel" "told" "I", Cond.fieldLink RX10 73 "LastMapModel" "land" "I", Cond.fieldLink RX10 59 "LastMapModel" "spades" "I", Cond.fieldLink RX10 7 "LastMapModel" "maps" "[I", Cond.fieldLink RX10 13 "LastMapModel" "kinds" "[I", Cond.methodLink RX10 250 yX10_pass, Cond.instanceMethod yX10_pass, Cond.selects RX10 yX10_pass yX10_pass, Cond.code yX10_pass cX10_pass 3 (some .int), Cond.fieldLink RX10 52 "LastMapModel" "kept" "[I", Cond.methodLink RX10 76 yX10_findParts, Cond.instanceMethod yX10_findParts]
def wsX10_image_r2 : List Cond := [Cond.selects RX10 yX10_findParts yX10_findParts, Cond.code yX10_findParts cX10_findParts 3 none, Cond.fieldLink RX10 16 "LastMapModel" "part" "[I"]
def wsX10_image : List Cond := .code yX10_image cX10_image 2 (some .int) :: ((wsX10_image_r1 ++ wsX10_image_r2) ++ wsX100)
def wsX10_restore_r1 : List Cond := [Cond.fieldLink RX10 55 "LastMapModel" "isKept" "[Z", Cond.fieldLink RX10 247 "LastMapModel" "keptAt" "I", Cond.fieldLink RX10 243 "LastMapModel" "isWriting" "Z", Cond.methodLink RX10 79 yX10_in, Cond.static yX10_in, Cond.initialized RX10, Cond.code yX10_in cX10_in 6 (some .boolean), Cond.methodLink RX10 253 yX10_passAll, Cond.instanceMethod yX10_passAll, Cond.selects RX10 yX10_passAll yX10_passAll, Cond.code yX10_passAll cX10_passAll 2 none, Cond.fieldLink RX10 67 "LastMapModel" "sites" "I", Cond.fieldLink RX10 70 "LastMapModel" "told" "I", Cond.fieldLink RX10 73 "LastMapModel" "land" "I", Cond.fieldLink RX10 59 "LastMapModel" "spades" "I", Cond.fieldLink RX10 7 "LastMapModel" "maps" "[I", Cond.fieldLink RX10 13 "LastMapModel" "kinds" "[I", Cond.methodLink RX10 250 yX10_pass, Cond.instanceMethod yX10_pass, Cond.selects RX10 yX10_pass yX10_pass, Cond.code yX10_pass cX10_pass 3 (some .int), Cond.fieldLink RX10 52 "LastMapModel" "kept" "[I", Cond.methodLink RX10 76 yX10_findParts, Cond.instanceMethod yX10_findParts]
def wsX10_restore_r2 : List Cond := [Cond.selects RX10 yX10_findParts yX10_findParts, Cond.code yX10_findParts cX10_findParts 3 none, Cond.fieldLink RX10 16 "LastMapModel" "part" "[I"]
def wsX10_restore : List Cond := .code yX10_restore cX10_restore 2 (some .int) :: ((wsX10_restore_r1 ++ wsX10_restore_r2) ++ wsX100)
def wsX10_told : List Cond := .code yX10_told cX10_told 2 (some .int) :: ([.constantLong RX10 256 (10), .constantLong RX10 258 (13), .fieldLink RX10 13 "LastMapModel" "kinds" "[I", .fieldLink RX10 103 "LastMapModel" "padMany" "I", .fieldLink RX10 67 "LastMapModel" "sites" "I", .fieldLink RX10 70 "LastMapModel" "told" "I", .fieldLink RX10 59 "LastMapModel" "spades" "I", .methodLink RX10 79 yX10_in, .static yX10_in, .initialized RX10, .code yX10_in cX10_in 6 (some .boolean)] ++ wsX100)
def wsJ9_max_7cf53 : List Cond := .code yJ9_max_7cf53 cJ9_max_7cf53 2 (some .int) :: ([])
def wsL_law_r1 : List Cond := [Cond.classLink RL 7 RX9, Cond.instantiable RX9 5, Cond.initialized RX9, Cond.classLink RL 10 RX10, Cond.instantiable RX10 28, Cond.initialized RX10, Cond.methodLink RL 9 yX9_init, Cond.instanceMethod yX9_init, Cond.code yX9_init cX9_init 1 none, Cond.methodLink RX9 1 objectInit, Cond.instanceMethod objectInit, Cond.code objectInit ⟨#[0xb1]⟩ 1 none, Cond.classLink RX9 7 RX2, Cond.instantiable RX2 3, Cond.initialized RX2, Cond.fieldLink RX9 10 "LastMap" "pad" "LLastMap$Pad;", Cond.classLink RX9 16 RX3, Cond.instantiable RX3 6, Cond.initialized RX3, Cond.fieldLink RX9 19 "LastMap" "papers" "LLastMap$Papers;", Cond.fieldLink RX9 23 "LastMap" "images" "[LLastMap$Papers;", Cond.instanceMethod yX2_init, Cond.code yX2_init cX2_init 1 none, Cond.methodLink RX2 3 objectInit]
def wsL_law_r2 : List Cond := [Cond.arrayClass .int, Cond.fieldLink RX2 9 "LastMap$Pad" "signs" "[I", Cond.fieldLink RX2 15 "LastMap$Pad" "slips" "[I", Cond.instanceMethod yX3_init, Cond.code yX3_init cX3_init 1 none, Cond.methodLink RX3 3 objectInit, Cond.fieldLink RX3 9 "LastMap$Papers" "siteCount" "I", Cond.fieldLink RX3 15 "LastMap$Papers" "spadeCount" "I", Cond.fieldLink RX3 18 "LastMap$Papers" "codes" "[I", Cond.fieldLink RX3 22 "LastMap$Papers" "kinds" "[I", Cond.methodLink RL 12 yX10_init, Cond.instanceMethod yX10_init, Cond.code yX10_init cX10_init 2 none, Cond.methodLink RX10 1 objectInit, Cond.fieldLink RX10 7 "LastMapModel" "maps" "[I", Cond.fieldLink RX10 13 "LastMapModel" "kinds" "[I", Cond.fieldLink RX10 16 "LastMapModel" "part" "[I", Cond.fieldLink RX10 19 "LastMapModel" "pad" "[I", Cond.fieldLink RX10 22 "LastMapModel" "slips" "[I", Cond.fieldLink RX10 25 "LastMapModel" "queue" "[I", Cond.fieldLink RX10 28 "LastMapModel" "depth" "[I", Cond.fieldLink RX10 31 "LastMapModel" "by" "[I", Cond.fieldLink RX10 34 "LastMapModel" "from" "[I", Cond.fieldLink RX10 37 "LastMapModel" "offOf" "[I"]
def wsL_law_r3 : List Cond := [Cond.fieldLink RX10 40 "LastMapModel" "parent" "[I", Cond.fieldLink RX10 43 "LastMapModel" "best" "[I", Cond.fieldLink RX10 46 "LastMapModel" "sums" "[I", Cond.fieldLink RX10 49 "LastMapModel" "toward" "[I", Cond.fieldLink RX10 52 "LastMapModel" "kept" "[I", Cond.arrayClass .boolean, Cond.fieldLink RX10 55 "LastMapModel" "isKept" "[Z", Cond.fieldLink RX10 59 "LastMapModel" "spades" "I", Cond.methodLink RX10 63 yX10_begin, Cond.instanceMethod yX10_begin, Cond.selects RX10 yX10_begin yX10_begin, Cond.code yX10_begin cX10_begin 3 none, Cond.fieldLink RX10 67 "LastMapModel" "sites" "I", Cond.fieldLink RX10 70 "LastMapModel" "told" "I", Cond.fieldLink RX10 73 "LastMapModel" "land" "I", Cond.methodLink RX10 76 yX10_findParts, Cond.instanceMethod yX10_findParts, Cond.selects RX10 yX10_findParts yX10_findParts, Cond.code yX10_findParts cX10_findParts 3 none, Cond.methodLink RL 13 yX9_sites, Cond.instanceMethod yX9_sites, Cond.selects RX9 yX9_sites yX9_sites, Cond.code yX9_sites cX9_sites 3 (some .int), Cond.fieldLink RX9 27 "LastMap$Papers" "siteCount" "I"]
def wsL_law_r4 : List Cond := [Cond.fieldLink RX9 31 "LastMap$Papers" "toldMaps" "I", Cond.fieldLink RX9 34 "LastMap$Papers" "ground" "I", Cond.methodLink RL 17 yX10_sites, Cond.instanceMethod yX10_sites, Cond.selects RX10 yX10_sites yX10_sites, Cond.code yX10_sites cX10_sites 3 (some .int), Cond.constantLong RX10 87 (2), Cond.constantLong RX10 89 (6), Cond.methodLink RX10 79 yX10_in, Cond.static yX10_in, Cond.code yX10_in cX10_in 6 (some .boolean), Cond.methodLink RL 18 yX9_say, Cond.instanceMethod yX9_say, Cond.selects RX9 yX9_say yX9_say, Cond.code yX9_say cX9_say 2 (some .int), Cond.fieldLink RX9 41 "LastMap$Pad" "length" "I", Cond.methodLink RX9 37 yX2_put, Cond.instanceMethod yX2_put, Cond.selects RX2 yX2_put yX2_put, Cond.code yX2_put cX2_put 2 (some .boolean), Cond.fieldLink RX2 18 "LastMap$Pad" "length" "I", Cond.methodLink RL 21 yX10_say, Cond.instanceMethod yX10_say, Cond.selects RX10 yX10_say yX10_say]
def wsL_law_r5 : List Cond := [Cond.code yX10_say cX10_say 2 (some .int), Cond.constantLong RX10 99 (33), Cond.constantLong RX10 101 (126), Cond.fieldLink RX10 103 "LastMapModel" "padMany" "I", Cond.methodLink RL 22 yX9_wipe, Cond.instanceMethod yX9_wipe, Cond.selects RX9 yX9_wipe yX9_wipe, Cond.code yX9_wipe cX9_wipe 2 (some .int), Cond.methodLink RL 26 yX10_wipe, Cond.instanceMethod yX10_wipe, Cond.selects RX10 yX10_wipe yX10_wipe, Cond.code yX10_wipe cX10_wipe 2 (some .int), Cond.methodLink RL 27 yX9_fault, Cond.instanceMethod yX9_fault, Cond.selects RX9 yX9_fault yX9_fault, Cond.code yX9_fault cX9_fault 2 (some .int), Cond.methodLink RX9 44 yX2_firstWrong, Cond.instanceMethod yX2_firstWrong, Cond.selects RX2 yX2_firstWrong yX2_firstWrong, Cond.code yX2_firstWrong cX2_firstWrong 6 (some .int), Cond.methodLink RX2 31 yX2_firstWrongOfSlips, Cond.instanceMethod yX2_firstWrongOfSlips, Cond.selects RX2 yX2_firstWrongOfSlips yX2_firstWrongOfSlips, Cond.code yX2_firstWrongOfSlips cX2_firstWrongOfSlips 5 (some .int)]
def wsL_law_r6 : List Cond := [Cond.methodLink RX2 37 yX2_firstWrongOfSlip, Cond.instanceMethod yX2_firstWrongOfSlip, Cond.selects RX2 yX2_firstWrongOfSlip yX2_firstWrongOfSlip, Cond.code yX2_firstWrongOfSlip cX2_firstWrongOfSlip 6 (some .int), Cond.methodLink RX2 44 yX2_kindAt, Cond.instanceMethod yX2_kindAt, Cond.selects RX2 yX2_kindAt yX2_kindAt, Cond.code yX2_kindAt cX2_kindAt 2 (some .int), Cond.methodLink RX2 22 yX2_signAt, Cond.instanceMethod yX2_signAt, Cond.selects RX2 yX2_signAt yX2_signAt, Cond.code yX2_signAt cX2_signAt 2 (some .int), Cond.methodLink RX2 47 yX6_sitesFor, Cond.static yX6_sitesFor, Cond.initialized RX6, Cond.code yX6_sitesFor cX6_sitesFor 2 (some .int), Cond.methodLink RX2 34 yX2_markAt, Cond.instanceMethod yX2_markAt, Cond.selects RX2 yX2_markAt yX2_markAt, Cond.code yX2_markAt cX2_markAt 2 (some .int), Cond.methodLink RX2 26 yX5_number, Cond.static yX5_number, Cond.initialized RX5, Cond.code yX5_number cX5_number 2 (some .int)]
def wsL_law_r7 : List Cond := [Cond.fieldLink RX5 7 "LastMap$Signs" "WRITTEN" "[I", Cond.methodLink RX2 41 yX2_lengthOfSlip, Cond.instanceMethod yX2_lengthOfSlip, Cond.selects RX2 yX2_lengthOfSlip yX2_lengthOfSlip, Cond.code yX2_lengthOfSlip cX2_lengthOfSlip 2 (some .int), Cond.methodLink RL 30 yX10_fault, Cond.instanceMethod yX10_fault, Cond.selects RX10 yX10_fault yX10_fault, Cond.code yX10_fault cX10_fault 2 (some .int), Cond.methodLink RX10 116 yX10_faultOfMap, Cond.instanceMethod yX10_faultOfMap, Cond.selects RX10 yX10_faultOfMap yX10_faultOfMap, Cond.code yX10_faultOfMap cX10_faultOfMap 4 (some .int), Cond.methodLink RX10 106 yX10_signOf, Cond.static yX10_signOf, Cond.code yX10_signOf cX10_signOf 1 (some .int), Cond.constantLong RX10 95 (97), Cond.constantLong RX10 97 (100), Cond.methodLink RX10 120 yX10_faultOfSlips, Cond.instanceMethod yX10_faultOfSlips, Cond.selects RX10 yX10_faultOfSlips yX10_faultOfSlips, Cond.code yX10_faultOfSlips cX10_faultOfSlips 7 (some .int), Cond.fieldLink RX10 110 "LastMapModel" "slipMany" "I", Cond.methodLink RX10 113 yX10_kindOf]
def wsL_law_r8 : List Cond := [Cond.static yX10_kindOf, Cond.code yX10_kindOf cX10_kindOf 1 (some .int), Cond.methodLink RL 31 yX9_map, Cond.instanceMethod yX9_map, Cond.selects RX9 yX9_map yX9_map, Cond.code yX9_map cX9_map 2 (some .int), Cond.methodLink RX9 48 yX9_isMap, Cond.static yX9_isMap, Cond.code yX9_isMap cX9_isMap 1 (some .boolean), Cond.methodLink RX9 51 yX2_mapCode, Cond.instanceMethod yX2_mapCode, Cond.selects RX2 yX2_mapCode yX2_mapCode, Cond.code yX2_mapCode cX2_mapCode 3 (some .int), Cond.methodLink RX2 52 yX1_with, Cond.static yX1_with, Cond.initialized RX1, Cond.code yX1_with cX1_with 3 (some .int), Cond.methodLink RX1 23 yX1_signAt, Cond.static yX1_signAt, Cond.code yX1_signAt cX1_signAt 2 (some .int), Cond.methodLink RX1 15 yX1_weight, Cond.static yX1_weight, Cond.code yX1_weight cX1_weight 1 (some .int), Cond.fieldLink RX1 9 "LastMap$Maps" "WEIGHTS" "[I"]
def wsL_law_r9 : List Cond := [Cond.methodLink RX1 19 yX1_signBy, Cond.static yX1_signBy, Cond.code yX1_signBy cX1_signBy 2 (some .int), Cond.methodLink RX9 55 yX3_tell, Cond.instanceMethod yX3_tell, Cond.selects RX3 yX3_tell yX3_tell, Cond.code yX3_tell cX3_tell 3 none, Cond.fieldLink RX3 25 "LastMap$Papers" "toldMaps" "I", Cond.methodLink RL 34 yX10_map, Cond.instanceMethod yX10_map, Cond.selects RX10 yX10_map yX10_map, Cond.code yX10_map cX10_map 4 (some .int), Cond.methodLink RX10 124 yX10_isMap, Cond.static yX10_isMap, Cond.code yX10_isMap cX10_isMap 1 (some .boolean), Cond.constantLong RX10 83 (5), Cond.methodLink RL 35 yX9_at, Cond.instanceMethod yX9_at, Cond.selects RX9 yX9_at yX9_at, Cond.code yX9_at cX9_at 3 (some .int), Cond.methodLink RX9 59 yX9_isSite, Cond.instanceMethod yX9_isSite, Cond.selects RX9 yX9_isSite yX9_isSite, Cond.code yX9_isSite cX9_isSite 2 (some .boolean)]
def wsL_law_r10 : List Cond := [Cond.methodLink RX9 62 yX9_isTold, Cond.instanceMethod yX9_isTold, Cond.selects RX9 yX9_isTold yX9_isTold, Cond.code yX9_isTold cX9_isTold 2 (some .boolean), Cond.methodLink RX9 132 yX9_isOf, Cond.static yX9_isOf, Cond.code yX9_isOf cX9_isOf 2 (some .boolean), Cond.methodLink RX9 65 yX3_codeOf, Cond.instanceMethod yX3_codeOf, Cond.selects RX3 yX3_codeOf yX3_codeOf, Cond.code yX3_codeOf cX3_codeOf 2 (some .int), Cond.methodLink RX9 69 yX1_signAt, Cond.methodLink RX9 74 yX5_written, Cond.static yX5_written, Cond.code yX5_written cX5_written 1 (some .int), Cond.methodLink RL 39 yX10_at, Cond.instanceMethod yX10_at, Cond.selects RX10 yX10_at yX10_at, Cond.code yX10_at cX10_at 3 (some .int), Cond.methodLink RX10 128 yX10_isSite, Cond.instanceMethod yX10_isSite, Cond.selects RX10 yX10_isSite yX10_isSite, Cond.code yX10_isSite cX10_isSite 2 (some .boolean), Cond.methodLink RX10 131 yX10_isTold]
def wsL_law_r11 : List Cond := [Cond.instanceMethod yX10_isTold, Cond.selects RX10 yX10_isTold yX10_isTold, Cond.code yX10_isTold cX10_isTold 2 (some .boolean), Cond.methodLink RX10 91 yX10_signAt, Cond.instanceMethod yX10_signAt, Cond.selects RX10 yX10_signAt yX10_signAt, Cond.code yX10_signAt cX10_signAt 3 (some .int), Cond.methodLink RX10 134 yX10_codeOf, Cond.static yX10_codeOf, Cond.code yX10_codeOf cX10_codeOf 1 (some .int), Cond.methodLink RL 40 yX9_hand, Cond.instanceMethod yX9_hand, Cond.selects RX9 yX9_hand yX9_hand, Cond.code yX9_hand cX9_hand 4 (some .int), Cond.methodLink RX9 79 yX9_isHand, Cond.static yX9_isHand, Cond.code yX9_isHand cX9_isHand 1 (some .boolean), Cond.methodLink RX9 82 yX3_kindsOf, Cond.instanceMethod yX3_kindsOf, Cond.selects RX3 yX3_kindsOf yX3_kindsOf, Cond.code yX3_kindsOf cX3_kindsOf 2 (some .int), Cond.methodLink RX9 85 yX3_teach, Cond.instanceMethod yX3_teach, Cond.selects RX3 yX3_teach yX3_teach]
def wsL_law_r12 : List Cond := [Cond.code yX3_teach cX3_teach 3 none, Cond.methodLink RL 43 yX10_hand, Cond.instanceMethod yX10_hand, Cond.selects RX10 yX10_hand yX10_hand, Cond.code yX10_hand cX10_hand 4 (some .int), Cond.constantLong RX10 140 (15), Cond.methodLink RX10 137 yX10_isHand, Cond.static yX10_isHand, Cond.code yX10_isHand cX10_isHand 1 (some .boolean), Cond.constantLong RX10 85 (3), Cond.methodLink RL 44 yX9_judge, Cond.instanceMethod yX9_judge, Cond.selects RX9 yX9_judge yX9_judge, Cond.code yX9_judge cX9_judge 2 (some .int), Cond.methodLink RX9 88 yX9_firstIdle, Cond.instanceMethod yX9_firstIdle, Cond.selects RX9 yX9_firstIdle yX9_firstIdle, Cond.code yX9_firstIdle cX9_firstIdle 6 (some .int), Cond.methodLink RX9 91 yX2_readSlips, Cond.instanceMethod yX2_readSlips, Cond.selects RX2 yX2_readSlips yX2_readSlips, Cond.code yX2_readSlips cX2_readSlips 5 (some .int), Cond.methodLink RX2 58 yX6_number, Cond.static yX6_number]
def wsL_law_r13 : List Cond := [Cond.code yX6_number cX6_number 3 (some .int), Cond.methodLink RX9 94 yX2_slipAt, Cond.instanceMethod yX2_slipAt, Cond.selects RX2 yX2_slipAt yX2_slipAt, Cond.code yX2_slipAt cX2_slipAt 2 (some .int), Cond.methodLink RX9 97 yX6_after, Cond.static yX6_after, Cond.code yX6_after cX6_after 4 (some .int), Cond.methodLink RX6 19 yX1_signAt, Cond.methodLink RX6 24 yX1_with, Cond.methodLink RL 47 yX10_judge, Cond.instanceMethod yX10_judge, Cond.selects RX10 yX10_judge yX10_judge, Cond.code yX10_judge cX10_judge 2 (some .int), Cond.methodLink RX10 146 yX10_badFrom, Cond.instanceMethod yX10_badFrom, Cond.selects RX10 yX10_badFrom yX10_badFrom, Cond.code yX10_badFrom cX10_badFrom 4 (some .int), Cond.fieldLink RX10 149 "LastMapModel" "made" "I", Cond.methodLink RX10 152 yX10_slipped, Cond.instanceMethod yX10_slipped, Cond.selects RX10 yX10_slipped yX10_slipped, Cond.code yX10_slipped cX10_slipped 5 (some .int), Cond.methodLink RX10 142 yX10_with]
def wsL_law_r14 : List Cond := [Cond.instanceMethod yX10_with, Cond.selects RX10 yX10_with yX10_with, Cond.code yX10_with cX10_with 4 (some .int), Cond.methodLink RL 48 yX9_copy, Cond.instanceMethod yX9_copy, Cond.selects RX9 yX9_copy yX9_copy, Cond.code yX9_copy cX9_copy 6 (some .int), Cond.methodLink RL 51 yX10_copy, Cond.instanceMethod yX10_copy, Cond.selects RX10 yX10_copy yX10_copy, Cond.code yX10_copy cX10_copy 3 (some .int), Cond.methodLink RL 52 yX9_far, Cond.instanceMethod yX9_far, Cond.selects RX9 yX9_far yX9_far, Cond.code yX9_far cX9_far 5 (some .int), Cond.methodLink RX9 102 yX9_tableOf, Cond.instanceMethod yX9_tableOf, Cond.selects RX9 yX9_tableOf yX9_tableOf, Cond.code yX9_tableOf cX9_tableOf 4 (some (.object "LastMap$Table")), Cond.methodLink RX9 221 yX0_onlyMap, Cond.static yX0_onlyMap, Cond.initialized RX0, Cond.code yX0_onlyMap cX0_onlyMap 4 (some .int), Cond.methodLink RX0 7 yX1_signAt]
def wsL_law_r15 : List Cond := [Cond.methodLink RX0 13 yX0_with, Cond.static yX0_with, Cond.code yX0_with cX0_with 3 (some .int), Cond.methodLink RX9 146 yX9_readySearch, Cond.instanceMethod yX9_readySearch, Cond.selects RX9 yX9_readySearch yX9_readySearch, Cond.code yX9_readySearch cX9_readySearch 1 (some (.object "LastMap$Search")), Cond.fieldLink RX9 216 "LastMap" "search" "LLastMap$Search;", Cond.classLink RX9 151 RX4, Cond.instantiable RX4 3, Cond.initialized RX4, Cond.instanceMethod yX4_init, Cond.code yX4_init cX4_init 1 none, Cond.methodLink RX4 3 objectInit, Cond.classLink RX4 11 RX7, Cond.fieldLink RX4 13 "LastMap$Search" "tables" "[LLastMap$Table;", Cond.fieldLink RX4 19 "LastMap$Search" "sums" "[I", Cond.methodLink RX9 168 yX4_toward, Cond.instanceMethod yX4_toward, Cond.selects RX4 yX4_toward yX4_toward, Cond.code yX4_toward cX4_toward 6 (some (.object "LastMap$Table")), Cond.methodLink RX4 23 yX7_isFor, Cond.instanceMethod yX7_isFor, Cond.selects RX7 yX7_isFor yX7_isFor]
def wsL_law_r16 : List Cond := [Cond.initialized RX7, Cond.code yX7_isFor cX7_isFor 4 (some .boolean), Cond.fieldLink RX7 21 "LastMap$Table" "goal" "I", Cond.fieldLink RX7 25 "LastMap$Table" "kinds" "I", Cond.fieldLink RX7 28 "LastMap$Table" "n" "I", Cond.methodLink RX4 27 yX4_takeOldest, Cond.instanceMethod yX4_takeOldest, Cond.selects RX4 yX4_takeOldest yX4_takeOldest, Cond.code yX4_takeOldest cX4_takeOldest 3 (some (.object "LastMap$Table")), Cond.fieldLink RX4 35 "LastMap$Search" "oldest" "I", Cond.instantiable RX7 7, Cond.instanceMethod yX7_init, Cond.code yX7_init cX7_init 1 none, Cond.methodLink RX7 3 objectInit, Cond.arrayClass .byte, Cond.fieldLink RX7 11 "LastMap$Table" "slips" "[B", Cond.fieldLink RX7 17 "LastMap$Table" "queue" "[I", Cond.methodLink RX4 31 yX7_begin, Cond.instanceMethod yX7_begin, Cond.selects RX7 yX7_begin yX7_begin, Cond.code yX7_begin cX7_begin 4 none, Cond.fieldLink RX7 31 "LastMap$Table" "queued" "I", Cond.fieldLink RX7 34 "LastMap$Table" "searched" "I", Cond.methodLink RX7 37 yJ7_fill_031fb]
def wsL_law_r17 : List Cond := [Cond.static yJ7_fill_031fb, Cond.initialized RJ7, Cond.code yJ7_fill_031fb cJ7_fill_031fb 4 none, Cond.methodLink RX7 43 yX7_queueGoal, Cond.instanceMethod yX7_queueGoal, Cond.selects RX7 yX7_queueGoal yX7_queueGoal, Cond.code yX7_queueGoal cX7_queueGoal 5 none, Cond.methodLink RX7 61 yX7_reach, Cond.instanceMethod yX7_reach, Cond.selects RX7 yX7_reach yX7_reach, Cond.code yX7_reach cX7_reach 3 none, Cond.methodLink RX7 64 yX0_markAt, Cond.static yX0_markAt, Cond.code yX0_markAt cX0_markAt 2 (some .int), Cond.methodLink RX7 70 yX1_weight, Cond.methodLink RX9 106 yX9_rowAnswer, Cond.instanceMethod yX9_rowAnswer, Cond.selects RX9 yX9_rowAnswer yX9_rowAnswer, Cond.code yX9_rowAnswer cX9_rowAnswer 8 (some .int), Cond.methodLink RX9 110 yX7_slipsFrom, Cond.instanceMethod yX7_slipsFrom, Cond.selects RX7 yX7_slipsFrom yX7_slipsFrom, Cond.code yX7_slipsFrom cX7_slipsFrom 2 (some .int), Cond.methodLink RX7 47 yX7_searchFor]
def wsL_law_r18 : List Cond := [Cond.instanceMethod yX7_searchFor, Cond.selects RX7 yX7_searchFor yX7_searchFor, Cond.code yX7_searchFor cX7_searchFor 3 none, Cond.methodLink RX7 55 yX1_countOf, Cond.static yX1_countOf, Cond.code yX1_countOf cX1_countOf 2 (some .int), Cond.methodLink RX7 51 yX7_known, Cond.instanceMethod yX7_known, Cond.selects RX7 yX7_known yX7_known, Cond.code yX7_known cX7_known 2 (some .int), Cond.methodLink RX7 58 yX7_queueBefore, Cond.instanceMethod yX7_queueBefore, Cond.selects RX7 yX7_queueBefore yX7_queueBefore, Cond.code yX7_queueBefore cX7_queueBefore 9 none, Cond.methodLink RX7 73 yX1_signBy, Cond.methodLink RX7 76 yX7_canHaveMade, Cond.instanceMethod yX7_canHaveMade, Cond.selects RX7 yX7_canHaveMade yX7_canHaveMade, Cond.code yX7_canHaveMade cX7_canHaveMade 3 (some .boolean), Cond.methodLink RX9 229 yX9_firstNearer, Cond.instanceMethod yX9_firstNearer, Cond.selects RX9 yX9_firstNearer yX9_firstNearer, Cond.code yX9_firstNearer cX9_firstNearer 7 (some .int), Cond.methodLink RX9 233 yX7_known]
def wsL_law_r19 : List Cond := [Cond.methodLink RX9 206 yX6_inOrder, Cond.static yX6_inOrder, Cond.code yX6_inOrder cX6_inOrder 1 (some .int), Cond.fieldLink RX6 9 "LastMap$Slips" "ORDER" "[I", Cond.methodLink RX9 213 yX6_isMade, Cond.static yX6_isMade, Cond.code yX6_isMade cX6_isMade 4 (some .boolean), Cond.methodLink RX6 15 yX6_sitesFor, Cond.methodLink RL 56 yX10_far, Cond.instanceMethod yX10_far, Cond.selects RX10 yX10_far yX10_far, Cond.code yX10_far cX10_far 6 (some .int), Cond.methodLink RX10 175 yX10_farOf, Cond.instanceMethod yX10_farOf, Cond.selects RX10 yX10_farOf yX10_farOf, Cond.code yX10_farOf cX10_farOf 4 (some .int), Cond.methodLink RX10 171 yX10_goFrom, Cond.instanceMethod yX10_goFrom, Cond.selects RX10 yX10_goFrom yX10_goFrom, Cond.code yX10_goFrom cX10_goFrom 10 none, Cond.fieldLink RX10 158 "LastMapModel" "come" "I", Cond.methodLink RX10 155 yX10_all, Cond.instanceMethod yX10_all, Cond.selects RX10 yX10_all yX10_all]
def wsL_law_r20 : List Cond := [Cond.code yX10_all cX10_all 1 (some .int), Cond.methodLink RX10 161 yX10_slipsThere, Cond.instanceMethod yX10_slipsThere, Cond.selects RX10 yX10_slipsThere yX10_slipsThere, Cond.code yX10_slipsThere cX10_slipsThere 1 (some .int), Cond.methodLink RX10 164 yX10_slipAt, Cond.instanceMethod yX10_slipAt, Cond.selects RX10 yX10_slipAt yX10_slipAt, Cond.code yX10_slipAt cX10_slipAt 4 (some .int), Cond.methodLink RX10 167 yX10_makes, Cond.static yX10_makes, Cond.code yX10_makes cX10_makes 2 (some .boolean), Cond.methodLink RX10 178 yX10_slipTo, Cond.instanceMethod yX10_slipTo, Cond.selects RX10 yX10_slipTo yX10_slipTo, Cond.code yX10_slipTo cX10_slipTo 4 (some .int), Cond.methodLink RL 57 yX9_who, Cond.instanceMethod yX9_who, Cond.selects RX9 yX9_who yX9_who, Cond.code yX9_who cX9_who 7 (some .int), Cond.methodLink RL 61 yX10_who, Cond.instanceMethod yX10_who, Cond.selects RX10 yX10_who yX10_who, Cond.code yX10_who cX10_who 7 (some .int)]
def wsL_law_r21 : List Cond := [Cond.constantLong RX10 181 (30), Cond.methodLink RL 62 yX9_between, Cond.instanceMethod yX9_between, Cond.selects RX9 yX9_between yX9_between, Cond.code yX9_between cX9_between 6 (some .int), Cond.methodLink RL 65 yX10_between, Cond.instanceMethod yX10_between, Cond.selects RX10 yX10_between yX10_between, Cond.code yX10_between cX10_between 6 (some .int), Cond.constantLong RX10 183 (9), Cond.methodLink RL 66 yX9_tree, Cond.instanceMethod yX9_tree, Cond.selects RX9 yX9_tree yX9_tree, Cond.code yX9_tree cX9_tree 5 (some .int), Cond.fieldLink RX9 125 "LastMap" "trees" "LLastMap$Trees;", Cond.classLink RX9 129 RX8, Cond.instantiable RX8 5, Cond.initialized RX8, Cond.methodLink RX9 115 yX9_isSet, Cond.static yX9_isSet, Cond.code yX9_isSet cX9_isSet 1 (some .boolean), Cond.methodLink RX9 118 yX9_isTreeQuestion, Cond.static yX9_isTreeQuestion, Cond.code yX9_isTreeQuestion cX9_isTreeQuestion 2 (some .boolean)]
def wsL_law_r22 : List Cond := [Cond.methodLink RX9 122 yX9_areTold, Cond.instanceMethod yX9_areTold, Cond.selects RX9 yX9_areTold yX9_areTold, Cond.code yX9_areTold cX9_areTold 2 (some .boolean), Cond.instanceMethod yX8_init, Cond.code yX8_init cX8_init 1 none, Cond.methodLink RX8 3 objectInit, Cond.fieldLink RX8 9 "LastMap$Trees" "slips" "[I", Cond.fieldLink RX8 15 "LastMap$Trees" "from" "[I", Cond.fieldLink RX8 18 "LastMap$Trees" "best" "[I", Cond.methodLink RX9 135 yX9_noteAllTo, Cond.instanceMethod yX9_noteAllTo, Cond.selects RX9 yX9_noteAllTo yX9_noteAllTo, Cond.code yX9_noteAllTo cX9_noteAllTo 6 none, Cond.methodLink RX9 226 yX8_note, Cond.instanceMethod yX8_note, Cond.selects RX8 yX8_note yX8_note, Cond.code yX8_note cX8_note 4 none, Cond.methodLink RX9 139 yX8_seek, Cond.instanceMethod yX8_seek, Cond.selects RX8 yX8_seek yX8_seek, Cond.code yX8_seek cX8_seek 2 none, Cond.fieldLink RX8 25 "LastMap$Trees" "least" "I", Cond.fieldLink RX8 29 "LastMap$Trees" "many" "I"]
def wsL_law_r23 : List Cond := [Cond.methodLink RX8 32 yJ7_fill_53178, Cond.static yJ7_fill_53178, Cond.code yJ7_fill_53178 cJ7_fill_53178 4 none, Cond.methodLink RX8 38 yX8_draw, Cond.instanceMethod yX8_draw, Cond.selects RX8 yX8_draw yX8_draw, Cond.code yX8_draw cX8_draw 7 none, Cond.methodLink RX8 42 yX8_weigh, Cond.instanceMethod yX8_weigh, Cond.selects RX8 yX8_weigh yX8_weigh, Cond.code yX8_weigh cX8_weigh 2 none, Cond.methodLink RX8 57 arraycopyName, Cond.native arraycopyName, Cond.static arraycopyName, Cond.initialized "java/lang/System", Cond.methodLink RX8 50 yX8_slipsOf, Cond.instanceMethod yX8_slipsOf, Cond.selects RX8 yX8_slipsOf yX8_slipsOf, Cond.code yX8_slipsOf cX8_slipsOf 3 (some .int), Cond.methodLink RX8 54 yX8_comesOf, Cond.instanceMethod yX8_comesOf, Cond.selects RX8 yX8_comesOf yX8_comesOf, Cond.code yX8_comesOf cX8_comesOf 5 (some .boolean), Cond.methodLink RX9 143 yX8_answer]
def wsL_law_r24 : List Cond := [Cond.instanceMethod yX8_answer, Cond.selects RX8 yX8_answer yX8_answer, Cond.code yX8_answer cX8_answer 3 (some .int), Cond.methodLink RL 69 yX10_tree, Cond.instanceMethod yX10_tree, Cond.selects RX10 yX10_tree yX10_tree, Cond.code yX10_tree cX10_tree 5 (some .int), Cond.constantLong RX10 203 (63), Cond.fieldLink RX10 191 "LastMapModel" "trees" "I", Cond.fieldLink RX10 194 "LastMapModel" "least" "I", Cond.methodLink RX10 205 yX10_areTold, Cond.instanceMethod yX10_areTold, Cond.selects RX10 yX10_areTold yX10_areTold, Cond.code yX10_areTold cX10_areTold 2 (some .boolean), Cond.methodLink RX10 208 yX10_findTrees, Cond.instanceMethod yX10_findTrees, Cond.selects RX10 yX10_findTrees yX10_findTrees, Cond.code yX10_findTrees cX10_findTrees 7 none, Cond.methodLink RX10 188 yX10_findOffs, Cond.instanceMethod yX10_findOffs, Cond.selects RX10 yX10_findOffs yX10_findOffs, Cond.code yX10_findOffs cX10_findOffs 5 none, Cond.methodLink RX10 197 yX10_layTree, Cond.instanceMethod yX10_layTree]
def wsL_law_r25 : List Cond := [Cond.selects RX10 yX10_layTree yX10_layTree, Cond.code yX10_layTree cX10_layTree 8 (some .boolean), Cond.methodLink RX10 185 yX10_noRounds, Cond.instanceMethod yX10_noRounds, Cond.selects RX10 yX10_noRounds yX10_noRounds, Cond.code yX10_noRounds cX10_noRounds 6 (some .boolean), Cond.methodLink RX10 200 yX10_sumOfTree, Cond.instanceMethod yX10_sumOfTree, Cond.selects RX10 yX10_sumOfTree yX10_sumOfTree, Cond.code yX10_sumOfTree cX10_sumOfTree 4 (some .int), Cond.methodLink RL 70 yX9_lost, Cond.instanceMethod yX9_lost, Cond.selects RX9 yX9_lost yX9_lost, Cond.code yX9_lost cX9_lost 6 (some .int), Cond.methodLink RX9 150 yX4_clearSums, Cond.instanceMethod yX4_clearSums, Cond.selects RX4 yX4_clearSums yX4_clearSums, Cond.code yX4_clearSums cX4_clearSums 1 none, Cond.methodLink RX4 40 yJ7_fill_53178, Cond.methodLink RX9 155 yX4_addToSums, Cond.instanceMethod yX4_addToSums, Cond.selects RX4 yX4_addToSums yX4_addToSums, Cond.code yX4_addToSums cX4_addToSums 4 none, Cond.methodLink RX4 46 yX7_searchAll]
def wsL_law_r26 : List Cond := [Cond.instanceMethod yX7_searchAll, Cond.selects RX7 yX7_searchAll yX7_searchAll, Cond.code yX7_searchAll cX7_searchAll 1 none, Cond.methodLink RX4 49 yX7_known, Cond.methodLink RX9 159 yX4_firstOfLeastSum, Cond.instanceMethod yX4_firstOfLeastSum, Cond.selects RX4 yX4_firstOfLeastSum yX4_firstOfLeastSum, Cond.code yX4_firstOfLeastSum cX4_firstOfLeastSum 5 (some .int), Cond.methodLink RX4 56 Lib.Math.max.name, Cond.static Lib.Math.max.name, Cond.initialized "java/lang/Math", Cond.code Lib.Math.max.name Lib.Math.max.code 2 (some .int), Cond.methodLink RX4 53 yX1_weight, Cond.methodLink RX4 62 yX4_sumOf, Cond.instanceMethod yX4_sumOf, Cond.selects RX4 yX4_sumOf yX4_sumOf, Cond.code yX4_sumOf cX4_sumOf 2 (some .int), Cond.methodLink RX9 162 yX4_sumOf, Cond.methodLink RL 73 yX10_lost, Cond.instanceMethod yX10_lost, Cond.selects RX10 yX10_lost yX10_lost, Cond.code yX10_lost cX10_lost 7 (some .int), Cond.methodLink RX10 215 yX10_findToward, Cond.instanceMethod yX10_findToward]
def wsL_law_r27 : List Cond := [Cond.selects RX10 yX10_findToward yX10_findToward, Cond.code yX10_findToward cX10_findToward 7 none, Cond.methodLink RX10 211 yX10_leadsTo, Cond.instanceMethod yX10_leadsTo, Cond.selects RX10 yX10_leadsTo yX10_leadsTo, Cond.code yX10_leadsTo cX10_leadsTo 7 (some .boolean), Cond.methodLink RL 74 yX9_wished, Cond.instanceMethod yX9_wished, Cond.selects RX9 yX9_wished yX9_wished, Cond.code yX9_wished cX9_wished 8 (some .int), Cond.methodLink RX9 165 yX9_goalPast, Cond.instanceMethod yX9_goalPast, Cond.selects RX9 yX9_goalPast yX9_goalPast, Cond.code yX9_goalPast cX9_goalPast 8 (some .int), Cond.methodLink RX9 236 yX2_markAt, Cond.methodLink RX9 239 yX0_with, Cond.methodLink RL 77 yX10_wished, Cond.instanceMethod yX10_wished, Cond.selects RX10 yX10_wished yX10_wished, Cond.code yX10_wished cX10_wished 6 (some .int), Cond.methodLink RX10 218 yX10_isWished, Cond.instanceMethod yX10_isWished, Cond.selects RX10 yX10_isWished yX10_isWished, Cond.code yX10_isWished cX10_isWished 7 (some .boolean)]
def wsL_law_r28 : List Cond := [Cond.methodLink RL 78 yX9_holds, Cond.instanceMethod yX9_holds, Cond.selects RX9 yX9_holds yX9_holds, Cond.code yX9_holds cX9_holds 6 (some .int), Cond.methodLink RX9 172 yX9_mostAt, Cond.instanceMethod yX9_mostAt, Cond.selects RX9 yX9_mostAt yX9_mostAt, Cond.code yX9_mostAt cX9_mostAt 5 (some .int), Cond.methodLink RX9 175 yX9_howMany, Cond.instanceMethod yX9_howMany, Cond.selects RX9 yX9_howMany yX9_howMany, Cond.code yX9_howMany cX9_howMany 6 (some .int), Cond.methodLink RX9 179 yJ6_bitCount_0f7a4, Cond.static yJ6_bitCount_0f7a4, Cond.initialized RJ6, Cond.code yJ6_bitCount_0f7a4 cJ6_bitCount_0f7a4 1 (some .int), Cond.constant RJ6 265 (1431655765), Cond.constant RJ6 266 (858993459), Cond.constant RJ6 267 (252645135), Cond.methodLink RL 81 yX10_holds, Cond.instanceMethod yX10_holds, Cond.selects RX10 yX10_holds yX10_holds, Cond.code yX10_holds cX10_holds 5 (some .int), Cond.methodLink RX10 221 yX10_mostAt]
def wsL_law_r29 : List Cond := [Cond.instanceMethod yX10_mostAt, Cond.selects RX10 yX10_mostAt yX10_mostAt, Cond.code yX10_mostAt cX10_mostAt 8 (some .int), Cond.methodLink RX10 224 yX10_holdsAt, Cond.instanceMethod yX10_holdsAt, Cond.selects RX10 yX10_holdsAt yX10_holdsAt, Cond.code yX10_holdsAt cX10_holdsAt 6 (some .boolean), Cond.methodLink RL 82 yX9_spades, Cond.instanceMethod yX9_spades, Cond.selects RX9 yX9_spades yX9_spades, Cond.code yX9_spades cX9_spades 3 (some .int), Cond.fieldLink RX9 184 "LastMap$Papers" "spadeCount" "I", Cond.methodLink RL 85 yX10_spades, Cond.instanceMethod yX10_spades, Cond.selects RX10 yX10_spades yX10_spades, Cond.code yX10_spades cX10_spades 3 (some .int), Cond.methodLink RL 86 yX9_land, Cond.instanceMethod yX9_land, Cond.selects RX9 yX9_land yX9_land, Cond.code yX9_land cX9_land 2 (some .int), Cond.methodLink RL 89 yX10_land, Cond.instanceMethod yX10_land, Cond.selects RX10 yX10_land yX10_land, Cond.code yX10_land cX10_land 2 (some .int)]
def wsL_law_r30 : List Cond := [Cond.methodLink RL 90 yX9_years, Cond.instanceMethod yX9_years, Cond.selects RX9 yX9_years yX9_years, Cond.code yX9_years cX9_years 4 (some .int), Cond.methodLink RX9 190 Lib.Math.max.name, Cond.methodLink RX9 187 yX1_unlike, Cond.static yX1_unlike, Cond.code yX1_unlike cX1_unlike 4 (some .int), Cond.methodLink RL 93 yX10_years, Cond.instanceMethod yX10_years, Cond.selects RX10 yX10_years yX10_years, Cond.code yX10_years cX10_years 2 (some .int), Cond.methodLink RX10 227 yX10_otherThan, Cond.instanceMethod yX10_otherThan, Cond.selects RX10 yX10_otherThan yX10_otherThan, Cond.code yX10_otherThan cX10_otherThan 5 (some .int), Cond.methodLink RL 94 yX9_follow, Cond.instanceMethod yX9_follow, Cond.selects RX9 yX9_follow yX9_follow, Cond.code yX9_follow cX9_follow 7 (some .int), Cond.methodLink RX9 195 yX1_with, Cond.methodLink RL 97 yX10_follow, Cond.instanceMethod yX10_follow, Cond.selects RX10 yX10_follow yX10_follow]
def wsL_law_r31 : List Cond := [Cond.code yX10_follow cX10_follow 6 (some .int), Cond.methodLink RL 98 yX9_drawn, Cond.instanceMethod yX9_drawn, Cond.selects RX9 yX9_drawn yX9_drawn, Cond.code yX9_drawn cX9_drawn 10 (some .int), Cond.constant RX9 198 (65537), Cond.methodLink RX9 199 yX9_afterDraw, Cond.instanceMethod yX9_afterDraw, Cond.selects RX9 yX9_afterDraw yX9_afterDraw, Cond.code yX9_afterDraw cX9_afterDraw 8 (some .int), Cond.methodLink RX9 209 yX9_isSome, Cond.instanceMethod yX9_isSome, Cond.selects RX9 yX9_isSome yX9_isSome, Cond.code yX9_isSome cX9_isSome 4 (some .boolean), Cond.methodLink RL 102 yX10_drawn, Cond.instanceMethod yX10_drawn, Cond.selects RX10 yX10_drawn yX10_drawn, Cond.code yX10_drawn cX10_drawn 10 (some .int), Cond.constantLong RX10 230 (9999), Cond.constantLong RX10 232 (60), Cond.constantLong RX10 234 (75), Cond.constantLong RX10 236 (74), Cond.constantLong RX10 238 (65537), Cond.methodLink RX10 240 yX10_slipsFrom]
def wsL_law_r32 : List Cond := [Cond.instanceMethod yX10_slipsFrom, Cond.selects RX10 yX10_slipsFrom yX10_slipsFrom, Cond.code yX10_slipsFrom cX10_slipsFrom 8 (some .int), Cond.methodLink RL 103 yX9_image, Cond.instanceMethod yX9_image, Cond.selects RX9 yX9_image yX9_image, Cond.code yX9_image cX9_image 2 (some .int), Cond.methodLink RX9 202 yX3_take, Cond.instanceMethod yX3_take, Cond.selects RX3 yX3_take yX3_take, Cond.code yX3_take cX3_take 3 none, Cond.fieldLink RX3 28 "LastMap$Papers" "ground" "I", Cond.methodLink RX3 31 yX3_codeOf, Cond.methodLink RX3 35 yX3_kindsOf, Cond.methodLink RL 106 yX10_image, Cond.instanceMethod yX10_image, Cond.selects RX10 yX10_image yX10_image, Cond.code yX10_image cX10_image 2 (some .int), Cond.fieldLink RX10 247 "LastMapModel" "keptAt" "I", Cond.fieldLink RX10 243 "LastMapModel" "isWriting" "Z", Cond.methodLink RX10 253 yX10_passAll, Cond.instanceMethod yX10_passAll, Cond.selects RX10 yX10_passAll yX10_passAll, Cond.code yX10_passAll cX10_passAll 2 none]
def wsL_law_r33 : List Cond := [Cond.methodLink RX10 250 yX10_pass, Cond.instanceMethod yX10_pass, Cond.selects RX10 yX10_pass yX10_pass, Cond.code yX10_pass cX10_pass 3 (some .int), Cond.methodLink RL 107 yX9_restore, Cond.instanceMethod yX9_restore, Cond.selects RX9 yX9_restore yX9_restore, Cond.code yX9_restore cX9_restore 3 (some .int), Cond.methodLink RL 110 yX10_restore, Cond.instanceMethod yX10_restore, Cond.selects RX10 yX10_restore yX10_restore, Cond.code yX10_restore cX10_restore 2 (some .int), Cond.methodLink RL 111 yX9_told, Cond.instanceMethod yX9_told, Cond.selects RX9 yX9_told yX9_told, Cond.code yX9_told cX9_told 2 (some .int), Cond.methodLink RL 114 yX10_told, Cond.instanceMethod yX10_told, Cond.selects RX10 yX10_told yX10_told, Cond.code yX10_told cX10_told 2 (some .int), Cond.constantLong RX10 256 (10), Cond.constantLong RX10 258 (13)]
def wsL_law : List Cond := (wsL_law_r1 ++ (wsL_law_r2 ++ (wsL_law_r3 ++ (wsL_law_r4 ++ (wsL_law_r5 ++ (wsL_law_r6 ++ (wsL_law_r7 ++ (wsL_law_r8 ++ (wsL_law_r9 ++ (wsL_law_r10 ++ (wsL_law_r11 ++ (wsL_law_r12 ++ (wsL_law_r13 ++ (wsL_law_r14 ++ (wsL_law_r15 ++ (wsL_law_r16 ++ (wsL_law_r17 ++ (wsL_law_r18 ++ (wsL_law_r19 ++ (wsL_law_r20 ++ (wsL_law_r21 ++ (wsL_law_r22 ++ (wsL_law_r23 ++ (wsL_law_r24 ++ (wsL_law_r25 ++ (wsL_law_r26 ++ (wsL_law_r27 ++ (wsL_law_r28 ++ (wsL_law_r29 ++ (wsL_law_r30 ++ (wsL_law_r31 ++ (wsL_law_r32 ++ wsL_law_r33)))))))))))))))))))))))))))))))) ++ wsX90 ++ wsX100 ++ wsX20 ++ wsX30 ++ wsX40 ++ wsX70 ++ wsX80 ++ ([] : List Cond)
set_option maxRecDepth 20000 in
theorem in_wsL_law_r1 : GoodIn lw_tbl wsL_law_r1 := goodIn_r _ [76, 77, 61, 632, 633, 64, 78, 79, 80, 81, 82, 83, 84, 85, 62, 132, 102, 103, 63, 133, 134, 87, 88, 89] (by decide +kernel) (by decide +kernel)
set_option maxRecDepth 20000 in
theorem in_wsL_law_r2 : GoodIn lw_tbl wsL_law_r2 := goodIn_r _ [101, 90, 91, 105, 106, 107, 108, 112, 116, 117, 634, 635, 636, 637, 647, 649, 652, 653, 655, 658, 659, 660, 661, 663] (by decide +kernel) (by decide +kernel)
set_option maxRecDepth 20000 in
theorem in_wsL_law_r3 : GoodIn lw_tbl wsL_law_r3 := goodIn_r _ [664, 665, 668, 669, 670, 731, 671, 651, 638, 640, 29, 641, 646, 648, 650, 642, 644, 30, 645, 148, 149, 150, 151, 109] (by decide +kernel) (by decide +kernel)
set_option maxRecDepth 20000 in
theorem in_wsL_law_r4 : GoodIn lw_tbl wsL_law_r4 := goodIn_r _ [110, 114, 732, 733, 734, 735, 736, 737, 738, 739, 740, 152, 153, 154, 155, 93, 156, 157, 158, 159, 92, 741, 742, 743] (by decide +kernel) (by decide +kernel)
set_option maxRecDepth 20000 in
theorem in_wsL_law_r5 : GoodIn lw_tbl wsL_law_r5 := goodIn_r _ [744, 745, 746, 654, 160, 161, 162, 163, 747, 748, 749, 750, 164, 165, 166, 167, 168, 169, 170, 171, 172, 174, 0, 175] (by decide +kernel) (by decide +kernel)
set_option maxRecDepth 20000 in
theorem in_wsL_law_r6 : GoodIn lw_tbl wsL_law_r6 := goodIn_r _ [176, 178, 1, 179, 180, 182, 2, 183, 184, 186, 3, 187, 188, 189, 65, 190, 191, 192, 193, 194, 195, 196, 66, 197] (by decide +kernel) (by decide +kernel)
set_option maxRecDepth 20000 in
theorem in_wsL_law_r7 : GoodIn lw_tbl wsL_law_r7 := goodIn_r _ [198, 200, 202, 4, 203, 751, 752, 753, 754, 755, 757, 31, 758, 759, 760, 761, 762, 763, 764, 766, 32, 767, 656, 768] (by decide +kernel) (by decide +kernel)
set_option maxRecDepth 20000 in
theorem in_wsL_law_r8 : GoodIn lw_tbl wsL_law_r8 := goodIn_r _ [769, 770, 204, 205, 206, 207, 208, 209, 210, 211, 212, 213, 214, 215, 216, 67, 217, 218, 219, 220, 221, 222, 223, 224] (by decide +kernel) (by decide +kernel)
set_option maxRecDepth 20000 in
theorem in_wsL_law_r9 : GoodIn lw_tbl wsL_law_r9 := goodIn_r _ [226, 227, 228, 229, 230, 231, 232, 111, 771, 772, 773, 774, 775, 776, 777, 778, 233, 234, 235, 236, 237, 239, 5, 240] (by decide +kernel) (by decide +kernel)
set_option maxRecDepth 20000 in
theorem in_wsL_law_r10 : GoodIn lw_tbl wsL_law_r10 := goodIn_r _ [241, 243, 6, 244, 245, 246, 247, 248, 249, 250, 251, 252, 253, 254, 255, 779, 780, 781, 782, 783, 785, 33, 786, 787] (by decide +kernel) (by decide +kernel)
set_option maxRecDepth 20000 in
theorem in_wsL_law_r11 : GoodIn lw_tbl wsL_law_r11 := goodIn_r _ [789, 34, 790, 791, 793, 35, 794, 795, 796, 797, 256, 257, 258, 259, 260, 261, 262, 263, 264, 265, 266, 267, 268, 269] (by decide +kernel) (by decide +kernel)
set_option maxRecDepth 20000 in
theorem in_wsL_law_r12 : GoodIn lw_tbl wsL_law_r12 := goodIn_r _ [270, 798, 799, 800, 801, 806, 802, 803, 804, 805, 271, 272, 273, 274, 275, 277, 7, 278, 279, 280, 281, 282, 283, 284] (by decide +kernel) (by decide +kernel)
set_option maxRecDepth 20000 in
theorem in_wsL_law_r13 : GoodIn lw_tbl wsL_law_r13 := goodIn_r _ [285, 286, 287, 288, 289, 290, 291, 292, 293, 294, 807, 808, 809, 810, 811, 813, 36, 814, 657, 815, 817, 37, 818, 819] (by decide +kernel) (by decide +kernel)
set_option maxRecDepth 20000 in
theorem in_wsL_law_r14 : GoodIn lw_tbl wsL_law_r14 := goodIn_r _ [821, 38, 822, 295, 296, 297, 298, 823, 824, 825, 826, 299, 300, 301, 302, 303, 305, 8, 306, 307, 308, 68, 309, 310] (by decide +kernel) (by decide +kernel)
set_option maxRecDepth 20000 in
theorem in_wsL_law_r15 : GoodIn lw_tbl wsL_law_r15 := goodIn_r _ [311, 312, 313, 314, 316, 9, 317, 135, 318, 319, 69, 321, 322, 323, 324, 326, 327, 336, 337, 338, 339, 340, 341, 342] (by decide +kernel) (by decide +kernel)
set_option maxRecDepth 20000 in
theorem in_wsL_law_r16 : GoodIn lw_tbl wsL_law_r16 := goodIn_r _ [70, 343, 357, 358, 359, 344, 346, 10, 347, 328, 348, 350, 351, 352, 375, 353, 354, 376, 377, 378, 379, 355, 356, 380] (by decide +kernel) (by decide +kernel)
set_option maxRecDepth 20000 in
theorem in_wsL_law_r17 : GoodIn lw_tbl wsL_law_r17 := goodIn_r _ [381, 71, 382, 383, 385, 11, 386, 387, 389, 12, 390, 391, 392, 393, 394, 395, 397, 13, 398, 399, 400, 401, 402, 403] (by decide +kernel) (by decide +kernel)
set_option maxRecDepth 20000 in
theorem in_wsL_law_r18 : GoodIn lw_tbl wsL_law_r18 := goodIn_r _ [405, 14, 406, 407, 408, 409, 410, 411, 412, 413, 414, 416, 15, 417, 418, 419, 421, 16, 422, 423, 425, 17, 426, 427] (by decide +kernel) (by decide +kernel)
set_option maxRecDepth 20000 in
theorem in_wsL_law_r19 : GoodIn lw_tbl wsL_law_r19 := goodIn_r _ [428, 429, 430, 431, 433, 434, 435, 436, 827, 828, 829, 830, 831, 833, 39, 834, 835, 837, 40, 838, 662, 839, 841, 41] (by decide +kernel) (by decide +kernel)
set_option maxRecDepth 20000 in
theorem in_wsL_law_r20 : GoodIn lw_tbl wsL_law_r20 := goodIn_r _ [842, 843, 845, 42, 846, 847, 849, 43, 850, 851, 852, 853, 854, 856, 44, 857, 437, 438, 439, 440, 858, 859, 860, 861] (by decide +kernel) (by decide +kernel)
set_option maxRecDepth 20000 in
theorem in_wsL_law_r21 : GoodIn lw_tbl wsL_law_r21 := goodIn_r _ [862, 441, 442, 443, 444, 863, 864, 865, 866, 867, 445, 446, 447, 448, 136, 459, 460, 72, 449, 450, 451, 452, 453, 454] (by decide +kernel) (by decide +kernel)
set_option maxRecDepth 20000 in
theorem in_wsL_law_r22 : GoodIn lw_tbl wsL_law_r22 := goodIn_r _ [455, 457, 18, 458, 462, 463, 464, 465, 466, 467, 481, 483, 19, 484, 485, 486, 487, 488, 490, 491, 492, 493, 468, 469] (by decide +kernel) (by decide +kernel)
set_option maxRecDepth 20000 in
theorem in_wsL_law_r23 : GoodIn lw_tbl wsL_law_r23 := goodIn_r _ [494, 495, 496, 497, 499, 20, 500, 501, 503, 21, 504, 505, 507, 506, 73, 509, 511, 22, 512, 513, 515, 23, 516, 517] (by decide +kernel) (by decide +kernel)
set_option maxRecDepth 20000 in
theorem in_wsL_law_r24 : GoodIn lw_tbl wsL_law_r24 := goodIn_r _ [518, 519, 520, 868, 869, 870, 871, 872, 666, 667, 873, 875, 45, 876, 877, 879, 46, 880, 881, 883, 47, 884, 885, 887] (by decide +kernel) (by decide +kernel)
set_option maxRecDepth 20000 in
theorem in_wsL_law_r25 : GoodIn lw_tbl wsL_law_r25 := goodIn_r _ [48, 888, 889, 891, 49, 892, 893, 895, 50, 896, 521, 522, 523, 524, 525, 526, 527, 528, 529, 530, 531, 532, 533, 534] (by decide +kernel) (by decide +kernel)
set_option maxRecDepth 20000 in
theorem in_wsL_law_r26 : GoodIn lw_tbl wsL_law_r26 := goodIn_r _ [535, 536, 537, 538, 539, 540, 541, 542, 544, 545, 74, 546, 543, 547, 548, 549, 550, 551, 897, 898, 899, 900, 901, 903] (by decide +kernel) (by decide +kernel)
set_option maxRecDepth 20000 in
theorem in_wsL_law_r27 : GoodIn lw_tbl wsL_law_r27 := goodIn_r _ [51, 904, 905, 907, 52, 908, 552, 553, 554, 555, 556, 558, 24, 559, 560, 561, 909, 910, 911, 912, 913, 915, 53, 916] (by decide +kernel) (by decide +kernel)
set_option maxRecDepth 20000 in
theorem in_wsL_law_r28 : GoodIn lw_tbl wsL_law_r28 := goodIn_r _ [562, 563, 564, 565, 566, 568, 25, 569, 570, 572, 26, 573, 574, 575, 75, 576, 577, 578, 579, 917, 918, 919, 920, 921] (by decide +kernel) (by decide +kernel)
set_option maxRecDepth 20000 in
theorem in_wsL_law_r29 : GoodIn lw_tbl wsL_law_r29 := goodIn_r _ [923, 54, 924, 925, 927, 55, 928, 580, 581, 582, 583, 113, 929, 930, 931, 932, 584, 585, 586, 587, 933, 934, 935, 936] (by decide +kernel) (by decide +kernel)
set_option maxRecDepth 20000 in
theorem in_wsL_law_r30 : GoodIn lw_tbl wsL_law_r30 := goodIn_r _ [588, 589, 590, 591, 595, 592, 593, 594, 937, 938, 939, 940, 941, 943, 56, 944, 596, 597, 598, 599, 600, 945, 946, 947] (by decide +kernel) (by decide +kernel)
set_option maxRecDepth 20000 in
theorem in_wsL_law_r31 : GoodIn lw_tbl wsL_law_r31 := goodIn_r _ [948, 601, 602, 603, 604, 605, 606, 608, 27, 609, 610, 612, 28, 613, 949, 950, 951, 952, 953, 954, 955, 956, 957, 958] (by decide +kernel) (by decide +kernel)
set_option maxRecDepth 20000 in
theorem in_wsL_law_r32 : GoodIn lw_tbl wsL_law_r32 := goodIn_r _ [960, 57, 961, 614, 615, 616, 617, 618, 619, 620, 621, 115, 622, 623, 962, 963, 964, 965, 672, 673, 966, 968, 58, 969] (by decide +kernel) (by decide +kernel)
set_option maxRecDepth 20000 in
theorem in_wsL_law_r33 : GoodIn lw_tbl wsL_law_r33 := goodIn_r _ [970, 972, 59, 973, 624, 625, 626, 627, 974, 975, 976, 977, 628, 629, 630, 631, 978, 979, 980, 981, 982, 983] (by decide +kernel) (by decide +kernel)
set_option maxRecDepth 20000 in
theorem in_LwsX90 : ∀ w ∈ wsX90, w ∈ lw_tbl := by decide +kernel
set_option maxRecDepth 20000 in
theorem in_LwsX100 : ∀ w ∈ wsX100, w ∈ lw_tbl := by decide +kernel
set_option maxRecDepth 20000 in
theorem in_LwsX20 : ∀ w ∈ wsX20, w ∈ lw_tbl := by decide +kernel
set_option maxRecDepth 20000 in
theorem in_LwsX30 : ∀ w ∈ wsX30, w ∈ lw_tbl := by decide +kernel
set_option maxRecDepth 20000 in
theorem in_LwsX40 : ∀ w ∈ wsX40, w ∈ lw_tbl := by decide +kernel
set_option maxRecDepth 20000 in
theorem in_LwsX70 : ∀ w ∈ wsX70, w ∈ lw_tbl := by decide +kernel
set_option maxRecDepth 20000 in
theorem in_LwsX80 : ∀ w ∈ wsX80, w ∈ lw_tbl := by decide +kernel
theorem wsL_law_in : ∀ w ∈ wsL_law, w ∈ lw_tbl := (fun w h => (List.mem_append.mp h).elim ((fun w h => (List.mem_append.mp h).elim ((fun w h => (List.mem_append.mp h).elim ((fun w h => (List.mem_append.mp h).elim ((fun w h => (List.mem_append.mp h).elim ((fun w h => (List.mem_append.mp h).elim ((fun w h => (List.mem_append.mp h).elim ((fun w h => (List.mem_append.mp h).elim ((fun w h => ((goodIn_app in_wsL_law_r1 (goodIn_app in_wsL_law_r2 (goodIn_app in_wsL_law_r3 (goodIn_app in_wsL_law_r4 (goodIn_app in_wsL_law_r5 (goodIn_app in_wsL_law_r6 (goodIn_app in_wsL_law_r7 (goodIn_app in_wsL_law_r8 (goodIn_app in_wsL_law_r9 (goodIn_app in_wsL_law_r10 (goodIn_app in_wsL_law_r11 (goodIn_app in_wsL_law_r12 (goodIn_app in_wsL_law_r13 (goodIn_app in_wsL_law_r14 (goodIn_app in_wsL_law_r15 (goodIn_app in_wsL_law_r16 (goodIn_app in_wsL_law_r17 (goodIn_app in_wsL_law_r18 (goodIn_app in_wsL_law_r19 (goodIn_app in_wsL_law_r20 (goodIn_app in_wsL_law_r21 (goodIn_app in_wsL_law_r22 (goodIn_app in_wsL_law_r23 (goodIn_app in_wsL_law_r24 (goodIn_app in_wsL_law_r25 (goodIn_app in_wsL_law_r26 (goodIn_app in_wsL_law_r27 (goodIn_app in_wsL_law_r28 (goodIn_app in_wsL_law_r29 (goodIn_app in_wsL_law_r30 (goodIn_app in_wsL_law_r31 (goodIn_app in_wsL_law_r32 in_wsL_law_r33)))))))))))))))))))))))))))))))) w h).1) w) (in_LwsX90 w)) w) (in_LwsX100 w)) w) (in_LwsX20 w)) w) (in_LwsX30 w)) w) (in_LwsX40 w)) w) (in_LwsX70 w)) w) (in_LwsX80 w)) w) (fun h => absurd h List.not_mem_nil))
theorem inX0 : ∀ w ∈ wsX00, w ∈ lw_tbl := by decide +kernel
theorem inX1 : ∀ w ∈ wsX10, w ∈ lw_tbl := by decide +kernel
theorem inlX2 : ∀ w ∈ wsX20, w ∈ wsL_law := fun _ h => List.mem_append_left _ (List.mem_append_left _ (List.mem_append_left _ (List.mem_append_left _ (List.mem_append_left _ (List.mem_append_right _ h)))))
theorem inX2 : ∀ w ∈ wsX20, w ∈ lw_tbl := fun w h => wsL_law_in w (inlX2 w h)
theorem inlX3 : ∀ w ∈ wsX30, w ∈ wsL_law := fun _ h => List.mem_append_left _ (List.mem_append_left _ (List.mem_append_left _ (List.mem_append_left _ (List.mem_append_right _ h))))
theorem inX3 : ∀ w ∈ wsX30, w ∈ lw_tbl := fun w h => wsL_law_in w (inlX3 w h)
theorem inlX4 : ∀ w ∈ wsX40, w ∈ wsL_law := fun _ h => List.mem_append_left _ (List.mem_append_left _ (List.mem_append_left _ (List.mem_append_right _ h)))
theorem inX4 : ∀ w ∈ wsX40, w ∈ lw_tbl := fun w h => wsL_law_in w (inlX4 w h)
theorem inX5 : ∀ w ∈ wsX50, w ∈ lw_tbl := by decide +kernel
theorem inX6 : ∀ w ∈ wsX60, w ∈ lw_tbl := by decide +kernel
theorem inlX7 : ∀ w ∈ wsX70, w ∈ wsL_law := fun _ h => List.mem_append_left _ (List.mem_append_left _ (List.mem_append_right _ h))
theorem inX7 : ∀ w ∈ wsX70, w ∈ lw_tbl := fun w h => wsL_law_in w (inlX7 w h)
theorem inlX8 : ∀ w ∈ wsX80, w ∈ wsL_law := fun _ h => List.mem_append_left _ (List.mem_append_right _ h)
theorem inX8 : ∀ w ∈ wsX80, w ∈ lw_tbl := fun w h => wsL_law_in w (inlX8 w h)
theorem inlX9 : ∀ w ∈ wsX90, w ∈ wsL_law := fun _ h => List.mem_append_left _ (List.mem_append_left _ (List.mem_append_left _ (List.mem_append_left _ (List.mem_append_left _ (List.mem_append_left _ (List.mem_append_left _ (List.mem_append_right _ h)))))))
theorem inX9 : ∀ w ∈ wsX90, w ∈ lw_tbl := fun w h => wsL_law_in w (inlX9 w h)
theorem inlX10 : ∀ w ∈ wsX100, w ∈ wsL_law := fun _ h => List.mem_append_left _ (List.mem_append_left _ (List.mem_append_left _ (List.mem_append_left _ (List.mem_append_left _ (List.mem_append_left _ (List.mem_append_right _ h))))))
theorem inX10 : ∀ w ∈ wsX100, w ∈ lw_tbl := fun w h => wsL_law_in w (inlX10 w h)
theorem inJ6 : ∀ w ∈ wsJ60, w ∈ lw_tbl := by decide +kernel
theorem inJ9 : ∀ w ∈ wsJ90, w ∈ lw_tbl := by decide +kernel
theorem inJ10 : ∀ w ∈ wsJ100, w ∈ lw_tbl := by decide +kernel
theorem inJ7 : ∀ w ∈ wsJ70, w ∈ lw_tbl := by decide +kernel
abbrev vwCl : List vw_C := [(RX2, TX2, 3), (RX3, TX3, 6), (RX4, TX4, 3), (RX7, TX7, 7), (RX8, TX8, 5), (RX9, TX9, 5), (RX10, TX10, 28)]
end
section
theorem dX0_with_0 : decode cX0_with 0 = .ok (.iload_n 0, 1) := by decide +kernel
theorem dX0_with_1 : decode cX0_with 1 = .ok (.iload_n 2, 1) := by decide +kernel
theorem dX0_with_2 : decode cX0_with 2 = .ok (.iconst 3, 1) := by decide +kernel
theorem dX0_with_3 : decode cX0_with 3 = .ok (.iload_n 1, 1) := by decide +kernel
theorem dX0_with_4 : decode cX0_with 4 = .ok (.imul, 1) := by decide +kernel
theorem dX0_with_5 : decode cX0_with 5 = .ok (.ishl, 1) := by decide +kernel
theorem dX0_with_6 : decode cX0_with 6 = .ok (.ior, 1) := by decide +kernel
theorem dX0_with_7 : decode cX0_with 7 = .ok (.ireturn, 1) := by decide +kernel
theorem dX0_markAt_0 : decode cX0_markAt 0 = .ok (.iload_n 0, 1) := by decide +kernel
theorem dX0_markAt_1 : decode cX0_markAt 1 = .ok (.iconst 3, 1) := by decide +kernel
theorem dX0_markAt_2 : decode cX0_markAt 2 = .ok (.iload_n 1, 1) := by decide +kernel
theorem dX0_markAt_3 : decode cX0_markAt 3 = .ok (.imul, 1) := by decide +kernel
theorem dX0_markAt_4 : decode cX0_markAt 4 = .ok (.ishr, 1) := by decide +kernel
theorem dX0_markAt_5 : decode cX0_markAt 5 = .ok (.bipush 7, 2) := by decide +kernel
theorem dX0_markAt_7 : decode cX0_markAt 7 = .ok (.iand, 1) := by decide +kernel
theorem dX0_markAt_8 : decode cX0_markAt 8 = .ok (.ireturn, 1) := by decide +kernel
set_option maxRecDepth 20000 in
theorem ggX0_onlyMap_X1_signAt : GoodIn wsX0_onlyMap wsX1_signAt := goodIn_r _ [4, 5, 6, 3, 7, 8, 9, 10, 11] (by decide +kernel) (by decide +kernel)
set_option maxRecDepth 20000 in
theorem gX0_onlyMap_X1_signAt : GoodIn wsX0_onlyMap (va_wsS RX0 7 yX1_signAt wsX1_signAt) := goodIn_app (goodIn_of _ (by decide +kernel)) ggX0_onlyMap_X1_signAt
set_option maxRecDepth 20000 in
theorem ggX0_onlyMap_X0_with : GoodIn wsX0_onlyMap wsX0_with := goodIn_r _ [15] (by decide +kernel) (by decide +kernel)
set_option maxRecDepth 20000 in
theorem gX0_onlyMap_X0_with : GoodIn wsX0_onlyMap (va_wsS RX0 13 yX0_with wsX0_with) := goodIn_app (goodIn_of _ (by decide +kernel)) ggX0_onlyMap_X0_with
theorem dX0_onlyMap_0 : decode cX0_onlyMap 0 = .ok (.iconst 0, 1) := by decide +kernel
theorem dX0_onlyMap_1 : decode cX0_onlyMap 1 = .ok (.istore_n 2, 1) := by decide +kernel
theorem dX0_onlyMap_2 : decode cX0_onlyMap 2 = .ok (.iconst 0, 1) := by decide +kernel
theorem dX0_onlyMap_3 : decode cX0_onlyMap 3 = .ok (.istore_n 3, 1) := by decide +kernel
theorem dX0_onlyMap_4 : decode cX0_onlyMap 4 = .ok (.iload_n 3, 1) := by decide +kernel
theorem dX0_onlyMap_5 : decode cX0_onlyMap 5 = .ok (.iload_n 1, 1) := by decide +kernel
theorem dX0_onlyMap_6 : decode cX0_onlyMap 6 = .ok (.if_icmp .ge 20, 3) := by decide +kernel
theorem dX0_onlyMap_9 : decode cX0_onlyMap 9 = .ok (.iload_n 2, 1) := by decide +kernel
theorem dX0_onlyMap_10 : decode cX0_onlyMap 10 = .ok (.iload_n 3, 1) := by decide +kernel
theorem dX0_onlyMap_11 : decode cX0_onlyMap 11 = .ok (.iload_n 0, 1) := by decide +kernel
theorem dX0_onlyMap_12 : decode cX0_onlyMap 12 = .ok (.iload_n 3, 1) := by decide +kernel
theorem dX0_onlyMap_13 : decode cX0_onlyMap 13 = .ok (.invokestatic 7, 3) := by decide +kernel
theorem dX0_onlyMap_16 : decode cX0_onlyMap 16 = .ok (.invokestatic 13, 3) := by decide +kernel
theorem dX0_onlyMap_19 : decode cX0_onlyMap 19 = .ok (.istore_n 2, 1) := by decide +kernel
theorem dX0_onlyMap_20 : decode cX0_onlyMap 20 = .ok (.iinc 3 1, 3) := by decide +kernel
theorem dX0_onlyMap_23 : decode cX0_onlyMap 23 = .ok (.goto (-19), 3) := by decide +kernel
theorem dX0_onlyMap_26 : decode cX0_onlyMap 26 = .ok (.iload_n 2, 1) := by decide +kernel
theorem dX0_onlyMap_27 : decode cX0_onlyMap 27 = .ok (.ireturn, 1) := by decide +kernel
theorem dX1_weight_0 : decode cX1_weight 0 = .ok (.iload_n 0, 1) := by decide +kernel
theorem dX1_weight_1 : decode cX1_weight 1 = .ok (.ifCond .lt 19, 3) := by decide +kernel
theorem dX1_weight_4 : decode cX1_weight 4 = .ok (.iload_n 0, 1) := by decide +kernel
theorem dX1_weight_5 : decode cX1_weight 5 = .ok (.getstatic 9, 3) := by decide +kernel
theorem dX1_weight_8 : decode cX1_weight 8 = .ok (.arraylength, 1) := by decide +kernel
theorem dX1_weight_9 : decode cX1_weight 9 = .ok (.if_icmp .ge 11, 3) := by decide +kernel
theorem dX1_weight_12 : decode cX1_weight 12 = .ok (.getstatic 9, 3) := by decide +kernel
theorem dX1_weight_15 : decode cX1_weight 15 = .ok (.iload_n 0, 1) := by decide +kernel
theorem dX1_weight_16 : decode cX1_weight 16 = .ok (.iaload, 1) := by decide +kernel
theorem dX1_weight_17 : decode cX1_weight 17 = .ok (.goto 4, 3) := by decide +kernel
theorem dX1_weight_20 : decode cX1_weight 20 = .ok (.iconst 1, 1) := by decide +kernel
theorem dX1_weight_21 : decode cX1_weight 21 = .ok (.ireturn, 1) := by decide +kernel
set_option maxRecDepth 20000 in
theorem ggX1_countOf_X1_weight : GoodIn wsX1_countOf wsX1_weight := goodIn_r _ [4, 5] (by decide +kernel) (by decide +kernel)
set_option maxRecDepth 20000 in
theorem gX1_countOf_X1_weight : GoodIn wsX1_countOf (va_wsS RX1 15 yX1_weight wsX1_weight) := goodIn_app (goodIn_of _ (by decide +kernel)) ggX1_countOf_X1_weight
theorem dX1_countOf_0 : decode cX1_countOf 0 = .ok (.iload_n 0, 1) := by decide +kernel
theorem dX1_countOf_1 : decode cX1_countOf 1 = .ok (.iconst 1, 1) := by decide +kernel
theorem dX1_countOf_2 : decode cX1_countOf 2 = .ok (.isub, 1) := by decide +kernel
theorem dX1_countOf_3 : decode cX1_countOf 3 = .ok (.invokestatic 15, 3) := by decide +kernel
theorem dX1_countOf_6 : decode cX1_countOf 6 = .ok (.istore_n 1, 1) := by decide +kernel
theorem dX1_countOf_7 : decode cX1_countOf 7 = .ok (.iload_n 1, 1) := by decide +kernel
theorem dX1_countOf_8 : decode cX1_countOf 8 = .ok (.iconst 1, 1) := by decide +kernel
theorem dX1_countOf_9 : decode cX1_countOf 9 = .ok (.if_icmp .ge 7, 3) := by decide +kernel
theorem dX1_countOf_12 : decode cX1_countOf 12 = .ok (.iconst 0, 1) := by decide +kernel
theorem dX1_countOf_13 : decode cX1_countOf 13 = .ok (.goto 8, 3) := by decide +kernel
theorem dX1_countOf_16 : decode cX1_countOf 16 = .ok (.sipush 15625, 3) := by decide +kernel
theorem dX1_countOf_19 : decode cX1_countOf 19 = .ok (.iload_n 1, 1) := by decide +kernel
theorem dX1_countOf_20 : decode cX1_countOf 20 = .ok (.idiv, 1) := by decide +kernel
theorem dX1_countOf_21 : decode cX1_countOf 21 = .ok (.ireturn, 1) := by decide +kernel
set_option maxRecDepth 20000 in
theorem ggX1_signAt_X1_weight : GoodIn wsX1_signAt wsX1_weight := goodIn_r _ [4, 5] (by decide +kernel) (by decide +kernel)
set_option maxRecDepth 20000 in
theorem gX1_signAt_X1_weight : GoodIn wsX1_signAt (va_wsS RX1 15 yX1_weight wsX1_weight) := goodIn_app (goodIn_of _ (by decide +kernel)) ggX1_signAt_X1_weight
set_option maxRecDepth 20000 in
theorem ggX1_signAt_X1_signBy : GoodIn wsX1_signAt wsX1_signBy := goodIn_r _ [8] (by decide +kernel) (by decide +kernel)
set_option maxRecDepth 20000 in
theorem gX1_signAt_X1_signBy : GoodIn wsX1_signAt (va_wsS RX1 19 yX1_signBy wsX1_signBy) := goodIn_app (goodIn_of _ (by decide +kernel)) ggX1_signAt_X1_signBy
theorem dX1_signAt_0 : decode cX1_signAt 0 = .ok (.iload_n 0, 1) := by decide +kernel
theorem dX1_signAt_1 : decode cX1_signAt 1 = .ok (.iload_n 1, 1) := by decide +kernel
theorem dX1_signAt_2 : decode cX1_signAt 2 = .ok (.invokestatic 15, 3) := by decide +kernel
theorem dX1_signAt_5 : decode cX1_signAt 5 = .ok (.invokestatic 19, 3) := by decide +kernel
theorem dX1_signAt_8 : decode cX1_signAt 8 = .ok (.ireturn, 1) := by decide +kernel
theorem dX1_signBy_0 : decode cX1_signBy 0 = .ok (.iload_n 1, 1) := by decide +kernel
theorem dX1_signBy_1 : decode cX1_signBy 1 = .ok (.iconst 1, 1) := by decide +kernel
theorem dX1_signBy_2 : decode cX1_signBy 2 = .ok (.if_icmp .ge 7, 3) := by decide +kernel
theorem dX1_signBy_5 : decode cX1_signBy 5 = .ok (.iconst 0, 1) := by decide +kernel
theorem dX1_signBy_6 : decode cX1_signBy 6 = .ok (.goto 8, 3) := by decide +kernel
theorem dX1_signBy_9 : decode cX1_signBy 9 = .ok (.iload_n 0, 1) := by decide +kernel
theorem dX1_signBy_10 : decode cX1_signBy 10 = .ok (.iload_n 1, 1) := by decide +kernel
theorem dX1_signBy_11 : decode cX1_signBy 11 = .ok (.idiv, 1) := by decide +kernel
theorem dX1_signBy_12 : decode cX1_signBy 12 = .ok (.iconst 5, 1) := by decide +kernel
theorem dX1_signBy_13 : decode cX1_signBy 13 = .ok (.irem, 1) := by decide +kernel
theorem dX1_signBy_14 : decode cX1_signBy 14 = .ok (.ireturn, 1) := by decide +kernel
set_option maxRecDepth 20000 in
theorem ggX1_with_X1_signAt : GoodIn wsX1_with wsX1_signAt := goodIn_r _ [4, 5, 6, 3, 7, 8, 9, 10, 11] (by decide +kernel) (by decide +kernel)
set_option maxRecDepth 20000 in
theorem gX1_with_X1_signAt : GoodIn wsX1_with (va_wsS RX1 23 yX1_signAt wsX1_signAt) := goodIn_app (goodIn_of _ (by decide +kernel)) ggX1_with_X1_signAt
set_option maxRecDepth 20000 in
theorem ggX1_with_X1_weight : GoodIn wsX1_with wsX1_weight := goodIn_r _ [7, 8] (by decide +kernel) (by decide +kernel)
set_option maxRecDepth 20000 in
theorem gX1_with_X1_weight : GoodIn wsX1_with (va_wsS RX1 15 yX1_weight wsX1_weight) := goodIn_app (goodIn_of _ (by decide +kernel)) ggX1_with_X1_weight
theorem dX1_with_0 : decode cX1_with 0 = .ok (.iload_n 0, 1) := by decide +kernel
theorem dX1_with_1 : decode cX1_with 1 = .ok (.iload_n 2, 1) := by decide +kernel
theorem dX1_with_2 : decode cX1_with 2 = .ok (.iload_n 0, 1) := by decide +kernel
theorem dX1_with_3 : decode cX1_with 3 = .ok (.iload_n 1, 1) := by decide +kernel
theorem dX1_with_4 : decode cX1_with 4 = .ok (.invokestatic 23, 3) := by decide +kernel
theorem dX1_with_7 : decode cX1_with 7 = .ok (.isub, 1) := by decide +kernel
theorem dX1_with_8 : decode cX1_with 8 = .ok (.iload_n 1, 1) := by decide +kernel
theorem dX1_with_9 : decode cX1_with 9 = .ok (.invokestatic 15, 3) := by decide +kernel
theorem dX1_with_12 : decode cX1_with 12 = .ok (.imul, 1) := by decide +kernel
theorem dX1_with_13 : decode cX1_with 13 = .ok (.iadd, 1) := by decide +kernel
theorem dX1_with_14 : decode cX1_with 14 = .ok (.ireturn, 1) := by decide +kernel
set_option maxRecDepth 20000 in
theorem ggX1_unlike_X1_signAt : GoodIn wsX1_unlike wsX1_signAt := goodIn_r _ [4, 5, 6, 3, 7, 8, 9, 10, 11] (by decide +kernel) (by decide +kernel)
set_option maxRecDepth 20000 in
theorem gX1_unlike_X1_signAt : GoodIn wsX1_unlike (va_wsS RX1 23 yX1_signAt wsX1_signAt) := goodIn_app (goodIn_of _ (by decide +kernel)) ggX1_unlike_X1_signAt
theorem dX1_unlike_0 : decode cX1_unlike 0 = .ok (.iconst 0, 1) := by decide +kernel
theorem dX1_unlike_1 : decode cX1_unlike 1 = .ok (.istore_n 2, 1) := by decide +kernel
theorem dX1_unlike_2 : decode cX1_unlike 2 = .ok (.iconst 0, 1) := by decide +kernel
theorem dX1_unlike_3 : decode cX1_unlike 3 = .ok (.istore_n 3, 1) := by decide +kernel
theorem dX1_unlike_4 : decode cX1_unlike 4 = .ok (.iload_n 3, 1) := by decide +kernel
theorem dX1_unlike_5 : decode cX1_unlike 5 = .ok (.bipush 6, 2) := by decide +kernel
theorem dX1_unlike_7 : decode cX1_unlike 7 = .ok (.if_icmp .ge 25, 3) := by decide +kernel
theorem dX1_unlike_10 : decode cX1_unlike 10 = .ok (.iload_n 0, 1) := by decide +kernel
theorem dX1_unlike_11 : decode cX1_unlike 11 = .ok (.iload_n 3, 1) := by decide +kernel
theorem dX1_unlike_12 : decode cX1_unlike 12 = .ok (.invokestatic 23, 3) := by decide +kernel
theorem dX1_unlike_15 : decode cX1_unlike 15 = .ok (.iload_n 1, 1) := by decide +kernel
theorem dX1_unlike_16 : decode cX1_unlike 16 = .ok (.iload_n 3, 1) := by decide +kernel
theorem dX1_unlike_17 : decode cX1_unlike 17 = .ok (.invokestatic 23, 3) := by decide +kernel
theorem dX1_unlike_20 : decode cX1_unlike 20 = .ok (.if_icmp .eq 6, 3) := by decide +kernel
theorem dX1_unlike_23 : decode cX1_unlike 23 = .ok (.iinc 2 1, 3) := by decide +kernel
theorem dX1_unlike_26 : decode cX1_unlike 26 = .ok (.iinc 3 1, 3) := by decide +kernel
theorem dX1_unlike_29 : decode cX1_unlike 29 = .ok (.goto (-25), 3) := by decide +kernel
theorem dX1_unlike_32 : decode cX1_unlike 32 = .ok (.iload_n 2, 1) := by decide +kernel
theorem dX1_unlike_33 : decode cX1_unlike 33 = .ok (.ireturn, 1) := by decide +kernel
theorem dX2_init_0 : decode cX2_init 0 = .ok (.aload_n 0, 1) := by decide +kernel
theorem dX2_init_1 : decode cX2_init 1 = .ok (.invokespecial 3, 3) := by decide +kernel
theorem dX2_init_4 : decode cX2_init 4 = .ok (.aload_n 0, 1) := by decide +kernel
theorem dX2_init_5 : decode cX2_init 5 = .ok (.bipush 40, 2) := by decide +kernel
theorem dX2_init_7 : decode cX2_init 7 = .ok (.newarray .int, 2) := by decide +kernel
theorem dX2_init_9 : decode cX2_init 9 = .ok (.putfield 9, 3) := by decide +kernel
theorem dX2_init_12 : decode cX2_init 12 = .ok (.aload_n 0, 1) := by decide +kernel
theorem dX2_init_13 : decode cX2_init 13 = .ok (.bipush 10, 2) := by decide +kernel
theorem dX2_init_15 : decode cX2_init 15 = .ok (.newarray .int, 2) := by decide +kernel
theorem dX2_init_17 : decode cX2_init 17 = .ok (.putfield 15, 3) := by decide +kernel
theorem dX2_init_20 : decode cX2_init 20 = .ok (.return_, 1) := by decide +kernel
theorem dX2_put_0 : decode cX2_put 0 = .ok (.aload_n 0, 1) := by decide +kernel
theorem dX2_put_1 : decode cX2_put 1 = .ok (.getfield 18, 3) := by decide +kernel
theorem dX2_put_4 : decode cX2_put 4 = .ok (.ifCond .lt 15, 3) := by decide +kernel
theorem dX2_put_7 : decode cX2_put 7 = .ok (.aload_n 0, 1) := by decide +kernel
theorem dX2_put_8 : decode cX2_put 8 = .ok (.getfield 18, 3) := by decide +kernel
theorem dX2_put_11 : decode cX2_put 11 = .ok (.aload_n 0, 1) := by decide +kernel
theorem dX2_put_12 : decode cX2_put 12 = .ok (.getfield 9, 3) := by decide +kernel
theorem dX2_put_15 : decode cX2_put 15 = .ok (.arraylength, 1) := by decide +kernel
theorem dX2_put_16 : decode cX2_put 16 = .ok (.if_icmp .lt 5, 3) := by decide +kernel
theorem dX2_put_19 : decode cX2_put 19 = .ok (.iconst 0, 1) := by decide +kernel
theorem dX2_put_20 : decode cX2_put 20 = .ok (.ireturn, 1) := by decide +kernel
theorem dX2_put_21 : decode cX2_put 21 = .ok (.aload_n 0, 1) := by decide +kernel
theorem dX2_put_22 : decode cX2_put 22 = .ok (.getfield 9, 3) := by decide +kernel
theorem dX2_put_25 : decode cX2_put 25 = .ok (.aload_n 0, 1) := by decide +kernel
theorem dX2_put_26 : decode cX2_put 26 = .ok (.getfield 18, 3) := by decide +kernel
theorem dX2_put_29 : decode cX2_put 29 = .ok (.iload_n 1, 1) := by decide +kernel
theorem dX2_put_30 : decode cX2_put 30 = .ok (.iastore, 1) := by decide +kernel
theorem dX2_put_31 : decode cX2_put 31 = .ok (.aload_n 0, 1) := by decide +kernel
theorem dX2_put_32 : decode cX2_put 32 = .ok (.dup, 1) := by decide +kernel
theorem dX2_put_33 : decode cX2_put 33 = .ok (.getfield 18, 3) := by decide +kernel
theorem dX2_put_36 : decode cX2_put 36 = .ok (.iconst 1, 1) := by decide +kernel
theorem dX2_put_37 : decode cX2_put 37 = .ok (.iadd, 1) := by decide +kernel
theorem dX2_put_38 : decode cX2_put 38 = .ok (.putfield 18, 3) := by decide +kernel
theorem dX2_put_41 : decode cX2_put 41 = .ok (.iconst 1, 1) := by decide +kernel
theorem dX2_put_42 : decode cX2_put 42 = .ok (.ireturn, 1) := by decide +kernel
theorem dX2_signAt_0 : decode cX2_signAt 0 = .ok (.iload_n 1, 1) := by decide +kernel
theorem dX2_signAt_1 : decode cX2_signAt 1 = .ok (.ifCond .lt 29, 3) := by decide +kernel
theorem dX2_signAt_4 : decode cX2_signAt 4 = .ok (.iload_n 1, 1) := by decide +kernel
theorem dX2_signAt_5 : decode cX2_signAt 5 = .ok (.aload_n 0, 1) := by decide +kernel
theorem dX2_signAt_6 : decode cX2_signAt 6 = .ok (.getfield 18, 3) := by decide +kernel
theorem dX2_signAt_9 : decode cX2_signAt 9 = .ok (.if_icmp .ge 21, 3) := by decide +kernel
theorem dX2_signAt_12 : decode cX2_signAt 12 = .ok (.iload_n 1, 1) := by decide +kernel
theorem dX2_signAt_13 : decode cX2_signAt 13 = .ok (.aload_n 0, 1) := by decide +kernel
theorem dX2_signAt_14 : decode cX2_signAt 14 = .ok (.getfield 9, 3) := by decide +kernel
theorem dX2_signAt_17 : decode cX2_signAt 17 = .ok (.arraylength, 1) := by decide +kernel
theorem dX2_signAt_18 : decode cX2_signAt 18 = .ok (.if_icmp .ge 12, 3) := by decide +kernel
theorem dX2_signAt_21 : decode cX2_signAt 21 = .ok (.aload_n 0, 1) := by decide +kernel
theorem dX2_signAt_22 : decode cX2_signAt 22 = .ok (.getfield 9, 3) := by decide +kernel
theorem dX2_signAt_25 : decode cX2_signAt 25 = .ok (.iload_n 1, 1) := by decide +kernel
theorem dX2_signAt_26 : decode cX2_signAt 26 = .ok (.iaload, 1) := by decide +kernel
theorem dX2_signAt_27 : decode cX2_signAt 27 = .ok (.goto 4, 3) := by decide +kernel
theorem dX2_signAt_30 : decode cX2_signAt 30 = .ok (.iconst 0, 1) := by decide +kernel
theorem dX2_signAt_31 : decode cX2_signAt 31 = .ok (.ireturn, 1) := by decide +kernel
set_option maxRecDepth 20000 in
theorem ggX2_markAt_X2_signAt : GoodIn wsX2_markAt wsX2_signAt := goodIn_r _ [5, 6, 7, 13, 14, 15] (by decide +kernel) (by decide +kernel)
set_option maxRecDepth 20000 in
theorem gX2_markAt_X2_signAt : GoodIn wsX2_markAt (wsV RX2 22 RX2 yX2_signAt wsX2_signAt) := goodIn_app (goodIn_of _ (by decide +kernel)) ggX2_markAt_X2_signAt
set_option maxRecDepth 20000 in
theorem ggX2_markAt_X5_number : GoodIn wsX2_markAt wsX5_number := goodIn_r _ [11, 12] (by decide +kernel) (by decide +kernel)
set_option maxRecDepth 20000 in
theorem gX2_markAt_X5_number : GoodIn wsX2_markAt (va_wsS RX2 26 yX5_number wsX5_number) := goodIn_app (goodIn_of _ (by decide +kernel)) ggX2_markAt_X5_number
theorem dX2_markAt_0 : decode cX2_markAt 0 = .ok (.aload_n 0, 1) := by decide +kernel
theorem dX2_markAt_1 : decode cX2_markAt 1 = .ok (.iload_n 1, 1) := by decide +kernel
theorem dX2_markAt_2 : decode cX2_markAt 2 = .ok (.invokevirtual 22, 3) := by decide +kernel
theorem dX2_markAt_5 : decode cX2_markAt 5 = .ok (.invokestatic 26, 3) := by decide +kernel
theorem dX2_markAt_8 : decode cX2_markAt 8 = .ok (.ireturn, 1) := by decide +kernel
set_option maxRecDepth 20000 in
theorem ggX2_firstWrong_X2_firstWrongOfSlips : GoodIn wsX2_firstWrong wsX2_firstWrongOfSlips := goodIn_r _ [6, 1, 7, 8, 9, 5, 10, 11, 12, 13, 14, 15, 16, 17, 18, 19, 20, 21, 22, 23, 24, 25, 26, 27, 28, 29, 30, 31, 32, 33, 34, 35, 36, 37, 38, 39] (by decide +kernel) (by decide +kernel)
set_option maxRecDepth 20000 in
theorem gX2_firstWrong_X2_firstWrongOfSlips : GoodIn wsX2_firstWrong (wsV RX2 31 RX2 yX2_firstWrongOfSlips wsX2_firstWrongOfSlips) := goodIn_app (goodIn_of _ (by decide +kernel)) ggX2_firstWrong_X2_firstWrongOfSlips
set_option maxRecDepth 20000 in
theorem ggX2_firstWrong_X2_markAt : GoodIn wsX2_firstWrong wsX2_markAt := goodIn_r _ [27, 15, 16, 17, 5, 18, 1, 19, 28, 29, 30, 31, 32, 37, 38, 39] (by decide +kernel) (by decide +kernel)
set_option maxRecDepth 20000 in
theorem gX2_firstWrong_X2_markAt : GoodIn wsX2_firstWrong (wsV RX2 34 RX2 yX2_markAt wsX2_markAt) := goodIn_app (goodIn_of _ (by decide +kernel)) ggX2_firstWrong_X2_markAt
theorem dX2_firstWrong_0 : decode cX2_firstWrong 0 = .ok (.iload_n 1, 1) := by decide +kernel
theorem dX2_firstWrong_1 : decode cX2_firstWrong 1 = .ok (.iconst 1, 1) := by decide +kernel
theorem dX2_firstWrong_2 : decode cX2_firstWrong 2 = .ok (.if_icmp .ne 9, 3) := by decide +kernel
theorem dX2_firstWrong_5 : decode cX2_firstWrong 5 = .ok (.aload_n 0, 1) := by decide +kernel
theorem dX2_firstWrong_6 : decode cX2_firstWrong 6 = .ok (.iload_n 2, 1) := by decide +kernel
theorem dX2_firstWrong_7 : decode cX2_firstWrong 7 = .ok (.invokevirtual 31, 3) := by decide +kernel
theorem dX2_firstWrong_10 : decode cX2_firstWrong 10 = .ok (.ireturn, 1) := by decide +kernel
theorem dX2_firstWrong_11 : decode cX2_firstWrong 11 = .ok (.iload_n 1, 1) := by decide +kernel
theorem dX2_firstWrong_12 : decode cX2_firstWrong 12 = .ok (.iconst 2, 1) := by decide +kernel
theorem dX2_firstWrong_13 : decode cX2_firstWrong 13 = .ok (.if_icmp .ne 7, 3) := by decide +kernel
theorem dX2_firstWrong_16 : decode cX2_firstWrong 16 = .ok (.iconst 5, 1) := by decide +kernel
theorem dX2_firstWrong_17 : decode cX2_firstWrong 17 = .ok (.goto 4, 3) := by decide +kernel
theorem dX2_firstWrong_20 : decode cX2_firstWrong 20 = .ok (.iconst 4, 1) := by decide +kernel
theorem dX2_firstWrong_21 : decode cX2_firstWrong 21 = .ok (.istore_n 3, 1) := by decide +kernel
theorem dX2_firstWrong_22 : decode cX2_firstWrong 22 = .ok (.iconst 0, 1) := by decide +kernel
theorem dX2_firstWrong_23 : decode cX2_firstWrong 23 = .ok (.istore 4, 2) := by decide +kernel
theorem dX2_firstWrong_25 : decode cX2_firstWrong 25 = .ok (.iload 4, 2) := by decide +kernel
theorem dX2_firstWrong_27 : decode cX2_firstWrong 27 = .ok (.aload_n 0, 1) := by decide +kernel
theorem dX2_firstWrong_28 : decode cX2_firstWrong 28 = .ok (.getfield 18, 3) := by decide +kernel
theorem dX2_firstWrong_31 : decode cX2_firstWrong 31 = .ok (.if_icmp .ge 37, 3) := by decide +kernel
theorem dX2_firstWrong_34 : decode cX2_firstWrong 34 = .ok (.aload_n 0, 1) := by decide +kernel
theorem dX2_firstWrong_35 : decode cX2_firstWrong 35 = .ok (.iload 4, 2) := by decide +kernel
theorem dX2_firstWrong_37 : decode cX2_firstWrong 37 = .ok (.invokevirtual 34, 3) := by decide +kernel
theorem dX2_firstWrong_40 : decode cX2_firstWrong 40 = .ok (.istore 5, 2) := by decide +kernel
theorem dX2_firstWrong_42 : decode cX2_firstWrong 42 = .ok (.iload 4, 2) := by decide +kernel
theorem dX2_firstWrong_44 : decode cX2_firstWrong 44 = .ok (.iload_n 2, 1) := by decide +kernel
theorem dX2_firstWrong_45 : decode cX2_firstWrong 45 = .ok (.if_icmp .ge 14, 3) := by decide +kernel
theorem dX2_firstWrong_48 : decode cX2_firstWrong 48 = .ok (.iload 5, 2) := by decide +kernel
theorem dX2_firstWrong_50 : decode cX2_firstWrong 50 = .ok (.ifCond .lt 9, 3) := by decide +kernel
theorem dX2_firstWrong_53 : decode cX2_firstWrong 53 = .ok (.iload 5, 2) := by decide +kernel
theorem dX2_firstWrong_55 : decode cX2_firstWrong 55 = .ok (.iload_n 3, 1) := by decide +kernel
theorem dX2_firstWrong_56 : decode cX2_firstWrong 56 = .ok (.if_icmp .le 6, 3) := by decide +kernel
theorem dX2_firstWrong_59 : decode cX2_firstWrong 59 = .ok (.iload 4, 2) := by decide +kernel
theorem dX2_firstWrong_61 : decode cX2_firstWrong 61 = .ok (.ireturn, 1) := by decide +kernel
theorem dX2_firstWrong_62 : decode cX2_firstWrong 62 = .ok (.iinc 4 1, 3) := by decide +kernel
theorem dX2_firstWrong_65 : decode cX2_firstWrong 65 = .ok (.goto (-40), 3) := by decide +kernel
theorem dX2_firstWrong_68 : decode cX2_firstWrong 68 = .ok (.aload_n 0, 1) := by decide +kernel
theorem dX2_firstWrong_69 : decode cX2_firstWrong 69 = .ok (.getfield 18, 3) := by decide +kernel
theorem dX2_firstWrong_72 : decode cX2_firstWrong 72 = .ok (.iload_n 2, 1) := by decide +kernel
theorem dX2_firstWrong_73 : decode cX2_firstWrong 73 = .ok (.if_icmp .ge 10, 3) := by decide +kernel
theorem dX2_firstWrong_76 : decode cX2_firstWrong 76 = .ok (.aload_n 0, 1) := by decide +kernel
theorem dX2_firstWrong_77 : decode cX2_firstWrong 77 = .ok (.getfield 18, 3) := by decide +kernel
theorem dX2_firstWrong_80 : decode cX2_firstWrong 80 = .ok (.goto 5, 3) := by decide +kernel
theorem dX2_firstWrong_83 : decode cX2_firstWrong 83 = .ok (.bipush (-6), 2) := by decide +kernel
theorem dX2_firstWrong_85 : decode cX2_firstWrong 85 = .ok (.ireturn, 1) := by decide +kernel
set_option maxRecDepth 20000 in
theorem ggX2_firstWrongOfSlips_X2_firstWrongOfSlip : GoodIn wsX2_firstWrongOfSlips wsX2_firstWrongOfSlip := goodIn_r _ [6, 1, 7, 8, 9, 5, 10, 11, 12, 13, 14, 15, 16, 17, 18, 19, 20, 21, 22, 23, 24, 25, 26, 27, 28, 33, 34, 35] (by decide +kernel) (by decide +kernel)
set_option maxRecDepth 20000 in
theorem gX2_firstWrongOfSlips_X2_firstWrongOfSlip : GoodIn wsX2_firstWrongOfSlips (wsV RX2 37 RX2 yX2_firstWrongOfSlip wsX2_firstWrongOfSlip) := goodIn_app (goodIn_of _ (by decide +kernel)) ggX2_firstWrongOfSlips_X2_firstWrongOfSlip
set_option maxRecDepth 20000 in
theorem ggX2_firstWrongOfSlips_X2_lengthOfSlip : GoodIn wsX2_firstWrongOfSlips wsX2_lengthOfSlip := goodIn_r _ [32, 7, 8, 9, 5, 10, 11, 12, 13, 14, 1, 15, 33, 34, 35] (by decide +kernel) (by decide +kernel)
set_option maxRecDepth 20000 in
theorem gX2_firstWrongOfSlips_X2_lengthOfSlip : GoodIn wsX2_firstWrongOfSlips (wsV RX2 41 RX2 yX2_lengthOfSlip wsX2_lengthOfSlip) := goodIn_app (goodIn_of _ (by decide +kernel)) ggX2_firstWrongOfSlips_X2_lengthOfSlip
theorem dX2_firstWrongOfSlips_0 : decode cX2_firstWrongOfSlips 0 = .ok (.iconst 0, 1) := by decide +kernel
theorem dX2_firstWrongOfSlips_1 : decode cX2_firstWrongOfSlips 1 = .ok (.istore_n 2, 1) := by decide +kernel
theorem dX2_firstWrongOfSlips_2 : decode cX2_firstWrongOfSlips 2 = .ok (.iconst 0, 1) := by decide +kernel
theorem dX2_firstWrongOfSlips_3 : decode cX2_firstWrongOfSlips 3 = .ok (.istore_n 3, 1) := by decide +kernel
theorem dX2_firstWrongOfSlips_4 : decode cX2_firstWrongOfSlips 4 = .ok (.iload_n 3, 1) := by decide +kernel
theorem dX2_firstWrongOfSlips_5 : decode cX2_firstWrongOfSlips 5 = .ok (.bipush 10, 2) := by decide +kernel
theorem dX2_firstWrongOfSlips_7 : decode cX2_firstWrongOfSlips 7 = .ok (.if_icmp .ge 43, 3) := by decide +kernel
theorem dX2_firstWrongOfSlips_10 : decode cX2_firstWrongOfSlips 10 = .ok (.iload_n 2, 1) := by decide +kernel
theorem dX2_firstWrongOfSlips_11 : decode cX2_firstWrongOfSlips 11 = .ok (.aload_n 0, 1) := by decide +kernel
theorem dX2_firstWrongOfSlips_12 : decode cX2_firstWrongOfSlips 12 = .ok (.getfield 18, 3) := by decide +kernel
theorem dX2_firstWrongOfSlips_15 : decode cX2_firstWrongOfSlips 15 = .ok (.if_icmp .ge 35, 3) := by decide +kernel
theorem dX2_firstWrongOfSlips_18 : decode cX2_firstWrongOfSlips 18 = .ok (.aload_n 0, 1) := by decide +kernel
theorem dX2_firstWrongOfSlips_19 : decode cX2_firstWrongOfSlips 19 = .ok (.iload_n 2, 1) := by decide +kernel
theorem dX2_firstWrongOfSlips_20 : decode cX2_firstWrongOfSlips 20 = .ok (.iload_n 1, 1) := by decide +kernel
theorem dX2_firstWrongOfSlips_21 : decode cX2_firstWrongOfSlips 21 = .ok (.invokevirtual 37, 3) := by decide +kernel
theorem dX2_firstWrongOfSlips_24 : decode cX2_firstWrongOfSlips 24 = .ok (.istore 4, 2) := by decide +kernel
theorem dX2_firstWrongOfSlips_26 : decode cX2_firstWrongOfSlips 26 = .ok (.iload 4, 2) := by decide +kernel
theorem dX2_firstWrongOfSlips_28 : decode cX2_firstWrongOfSlips 28 = .ok (.bipush (-6), 2) := by decide +kernel
theorem dX2_firstWrongOfSlips_30 : decode cX2_firstWrongOfSlips 30 = .ok (.if_icmp .eq 6, 3) := by decide +kernel
theorem dX2_firstWrongOfSlips_33 : decode cX2_firstWrongOfSlips 33 = .ok (.iload 4, 2) := by decide +kernel
theorem dX2_firstWrongOfSlips_35 : decode cX2_firstWrongOfSlips 35 = .ok (.ireturn, 1) := by decide +kernel
theorem dX2_firstWrongOfSlips_36 : decode cX2_firstWrongOfSlips 36 = .ok (.iload_n 2, 1) := by decide +kernel
theorem dX2_firstWrongOfSlips_37 : decode cX2_firstWrongOfSlips 37 = .ok (.aload_n 0, 1) := by decide +kernel
theorem dX2_firstWrongOfSlips_38 : decode cX2_firstWrongOfSlips 38 = .ok (.iload_n 2, 1) := by decide +kernel
theorem dX2_firstWrongOfSlips_39 : decode cX2_firstWrongOfSlips 39 = .ok (.invokevirtual 41, 3) := by decide +kernel
theorem dX2_firstWrongOfSlips_42 : decode cX2_firstWrongOfSlips 42 = .ok (.iadd, 1) := by decide +kernel
theorem dX2_firstWrongOfSlips_43 : decode cX2_firstWrongOfSlips 43 = .ok (.istore_n 2, 1) := by decide +kernel
theorem dX2_firstWrongOfSlips_44 : decode cX2_firstWrongOfSlips 44 = .ok (.iinc 3 1, 3) := by decide +kernel
theorem dX2_firstWrongOfSlips_47 : decode cX2_firstWrongOfSlips 47 = .ok (.goto (-43), 3) := by decide +kernel
theorem dX2_firstWrongOfSlips_50 : decode cX2_firstWrongOfSlips 50 = .ok (.iload_n 2, 1) := by decide +kernel
theorem dX2_firstWrongOfSlips_51 : decode cX2_firstWrongOfSlips 51 = .ok (.aload_n 0, 1) := by decide +kernel
theorem dX2_firstWrongOfSlips_52 : decode cX2_firstWrongOfSlips 52 = .ok (.getfield 18, 3) := by decide +kernel
theorem dX2_firstWrongOfSlips_55 : decode cX2_firstWrongOfSlips 55 = .ok (.if_icmp .ge 7, 3) := by decide +kernel
theorem dX2_firstWrongOfSlips_58 : decode cX2_firstWrongOfSlips 58 = .ok (.iload_n 2, 1) := by decide +kernel
theorem dX2_firstWrongOfSlips_59 : decode cX2_firstWrongOfSlips 59 = .ok (.goto 5, 3) := by decide +kernel
theorem dX2_firstWrongOfSlips_62 : decode cX2_firstWrongOfSlips 62 = .ok (.bipush (-6), 2) := by decide +kernel
theorem dX2_firstWrongOfSlips_64 : decode cX2_firstWrongOfSlips 64 = .ok (.ireturn, 1) := by decide +kernel
set_option maxRecDepth 20000 in
theorem ggX2_firstWrongOfSlip_X2_kindAt : GoodIn wsX2_firstWrongOfSlip wsX2_kindAt := goodIn_r _ [6, 7, 8, 9, 5, 10, 1, 11, 25, 26, 27] (by decide +kernel) (by decide +kernel)
set_option maxRecDepth 20000 in
theorem gX2_firstWrongOfSlip_X2_kindAt : GoodIn wsX2_firstWrongOfSlip (wsV RX2 44 RX2 yX2_kindAt wsX2_kindAt) := goodIn_app (goodIn_of _ (by decide +kernel)) ggX2_firstWrongOfSlip_X2_kindAt
set_option maxRecDepth 20000 in
theorem ggX2_firstWrongOfSlip_X2_signAt : GoodIn wsX2_firstWrongOfSlip wsX2_signAt := goodIn_r _ [10, 1, 11, 25, 26, 27] (by decide +kernel) (by decide +kernel)
set_option maxRecDepth 20000 in
theorem gX2_firstWrongOfSlip_X2_signAt : GoodIn wsX2_firstWrongOfSlip (wsV RX2 22 RX2 yX2_signAt wsX2_signAt) := goodIn_app (goodIn_of _ (by decide +kernel)) ggX2_firstWrongOfSlip_X2_signAt
set_option maxRecDepth 20000 in
theorem ggX2_firstWrongOfSlip_X6_sitesFor : GoodIn wsX2_firstWrongOfSlip wsX6_sitesFor := goodIn_r _ [15] (by decide +kernel) (by decide +kernel)
set_option maxRecDepth 20000 in
theorem gX2_firstWrongOfSlip_X6_sitesFor : GoodIn wsX2_firstWrongOfSlip (va_wsS RX2 47 yX6_sitesFor wsX6_sitesFor) := goodIn_app (goodIn_of _ (by decide +kernel)) ggX2_firstWrongOfSlip_X6_sitesFor
set_option maxRecDepth 20000 in
theorem ggX2_firstWrongOfSlip_X2_markAt : GoodIn wsX2_firstWrongOfSlip wsX2_markAt := goodIn_r _ [19, 7, 8, 9, 5, 10, 1, 11, 20, 21, 22, 23, 24, 25, 26, 27] (by decide +kernel) (by decide +kernel)
set_option maxRecDepth 20000 in
theorem gX2_firstWrongOfSlip_X2_markAt : GoodIn wsX2_firstWrongOfSlip (wsV RX2 34 RX2 yX2_markAt wsX2_markAt) := goodIn_app (goodIn_of _ (by decide +kernel)) ggX2_firstWrongOfSlip_X2_markAt
theorem dX2_firstWrongOfSlip_0 : decode cX2_firstWrongOfSlip 0 = .ok (.aload_n 0, 1) := by decide +kernel
theorem dX2_firstWrongOfSlip_1 : decode cX2_firstWrongOfSlip 1 = .ok (.iload_n 1, 1) := by decide +kernel
theorem dX2_firstWrongOfSlip_2 : decode cX2_firstWrongOfSlip 2 = .ok (.invokevirtual 44, 3) := by decide +kernel
theorem dX2_firstWrongOfSlip_5 : decode cX2_firstWrongOfSlip 5 = .ok (.istore_n 3, 1) := by decide +kernel
theorem dX2_firstWrongOfSlip_6 : decode cX2_firstWrongOfSlip 6 = .ok (.iload_n 3, 1) := by decide +kernel
theorem dX2_firstWrongOfSlip_7 : decode cX2_firstWrongOfSlip 7 = .ok (.ifCond .ge 5, 3) := by decide +kernel
theorem dX2_firstWrongOfSlip_10 : decode cX2_firstWrongOfSlip 10 = .ok (.iload_n 1, 1) := by decide +kernel
theorem dX2_firstWrongOfSlip_11 : decode cX2_firstWrongOfSlip 11 = .ok (.ireturn, 1) := by decide +kernel
theorem dX2_firstWrongOfSlip_12 : decode cX2_firstWrongOfSlip 12 = .ok (.iload_n 1, 1) := by decide +kernel
theorem dX2_firstWrongOfSlip_13 : decode cX2_firstWrongOfSlip 13 = .ok (.iconst 1, 1) := by decide +kernel
theorem dX2_firstWrongOfSlip_14 : decode cX2_firstWrongOfSlip 14 = .ok (.iadd, 1) := by decide +kernel
theorem dX2_firstWrongOfSlip_15 : decode cX2_firstWrongOfSlip 15 = .ok (.aload_n 0, 1) := by decide +kernel
theorem dX2_firstWrongOfSlip_16 : decode cX2_firstWrongOfSlip 16 = .ok (.getfield 18, 3) := by decide +kernel
theorem dX2_firstWrongOfSlip_19 : decode cX2_firstWrongOfSlip 19 = .ok (.if_icmp .lt 8, 3) := by decide +kernel
theorem dX2_firstWrongOfSlip_22 : decode cX2_firstWrongOfSlip 22 = .ok (.aload_n 0, 1) := by decide +kernel
theorem dX2_firstWrongOfSlip_23 : decode cX2_firstWrongOfSlip 23 = .ok (.getfield 18, 3) := by decide +kernel
theorem dX2_firstWrongOfSlip_26 : decode cX2_firstWrongOfSlip 26 = .ok (.ireturn, 1) := by decide +kernel
theorem dX2_firstWrongOfSlip_27 : decode cX2_firstWrongOfSlip 27 = .ok (.aload_n 0, 1) := by decide +kernel
theorem dX2_firstWrongOfSlip_28 : decode cX2_firstWrongOfSlip 28 = .ok (.iload_n 1, 1) := by decide +kernel
theorem dX2_firstWrongOfSlip_29 : decode cX2_firstWrongOfSlip 29 = .ok (.iconst 1, 1) := by decide +kernel
theorem dX2_firstWrongOfSlip_30 : decode cX2_firstWrongOfSlip 30 = .ok (.iadd, 1) := by decide +kernel
theorem dX2_firstWrongOfSlip_31 : decode cX2_firstWrongOfSlip 31 = .ok (.invokevirtual 22, 3) := by decide +kernel
theorem dX2_firstWrongOfSlip_34 : decode cX2_firstWrongOfSlip 34 = .ok (.bipush 48, 2) := by decide +kernel
theorem dX2_firstWrongOfSlip_36 : decode cX2_firstWrongOfSlip 36 = .ok (.isub, 1) := by decide +kernel
theorem dX2_firstWrongOfSlip_37 : decode cX2_firstWrongOfSlip 37 = .ok (.istore 4, 2) := by decide +kernel
theorem dX2_firstWrongOfSlip_39 : decode cX2_firstWrongOfSlip 39 = .ok (.iload 4, 2) := by decide +kernel
theorem dX2_firstWrongOfSlip_41 : decode cX2_firstWrongOfSlip 41 = .ok (.ifCond .lt 13, 3) := by decide +kernel
theorem dX2_firstWrongOfSlip_44 : decode cX2_firstWrongOfSlip 44 = .ok (.iload 4, 2) := by decide +kernel
theorem dX2_firstWrongOfSlip_46 : decode cX2_firstWrongOfSlip 46 = .ok (.iload_n 3, 1) := by decide +kernel
theorem dX2_firstWrongOfSlip_47 : decode cX2_firstWrongOfSlip 47 = .ok (.iload_n 2, 1) := by decide +kernel
theorem dX2_firstWrongOfSlip_48 : decode cX2_firstWrongOfSlip 48 = .ok (.invokestatic 47, 3) := by decide +kernel
theorem dX2_firstWrongOfSlip_51 : decode cX2_firstWrongOfSlip 51 = .ok (.if_icmp .lt 7, 3) := by decide +kernel
theorem dX2_firstWrongOfSlip_54 : decode cX2_firstWrongOfSlip 54 = .ok (.iload_n 1, 1) := by decide +kernel
theorem dX2_firstWrongOfSlip_55 : decode cX2_firstWrongOfSlip 55 = .ok (.iconst 1, 1) := by decide +kernel
theorem dX2_firstWrongOfSlip_56 : decode cX2_firstWrongOfSlip 56 = .ok (.iadd, 1) := by decide +kernel
theorem dX2_firstWrongOfSlip_57 : decode cX2_firstWrongOfSlip 57 = .ok (.ireturn, 1) := by decide +kernel
theorem dX2_firstWrongOfSlip_58 : decode cX2_firstWrongOfSlip 58 = .ok (.iload_n 3, 1) := by decide +kernel
theorem dX2_firstWrongOfSlip_59 : decode cX2_firstWrongOfSlip 59 = .ok (.ifCond .eq 6, 3) := by decide +kernel
theorem dX2_firstWrongOfSlip_62 : decode cX2_firstWrongOfSlip 62 = .ok (.bipush (-6), 2) := by decide +kernel
theorem dX2_firstWrongOfSlip_64 : decode cX2_firstWrongOfSlip 64 = .ok (.ireturn, 1) := by decide +kernel
theorem dX2_firstWrongOfSlip_65 : decode cX2_firstWrongOfSlip 65 = .ok (.iload_n 1, 1) := by decide +kernel
theorem dX2_firstWrongOfSlip_66 : decode cX2_firstWrongOfSlip 66 = .ok (.iconst 2, 1) := by decide +kernel
theorem dX2_firstWrongOfSlip_67 : decode cX2_firstWrongOfSlip 67 = .ok (.iadd, 1) := by decide +kernel
theorem dX2_firstWrongOfSlip_68 : decode cX2_firstWrongOfSlip 68 = .ok (.aload_n 0, 1) := by decide +kernel
theorem dX2_firstWrongOfSlip_69 : decode cX2_firstWrongOfSlip 69 = .ok (.getfield 18, 3) := by decide +kernel
theorem dX2_firstWrongOfSlip_72 : decode cX2_firstWrongOfSlip 72 = .ok (.if_icmp .lt 8, 3) := by decide +kernel
theorem dX2_firstWrongOfSlip_75 : decode cX2_firstWrongOfSlip 75 = .ok (.aload_n 0, 1) := by decide +kernel
theorem dX2_firstWrongOfSlip_76 : decode cX2_firstWrongOfSlip 76 = .ok (.getfield 18, 3) := by decide +kernel
theorem dX2_firstWrongOfSlip_79 : decode cX2_firstWrongOfSlip 79 = .ok (.ireturn, 1) := by decide +kernel
theorem dX2_firstWrongOfSlip_80 : decode cX2_firstWrongOfSlip 80 = .ok (.aload_n 0, 1) := by decide +kernel
theorem dX2_firstWrongOfSlip_81 : decode cX2_firstWrongOfSlip 81 = .ok (.iload_n 1, 1) := by decide +kernel
theorem dX2_firstWrongOfSlip_82 : decode cX2_firstWrongOfSlip 82 = .ok (.iconst 2, 1) := by decide +kernel
theorem dX2_firstWrongOfSlip_83 : decode cX2_firstWrongOfSlip 83 = .ok (.iadd, 1) := by decide +kernel
theorem dX2_firstWrongOfSlip_84 : decode cX2_firstWrongOfSlip 84 = .ok (.invokevirtual 34, 3) := by decide +kernel
theorem dX2_firstWrongOfSlip_87 : decode cX2_firstWrongOfSlip 87 = .ok (.istore 5, 2) := by decide +kernel
theorem dX2_firstWrongOfSlip_89 : decode cX2_firstWrongOfSlip 89 = .ok (.iload 5, 2) := by decide +kernel
theorem dX2_firstWrongOfSlip_91 : decode cX2_firstWrongOfSlip 91 = .ok (.ifCond .lt 9, 3) := by decide +kernel
theorem dX2_firstWrongOfSlip_94 : decode cX2_firstWrongOfSlip 94 = .ok (.iload 5, 2) := by decide +kernel
theorem dX2_firstWrongOfSlip_96 : decode cX2_firstWrongOfSlip 96 = .ok (.iconst 4, 1) := by decide +kernel
theorem dX2_firstWrongOfSlip_97 : decode cX2_firstWrongOfSlip 97 = .ok (.if_icmp .lt 9, 3) := by decide +kernel
theorem dX2_firstWrongOfSlip_100 : decode cX2_firstWrongOfSlip 100 = .ok (.iload_n 1, 1) := by decide +kernel
theorem dX2_firstWrongOfSlip_101 : decode cX2_firstWrongOfSlip 101 = .ok (.iconst 2, 1) := by decide +kernel
theorem dX2_firstWrongOfSlip_102 : decode cX2_firstWrongOfSlip 102 = .ok (.iadd, 1) := by decide +kernel
theorem dX2_firstWrongOfSlip_103 : decode cX2_firstWrongOfSlip 103 = .ok (.goto 5, 3) := by decide +kernel
theorem dX2_firstWrongOfSlip_106 : decode cX2_firstWrongOfSlip 106 = .ok (.bipush (-6), 2) := by decide +kernel
theorem dX2_firstWrongOfSlip_108 : decode cX2_firstWrongOfSlip 108 = .ok (.ireturn, 1) := by decide +kernel
set_option maxRecDepth 20000 in
theorem ggX2_kindAt_X2_signAt : GoodIn wsX2_kindAt wsX2_signAt := goodIn_r _ [5, 6, 7, 8, 9, 10] (by decide +kernel) (by decide +kernel)
set_option maxRecDepth 20000 in
theorem gX2_kindAt_X2_signAt : GoodIn wsX2_kindAt (wsV RX2 22 RX2 yX2_signAt wsX2_signAt) := goodIn_app (goodIn_of _ (by decide +kernel)) ggX2_kindAt_X2_signAt
theorem dX2_kindAt_0 : decode cX2_kindAt 0 = .ok (.aload_n 0, 1) := by decide +kernel
theorem dX2_kindAt_1 : decode cX2_kindAt 1 = .ok (.iload_n 1, 1) := by decide +kernel
theorem dX2_kindAt_2 : decode cX2_kindAt 2 = .ok (.invokevirtual 22, 3) := by decide +kernel
theorem dX2_kindAt_5 : decode cX2_kindAt 5 = .ok (.lookupswitch 51 #[(99, 43), (111, 49), (115, 45), (116, 47)], 43) := by decide +kernel
theorem dX2_kindAt_48 : decode cX2_kindAt 48 = .ok (.iconst 0, 1) := by decide +kernel
theorem dX2_kindAt_49 : decode cX2_kindAt 49 = .ok (.ireturn, 1) := by decide +kernel
theorem dX2_kindAt_50 : decode cX2_kindAt 50 = .ok (.iconst 1, 1) := by decide +kernel
theorem dX2_kindAt_51 : decode cX2_kindAt 51 = .ok (.ireturn, 1) := by decide +kernel
theorem dX2_kindAt_52 : decode cX2_kindAt 52 = .ok (.iconst 2, 1) := by decide +kernel
theorem dX2_kindAt_53 : decode cX2_kindAt 53 = .ok (.ireturn, 1) := by decide +kernel
theorem dX2_kindAt_54 : decode cX2_kindAt 54 = .ok (.iconst 3, 1) := by decide +kernel
theorem dX2_kindAt_55 : decode cX2_kindAt 55 = .ok (.ireturn, 1) := by decide +kernel
theorem dX2_kindAt_56 : decode cX2_kindAt 56 = .ok (.iconst (-1), 1) := by decide +kernel
theorem dX2_kindAt_57 : decode cX2_kindAt 57 = .ok (.ireturn, 1) := by decide +kernel
set_option maxRecDepth 20000 in
theorem ggX2_lengthOfSlip_X2_kindAt : GoodIn wsX2_lengthOfSlip wsX2_kindAt := goodIn_r _ [5, 6, 7, 8, 4, 9, 10, 11, 12, 13, 14] (by decide +kernel) (by decide +kernel)
set_option maxRecDepth 20000 in
theorem gX2_lengthOfSlip_X2_kindAt : GoodIn wsX2_lengthOfSlip (wsV RX2 44 RX2 yX2_kindAt wsX2_kindAt) := goodIn_app (goodIn_of _ (by decide +kernel)) ggX2_lengthOfSlip_X2_kindAt
theorem dX2_lengthOfSlip_0 : decode cX2_lengthOfSlip 0 = .ok (.aload_n 0, 1) := by decide +kernel
theorem dX2_lengthOfSlip_1 : decode cX2_lengthOfSlip 1 = .ok (.iload_n 1, 1) := by decide +kernel
theorem dX2_lengthOfSlip_2 : decode cX2_lengthOfSlip 2 = .ok (.invokevirtual 44, 3) := by decide +kernel
theorem dX2_lengthOfSlip_5 : decode cX2_lengthOfSlip 5 = .ok (.ifCond .ne 7, 3) := by decide +kernel
theorem dX2_lengthOfSlip_8 : decode cX2_lengthOfSlip 8 = .ok (.iconst 3, 1) := by decide +kernel
theorem dX2_lengthOfSlip_9 : decode cX2_lengthOfSlip 9 = .ok (.goto 4, 3) := by decide +kernel
theorem dX2_lengthOfSlip_12 : decode cX2_lengthOfSlip 12 = .ok (.iconst 2, 1) := by decide +kernel
theorem dX2_lengthOfSlip_13 : decode cX2_lengthOfSlip 13 = .ok (.ireturn, 1) := by decide +kernel
set_option maxRecDepth 20000 in
theorem ggX2_mapCode_X2_markAt : GoodIn wsX2_mapCode wsX2_markAt := goodIn_r _ [6, 7, 8, 9, 5, 10, 1, 11, 12, 13, 14, 15, 16, 31, 32, 33] (by decide +kernel) (by decide +kernel)
set_option maxRecDepth 20000 in
theorem gX2_mapCode_X2_markAt : GoodIn wsX2_mapCode (wsV RX2 34 RX2 yX2_markAt wsX2_markAt) := goodIn_app (goodIn_of _ (by decide +kernel)) ggX2_mapCode_X2_markAt
set_option maxRecDepth 20000 in
theorem ggX2_mapCode_X1_with : GoodIn wsX2_mapCode wsX1_with := goodIn_r _ [20, 21, 22, 19, 23, 24, 25, 26, 27, 28, 29, 30] (by decide +kernel) (by decide +kernel)
set_option maxRecDepth 20000 in
theorem gX2_mapCode_X1_with : GoodIn wsX2_mapCode (va_wsS RX2 52 yX1_with wsX1_with) := goodIn_app (goodIn_of _ (by decide +kernel)) ggX2_mapCode_X1_with
theorem dX2_mapCode_0 : decode cX2_mapCode 0 = .ok (.iconst 0, 1) := by decide +kernel
theorem dX2_mapCode_1 : decode cX2_mapCode 1 = .ok (.istore_n 1, 1) := by decide +kernel
theorem dX2_mapCode_2 : decode cX2_mapCode 2 = .ok (.iconst 0, 1) := by decide +kernel
theorem dX2_mapCode_3 : decode cX2_mapCode 3 = .ok (.istore_n 2, 1) := by decide +kernel
theorem dX2_mapCode_4 : decode cX2_mapCode 4 = .ok (.iload_n 2, 1) := by decide +kernel
theorem dX2_mapCode_5 : decode cX2_mapCode 5 = .ok (.aload_n 0, 1) := by decide +kernel
theorem dX2_mapCode_6 : decode cX2_mapCode 6 = .ok (.getfield 18, 3) := by decide +kernel
theorem dX2_mapCode_9 : decode cX2_mapCode 9 = .ok (.if_icmp .ge 26, 3) := by decide +kernel
theorem dX2_mapCode_12 : decode cX2_mapCode 12 = .ok (.iload_n 2, 1) := by decide +kernel
theorem dX2_mapCode_13 : decode cX2_mapCode 13 = .ok (.bipush 6, 2) := by decide +kernel
theorem dX2_mapCode_15 : decode cX2_mapCode 15 = .ok (.if_icmp .ge 20, 3) := by decide +kernel
theorem dX2_mapCode_18 : decode cX2_mapCode 18 = .ok (.iload_n 1, 1) := by decide +kernel
theorem dX2_mapCode_19 : decode cX2_mapCode 19 = .ok (.iload_n 2, 1) := by decide +kernel
theorem dX2_mapCode_20 : decode cX2_mapCode 20 = .ok (.aload_n 0, 1) := by decide +kernel
theorem dX2_mapCode_21 : decode cX2_mapCode 21 = .ok (.iload_n 2, 1) := by decide +kernel
theorem dX2_mapCode_22 : decode cX2_mapCode 22 = .ok (.invokevirtual 34, 3) := by decide +kernel
theorem dX2_mapCode_25 : decode cX2_mapCode 25 = .ok (.invokestatic 52, 3) := by decide +kernel
theorem dX2_mapCode_28 : decode cX2_mapCode 28 = .ok (.istore_n 1, 1) := by decide +kernel
theorem dX2_mapCode_29 : decode cX2_mapCode 29 = .ok (.iinc 2 1, 3) := by decide +kernel
theorem dX2_mapCode_32 : decode cX2_mapCode 32 = .ok (.goto (-28), 3) := by decide +kernel
theorem dX2_mapCode_35 : decode cX2_mapCode 35 = .ok (.iload_n 1, 1) := by decide +kernel
theorem dX2_mapCode_36 : decode cX2_mapCode 36 = .ok (.ireturn, 1) := by decide +kernel
set_option maxRecDepth 20000 in
theorem ggX2_readSlips_X2_kindAt : GoodIn wsX2_readSlips wsX2_kindAt := goodIn_r _ [7, 8, 9, 10, 6, 11, 2, 12, 30, 31, 32] (by decide +kernel) (by decide +kernel)
set_option maxRecDepth 20000 in
theorem gX2_readSlips_X2_kindAt : GoodIn wsX2_readSlips (wsV RX2 44 RX2 yX2_kindAt wsX2_kindAt) := goodIn_app (goodIn_of _ (by decide +kernel)) ggX2_readSlips_X2_kindAt
set_option maxRecDepth 20000 in
theorem ggX2_readSlips_X2_markAt : GoodIn wsX2_readSlips wsX2_markAt := goodIn_r _ [16, 8, 9, 10, 6, 11, 2, 12, 17, 18, 19, 20, 21, 30, 31, 32] (by decide +kernel) (by decide +kernel)
set_option maxRecDepth 20000 in
theorem gX2_readSlips_X2_markAt : GoodIn wsX2_readSlips (wsV RX2 34 RX2 yX2_markAt wsX2_markAt) := goodIn_app (goodIn_of _ (by decide +kernel)) ggX2_readSlips_X2_markAt
set_option maxRecDepth 20000 in
theorem ggX2_readSlips_X2_signAt : GoodIn wsX2_readSlips wsX2_signAt := goodIn_r _ [11, 2, 12, 30, 31, 32] (by decide +kernel) (by decide +kernel)
set_option maxRecDepth 20000 in
theorem gX2_readSlips_X2_signAt : GoodIn wsX2_readSlips (wsV RX2 22 RX2 yX2_signAt wsX2_signAt) := goodIn_app (goodIn_of _ (by decide +kernel)) ggX2_readSlips_X2_signAt
set_option maxRecDepth 20000 in
theorem ggX2_readSlips_X6_number : GoodIn wsX2_readSlips wsX6_number := goodIn_r _ [25] (by decide +kernel) (by decide +kernel)
set_option maxRecDepth 20000 in
theorem gX2_readSlips_X6_number : GoodIn wsX2_readSlips (va_wsS RX2 58 yX6_number wsX6_number) := goodIn_app (goodIn_of _ (by decide +kernel)) ggX2_readSlips_X6_number
set_option maxRecDepth 20000 in
theorem ggX2_readSlips_X2_lengthOfSlip : GoodIn wsX2_readSlips wsX2_lengthOfSlip := goodIn_r _ [29, 3, 4, 5, 6, 7, 8, 9, 10, 11, 2, 12, 30, 31, 32] (by decide +kernel) (by decide +kernel)
set_option maxRecDepth 20000 in
theorem gX2_readSlips_X2_lengthOfSlip : GoodIn wsX2_readSlips (wsV RX2 41 RX2 yX2_lengthOfSlip wsX2_lengthOfSlip) := goodIn_app (goodIn_of _ (by decide +kernel)) ggX2_readSlips_X2_lengthOfSlip
theorem dX2_readSlips_0 : decode cX2_readSlips 0 = .ok (.iconst 0, 1) := by decide +kernel
theorem dX2_readSlips_1 : decode cX2_readSlips 1 = .ok (.istore_n 1, 1) := by decide +kernel
theorem dX2_readSlips_2 : decode cX2_readSlips 2 = .ok (.iconst 0, 1) := by decide +kernel
theorem dX2_readSlips_3 : decode cX2_readSlips 3 = .ok (.istore_n 2, 1) := by decide +kernel
theorem dX2_readSlips_4 : decode cX2_readSlips 4 = .ok (.iload_n 1, 1) := by decide +kernel
theorem dX2_readSlips_5 : decode cX2_readSlips 5 = .ok (.aload_n 0, 1) := by decide +kernel
theorem dX2_readSlips_6 : decode cX2_readSlips 6 = .ok (.getfield 15, 3) := by decide +kernel
theorem dX2_readSlips_9 : decode cX2_readSlips 9 = .ok (.arraylength, 1) := by decide +kernel
theorem dX2_readSlips_10 : decode cX2_readSlips 10 = .ok (.if_icmp .ge 70, 3) := by decide +kernel
theorem dX2_readSlips_13 : decode cX2_readSlips 13 = .ok (.iload_n 2, 1) := by decide +kernel
theorem dX2_readSlips_14 : decode cX2_readSlips 14 = .ok (.aload_n 0, 1) := by decide +kernel
theorem dX2_readSlips_15 : decode cX2_readSlips 15 = .ok (.getfield 18, 3) := by decide +kernel
theorem dX2_readSlips_18 : decode cX2_readSlips 18 = .ok (.if_icmp .ge 62, 3) := by decide +kernel
theorem dX2_readSlips_21 : decode cX2_readSlips 21 = .ok (.aload_n 0, 1) := by decide +kernel
theorem dX2_readSlips_22 : decode cX2_readSlips 22 = .ok (.iload_n 2, 1) := by decide +kernel
theorem dX2_readSlips_23 : decode cX2_readSlips 23 = .ok (.invokevirtual 44, 3) := by decide +kernel
theorem dX2_readSlips_26 : decode cX2_readSlips 26 = .ok (.istore_n 3, 1) := by decide +kernel
theorem dX2_readSlips_27 : decode cX2_readSlips 27 = .ok (.iload_n 3, 1) := by decide +kernel
theorem dX2_readSlips_28 : decode cX2_readSlips 28 = .ok (.ifCond .ne 13, 3) := by decide +kernel
theorem dX2_readSlips_31 : decode cX2_readSlips 31 = .ok (.aload_n 0, 1) := by decide +kernel
theorem dX2_readSlips_32 : decode cX2_readSlips 32 = .ok (.iload_n 2, 1) := by decide +kernel
theorem dX2_readSlips_33 : decode cX2_readSlips 33 = .ok (.iconst 2, 1) := by decide +kernel
theorem dX2_readSlips_34 : decode cX2_readSlips 34 = .ok (.iadd, 1) := by decide +kernel
theorem dX2_readSlips_35 : decode cX2_readSlips 35 = .ok (.invokevirtual 34, 3) := by decide +kernel
theorem dX2_readSlips_38 : decode cX2_readSlips 38 = .ok (.goto 4, 3) := by decide +kernel
theorem dX2_readSlips_41 : decode cX2_readSlips 41 = .ok (.iconst 0, 1) := by decide +kernel
theorem dX2_readSlips_42 : decode cX2_readSlips 42 = .ok (.istore 4, 2) := by decide +kernel
theorem dX2_readSlips_44 : decode cX2_readSlips 44 = .ok (.aload_n 0, 1) := by decide +kernel
theorem dX2_readSlips_45 : decode cX2_readSlips 45 = .ok (.getfield 15, 3) := by decide +kernel
theorem dX2_readSlips_48 : decode cX2_readSlips 48 = .ok (.iload_n 1, 1) := by decide +kernel
theorem dX2_readSlips_49 : decode cX2_readSlips 49 = .ok (.iload_n 3, 1) := by decide +kernel
theorem dX2_readSlips_50 : decode cX2_readSlips 50 = .ok (.aload_n 0, 1) := by decide +kernel
theorem dX2_readSlips_51 : decode cX2_readSlips 51 = .ok (.iload_n 2, 1) := by decide +kernel
theorem dX2_readSlips_52 : decode cX2_readSlips 52 = .ok (.iconst 1, 1) := by decide +kernel
theorem dX2_readSlips_53 : decode cX2_readSlips 53 = .ok (.iadd, 1) := by decide +kernel
theorem dX2_readSlips_54 : decode cX2_readSlips 54 = .ok (.invokevirtual 22, 3) := by decide +kernel
theorem dX2_readSlips_57 : decode cX2_readSlips 57 = .ok (.bipush 48, 2) := by decide +kernel
theorem dX2_readSlips_59 : decode cX2_readSlips 59 = .ok (.isub, 1) := by decide +kernel
theorem dX2_readSlips_60 : decode cX2_readSlips 60 = .ok (.iload 4, 2) := by decide +kernel
theorem dX2_readSlips_62 : decode cX2_readSlips 62 = .ok (.invokestatic 58, 3) := by decide +kernel
theorem dX2_readSlips_65 : decode cX2_readSlips 65 = .ok (.iastore, 1) := by decide +kernel
theorem dX2_readSlips_66 : decode cX2_readSlips 66 = .ok (.iinc 1 1, 3) := by decide +kernel
theorem dX2_readSlips_69 : decode cX2_readSlips 69 = .ok (.iload_n 2, 1) := by decide +kernel
theorem dX2_readSlips_70 : decode cX2_readSlips 70 = .ok (.aload_n 0, 1) := by decide +kernel
theorem dX2_readSlips_71 : decode cX2_readSlips 71 = .ok (.iload_n 2, 1) := by decide +kernel
theorem dX2_readSlips_72 : decode cX2_readSlips 72 = .ok (.invokevirtual 41, 3) := by decide +kernel
theorem dX2_readSlips_75 : decode cX2_readSlips 75 = .ok (.iadd, 1) := by decide +kernel
theorem dX2_readSlips_76 : decode cX2_readSlips 76 = .ok (.istore_n 2, 1) := by decide +kernel
theorem dX2_readSlips_77 : decode cX2_readSlips 77 = .ok (.goto (-73), 3) := by decide +kernel
theorem dX2_readSlips_80 : decode cX2_readSlips 80 = .ok (.iload_n 1, 1) := by decide +kernel
theorem dX2_readSlips_81 : decode cX2_readSlips 81 = .ok (.ireturn, 1) := by decide +kernel
theorem dX2_slipAt_0 : decode cX2_slipAt 0 = .ok (.iload_n 1, 1) := by decide +kernel
theorem dX2_slipAt_1 : decode cX2_slipAt 1 = .ok (.ifCond .lt 21, 3) := by decide +kernel
theorem dX2_slipAt_4 : decode cX2_slipAt 4 = .ok (.iload_n 1, 1) := by decide +kernel
theorem dX2_slipAt_5 : decode cX2_slipAt 5 = .ok (.aload_n 0, 1) := by decide +kernel
theorem dX2_slipAt_6 : decode cX2_slipAt 6 = .ok (.getfield 15, 3) := by decide +kernel
theorem dX2_slipAt_9 : decode cX2_slipAt 9 = .ok (.arraylength, 1) := by decide +kernel
theorem dX2_slipAt_10 : decode cX2_slipAt 10 = .ok (.if_icmp .ge 12, 3) := by decide +kernel
theorem dX2_slipAt_13 : decode cX2_slipAt 13 = .ok (.aload_n 0, 1) := by decide +kernel
theorem dX2_slipAt_14 : decode cX2_slipAt 14 = .ok (.getfield 15, 3) := by decide +kernel
theorem dX2_slipAt_17 : decode cX2_slipAt 17 = .ok (.iload_n 1, 1) := by decide +kernel
theorem dX2_slipAt_18 : decode cX2_slipAt 18 = .ok (.iaload, 1) := by decide +kernel
theorem dX2_slipAt_19 : decode cX2_slipAt 19 = .ok (.goto 5, 3) := by decide +kernel
theorem dX2_slipAt_22 : decode cX2_slipAt 22 = .ok (.bipush (-6), 2) := by decide +kernel
theorem dX2_slipAt_24 : decode cX2_slipAt 24 = .ok (.ireturn, 1) := by decide +kernel
theorem dX3_init_0 : decode cX3_init 0 = .ok (.aload_n 0, 1) := by decide +kernel
theorem dX3_init_1 : decode cX3_init 1 = .ok (.invokespecial 3, 3) := by decide +kernel
theorem dX3_init_4 : decode cX3_init 4 = .ok (.aload_n 0, 1) := by decide +kernel
theorem dX3_init_5 : decode cX3_init 5 = .ok (.bipush 6, 2) := by decide +kernel
theorem dX3_init_7 : decode cX3_init 7 = .ok (.putfield 9, 3) := by decide +kernel
theorem dX3_init_10 : decode cX3_init 10 = .ok (.aload_n 0, 1) := by decide +kernel
theorem dX3_init_11 : decode cX3_init 11 = .ok (.iconst 1, 1) := by decide +kernel
theorem dX3_init_12 : decode cX3_init 12 = .ok (.putfield 15, 3) := by decide +kernel
theorem dX3_init_15 : decode cX3_init 15 = .ok (.aload_n 0, 1) := by decide +kernel
theorem dX3_init_16 : decode cX3_init 16 = .ok (.bipush 6, 2) := by decide +kernel
theorem dX3_init_18 : decode cX3_init 18 = .ok (.newarray .int, 2) := by decide +kernel
theorem dX3_init_20 : decode cX3_init 20 = .ok (.putfield 18, 3) := by decide +kernel
theorem dX3_init_23 : decode cX3_init 23 = .ok (.aload_n 0, 1) := by decide +kernel
theorem dX3_init_24 : decode cX3_init 24 = .ok (.iconst 4, 1) := by decide +kernel
theorem dX3_init_25 : decode cX3_init 25 = .ok (.newarray .int, 2) := by decide +kernel
theorem dX3_init_27 : decode cX3_init 27 = .ok (.dup, 1) := by decide +kernel
theorem dX3_init_28 : decode cX3_init 28 = .ok (.iconst 0, 1) := by decide +kernel
theorem dX3_init_29 : decode cX3_init 29 = .ok (.bipush 15, 2) := by decide +kernel
theorem dX3_init_31 : decode cX3_init 31 = .ok (.iastore, 1) := by decide +kernel
theorem dX3_init_32 : decode cX3_init 32 = .ok (.dup, 1) := by decide +kernel
theorem dX3_init_33 : decode cX3_init 33 = .ok (.iconst 1, 1) := by decide +kernel
theorem dX3_init_34 : decode cX3_init 34 = .ok (.bipush 15, 2) := by decide +kernel
theorem dX3_init_36 : decode cX3_init 36 = .ok (.iastore, 1) := by decide +kernel
theorem dX3_init_37 : decode cX3_init 37 = .ok (.dup, 1) := by decide +kernel
theorem dX3_init_38 : decode cX3_init 38 = .ok (.iconst 2, 1) := by decide +kernel
theorem dX3_init_39 : decode cX3_init 39 = .ok (.bipush 15, 2) := by decide +kernel
theorem dX3_init_41 : decode cX3_init 41 = .ok (.iastore, 1) := by decide +kernel
theorem dX3_init_42 : decode cX3_init 42 = .ok (.dup, 1) := by decide +kernel
theorem dX3_init_43 : decode cX3_init 43 = .ok (.iconst 3, 1) := by decide +kernel
theorem dX3_init_44 : decode cX3_init 44 = .ok (.bipush 15, 2) := by decide +kernel
theorem dX3_init_46 : decode cX3_init 46 = .ok (.iastore, 1) := by decide +kernel
theorem dX3_init_47 : decode cX3_init 47 = .ok (.putfield 22, 3) := by decide +kernel
theorem dX3_init_50 : decode cX3_init 50 = .ok (.return_, 1) := by decide +kernel
theorem dX3_codeOf_0 : decode cX3_codeOf 0 = .ok (.iload_n 1, 1) := by decide +kernel
theorem dX3_codeOf_1 : decode cX3_codeOf 1 = .ok (.ifCond .lt 21, 3) := by decide +kernel
theorem dX3_codeOf_4 : decode cX3_codeOf 4 = .ok (.iload_n 1, 1) := by decide +kernel
theorem dX3_codeOf_5 : decode cX3_codeOf 5 = .ok (.aload_n 0, 1) := by decide +kernel
theorem dX3_codeOf_6 : decode cX3_codeOf 6 = .ok (.getfield 18, 3) := by decide +kernel
theorem dX3_codeOf_9 : decode cX3_codeOf 9 = .ok (.arraylength, 1) := by decide +kernel
theorem dX3_codeOf_10 : decode cX3_codeOf 10 = .ok (.if_icmp .ge 12, 3) := by decide +kernel
theorem dX3_codeOf_13 : decode cX3_codeOf 13 = .ok (.aload_n 0, 1) := by decide +kernel
theorem dX3_codeOf_14 : decode cX3_codeOf 14 = .ok (.getfield 18, 3) := by decide +kernel
theorem dX3_codeOf_17 : decode cX3_codeOf 17 = .ok (.iload_n 1, 1) := by decide +kernel
theorem dX3_codeOf_18 : decode cX3_codeOf 18 = .ok (.iaload, 1) := by decide +kernel
theorem dX3_codeOf_19 : decode cX3_codeOf 19 = .ok (.goto 4, 3) := by decide +kernel
theorem dX3_codeOf_22 : decode cX3_codeOf 22 = .ok (.iconst 0, 1) := by decide +kernel
theorem dX3_codeOf_23 : decode cX3_codeOf 23 = .ok (.ireturn, 1) := by decide +kernel
theorem dX3_tell_0 : decode cX3_tell 0 = .ok (.iload_n 1, 1) := by decide +kernel
theorem dX3_tell_1 : decode cX3_tell 1 = .ok (.ifCond .lt 31, 3) := by decide +kernel
theorem dX3_tell_4 : decode cX3_tell 4 = .ok (.iload_n 1, 1) := by decide +kernel
theorem dX3_tell_5 : decode cX3_tell 5 = .ok (.aload_n 0, 1) := by decide +kernel
theorem dX3_tell_6 : decode cX3_tell 6 = .ok (.getfield 18, 3) := by decide +kernel
theorem dX3_tell_9 : decode cX3_tell 9 = .ok (.arraylength, 1) := by decide +kernel
theorem dX3_tell_10 : decode cX3_tell 10 = .ok (.if_icmp .ge 22, 3) := by decide +kernel
theorem dX3_tell_13 : decode cX3_tell 13 = .ok (.aload_n 0, 1) := by decide +kernel
theorem dX3_tell_14 : decode cX3_tell 14 = .ok (.getfield 18, 3) := by decide +kernel
theorem dX3_tell_17 : decode cX3_tell 17 = .ok (.iload_n 1, 1) := by decide +kernel
theorem dX3_tell_18 : decode cX3_tell 18 = .ok (.iload_n 2, 1) := by decide +kernel
theorem dX3_tell_19 : decode cX3_tell 19 = .ok (.iastore, 1) := by decide +kernel
theorem dX3_tell_20 : decode cX3_tell 20 = .ok (.aload_n 0, 1) := by decide +kernel
theorem dX3_tell_21 : decode cX3_tell 21 = .ok (.dup, 1) := by decide +kernel
theorem dX3_tell_22 : decode cX3_tell 22 = .ok (.getfield 25, 3) := by decide +kernel
theorem dX3_tell_25 : decode cX3_tell 25 = .ok (.iconst 1, 1) := by decide +kernel
theorem dX3_tell_26 : decode cX3_tell 26 = .ok (.iload_n 1, 1) := by decide +kernel
theorem dX3_tell_27 : decode cX3_tell 27 = .ok (.ishl, 1) := by decide +kernel
theorem dX3_tell_28 : decode cX3_tell 28 = .ok (.ior, 1) := by decide +kernel
theorem dX3_tell_29 : decode cX3_tell 29 = .ok (.putfield 25, 3) := by decide +kernel
theorem dX3_tell_32 : decode cX3_tell 32 = .ok (.return_, 1) := by decide +kernel
theorem dX3_kindsOf_0 : decode cX3_kindsOf 0 = .ok (.iload_n 1, 1) := by decide +kernel
theorem dX3_kindsOf_1 : decode cX3_kindsOf 1 = .ok (.ifCond .lt 21, 3) := by decide +kernel
theorem dX3_kindsOf_4 : decode cX3_kindsOf 4 = .ok (.iload_n 1, 1) := by decide +kernel
theorem dX3_kindsOf_5 : decode cX3_kindsOf 5 = .ok (.aload_n 0, 1) := by decide +kernel
theorem dX3_kindsOf_6 : decode cX3_kindsOf 6 = .ok (.getfield 22, 3) := by decide +kernel
theorem dX3_kindsOf_9 : decode cX3_kindsOf 9 = .ok (.arraylength, 1) := by decide +kernel
theorem dX3_kindsOf_10 : decode cX3_kindsOf 10 = .ok (.if_icmp .ge 12, 3) := by decide +kernel
theorem dX3_kindsOf_13 : decode cX3_kindsOf 13 = .ok (.aload_n 0, 1) := by decide +kernel
theorem dX3_kindsOf_14 : decode cX3_kindsOf 14 = .ok (.getfield 22, 3) := by decide +kernel
theorem dX3_kindsOf_17 : decode cX3_kindsOf 17 = .ok (.iload_n 1, 1) := by decide +kernel
theorem dX3_kindsOf_18 : decode cX3_kindsOf 18 = .ok (.iaload, 1) := by decide +kernel
theorem dX3_kindsOf_19 : decode cX3_kindsOf 19 = .ok (.goto 4, 3) := by decide +kernel
theorem dX3_kindsOf_22 : decode cX3_kindsOf 22 = .ok (.iconst 0, 1) := by decide +kernel
theorem dX3_kindsOf_23 : decode cX3_kindsOf 23 = .ok (.ireturn, 1) := by decide +kernel
theorem dX3_teach_0 : decode cX3_teach 0 = .ok (.iload_n 1, 1) := by decide +kernel
theorem dX3_teach_1 : decode cX3_teach 1 = .ok (.ifCond .lt 19, 3) := by decide +kernel
theorem dX3_teach_4 : decode cX3_teach 4 = .ok (.iload_n 1, 1) := by decide +kernel
theorem dX3_teach_5 : decode cX3_teach 5 = .ok (.aload_n 0, 1) := by decide +kernel
theorem dX3_teach_6 : decode cX3_teach 6 = .ok (.getfield 22, 3) := by decide +kernel
theorem dX3_teach_9 : decode cX3_teach 9 = .ok (.arraylength, 1) := by decide +kernel
theorem dX3_teach_10 : decode cX3_teach 10 = .ok (.if_icmp .ge 10, 3) := by decide +kernel
theorem dX3_teach_13 : decode cX3_teach 13 = .ok (.aload_n 0, 1) := by decide +kernel
theorem dX3_teach_14 : decode cX3_teach 14 = .ok (.getfield 22, 3) := by decide +kernel
theorem dX3_teach_17 : decode cX3_teach 17 = .ok (.iload_n 1, 1) := by decide +kernel
theorem dX3_teach_18 : decode cX3_teach 18 = .ok (.iload_n 2, 1) := by decide +kernel
theorem dX3_teach_19 : decode cX3_teach 19 = .ok (.iastore, 1) := by decide +kernel
theorem dX3_teach_20 : decode cX3_teach 20 = .ok (.return_, 1) := by decide +kernel
set_option maxRecDepth 20000 in
theorem ggX3_take_X3_codeOf : GoodIn wsX3_take wsX3_codeOf := goodIn_r _ [11, 5, 16, 17, 18, 19, 20, 21] (by decide +kernel) (by decide +kernel)
set_option maxRecDepth 20000 in
theorem gX3_take_X3_codeOf : GoodIn wsX3_take (wsV RX3 31 RX3 yX3_codeOf wsX3_codeOf) := goodIn_app (goodIn_of _ (by decide +kernel)) ggX3_take_X3_codeOf
set_option maxRecDepth 20000 in
theorem ggX3_take_X3_kindsOf : GoodIn wsX3_take wsX3_kindsOf := goodIn_r _ [15, 6, 16, 17, 18, 19, 20, 21] (by decide +kernel) (by decide +kernel)
set_option maxRecDepth 20000 in
theorem gX3_take_X3_kindsOf : GoodIn wsX3_take (wsV RX3 35 RX3 yX3_kindsOf wsX3_kindsOf) := goodIn_app (goodIn_of _ (by decide +kernel)) ggX3_take_X3_kindsOf
theorem dX3_take_0 : decode cX3_take 0 = .ok (.aload_n 0, 1) := by decide +kernel
theorem dX3_take_1 : decode cX3_take 1 = .ok (.aload_n 1, 1) := by decide +kernel
theorem dX3_take_2 : decode cX3_take 2 = .ok (.getfield 9, 3) := by decide +kernel
theorem dX3_take_5 : decode cX3_take 5 = .ok (.putfield 9, 3) := by decide +kernel
theorem dX3_take_8 : decode cX3_take 8 = .ok (.aload_n 0, 1) := by decide +kernel
theorem dX3_take_9 : decode cX3_take 9 = .ok (.aload_n 1, 1) := by decide +kernel
theorem dX3_take_10 : decode cX3_take 10 = .ok (.getfield 25, 3) := by decide +kernel
theorem dX3_take_13 : decode cX3_take 13 = .ok (.putfield 25, 3) := by decide +kernel
theorem dX3_take_16 : decode cX3_take 16 = .ok (.aload_n 0, 1) := by decide +kernel
theorem dX3_take_17 : decode cX3_take 17 = .ok (.aload_n 1, 1) := by decide +kernel
theorem dX3_take_18 : decode cX3_take 18 = .ok (.getfield 15, 3) := by decide +kernel
theorem dX3_take_21 : decode cX3_take 21 = .ok (.putfield 15, 3) := by decide +kernel
theorem dX3_take_24 : decode cX3_take 24 = .ok (.aload_n 0, 1) := by decide +kernel
theorem dX3_take_25 : decode cX3_take 25 = .ok (.aload_n 1, 1) := by decide +kernel
theorem dX3_take_26 : decode cX3_take 26 = .ok (.getfield 28, 3) := by decide +kernel
theorem dX3_take_29 : decode cX3_take 29 = .ok (.putfield 28, 3) := by decide +kernel
theorem dX3_take_32 : decode cX3_take 32 = .ok (.iconst 0, 1) := by decide +kernel
theorem dX3_take_33 : decode cX3_take 33 = .ok (.istore_n 2, 1) := by decide +kernel
theorem dX3_take_34 : decode cX3_take 34 = .ok (.iload_n 2, 1) := by decide +kernel
theorem dX3_take_35 : decode cX3_take 35 = .ok (.aload_n 0, 1) := by decide +kernel
theorem dX3_take_36 : decode cX3_take 36 = .ok (.getfield 18, 3) := by decide +kernel
theorem dX3_take_39 : decode cX3_take 39 = .ok (.arraylength, 1) := by decide +kernel
theorem dX3_take_40 : decode cX3_take 40 = .ok (.if_icmp .ge 20, 3) := by decide +kernel
theorem dX3_take_43 : decode cX3_take 43 = .ok (.aload_n 0, 1) := by decide +kernel
theorem dX3_take_44 : decode cX3_take 44 = .ok (.getfield 18, 3) := by decide +kernel
theorem dX3_take_47 : decode cX3_take 47 = .ok (.iload_n 2, 1) := by decide +kernel
theorem dX3_take_48 : decode cX3_take 48 = .ok (.aload_n 1, 1) := by decide +kernel
theorem dX3_take_49 : decode cX3_take 49 = .ok (.iload_n 2, 1) := by decide +kernel
theorem dX3_take_50 : decode cX3_take 50 = .ok (.invokevirtual 31, 3) := by decide +kernel
theorem dX3_take_53 : decode cX3_take 53 = .ok (.iastore, 1) := by decide +kernel
theorem dX3_take_54 : decode cX3_take 54 = .ok (.iinc 2 1, 3) := by decide +kernel
theorem dX3_take_57 : decode cX3_take 57 = .ok (.goto (-23), 3) := by decide +kernel
theorem dX3_take_60 : decode cX3_take 60 = .ok (.iconst 0, 1) := by decide +kernel
theorem dX3_take_61 : decode cX3_take 61 = .ok (.istore_n 2, 1) := by decide +kernel
theorem dX3_take_62 : decode cX3_take 62 = .ok (.iload_n 2, 1) := by decide +kernel
theorem dX3_take_63 : decode cX3_take 63 = .ok (.aload_n 0, 1) := by decide +kernel
theorem dX3_take_64 : decode cX3_take 64 = .ok (.getfield 22, 3) := by decide +kernel
theorem dX3_take_67 : decode cX3_take 67 = .ok (.arraylength, 1) := by decide +kernel
theorem dX3_take_68 : decode cX3_take 68 = .ok (.if_icmp .ge 20, 3) := by decide +kernel
theorem dX3_take_71 : decode cX3_take 71 = .ok (.aload_n 0, 1) := by decide +kernel
theorem dX3_take_72 : decode cX3_take 72 = .ok (.getfield 22, 3) := by decide +kernel
theorem dX3_take_75 : decode cX3_take 75 = .ok (.iload_n 2, 1) := by decide +kernel
theorem dX3_take_76 : decode cX3_take 76 = .ok (.aload_n 1, 1) := by decide +kernel
theorem dX3_take_77 : decode cX3_take 77 = .ok (.iload_n 2, 1) := by decide +kernel
theorem dX3_take_78 : decode cX3_take 78 = .ok (.invokevirtual 35, 3) := by decide +kernel
theorem dX3_take_81 : decode cX3_take 81 = .ok (.iastore, 1) := by decide +kernel
theorem dX3_take_82 : decode cX3_take 82 = .ok (.iinc 2 1, 3) := by decide +kernel
theorem dX3_take_85 : decode cX3_take 85 = .ok (.goto (-23), 3) := by decide +kernel
theorem dX3_take_88 : decode cX3_take 88 = .ok (.return_, 1) := by decide +kernel
theorem dX4_init_0 : decode cX4_init 0 = .ok (.aload_n 0, 1) := by decide +kernel
theorem dX4_init_1 : decode cX4_init 1 = .ok (.invokespecial 3, 3) := by decide +kernel
theorem dX4_init_4 : decode cX4_init 4 = .ok (.aload_n 0, 1) := by decide +kernel
theorem dX4_init_5 : decode cX4_init 5 = .ok (.bipush 8, 2) := by decide +kernel
theorem dX4_init_7 : decode cX4_init 7 = .ok (.anewarray 11, 3) := by decide +kernel
theorem dX4_init_10 : decode cX4_init 10 = .ok (.putfield 13, 3) := by decide +kernel
theorem dX4_init_13 : decode cX4_init 13 = .ok (.aload_n 0, 1) := by decide +kernel
theorem dX4_init_14 : decode cX4_init 14 = .ok (.sipush 15625, 3) := by decide +kernel
theorem dX4_init_17 : decode cX4_init 17 = .ok (.newarray .int, 2) := by decide +kernel
theorem dX4_init_19 : decode cX4_init 19 = .ok (.putfield 19, 3) := by decide +kernel
theorem dX4_init_22 : decode cX4_init 22 = .ok (.return_, 1) := by decide +kernel
set_option maxRecDepth 20000 in
theorem ggX4_toward_X7_isFor : GoodIn wsX4_toward wsX7_isFor := goodIn_r _ [6, 7, 8, 9, 57, 58, 59, 60, 61, 62, 63] (by decide +kernel) (by decide +kernel)
set_option maxRecDepth 20000 in
theorem gX4_toward_X7_isFor : GoodIn wsX4_toward (wsV RX4 23 RX7 yX7_isFor wsX7_isFor) := goodIn_app (goodIn_of _ (by decide +kernel)) ggX4_toward_X7_isFor
set_option maxRecDepth 20000 in
theorem ggX4_toward_X4_takeOldest : GoodIn wsX4_toward wsX4_takeOldest := goodIn_r _ [14, 15, 1, 16, 17, 5, 18, 19, 20, 21, 22, 23, 24, 25, 26, 54, 55, 56, 57, 58, 59, 60, 61, 62, 63] (by decide +kernel) (by decide +kernel)
set_option maxRecDepth 20000 in
theorem gX4_toward_X4_takeOldest : GoodIn wsX4_toward (wsV RX4 27 RX4 yX4_takeOldest wsX4_takeOldest) := goodIn_app (goodIn_of _ (by decide +kernel)) ggX4_toward_X4_takeOldest
set_option maxRecDepth 20000 in
theorem ggX4_toward_X7_begin : GoodIn wsX4_toward wsX7_begin := goodIn_r _ [30, 7, 8, 9, 31, 32, 24, 33, 34, 35, 36, 37, 38, 39, 5, 40, 41, 42, 43, 44, 26, 45, 46, 47, 48, 49, 50, 51, 52, 53, 57, 58, 59, 60, 61, 62, 63] (by decide +kernel) (by decide +kernel)
set_option maxRecDepth 20000 in
theorem gX4_toward_X7_begin : GoodIn wsX4_toward (wsV RX4 31 RX7 yX7_begin wsX7_begin) := goodIn_app (goodIn_of _ (by decide +kernel)) ggX4_toward_X7_begin
theorem dX4_toward_0 : decode cX4_toward 0 = .ok (.iconst 0, 1) := by decide +kernel
theorem dX4_toward_1 : decode cX4_toward 1 = .ok (.istore 4, 2) := by decide +kernel
theorem dX4_toward_3 : decode cX4_toward 3 = .ok (.iload 4, 2) := by decide +kernel
theorem dX4_toward_5 : decode cX4_toward 5 = .ok (.aload_n 0, 1) := by decide +kernel
theorem dX4_toward_6 : decode cX4_toward 6 = .ok (.getfield 13, 3) := by decide +kernel
theorem dX4_toward_9 : decode cX4_toward 9 = .ok (.arraylength, 1) := by decide +kernel
theorem dX4_toward_10 : decode cX4_toward 10 = .ok (.if_icmp .ge 37, 3) := by decide +kernel
theorem dX4_toward_13 : decode cX4_toward 13 = .ok (.aload_n 0, 1) := by decide +kernel
theorem dX4_toward_14 : decode cX4_toward 14 = .ok (.getfield 13, 3) := by decide +kernel
theorem dX4_toward_17 : decode cX4_toward 17 = .ok (.iload 4, 2) := by decide +kernel
theorem dX4_toward_19 : decode cX4_toward 19 = .ok (.aaload, 1) := by decide +kernel
theorem dX4_toward_20 : decode cX4_toward 20 = .ok (.astore 5, 2) := by decide +kernel
theorem dX4_toward_22 : decode cX4_toward 22 = .ok (.aload 5, 2) := by decide +kernel
theorem dX4_toward_24 : decode cX4_toward 24 = .ok (.ifnull 17, 3) := by decide +kernel
theorem dX4_toward_27 : decode cX4_toward 27 = .ok (.aload 5, 2) := by decide +kernel
theorem dX4_toward_29 : decode cX4_toward 29 = .ok (.iload_n 1, 1) := by decide +kernel
theorem dX4_toward_30 : decode cX4_toward 30 = .ok (.iload_n 2, 1) := by decide +kernel
theorem dX4_toward_31 : decode cX4_toward 31 = .ok (.iload_n 3, 1) := by decide +kernel
theorem dX4_toward_32 : decode cX4_toward 32 = .ok (.invokevirtual 23, 3) := by decide +kernel
theorem dX4_toward_35 : decode cX4_toward 35 = .ok (.ifCond .eq 6, 3) := by decide +kernel
theorem dX4_toward_38 : decode cX4_toward 38 = .ok (.aload 5, 2) := by decide +kernel
theorem dX4_toward_40 : decode cX4_toward 40 = .ok (.areturn, 1) := by decide +kernel
theorem dX4_toward_41 : decode cX4_toward 41 = .ok (.iinc 4 1, 3) := by decide +kernel
theorem dX4_toward_44 : decode cX4_toward 44 = .ok (.goto (-41), 3) := by decide +kernel
theorem dX4_toward_47 : decode cX4_toward 47 = .ok (.aload_n 0, 1) := by decide +kernel
theorem dX4_toward_48 : decode cX4_toward 48 = .ok (.invokevirtual 27, 3) := by decide +kernel
theorem dX4_toward_51 : decode cX4_toward 51 = .ok (.astore 4, 2) := by decide +kernel
theorem dX4_toward_53 : decode cX4_toward 53 = .ok (.aload 4, 2) := by decide +kernel
theorem dX4_toward_55 : decode cX4_toward 55 = .ok (.iload_n 1, 1) := by decide +kernel
theorem dX4_toward_56 : decode cX4_toward 56 = .ok (.iload_n 2, 1) := by decide +kernel
theorem dX4_toward_57 : decode cX4_toward 57 = .ok (.iload_n 3, 1) := by decide +kernel
theorem dX4_toward_58 : decode cX4_toward 58 = .ok (.invokevirtual 31, 3) := by decide +kernel
theorem dX4_toward_61 : decode cX4_toward 61 = .ok (.aload 4, 2) := by decide +kernel
theorem dX4_toward_63 : decode cX4_toward 63 = .ok (.areturn, 1) := by decide +kernel
set_option maxRecDepth 20000 in
theorem ggX4_takeOldest_X7_init : GoodIn wsX4_takeOldest wsX7_init := goodIn_r _ [7, 8, 9, 10, 11, 12, 13, 14, 18, 19, 20, 21, 22, 23, 24] (by decide +kernel) (by decide +kernel)
set_option maxRecDepth 20000 in
theorem gX4_takeOldest_X7_init_n39 : GoodIn wsX4_takeOldest (wsX7_init) := ggX4_takeOldest_X7_init
theorem dX4_takeOldest_0 : decode cX4_takeOldest 0 = .ok (.aload_n 0, 1) := by decide +kernel
theorem dX4_takeOldest_1 : decode cX4_takeOldest 1 = .ok (.getfield 35, 3) := by decide +kernel
theorem dX4_takeOldest_4 : decode cX4_takeOldest 4 = .ok (.ifCond .lt 22, 3) := by decide +kernel
theorem dX4_takeOldest_7 : decode cX4_takeOldest 7 = .ok (.aload_n 0, 1) := by decide +kernel
theorem dX4_takeOldest_8 : decode cX4_takeOldest 8 = .ok (.getfield 35, 3) := by decide +kernel
theorem dX4_takeOldest_11 : decode cX4_takeOldest 11 = .ok (.aload_n 0, 1) := by decide +kernel
theorem dX4_takeOldest_12 : decode cX4_takeOldest 12 = .ok (.getfield 13, 3) := by decide +kernel
theorem dX4_takeOldest_15 : decode cX4_takeOldest 15 = .ok (.arraylength, 1) := by decide +kernel
theorem dX4_takeOldest_16 : decode cX4_takeOldest 16 = .ok (.if_icmp .ge 10, 3) := by decide +kernel
theorem dX4_takeOldest_19 : decode cX4_takeOldest 19 = .ok (.aload_n 0, 1) := by decide +kernel
theorem dX4_takeOldest_20 : decode cX4_takeOldest 20 = .ok (.getfield 35, 3) := by decide +kernel
theorem dX4_takeOldest_23 : decode cX4_takeOldest 23 = .ok (.goto 4, 3) := by decide +kernel
theorem dX4_takeOldest_26 : decode cX4_takeOldest 26 = .ok (.iconst 0, 1) := by decide +kernel
theorem dX4_takeOldest_27 : decode cX4_takeOldest 27 = .ok (.istore_n 1, 1) := by decide +kernel
theorem dX4_takeOldest_28 : decode cX4_takeOldest 28 = .ok (.aload_n 0, 1) := by decide +kernel
theorem dX4_takeOldest_29 : decode cX4_takeOldest 29 = .ok (.iload_n 1, 1) := by decide +kernel
theorem dX4_takeOldest_30 : decode cX4_takeOldest 30 = .ok (.iconst 1, 1) := by decide +kernel
theorem dX4_takeOldest_31 : decode cX4_takeOldest 31 = .ok (.iadd, 1) := by decide +kernel
theorem dX4_takeOldest_32 : decode cX4_takeOldest 32 = .ok (.putfield 35, 3) := by decide +kernel
theorem dX4_takeOldest_35 : decode cX4_takeOldest 35 = .ok (.aload_n 0, 1) := by decide +kernel
theorem dX4_takeOldest_36 : decode cX4_takeOldest 36 = .ok (.getfield 13, 3) := by decide +kernel
theorem dX4_takeOldest_39 : decode cX4_takeOldest 39 = .ok (.iload_n 1, 1) := by decide +kernel
theorem dX4_takeOldest_40 : decode cX4_takeOldest 40 = .ok (.aaload, 1) := by decide +kernel
theorem dX4_takeOldest_41 : decode cX4_takeOldest 41 = .ok (.astore_n 2, 1) := by decide +kernel
theorem dX4_takeOldest_42 : decode cX4_takeOldest 42 = .ok (.aload_n 2, 1) := by decide +kernel
theorem dX4_takeOldest_43 : decode cX4_takeOldest 43 = .ok (.ifnonnull 18, 3) := by decide +kernel
theorem dX4_takeOldest_46 : decode cX4_takeOldest 46 = .ok (.new 11, 3) := by decide +kernel
theorem dX4_takeOldest_49 : decode cX4_takeOldest 49 = .ok (.dup, 1) := by decide +kernel
theorem dX4_takeOldest_50 : decode cX4_takeOldest 50 = .ok (.invokespecial 39, 3) := by decide +kernel
theorem dX4_takeOldest_53 : decode cX4_takeOldest 53 = .ok (.astore_n 2, 1) := by decide +kernel
theorem dX4_takeOldest_54 : decode cX4_takeOldest 54 = .ok (.aload_n 0, 1) := by decide +kernel
theorem dX4_takeOldest_55 : decode cX4_takeOldest 55 = .ok (.getfield 13, 3) := by decide +kernel
theorem dX4_takeOldest_58 : decode cX4_takeOldest 58 = .ok (.iload_n 1, 1) := by decide +kernel
theorem dX4_takeOldest_59 : decode cX4_takeOldest 59 = .ok (.aload_n 2, 1) := by decide +kernel
theorem dX4_takeOldest_60 : decode cX4_takeOldest 60 = .ok (.aastore, 1) := by decide +kernel
theorem dX4_takeOldest_61 : decode cX4_takeOldest 61 = .ok (.aload_n 2, 1) := by decide +kernel
theorem dX4_takeOldest_62 : decode cX4_takeOldest 62 = .ok (.areturn, 1) := by decide +kernel
set_option maxRecDepth 20000 in
theorem ggX4_clearSums_J7_fill_53178 : GoodIn wsX4_clearSums wsJ7_fill_53178 := goodIn_r _ [5] (by decide +kernel) (by decide +kernel)
set_option maxRecDepth 20000 in
theorem gX4_clearSums_J7_fill_53178 : GoodIn wsX4_clearSums (va_wsS RX4 40 yJ7_fill_53178 wsJ7_fill_53178) := goodIn_app (goodIn_of _ (by decide +kernel)) ggX4_clearSums_J7_fill_53178
theorem dX4_clearSums_0 : decode cX4_clearSums 0 = .ok (.aload_n 0, 1) := by decide +kernel
theorem dX4_clearSums_1 : decode cX4_clearSums 1 = .ok (.getfield 19, 3) := by decide +kernel
theorem dX4_clearSums_4 : decode cX4_clearSums 4 = .ok (.iconst 0, 1) := by decide +kernel
theorem dX4_clearSums_5 : decode cX4_clearSums 5 = .ok (.invokestatic 40, 3) := by decide +kernel
theorem dX4_clearSums_8 : decode cX4_clearSums 8 = .ok (.return_, 1) := by decide +kernel
set_option maxRecDepth 20000 in
theorem ggX4_addToSums_X7_searchAll : GoodIn wsX4_addToSums wsX7_searchAll := goodIn_r _ [6, 7, 8, 9, 5, 10, 11, 12, 13, 14, 15, 16, 17, 18, 19, 20, 21, 22, 23, 24, 25, 26, 27, 28, 29, 30, 31, 32, 33, 34, 35, 36, 37, 38, 39, 40, 41, 42, 43, 44, 49, 50, 51, 52, 53, 54, 55] (by decide +kernel) (by decide +kernel)
set_option maxRecDepth 20000 in
theorem gX4_addToSums_X7_searchAll : GoodIn wsX4_addToSums (wsV RX4 46 RX7 yX7_searchAll wsX7_searchAll) := goodIn_app (goodIn_of _ (by decide +kernel)) ggX4_addToSums_X7_searchAll
set_option maxRecDepth 20000 in
theorem ggX4_addToSums_X7_known : GoodIn wsX4_addToSums wsX7_known := goodIn_r _ [26, 27, 49, 50, 51, 52, 53, 54, 55] (by decide +kernel) (by decide +kernel)
set_option maxRecDepth 20000 in
theorem gX4_addToSums_X7_known : GoodIn wsX4_addToSums (wsV RX4 49 RX7 yX7_known wsX7_known) := goodIn_app (goodIn_of _ (by decide +kernel)) ggX4_addToSums_X7_known
theorem dX4_addToSums_0 : decode cX4_addToSums 0 = .ok (.aload_n 1, 1) := by decide +kernel
theorem dX4_addToSums_1 : decode cX4_addToSums 1 = .ok (.invokevirtual 46, 3) := by decide +kernel
theorem dX4_addToSums_4 : decode cX4_addToSums 4 = .ok (.iconst 0, 1) := by decide +kernel
theorem dX4_addToSums_5 : decode cX4_addToSums 5 = .ok (.istore_n 2, 1) := by decide +kernel
theorem dX4_addToSums_6 : decode cX4_addToSums 6 = .ok (.iload_n 2, 1) := by decide +kernel
theorem dX4_addToSums_7 : decode cX4_addToSums 7 = .ok (.aload_n 0, 1) := by decide +kernel
theorem dX4_addToSums_8 : decode cX4_addToSums 8 = .ok (.getfield 19, 3) := by decide +kernel
theorem dX4_addToSums_11 : decode cX4_addToSums 11 = .ok (.arraylength, 1) := by decide +kernel
theorem dX4_addToSums_12 : decode cX4_addToSums 12 = .ok (.if_icmp .ge 47, 3) := by decide +kernel
theorem dX4_addToSums_15 : decode cX4_addToSums 15 = .ok (.aload_n 1, 1) := by decide +kernel
theorem dX4_addToSums_16 : decode cX4_addToSums 16 = .ok (.iload_n 2, 1) := by decide +kernel
theorem dX4_addToSums_17 : decode cX4_addToSums 17 = .ok (.invokevirtual 49, 3) := by decide +kernel
theorem dX4_addToSums_20 : decode cX4_addToSums 20 = .ok (.istore_n 3, 1) := by decide +kernel
theorem dX4_addToSums_21 : decode cX4_addToSums 21 = .ok (.aload_n 0, 1) := by decide +kernel
theorem dX4_addToSums_22 : decode cX4_addToSums 22 = .ok (.getfield 19, 3) := by decide +kernel
theorem dX4_addToSums_25 : decode cX4_addToSums 25 = .ok (.iload_n 2, 1) := by decide +kernel
theorem dX4_addToSums_26 : decode cX4_addToSums 26 = .ok (.iload_n 3, 1) := by decide +kernel
theorem dX4_addToSums_27 : decode cX4_addToSums 27 = .ok (.ifCond .lt 12, 3) := by decide +kernel
theorem dX4_addToSums_30 : decode cX4_addToSums 30 = .ok (.aload_n 0, 1) := by decide +kernel
theorem dX4_addToSums_31 : decode cX4_addToSums 31 = .ok (.getfield 19, 3) := by decide +kernel
theorem dX4_addToSums_34 : decode cX4_addToSums 34 = .ok (.iload_n 2, 1) := by decide +kernel
theorem dX4_addToSums_35 : decode cX4_addToSums 35 = .ok (.iaload, 1) := by decide +kernel
theorem dX4_addToSums_36 : decode cX4_addToSums 36 = .ok (.ifCond .ge 8, 3) := by decide +kernel
theorem dX4_addToSums_39 : decode cX4_addToSums 39 = .ok (.bipush (-6), 2) := by decide +kernel
theorem dX4_addToSums_41 : decode cX4_addToSums 41 = .ok (.goto 11, 3) := by decide +kernel
theorem dX4_addToSums_44 : decode cX4_addToSums 44 = .ok (.aload_n 0, 1) := by decide +kernel
theorem dX4_addToSums_45 : decode cX4_addToSums 45 = .ok (.getfield 19, 3) := by decide +kernel
theorem dX4_addToSums_48 : decode cX4_addToSums 48 = .ok (.iload_n 2, 1) := by decide +kernel
theorem dX4_addToSums_49 : decode cX4_addToSums 49 = .ok (.iaload, 1) := by decide +kernel
theorem dX4_addToSums_50 : decode cX4_addToSums 50 = .ok (.iload_n 3, 1) := by decide +kernel
theorem dX4_addToSums_51 : decode cX4_addToSums 51 = .ok (.iadd, 1) := by decide +kernel
theorem dX4_addToSums_52 : decode cX4_addToSums 52 = .ok (.iastore, 1) := by decide +kernel
theorem dX4_addToSums_53 : decode cX4_addToSums 53 = .ok (.iinc 2 1, 3) := by decide +kernel
theorem dX4_addToSums_56 : decode cX4_addToSums 56 = .ok (.goto (-50), 3) := by decide +kernel
theorem dX4_addToSums_59 : decode cX4_addToSums 59 = .ok (.return_, 1) := by decide +kernel
theorem dX4_sumOf_0 : decode cX4_sumOf 0 = .ok (.iload_n 1, 1) := by decide +kernel
theorem dX4_sumOf_1 : decode cX4_sumOf 1 = .ok (.ifCond .lt 21, 3) := by decide +kernel
theorem dX4_sumOf_4 : decode cX4_sumOf 4 = .ok (.iload_n 1, 1) := by decide +kernel
theorem dX4_sumOf_5 : decode cX4_sumOf 5 = .ok (.aload_n 0, 1) := by decide +kernel
theorem dX4_sumOf_6 : decode cX4_sumOf 6 = .ok (.getfield 19, 3) := by decide +kernel
theorem dX4_sumOf_9 : decode cX4_sumOf 9 = .ok (.arraylength, 1) := by decide +kernel
theorem dX4_sumOf_10 : decode cX4_sumOf 10 = .ok (.if_icmp .ge 12, 3) := by decide +kernel
theorem dX4_sumOf_13 : decode cX4_sumOf 13 = .ok (.aload_n 0, 1) := by decide +kernel
theorem dX4_sumOf_14 : decode cX4_sumOf 14 = .ok (.getfield 19, 3) := by decide +kernel
theorem dX4_sumOf_17 : decode cX4_sumOf 17 = .ok (.iload_n 1, 1) := by decide +kernel
theorem dX4_sumOf_18 : decode cX4_sumOf 18 = .ok (.iaload, 1) := by decide +kernel
theorem dX4_sumOf_19 : decode cX4_sumOf 19 = .ok (.goto 5, 3) := by decide +kernel
theorem dX4_sumOf_22 : decode cX4_sumOf 22 = .ok (.bipush (-6), 2) := by decide +kernel
theorem dX4_sumOf_24 : decode cX4_sumOf 24 = .ok (.ireturn, 1) := by decide +kernel
set_option maxRecDepth 20000 in
theorem ggX4_firstOfLeastSum_X1_weight : GoodIn wsX4_firstOfLeastSum wsX1_weight := goodIn_r _ [9, 10] (by decide +kernel) (by decide +kernel)
set_option maxRecDepth 20000 in
theorem gX4_firstOfLeastSum_X1_weight : GoodIn wsX4_firstOfLeastSum (va_wsS RX4 53 yX1_weight wsX1_weight) := goodIn_app (goodIn_of _ (by decide +kernel)) ggX4_firstOfLeastSum_X1_weight
set_option maxRecDepth 20000 in
theorem ggX4_firstOfLeastSum_X4_sumOf : GoodIn wsX4_firstOfLeastSum wsX4_sumOf := goodIn_r _ [15, 5, 16, 17, 18] (by decide +kernel) (by decide +kernel)
set_option maxRecDepth 20000 in
theorem gX4_firstOfLeastSum_X4_sumOf : GoodIn wsX4_firstOfLeastSum (wsV RX4 62 RX4 yX4_sumOf wsX4_sumOf) := goodIn_app (goodIn_of _ (by decide +kernel)) ggX4_firstOfLeastSum_X4_sumOf
theorem dX4_firstOfLeastSum_0 : decode cX4_firstOfLeastSum 0 = .ok (.bipush (-6), 2) := by decide +kernel
theorem dX4_firstOfLeastSum_2 : decode cX4_firstOfLeastSum 2 = .ok (.istore_n 2, 1) := by decide +kernel
theorem dX4_firstOfLeastSum_3 : decode cX4_firstOfLeastSum 3 = .ok (.iconst 1, 1) := by decide +kernel
theorem dX4_firstOfLeastSum_4 : decode cX4_firstOfLeastSum 4 = .ok (.iload_n 1, 1) := by decide +kernel
theorem dX4_firstOfLeastSum_5 : decode cX4_firstOfLeastSum 5 = .ok (.iconst 1, 1) := by decide +kernel
theorem dX4_firstOfLeastSum_6 : decode cX4_firstOfLeastSum 6 = .ok (.isub, 1) := by decide +kernel
theorem dX4_firstOfLeastSum_7 : decode cX4_firstOfLeastSum 7 = .ok (.invokestatic 53, 3) := by decide +kernel
theorem dX4_firstOfLeastSum_10 : decode cX4_firstOfLeastSum 10 = .ok (.invokestatic 56, 3) := by decide +kernel
theorem dX4_firstOfLeastSum_13 : decode cX4_firstOfLeastSum 13 = .ok (.istore_n 3, 1) := by decide +kernel
theorem dX4_firstOfLeastSum_14 : decode cX4_firstOfLeastSum 14 = .ok (.iconst 0, 1) := by decide +kernel
theorem dX4_firstOfLeastSum_15 : decode cX4_firstOfLeastSum 15 = .ok (.istore 4, 2) := by decide +kernel
theorem dX4_firstOfLeastSum_17 : decode cX4_firstOfLeastSum 17 = .ok (.iload 4, 2) := by decide +kernel
theorem dX4_firstOfLeastSum_19 : decode cX4_firstOfLeastSum 19 = .ok (.aload_n 0, 1) := by decide +kernel
theorem dX4_firstOfLeastSum_20 : decode cX4_firstOfLeastSum 20 = .ok (.getfield 19, 3) := by decide +kernel
theorem dX4_firstOfLeastSum_23 : decode cX4_firstOfLeastSum 23 = .ok (.arraylength, 1) := by decide +kernel
theorem dX4_firstOfLeastSum_24 : decode cX4_firstOfLeastSum 24 = .ok (.if_icmp .ge 44, 3) := by decide +kernel
theorem dX4_firstOfLeastSum_27 : decode cX4_firstOfLeastSum 27 = .ok (.aload_n 0, 1) := by decide +kernel
theorem dX4_firstOfLeastSum_28 : decode cX4_firstOfLeastSum 28 = .ok (.getfield 19, 3) := by decide +kernel
theorem dX4_firstOfLeastSum_31 : decode cX4_firstOfLeastSum 31 = .ok (.iload 4, 2) := by decide +kernel
theorem dX4_firstOfLeastSum_33 : decode cX4_firstOfLeastSum 33 = .ok (.iaload, 1) := by decide +kernel
theorem dX4_firstOfLeastSum_34 : decode cX4_firstOfLeastSum 34 = .ok (.ifCond .lt 25, 3) := by decide +kernel
theorem dX4_firstOfLeastSum_37 : decode cX4_firstOfLeastSum 37 = .ok (.iload_n 2, 1) := by decide +kernel
theorem dX4_firstOfLeastSum_38 : decode cX4_firstOfLeastSum 38 = .ok (.ifCond .lt 18, 3) := by decide +kernel
theorem dX4_firstOfLeastSum_41 : decode cX4_firstOfLeastSum 41 = .ok (.aload_n 0, 1) := by decide +kernel
theorem dX4_firstOfLeastSum_42 : decode cX4_firstOfLeastSum 42 = .ok (.getfield 19, 3) := by decide +kernel
theorem dX4_firstOfLeastSum_45 : decode cX4_firstOfLeastSum 45 = .ok (.iload 4, 2) := by decide +kernel
theorem dX4_firstOfLeastSum_47 : decode cX4_firstOfLeastSum 47 = .ok (.iaload, 1) := by decide +kernel
theorem dX4_firstOfLeastSum_48 : decode cX4_firstOfLeastSum 48 = .ok (.aload_n 0, 1) := by decide +kernel
theorem dX4_firstOfLeastSum_49 : decode cX4_firstOfLeastSum 49 = .ok (.iload_n 2, 1) := by decide +kernel
theorem dX4_firstOfLeastSum_50 : decode cX4_firstOfLeastSum 50 = .ok (.invokevirtual 62, 3) := by decide +kernel
theorem dX4_firstOfLeastSum_53 : decode cX4_firstOfLeastSum 53 = .ok (.if_icmp .ge 6, 3) := by decide +kernel
theorem dX4_firstOfLeastSum_56 : decode cX4_firstOfLeastSum 56 = .ok (.iload 4, 2) := by decide +kernel
theorem dX4_firstOfLeastSum_58 : decode cX4_firstOfLeastSum 58 = .ok (.istore_n 2, 1) := by decide +kernel
theorem dX4_firstOfLeastSum_59 : decode cX4_firstOfLeastSum 59 = .ok (.iload 4, 2) := by decide +kernel
theorem dX4_firstOfLeastSum_61 : decode cX4_firstOfLeastSum 61 = .ok (.iload_n 3, 1) := by decide +kernel
theorem dX4_firstOfLeastSum_62 : decode cX4_firstOfLeastSum 62 = .ok (.iadd, 1) := by decide +kernel
theorem dX4_firstOfLeastSum_63 : decode cX4_firstOfLeastSum 63 = .ok (.istore 4, 2) := by decide +kernel
theorem dX4_firstOfLeastSum_65 : decode cX4_firstOfLeastSum 65 = .ok (.goto (-48), 3) := by decide +kernel
theorem dX4_firstOfLeastSum_68 : decode cX4_firstOfLeastSum 68 = .ok (.iload_n 2, 1) := by decide +kernel
theorem dX4_firstOfLeastSum_69 : decode cX4_firstOfLeastSum 69 = .ok (.ireturn, 1) := by decide +kernel
theorem dX5_written_0 : decode cX5_written 0 = .ok (.iload_n 0, 1) := by decide +kernel
theorem dX5_written_1 : decode cX5_written 1 = .ok (.ifCond .lt 19, 3) := by decide +kernel
theorem dX5_written_4 : decode cX5_written 4 = .ok (.iload_n 0, 1) := by decide +kernel
theorem dX5_written_5 : decode cX5_written 5 = .ok (.getstatic 7, 3) := by decide +kernel
theorem dX5_written_8 : decode cX5_written 8 = .ok (.arraylength, 1) := by decide +kernel
theorem dX5_written_9 : decode cX5_written 9 = .ok (.if_icmp .ge 11, 3) := by decide +kernel
theorem dX5_written_12 : decode cX5_written 12 = .ok (.getstatic 7, 3) := by decide +kernel
theorem dX5_written_15 : decode cX5_written 15 = .ok (.iload_n 0, 1) := by decide +kernel
theorem dX5_written_16 : decode cX5_written 16 = .ok (.iaload, 1) := by decide +kernel
theorem dX5_written_17 : decode cX5_written 17 = .ok (.goto 4, 3) := by decide +kernel
theorem dX5_written_20 : decode cX5_written 20 = .ok (.iconst 0, 1) := by decide +kernel
theorem dX5_written_21 : decode cX5_written 21 = .ok (.ireturn, 1) := by decide +kernel
theorem dX5_number_0 : decode cX5_number 0 = .ok (.iconst 0, 1) := by decide +kernel
theorem dX5_number_1 : decode cX5_number 1 = .ok (.istore_n 1, 1) := by decide +kernel
theorem dX5_number_2 : decode cX5_number 2 = .ok (.iload_n 1, 1) := by decide +kernel
theorem dX5_number_3 : decode cX5_number 3 = .ok (.getstatic 7, 3) := by decide +kernel
theorem dX5_number_6 : decode cX5_number 6 = .ok (.arraylength, 1) := by decide +kernel
theorem dX5_number_7 : decode cX5_number 7 = .ok (.if_icmp .ge 20, 3) := by decide +kernel
theorem dX5_number_10 : decode cX5_number 10 = .ok (.getstatic 7, 3) := by decide +kernel
theorem dX5_number_13 : decode cX5_number 13 = .ok (.iload_n 1, 1) := by decide +kernel
theorem dX5_number_14 : decode cX5_number 14 = .ok (.iaload, 1) := by decide +kernel
theorem dX5_number_15 : decode cX5_number 15 = .ok (.iload_n 0, 1) := by decide +kernel
theorem dX5_number_16 : decode cX5_number 16 = .ok (.if_icmp .ne 5, 3) := by decide +kernel
theorem dX5_number_19 : decode cX5_number 19 = .ok (.iload_n 1, 1) := by decide +kernel
theorem dX5_number_20 : decode cX5_number 20 = .ok (.ireturn, 1) := by decide +kernel
theorem dX5_number_21 : decode cX5_number 21 = .ok (.iinc 1 1, 3) := by decide +kernel
theorem dX5_number_24 : decode cX5_number 24 = .ok (.goto (-22), 3) := by decide +kernel
theorem dX5_number_27 : decode cX5_number 27 = .ok (.iconst (-1), 1) := by decide +kernel
theorem dX5_number_28 : decode cX5_number 28 = .ok (.ireturn, 1) := by decide +kernel
theorem dX6_inOrder_0 : decode cX6_inOrder 0 = .ok (.iload_n 0, 1) := by decide +kernel
theorem dX6_inOrder_1 : decode cX6_inOrder 1 = .ok (.ifCond .lt 19, 3) := by decide +kernel
theorem dX6_inOrder_4 : decode cX6_inOrder 4 = .ok (.iload_n 0, 1) := by decide +kernel
theorem dX6_inOrder_5 : decode cX6_inOrder 5 = .ok (.getstatic 9, 3) := by decide +kernel
theorem dX6_inOrder_8 : decode cX6_inOrder 8 = .ok (.arraylength, 1) := by decide +kernel
theorem dX6_inOrder_9 : decode cX6_inOrder 9 = .ok (.if_icmp .ge 11, 3) := by decide +kernel
theorem dX6_inOrder_12 : decode cX6_inOrder 12 = .ok (.getstatic 9, 3) := by decide +kernel
theorem dX6_inOrder_15 : decode cX6_inOrder 15 = .ok (.iload_n 0, 1) := by decide +kernel
theorem dX6_inOrder_16 : decode cX6_inOrder 16 = .ok (.iaload, 1) := by decide +kernel
theorem dX6_inOrder_17 : decode cX6_inOrder 17 = .ok (.goto 5, 3) := by decide +kernel
theorem dX6_inOrder_20 : decode cX6_inOrder 20 = .ok (.bipush (-6), 2) := by decide +kernel
theorem dX6_inOrder_22 : decode cX6_inOrder 22 = .ok (.ireturn, 1) := by decide +kernel
theorem dX6_number_0 : decode cX6_number 0 = .ok (.bipush 100, 2) := by decide +kernel
theorem dX6_number_2 : decode cX6_number 2 = .ok (.iload_n 0, 1) := by decide +kernel
theorem dX6_number_3 : decode cX6_number 3 = .ok (.imul, 1) := by decide +kernel
theorem dX6_number_4 : decode cX6_number 4 = .ok (.bipush 10, 2) := by decide +kernel
theorem dX6_number_6 : decode cX6_number 6 = .ok (.iload_n 1, 1) := by decide +kernel
theorem dX6_number_7 : decode cX6_number 7 = .ok (.imul, 1) := by decide +kernel
theorem dX6_number_8 : decode cX6_number 8 = .ok (.iadd, 1) := by decide +kernel
theorem dX6_number_9 : decode cX6_number 9 = .ok (.iload_n 2, 1) := by decide +kernel
theorem dX6_number_10 : decode cX6_number 10 = .ok (.iadd, 1) := by decide +kernel
theorem dX6_number_11 : decode cX6_number 11 = .ok (.ireturn, 1) := by decide +kernel
theorem dX6_sitesFor_0 : decode cX6_sitesFor 0 = .ok (.iload_n 0, 1) := by decide +kernel
theorem dX6_sitesFor_1 : decode cX6_sitesFor 1 = .ok (.iconst 1, 1) := by decide +kernel
theorem dX6_sitesFor_2 : decode cX6_sitesFor 2 = .ok (.if_icmp .eq 8, 3) := by decide +kernel
theorem dX6_sitesFor_5 : decode cX6_sitesFor 5 = .ok (.iload_n 0, 1) := by decide +kernel
theorem dX6_sitesFor_6 : decode cX6_sitesFor 6 = .ok (.iconst 2, 1) := by decide +kernel
theorem dX6_sitesFor_7 : decode cX6_sitesFor 7 = .ok (.if_icmp .ne 9, 3) := by decide +kernel
theorem dX6_sitesFor_10 : decode cX6_sitesFor 10 = .ok (.iload_n 1, 1) := by decide +kernel
theorem dX6_sitesFor_11 : decode cX6_sitesFor 11 = .ok (.iconst 1, 1) := by decide +kernel
theorem dX6_sitesFor_12 : decode cX6_sitesFor 12 = .ok (.isub, 1) := by decide +kernel
theorem dX6_sitesFor_13 : decode cX6_sitesFor 13 = .ok (.goto 4, 3) := by decide +kernel
theorem dX6_sitesFor_16 : decode cX6_sitesFor 16 = .ok (.iload_n 1, 1) := by decide +kernel
theorem dX6_sitesFor_17 : decode cX6_sitesFor 17 = .ok (.ireturn, 1) := by decide +kernel
set_option maxRecDepth 20000 in
theorem ggX6_isMade_X6_sitesFor : GoodIn wsX6_isMade wsX6_sitesFor := goodIn_r _ [4] (by decide +kernel) (by decide +kernel)
set_option maxRecDepth 20000 in
theorem gX6_isMade_X6_sitesFor : GoodIn wsX6_isMade (va_wsS RX6 15 yX6_sitesFor wsX6_sitesFor) := goodIn_app (goodIn_of _ (by decide +kernel)) ggX6_isMade_X6_sitesFor
theorem dX6_isMade_0 : decode cX6_isMade 0 = .ok (.iload_n 0, 1) := by decide +kernel
theorem dX6_isMade_1 : decode cX6_isMade 1 = .ok (.bipush 100, 2) := by decide +kernel
theorem dX6_isMade_3 : decode cX6_isMade 3 = .ok (.idiv, 1) := by decide +kernel
theorem dX6_isMade_4 : decode cX6_isMade 4 = .ok (.istore_n 3, 1) := by decide +kernel
theorem dX6_isMade_5 : decode cX6_isMade 5 = .ok (.iload_n 0, 1) := by decide +kernel
theorem dX6_isMade_6 : decode cX6_isMade 6 = .ok (.ifCond .lt 30, 3) := by decide +kernel
theorem dX6_isMade_9 : decode cX6_isMade 9 = .ok (.iload_n 1, 1) := by decide +kernel
theorem dX6_isMade_10 : decode cX6_isMade 10 = .ok (.iload_n 3, 1) := by decide +kernel
theorem dX6_isMade_11 : decode cX6_isMade 11 = .ok (.ishr, 1) := by decide +kernel
theorem dX6_isMade_12 : decode cX6_isMade 12 = .ok (.iconst 1, 1) := by decide +kernel
theorem dX6_isMade_13 : decode cX6_isMade 13 = .ok (.iand, 1) := by decide +kernel
theorem dX6_isMade_14 : decode cX6_isMade 14 = .ok (.ifCond .eq 22, 3) := by decide +kernel
theorem dX6_isMade_17 : decode cX6_isMade 17 = .ok (.iload_n 0, 1) := by decide +kernel
theorem dX6_isMade_18 : decode cX6_isMade 18 = .ok (.bipush 10, 2) := by decide +kernel
theorem dX6_isMade_20 : decode cX6_isMade 20 = .ok (.idiv, 1) := by decide +kernel
theorem dX6_isMade_21 : decode cX6_isMade 21 = .ok (.bipush 10, 2) := by decide +kernel
theorem dX6_isMade_23 : decode cX6_isMade 23 = .ok (.irem, 1) := by decide +kernel
theorem dX6_isMade_24 : decode cX6_isMade 24 = .ok (.iload_n 3, 1) := by decide +kernel
theorem dX6_isMade_25 : decode cX6_isMade 25 = .ok (.iload_n 2, 1) := by decide +kernel
theorem dX6_isMade_26 : decode cX6_isMade 26 = .ok (.invokestatic 15, 3) := by decide +kernel
theorem dX6_isMade_29 : decode cX6_isMade 29 = .ok (.if_icmp .ge 7, 3) := by decide +kernel
theorem dX6_isMade_32 : decode cX6_isMade 32 = .ok (.iconst 1, 1) := by decide +kernel
theorem dX6_isMade_33 : decode cX6_isMade 33 = .ok (.goto 4, 3) := by decide +kernel
theorem dX6_isMade_36 : decode cX6_isMade 36 = .ok (.iconst 0, 1) := by decide +kernel
theorem dX6_isMade_37 : decode cX6_isMade 37 = .ok (.ireturn, 1) := by decide +kernel
set_option maxRecDepth 20000 in
theorem ggX6_after_X1_signAt : GoodIn wsX6_after wsX1_signAt := goodIn_r _ [4, 5, 6, 3, 7, 8, 9, 10, 11] (by decide +kernel) (by decide +kernel)
set_option maxRecDepth 20000 in
theorem gX6_after_X1_signAt : GoodIn wsX6_after (va_wsS RX6 19 yX1_signAt wsX1_signAt) := goodIn_app (goodIn_of _ (by decide +kernel)) ggX6_after_X1_signAt
set_option maxRecDepth 20000 in
theorem ggX6_after_X1_with : GoodIn wsX6_after wsX1_with := goodIn_r _ [14, 15, 2, 3, 4, 5, 6, 7, 8, 9, 10, 11] (by decide +kernel) (by decide +kernel)
set_option maxRecDepth 20000 in
theorem gX6_after_X1_with : GoodIn wsX6_after (va_wsS RX6 24 yX1_with wsX1_with) := goodIn_app (goodIn_of _ (by decide +kernel)) ggX6_after_X1_with
theorem dX6_after_0 : decode cX6_after 0 = .ok (.iload_n 1, 1) := by decide +kernel
theorem dX6_after_1 : decode cX6_after 1 = .ok (.ifCond .ge 5, 3) := by decide +kernel
theorem dX6_after_4 : decode cX6_after 4 = .ok (.iload_n 0, 1) := by decide +kernel
theorem dX6_after_5 : decode cX6_after 5 = .ok (.ireturn, 1) := by decide +kernel
theorem dX6_after_6 : decode cX6_after 6 = .ok (.iload_n 1, 1) := by decide +kernel
theorem dX6_after_7 : decode cX6_after 7 = .ok (.bipush 10, 2) := by decide +kernel
theorem dX6_after_9 : decode cX6_after 9 = .ok (.idiv, 1) := by decide +kernel
theorem dX6_after_10 : decode cX6_after 10 = .ok (.bipush 10, 2) := by decide +kernel
theorem dX6_after_12 : decode cX6_after 12 = .ok (.irem, 1) := by decide +kernel
theorem dX6_after_13 : decode cX6_after 13 = .ok (.istore_n 2, 1) := by decide +kernel
theorem dX6_after_14 : decode cX6_after 14 = .ok (.iload_n 0, 1) := by decide +kernel
theorem dX6_after_15 : decode cX6_after 15 = .ok (.iload_n 2, 1) := by decide +kernel
theorem dX6_after_16 : decode cX6_after 16 = .ok (.invokestatic 19, 3) := by decide +kernel
theorem dX6_after_19 : decode cX6_after 19 = .ok (.istore_n 3, 1) := by decide +kernel
theorem dX6_after_20 : decode cX6_after 20 = .ok (.iload_n 1, 1) := by decide +kernel
theorem dX6_after_21 : decode cX6_after 21 = .ok (.bipush 100, 2) := by decide +kernel
theorem dX6_after_23 : decode cX6_after 23 = .ok (.idiv, 1) := by decide +kernel
theorem dX6_after_24 : decode cX6_after 24 = .ok (.tableswitch 78 0 3 #[32, 42, 62, 71], 32) := by decide +kernel
theorem dX6_after_56 : decode cX6_after 56 = .ok (.iload_n 0, 1) := by decide +kernel
theorem dX6_after_57 : decode cX6_after 57 = .ok (.iload_n 2, 1) := by decide +kernel
theorem dX6_after_58 : decode cX6_after 58 = .ok (.iload_n 1, 1) := by decide +kernel
theorem dX6_after_59 : decode cX6_after 59 = .ok (.bipush 10, 2) := by decide +kernel
theorem dX6_after_61 : decode cX6_after 61 = .ok (.irem, 1) := by decide +kernel
theorem dX6_after_62 : decode cX6_after 62 = .ok (.invokestatic 24, 3) := by decide +kernel
theorem dX6_after_65 : decode cX6_after 65 = .ok (.ireturn, 1) := by decide +kernel
theorem dX6_after_66 : decode cX6_after 66 = .ok (.iload_n 0, 1) := by decide +kernel
theorem dX6_after_67 : decode cX6_after 67 = .ok (.iload_n 2, 1) := by decide +kernel
theorem dX6_after_68 : decode cX6_after 68 = .ok (.iload_n 0, 1) := by decide +kernel
theorem dX6_after_69 : decode cX6_after 69 = .ok (.iload_n 2, 1) := by decide +kernel
theorem dX6_after_70 : decode cX6_after 70 = .ok (.iconst 1, 1) := by decide +kernel
theorem dX6_after_71 : decode cX6_after 71 = .ok (.iadd, 1) := by decide +kernel
theorem dX6_after_72 : decode cX6_after 72 = .ok (.invokestatic 19, 3) := by decide +kernel
theorem dX6_after_75 : decode cX6_after 75 = .ok (.invokestatic 24, 3) := by decide +kernel
theorem dX6_after_78 : decode cX6_after 78 = .ok (.iload_n 2, 1) := by decide +kernel
theorem dX6_after_79 : decode cX6_after 79 = .ok (.iconst 1, 1) := by decide +kernel
theorem dX6_after_80 : decode cX6_after 80 = .ok (.iadd, 1) := by decide +kernel
theorem dX6_after_81 : decode cX6_after 81 = .ok (.iload_n 3, 1) := by decide +kernel
theorem dX6_after_82 : decode cX6_after 82 = .ok (.invokestatic 24, 3) := by decide +kernel
theorem dX6_after_85 : decode cX6_after 85 = .ok (.ireturn, 1) := by decide +kernel
theorem dX6_after_86 : decode cX6_after 86 = .ok (.iload_n 0, 1) := by decide +kernel
theorem dX6_after_87 : decode cX6_after 87 = .ok (.iload_n 2, 1) := by decide +kernel
theorem dX6_after_88 : decode cX6_after 88 = .ok (.iconst 1, 1) := by decide +kernel
theorem dX6_after_89 : decode cX6_after 89 = .ok (.iadd, 1) := by decide +kernel
theorem dX6_after_90 : decode cX6_after 90 = .ok (.iload_n 3, 1) := by decide +kernel
theorem dX6_after_91 : decode cX6_after 91 = .ok (.invokestatic 24, 3) := by decide +kernel
theorem dX6_after_94 : decode cX6_after 94 = .ok (.ireturn, 1) := by decide +kernel
theorem dX6_after_95 : decode cX6_after 95 = .ok (.iload_n 0, 1) := by decide +kernel
theorem dX6_after_96 : decode cX6_after 96 = .ok (.iload_n 2, 1) := by decide +kernel
theorem dX6_after_97 : decode cX6_after 97 = .ok (.iconst 4, 1) := by decide +kernel
theorem dX6_after_98 : decode cX6_after 98 = .ok (.invokestatic 24, 3) := by decide +kernel
theorem dX6_after_101 : decode cX6_after 101 = .ok (.ireturn, 1) := by decide +kernel
theorem dX6_after_102 : decode cX6_after 102 = .ok (.iload_n 0, 1) := by decide +kernel
theorem dX6_after_103 : decode cX6_after 103 = .ok (.ireturn, 1) := by decide +kernel
theorem dX7_init_0 : decode cX7_init 0 = .ok (.aload_n 0, 1) := by decide +kernel
theorem dX7_init_1 : decode cX7_init 1 = .ok (.invokespecial 3, 3) := by decide +kernel
theorem dX7_init_4 : decode cX7_init 4 = .ok (.aload_n 0, 1) := by decide +kernel
theorem dX7_init_5 : decode cX7_init 5 = .ok (.sipush 15625, 3) := by decide +kernel
theorem dX7_init_8 : decode cX7_init 8 = .ok (.newarray .byte, 2) := by decide +kernel
theorem dX7_init_10 : decode cX7_init 10 = .ok (.putfield 11, 3) := by decide +kernel
theorem dX7_init_13 : decode cX7_init 13 = .ok (.aload_n 0, 1) := by decide +kernel
theorem dX7_init_14 : decode cX7_init 14 = .ok (.sipush 15625, 3) := by decide +kernel
theorem dX7_init_17 : decode cX7_init 17 = .ok (.newarray .int, 2) := by decide +kernel
theorem dX7_init_19 : decode cX7_init 19 = .ok (.putfield 17, 3) := by decide +kernel
theorem dX7_init_22 : decode cX7_init 22 = .ok (.return_, 1) := by decide +kernel
theorem dX7_isFor_0 : decode cX7_isFor 0 = .ok (.aload_n 0, 1) := by decide +kernel
theorem dX7_isFor_1 : decode cX7_isFor 1 = .ok (.getfield 21, 3) := by decide +kernel
theorem dX7_isFor_4 : decode cX7_isFor 4 = .ok (.iload_n 1, 1) := by decide +kernel
theorem dX7_isFor_5 : decode cX7_isFor 5 = .ok (.if_icmp .ne 23, 3) := by decide +kernel
theorem dX7_isFor_8 : decode cX7_isFor 8 = .ok (.aload_n 0, 1) := by decide +kernel
theorem dX7_isFor_9 : decode cX7_isFor 9 = .ok (.getfield 25, 3) := by decide +kernel
theorem dX7_isFor_12 : decode cX7_isFor 12 = .ok (.iload_n 2, 1) := by decide +kernel
theorem dX7_isFor_13 : decode cX7_isFor 13 = .ok (.if_icmp .ne 15, 3) := by decide +kernel
theorem dX7_isFor_16 : decode cX7_isFor 16 = .ok (.aload_n 0, 1) := by decide +kernel
theorem dX7_isFor_17 : decode cX7_isFor 17 = .ok (.getfield 28, 3) := by decide +kernel
theorem dX7_isFor_20 : decode cX7_isFor 20 = .ok (.iload_n 3, 1) := by decide +kernel
theorem dX7_isFor_21 : decode cX7_isFor 21 = .ok (.if_icmp .ne 7, 3) := by decide +kernel
theorem dX7_isFor_24 : decode cX7_isFor 24 = .ok (.iconst 1, 1) := by decide +kernel
theorem dX7_isFor_25 : decode cX7_isFor 25 = .ok (.goto 4, 3) := by decide +kernel
theorem dX7_isFor_28 : decode cX7_isFor 28 = .ok (.iconst 0, 1) := by decide +kernel
theorem dX7_isFor_29 : decode cX7_isFor 29 = .ok (.ireturn, 1) := by decide +kernel
set_option maxRecDepth 20000 in
theorem ggX7_begin_J7_fill_031fb : GoodIn wsX7_begin wsJ7_fill_031fb := goodIn_r _ [10] (by decide +kernel) (by decide +kernel)
set_option maxRecDepth 20000 in
theorem gX7_begin_J7_fill_031fb : GoodIn wsX7_begin (va_wsS RX7 37 yJ7_fill_031fb wsJ7_fill_031fb) := goodIn_app (goodIn_of _ (by decide +kernel)) ggX7_begin_J7_fill_031fb
set_option maxRecDepth 20000 in
theorem ggX7_begin_X7_queueGoal : GoodIn wsX7_begin wsX7_queueGoal := goodIn_r _ [15, 3, 1, 16, 17, 18, 14, 19, 6, 4, 20, 21, 22, 23, 24, 25, 26, 27, 28, 29, 11, 12, 13, 30, 31, 32, 33, 34, 35, 36] (by decide +kernel) (by decide +kernel)
set_option maxRecDepth 20000 in
theorem gX7_begin_X7_queueGoal : GoodIn wsX7_begin (wsV RX7 43 RX7 yX7_queueGoal wsX7_queueGoal) := goodIn_app (goodIn_of _ (by decide +kernel)) ggX7_begin_X7_queueGoal
theorem dX7_begin_0 : decode cX7_begin 0 = .ok (.aload_n 0, 1) := by decide +kernel
theorem dX7_begin_1 : decode cX7_begin 1 = .ok (.iload_n 1, 1) := by decide +kernel
theorem dX7_begin_2 : decode cX7_begin 2 = .ok (.putfield 21, 3) := by decide +kernel
theorem dX7_begin_5 : decode cX7_begin 5 = .ok (.aload_n 0, 1) := by decide +kernel
theorem dX7_begin_6 : decode cX7_begin 6 = .ok (.iload_n 2, 1) := by decide +kernel
theorem dX7_begin_7 : decode cX7_begin 7 = .ok (.putfield 25, 3) := by decide +kernel
theorem dX7_begin_10 : decode cX7_begin 10 = .ok (.aload_n 0, 1) := by decide +kernel
theorem dX7_begin_11 : decode cX7_begin 11 = .ok (.iload_n 3, 1) := by decide +kernel
theorem dX7_begin_12 : decode cX7_begin 12 = .ok (.putfield 28, 3) := by decide +kernel
theorem dX7_begin_15 : decode cX7_begin 15 = .ok (.aload_n 0, 1) := by decide +kernel
theorem dX7_begin_16 : decode cX7_begin 16 = .ok (.iconst 0, 1) := by decide +kernel
theorem dX7_begin_17 : decode cX7_begin 17 = .ok (.putfield 31, 3) := by decide +kernel
theorem dX7_begin_20 : decode cX7_begin 20 = .ok (.aload_n 0, 1) := by decide +kernel
theorem dX7_begin_21 : decode cX7_begin 21 = .ok (.iconst 0, 1) := by decide +kernel
theorem dX7_begin_22 : decode cX7_begin 22 = .ok (.putfield 34, 3) := by decide +kernel
theorem dX7_begin_25 : decode cX7_begin 25 = .ok (.aload_n 0, 1) := by decide +kernel
theorem dX7_begin_26 : decode cX7_begin 26 = .ok (.getfield 11, 3) := by decide +kernel
theorem dX7_begin_29 : decode cX7_begin 29 = .ok (.bipush (-6), 2) := by decide +kernel
theorem dX7_begin_31 : decode cX7_begin 31 = .ok (.invokestatic 37, 3) := by decide +kernel
theorem dX7_begin_34 : decode cX7_begin 34 = .ok (.aload_n 0, 1) := by decide +kernel
theorem dX7_begin_35 : decode cX7_begin 35 = .ok (.iconst 0, 1) := by decide +kernel
theorem dX7_begin_36 : decode cX7_begin 36 = .ok (.iconst 0, 1) := by decide +kernel
theorem dX7_begin_37 : decode cX7_begin 37 = .ok (.invokevirtual 43, 3) := by decide +kernel
theorem dX7_begin_40 : decode cX7_begin 40 = .ok (.return_, 1) := by decide +kernel
set_option maxRecDepth 20000 in
theorem ggX7_slipsFrom_X7_searchFor : GoodIn wsX7_slipsFrom wsX7_searchFor := goodIn_r _ [5, 6, 7, 8, 9, 10, 11, 12, 13, 14, 15, 16, 17, 18, 19, 20, 4, 21, 22, 23, 24, 25, 26, 27, 28, 29, 30, 31, 32, 33, 34, 35, 36, 37, 38, 39, 40, 41, 42, 43, 44, 45, 46] (by decide +kernel) (by decide +kernel)
set_option maxRecDepth 20000 in
theorem gX7_slipsFrom_X7_searchFor : GoodIn wsX7_slipsFrom (wsV RX7 47 RX7 yX7_searchFor wsX7_searchFor) := goodIn_app (goodIn_of _ (by decide +kernel)) ggX7_slipsFrom_X7_searchFor
set_option maxRecDepth 20000 in
theorem ggX7_slipsFrom_X7_known : GoodIn wsX7_slipsFrom wsX7_known := goodIn_r _ [21, 22, 40, 41, 42, 43, 44, 45, 46] (by decide +kernel) (by decide +kernel)
set_option maxRecDepth 20000 in
theorem gX7_slipsFrom_X7_known : GoodIn wsX7_slipsFrom (wsV RX7 51 RX7 yX7_known wsX7_known) := goodIn_app (goodIn_of _ (by decide +kernel)) ggX7_slipsFrom_X7_known
theorem dX7_slipsFrom_0 : decode cX7_slipsFrom 0 = .ok (.aload_n 0, 1) := by decide +kernel
theorem dX7_slipsFrom_1 : decode cX7_slipsFrom 1 = .ok (.iload_n 1, 1) := by decide +kernel
theorem dX7_slipsFrom_2 : decode cX7_slipsFrom 2 = .ok (.invokevirtual 47, 3) := by decide +kernel
theorem dX7_slipsFrom_5 : decode cX7_slipsFrom 5 = .ok (.aload_n 0, 1) := by decide +kernel
theorem dX7_slipsFrom_6 : decode cX7_slipsFrom 6 = .ok (.iload_n 1, 1) := by decide +kernel
theorem dX7_slipsFrom_7 : decode cX7_slipsFrom 7 = .ok (.invokevirtual 51, 3) := by decide +kernel
theorem dX7_slipsFrom_10 : decode cX7_slipsFrom 10 = .ok (.ireturn, 1) := by decide +kernel
theorem dX7_known_0 : decode cX7_known 0 = .ok (.iload_n 1, 1) := by decide +kernel
theorem dX7_known_1 : decode cX7_known 1 = .ok (.ifCond .lt 21, 3) := by decide +kernel
theorem dX7_known_4 : decode cX7_known 4 = .ok (.iload_n 1, 1) := by decide +kernel
theorem dX7_known_5 : decode cX7_known 5 = .ok (.aload_n 0, 1) := by decide +kernel
theorem dX7_known_6 : decode cX7_known 6 = .ok (.getfield 11, 3) := by decide +kernel
theorem dX7_known_9 : decode cX7_known 9 = .ok (.arraylength, 1) := by decide +kernel
theorem dX7_known_10 : decode cX7_known 10 = .ok (.if_icmp .ge 12, 3) := by decide +kernel
theorem dX7_known_13 : decode cX7_known 13 = .ok (.aload_n 0, 1) := by decide +kernel
theorem dX7_known_14 : decode cX7_known 14 = .ok (.getfield 11, 3) := by decide +kernel
theorem dX7_known_17 : decode cX7_known 17 = .ok (.iload_n 1, 1) := by decide +kernel
theorem dX7_known_18 : decode cX7_known 18 = .ok (.baload, 1) := by decide +kernel
theorem dX7_known_19 : decode cX7_known 19 = .ok (.goto 5, 3) := by decide +kernel
theorem dX7_known_22 : decode cX7_known 22 = .ok (.bipush (-6), 2) := by decide +kernel
theorem dX7_known_24 : decode cX7_known 24 = .ok (.ireturn, 1) := by decide +kernel
set_option maxRecDepth 20000 in
theorem ggX7_searchAll_X7_searchFor : GoodIn wsX7_searchAll wsX7_searchFor := goodIn_r _ [5, 6, 7, 8, 9, 10, 11, 12, 13, 14, 15, 16, 17, 18, 19, 20, 4, 21, 22, 23, 24, 25, 26, 27, 28, 29, 30, 31, 32, 33, 34, 35, 36, 37, 38, 39, 40, 41, 42, 43, 44, 45, 46] (by decide +kernel) (by decide +kernel)
set_option maxRecDepth 20000 in
theorem gX7_searchAll_X7_searchFor : GoodIn wsX7_searchAll (wsV RX7 47 RX7 yX7_searchFor wsX7_searchFor) := goodIn_app (goodIn_of _ (by decide +kernel)) ggX7_searchAll_X7_searchFor
theorem dX7_searchAll_0 : decode cX7_searchAll 0 = .ok (.aload_n 0, 1) := by decide +kernel
theorem dX7_searchAll_1 : decode cX7_searchAll 1 = .ok (.iconst (-1), 1) := by decide +kernel
theorem dX7_searchAll_2 : decode cX7_searchAll 2 = .ok (.invokevirtual 47, 3) := by decide +kernel
theorem dX7_searchAll_5 : decode cX7_searchAll 5 = .ok (.return_, 1) := by decide +kernel
set_option maxRecDepth 20000 in
theorem ggX7_searchFor_X1_countOf : GoodIn wsX7_searchFor wsX1_countOf := goodIn_r _ [8, 9, 10, 7, 11, 12] (by decide +kernel) (by decide +kernel)
set_option maxRecDepth 20000 in
theorem gX7_searchFor_X1_countOf : GoodIn wsX7_searchFor (va_wsS RX7 55 yX1_countOf wsX1_countOf) := goodIn_app (goodIn_of _ (by decide +kernel)) ggX7_searchFor_X1_countOf
set_option maxRecDepth 20000 in
theorem ggX7_searchFor_X7_known : GoodIn wsX7_searchFor wsX7_known := goodIn_r _ [17, 18, 36, 37, 38, 39, 40, 41, 42] (by decide +kernel) (by decide +kernel)
set_option maxRecDepth 20000 in
theorem gX7_searchFor_X7_known : GoodIn wsX7_searchFor (wsV RX7 51 RX7 yX7_known wsX7_known) := goodIn_app (goodIn_of _ (by decide +kernel)) ggX7_searchFor_X7_known
set_option maxRecDepth 20000 in
theorem ggX7_searchFor_X7_queueBefore : GoodIn wsX7_searchFor wsX7_queueBefore := goodIn_r _ [22, 1, 23, 13, 14, 15, 16, 17, 18, 24, 10, 7, 11, 12, 25, 26, 27, 28, 29, 30, 31, 32, 33, 34, 35, 2, 4, 36, 37, 38, 39, 40, 41, 42] (by decide +kernel) (by decide +kernel)
set_option maxRecDepth 20000 in
theorem gX7_searchFor_X7_queueBefore : GoodIn wsX7_searchFor (wsV RX7 58 RX7 yX7_queueBefore wsX7_queueBefore) := goodIn_app (goodIn_of _ (by decide +kernel)) ggX7_searchFor_X7_queueBefore
theorem dX7_searchFor_0 : decode cX7_searchFor 0 = .ok (.aload_n 0, 1) := by decide +kernel
theorem dX7_searchFor_1 : decode cX7_searchFor 1 = .ok (.getfield 28, 3) := by decide +kernel
theorem dX7_searchFor_4 : decode cX7_searchFor 4 = .ok (.invokestatic 55, 3) := by decide +kernel
theorem dX7_searchFor_7 : decode cX7_searchFor 7 = .ok (.istore_n 2, 1) := by decide +kernel
theorem dX7_searchFor_8 : decode cX7_searchFor 8 = .ok (.aload_n 0, 1) := by decide +kernel
theorem dX7_searchFor_9 : decode cX7_searchFor 9 = .ok (.iload_n 1, 1) := by decide +kernel
theorem dX7_searchFor_10 : decode cX7_searchFor 10 = .ok (.invokevirtual 51, 3) := by decide +kernel
theorem dX7_searchFor_13 : decode cX7_searchFor 13 = .ok (.bipush (-6), 2) := by decide +kernel
theorem dX7_searchFor_15 : decode cX7_searchFor 15 = .ok (.if_icmp .ne 60, 3) := by decide +kernel
theorem dX7_searchFor_18 : decode cX7_searchFor 18 = .ok (.aload_n 0, 1) := by decide +kernel
theorem dX7_searchFor_19 : decode cX7_searchFor 19 = .ok (.getfield 31, 3) := by decide +kernel
theorem dX7_searchFor_22 : decode cX7_searchFor 22 = .ok (.iload_n 2, 1) := by decide +kernel
theorem dX7_searchFor_23 : decode cX7_searchFor 23 = .ok (.if_icmp .ge 52, 3) := by decide +kernel
theorem dX7_searchFor_26 : decode cX7_searchFor 26 = .ok (.aload_n 0, 1) := by decide +kernel
theorem dX7_searchFor_27 : decode cX7_searchFor 27 = .ok (.getfield 34, 3) := by decide +kernel
theorem dX7_searchFor_30 : decode cX7_searchFor 30 = .ok (.aload_n 0, 1) := by decide +kernel
theorem dX7_searchFor_31 : decode cX7_searchFor 31 = .ok (.getfield 31, 3) := by decide +kernel
theorem dX7_searchFor_34 : decode cX7_searchFor 34 = .ok (.if_icmp .ge 41, 3) := by decide +kernel
theorem dX7_searchFor_37 : decode cX7_searchFor 37 = .ok (.aload_n 0, 1) := by decide +kernel
theorem dX7_searchFor_38 : decode cX7_searchFor 38 = .ok (.getfield 34, 3) := by decide +kernel
theorem dX7_searchFor_41 : decode cX7_searchFor 41 = .ok (.aload_n 0, 1) := by decide +kernel
theorem dX7_searchFor_42 : decode cX7_searchFor 42 = .ok (.getfield 17, 3) := by decide +kernel
theorem dX7_searchFor_45 : decode cX7_searchFor 45 = .ok (.arraylength, 1) := by decide +kernel
theorem dX7_searchFor_46 : decode cX7_searchFor 46 = .ok (.if_icmp .ge 29, 3) := by decide +kernel
theorem dX7_searchFor_49 : decode cX7_searchFor 49 = .ok (.aload_n 0, 1) := by decide +kernel
theorem dX7_searchFor_50 : decode cX7_searchFor 50 = .ok (.aload_n 0, 1) := by decide +kernel
theorem dX7_searchFor_51 : decode cX7_searchFor 51 = .ok (.getfield 17, 3) := by decide +kernel
theorem dX7_searchFor_54 : decode cX7_searchFor 54 = .ok (.aload_n 0, 1) := by decide +kernel
theorem dX7_searchFor_55 : decode cX7_searchFor 55 = .ok (.getfield 34, 3) := by decide +kernel
theorem dX7_searchFor_58 : decode cX7_searchFor 58 = .ok (.iaload, 1) := by decide +kernel
theorem dX7_searchFor_59 : decode cX7_searchFor 59 = .ok (.invokevirtual 58, 3) := by decide +kernel
theorem dX7_searchFor_62 : decode cX7_searchFor 62 = .ok (.aload_n 0, 1) := by decide +kernel
theorem dX7_searchFor_63 : decode cX7_searchFor 63 = .ok (.dup, 1) := by decide +kernel
theorem dX7_searchFor_64 : decode cX7_searchFor 64 = .ok (.getfield 34, 3) := by decide +kernel
theorem dX7_searchFor_67 : decode cX7_searchFor 67 = .ok (.iconst 1, 1) := by decide +kernel
theorem dX7_searchFor_68 : decode cX7_searchFor 68 = .ok (.iadd, 1) := by decide +kernel
theorem dX7_searchFor_69 : decode cX7_searchFor 69 = .ok (.putfield 34, 3) := by decide +kernel
theorem dX7_searchFor_72 : decode cX7_searchFor 72 = .ok (.goto (-64), 3) := by decide +kernel
theorem dX7_searchFor_75 : decode cX7_searchFor 75 = .ok (.return_, 1) := by decide +kernel
set_option maxRecDepth 20000 in
theorem ggX7_queueGoal_X7_reach : GoodIn wsX7_queueGoal wsX7_reach := goodIn_r _ [7, 8, 9, 10, 23, 24, 25, 26, 27, 28, 29] (by decide +kernel) (by decide +kernel)
set_option maxRecDepth 20000 in
theorem gX7_queueGoal_X7_reach : GoodIn wsX7_queueGoal (wsV RX7 61 RX7 yX7_reach wsX7_reach) := goodIn_app (goodIn_of _ (by decide +kernel)) ggX7_queueGoal_X7_reach
set_option maxRecDepth 20000 in
theorem ggX7_queueGoal_X0_markAt : GoodIn wsX7_queueGoal wsX0_markAt := goodIn_r _ [14] (by decide +kernel) (by decide +kernel)
set_option maxRecDepth 20000 in
theorem gX7_queueGoal_X0_markAt : GoodIn wsX7_queueGoal (va_wsS RX7 64 yX0_markAt wsX0_markAt) := goodIn_app (goodIn_of _ (by decide +kernel)) ggX7_queueGoal_X0_markAt
set_option maxRecDepth 20000 in
theorem ggX7_queueGoal_X1_weight : GoodIn wsX7_queueGoal wsX1_weight := goodIn_r _ [18, 19] (by decide +kernel) (by decide +kernel)
set_option maxRecDepth 20000 in
theorem gX7_queueGoal_X1_weight : GoodIn wsX7_queueGoal (va_wsS RX7 70 yX1_weight wsX1_weight) := goodIn_app (goodIn_of _ (by decide +kernel)) ggX7_queueGoal_X1_weight
set_option maxRecDepth 20000 in
theorem ggX7_queueGoal_X7_queueGoal : GoodIn wsX7_queueGoal wsX7_queueGoal := goodIn_r _ [0, 1, 2, 3, 4, 5, 6, 7, 8, 9, 10, 11, 12, 13, 14, 15, 16, 17, 18, 19, 20, 21, 22, 23, 24, 25, 26, 27, 28, 29] (by decide +kernel) (by decide +kernel)
set_option maxRecDepth 20000 in
theorem gX7_queueGoal_X7_queueGoal : GoodIn wsX7_queueGoal (wsV RX7 43 RX7 yX7_queueGoal wsX7_queueGoal) := goodIn_app (goodIn_of _ (by decide +kernel)) ggX7_queueGoal_X7_queueGoal
theorem dX7_queueGoal_0 : decode cX7_queueGoal 0 = .ok (.iload_n 1, 1) := by decide +kernel
theorem dX7_queueGoal_1 : decode cX7_queueGoal 1 = .ok (.aload_n 0, 1) := by decide +kernel
theorem dX7_queueGoal_2 : decode cX7_queueGoal 2 = .ok (.getfield 28, 3) := by decide +kernel
theorem dX7_queueGoal_5 : decode cX7_queueGoal 5 = .ok (.if_icmp .ge 9, 3) := by decide +kernel
theorem dX7_queueGoal_8 : decode cX7_queueGoal 8 = .ok (.iload_n 1, 1) := by decide +kernel
theorem dX7_queueGoal_9 : decode cX7_queueGoal 9 = .ok (.bipush 6, 2) := by decide +kernel
theorem dX7_queueGoal_11 : decode cX7_queueGoal 11 = .ok (.if_icmp .lt 10, 3) := by decide +kernel
theorem dX7_queueGoal_14 : decode cX7_queueGoal 14 = .ok (.aload_n 0, 1) := by decide +kernel
theorem dX7_queueGoal_15 : decode cX7_queueGoal 15 = .ok (.iload_n 2, 1) := by decide +kernel
theorem dX7_queueGoal_16 : decode cX7_queueGoal 16 = .ok (.iconst 0, 1) := by decide +kernel
theorem dX7_queueGoal_17 : decode cX7_queueGoal 17 = .ok (.invokevirtual 61, 3) := by decide +kernel
theorem dX7_queueGoal_20 : decode cX7_queueGoal 20 = .ok (.return_, 1) := by decide +kernel
theorem dX7_queueGoal_21 : decode cX7_queueGoal 21 = .ok (.aload_n 0, 1) := by decide +kernel
theorem dX7_queueGoal_22 : decode cX7_queueGoal 22 = .ok (.getfield 21, 3) := by decide +kernel
theorem dX7_queueGoal_25 : decode cX7_queueGoal 25 = .ok (.iload_n 1, 1) := by decide +kernel
theorem dX7_queueGoal_26 : decode cX7_queueGoal 26 = .ok (.invokestatic 64, 3) := by decide +kernel
theorem dX7_queueGoal_29 : decode cX7_queueGoal 29 = .ok (.istore_n 3, 1) := by decide +kernel
theorem dX7_queueGoal_30 : decode cX7_queueGoal 30 = .ok (.iconst 0, 1) := by decide +kernel
theorem dX7_queueGoal_31 : decode cX7_queueGoal 31 = .ok (.istore 4, 2) := by decide +kernel
theorem dX7_queueGoal_33 : decode cX7_queueGoal 33 = .ok (.iload 4, 2) := by decide +kernel
theorem dX7_queueGoal_35 : decode cX7_queueGoal 35 = .ok (.iconst 5, 1) := by decide +kernel
theorem dX7_queueGoal_36 : decode cX7_queueGoal 36 = .ok (.if_icmp .ge 36, 3) := by decide +kernel
theorem dX7_queueGoal_39 : decode cX7_queueGoal 39 = .ok (.iload_n 3, 1) := by decide +kernel
theorem dX7_queueGoal_40 : decode cX7_queueGoal 40 = .ok (.iconst 5, 1) := by decide +kernel
theorem dX7_queueGoal_41 : decode cX7_queueGoal 41 = .ok (.if_icmp .eq 9, 3) := by decide +kernel
theorem dX7_queueGoal_44 : decode cX7_queueGoal 44 = .ok (.iload_n 3, 1) := by decide +kernel
theorem dX7_queueGoal_45 : decode cX7_queueGoal 45 = .ok (.iload 4, 2) := by decide +kernel
theorem dX7_queueGoal_47 : decode cX7_queueGoal 47 = .ok (.if_icmp .ne 19, 3) := by decide +kernel
theorem dX7_queueGoal_50 : decode cX7_queueGoal 50 = .ok (.aload_n 0, 1) := by decide +kernel
theorem dX7_queueGoal_51 : decode cX7_queueGoal 51 = .ok (.iload_n 1, 1) := by decide +kernel
theorem dX7_queueGoal_52 : decode cX7_queueGoal 52 = .ok (.iconst 1, 1) := by decide +kernel
theorem dX7_queueGoal_53 : decode cX7_queueGoal 53 = .ok (.iadd, 1) := by decide +kernel
theorem dX7_queueGoal_54 : decode cX7_queueGoal 54 = .ok (.iload_n 2, 1) := by decide +kernel
theorem dX7_queueGoal_55 : decode cX7_queueGoal 55 = .ok (.iload 4, 2) := by decide +kernel
theorem dX7_queueGoal_57 : decode cX7_queueGoal 57 = .ok (.iload_n 1, 1) := by decide +kernel
theorem dX7_queueGoal_58 : decode cX7_queueGoal 58 = .ok (.invokestatic 70, 3) := by decide +kernel
theorem dX7_queueGoal_61 : decode cX7_queueGoal 61 = .ok (.imul, 1) := by decide +kernel
theorem dX7_queueGoal_62 : decode cX7_queueGoal 62 = .ok (.iadd, 1) := by decide +kernel
theorem dX7_queueGoal_63 : decode cX7_queueGoal 63 = .ok (.invokevirtual 43, 3) := by decide +kernel
theorem dX7_queueGoal_66 : decode cX7_queueGoal 66 = .ok (.iinc 4 1, 3) := by decide +kernel
theorem dX7_queueGoal_69 : decode cX7_queueGoal 69 = .ok (.goto (-36), 3) := by decide +kernel
theorem dX7_queueGoal_72 : decode cX7_queueGoal 72 = .ok (.return_, 1) := by decide +kernel
set_option maxRecDepth 20000 in
theorem ggX7_queueBefore_X7_known : GoodIn wsX7_queueBefore wsX7_known := goodIn_r _ [7, 8, 27, 28, 29, 30, 31, 32, 33] (by decide +kernel) (by decide +kernel)
set_option maxRecDepth 20000 in
theorem gX7_queueBefore_X7_known : GoodIn wsX7_queueBefore (wsV RX7 51 RX7 yX7_known wsX7_known) := goodIn_app (goodIn_of _ (by decide +kernel)) ggX7_queueBefore_X7_known
set_option maxRecDepth 20000 in
theorem ggX7_queueBefore_X1_weight : GoodIn wsX7_queueBefore wsX1_weight := goodIn_r _ [12, 13] (by decide +kernel) (by decide +kernel)
set_option maxRecDepth 20000 in
theorem gX7_queueBefore_X1_weight : GoodIn wsX7_queueBefore (va_wsS RX7 70 yX1_weight wsX1_weight) := goodIn_app (goodIn_of _ (by decide +kernel)) ggX7_queueBefore_X1_weight
set_option maxRecDepth 20000 in
theorem ggX7_queueBefore_X1_signBy : GoodIn wsX7_queueBefore wsX1_signBy := goodIn_r _ [16] (by decide +kernel) (by decide +kernel)
set_option maxRecDepth 20000 in
theorem gX7_queueBefore_X1_signBy : GoodIn wsX7_queueBefore (va_wsS RX7 73 yX1_signBy wsX1_signBy) := goodIn_app (goodIn_of _ (by decide +kernel)) ggX7_queueBefore_X1_signBy
set_option maxRecDepth 20000 in
theorem ggX7_queueBefore_X7_canHaveMade : GoodIn wsX7_queueBefore wsX7_canHaveMade := goodIn_r _ [20, 2, 27, 28, 29, 30, 31, 32, 33] (by decide +kernel) (by decide +kernel)
set_option maxRecDepth 20000 in
theorem gX7_queueBefore_X7_canHaveMade : GoodIn wsX7_queueBefore (wsV RX7 76 RX7 yX7_canHaveMade wsX7_canHaveMade) := goodIn_app (goodIn_of _ (by decide +kernel)) ggX7_queueBefore_X7_canHaveMade
set_option maxRecDepth 20000 in
theorem ggX7_queueBefore_X7_reach : GoodIn wsX7_queueBefore wsX7_reach := goodIn_r _ [24, 8, 25, 26, 27, 28, 29, 30, 31, 32, 33] (by decide +kernel) (by decide +kernel)
set_option maxRecDepth 20000 in
theorem gX7_queueBefore_X7_reach : GoodIn wsX7_queueBefore (wsV RX7 61 RX7 yX7_reach wsX7_reach) := goodIn_app (goodIn_of _ (by decide +kernel)) ggX7_queueBefore_X7_reach
theorem dX7_queueBefore_0 : decode cX7_queueBefore 0 = .ok (.aload_n 0, 1) := by decide +kernel
theorem dX7_queueBefore_1 : decode cX7_queueBefore 1 = .ok (.iload_n 1, 1) := by decide +kernel
theorem dX7_queueBefore_2 : decode cX7_queueBefore 2 = .ok (.invokevirtual 51, 3) := by decide +kernel
theorem dX7_queueBefore_5 : decode cX7_queueBefore 5 = .ok (.iconst 1, 1) := by decide +kernel
theorem dX7_queueBefore_6 : decode cX7_queueBefore 6 = .ok (.iadd, 1) := by decide +kernel
theorem dX7_queueBefore_7 : decode cX7_queueBefore 7 = .ok (.istore_n 2, 1) := by decide +kernel
theorem dX7_queueBefore_8 : decode cX7_queueBefore 8 = .ok (.iconst (-1), 1) := by decide +kernel
theorem dX7_queueBefore_9 : decode cX7_queueBefore 9 = .ok (.istore_n 3, 1) := by decide +kernel
theorem dX7_queueBefore_10 : decode cX7_queueBefore 10 = .ok (.iconst 0, 1) := by decide +kernel
theorem dX7_queueBefore_11 : decode cX7_queueBefore 11 = .ok (.istore 4, 2) := by decide +kernel
theorem dX7_queueBefore_13 : decode cX7_queueBefore 13 = .ok (.iload 4, 2) := by decide +kernel
theorem dX7_queueBefore_15 : decode cX7_queueBefore 15 = .ok (.aload_n 0, 1) := by decide +kernel
theorem dX7_queueBefore_16 : decode cX7_queueBefore 16 = .ok (.getfield 28, 3) := by decide +kernel
theorem dX7_queueBefore_19 : decode cX7_queueBefore 19 = .ok (.if_icmp .ge 118, 3) := by decide +kernel
theorem dX7_queueBefore_22 : decode cX7_queueBefore 22 = .ok (.iload 4, 2) := by decide +kernel
theorem dX7_queueBefore_24 : decode cX7_queueBefore 24 = .ok (.invokestatic 70, 3) := by decide +kernel
theorem dX7_queueBefore_27 : decode cX7_queueBefore 27 = .ok (.istore 5, 2) := by decide +kernel
theorem dX7_queueBefore_29 : decode cX7_queueBefore 29 = .ok (.iload_n 1, 1) := by decide +kernel
theorem dX7_queueBefore_30 : decode cX7_queueBefore 30 = .ok (.iload 5, 2) := by decide +kernel
theorem dX7_queueBefore_32 : decode cX7_queueBefore 32 = .ok (.invokestatic 73, 3) := by decide +kernel
theorem dX7_queueBefore_35 : decode cX7_queueBefore 35 = .ok (.istore 6, 2) := by decide +kernel
theorem dX7_queueBefore_37 : decode cX7_queueBefore 37 = .ok (.aload_n 0, 1) := by decide +kernel
theorem dX7_queueBefore_38 : decode cX7_queueBefore 38 = .ok (.iload_n 3, 1) := by decide +kernel
theorem dX7_queueBefore_39 : decode cX7_queueBefore 39 = .ok (.iload 6, 2) := by decide +kernel
theorem dX7_queueBefore_41 : decode cX7_queueBefore 41 = .ok (.invokevirtual 76, 3) := by decide +kernel
theorem dX7_queueBefore_44 : decode cX7_queueBefore 44 = .ok (.ifCond .eq 40, 3) := by decide +kernel
theorem dX7_queueBefore_47 : decode cX7_queueBefore 47 = .ok (.iload_n 1, 1) := by decide +kernel
theorem dX7_queueBefore_48 : decode cX7_queueBefore 48 = .ok (.iload 6, 2) := by decide +kernel
theorem dX7_queueBefore_50 : decode cX7_queueBefore 50 = .ok (.iload 5, 2) := by decide +kernel
theorem dX7_queueBefore_52 : decode cX7_queueBefore 52 = .ok (.imul, 1) := by decide +kernel
theorem dX7_queueBefore_53 : decode cX7_queueBefore 53 = .ok (.isub, 1) := by decide +kernel
theorem dX7_queueBefore_54 : decode cX7_queueBefore 54 = .ok (.istore 7, 2) := by decide +kernel
theorem dX7_queueBefore_56 : decode cX7_queueBefore 56 = .ok (.iconst 0, 1) := by decide +kernel
theorem dX7_queueBefore_57 : decode cX7_queueBefore 57 = .ok (.istore 8, 2) := by decide +kernel
theorem dX7_queueBefore_59 : decode cX7_queueBefore 59 = .ok (.iload 8, 2) := by decide +kernel
theorem dX7_queueBefore_61 : decode cX7_queueBefore 61 = .ok (.iconst 5, 1) := by decide +kernel
theorem dX7_queueBefore_62 : decode cX7_queueBefore 62 = .ok (.if_icmp .ge 22, 3) := by decide +kernel
theorem dX7_queueBefore_65 : decode cX7_queueBefore 65 = .ok (.aload_n 0, 1) := by decide +kernel
theorem dX7_queueBefore_66 : decode cX7_queueBefore 66 = .ok (.iload 7, 2) := by decide +kernel
theorem dX7_queueBefore_68 : decode cX7_queueBefore 68 = .ok (.iload 8, 2) := by decide +kernel
theorem dX7_queueBefore_70 : decode cX7_queueBefore 70 = .ok (.iload 5, 2) := by decide +kernel
theorem dX7_queueBefore_72 : decode cX7_queueBefore 72 = .ok (.imul, 1) := by decide +kernel
theorem dX7_queueBefore_73 : decode cX7_queueBefore 73 = .ok (.iadd, 1) := by decide +kernel
theorem dX7_queueBefore_74 : decode cX7_queueBefore 74 = .ok (.iload_n 2, 1) := by decide +kernel
theorem dX7_queueBefore_75 : decode cX7_queueBefore 75 = .ok (.invokevirtual 61, 3) := by decide +kernel
theorem dX7_queueBefore_78 : decode cX7_queueBefore 78 = .ok (.iinc 8 1, 3) := by decide +kernel
theorem dX7_queueBefore_81 : decode cX7_queueBefore 81 = .ok (.goto (-22), 3) := by decide +kernel
theorem dX7_queueBefore_84 : decode cX7_queueBefore 84 = .ok (.iload_n 3, 1) := by decide +kernel
theorem dX7_queueBefore_85 : decode cX7_queueBefore 85 = .ok (.ifCond .lt 43, 3) := by decide +kernel
theorem dX7_queueBefore_88 : decode cX7_queueBefore 88 = .ok (.iload_n 3, 1) := by decide +kernel
theorem dX7_queueBefore_89 : decode cX7_queueBefore 89 = .ok (.iload 6, 2) := by decide +kernel
theorem dX7_queueBefore_91 : decode cX7_queueBefore 91 = .ok (.if_icmp .eq 37, 3) := by decide +kernel
theorem dX7_queueBefore_94 : decode cX7_queueBefore 94 = .ok (.aload_n 0, 1) := by decide +kernel
theorem dX7_queueBefore_95 : decode cX7_queueBefore 95 = .ok (.getfield 25, 3) := by decide +kernel
theorem dX7_queueBefore_98 : decode cX7_queueBefore 98 = .ok (.iconst 1, 1) := by decide +kernel
theorem dX7_queueBefore_99 : decode cX7_queueBefore 99 = .ok (.ishr, 1) := by decide +kernel
theorem dX7_queueBefore_100 : decode cX7_queueBefore 100 = .ok (.iconst 1, 1) := by decide +kernel
theorem dX7_queueBefore_101 : decode cX7_queueBefore 101 = .ok (.iand, 1) := by decide +kernel
theorem dX7_queueBefore_102 : decode cX7_queueBefore 102 = .ok (.ifCond .eq 26, 3) := by decide +kernel
theorem dX7_queueBefore_105 : decode cX7_queueBefore 105 = .ok (.iconst 5, 1) := by decide +kernel
theorem dX7_queueBefore_106 : decode cX7_queueBefore 106 = .ok (.iload 5, 2) := by decide +kernel
theorem dX7_queueBefore_108 : decode cX7_queueBefore 108 = .ok (.imul, 1) := by decide +kernel
theorem dX7_queueBefore_109 : decode cX7_queueBefore 109 = .ok (.istore 7, 2) := by decide +kernel
theorem dX7_queueBefore_111 : decode cX7_queueBefore 111 = .ok (.aload_n 0, 1) := by decide +kernel
theorem dX7_queueBefore_112 : decode cX7_queueBefore 112 = .ok (.iload_n 1, 1) := by decide +kernel
theorem dX7_queueBefore_113 : decode cX7_queueBefore 113 = .ok (.iload 6, 2) := by decide +kernel
theorem dX7_queueBefore_115 : decode cX7_queueBefore 115 = .ok (.iload_n 3, 1) := by decide +kernel
theorem dX7_queueBefore_116 : decode cX7_queueBefore 116 = .ok (.isub, 1) := by decide +kernel
theorem dX7_queueBefore_117 : decode cX7_queueBefore 117 = .ok (.iload 7, 2) := by decide +kernel
theorem dX7_queueBefore_119 : decode cX7_queueBefore 119 = .ok (.iload 5, 2) := by decide +kernel
theorem dX7_queueBefore_121 : decode cX7_queueBefore 121 = .ok (.isub, 1) := by decide +kernel
theorem dX7_queueBefore_122 : decode cX7_queueBefore 122 = .ok (.imul, 1) := by decide +kernel
theorem dX7_queueBefore_123 : decode cX7_queueBefore 123 = .ok (.iadd, 1) := by decide +kernel
theorem dX7_queueBefore_124 : decode cX7_queueBefore 124 = .ok (.iload_n 2, 1) := by decide +kernel
theorem dX7_queueBefore_125 : decode cX7_queueBefore 125 = .ok (.invokevirtual 61, 3) := by decide +kernel
theorem dX7_queueBefore_128 : decode cX7_queueBefore 128 = .ok (.iload 6, 2) := by decide +kernel
theorem dX7_queueBefore_130 : decode cX7_queueBefore 130 = .ok (.istore_n 3, 1) := by decide +kernel
theorem dX7_queueBefore_131 : decode cX7_queueBefore 131 = .ok (.iinc 4 1, 3) := by decide +kernel
theorem dX7_queueBefore_134 : decode cX7_queueBefore 134 = .ok (.goto (-121), 3) := by decide +kernel
theorem dX7_queueBefore_137 : decode cX7_queueBefore 137 = .ok (.return_, 1) := by decide +kernel
theorem dX7_canHaveMade_0 : decode cX7_canHaveMade 0 = .ok (.iload_n 1, 1) := by decide +kernel
theorem dX7_canHaveMade_1 : decode cX7_canHaveMade 1 = .ok (.iload_n 2, 1) := by decide +kernel
theorem dX7_canHaveMade_2 : decode cX7_canHaveMade 2 = .ok (.if_icmp .ne 14, 3) := by decide +kernel
theorem dX7_canHaveMade_5 : decode cX7_canHaveMade 5 = .ok (.aload_n 0, 1) := by decide +kernel
theorem dX7_canHaveMade_6 : decode cX7_canHaveMade 6 = .ok (.getfield 25, 3) := by decide +kernel
theorem dX7_canHaveMade_9 : decode cX7_canHaveMade 9 = .ok (.iconst 2, 1) := by decide +kernel
theorem dX7_canHaveMade_10 : decode cX7_canHaveMade 10 = .ok (.ishr, 1) := by decide +kernel
theorem dX7_canHaveMade_11 : decode cX7_canHaveMade 11 = .ok (.iconst 1, 1) := by decide +kernel
theorem dX7_canHaveMade_12 : decode cX7_canHaveMade 12 = .ok (.iand, 1) := by decide +kernel
theorem dX7_canHaveMade_13 : decode cX7_canHaveMade 13 = .ok (.ifCond .ne 23, 3) := by decide +kernel
theorem dX7_canHaveMade_16 : decode cX7_canHaveMade 16 = .ok (.aload_n 0, 1) := by decide +kernel
theorem dX7_canHaveMade_17 : decode cX7_canHaveMade 17 = .ok (.getfield 25, 3) := by decide +kernel
theorem dX7_canHaveMade_20 : decode cX7_canHaveMade 20 = .ok (.iload_n 2, 1) := by decide +kernel
theorem dX7_canHaveMade_21 : decode cX7_canHaveMade 21 = .ok (.iconst 4, 1) := by decide +kernel
theorem dX7_canHaveMade_22 : decode cX7_canHaveMade 22 = .ok (.if_icmp .ne 7, 3) := by decide +kernel
theorem dX7_canHaveMade_25 : decode cX7_canHaveMade 25 = .ok (.iconst 3, 1) := by decide +kernel
theorem dX7_canHaveMade_26 : decode cX7_canHaveMade 26 = .ok (.goto 4, 3) := by decide +kernel
theorem dX7_canHaveMade_29 : decode cX7_canHaveMade 29 = .ok (.iconst 0, 1) := by decide +kernel
theorem dX7_canHaveMade_30 : decode cX7_canHaveMade 30 = .ok (.ishr, 1) := by decide +kernel
theorem dX7_canHaveMade_31 : decode cX7_canHaveMade 31 = .ok (.iconst 1, 1) := by decide +kernel
theorem dX7_canHaveMade_32 : decode cX7_canHaveMade 32 = .ok (.iand, 1) := by decide +kernel
theorem dX7_canHaveMade_33 : decode cX7_canHaveMade 33 = .ok (.ifCond .eq 7, 3) := by decide +kernel
theorem dX7_canHaveMade_36 : decode cX7_canHaveMade 36 = .ok (.iconst 1, 1) := by decide +kernel
theorem dX7_canHaveMade_37 : decode cX7_canHaveMade 37 = .ok (.goto 4, 3) := by decide +kernel
theorem dX7_canHaveMade_40 : decode cX7_canHaveMade 40 = .ok (.iconst 0, 1) := by decide +kernel
theorem dX7_canHaveMade_41 : decode cX7_canHaveMade 41 = .ok (.ireturn, 1) := by decide +kernel
theorem dX7_reach_0 : decode cX7_reach 0 = .ok (.iload_n 1, 1) := by decide +kernel
theorem dX7_reach_1 : decode cX7_reach 1 = .ok (.ifCond .lt 23, 3) := by decide +kernel
theorem dX7_reach_4 : decode cX7_reach 4 = .ok (.iload_n 1, 1) := by decide +kernel
theorem dX7_reach_5 : decode cX7_reach 5 = .ok (.aload_n 0, 1) := by decide +kernel
theorem dX7_reach_6 : decode cX7_reach 6 = .ok (.getfield 11, 3) := by decide +kernel
theorem dX7_reach_9 : decode cX7_reach 9 = .ok (.arraylength, 1) := by decide +kernel
theorem dX7_reach_10 : decode cX7_reach 10 = .ok (.if_icmp .ge 14, 3) := by decide +kernel
theorem dX7_reach_13 : decode cX7_reach 13 = .ok (.aload_n 0, 1) := by decide +kernel
theorem dX7_reach_14 : decode cX7_reach 14 = .ok (.getfield 11, 3) := by decide +kernel
theorem dX7_reach_17 : decode cX7_reach 17 = .ok (.iload_n 1, 1) := by decide +kernel
theorem dX7_reach_18 : decode cX7_reach 18 = .ok (.baload, 1) := by decide +kernel
theorem dX7_reach_19 : decode cX7_reach 19 = .ok (.bipush (-6), 2) := by decide +kernel
theorem dX7_reach_21 : decode cX7_reach 21 = .ok (.if_icmp .eq 4, 3) := by decide +kernel
theorem dX7_reach_24 : decode cX7_reach 24 = .ok (.return_, 1) := by decide +kernel
theorem dX7_reach_25 : decode cX7_reach 25 = .ok (.aload_n 0, 1) := by decide +kernel
theorem dX7_reach_26 : decode cX7_reach 26 = .ok (.getfield 31, 3) := by decide +kernel
theorem dX7_reach_29 : decode cX7_reach 29 = .ok (.ifCond .lt 43, 3) := by decide +kernel
theorem dX7_reach_32 : decode cX7_reach 32 = .ok (.aload_n 0, 1) := by decide +kernel
theorem dX7_reach_33 : decode cX7_reach 33 = .ok (.getfield 31, 3) := by decide +kernel
theorem dX7_reach_36 : decode cX7_reach 36 = .ok (.aload_n 0, 1) := by decide +kernel
theorem dX7_reach_37 : decode cX7_reach 37 = .ok (.getfield 17, 3) := by decide +kernel
theorem dX7_reach_40 : decode cX7_reach 40 = .ok (.arraylength, 1) := by decide +kernel
theorem dX7_reach_41 : decode cX7_reach 41 = .ok (.if_icmp .ge 31, 3) := by decide +kernel
theorem dX7_reach_44 : decode cX7_reach 44 = .ok (.aload_n 0, 1) := by decide +kernel
theorem dX7_reach_45 : decode cX7_reach 45 = .ok (.getfield 11, 3) := by decide +kernel
theorem dX7_reach_48 : decode cX7_reach 48 = .ok (.iload_n 1, 1) := by decide +kernel
theorem dX7_reach_49 : decode cX7_reach 49 = .ok (.iload_n 2, 1) := by decide +kernel
theorem dX7_reach_50 : decode cX7_reach 50 = .ok (.i2b, 1) := by decide +kernel
theorem dX7_reach_51 : decode cX7_reach 51 = .ok (.bastore, 1) := by decide +kernel
theorem dX7_reach_52 : decode cX7_reach 52 = .ok (.aload_n 0, 1) := by decide +kernel
theorem dX7_reach_53 : decode cX7_reach 53 = .ok (.getfield 17, 3) := by decide +kernel
theorem dX7_reach_56 : decode cX7_reach 56 = .ok (.aload_n 0, 1) := by decide +kernel
theorem dX7_reach_57 : decode cX7_reach 57 = .ok (.getfield 31, 3) := by decide +kernel
theorem dX7_reach_60 : decode cX7_reach 60 = .ok (.iload_n 1, 1) := by decide +kernel
theorem dX7_reach_61 : decode cX7_reach 61 = .ok (.iastore, 1) := by decide +kernel
theorem dX7_reach_62 : decode cX7_reach 62 = .ok (.aload_n 0, 1) := by decide +kernel
theorem dX7_reach_63 : decode cX7_reach 63 = .ok (.dup, 1) := by decide +kernel
theorem dX7_reach_64 : decode cX7_reach 64 = .ok (.getfield 31, 3) := by decide +kernel
theorem dX7_reach_67 : decode cX7_reach 67 = .ok (.iconst 1, 1) := by decide +kernel
theorem dX7_reach_68 : decode cX7_reach 68 = .ok (.iadd, 1) := by decide +kernel
theorem dX7_reach_69 : decode cX7_reach 69 = .ok (.putfield 31, 3) := by decide +kernel
theorem dX7_reach_72 : decode cX7_reach 72 = .ok (.return_, 1) := by decide +kernel
theorem dX8_init_0 : decode cX8_init 0 = .ok (.aload_n 0, 1) := by decide +kernel
theorem dX8_init_1 : decode cX8_init 1 = .ok (.invokespecial 3, 3) := by decide +kernel
theorem dX8_init_4 : decode cX8_init 4 = .ok (.aload_n 0, 1) := by decide +kernel
theorem dX8_init_5 : decode cX8_init 5 = .ok (.bipush 36, 2) := by decide +kernel
theorem dX8_init_7 : decode cX8_init 7 = .ok (.newarray .int, 2) := by decide +kernel
theorem dX8_init_9 : decode cX8_init 9 = .ok (.putfield 9, 3) := by decide +kernel
theorem dX8_init_12 : decode cX8_init 12 = .ok (.aload_n 0, 1) := by decide +kernel
theorem dX8_init_13 : decode cX8_init 13 = .ok (.bipush 6, 2) := by decide +kernel
theorem dX8_init_15 : decode cX8_init 15 = .ok (.newarray .int, 2) := by decide +kernel
theorem dX8_init_17 : decode cX8_init 17 = .ok (.putfield 15, 3) := by decide +kernel
theorem dX8_init_20 : decode cX8_init 20 = .ok (.aload_n 0, 1) := by decide +kernel
theorem dX8_init_21 : decode cX8_init 21 = .ok (.bipush 6, 2) := by decide +kernel
theorem dX8_init_23 : decode cX8_init 23 = .ok (.newarray .int, 2) := by decide +kernel
theorem dX8_init_25 : decode cX8_init 25 = .ok (.putfield 18, 3) := by decide +kernel
theorem dX8_init_28 : decode cX8_init 28 = .ok (.return_, 1) := by decide +kernel
set_option maxRecDepth 20000 in
theorem ggX8_note_X9_isMap : GoodIn wsX8_note wsX9_isMap := goodIn_r _ [4] (by decide +kernel) (by decide +kernel)
set_option maxRecDepth 20000 in
theorem gX8_note_X9_isMap_n21 : GoodIn wsX8_note (wsX9_isMap) := ggX8_note_X9_isMap
theorem dX8_note_0 : decode cX8_note 0 = .ok (.iload_n 1, 1) := by decide +kernel
theorem dX8_note_1 : decode cX8_note 1 = .ok (.invokestatic 21, 3) := by decide +kernel
theorem dX8_note_4 : decode cX8_note 4 = .ok (.ifCond .eq 22, 3) := by decide +kernel
theorem dX8_note_7 : decode cX8_note 7 = .ok (.iload_n 2, 1) := by decide +kernel
theorem dX8_note_8 : decode cX8_note 8 = .ok (.invokestatic 21, 3) := by decide +kernel
theorem dX8_note_11 : decode cX8_note 11 = .ok (.ifCond .eq 15, 3) := by decide +kernel
theorem dX8_note_14 : decode cX8_note 14 = .ok (.aload_n 0, 1) := by decide +kernel
theorem dX8_note_15 : decode cX8_note 15 = .ok (.getfield 9, 3) := by decide +kernel
theorem dX8_note_18 : decode cX8_note 18 = .ok (.iload_n 1, 1) := by decide +kernel
theorem dX8_note_19 : decode cX8_note 19 = .ok (.bipush 6, 2) := by decide +kernel
theorem dX8_note_21 : decode cX8_note 21 = .ok (.imul, 1) := by decide +kernel
theorem dX8_note_22 : decode cX8_note 22 = .ok (.iload_n 2, 1) := by decide +kernel
theorem dX8_note_23 : decode cX8_note 23 = .ok (.iadd, 1) := by decide +kernel
theorem dX8_note_24 : decode cX8_note 24 = .ok (.iload_n 3, 1) := by decide +kernel
theorem dX8_note_25 : decode cX8_note 25 = .ok (.iastore, 1) := by decide +kernel
theorem dX8_note_26 : decode cX8_note 26 = .ok (.return_, 1) := by decide +kernel
set_option maxRecDepth 20000 in
theorem ggX8_slipsOf_X9_isMap : GoodIn wsX8_slipsOf wsX9_isMap := goodIn_r _ [4] (by decide +kernel) (by decide +kernel)
set_option maxRecDepth 20000 in
theorem gX8_slipsOf_X9_isMap_n21 : GoodIn wsX8_slipsOf (wsX9_isMap) := ggX8_slipsOf_X9_isMap
theorem dX8_slipsOf_0 : decode cX8_slipsOf 0 = .ok (.iload_n 1, 1) := by decide +kernel
theorem dX8_slipsOf_1 : decode cX8_slipsOf 1 = .ok (.invokestatic 21, 3) := by decide +kernel
theorem dX8_slipsOf_4 : decode cX8_slipsOf 4 = .ok (.ifCond .eq 24, 3) := by decide +kernel
theorem dX8_slipsOf_7 : decode cX8_slipsOf 7 = .ok (.iload_n 2, 1) := by decide +kernel
theorem dX8_slipsOf_8 : decode cX8_slipsOf 8 = .ok (.invokestatic 21, 3) := by decide +kernel
theorem dX8_slipsOf_11 : decode cX8_slipsOf 11 = .ok (.ifCond .eq 17, 3) := by decide +kernel
theorem dX8_slipsOf_14 : decode cX8_slipsOf 14 = .ok (.aload_n 0, 1) := by decide +kernel
theorem dX8_slipsOf_15 : decode cX8_slipsOf 15 = .ok (.getfield 9, 3) := by decide +kernel
theorem dX8_slipsOf_18 : decode cX8_slipsOf 18 = .ok (.iload_n 1, 1) := by decide +kernel
theorem dX8_slipsOf_19 : decode cX8_slipsOf 19 = .ok (.bipush 6, 2) := by decide +kernel
theorem dX8_slipsOf_21 : decode cX8_slipsOf 21 = .ok (.imul, 1) := by decide +kernel
theorem dX8_slipsOf_22 : decode cX8_slipsOf 22 = .ok (.iload_n 2, 1) := by decide +kernel
theorem dX8_slipsOf_23 : decode cX8_slipsOf 23 = .ok (.iadd, 1) := by decide +kernel
theorem dX8_slipsOf_24 : decode cX8_slipsOf 24 = .ok (.iaload, 1) := by decide +kernel
theorem dX8_slipsOf_25 : decode cX8_slipsOf 25 = .ok (.goto 5, 3) := by decide +kernel
theorem dX8_slipsOf_28 : decode cX8_slipsOf 28 = .ok (.bipush (-6), 2) := by decide +kernel
theorem dX8_slipsOf_30 : decode cX8_slipsOf 30 = .ok (.ireturn, 1) := by decide +kernel
set_option maxRecDepth 20000 in
theorem ggX8_seek_J7_fill_53178 : GoodIn wsX8_seek wsJ7_fill_53178 := goodIn_r _ [7] (by decide +kernel) (by decide +kernel)
set_option maxRecDepth 20000 in
theorem gX8_seek_J7_fill_53178 : GoodIn wsX8_seek (va_wsS RX8 32 yJ7_fill_53178 wsJ7_fill_53178) := goodIn_app (goodIn_of _ (by decide +kernel)) ggX8_seek_J7_fill_53178
set_option maxRecDepth 20000 in
theorem ggX8_seek_X8_draw : GoodIn wsX8_seek wsX8_draw := goodIn_r _ [12, 1, 3, 13, 14, 15, 11, 16, 2, 17, 18, 19, 20, 21, 22, 23, 24, 25, 26, 27, 8, 9, 10, 28, 29, 30, 31, 32, 33, 34, 35, 36, 37, 38, 39, 40, 41] (by decide +kernel) (by decide +kernel)
set_option maxRecDepth 20000 in
theorem gX8_seek_X8_draw : GoodIn wsX8_seek (wsV RX8 38 RX8 yX8_draw wsX8_draw) := goodIn_app (goodIn_of _ (by decide +kernel)) ggX8_seek_X8_draw
theorem dX8_seek_0 : decode cX8_seek 0 = .ok (.aload_n 0, 1) := by decide +kernel
theorem dX8_seek_1 : decode cX8_seek 1 = .ok (.bipush (-6), 2) := by decide +kernel
theorem dX8_seek_3 : decode cX8_seek 3 = .ok (.putfield 25, 3) := by decide +kernel
theorem dX8_seek_6 : decode cX8_seek 6 = .ok (.aload_n 0, 1) := by decide +kernel
theorem dX8_seek_7 : decode cX8_seek 7 = .ok (.iconst 0, 1) := by decide +kernel
theorem dX8_seek_8 : decode cX8_seek 8 = .ok (.putfield 29, 3) := by decide +kernel
theorem dX8_seek_11 : decode cX8_seek 11 = .ok (.aload_n 0, 1) := by decide +kernel
theorem dX8_seek_12 : decode cX8_seek 12 = .ok (.getfield 15, 3) := by decide +kernel
theorem dX8_seek_15 : decode cX8_seek 15 = .ok (.bipush 7, 2) := by decide +kernel
theorem dX8_seek_17 : decode cX8_seek 17 = .ok (.invokestatic 32, 3) := by decide +kernel
theorem dX8_seek_20 : decode cX8_seek 20 = .ok (.aload_n 0, 1) := by decide +kernel
theorem dX8_seek_21 : decode cX8_seek 21 = .ok (.iload_n 1, 1) := by decide +kernel
theorem dX8_seek_22 : decode cX8_seek 22 = .ok (.iconst 0, 1) := by decide +kernel
theorem dX8_seek_23 : decode cX8_seek 23 = .ok (.iconst 0, 1) := by decide +kernel
theorem dX8_seek_24 : decode cX8_seek 24 = .ok (.iconst 0, 1) := by decide +kernel
theorem dX8_seek_25 : decode cX8_seek 25 = .ok (.invokevirtual 38, 3) := by decide +kernel
theorem dX8_seek_28 : decode cX8_seek 28 = .ok (.return_, 1) := by decide +kernel
set_option maxRecDepth 20000 in
theorem ggX8_draw_X8_weigh : GoodIn wsX8_draw wsX8_weigh := goodIn_r _ [7, 1, 8, 2, 9, 10, 11, 12, 13, 32, 33, 34, 35, 36] (by decide +kernel) (by decide +kernel)
set_option maxRecDepth 20000 in
theorem gX8_draw_X8_weigh : GoodIn wsX8_draw (wsV RX8 42 RX8 yX8_weigh wsX8_weigh) := goodIn_app (goodIn_of _ (by decide +kernel)) ggX8_draw_X8_weigh
set_option maxRecDepth 20000 in
theorem ggX8_draw_X9_isOf : GoodIn wsX8_draw wsX9_isOf := goodIn_r _ [16, 17, 18, 15, 19] (by decide +kernel) (by decide +kernel)
set_option maxRecDepth 20000 in
theorem gX8_draw_X9_isOf_n46 : GoodIn wsX8_draw (wsX9_isOf) := ggX8_draw_X9_isOf
set_option maxRecDepth 20000 in
theorem ggX8_draw_X8_draw : GoodIn wsX8_draw wsX8_draw := goodIn_r _ [0, 1, 2, 3, 4, 5, 6, 7, 8, 9, 10, 11, 12, 13, 14, 15, 16, 17, 18, 19, 20, 21, 22, 23, 24, 25, 26, 27, 28, 29, 30, 31, 32, 33, 34, 35, 36] (by decide +kernel) (by decide +kernel)
set_option maxRecDepth 20000 in
theorem gX8_draw_X8_draw : GoodIn wsX8_draw (wsV RX8 38 RX8 yX8_draw wsX8_draw) := goodIn_app (goodIn_of _ (by decide +kernel)) ggX8_draw_X8_draw
set_option maxRecDepth 20000 in
theorem ggX8_draw_X8_slipsOf : GoodIn wsX8_draw wsX8_slipsOf := goodIn_r _ [26, 27, 18, 15, 19, 32, 33, 34, 35, 36] (by decide +kernel) (by decide +kernel)
set_option maxRecDepth 20000 in
theorem gX8_draw_X8_slipsOf : GoodIn wsX8_draw (wsV RX8 50 RX8 yX8_slipsOf wsX8_slipsOf) := goodIn_app (goodIn_of _ (by decide +kernel)) ggX8_draw_X8_slipsOf
set_option maxRecDepth 20000 in
theorem ggX8_draw_X8_comesOf : GoodIn wsX8_draw wsX8_comesOf := goodIn_r _ [31, 2, 18, 15, 19, 32, 33, 34, 35, 36] (by decide +kernel) (by decide +kernel)
set_option maxRecDepth 20000 in
theorem gX8_draw_X8_comesOf : GoodIn wsX8_draw (wsV RX8 54 RX8 yX8_comesOf wsX8_comesOf) := goodIn_app (goodIn_of _ (by decide +kernel)) ggX8_draw_X8_comesOf
theorem dX8_draw_0 : decode cX8_draw 0 = .ok (.aload_n 0, 1) := by decide +kernel
theorem dX8_draw_1 : decode cX8_draw 1 = .ok (.getfield 25, 3) := by decide +kernel
theorem dX8_draw_4 : decode cX8_draw 4 = .ok (.ifCond .lt 12, 3) := by decide +kernel
theorem dX8_draw_7 : decode cX8_draw 7 = .ok (.iload_n 3, 1) := by decide +kernel
theorem dX8_draw_8 : decode cX8_draw 8 = .ok (.aload_n 0, 1) := by decide +kernel
theorem dX8_draw_9 : decode cX8_draw 9 = .ok (.getfield 25, 3) := by decide +kernel
theorem dX8_draw_12 : decode cX8_draw 12 = .ok (.if_icmp .le 4, 3) := by decide +kernel
theorem dX8_draw_15 : decode cX8_draw 15 = .ok (.return_, 1) := by decide +kernel
theorem dX8_draw_16 : decode cX8_draw 16 = .ok (.iload_n 2, 1) := by decide +kernel
theorem dX8_draw_17 : decode cX8_draw 17 = .ok (.ifCond .lt 9, 3) := by decide +kernel
theorem dX8_draw_20 : decode cX8_draw 20 = .ok (.iload_n 2, 1) := by decide +kernel
theorem dX8_draw_21 : decode cX8_draw 21 = .ok (.bipush 6, 2) := by decide +kernel
theorem dX8_draw_23 : decode cX8_draw 23 = .ok (.if_icmp .lt 14, 3) := by decide +kernel
theorem dX8_draw_26 : decode cX8_draw 26 = .ok (.iload 4, 2) := by decide +kernel
theorem dX8_draw_28 : decode cX8_draw 28 = .ok (.ifCond .eq 8, 3) := by decide +kernel
theorem dX8_draw_31 : decode cX8_draw 31 = .ok (.aload_n 0, 1) := by decide +kernel
theorem dX8_draw_32 : decode cX8_draw 32 = .ok (.iload_n 3, 1) := by decide +kernel
theorem dX8_draw_33 : decode cX8_draw 33 = .ok (.invokevirtual 42, 3) := by decide +kernel
theorem dX8_draw_36 : decode cX8_draw 36 = .ok (.return_, 1) := by decide +kernel
theorem dX8_draw_37 : decode cX8_draw 37 = .ok (.iload_n 1, 1) := by decide +kernel
theorem dX8_draw_38 : decode cX8_draw 38 = .ok (.iload_n 2, 1) := by decide +kernel
theorem dX8_draw_39 : decode cX8_draw 39 = .ok (.invokestatic 46, 3) := by decide +kernel
theorem dX8_draw_42 : decode cX8_draw 42 = .ok (.ifCond .ne 15, 3) := by decide +kernel
theorem dX8_draw_45 : decode cX8_draw 45 = .ok (.aload_n 0, 1) := by decide +kernel
theorem dX8_draw_46 : decode cX8_draw 46 = .ok (.iload_n 1, 1) := by decide +kernel
theorem dX8_draw_47 : decode cX8_draw 47 = .ok (.iload_n 2, 1) := by decide +kernel
theorem dX8_draw_48 : decode cX8_draw 48 = .ok (.iconst 1, 1) := by decide +kernel
theorem dX8_draw_49 : decode cX8_draw 49 = .ok (.iadd, 1) := by decide +kernel
theorem dX8_draw_50 : decode cX8_draw 50 = .ok (.iload_n 3, 1) := by decide +kernel
theorem dX8_draw_51 : decode cX8_draw 51 = .ok (.iload 4, 2) := by decide +kernel
theorem dX8_draw_53 : decode cX8_draw 53 = .ok (.invokevirtual 38, 3) := by decide +kernel
theorem dX8_draw_56 : decode cX8_draw 56 = .ok (.return_, 1) := by decide +kernel
theorem dX8_draw_57 : decode cX8_draw 57 = .ok (.iconst 0, 1) := by decide +kernel
theorem dX8_draw_58 : decode cX8_draw 58 = .ok (.istore 5, 2) := by decide +kernel
theorem dX8_draw_60 : decode cX8_draw 60 = .ok (.iload 5, 2) := by decide +kernel
theorem dX8_draw_62 : decode cX8_draw 62 = .ok (.bipush 6, 2) := by decide +kernel
theorem dX8_draw_64 : decode cX8_draw 64 = .ok (.if_icmp .ge 64, 3) := by decide +kernel
theorem dX8_draw_67 : decode cX8_draw 67 = .ok (.aload_n 0, 1) := by decide +kernel
theorem dX8_draw_68 : decode cX8_draw 68 = .ok (.iload 5, 2) := by decide +kernel
theorem dX8_draw_70 : decode cX8_draw 70 = .ok (.iload_n 2, 1) := by decide +kernel
theorem dX8_draw_71 : decode cX8_draw 71 = .ok (.invokevirtual 50, 3) := by decide +kernel
theorem dX8_draw_74 : decode cX8_draw 74 = .ok (.istore 6, 2) := by decide +kernel
theorem dX8_draw_76 : decode cX8_draw 76 = .ok (.iload_n 1, 1) := by decide +kernel
theorem dX8_draw_77 : decode cX8_draw 77 = .ok (.iload 5, 2) := by decide +kernel
theorem dX8_draw_79 : decode cX8_draw 79 = .ok (.invokestatic 46, 3) := by decide +kernel
theorem dX8_draw_82 : decode cX8_draw 82 = .ok (.ifCond .eq 40, 3) := by decide +kernel
theorem dX8_draw_85 : decode cX8_draw 85 = .ok (.iload 6, 2) := by decide +kernel
theorem dX8_draw_87 : decode cX8_draw 87 = .ok (.ifCond .lt 35, 3) := by decide +kernel
theorem dX8_draw_90 : decode cX8_draw 90 = .ok (.aload_n 0, 1) := by decide +kernel
theorem dX8_draw_91 : decode cX8_draw 91 = .ok (.iload 5, 2) := by decide +kernel
theorem dX8_draw_93 : decode cX8_draw 93 = .ok (.iload_n 2, 1) := by decide +kernel
theorem dX8_draw_94 : decode cX8_draw 94 = .ok (.invokevirtual 54, 3) := by decide +kernel
theorem dX8_draw_97 : decode cX8_draw 97 = .ok (.ifCond .ne 25, 3) := by decide +kernel
theorem dX8_draw_100 : decode cX8_draw 100 = .ok (.aload_n 0, 1) := by decide +kernel
theorem dX8_draw_101 : decode cX8_draw 101 = .ok (.getfield 15, 3) := by decide +kernel
theorem dX8_draw_104 : decode cX8_draw 104 = .ok (.iload_n 2, 1) := by decide +kernel
theorem dX8_draw_105 : decode cX8_draw 105 = .ok (.iload 5, 2) := by decide +kernel
theorem dX8_draw_107 : decode cX8_draw 107 = .ok (.iastore, 1) := by decide +kernel
theorem dX8_draw_108 : decode cX8_draw 108 = .ok (.aload_n 0, 1) := by decide +kernel
theorem dX8_draw_109 : decode cX8_draw 109 = .ok (.iload_n 1, 1) := by decide +kernel
theorem dX8_draw_110 : decode cX8_draw 110 = .ok (.iload_n 2, 1) := by decide +kernel
theorem dX8_draw_111 : decode cX8_draw 111 = .ok (.iconst 1, 1) := by decide +kernel
theorem dX8_draw_112 : decode cX8_draw 112 = .ok (.iadd, 1) := by decide +kernel
theorem dX8_draw_113 : decode cX8_draw 113 = .ok (.iload_n 3, 1) := by decide +kernel
theorem dX8_draw_114 : decode cX8_draw 114 = .ok (.iload 6, 2) := by decide +kernel
theorem dX8_draw_116 : decode cX8_draw 116 = .ok (.iadd, 1) := by decide +kernel
theorem dX8_draw_117 : decode cX8_draw 117 = .ok (.iload 4, 2) := by decide +kernel
theorem dX8_draw_119 : decode cX8_draw 119 = .ok (.invokevirtual 38, 3) := by decide +kernel
theorem dX8_draw_122 : decode cX8_draw 122 = .ok (.iinc 5 1, 3) := by decide +kernel
theorem dX8_draw_125 : decode cX8_draw 125 = .ok (.goto (-65), 3) := by decide +kernel
theorem dX8_draw_128 : decode cX8_draw 128 = .ok (.iload 4, 2) := by decide +kernel
theorem dX8_draw_130 : decode cX8_draw 130 = .ok (.ifCond .ne 21, 3) := by decide +kernel
theorem dX8_draw_133 : decode cX8_draw 133 = .ok (.aload_n 0, 1) := by decide +kernel
theorem dX8_draw_134 : decode cX8_draw 134 = .ok (.getfield 15, 3) := by decide +kernel
theorem dX8_draw_137 : decode cX8_draw 137 = .ok (.iload_n 2, 1) := by decide +kernel
theorem dX8_draw_138 : decode cX8_draw 138 = .ok (.bipush 6, 2) := by decide +kernel
theorem dX8_draw_140 : decode cX8_draw 140 = .ok (.iastore, 1) := by decide +kernel
theorem dX8_draw_141 : decode cX8_draw 141 = .ok (.aload_n 0, 1) := by decide +kernel
theorem dX8_draw_142 : decode cX8_draw 142 = .ok (.iload_n 1, 1) := by decide +kernel
theorem dX8_draw_143 : decode cX8_draw 143 = .ok (.iload_n 2, 1) := by decide +kernel
theorem dX8_draw_144 : decode cX8_draw 144 = .ok (.iconst 1, 1) := by decide +kernel
theorem dX8_draw_145 : decode cX8_draw 145 = .ok (.iadd, 1) := by decide +kernel
theorem dX8_draw_146 : decode cX8_draw 146 = .ok (.iload_n 3, 1) := by decide +kernel
theorem dX8_draw_147 : decode cX8_draw 147 = .ok (.iconst 1, 1) := by decide +kernel
theorem dX8_draw_148 : decode cX8_draw 148 = .ok (.invokevirtual 38, 3) := by decide +kernel
theorem dX8_draw_151 : decode cX8_draw 151 = .ok (.aload_n 0, 1) := by decide +kernel
theorem dX8_draw_152 : decode cX8_draw 152 = .ok (.getfield 15, 3) := by decide +kernel
theorem dX8_draw_155 : decode cX8_draw 155 = .ok (.iload_n 2, 1) := by decide +kernel
theorem dX8_draw_156 : decode cX8_draw 156 = .ok (.bipush 7, 2) := by decide +kernel
theorem dX8_draw_158 : decode cX8_draw 158 = .ok (.iastore, 1) := by decide +kernel
theorem dX8_draw_159 : decode cX8_draw 159 = .ok (.return_, 1) := by decide +kernel
set_option maxRecDepth 20000 in
theorem ggX8_comesOf_X9_isMap : GoodIn wsX8_comesOf wsX9_isMap := goodIn_r _ [4] (by decide +kernel) (by decide +kernel)
set_option maxRecDepth 20000 in
theorem gX8_comesOf_X9_isMap_n21 : GoodIn wsX8_comesOf (wsX9_isMap) := ggX8_comesOf_X9_isMap
theorem dX8_comesOf_0 : decode cX8_comesOf 0 = .ok (.iload_n 1, 1) := by decide +kernel
theorem dX8_comesOf_1 : decode cX8_comesOf 1 = .ok (.istore_n 3, 1) := by decide +kernel
theorem dX8_comesOf_2 : decode cX8_comesOf 2 = .ok (.iconst 0, 1) := by decide +kernel
theorem dX8_comesOf_3 : decode cX8_comesOf 3 = .ok (.istore 4, 2) := by decide +kernel
theorem dX8_comesOf_5 : decode cX8_comesOf 5 = .ok (.iload 4, 2) := by decide +kernel
theorem dX8_comesOf_7 : decode cX8_comesOf 7 = .ok (.bipush 6, 2) := by decide +kernel
theorem dX8_comesOf_9 : decode cX8_comesOf 9 = .ok (.if_icmp .ge 30, 3) := by decide +kernel
theorem dX8_comesOf_12 : decode cX8_comesOf 12 = .ok (.iload_n 3, 1) := by decide +kernel
theorem dX8_comesOf_13 : decode cX8_comesOf 13 = .ok (.invokestatic 21, 3) := by decide +kernel
theorem dX8_comesOf_16 : decode cX8_comesOf 16 = .ok (.ifCond .eq 23, 3) := by decide +kernel
theorem dX8_comesOf_19 : decode cX8_comesOf 19 = .ok (.iload_n 3, 1) := by decide +kernel
theorem dX8_comesOf_20 : decode cX8_comesOf 20 = .ok (.iload_n 2, 1) := by decide +kernel
theorem dX8_comesOf_21 : decode cX8_comesOf 21 = .ok (.if_icmp .ne 5, 3) := by decide +kernel
theorem dX8_comesOf_24 : decode cX8_comesOf 24 = .ok (.iconst 1, 1) := by decide +kernel
theorem dX8_comesOf_25 : decode cX8_comesOf 25 = .ok (.ireturn, 1) := by decide +kernel
theorem dX8_comesOf_26 : decode cX8_comesOf 26 = .ok (.aload_n 0, 1) := by decide +kernel
theorem dX8_comesOf_27 : decode cX8_comesOf 27 = .ok (.getfield 15, 3) := by decide +kernel
theorem dX8_comesOf_30 : decode cX8_comesOf 30 = .ok (.iload_n 3, 1) := by decide +kernel
theorem dX8_comesOf_31 : decode cX8_comesOf 31 = .ok (.iaload, 1) := by decide +kernel
theorem dX8_comesOf_32 : decode cX8_comesOf 32 = .ok (.istore_n 3, 1) := by decide +kernel
theorem dX8_comesOf_33 : decode cX8_comesOf 33 = .ok (.iinc 4 1, 3) := by decide +kernel
theorem dX8_comesOf_36 : decode cX8_comesOf 36 = .ok (.goto (-31), 3) := by decide +kernel
theorem dX8_comesOf_39 : decode cX8_comesOf 39 = .ok (.iconst 0, 1) := by decide +kernel
theorem dX8_comesOf_40 : decode cX8_comesOf 40 = .ok (.ireturn, 1) := by decide +kernel
theorem dX8_weigh_0 : decode cX8_weigh 0 = .ok (.aload_n 0, 1) := by decide +kernel
theorem dX8_weigh_1 : decode cX8_weigh 1 = .ok (.getfield 25, 3) := by decide +kernel
theorem dX8_weigh_4 : decode cX8_weigh 4 = .ok (.ifCond .lt 11, 3) := by decide +kernel
theorem dX8_weigh_7 : decode cX8_weigh 7 = .ok (.iload_n 1, 1) := by decide +kernel
theorem dX8_weigh_8 : decode cX8_weigh 8 = .ok (.aload_n 0, 1) := by decide +kernel
theorem dX8_weigh_9 : decode cX8_weigh 9 = .ok (.getfield 25, 3) := by decide +kernel
theorem dX8_weigh_12 : decode cX8_weigh 12 = .ok (.if_icmp .ge 28, 3) := by decide +kernel
theorem dX8_weigh_15 : decode cX8_weigh 15 = .ok (.aload_n 0, 1) := by decide +kernel
theorem dX8_weigh_16 : decode cX8_weigh 16 = .ok (.iload_n 1, 1) := by decide +kernel
theorem dX8_weigh_17 : decode cX8_weigh 17 = .ok (.putfield 25, 3) := by decide +kernel
theorem dX8_weigh_20 : decode cX8_weigh 20 = .ok (.aload_n 0, 1) := by decide +kernel
theorem dX8_weigh_21 : decode cX8_weigh 21 = .ok (.iconst 0, 1) := by decide +kernel
theorem dX8_weigh_22 : decode cX8_weigh 22 = .ok (.putfield 29, 3) := by decide +kernel
theorem dX8_weigh_25 : decode cX8_weigh 25 = .ok (.aload_n 0, 1) := by decide +kernel
theorem dX8_weigh_26 : decode cX8_weigh 26 = .ok (.getfield 15, 3) := by decide +kernel
theorem dX8_weigh_29 : decode cX8_weigh 29 = .ok (.iconst 0, 1) := by decide +kernel
theorem dX8_weigh_30 : decode cX8_weigh 30 = .ok (.aload_n 0, 1) := by decide +kernel
theorem dX8_weigh_31 : decode cX8_weigh 31 = .ok (.getfield 18, 3) := by decide +kernel
theorem dX8_weigh_34 : decode cX8_weigh 34 = .ok (.iconst 0, 1) := by decide +kernel
theorem dX8_weigh_35 : decode cX8_weigh 35 = .ok (.bipush 6, 2) := by decide +kernel
theorem dX8_weigh_37 : decode cX8_weigh 37 = .ok (.invokestatic 57, 3) := by decide +kernel
theorem dX8_weigh_40 : decode cX8_weigh 40 = .ok (.aload_n 0, 1) := by decide +kernel
theorem dX8_weigh_41 : decode cX8_weigh 41 = .ok (.dup, 1) := by decide +kernel
theorem dX8_weigh_42 : decode cX8_weigh 42 = .ok (.getfield 29, 3) := by decide +kernel
theorem dX8_weigh_45 : decode cX8_weigh 45 = .ok (.iconst 1, 1) := by decide +kernel
theorem dX8_weigh_46 : decode cX8_weigh 46 = .ok (.iadd, 1) := by decide +kernel
theorem dX8_weigh_47 : decode cX8_weigh 47 = .ok (.putfield 29, 3) := by decide +kernel
theorem dX8_weigh_50 : decode cX8_weigh 50 = .ok (.return_, 1) := by decide +kernel
set_option maxRecDepth 20000 in
theorem ggX8_answer_X9_isMap : GoodIn wsX8_answer wsX9_isMap := goodIn_r _ [6] (by decide +kernel) (by decide +kernel)
set_option maxRecDepth 20000 in
theorem gX8_answer_X9_isMap_n21 : GoodIn wsX8_answer (wsX9_isMap) := ggX8_answer_X9_isMap
theorem dX8_answer_0 : decode cX8_answer 0 = .ok (.aload_n 0, 1) := by decide +kernel
theorem dX8_answer_1 : decode cX8_answer 1 = .ok (.getfield 25, 3) := by decide +kernel
theorem dX8_answer_4 : decode cX8_answer 4 = .ok (.ifCond .ge 6, 3) := by decide +kernel
theorem dX8_answer_7 : decode cX8_answer 7 = .ok (.bipush (-6), 2) := by decide +kernel
theorem dX8_answer_9 : decode cX8_answer 9 = .ok (.ireturn, 1) := by decide +kernel
theorem dX8_answer_10 : decode cX8_answer 10 = .ok (.iload_n 1, 1) := by decide +kernel
theorem dX8_answer_11 : decode cX8_answer 11 = .ok (.bipush 10, 2) := by decide +kernel
theorem dX8_answer_13 : decode cX8_answer 13 = .ok (.if_icmp .ge 19, 3) := by decide +kernel
theorem dX8_answer_16 : decode cX8_answer 16 = .ok (.iload_n 1, 1) := by decide +kernel
theorem dX8_answer_17 : decode cX8_answer 17 = .ok (.ifCond .ne 10, 3) := by decide +kernel
theorem dX8_answer_20 : decode cX8_answer 20 = .ok (.aload_n 0, 1) := by decide +kernel
theorem dX8_answer_21 : decode cX8_answer 21 = .ok (.getfield 25, 3) := by decide +kernel
theorem dX8_answer_24 : decode cX8_answer 24 = .ok (.goto 7, 3) := by decide +kernel
theorem dX8_answer_27 : decode cX8_answer 27 = .ok (.aload_n 0, 1) := by decide +kernel
theorem dX8_answer_28 : decode cX8_answer 28 = .ok (.getfield 29, 3) := by decide +kernel
theorem dX8_answer_31 : decode cX8_answer 31 = .ok (.ireturn, 1) := by decide +kernel
theorem dX8_answer_32 : decode cX8_answer 32 = .ok (.iload_n 1, 1) := by decide +kernel
theorem dX8_answer_33 : decode cX8_answer 33 = .ok (.bipush 10, 2) := by decide +kernel
theorem dX8_answer_35 : decode cX8_answer 35 = .ok (.isub, 1) := by decide +kernel
theorem dX8_answer_36 : decode cX8_answer 36 = .ok (.istore_n 2, 1) := by decide +kernel
theorem dX8_answer_37 : decode cX8_answer 37 = .ok (.iload_n 2, 1) := by decide +kernel
theorem dX8_answer_38 : decode cX8_answer 38 = .ok (.invokestatic 21, 3) := by decide +kernel
theorem dX8_answer_41 : decode cX8_answer 41 = .ok (.ifCond .eq 24, 3) := by decide +kernel
theorem dX8_answer_44 : decode cX8_answer 44 = .ok (.aload_n 0, 1) := by decide +kernel
theorem dX8_answer_45 : decode cX8_answer 45 = .ok (.getfield 18, 3) := by decide +kernel
theorem dX8_answer_48 : decode cX8_answer 48 = .ok (.iload_n 2, 1) := by decide +kernel
theorem dX8_answer_49 : decode cX8_answer 49 = .ok (.iaload, 1) := by decide +kernel
theorem dX8_answer_50 : decode cX8_answer 50 = .ok (.invokestatic 21, 3) := by decide +kernel
theorem dX8_answer_53 : decode cX8_answer 53 = .ok (.ifCond .eq 12, 3) := by decide +kernel
theorem dX8_answer_56 : decode cX8_answer 56 = .ok (.aload_n 0, 1) := by decide +kernel
theorem dX8_answer_57 : decode cX8_answer 57 = .ok (.getfield 18, 3) := by decide +kernel
theorem dX8_answer_60 : decode cX8_answer 60 = .ok (.iload_n 2, 1) := by decide +kernel
theorem dX8_answer_61 : decode cX8_answer 61 = .ok (.iaload, 1) := by decide +kernel
theorem dX8_answer_62 : decode cX8_answer 62 = .ok (.goto 5, 3) := by decide +kernel
theorem dX8_answer_65 : decode cX8_answer 65 = .ok (.bipush (-6), 2) := by decide +kernel
theorem dX8_answer_67 : decode cX8_answer 67 = .ok (.ireturn, 1) := by decide +kernel
end
section
set_option maxRecDepth 20000 in
theorem ggX9_init_X2_init : GoodIn wsX9_init wsX2_init := goodIn_r _ [14, 15, 2, 3, 16, 17, 18, 26, 27, 28] (by decide +kernel) (by decide +kernel)
set_option maxRecDepth 20000 in
theorem gX9_init_X2_init_n9 : GoodIn wsX9_init (wsX2_init) := ggX9_init_X2_init
set_option maxRecDepth 20000 in
theorem ggX9_init_X3_init : GoodIn wsX9_init wsX3_init := goodIn_r _ [20, 21, 2, 3, 22, 23, 16, 24, 25, 34, 35, 36, 37, 38, 39] (by decide +kernel) (by decide +kernel)
set_option maxRecDepth 20000 in
theorem gX9_init_X3_init_n18 : GoodIn wsX9_init (wsX3_init) := ggX9_init_X3_init
theorem dX9_init_0 : decode cX9_init 0 = .ok (.aload_n 0, 1) := by decide +kernel
theorem dX9_init_1 : decode cX9_init 1 = .ok (.invokespecial 1, 3) := by decide +kernel
theorem dX9_init_4 : decode cX9_init 4 = .ok (.aload_n 0, 1) := by decide +kernel
theorem dX9_init_5 : decode cX9_init 5 = .ok (.new 7, 3) := by decide +kernel
theorem dX9_init_8 : decode cX9_init 8 = .ok (.dup, 1) := by decide +kernel
theorem dX9_init_9 : decode cX9_init 9 = .ok (.invokespecial 9, 3) := by decide +kernel
theorem dX9_init_12 : decode cX9_init 12 = .ok (.putfield 10, 3) := by decide +kernel
theorem dX9_init_15 : decode cX9_init 15 = .ok (.aload_n 0, 1) := by decide +kernel
theorem dX9_init_16 : decode cX9_init 16 = .ok (.new 16, 3) := by decide +kernel
theorem dX9_init_19 : decode cX9_init 19 = .ok (.dup, 1) := by decide +kernel
theorem dX9_init_20 : decode cX9_init 20 = .ok (.invokespecial 18, 3) := by decide +kernel
theorem dX9_init_23 : decode cX9_init 23 = .ok (.putfield 19, 3) := by decide +kernel
theorem dX9_init_26 : decode cX9_init 26 = .ok (.aload_n 0, 1) := by decide +kernel
theorem dX9_init_27 : decode cX9_init 27 = .ok (.iconst 2, 1) := by decide +kernel
theorem dX9_init_28 : decode cX9_init 28 = .ok (.anewarray 16, 3) := by decide +kernel
theorem dX9_init_31 : decode cX9_init 31 = .ok (.putfield 23, 3) := by decide +kernel
theorem dX9_init_34 : decode cX9_init 34 = .ok (.return_, 1) := by decide +kernel
theorem dX9_sites_0 : decode cX9_sites 0 = .ok (.iload_n 1, 1) := by decide +kernel
theorem dX9_sites_1 : decode cX9_sites 1 = .ok (.iconst 2, 1) := by decide +kernel
theorem dX9_sites_2 : decode cX9_sites 2 = .ok (.if_icmp .lt 9, 3) := by decide +kernel
theorem dX9_sites_5 : decode cX9_sites 5 = .ok (.iload_n 1, 1) := by decide +kernel
theorem dX9_sites_6 : decode cX9_sites 6 = .ok (.bipush 6, 2) := by decide +kernel
theorem dX9_sites_8 : decode cX9_sites 8 = .ok (.if_icmp .le 6, 3) := by decide +kernel
theorem dX9_sites_11 : decode cX9_sites 11 = .ok (.bipush (-2), 2) := by decide +kernel
theorem dX9_sites_13 : decode cX9_sites 13 = .ok (.ireturn, 1) := by decide +kernel
theorem dX9_sites_14 : decode cX9_sites 14 = .ok (.aload_n 0, 1) := by decide +kernel
theorem dX9_sites_15 : decode cX9_sites 15 = .ok (.getfield 19, 3) := by decide +kernel
theorem dX9_sites_18 : decode cX9_sites 18 = .ok (.getfield 27, 3) := by decide +kernel
theorem dX9_sites_21 : decode cX9_sites 21 = .ok (.istore_n 2, 1) := by decide +kernel
theorem dX9_sites_22 : decode cX9_sites 22 = .ok (.aload_n 0, 1) := by decide +kernel
theorem dX9_sites_23 : decode cX9_sites 23 = .ok (.getfield 19, 3) := by decide +kernel
theorem dX9_sites_26 : decode cX9_sites 26 = .ok (.iload_n 1, 1) := by decide +kernel
theorem dX9_sites_27 : decode cX9_sites 27 = .ok (.putfield 27, 3) := by decide +kernel
theorem dX9_sites_30 : decode cX9_sites 30 = .ok (.aload_n 0, 1) := by decide +kernel
theorem dX9_sites_31 : decode cX9_sites 31 = .ok (.getfield 19, 3) := by decide +kernel
theorem dX9_sites_34 : decode cX9_sites 34 = .ok (.iconst 0, 1) := by decide +kernel
theorem dX9_sites_35 : decode cX9_sites 35 = .ok (.putfield 31, 3) := by decide +kernel
theorem dX9_sites_38 : decode cX9_sites 38 = .ok (.aload_n 0, 1) := by decide +kernel
theorem dX9_sites_39 : decode cX9_sites 39 = .ok (.getfield 19, 3) := by decide +kernel
theorem dX9_sites_42 : decode cX9_sites 42 = .ok (.iconst 0, 1) := by decide +kernel
theorem dX9_sites_43 : decode cX9_sites 43 = .ok (.putfield 34, 3) := by decide +kernel
theorem dX9_sites_46 : decode cX9_sites 46 = .ok (.iload_n 2, 1) := by decide +kernel
theorem dX9_sites_47 : decode cX9_sites 47 = .ok (.ireturn, 1) := by decide +kernel
set_option maxRecDepth 20000 in
theorem ggX9_say_X2_put : GoodIn wsX9_say wsX2_put := goodIn_r _ [7, 8, 9, 15, 16, 17] (by decide +kernel) (by decide +kernel)
set_option maxRecDepth 20000 in
theorem gX9_say_X2_put : GoodIn wsX9_say (wsV RX9 37 RX2 yX2_put wsX2_put) := goodIn_app (goodIn_of _ (by decide +kernel)) ggX9_say_X2_put
theorem dX9_say_0 : decode cX9_say 0 = .ok (.iload_n 1, 1) := by decide +kernel
theorem dX9_say_1 : decode cX9_say 1 = .ok (.bipush 33, 2) := by decide +kernel
theorem dX9_say_3 : decode cX9_say 3 = .ok (.if_icmp .lt 9, 3) := by decide +kernel
theorem dX9_say_6 : decode cX9_say 6 = .ok (.iload_n 1, 1) := by decide +kernel
theorem dX9_say_7 : decode cX9_say 7 = .ok (.bipush 126, 2) := by decide +kernel
theorem dX9_say_9 : decode cX9_say 9 = .ok (.if_icmp .le 6, 3) := by decide +kernel
theorem dX9_say_12 : decode cX9_say 12 = .ok (.bipush (-2), 2) := by decide +kernel
theorem dX9_say_14 : decode cX9_say 14 = .ok (.ireturn, 1) := by decide +kernel
theorem dX9_say_15 : decode cX9_say 15 = .ok (.aload_n 0, 1) := by decide +kernel
theorem dX9_say_16 : decode cX9_say 16 = .ok (.getfield 10, 3) := by decide +kernel
theorem dX9_say_19 : decode cX9_say 19 = .ok (.iload_n 1, 1) := by decide +kernel
theorem dX9_say_20 : decode cX9_say 20 = .ok (.invokevirtual 37, 3) := by decide +kernel
theorem dX9_say_23 : decode cX9_say 23 = .ok (.ifCond .eq 13, 3) := by decide +kernel
theorem dX9_say_26 : decode cX9_say 26 = .ok (.aload_n 0, 1) := by decide +kernel
theorem dX9_say_27 : decode cX9_say 27 = .ok (.getfield 10, 3) := by decide +kernel
theorem dX9_say_30 : decode cX9_say 30 = .ok (.getfield 41, 3) := by decide +kernel
theorem dX9_say_33 : decode cX9_say 33 = .ok (.goto 5, 3) := by decide +kernel
theorem dX9_say_36 : decode cX9_say 36 = .ok (.bipush (-4), 2) := by decide +kernel
theorem dX9_say_38 : decode cX9_say 38 = .ok (.ireturn, 1) := by decide +kernel
theorem dX9_wipe_0 : decode cX9_wipe 0 = .ok (.aload_n 0, 1) := by decide +kernel
theorem dX9_wipe_1 : decode cX9_wipe 1 = .ok (.getfield 10, 3) := by decide +kernel
theorem dX9_wipe_4 : decode cX9_wipe 4 = .ok (.getfield 41, 3) := by decide +kernel
theorem dX9_wipe_7 : decode cX9_wipe 7 = .ok (.istore_n 1, 1) := by decide +kernel
theorem dX9_wipe_8 : decode cX9_wipe 8 = .ok (.aload_n 0, 1) := by decide +kernel
theorem dX9_wipe_9 : decode cX9_wipe 9 = .ok (.getfield 10, 3) := by decide +kernel
theorem dX9_wipe_12 : decode cX9_wipe 12 = .ok (.iconst 0, 1) := by decide +kernel
theorem dX9_wipe_13 : decode cX9_wipe 13 = .ok (.putfield 41, 3) := by decide +kernel
theorem dX9_wipe_16 : decode cX9_wipe 16 = .ok (.iload_n 1, 1) := by decide +kernel
theorem dX9_wipe_17 : decode cX9_wipe 17 = .ok (.ireturn, 1) := by decide +kernel
set_option maxRecDepth 20000 in
theorem ggX9_fault_X2_firstWrong : GoodIn wsX9_fault wsX2_firstWrong := goodIn_r _ [8, 9, 10, 11, 12, 7, 13, 14, 15, 16, 17, 18, 19, 20, 21, 22, 23, 24, 25, 26, 27, 28, 29, 30, 31, 32, 33, 34, 35, 36, 37, 38, 39, 40, 41, 42, 43, 55, 56, 57] (by decide +kernel) (by decide +kernel)
set_option maxRecDepth 20000 in
theorem gX9_fault_X2_firstWrong : GoodIn wsX9_fault (wsV RX9 44 RX2 yX2_firstWrong wsX2_firstWrong) := goodIn_app (goodIn_of _ (by decide +kernel)) ggX9_fault_X2_firstWrong
theorem dX9_fault_0 : decode cX9_fault 0 = .ok (.iload_n 1, 1) := by decide +kernel
theorem dX9_fault_1 : decode cX9_fault 1 = .ok (.ifCond .lt 8, 3) := by decide +kernel
theorem dX9_fault_4 : decode cX9_fault 4 = .ok (.iload_n 1, 1) := by decide +kernel
theorem dX9_fault_5 : decode cX9_fault 5 = .ok (.iconst 2, 1) := by decide +kernel
theorem dX9_fault_6 : decode cX9_fault 6 = .ok (.if_icmp .le 8, 3) := by decide +kernel
theorem dX9_fault_9 : decode cX9_fault 9 = .ok (.bipush (-2), 2) := by decide +kernel
theorem dX9_fault_11 : decode cX9_fault 11 = .ok (.goto 18, 3) := by decide +kernel
theorem dX9_fault_14 : decode cX9_fault 14 = .ok (.aload_n 0, 1) := by decide +kernel
theorem dX9_fault_15 : decode cX9_fault 15 = .ok (.getfield 10, 3) := by decide +kernel
theorem dX9_fault_18 : decode cX9_fault 18 = .ok (.iload_n 1, 1) := by decide +kernel
theorem dX9_fault_19 : decode cX9_fault 19 = .ok (.aload_n 0, 1) := by decide +kernel
theorem dX9_fault_20 : decode cX9_fault 20 = .ok (.getfield 19, 3) := by decide +kernel
theorem dX9_fault_23 : decode cX9_fault 23 = .ok (.getfield 27, 3) := by decide +kernel
theorem dX9_fault_26 : decode cX9_fault 26 = .ok (.invokevirtual 44, 3) := by decide +kernel
theorem dX9_fault_29 : decode cX9_fault 29 = .ok (.ireturn, 1) := by decide +kernel
set_option maxRecDepth 20000 in
theorem ggX9_map_X9_isMap : GoodIn wsX9_map wsX9_isMap := goodIn_r _ [8] (by decide +kernel) (by decide +kernel)
set_option maxRecDepth 20000 in
theorem gX9_map_X9_isMap : GoodIn wsX9_map (va_wsS RX9 48 yX9_isMap wsX9_isMap) := goodIn_app (goodIn_of _ (by decide +kernel)) ggX9_map_X9_isMap
set_option maxRecDepth 20000 in
theorem ggX9_map_X2_firstWrong : GoodIn wsX9_map wsX2_firstWrong := goodIn_r _ [13, 14, 15, 16, 17, 12, 18, 19, 20, 21, 22, 23, 24, 25, 26, 27, 28, 29, 30, 31, 32, 33, 34, 35, 36, 37, 38, 39, 40, 41, 42, 43, 44, 45, 46, 47, 48, 85, 86, 87] (by decide +kernel) (by decide +kernel)
set_option maxRecDepth 20000 in
theorem gX9_map_X2_firstWrong : GoodIn wsX9_map (wsV RX9 44 RX2 yX2_firstWrong wsX2_firstWrong) := goodIn_app (goodIn_of _ (by decide +kernel)) ggX9_map_X2_firstWrong
set_option maxRecDepth 20000 in
theorem ggX9_map_X2_mapCode : GoodIn wsX9_map wsX2_mapCode := goodIn_r _ [52, 14, 36, 37, 38, 12, 39, 27, 28, 29, 30, 31, 40, 41, 42, 43, 44, 53, 54, 55, 56, 57, 58, 59, 60, 61, 62, 63, 64, 65, 66, 85, 86, 87] (by decide +kernel) (by decide +kernel)
set_option maxRecDepth 20000 in
theorem gX9_map_X2_mapCode : GoodIn wsX9_map (wsV RX9 51 RX2 yX2_mapCode wsX2_mapCode) := goodIn_app (goodIn_of _ (by decide +kernel)) ggX9_map_X2_mapCode
set_option maxRecDepth 20000 in
theorem ggX9_map_X3_tell : GoodIn wsX9_map wsX3_tell := goodIn_r _ [71, 72, 73, 79, 80, 81, 82, 83, 84] (by decide +kernel) (by decide +kernel)
set_option maxRecDepth 20000 in
theorem gX9_map_X3_tell : GoodIn wsX9_map (wsV RX9 55 RX3 yX3_tell wsX3_tell) := goodIn_app (goodIn_of _ (by decide +kernel)) ggX9_map_X3_tell
theorem dX9_map_0 : decode cX9_map 0 = .ok (.iload_n 1, 1) := by decide +kernel
theorem dX9_map_1 : decode cX9_map 1 = .ok (.invokestatic 48, 3) := by decide +kernel
theorem dX9_map_4 : decode cX9_map 4 = .ok (.ifCond .ne 5, 3) := by decide +kernel
theorem dX9_map_7 : decode cX9_map 7 = .ok (.iconst (-1), 1) := by decide +kernel
theorem dX9_map_8 : decode cX9_map 8 = .ok (.ireturn, 1) := by decide +kernel
theorem dX9_map_9 : decode cX9_map 9 = .ok (.aload_n 0, 1) := by decide +kernel
theorem dX9_map_10 : decode cX9_map 10 = .ok (.getfield 10, 3) := by decide +kernel
theorem dX9_map_13 : decode cX9_map 13 = .ok (.iconst 0, 1) := by decide +kernel
theorem dX9_map_14 : decode cX9_map 14 = .ok (.aload_n 0, 1) := by decide +kernel
theorem dX9_map_15 : decode cX9_map 15 = .ok (.getfield 19, 3) := by decide +kernel
theorem dX9_map_18 : decode cX9_map 18 = .ok (.getfield 27, 3) := by decide +kernel
theorem dX9_map_21 : decode cX9_map 21 = .ok (.invokevirtual 44, 3) := by decide +kernel
theorem dX9_map_24 : decode cX9_map 24 = .ok (.bipush (-6), 2) := by decide +kernel
theorem dX9_map_26 : decode cX9_map 26 = .ok (.if_icmp .eq 6, 3) := by decide +kernel
theorem dX9_map_29 : decode cX9_map 29 = .ok (.bipush (-5), 2) := by decide +kernel
theorem dX9_map_31 : decode cX9_map 31 = .ok (.ireturn, 1) := by decide +kernel
theorem dX9_map_32 : decode cX9_map 32 = .ok (.aload_n 0, 1) := by decide +kernel
theorem dX9_map_33 : decode cX9_map 33 = .ok (.getfield 19, 3) := by decide +kernel
theorem dX9_map_36 : decode cX9_map 36 = .ok (.iload_n 1, 1) := by decide +kernel
theorem dX9_map_37 : decode cX9_map 37 = .ok (.aload_n 0, 1) := by decide +kernel
theorem dX9_map_38 : decode cX9_map 38 = .ok (.getfield 10, 3) := by decide +kernel
theorem dX9_map_41 : decode cX9_map 41 = .ok (.invokevirtual 51, 3) := by decide +kernel
theorem dX9_map_44 : decode cX9_map 44 = .ok (.invokevirtual 55, 3) := by decide +kernel
theorem dX9_map_47 : decode cX9_map 47 = .ok (.aload_n 0, 1) := by decide +kernel
theorem dX9_map_48 : decode cX9_map 48 = .ok (.getfield 10, 3) := by decide +kernel
theorem dX9_map_51 : decode cX9_map 51 = .ok (.iconst 0, 1) := by decide +kernel
theorem dX9_map_52 : decode cX9_map 52 = .ok (.putfield 41, 3) := by decide +kernel
theorem dX9_map_55 : decode cX9_map 55 = .ok (.iconst 1, 1) := by decide +kernel
theorem dX9_map_56 : decode cX9_map 56 = .ok (.ireturn, 1) := by decide +kernel
set_option maxRecDepth 20000 in
theorem ggX9_at_X9_isMap : GoodIn wsX9_at wsX9_isMap := goodIn_r _ [5] (by decide +kernel) (by decide +kernel)
set_option maxRecDepth 20000 in
theorem gX9_at_X9_isMap : GoodIn wsX9_at (va_wsS RX9 48 yX9_isMap wsX9_isMap) := goodIn_app (goodIn_of _ (by decide +kernel)) ggX9_at_X9_isMap
set_option maxRecDepth 20000 in
theorem ggX9_at_X9_isSite : GoodIn wsX9_at wsX9_isSite := goodIn_r _ [9, 1, 10, 41, 42, 43, 44, 45, 46, 47, 48, 49, 50, 51] (by decide +kernel) (by decide +kernel)
set_option maxRecDepth 20000 in
theorem gX9_at_X9_isSite : GoodIn wsX9_at (wsV RX9 59 RX9 yX9_isSite wsX9_isSite) := goodIn_app (goodIn_of _ (by decide +kernel)) ggX9_at_X9_isSite
set_option maxRecDepth 20000 in
theorem ggX9_at_X9_isTold : GoodIn wsX9_at wsX9_isTold := goodIn_r _ [14, 1, 15, 16, 17, 4, 18, 2, 3, 5, 41, 42, 43, 44, 45, 46, 47, 48, 49, 50, 51] (by decide +kernel) (by decide +kernel)
set_option maxRecDepth 20000 in
theorem gX9_at_X9_isTold : GoodIn wsX9_at (wsV RX9 62 RX9 yX9_isTold wsX9_isTold) := goodIn_app (goodIn_of _ (by decide +kernel)) ggX9_at_X9_isTold
set_option maxRecDepth 20000 in
theorem ggX9_at_X3_codeOf : GoodIn wsX9_at wsX3_codeOf := goodIn_r _ [23, 24, 46, 47, 48, 49, 50, 51] (by decide +kernel) (by decide +kernel)
set_option maxRecDepth 20000 in
theorem gX9_at_X3_codeOf : GoodIn wsX9_at (wsV RX9 65 RX3 yX3_codeOf wsX3_codeOf) := goodIn_app (goodIn_of _ (by decide +kernel)) ggX9_at_X3_codeOf
set_option maxRecDepth 20000 in
theorem ggX9_at_X1_signAt : GoodIn wsX9_at wsX1_signAt := goodIn_r _ [28, 29, 30, 27, 31, 32, 33, 34, 35] (by decide +kernel) (by decide +kernel)
set_option maxRecDepth 20000 in
theorem gX9_at_X1_signAt : GoodIn wsX9_at (va_wsS RX9 69 yX1_signAt wsX1_signAt) := goodIn_app (goodIn_of _ (by decide +kernel)) ggX9_at_X1_signAt
set_option maxRecDepth 20000 in
theorem ggX9_at_X5_written : GoodIn wsX9_at wsX5_written := goodIn_r _ [39, 40] (by decide +kernel) (by decide +kernel)
set_option maxRecDepth 20000 in
theorem gX9_at_X5_written : GoodIn wsX9_at (va_wsS RX9 74 yX5_written wsX5_written) := goodIn_app (goodIn_of _ (by decide +kernel)) ggX9_at_X5_written
theorem dX9_at_0 : decode cX9_at 0 = .ok (.iload_n 1, 1) := by decide +kernel
theorem dX9_at_1 : decode cX9_at 1 = .ok (.invokestatic 48, 3) := by decide +kernel
theorem dX9_at_4 : decode cX9_at 4 = .ok (.ifCond .eq 11, 3) := by decide +kernel
theorem dX9_at_7 : decode cX9_at 7 = .ok (.aload_n 0, 1) := by decide +kernel
theorem dX9_at_8 : decode cX9_at 8 = .ok (.iload_n 2, 1) := by decide +kernel
theorem dX9_at_9 : decode cX9_at 9 = .ok (.invokevirtual 59, 3) := by decide +kernel
theorem dX9_at_12 : decode cX9_at 12 = .ok (.ifCond .ne 5, 3) := by decide +kernel
theorem dX9_at_15 : decode cX9_at 15 = .ok (.iconst (-1), 1) := by decide +kernel
theorem dX9_at_16 : decode cX9_at 16 = .ok (.ireturn, 1) := by decide +kernel
theorem dX9_at_17 : decode cX9_at 17 = .ok (.aload_n 0, 1) := by decide +kernel
theorem dX9_at_18 : decode cX9_at 18 = .ok (.iload_n 1, 1) := by decide +kernel
theorem dX9_at_19 : decode cX9_at 19 = .ok (.invokevirtual 62, 3) := by decide +kernel
theorem dX9_at_22 : decode cX9_at 22 = .ok (.ifCond .ne 6, 3) := by decide +kernel
theorem dX9_at_25 : decode cX9_at 25 = .ok (.bipush (-3), 2) := by decide +kernel
theorem dX9_at_27 : decode cX9_at 27 = .ok (.ireturn, 1) := by decide +kernel
theorem dX9_at_28 : decode cX9_at 28 = .ok (.aload_n 0, 1) := by decide +kernel
theorem dX9_at_29 : decode cX9_at 29 = .ok (.getfield 19, 3) := by decide +kernel
theorem dX9_at_32 : decode cX9_at 32 = .ok (.iload_n 1, 1) := by decide +kernel
theorem dX9_at_33 : decode cX9_at 33 = .ok (.invokevirtual 65, 3) := by decide +kernel
theorem dX9_at_36 : decode cX9_at 36 = .ok (.iload_n 2, 1) := by decide +kernel
theorem dX9_at_37 : decode cX9_at 37 = .ok (.invokestatic 69, 3) := by decide +kernel
theorem dX9_at_40 : decode cX9_at 40 = .ok (.invokestatic 74, 3) := by decide +kernel
theorem dX9_at_43 : decode cX9_at 43 = .ok (.ireturn, 1) := by decide +kernel
set_option maxRecDepth 20000 in
theorem ggX9_hand_X9_isHand : GoodIn wsX9_hand wsX9_isHand := goodIn_r _ [5] (by decide +kernel) (by decide +kernel)
set_option maxRecDepth 20000 in
theorem gX9_hand_X9_isHand : GoodIn wsX9_hand (va_wsS RX9 79 yX9_isHand wsX9_isHand) := goodIn_app (goodIn_of _ (by decide +kernel)) ggX9_hand_X9_isHand
set_option maxRecDepth 20000 in
theorem ggX9_hand_X3_kindsOf : GoodIn wsX9_hand wsX3_kindsOf := goodIn_r _ [10, 11, 21, 22, 23, 24, 25, 26] (by decide +kernel) (by decide +kernel)
set_option maxRecDepth 20000 in
theorem gX9_hand_X3_kindsOf : GoodIn wsX9_hand (wsV RX9 82 RX3 yX3_kindsOf wsX3_kindsOf) := goodIn_app (goodIn_of _ (by decide +kernel)) ggX9_hand_X3_kindsOf
set_option maxRecDepth 20000 in
theorem ggX9_hand_X3_teach : GoodIn wsX9_hand wsX3_teach := goodIn_r _ [15, 11, 21, 22, 23, 24, 25, 26] (by decide +kernel) (by decide +kernel)
set_option maxRecDepth 20000 in
theorem gX9_hand_X3_teach : GoodIn wsX9_hand (wsV RX9 85 RX3 yX3_teach wsX3_teach) := goodIn_app (goodIn_of _ (by decide +kernel)) ggX9_hand_X3_teach
theorem dX9_hand_0 : decode cX9_hand 0 = .ok (.iload_n 1, 1) := by decide +kernel
theorem dX9_hand_1 : decode cX9_hand 1 = .ok (.invokestatic 79, 3) := by decide +kernel
theorem dX9_hand_4 : decode cX9_hand 4 = .ok (.ifCond .ne 5, 3) := by decide +kernel
theorem dX9_hand_7 : decode cX9_hand 7 = .ok (.iconst (-1), 1) := by decide +kernel
theorem dX9_hand_8 : decode cX9_hand 8 = .ok (.ireturn, 1) := by decide +kernel
theorem dX9_hand_9 : decode cX9_hand 9 = .ok (.iload_n 2, 1) := by decide +kernel
theorem dX9_hand_10 : decode cX9_hand 10 = .ok (.ifCond .lt 9, 3) := by decide +kernel
theorem dX9_hand_13 : decode cX9_hand 13 = .ok (.iload_n 2, 1) := by decide +kernel
theorem dX9_hand_14 : decode cX9_hand 14 = .ok (.bipush 15, 2) := by decide +kernel
theorem dX9_hand_16 : decode cX9_hand 16 = .ok (.if_icmp .le 6, 3) := by decide +kernel
theorem dX9_hand_19 : decode cX9_hand 19 = .ok (.bipush (-2), 2) := by decide +kernel
theorem dX9_hand_21 : decode cX9_hand 21 = .ok (.ireturn, 1) := by decide +kernel
theorem dX9_hand_22 : decode cX9_hand 22 = .ok (.aload_n 0, 1) := by decide +kernel
theorem dX9_hand_23 : decode cX9_hand 23 = .ok (.getfield 19, 3) := by decide +kernel
theorem dX9_hand_26 : decode cX9_hand 26 = .ok (.iload_n 1, 1) := by decide +kernel
theorem dX9_hand_27 : decode cX9_hand 27 = .ok (.invokevirtual 82, 3) := by decide +kernel
theorem dX9_hand_30 : decode cX9_hand 30 = .ok (.istore_n 3, 1) := by decide +kernel
theorem dX9_hand_31 : decode cX9_hand 31 = .ok (.aload_n 0, 1) := by decide +kernel
theorem dX9_hand_32 : decode cX9_hand 32 = .ok (.getfield 19, 3) := by decide +kernel
theorem dX9_hand_35 : decode cX9_hand 35 = .ok (.iload_n 1, 1) := by decide +kernel
theorem dX9_hand_36 : decode cX9_hand 36 = .ok (.iload_n 2, 1) := by decide +kernel
theorem dX9_hand_37 : decode cX9_hand 37 = .ok (.invokevirtual 85, 3) := by decide +kernel
theorem dX9_hand_40 : decode cX9_hand 40 = .ok (.iload_n 3, 1) := by decide +kernel
theorem dX9_hand_41 : decode cX9_hand 41 = .ok (.ireturn, 1) := by decide +kernel
set_option maxRecDepth 20000 in
theorem ggX9_judge_X9_isMap : GoodIn wsX9_judge wsX9_isMap := goodIn_r _ [7] (by decide +kernel) (by decide +kernel)
set_option maxRecDepth 20000 in
theorem gX9_judge_X9_isMap : GoodIn wsX9_judge (va_wsS RX9 48 yX9_isMap wsX9_isMap) := goodIn_app (goodIn_of _ (by decide +kernel)) ggX9_judge_X9_isMap
set_option maxRecDepth 20000 in
theorem ggX9_judge_X9_isTold : GoodIn wsX9_judge wsX9_isTold := goodIn_r _ [11, 2, 12, 13, 14, 6, 15, 4, 5, 7, 96, 97, 98, 99, 100, 101, 102, 103, 104, 105, 106] (by decide +kernel) (by decide +kernel)
set_option maxRecDepth 20000 in
theorem gX9_judge_X9_isTold : GoodIn wsX9_judge (wsV RX9 62 RX9 yX9_isTold wsX9_isTold) := goodIn_app (goodIn_of _ (by decide +kernel)) ggX9_judge_X9_isTold
set_option maxRecDepth 20000 in
theorem ggX9_judge_X2_firstWrong : GoodIn wsX9_judge wsX2_firstWrong := goodIn_r _ [20, 21, 22, 23, 24, 19, 25, 26, 27, 28, 29, 30, 31, 32, 33, 34, 35, 36, 37, 38, 39, 40, 41, 42, 43, 44, 45, 46, 47, 48, 49, 50, 51, 52, 53, 54, 55, 107, 108, 109] (by decide +kernel) (by decide +kernel)
set_option maxRecDepth 20000 in
theorem gX9_judge_X2_firstWrong : GoodIn wsX9_judge (wsV RX9 44 RX2 yX2_firstWrong wsX2_firstWrong) := goodIn_app (goodIn_of _ (by decide +kernel)) ggX9_judge_X2_firstWrong
set_option maxRecDepth 20000 in
theorem ggX9_judge_X3_codeOf : GoodIn wsX9_judge wsX3_codeOf := goodIn_r _ [60, 61, 101, 102, 103, 104, 105, 106] (by decide +kernel) (by decide +kernel)
set_option maxRecDepth 20000 in
theorem gX9_judge_X3_codeOf : GoodIn wsX9_judge (wsV RX9 65 RX3 yX3_codeOf wsX3_codeOf) := goodIn_app (goodIn_of _ (by decide +kernel)) ggX9_judge_X3_codeOf
set_option maxRecDepth 20000 in
theorem ggX9_judge_X9_firstIdle : GoodIn wsX9_judge wsX9_firstIdle := goodIn_r _ [65, 1, 66, 67, 68, 19, 69, 70, 21, 30, 31, 32, 33, 34, 35, 36, 37, 38, 43, 44, 45, 46, 47, 48, 49, 50, 51, 71, 72, 41, 73, 52, 53, 54, 55, 74, 75, 76, 77, 78, 79, 80, 81, 82, 83, 84, 85, 86, 87, 88, 89, 90, 91, 92, 93, 94, 95, 96, 97, 98, 99, 100, 107, 108, 109] (by decide +kernel) (by decide +kernel)
set_option maxRecDepth 20000 in
theorem gX9_judge_X9_firstIdle : GoodIn wsX9_judge (wsV RX9 88 RX9 yX9_firstIdle wsX9_firstIdle) := goodIn_app (goodIn_of _ (by decide +kernel)) ggX9_judge_X9_firstIdle
theorem dX9_judge_0 : decode cX9_judge 0 = .ok (.iload_n 1, 1) := by decide +kernel
theorem dX9_judge_1 : decode cX9_judge 1 = .ok (.invokestatic 48, 3) := by decide +kernel
theorem dX9_judge_4 : decode cX9_judge 4 = .ok (.ifCond .ne 5, 3) := by decide +kernel
theorem dX9_judge_7 : decode cX9_judge 7 = .ok (.iconst (-1), 1) := by decide +kernel
theorem dX9_judge_8 : decode cX9_judge 8 = .ok (.ireturn, 1) := by decide +kernel
theorem dX9_judge_9 : decode cX9_judge 9 = .ok (.aload_n 0, 1) := by decide +kernel
theorem dX9_judge_10 : decode cX9_judge 10 = .ok (.iload_n 1, 1) := by decide +kernel
theorem dX9_judge_11 : decode cX9_judge 11 = .ok (.invokevirtual 62, 3) := by decide +kernel
theorem dX9_judge_14 : decode cX9_judge 14 = .ok (.ifCond .ne 6, 3) := by decide +kernel
theorem dX9_judge_17 : decode cX9_judge 17 = .ok (.bipush (-3), 2) := by decide +kernel
theorem dX9_judge_19 : decode cX9_judge 19 = .ok (.ireturn, 1) := by decide +kernel
theorem dX9_judge_20 : decode cX9_judge 20 = .ok (.aload_n 0, 1) := by decide +kernel
theorem dX9_judge_21 : decode cX9_judge 21 = .ok (.getfield 10, 3) := by decide +kernel
theorem dX9_judge_24 : decode cX9_judge 24 = .ok (.iconst 1, 1) := by decide +kernel
theorem dX9_judge_25 : decode cX9_judge 25 = .ok (.aload_n 0, 1) := by decide +kernel
theorem dX9_judge_26 : decode cX9_judge 26 = .ok (.getfield 19, 3) := by decide +kernel
theorem dX9_judge_29 : decode cX9_judge 29 = .ok (.getfield 27, 3) := by decide +kernel
theorem dX9_judge_32 : decode cX9_judge 32 = .ok (.invokevirtual 44, 3) := by decide +kernel
theorem dX9_judge_35 : decode cX9_judge 35 = .ok (.bipush (-6), 2) := by decide +kernel
theorem dX9_judge_37 : decode cX9_judge 37 = .ok (.if_icmp .eq 6, 3) := by decide +kernel
theorem dX9_judge_40 : decode cX9_judge 40 = .ok (.bipush (-5), 2) := by decide +kernel
theorem dX9_judge_42 : decode cX9_judge 42 = .ok (.ireturn, 1) := by decide +kernel
theorem dX9_judge_43 : decode cX9_judge 43 = .ok (.aload_n 0, 1) := by decide +kernel
theorem dX9_judge_44 : decode cX9_judge 44 = .ok (.aload_n 0, 1) := by decide +kernel
theorem dX9_judge_45 : decode cX9_judge 45 = .ok (.getfield 19, 3) := by decide +kernel
theorem dX9_judge_48 : decode cX9_judge 48 = .ok (.iload_n 1, 1) := by decide +kernel
theorem dX9_judge_49 : decode cX9_judge 49 = .ok (.invokevirtual 65, 3) := by decide +kernel
theorem dX9_judge_52 : decode cX9_judge 52 = .ok (.invokevirtual 88, 3) := by decide +kernel
theorem dX9_judge_55 : decode cX9_judge 55 = .ok (.ireturn, 1) := by decide +kernel
set_option maxRecDepth 20000 in
theorem ggX9_copy_X9_isMap : GoodIn wsX9_copy wsX9_isMap := goodIn_r _ [8] (by decide +kernel) (by decide +kernel)
set_option maxRecDepth 20000 in
theorem gX9_copy_X9_isMap : GoodIn wsX9_copy (va_wsS RX9 48 yX9_isMap wsX9_isMap) := goodIn_app (goodIn_of _ (by decide +kernel)) ggX9_copy_X9_isMap
set_option maxRecDepth 20000 in
theorem ggX9_copy_X9_isTold : GoodIn wsX9_copy wsX9_isTold := goodIn_r _ [12, 2, 13, 14, 15, 7, 16, 5, 6, 8, 102, 103, 104, 105, 106, 107, 108, 109, 110, 111, 112] (by decide +kernel) (by decide +kernel)
set_option maxRecDepth 20000 in
theorem gX9_copy_X9_isTold : GoodIn wsX9_copy (wsV RX9 62 RX9 yX9_isTold wsX9_isTold) := goodIn_app (goodIn_of _ (by decide +kernel)) ggX9_copy_X9_isTold
set_option maxRecDepth 20000 in
theorem ggX9_copy_X2_firstWrong : GoodIn wsX9_copy wsX2_firstWrong := goodIn_r _ [21, 22, 23, 24, 25, 20, 26, 27, 28, 29, 30, 31, 32, 33, 34, 35, 36, 37, 38, 39, 40, 41, 42, 43, 44, 45, 46, 47, 48, 49, 50, 51, 52, 53, 54, 55, 56, 113, 114, 115] (by decide +kernel) (by decide +kernel)
set_option maxRecDepth 20000 in
theorem gX9_copy_X2_firstWrong : GoodIn wsX9_copy (wsV RX9 44 RX2 yX2_firstWrong wsX2_firstWrong) := goodIn_app (goodIn_of _ (by decide +kernel)) ggX9_copy_X2_firstWrong
set_option maxRecDepth 20000 in
theorem ggX9_copy_X3_codeOf : GoodIn wsX9_copy wsX3_codeOf := goodIn_r _ [61, 62, 107, 108, 109, 110, 111, 112] (by decide +kernel) (by decide +kernel)
set_option maxRecDepth 20000 in
theorem gX9_copy_X3_codeOf : GoodIn wsX9_copy (wsV RX9 65 RX3 yX3_codeOf wsX3_codeOf) := goodIn_app (goodIn_of _ (by decide +kernel)) ggX9_copy_X3_codeOf
set_option maxRecDepth 20000 in
theorem ggX9_copy_X9_firstIdle : GoodIn wsX9_copy wsX9_firstIdle := goodIn_r _ [66, 1, 67, 68, 69, 20, 70, 71, 22, 31, 32, 33, 34, 35, 36, 37, 38, 39, 44, 45, 46, 47, 48, 49, 50, 51, 52, 72, 73, 42, 74, 53, 54, 55, 56, 75, 76, 77, 78, 79, 80, 81, 82, 83, 84, 85, 86, 87, 88, 89, 90, 91, 92, 93, 94, 95, 96, 102, 103, 104, 105, 106, 113, 114, 115] (by decide +kernel) (by decide +kernel)
set_option maxRecDepth 20000 in
theorem gX9_copy_X9_firstIdle : GoodIn wsX9_copy (wsV RX9 88 RX9 yX9_firstIdle wsX9_firstIdle) := goodIn_app (goodIn_of _ (by decide +kernel)) ggX9_copy_X9_firstIdle
set_option maxRecDepth 20000 in
theorem ggX9_copy_X2_readSlips : GoodIn wsX9_copy wsX2_readSlips := goodIn_r _ [70, 71, 22, 31, 32, 33, 20, 34, 35, 36, 37, 38, 39, 44, 45, 46, 47, 48, 49, 50, 51, 52, 72, 73, 42, 74, 53, 54, 55, 56, 113, 114, 115] (by decide +kernel) (by decide +kernel)
set_option maxRecDepth 20000 in
theorem gX9_copy_X2_readSlips : GoodIn wsX9_copy (wsV RX9 91 RX2 yX2_readSlips wsX2_readSlips) := goodIn_app (goodIn_of _ (by decide +kernel)) ggX9_copy_X2_readSlips
set_option maxRecDepth 20000 in
theorem ggX9_copy_X2_slipAt : GoodIn wsX9_copy wsX2_slipAt := goodIn_r _ [78, 71, 113, 114, 115] (by decide +kernel) (by decide +kernel)
set_option maxRecDepth 20000 in
theorem gX9_copy_X2_slipAt : GoodIn wsX9_copy (wsV RX9 94 RX2 yX2_slipAt wsX2_slipAt) := goodIn_app (goodIn_of _ (by decide +kernel)) ggX9_copy_X2_slipAt
set_option maxRecDepth 20000 in
theorem ggX9_copy_X6_after : GoodIn wsX9_copy wsX6_after := goodIn_r _ [81, 82, 83, 84, 85, 86, 87, 88, 89, 90, 91, 92, 93, 94, 95, 96] (by decide +kernel) (by decide +kernel)
set_option maxRecDepth 20000 in
theorem gX9_copy_X6_after : GoodIn wsX9_copy (va_wsS RX9 97 yX6_after wsX6_after) := goodIn_app (goodIn_of _ (by decide +kernel)) ggX9_copy_X6_after
set_option maxRecDepth 20000 in
theorem ggX9_copy_X3_tell : GoodIn wsX9_copy wsX3_tell := goodIn_r _ [100, 62, 101, 107, 108, 109, 110, 111, 112] (by decide +kernel) (by decide +kernel)
set_option maxRecDepth 20000 in
theorem gX9_copy_X3_tell : GoodIn wsX9_copy (wsV RX9 55 RX3 yX3_tell wsX3_tell) := goodIn_app (goodIn_of _ (by decide +kernel)) ggX9_copy_X3_tell
theorem dX9_copy_0 : decode cX9_copy 0 = .ok (.iload_n 1, 1) := by decide +kernel
theorem dX9_copy_1 : decode cX9_copy 1 = .ok (.invokestatic 48, 3) := by decide +kernel
theorem dX9_copy_4 : decode cX9_copy 4 = .ok (.ifCond .eq 10, 3) := by decide +kernel
theorem dX9_copy_7 : decode cX9_copy 7 = .ok (.iload_n 2, 1) := by decide +kernel
theorem dX9_copy_8 : decode cX9_copy 8 = .ok (.invokestatic 48, 3) := by decide +kernel
theorem dX9_copy_11 : decode cX9_copy 11 = .ok (.ifCond .ne 5, 3) := by decide +kernel
theorem dX9_copy_14 : decode cX9_copy 14 = .ok (.iconst (-1), 1) := by decide +kernel
theorem dX9_copy_15 : decode cX9_copy 15 = .ok (.ireturn, 1) := by decide +kernel
theorem dX9_copy_16 : decode cX9_copy 16 = .ok (.aload_n 0, 1) := by decide +kernel
theorem dX9_copy_17 : decode cX9_copy 17 = .ok (.iload_n 2, 1) := by decide +kernel
theorem dX9_copy_18 : decode cX9_copy 18 = .ok (.invokevirtual 62, 3) := by decide +kernel
theorem dX9_copy_21 : decode cX9_copy 21 = .ok (.ifCond .ne 6, 3) := by decide +kernel
theorem dX9_copy_24 : decode cX9_copy 24 = .ok (.bipush (-3), 2) := by decide +kernel
theorem dX9_copy_26 : decode cX9_copy 26 = .ok (.ireturn, 1) := by decide +kernel
theorem dX9_copy_27 : decode cX9_copy 27 = .ok (.aload_n 0, 1) := by decide +kernel
theorem dX9_copy_28 : decode cX9_copy 28 = .ok (.getfield 10, 3) := by decide +kernel
theorem dX9_copy_31 : decode cX9_copy 31 = .ok (.iconst 1, 1) := by decide +kernel
theorem dX9_copy_32 : decode cX9_copy 32 = .ok (.aload_n 0, 1) := by decide +kernel
theorem dX9_copy_33 : decode cX9_copy 33 = .ok (.getfield 19, 3) := by decide +kernel
theorem dX9_copy_36 : decode cX9_copy 36 = .ok (.getfield 27, 3) := by decide +kernel
theorem dX9_copy_39 : decode cX9_copy 39 = .ok (.invokevirtual 44, 3) := by decide +kernel
theorem dX9_copy_42 : decode cX9_copy 42 = .ok (.bipush (-6), 2) := by decide +kernel
theorem dX9_copy_44 : decode cX9_copy 44 = .ok (.if_icmp .ne 20, 3) := by decide +kernel
theorem dX9_copy_47 : decode cX9_copy 47 = .ok (.aload_n 0, 1) := by decide +kernel
theorem dX9_copy_48 : decode cX9_copy 48 = .ok (.aload_n 0, 1) := by decide +kernel
theorem dX9_copy_49 : decode cX9_copy 49 = .ok (.getfield 19, 3) := by decide +kernel
theorem dX9_copy_52 : decode cX9_copy 52 = .ok (.iload_n 2, 1) := by decide +kernel
theorem dX9_copy_53 : decode cX9_copy 53 = .ok (.invokevirtual 65, 3) := by decide +kernel
theorem dX9_copy_56 : decode cX9_copy 56 = .ok (.invokevirtual 88, 3) := by decide +kernel
theorem dX9_copy_59 : decode cX9_copy 59 = .ok (.bipush (-6), 2) := by decide +kernel
theorem dX9_copy_61 : decode cX9_copy 61 = .ok (.if_icmp .eq 6, 3) := by decide +kernel
theorem dX9_copy_64 : decode cX9_copy 64 = .ok (.bipush (-5), 2) := by decide +kernel
theorem dX9_copy_66 : decode cX9_copy 66 = .ok (.ireturn, 1) := by decide +kernel
theorem dX9_copy_67 : decode cX9_copy 67 = .ok (.aload_n 0, 1) := by decide +kernel
theorem dX9_copy_68 : decode cX9_copy 68 = .ok (.getfield 19, 3) := by decide +kernel
theorem dX9_copy_71 : decode cX9_copy 71 = .ok (.iload_n 2, 1) := by decide +kernel
theorem dX9_copy_72 : decode cX9_copy 72 = .ok (.invokevirtual 65, 3) := by decide +kernel
theorem dX9_copy_75 : decode cX9_copy 75 = .ok (.istore_n 3, 1) := by decide +kernel
theorem dX9_copy_76 : decode cX9_copy 76 = .ok (.aload_n 0, 1) := by decide +kernel
theorem dX9_copy_77 : decode cX9_copy 77 = .ok (.getfield 10, 3) := by decide +kernel
theorem dX9_copy_80 : decode cX9_copy 80 = .ok (.invokevirtual 91, 3) := by decide +kernel
theorem dX9_copy_83 : decode cX9_copy 83 = .ok (.istore 4, 2) := by decide +kernel
theorem dX9_copy_85 : decode cX9_copy 85 = .ok (.iconst 0, 1) := by decide +kernel
theorem dX9_copy_86 : decode cX9_copy 86 = .ok (.istore 5, 2) := by decide +kernel
theorem dX9_copy_88 : decode cX9_copy 88 = .ok (.iload 5, 2) := by decide +kernel
theorem dX9_copy_90 : decode cX9_copy 90 = .ok (.iload 4, 2) := by decide +kernel
theorem dX9_copy_92 : decode cX9_copy 92 = .ok (.if_icmp .ge 23, 3) := by decide +kernel
theorem dX9_copy_95 : decode cX9_copy 95 = .ok (.iload_n 3, 1) := by decide +kernel
theorem dX9_copy_96 : decode cX9_copy 96 = .ok (.aload_n 0, 1) := by decide +kernel
theorem dX9_copy_97 : decode cX9_copy 97 = .ok (.getfield 10, 3) := by decide +kernel
theorem dX9_copy_100 : decode cX9_copy 100 = .ok (.iload 5, 2) := by decide +kernel
theorem dX9_copy_102 : decode cX9_copy 102 = .ok (.invokevirtual 94, 3) := by decide +kernel
theorem dX9_copy_105 : decode cX9_copy 105 = .ok (.invokestatic 97, 3) := by decide +kernel
theorem dX9_copy_108 : decode cX9_copy 108 = .ok (.istore_n 3, 1) := by decide +kernel
theorem dX9_copy_109 : decode cX9_copy 109 = .ok (.iinc 5 1, 3) := by decide +kernel
theorem dX9_copy_112 : decode cX9_copy 112 = .ok (.goto (-24), 3) := by decide +kernel
theorem dX9_copy_115 : decode cX9_copy 115 = .ok (.aload_n 0, 1) := by decide +kernel
theorem dX9_copy_116 : decode cX9_copy 116 = .ok (.getfield 19, 3) := by decide +kernel
theorem dX9_copy_119 : decode cX9_copy 119 = .ok (.iload_n 1, 1) := by decide +kernel
theorem dX9_copy_120 : decode cX9_copy 120 = .ok (.iload_n 3, 1) := by decide +kernel
theorem dX9_copy_121 : decode cX9_copy 121 = .ok (.invokevirtual 55, 3) := by decide +kernel
theorem dX9_copy_124 : decode cX9_copy 124 = .ok (.aload_n 0, 1) := by decide +kernel
theorem dX9_copy_125 : decode cX9_copy 125 = .ok (.getfield 10, 3) := by decide +kernel
theorem dX9_copy_128 : decode cX9_copy 128 = .ok (.iconst 0, 1) := by decide +kernel
theorem dX9_copy_129 : decode cX9_copy 129 = .ok (.putfield 41, 3) := by decide +kernel
theorem dX9_copy_132 : decode cX9_copy 132 = .ok (.iload 4, 2) := by decide +kernel
theorem dX9_copy_134 : decode cX9_copy 134 = .ok (.ireturn, 1) := by decide +kernel
set_option maxRecDepth 20000 in
theorem ggX9_far_X9_isMap : GoodIn wsX9_far wsX9_isMap := goodIn_r _ [5] (by decide +kernel) (by decide +kernel)
set_option maxRecDepth 20000 in
theorem gX9_far_X9_isMap : GoodIn wsX9_far (va_wsS RX9 48 yX9_isMap wsX9_isMap) := goodIn_app (goodIn_of _ (by decide +kernel)) ggX9_far_X9_isMap
set_option maxRecDepth 20000 in
theorem ggX9_far_X9_isHand : GoodIn wsX9_far wsX9_isHand := goodIn_r _ [8] (by decide +kernel) (by decide +kernel)
set_option maxRecDepth 20000 in
theorem gX9_far_X9_isHand : GoodIn wsX9_far (va_wsS RX9 79 yX9_isHand wsX9_isHand) := goodIn_app (goodIn_of _ (by decide +kernel)) ggX9_far_X9_isHand
set_option maxRecDepth 20000 in
theorem ggX9_far_X9_isTold : GoodIn wsX9_far wsX9_isTold := goodIn_r _ [12, 1, 13, 14, 15, 4, 16, 2, 3, 5, 166, 167, 168, 169, 170, 171, 172, 173, 174, 175, 176] (by decide +kernel) (by decide +kernel)
set_option maxRecDepth 20000 in
theorem gX9_far_X9_isTold : GoodIn wsX9_far (wsV RX9 62 RX9 yX9_isTold wsX9_isTold) := goodIn_app (goodIn_of _ (by decide +kernel)) ggX9_far_X9_isTold
set_option maxRecDepth 20000 in
theorem ggX9_far_X9_tableOf : GoodIn wsX9_far wsX9_tableOf := goodIn_r _ [20, 1, 21, 22, 23, 24, 25, 26, 27, 28, 29, 30, 31, 32, 33, 34, 35, 36, 37, 38, 39, 40, 41, 42, 43, 44, 45, 46, 47, 48, 4, 49, 50, 51, 52, 53, 54, 55, 56, 57, 58, 59, 60, 61, 62, 63, 64, 65, 66, 67, 68, 69, 70, 71, 72, 73, 74, 75, 76, 77, 78, 79, 80, 81, 82, 83, 84, 85, 86, 87, 88, 89, 90, 91, 92, 93, 94, 95, 96, 97, 98, 99, 100, 101, 102, 103, 104, 105, 106, 107, 108, 109, 110, 111, 112, 113, 166, 167, 168, 169, 170, 171, 172, 173, 174, 175, 176, 177, 178, 179, 180, 181, 182, 183, 184, 185, 186] (by decide +kernel) (by decide +kernel)
set_option maxRecDepth 20000 in
theorem gX9_far_X9_tableOf : GoodIn wsX9_far (wsV RX9 102 RX9 yX9_tableOf wsX9_tableOf) := goodIn_app (goodIn_of _ (by decide +kernel)) ggX9_far_X9_tableOf
set_option maxRecDepth 20000 in
theorem ggX9_far_X3_codeOf : GoodIn wsX9_far wsX3_codeOf := goodIn_r _ [26, 27, 171, 172, 173, 174, 175, 176] (by decide +kernel) (by decide +kernel)
set_option maxRecDepth 20000 in
theorem gX9_far_X3_codeOf : GoodIn wsX9_far (wsV RX9 65 RX3 yX3_codeOf wsX3_codeOf) := goodIn_app (goodIn_of _ (by decide +kernel)) ggX9_far_X3_codeOf
set_option maxRecDepth 20000 in
theorem ggX9_far_X9_rowAnswer : GoodIn wsX9_far wsX9_rowAnswer := goodIn_r _ [117, 1, 118, 119, 120, 75, 121, 122, 123, 124, 125, 79, 96, 97, 91, 126, 127, 34, 128, 36, 37, 38, 39, 129, 130, 131, 132, 90, 133, 134, 135, 136, 78, 113, 137, 41, 42, 138, 139, 140, 141, 106, 107, 108, 109, 63, 64, 65, 25, 66, 67, 142, 143, 144, 4, 145, 21, 146, 147, 148, 149, 150, 151, 152, 153, 154, 155, 156, 157, 158, 159, 160, 161, 33, 35, 40, 162, 163, 164, 165, 166, 167, 168, 169, 170, 180, 181, 182, 183, 184, 185, 186, 171, 172, 173, 174, 175, 176] (by decide +kernel) (by decide +kernel)
set_option maxRecDepth 20000 in
theorem gX9_far_X9_rowAnswer : GoodIn wsX9_far (wsV RX9 106 RX9 yX9_rowAnswer wsX9_rowAnswer) := goodIn_app (goodIn_of _ (by decide +kernel)) ggX9_far_X9_rowAnswer
theorem dX9_far_0 : decode cX9_far 0 = .ok (.iload_n 1, 1) := by decide +kernel
theorem dX9_far_1 : decode cX9_far 1 = .ok (.invokestatic 48, 3) := by decide +kernel
theorem dX9_far_4 : decode cX9_far 4 = .ok (.ifCond .eq 17, 3) := by decide +kernel
theorem dX9_far_7 : decode cX9_far 7 = .ok (.iload_n 2, 1) := by decide +kernel
theorem dX9_far_8 : decode cX9_far 8 = .ok (.invokestatic 48, 3) := by decide +kernel
theorem dX9_far_11 : decode cX9_far 11 = .ok (.ifCond .eq 10, 3) := by decide +kernel
theorem dX9_far_14 : decode cX9_far 14 = .ok (.iload_n 3, 1) := by decide +kernel
theorem dX9_far_15 : decode cX9_far 15 = .ok (.invokestatic 79, 3) := by decide +kernel
theorem dX9_far_18 : decode cX9_far 18 = .ok (.ifCond .ne 5, 3) := by decide +kernel
theorem dX9_far_21 : decode cX9_far 21 = .ok (.iconst (-1), 1) := by decide +kernel
theorem dX9_far_22 : decode cX9_far 22 = .ok (.ireturn, 1) := by decide +kernel
theorem dX9_far_23 : decode cX9_far 23 = .ok (.aload_n 0, 1) := by decide +kernel
theorem dX9_far_24 : decode cX9_far 24 = .ok (.iload_n 1, 1) := by decide +kernel
theorem dX9_far_25 : decode cX9_far 25 = .ok (.invokevirtual 62, 3) := by decide +kernel
theorem dX9_far_28 : decode cX9_far 28 = .ok (.ifCond .eq 11, 3) := by decide +kernel
theorem dX9_far_31 : decode cX9_far 31 = .ok (.aload_n 0, 1) := by decide +kernel
theorem dX9_far_32 : decode cX9_far 32 = .ok (.iload_n 2, 1) := by decide +kernel
theorem dX9_far_33 : decode cX9_far 33 = .ok (.invokevirtual 62, 3) := by decide +kernel
theorem dX9_far_36 : decode cX9_far 36 = .ok (.ifCond .ne 6, 3) := by decide +kernel
theorem dX9_far_39 : decode cX9_far 39 = .ok (.bipush (-3), 2) := by decide +kernel
theorem dX9_far_41 : decode cX9_far 41 = .ok (.ireturn, 1) := by decide +kernel
theorem dX9_far_42 : decode cX9_far 42 = .ok (.aload_n 0, 1) := by decide +kernel
theorem dX9_far_43 : decode cX9_far 43 = .ok (.aload_n 0, 1) := by decide +kernel
theorem dX9_far_44 : decode cX9_far 44 = .ok (.iload_n 2, 1) := by decide +kernel
theorem dX9_far_45 : decode cX9_far 45 = .ok (.iload_n 3, 1) := by decide +kernel
theorem dX9_far_46 : decode cX9_far 46 = .ok (.invokevirtual 102, 3) := by decide +kernel
theorem dX9_far_49 : decode cX9_far 49 = .ok (.aload_n 0, 1) := by decide +kernel
theorem dX9_far_50 : decode cX9_far 50 = .ok (.getfield 19, 3) := by decide +kernel
theorem dX9_far_53 : decode cX9_far 53 = .ok (.iload_n 1, 1) := by decide +kernel
theorem dX9_far_54 : decode cX9_far 54 = .ok (.invokevirtual 65, 3) := by decide +kernel
theorem dX9_far_57 : decode cX9_far 57 = .ok (.iload_n 3, 1) := by decide +kernel
theorem dX9_far_58 : decode cX9_far 58 = .ok (.iload 4, 2) := by decide +kernel
theorem dX9_far_60 : decode cX9_far 60 = .ok (.invokevirtual 106, 3) := by decide +kernel
theorem dX9_far_63 : decode cX9_far 63 = .ok (.ireturn, 1) := by decide +kernel
set_option maxRecDepth 20000 in
theorem ggX9_who_X9_isMap : GoodIn wsX9_who wsX9_isMap := goodIn_r _ [5] (by decide +kernel) (by decide +kernel)
set_option maxRecDepth 20000 in
theorem gX9_who_X9_isMap : GoodIn wsX9_who (va_wsS RX9 48 yX9_isMap wsX9_isMap) := goodIn_app (goodIn_of _ (by decide +kernel)) ggX9_who_X9_isMap
set_option maxRecDepth 20000 in
theorem ggX9_who_X9_isTold : GoodIn wsX9_who wsX9_isTold := goodIn_r _ [9, 1, 10, 11, 12, 4, 13, 2, 3, 5, 135, 136, 137, 138, 139, 140, 141, 142, 143, 144, 145] (by decide +kernel) (by decide +kernel)
set_option maxRecDepth 20000 in
theorem gX9_who_X9_isTold : GoodIn wsX9_who (wsV RX9 62 RX9 yX9_isTold wsX9_isTold) := goodIn_app (goodIn_of _ (by decide +kernel)) ggX9_who_X9_isTold
set_option maxRecDepth 20000 in
theorem ggX9_who_X9_tableOf : GoodIn wsX9_who wsX9_tableOf := goodIn_r _ [17, 1, 18, 19, 20, 21, 22, 23, 24, 25, 26, 27, 28, 29, 30, 31, 32, 33, 34, 35, 36, 37, 38, 39, 40, 41, 42, 43, 44, 45, 4, 46, 47, 48, 49, 50, 51, 52, 53, 54, 55, 56, 57, 58, 59, 60, 61, 62, 63, 64, 65, 66, 67, 68, 69, 70, 71, 72, 73, 74, 75, 76, 77, 78, 79, 80, 81, 82, 83, 84, 85, 86, 87, 88, 89, 90, 91, 92, 93, 94, 95, 96, 97, 98, 99, 100, 101, 102, 103, 104, 105, 106, 107, 108, 109, 110, 135, 136, 137, 138, 139, 140, 141, 142, 143, 144, 145, 146, 147, 148, 149, 150, 151, 152, 153, 154, 155] (by decide +kernel) (by decide +kernel)
set_option maxRecDepth 20000 in
theorem gX9_who_X9_tableOf : GoodIn wsX9_who (wsV RX9 102 RX9 yX9_tableOf wsX9_tableOf) := goodIn_app (goodIn_of _ (by decide +kernel)) ggX9_who_X9_tableOf
set_option maxRecDepth 20000 in
theorem ggX9_who_X3_codeOf : GoodIn wsX9_who wsX3_codeOf := goodIn_r _ [23, 24, 140, 141, 142, 143, 144, 145] (by decide +kernel) (by decide +kernel)
set_option maxRecDepth 20000 in
theorem gX9_who_X3_codeOf : GoodIn wsX9_who (wsV RX9 65 RX3 yX3_codeOf wsX3_codeOf) := goodIn_app (goodIn_of _ (by decide +kernel)) ggX9_who_X3_codeOf
set_option maxRecDepth 20000 in
theorem ggX9_who_X7_slipsFrom : GoodIn wsX9_who wsX7_slipsFrom := goodIn_r _ [114, 115, 116, 117, 72, 118, 76, 93, 94, 88, 119, 120, 31, 121, 33, 34, 35, 36, 122, 123, 124, 125, 87, 126, 127, 128, 129, 75, 110, 130, 38, 39, 131, 132, 133, 134, 103, 104, 105, 106, 149, 150, 151, 152, 153, 154, 155] (by decide +kernel) (by decide +kernel)
set_option maxRecDepth 20000 in
theorem gX9_who_X7_slipsFrom : GoodIn wsX9_who (wsV RX9 110 RX7 yX7_slipsFrom wsX7_slipsFrom) := goodIn_app (goodIn_of _ (by decide +kernel)) ggX9_who_X7_slipsFrom
theorem dX9_who_0 : decode cX9_who 0 = .ok (.iload_n 1, 1) := by decide +kernel
theorem dX9_who_1 : decode cX9_who 1 = .ok (.invokestatic 48, 3) := by decide +kernel
theorem dX9_who_4 : decode cX9_who 4 = .ok (.ifCond .eq 10, 3) := by decide +kernel
theorem dX9_who_7 : decode cX9_who 7 = .ok (.iload_n 2, 1) := by decide +kernel
theorem dX9_who_8 : decode cX9_who 8 = .ok (.invokestatic 48, 3) := by decide +kernel
theorem dX9_who_11 : decode cX9_who 11 = .ok (.ifCond .ne 5, 3) := by decide +kernel
theorem dX9_who_14 : decode cX9_who 14 = .ok (.iconst (-1), 1) := by decide +kernel
theorem dX9_who_15 : decode cX9_who 15 = .ok (.ireturn, 1) := by decide +kernel
theorem dX9_who_16 : decode cX9_who 16 = .ok (.iload_n 3, 1) := by decide +kernel
theorem dX9_who_17 : decode cX9_who 17 = .ok (.ifCond .lt 9, 3) := by decide +kernel
theorem dX9_who_20 : decode cX9_who 20 = .ok (.iload_n 3, 1) := by decide +kernel
theorem dX9_who_21 : decode cX9_who 21 = .ok (.bipush 30, 2) := by decide +kernel
theorem dX9_who_23 : decode cX9_who 23 = .ok (.if_icmp .le 6, 3) := by decide +kernel
theorem dX9_who_26 : decode cX9_who 26 = .ok (.bipush (-2), 2) := by decide +kernel
theorem dX9_who_28 : decode cX9_who 28 = .ok (.ireturn, 1) := by decide +kernel
theorem dX9_who_29 : decode cX9_who 29 = .ok (.aload_n 0, 1) := by decide +kernel
theorem dX9_who_30 : decode cX9_who 30 = .ok (.iload_n 1, 1) := by decide +kernel
theorem dX9_who_31 : decode cX9_who 31 = .ok (.invokevirtual 62, 3) := by decide +kernel
theorem dX9_who_34 : decode cX9_who 34 = .ok (.ifCond .eq 11, 3) := by decide +kernel
theorem dX9_who_37 : decode cX9_who 37 = .ok (.aload_n 0, 1) := by decide +kernel
theorem dX9_who_38 : decode cX9_who 38 = .ok (.iload_n 2, 1) := by decide +kernel
theorem dX9_who_39 : decode cX9_who 39 = .ok (.invokevirtual 62, 3) := by decide +kernel
theorem dX9_who_42 : decode cX9_who 42 = .ok (.ifCond .ne 6, 3) := by decide +kernel
theorem dX9_who_45 : decode cX9_who 45 = .ok (.bipush (-3), 2) := by decide +kernel
theorem dX9_who_47 : decode cX9_who 47 = .ok (.ireturn, 1) := by decide +kernel
theorem dX9_who_48 : decode cX9_who 48 = .ok (.iconst 0, 1) := by decide +kernel
theorem dX9_who_49 : decode cX9_who 49 = .ok (.istore 4, 2) := by decide +kernel
theorem dX9_who_51 : decode cX9_who 51 = .ok (.iconst 0, 1) := by decide +kernel
theorem dX9_who_52 : decode cX9_who 52 = .ok (.istore 5, 2) := by decide +kernel
theorem dX9_who_54 : decode cX9_who 54 = .ok (.iload 5, 2) := by decide +kernel
theorem dX9_who_56 : decode cX9_who 56 = .ok (.iconst 4, 1) := by decide +kernel
theorem dX9_who_57 : decode cX9_who 57 = .ok (.if_icmp .ge 49, 3) := by decide +kernel
theorem dX9_who_60 : decode cX9_who 60 = .ok (.aload_n 0, 1) := by decide +kernel
theorem dX9_who_61 : decode cX9_who 61 = .ok (.iload_n 2, 1) := by decide +kernel
theorem dX9_who_62 : decode cX9_who 62 = .ok (.iload 5, 2) := by decide +kernel
theorem dX9_who_64 : decode cX9_who 64 = .ok (.invokevirtual 102, 3) := by decide +kernel
theorem dX9_who_67 : decode cX9_who 67 = .ok (.aload_n 0, 1) := by decide +kernel
theorem dX9_who_68 : decode cX9_who 68 = .ok (.getfield 19, 3) := by decide +kernel
theorem dX9_who_71 : decode cX9_who 71 = .ok (.iload_n 1, 1) := by decide +kernel
theorem dX9_who_72 : decode cX9_who 72 = .ok (.invokevirtual 65, 3) := by decide +kernel
theorem dX9_who_75 : decode cX9_who 75 = .ok (.invokevirtual 110, 3) := by decide +kernel
theorem dX9_who_78 : decode cX9_who 78 = .ok (.istore 6, 2) := by decide +kernel
theorem dX9_who_80 : decode cX9_who 80 = .ok (.iload 6, 2) := by decide +kernel
theorem dX9_who_82 : decode cX9_who 82 = .ok (.ifCond .lt 18, 3) := by decide +kernel
theorem dX9_who_85 : decode cX9_who 85 = .ok (.iload 6, 2) := by decide +kernel
theorem dX9_who_87 : decode cX9_who 87 = .ok (.iload_n 3, 1) := by decide +kernel
theorem dX9_who_88 : decode cX9_who 88 = .ok (.if_icmp .gt 12, 3) := by decide +kernel
theorem dX9_who_91 : decode cX9_who 91 = .ok (.iload 4, 2) := by decide +kernel
theorem dX9_who_93 : decode cX9_who 93 = .ok (.iconst 1, 1) := by decide +kernel
theorem dX9_who_94 : decode cX9_who 94 = .ok (.iload 5, 2) := by decide +kernel
theorem dX9_who_96 : decode cX9_who 96 = .ok (.ishl, 1) := by decide +kernel
theorem dX9_who_97 : decode cX9_who 97 = .ok (.ior, 1) := by decide +kernel
theorem dX9_who_98 : decode cX9_who 98 = .ok (.istore 4, 2) := by decide +kernel
theorem dX9_who_100 : decode cX9_who 100 = .ok (.iinc 5 1, 3) := by decide +kernel
theorem dX9_who_103 : decode cX9_who 103 = .ok (.goto (-49), 3) := by decide +kernel
theorem dX9_who_106 : decode cX9_who 106 = .ok (.iload 4, 2) := by decide +kernel
theorem dX9_who_108 : decode cX9_who 108 = .ok (.ireturn, 1) := by decide +kernel
set_option maxRecDepth 20000 in
theorem ggX9_between_X9_isMap : GoodIn wsX9_between wsX9_isMap := goodIn_r _ [5] (by decide +kernel) (by decide +kernel)
set_option maxRecDepth 20000 in
theorem gX9_between_X9_isMap : GoodIn wsX9_between (va_wsS RX9 48 yX9_isMap wsX9_isMap) := goodIn_app (goodIn_of _ (by decide +kernel)) ggX9_between_X9_isMap
set_option maxRecDepth 20000 in
theorem ggX9_between_X9_isHand : GoodIn wsX9_between wsX9_isHand := goodIn_r _ [8] (by decide +kernel) (by decide +kernel)
set_option maxRecDepth 20000 in
theorem gX9_between_X9_isHand : GoodIn wsX9_between (va_wsS RX9 79 yX9_isHand wsX9_isHand) := goodIn_app (goodIn_of _ (by decide +kernel)) ggX9_between_X9_isHand
set_option maxRecDepth 20000 in
theorem ggX9_between_X9_isTold : GoodIn wsX9_between wsX9_isTold := goodIn_r _ [12, 1, 13, 14, 15, 4, 16, 2, 3, 5, 138, 139, 140, 141, 142, 143, 144, 145, 146, 147, 148] (by decide +kernel) (by decide +kernel)
set_option maxRecDepth 20000 in
theorem gX9_between_X9_isTold : GoodIn wsX9_between (wsV RX9 62 RX9 yX9_isTold wsX9_isTold) := goodIn_app (goodIn_of _ (by decide +kernel)) ggX9_between_X9_isTold
set_option maxRecDepth 20000 in
theorem ggX9_between_X9_tableOf : GoodIn wsX9_between wsX9_tableOf := goodIn_r _ [20, 1, 21, 22, 23, 24, 25, 26, 27, 28, 29, 30, 31, 32, 33, 34, 35, 36, 37, 38, 39, 40, 41, 42, 43, 44, 45, 46, 47, 48, 4, 49, 50, 51, 52, 53, 54, 55, 56, 57, 58, 59, 60, 61, 62, 63, 64, 65, 66, 67, 68, 69, 70, 71, 72, 73, 74, 75, 76, 77, 78, 79, 80, 81, 82, 83, 84, 85, 86, 87, 88, 89, 90, 91, 92, 93, 94, 95, 96, 97, 98, 99, 100, 101, 102, 103, 104, 105, 106, 107, 108, 109, 110, 111, 112, 113, 138, 139, 140, 141, 142, 143, 144, 145, 146, 147, 148, 149, 150, 151, 152, 153, 154, 155, 156, 157, 158] (by decide +kernel) (by decide +kernel)
set_option maxRecDepth 20000 in
theorem gX9_between_X9_tableOf : GoodIn wsX9_between (wsV RX9 102 RX9 yX9_tableOf wsX9_tableOf) := goodIn_app (goodIn_of _ (by decide +kernel)) ggX9_between_X9_tableOf
set_option maxRecDepth 20000 in
theorem ggX9_between_X3_codeOf : GoodIn wsX9_between wsX3_codeOf := goodIn_r _ [26, 27, 143, 144, 145, 146, 147, 148] (by decide +kernel) (by decide +kernel)
set_option maxRecDepth 20000 in
theorem gX9_between_X3_codeOf : GoodIn wsX9_between (wsV RX9 65 RX3 yX3_codeOf wsX3_codeOf) := goodIn_app (goodIn_of _ (by decide +kernel)) ggX9_between_X3_codeOf
set_option maxRecDepth 20000 in
theorem ggX9_between_X7_slipsFrom : GoodIn wsX9_between wsX7_slipsFrom := goodIn_r _ [117, 118, 119, 120, 75, 121, 79, 96, 97, 91, 122, 123, 34, 124, 36, 37, 38, 39, 125, 126, 127, 128, 90, 129, 130, 131, 132, 78, 113, 133, 41, 42, 134, 135, 136, 137, 106, 107, 108, 109, 152, 153, 154, 155, 156, 157, 158] (by decide +kernel) (by decide +kernel)
set_option maxRecDepth 20000 in
theorem gX9_between_X7_slipsFrom : GoodIn wsX9_between (wsV RX9 110 RX7 yX7_slipsFrom wsX7_slipsFrom) := goodIn_app (goodIn_of _ (by decide +kernel)) ggX9_between_X7_slipsFrom
theorem dX9_between_0 : decode cX9_between 0 = .ok (.iload_n 1, 1) := by decide +kernel
theorem dX9_between_1 : decode cX9_between 1 = .ok (.invokestatic 48, 3) := by decide +kernel
theorem dX9_between_4 : decode cX9_between 4 = .ok (.ifCond .eq 17, 3) := by decide +kernel
theorem dX9_between_7 : decode cX9_between 7 = .ok (.iload_n 2, 1) := by decide +kernel
theorem dX9_between_8 : decode cX9_between 8 = .ok (.invokestatic 48, 3) := by decide +kernel
theorem dX9_between_11 : decode cX9_between 11 = .ok (.ifCond .eq 10, 3) := by decide +kernel
theorem dX9_between_14 : decode cX9_between 14 = .ok (.iload_n 3, 1) := by decide +kernel
theorem dX9_between_15 : decode cX9_between 15 = .ok (.invokestatic 79, 3) := by decide +kernel
theorem dX9_between_18 : decode cX9_between 18 = .ok (.ifCond .ne 5, 3) := by decide +kernel
theorem dX9_between_21 : decode cX9_between 21 = .ok (.iconst (-1), 1) := by decide +kernel
theorem dX9_between_22 : decode cX9_between 22 = .ok (.ireturn, 1) := by decide +kernel
theorem dX9_between_23 : decode cX9_between 23 = .ok (.iload 4, 2) := by decide +kernel
theorem dX9_between_25 : decode cX9_between 25 = .ok (.iconst 1, 1) := by decide +kernel
theorem dX9_between_26 : decode cX9_between 26 = .ok (.if_icmp .lt 10, 3) := by decide +kernel
theorem dX9_between_29 : decode cX9_between 29 = .ok (.iload 4, 2) := by decide +kernel
theorem dX9_between_31 : decode cX9_between 31 = .ok (.bipush 9, 2) := by decide +kernel
theorem dX9_between_33 : decode cX9_between 33 = .ok (.if_icmp .le 6, 3) := by decide +kernel
theorem dX9_between_36 : decode cX9_between 36 = .ok (.bipush (-2), 2) := by decide +kernel
theorem dX9_between_38 : decode cX9_between 38 = .ok (.ireturn, 1) := by decide +kernel
theorem dX9_between_39 : decode cX9_between 39 = .ok (.aload_n 0, 1) := by decide +kernel
theorem dX9_between_40 : decode cX9_between 40 = .ok (.iload_n 1, 1) := by decide +kernel
theorem dX9_between_41 : decode cX9_between 41 = .ok (.invokevirtual 62, 3) := by decide +kernel
theorem dX9_between_44 : decode cX9_between 44 = .ok (.ifCond .eq 11, 3) := by decide +kernel
theorem dX9_between_47 : decode cX9_between 47 = .ok (.aload_n 0, 1) := by decide +kernel
theorem dX9_between_48 : decode cX9_between 48 = .ok (.iload_n 2, 1) := by decide +kernel
theorem dX9_between_49 : decode cX9_between 49 = .ok (.invokevirtual 62, 3) := by decide +kernel
theorem dX9_between_52 : decode cX9_between 52 = .ok (.ifCond .ne 6, 3) := by decide +kernel
theorem dX9_between_55 : decode cX9_between 55 = .ok (.bipush (-3), 2) := by decide +kernel
theorem dX9_between_57 : decode cX9_between 57 = .ok (.ireturn, 1) := by decide +kernel
theorem dX9_between_58 : decode cX9_between 58 = .ok (.aload_n 0, 1) := by decide +kernel
theorem dX9_between_59 : decode cX9_between 59 = .ok (.iload_n 2, 1) := by decide +kernel
theorem dX9_between_60 : decode cX9_between 60 = .ok (.iload_n 3, 1) := by decide +kernel
theorem dX9_between_61 : decode cX9_between 61 = .ok (.invokevirtual 102, 3) := by decide +kernel
theorem dX9_between_64 : decode cX9_between 64 = .ok (.aload_n 0, 1) := by decide +kernel
theorem dX9_between_65 : decode cX9_between 65 = .ok (.getfield 19, 3) := by decide +kernel
theorem dX9_between_68 : decode cX9_between 68 = .ok (.iload_n 1, 1) := by decide +kernel
theorem dX9_between_69 : decode cX9_between 69 = .ok (.invokevirtual 65, 3) := by decide +kernel
theorem dX9_between_72 : decode cX9_between 72 = .ok (.invokevirtual 110, 3) := by decide +kernel
theorem dX9_between_75 : decode cX9_between 75 = .ok (.istore 5, 2) := by decide +kernel
theorem dX9_between_77 : decode cX9_between 77 = .ok (.iload 5, 2) := by decide +kernel
theorem dX9_between_79 : decode cX9_between 79 = .ok (.ifCond .ge 8, 3) := by decide +kernel
theorem dX9_between_82 : decode cX9_between 82 = .ok (.bipush (-6), 2) := by decide +kernel
theorem dX9_between_84 : decode cX9_between 84 = .ok (.goto 13, 3) := by decide +kernel
theorem dX9_between_87 : decode cX9_between 87 = .ok (.iload 5, 2) := by decide +kernel
theorem dX9_between_89 : decode cX9_between 89 = .ok (.iload 4, 2) := by decide +kernel
theorem dX9_between_91 : decode cX9_between 91 = .ok (.iadd, 1) := by decide +kernel
theorem dX9_between_92 : decode cX9_between 92 = .ok (.iconst 1, 1) := by decide +kernel
theorem dX9_between_93 : decode cX9_between 93 = .ok (.isub, 1) := by decide +kernel
theorem dX9_between_94 : decode cX9_between 94 = .ok (.iload 4, 2) := by decide +kernel
theorem dX9_between_96 : decode cX9_between 96 = .ok (.idiv, 1) := by decide +kernel
theorem dX9_between_97 : decode cX9_between 97 = .ok (.ireturn, 1) := by decide +kernel
set_option maxRecDepth 20000 in
theorem ggX9_tree_X9_isHand : GoodIn wsX9_tree wsX9_isHand := goodIn_r _ [8] (by decide +kernel) (by decide +kernel)
set_option maxRecDepth 20000 in
theorem gX9_tree_X9_isHand : GoodIn wsX9_tree (va_wsS RX9 79 yX9_isHand wsX9_isHand) := goodIn_app (goodIn_of _ (by decide +kernel)) ggX9_tree_X9_isHand
set_option maxRecDepth 20000 in
theorem ggX9_tree_X9_isSet : GoodIn wsX9_tree wsX9_isSet := goodIn_r _ [11] (by decide +kernel) (by decide +kernel)
set_option maxRecDepth 20000 in
theorem gX9_tree_X9_isSet : GoodIn wsX9_tree (va_wsS RX9 115 yX9_isSet wsX9_isSet) := goodIn_app (goodIn_of _ (by decide +kernel)) ggX9_tree_X9_isSet
set_option maxRecDepth 20000 in
theorem ggX9_tree_X9_isTreeQuestion : GoodIn wsX9_tree wsX9_isTreeQuestion := goodIn_r _ [14, 15, 16, 7, 17, 18, 19, 20] (by decide +kernel) (by decide +kernel)
set_option maxRecDepth 20000 in
theorem gX9_tree_X9_isTreeQuestion : GoodIn wsX9_tree (va_wsS RX9 118 yX9_isTreeQuestion wsX9_isTreeQuestion) := goodIn_app (goodIn_of _ (by decide +kernel)) ggX9_tree_X9_isTreeQuestion
set_option maxRecDepth 20000 in
theorem ggX9_tree_X9_areTold : GoodIn wsX9_tree wsX9_areTold := goodIn_r _ [24, 25, 26, 195, 196, 197, 198, 199, 205, 206, 207, 208, 209, 210] (by decide +kernel) (by decide +kernel)
set_option maxRecDepth 20000 in
theorem gX9_tree_X9_areTold : GoodIn wsX9_tree (wsV RX9 122 RX9 yX9_areTold wsX9_areTold) := goodIn_app (goodIn_of _ (by decide +kernel)) ggX9_tree_X9_areTold
set_option maxRecDepth 20000 in
theorem ggX9_tree_X8_init : GoodIn wsX9_tree wsX8_init := goodIn_r _ [28, 29, 30, 31, 32, 33, 34, 35, 200, 201, 202, 203, 204] (by decide +kernel) (by decide +kernel)
set_option maxRecDepth 20000 in
theorem gX9_tree_X8_init_n131 : GoodIn wsX9_tree (wsX8_init) := ggX9_tree_X8_init
set_option maxRecDepth 20000 in
theorem ggX9_tree_X9_isOf : GoodIn wsX9_tree wsX9_isOf := goodIn_r _ [17, 18, 19, 7, 20] (by decide +kernel) (by decide +kernel)
set_option maxRecDepth 20000 in
theorem gX9_tree_X9_isOf : GoodIn wsX9_tree (va_wsS RX9 132 yX9_isOf wsX9_isOf) := goodIn_app (goodIn_of _ (by decide +kernel)) ggX9_tree_X9_isOf
set_option maxRecDepth 20000 in
theorem ggX9_tree_X9_noteAllTo : GoodIn wsX9_tree wsX9_noteAllTo := goodIn_r _ [39, 1, 25, 40, 41, 42, 7, 43, 44, 45, 46, 47, 48, 49, 50, 51, 52, 53, 54, 55, 56, 57, 58, 59, 60, 61, 62, 63, 64, 65, 66, 67, 68, 69, 70, 71, 72, 73, 74, 75, 76, 77, 78, 79, 30, 31, 80, 81, 32, 82, 83, 84, 85, 86, 87, 88, 89, 90, 91, 92, 93, 94, 95, 96, 97, 98, 99, 100, 101, 102, 103, 104, 105, 106, 107, 108, 109, 110, 111, 112, 113, 114, 115, 116, 117, 118, 119, 120, 121, 122, 123, 124, 125, 126, 127, 128, 129, 130, 131, 132, 133, 15, 16, 17, 18, 19, 20, 134, 135, 136, 137, 138, 139, 140, 141, 142, 143, 144, 145, 146, 147, 148, 149, 150, 151, 152, 153, 154, 155, 156, 157, 158, 159, 160, 4, 161, 33, 195, 196, 197, 198, 199, 205, 206, 207, 208, 209, 210, 211, 212, 213, 214, 215, 216, 217, 218, 219, 220, 200, 201, 202, 203, 204] (by decide +kernel) (by decide +kernel)
set_option maxRecDepth 20000 in
theorem gX9_tree_X9_noteAllTo : GoodIn wsX9_tree (wsV RX9 135 RX9 yX9_noteAllTo wsX9_noteAllTo) := goodIn_app (goodIn_of _ (by decide +kernel)) ggX9_tree_X9_noteAllTo
set_option maxRecDepth 20000 in
theorem ggX9_tree_X8_seek : GoodIn wsX9_tree wsX8_seek := goodIn_r _ [165, 166, 167, 34, 168, 169, 120, 170, 171, 172, 173, 4, 174, 175, 176, 177, 178, 35, 179, 180, 181, 182, 16, 7, 17, 18, 19, 20, 183, 184, 185, 186, 33, 187, 188, 189, 190, 200, 201, 202, 203, 204] (by decide +kernel) (by decide +kernel)
set_option maxRecDepth 20000 in
theorem gX9_tree_X8_seek : GoodIn wsX9_tree (wsV RX9 139 RX8 yX8_seek wsX8_seek) := goodIn_app (goodIn_of _ (by decide +kernel)) ggX9_tree_X8_seek
set_option maxRecDepth 20000 in
theorem ggX9_tree_X8_answer : GoodIn wsX9_tree wsX8_answer := goodIn_r _ [194, 166, 167, 35, 19, 7, 20, 200, 201, 202, 203, 204] (by decide +kernel) (by decide +kernel)
set_option maxRecDepth 20000 in
theorem gX9_tree_X8_answer : GoodIn wsX9_tree (wsV RX9 143 RX8 yX8_answer wsX8_answer) := goodIn_app (goodIn_of _ (by decide +kernel)) ggX9_tree_X8_answer
theorem dX9_tree_0 : decode cX9_tree 0 = .ok (.iload_n 2, 1) := by decide +kernel
theorem dX9_tree_1 : decode cX9_tree 1 = .ok (.invokestatic 79, 3) := by decide +kernel
theorem dX9_tree_4 : decode cX9_tree 4 = .ok (.ifCond .ne 5, 3) := by decide +kernel
theorem dX9_tree_7 : decode cX9_tree 7 = .ok (.iconst (-1), 1) := by decide +kernel
theorem dX9_tree_8 : decode cX9_tree 8 = .ok (.ireturn, 1) := by decide +kernel
theorem dX9_tree_9 : decode cX9_tree 9 = .ok (.iload_n 1, 1) := by decide +kernel
theorem dX9_tree_10 : decode cX9_tree 10 = .ok (.invokestatic 115, 3) := by decide +kernel
theorem dX9_tree_13 : decode cX9_tree 13 = .ok (.ifCond .eq 11, 3) := by decide +kernel
theorem dX9_tree_16 : decode cX9_tree 16 = .ok (.iload_n 1, 1) := by decide +kernel
theorem dX9_tree_17 : decode cX9_tree 17 = .ok (.iload_n 3, 1) := by decide +kernel
theorem dX9_tree_18 : decode cX9_tree 18 = .ok (.invokestatic 118, 3) := by decide +kernel
theorem dX9_tree_21 : decode cX9_tree 21 = .ok (.ifCond .ne 6, 3) := by decide +kernel
theorem dX9_tree_24 : decode cX9_tree 24 = .ok (.bipush (-2), 2) := by decide +kernel
theorem dX9_tree_26 : decode cX9_tree 26 = .ok (.ireturn, 1) := by decide +kernel
theorem dX9_tree_27 : decode cX9_tree 27 = .ok (.aload_n 0, 1) := by decide +kernel
theorem dX9_tree_28 : decode cX9_tree 28 = .ok (.iload_n 1, 1) := by decide +kernel
theorem dX9_tree_29 : decode cX9_tree 29 = .ok (.invokevirtual 122, 3) := by decide +kernel
theorem dX9_tree_32 : decode cX9_tree 32 = .ok (.ifCond .ne 6, 3) := by decide +kernel
theorem dX9_tree_35 : decode cX9_tree 35 = .ok (.bipush (-3), 2) := by decide +kernel
theorem dX9_tree_37 : decode cX9_tree 37 = .ok (.ireturn, 1) := by decide +kernel
theorem dX9_tree_38 : decode cX9_tree 38 = .ok (.aload_n 0, 1) := by decide +kernel
theorem dX9_tree_39 : decode cX9_tree 39 = .ok (.getfield 125, 3) := by decide +kernel
theorem dX9_tree_42 : decode cX9_tree 42 = .ok (.ifnonnull 14, 3) := by decide +kernel
theorem dX9_tree_45 : decode cX9_tree 45 = .ok (.aload_n 0, 1) := by decide +kernel
theorem dX9_tree_46 : decode cX9_tree 46 = .ok (.new 129, 3) := by decide +kernel
theorem dX9_tree_49 : decode cX9_tree 49 = .ok (.dup, 1) := by decide +kernel
theorem dX9_tree_50 : decode cX9_tree 50 = .ok (.invokespecial 131, 3) := by decide +kernel
theorem dX9_tree_53 : decode cX9_tree 53 = .ok (.putfield 125, 3) := by decide +kernel
theorem dX9_tree_56 : decode cX9_tree 56 = .ok (.iconst 0, 1) := by decide +kernel
theorem dX9_tree_57 : decode cX9_tree 57 = .ok (.istore 4, 2) := by decide +kernel
theorem dX9_tree_59 : decode cX9_tree 59 = .ok (.iload 4, 2) := by decide +kernel
theorem dX9_tree_61 : decode cX9_tree 61 = .ok (.bipush 6, 2) := by decide +kernel
theorem dX9_tree_63 : decode cX9_tree 63 = .ok (.if_icmp .ge 26, 3) := by decide +kernel
theorem dX9_tree_66 : decode cX9_tree 66 = .ok (.iload_n 1, 1) := by decide +kernel
theorem dX9_tree_67 : decode cX9_tree 67 = .ok (.iload 4, 2) := by decide +kernel
theorem dX9_tree_69 : decode cX9_tree 69 = .ok (.invokestatic 132, 3) := by decide +kernel
theorem dX9_tree_72 : decode cX9_tree 72 = .ok (.ifCond .eq 11, 3) := by decide +kernel
theorem dX9_tree_75 : decode cX9_tree 75 = .ok (.aload_n 0, 1) := by decide +kernel
theorem dX9_tree_76 : decode cX9_tree 76 = .ok (.iload 4, 2) := by decide +kernel
theorem dX9_tree_78 : decode cX9_tree 78 = .ok (.iload_n 1, 1) := by decide +kernel
theorem dX9_tree_79 : decode cX9_tree 79 = .ok (.iload_n 2, 1) := by decide +kernel
theorem dX9_tree_80 : decode cX9_tree 80 = .ok (.invokevirtual 135, 3) := by decide +kernel
theorem dX9_tree_83 : decode cX9_tree 83 = .ok (.iinc 4 1, 3) := by decide +kernel
theorem dX9_tree_86 : decode cX9_tree 86 = .ok (.goto (-27), 3) := by decide +kernel
theorem dX9_tree_89 : decode cX9_tree 89 = .ok (.aload_n 0, 1) := by decide +kernel
theorem dX9_tree_90 : decode cX9_tree 90 = .ok (.getfield 125, 3) := by decide +kernel
theorem dX9_tree_93 : decode cX9_tree 93 = .ok (.iload_n 1, 1) := by decide +kernel
theorem dX9_tree_94 : decode cX9_tree 94 = .ok (.invokevirtual 139, 3) := by decide +kernel
theorem dX9_tree_97 : decode cX9_tree 97 = .ok (.aload_n 0, 1) := by decide +kernel
theorem dX9_tree_98 : decode cX9_tree 98 = .ok (.getfield 125, 3) := by decide +kernel
theorem dX9_tree_101 : decode cX9_tree 101 = .ok (.iload_n 3, 1) := by decide +kernel
theorem dX9_tree_102 : decode cX9_tree 102 = .ok (.invokevirtual 143, 3) := by decide +kernel
theorem dX9_tree_105 : decode cX9_tree 105 = .ok (.ireturn, 1) := by decide +kernel
set_option maxRecDepth 20000 in
theorem ggX9_lost_X9_isHand : GoodIn wsX9_lost wsX9_isHand := goodIn_r _ [6] (by decide +kernel) (by decide +kernel)
set_option maxRecDepth 20000 in
theorem gX9_lost_X9_isHand : GoodIn wsX9_lost (va_wsS RX9 79 yX9_isHand wsX9_isHand) := goodIn_app (goodIn_of _ (by decide +kernel)) ggX9_lost_X9_isHand
set_option maxRecDepth 20000 in
theorem ggX9_lost_X9_isSet : GoodIn wsX9_lost wsX9_isSet := goodIn_r _ [9] (by decide +kernel) (by decide +kernel)
set_option maxRecDepth 20000 in
theorem gX9_lost_X9_isSet : GoodIn wsX9_lost (va_wsS RX9 115 yX9_isSet wsX9_isSet) := goodIn_app (goodIn_of _ (by decide +kernel)) ggX9_lost_X9_isSet
set_option maxRecDepth 20000 in
theorem ggX9_lost_X9_areTold : GoodIn wsX9_lost wsX9_areTold := goodIn_r _ [13, 1, 14, 177, 178, 179, 180, 181, 182, 183, 184, 185, 186, 187] (by decide +kernel) (by decide +kernel)
set_option maxRecDepth 20000 in
theorem gX9_lost_X9_areTold : GoodIn wsX9_lost (wsV RX9 122 RX9 yX9_areTold wsX9_areTold) := goodIn_app (goodIn_of _ (by decide +kernel)) ggX9_lost_X9_areTold
set_option maxRecDepth 20000 in
theorem ggX9_lost_X9_readySearch : GoodIn wsX9_lost wsX9_readySearch := goodIn_r _ [18, 19, 20, 21, 22, 23, 24, 25, 26, 27, 28, 29, 30, 31, 177, 178, 179, 180, 181, 188, 189, 190] (by decide +kernel) (by decide +kernel)
set_option maxRecDepth 20000 in
theorem gX9_lost_X9_readySearch : GoodIn wsX9_lost (wsV RX9 146 RX9 yX9_readySearch wsX9_readySearch) := goodIn_app (goodIn_of _ (by decide +kernel)) ggX9_lost_X9_readySearch
set_option maxRecDepth 20000 in
theorem ggX9_lost_X4_clearSums : GoodIn wsX9_lost wsX4_clearSums := goodIn_r _ [35, 31, 36, 37, 38, 39, 188, 189, 190] (by decide +kernel) (by decide +kernel)
set_option maxRecDepth 20000 in
theorem gX9_lost_X4_clearSums : GoodIn wsX9_lost (wsV RX9 150 RX4 yX4_clearSums wsX4_clearSums) := goodIn_app (goodIn_of _ (by decide +kernel)) ggX9_lost_X4_clearSums
set_option maxRecDepth 20000 in
theorem ggX9_lost_X9_isOf : GoodIn wsX9_lost wsX9_isOf := goodIn_r _ [42, 43, 44, 5, 45] (by decide +kernel) (by decide +kernel)
set_option maxRecDepth 20000 in
theorem gX9_lost_X9_isOf : GoodIn wsX9_lost (va_wsS RX9 132 yX9_isOf wsX9_isOf) := goodIn_app (goodIn_of _ (by decide +kernel)) ggX9_lost_X9_isOf
set_option maxRecDepth 20000 in
theorem ggX9_lost_X9_tableOf : GoodIn wsX9_lost wsX9_tableOf := goodIn_r _ [49, 1, 2, 50, 51, 52, 53, 54, 55, 56, 57, 58, 59, 60, 61, 62, 63, 64, 65, 66, 67, 68, 69, 70, 71, 72, 73, 15, 16, 17, 5, 18, 19, 20, 21, 22, 23, 24, 25, 26, 27, 28, 29, 30, 31, 74, 75, 76, 77, 78, 79, 80, 81, 82, 83, 84, 85, 86, 87, 88, 89, 90, 91, 92, 93, 94, 95, 96, 97, 98, 99, 100, 101, 102, 103, 104, 105, 106, 107, 108, 109, 110, 38, 111, 112, 113, 114, 115, 116, 117, 118, 119, 120, 121, 122, 123, 177, 178, 179, 180, 181, 182, 183, 184, 185, 186, 187, 188, 189, 190, 191, 192, 193, 194, 195, 196, 197] (by decide +kernel) (by decide +kernel)
set_option maxRecDepth 20000 in
theorem gX9_lost_X9_tableOf : GoodIn wsX9_lost (wsV RX9 102 RX9 yX9_tableOf wsX9_tableOf) := goodIn_app (goodIn_of _ (by decide +kernel)) ggX9_lost_X9_tableOf
set_option maxRecDepth 20000 in
theorem ggX9_lost_X4_addToSums : GoodIn wsX9_lost wsX4_addToSums := goodIn_r _ [127, 31, 128, 129, 130, 86, 131, 132, 133, 134, 135, 90, 107, 108, 102, 136, 137, 62, 138, 64, 65, 66, 67, 139, 140, 141, 142, 101, 143, 144, 145, 146, 89, 123, 147, 69, 70, 148, 149, 150, 151, 116, 117, 118, 119, 152, 188, 189, 190, 191, 192, 193, 194, 195, 196, 197] (by decide +kernel) (by decide +kernel)
set_option maxRecDepth 20000 in
theorem gX9_lost_X4_addToSums : GoodIn wsX9_lost (wsV RX9 155 RX4 yX4_addToSums wsX4_addToSums) := goodIn_app (goodIn_of _ (by decide +kernel)) ggX9_lost_X4_addToSums
set_option maxRecDepth 20000 in
theorem ggX9_lost_X4_firstOfLeastSum : GoodIn wsX9_lost wsX4_firstOfLeastSum := goodIn_r _ [156, 157, 158, 159, 160, 31, 161, 65, 62, 66, 67, 162, 163, 164, 22, 165, 188, 189, 190] (by decide +kernel) (by decide +kernel)
set_option maxRecDepth 20000 in
theorem gX9_lost_X4_firstOfLeastSum : GoodIn wsX9_lost (wsV RX9 159 RX4 yX4_firstOfLeastSum wsX4_firstOfLeastSum) := goodIn_app (goodIn_of _ (by decide +kernel)) ggX9_lost_X4_firstOfLeastSum
set_option maxRecDepth 20000 in
theorem ggX9_lost_X4_sumOf : GoodIn wsX9_lost wsX4_sumOf := goodIn_r _ [165, 31, 188, 189, 190] (by decide +kernel) (by decide +kernel)
set_option maxRecDepth 20000 in
theorem gX9_lost_X4_sumOf : GoodIn wsX9_lost (wsV RX9 162 RX4 yX4_sumOf wsX4_sumOf) := goodIn_app (goodIn_of _ (by decide +kernel)) ggX9_lost_X4_sumOf
set_option maxRecDepth 20000 in
theorem ggX9_lost_X9_isSite : GoodIn wsX9_lost wsX9_isSite := goodIn_r _ [170, 1, 2, 177, 178, 179, 180, 181, 182, 183, 184, 185, 186, 187] (by decide +kernel) (by decide +kernel)
set_option maxRecDepth 20000 in
theorem gX9_lost_X9_isSite : GoodIn wsX9_lost (wsV RX9 59 RX9 yX9_isSite wsX9_isSite) := goodIn_app (goodIn_of _ (by decide +kernel)) ggX9_lost_X9_isSite
set_option maxRecDepth 20000 in
theorem ggX9_lost_X1_signAt : GoodIn wsX9_lost wsX1_signAt := goodIn_r _ [63, 64, 65, 62, 66, 67, 68, 69, 70] (by decide +kernel) (by decide +kernel)
set_option maxRecDepth 20000 in
theorem gX9_lost_X1_signAt : GoodIn wsX9_lost (va_wsS RX9 69 yX1_signAt wsX1_signAt) := goodIn_app (goodIn_of _ (by decide +kernel)) ggX9_lost_X1_signAt
set_option maxRecDepth 20000 in
theorem ggX9_lost_X5_written : GoodIn wsX9_lost wsX5_written := goodIn_r _ [175, 176] (by decide +kernel) (by decide +kernel)
set_option maxRecDepth 20000 in
theorem gX9_lost_X5_written : GoodIn wsX9_lost (va_wsS RX9 74 yX5_written wsX5_written) := goodIn_app (goodIn_of _ (by decide +kernel)) ggX9_lost_X5_written
theorem dX9_lost_0 : decode cX9_lost 0 = .ok (.iload_n 2, 1) := by decide +kernel
theorem dX9_lost_1 : decode cX9_lost 1 = .ok (.invokestatic 79, 3) := by decide +kernel
theorem dX9_lost_4 : decode cX9_lost 4 = .ok (.ifCond .ne 5, 3) := by decide +kernel
theorem dX9_lost_7 : decode cX9_lost 7 = .ok (.iconst (-1), 1) := by decide +kernel
theorem dX9_lost_8 : decode cX9_lost 8 = .ok (.ireturn, 1) := by decide +kernel
theorem dX9_lost_9 : decode cX9_lost 9 = .ok (.iload_n 1, 1) := by decide +kernel
theorem dX9_lost_10 : decode cX9_lost 10 = .ok (.invokestatic 115, 3) := by decide +kernel
theorem dX9_lost_13 : decode cX9_lost 13 = .ok (.ifCond .ne 6, 3) := by decide +kernel
theorem dX9_lost_16 : decode cX9_lost 16 = .ok (.bipush (-2), 2) := by decide +kernel
theorem dX9_lost_18 : decode cX9_lost 18 = .ok (.ireturn, 1) := by decide +kernel
theorem dX9_lost_19 : decode cX9_lost 19 = .ok (.aload_n 0, 1) := by decide +kernel
theorem dX9_lost_20 : decode cX9_lost 20 = .ok (.iload_n 1, 1) := by decide +kernel
theorem dX9_lost_21 : decode cX9_lost 21 = .ok (.invokevirtual 122, 3) := by decide +kernel
theorem dX9_lost_24 : decode cX9_lost 24 = .ok (.ifCond .ne 6, 3) := by decide +kernel
theorem dX9_lost_27 : decode cX9_lost 27 = .ok (.bipush (-3), 2) := by decide +kernel
theorem dX9_lost_29 : decode cX9_lost 29 = .ok (.ireturn, 1) := by decide +kernel
theorem dX9_lost_30 : decode cX9_lost 30 = .ok (.aload_n 0, 1) := by decide +kernel
theorem dX9_lost_31 : decode cX9_lost 31 = .ok (.invokevirtual 146, 3) := by decide +kernel
theorem dX9_lost_34 : decode cX9_lost 34 = .ok (.astore 4, 2) := by decide +kernel
theorem dX9_lost_36 : decode cX9_lost 36 = .ok (.aload 4, 2) := by decide +kernel
theorem dX9_lost_38 : decode cX9_lost 38 = .ok (.invokevirtual 150, 3) := by decide +kernel
theorem dX9_lost_41 : decode cX9_lost 41 = .ok (.iconst 0, 1) := by decide +kernel
theorem dX9_lost_42 : decode cX9_lost 42 = .ok (.istore 5, 2) := by decide +kernel
theorem dX9_lost_44 : decode cX9_lost 44 = .ok (.iload 5, 2) := by decide +kernel
theorem dX9_lost_46 : decode cX9_lost 46 = .ok (.bipush 6, 2) := by decide +kernel
theorem dX9_lost_48 : decode cX9_lost 48 = .ok (.if_icmp .ge 30, 3) := by decide +kernel
theorem dX9_lost_51 : decode cX9_lost 51 = .ok (.iload_n 1, 1) := by decide +kernel
theorem dX9_lost_52 : decode cX9_lost 52 = .ok (.iload 5, 2) := by decide +kernel
theorem dX9_lost_54 : decode cX9_lost 54 = .ok (.invokestatic 132, 3) := by decide +kernel
theorem dX9_lost_57 : decode cX9_lost 57 = .ok (.ifCond .eq 15, 3) := by decide +kernel
theorem dX9_lost_60 : decode cX9_lost 60 = .ok (.aload 4, 2) := by decide +kernel
theorem dX9_lost_62 : decode cX9_lost 62 = .ok (.aload_n 0, 1) := by decide +kernel
theorem dX9_lost_63 : decode cX9_lost 63 = .ok (.iload 5, 2) := by decide +kernel
theorem dX9_lost_65 : decode cX9_lost 65 = .ok (.iload_n 2, 1) := by decide +kernel
theorem dX9_lost_66 : decode cX9_lost 66 = .ok (.invokevirtual 102, 3) := by decide +kernel
theorem dX9_lost_69 : decode cX9_lost 69 = .ok (.invokevirtual 155, 3) := by decide +kernel
theorem dX9_lost_72 : decode cX9_lost 72 = .ok (.iinc 5 1, 3) := by decide +kernel
theorem dX9_lost_75 : decode cX9_lost 75 = .ok (.goto (-31), 3) := by decide +kernel
theorem dX9_lost_78 : decode cX9_lost 78 = .ok (.aload 4, 2) := by decide +kernel
theorem dX9_lost_80 : decode cX9_lost 80 = .ok (.aload_n 0, 1) := by decide +kernel
theorem dX9_lost_81 : decode cX9_lost 81 = .ok (.getfield 19, 3) := by decide +kernel
theorem dX9_lost_84 : decode cX9_lost 84 = .ok (.getfield 27, 3) := by decide +kernel
theorem dX9_lost_87 : decode cX9_lost 87 = .ok (.invokevirtual 159, 3) := by decide +kernel
theorem dX9_lost_90 : decode cX9_lost 90 = .ok (.istore 5, 2) := by decide +kernel
theorem dX9_lost_92 : decode cX9_lost 92 = .ok (.iload 5, 2) := by decide +kernel
theorem dX9_lost_94 : decode cX9_lost 94 = .ok (.ifCond .ge 6, 3) := by decide +kernel
theorem dX9_lost_97 : decode cX9_lost 97 = .ok (.bipush (-6), 2) := by decide +kernel
theorem dX9_lost_99 : decode cX9_lost 99 = .ok (.ireturn, 1) := by decide +kernel
theorem dX9_lost_100 : decode cX9_lost 100 = .ok (.iload_n 3, 1) := by decide +kernel
theorem dX9_lost_101 : decode cX9_lost 101 = .ok (.iconst (-1), 1) := by decide +kernel
theorem dX9_lost_102 : decode cX9_lost 102 = .ok (.if_icmp .ne 11, 3) := by decide +kernel
theorem dX9_lost_105 : decode cX9_lost 105 = .ok (.aload 4, 2) := by decide +kernel
theorem dX9_lost_107 : decode cX9_lost 107 = .ok (.iload 5, 2) := by decide +kernel
theorem dX9_lost_109 : decode cX9_lost 109 = .ok (.invokevirtual 162, 3) := by decide +kernel
theorem dX9_lost_112 : decode cX9_lost 112 = .ok (.ireturn, 1) := by decide +kernel
theorem dX9_lost_113 : decode cX9_lost 113 = .ok (.aload_n 0, 1) := by decide +kernel
theorem dX9_lost_114 : decode cX9_lost 114 = .ok (.iload_n 3, 1) := by decide +kernel
theorem dX9_lost_115 : decode cX9_lost 115 = .ok (.invokevirtual 59, 3) := by decide +kernel
theorem dX9_lost_118 : decode cX9_lost 118 = .ok (.ifCond .eq 15, 3) := by decide +kernel
theorem dX9_lost_121 : decode cX9_lost 121 = .ok (.iload 5, 2) := by decide +kernel
theorem dX9_lost_123 : decode cX9_lost 123 = .ok (.iload_n 3, 1) := by decide +kernel
theorem dX9_lost_124 : decode cX9_lost 124 = .ok (.invokestatic 69, 3) := by decide +kernel
theorem dX9_lost_127 : decode cX9_lost 127 = .ok (.invokestatic 74, 3) := by decide +kernel
theorem dX9_lost_130 : decode cX9_lost 130 = .ok (.goto 5, 3) := by decide +kernel
theorem dX9_lost_133 : decode cX9_lost 133 = .ok (.bipush (-6), 2) := by decide +kernel
theorem dX9_lost_135 : decode cX9_lost 135 = .ok (.ireturn, 1) := by decide +kernel
set_option maxRecDepth 20000 in
theorem ggX9_wished_X9_isMap : GoodIn wsX9_wished wsX9_isMap := goodIn_r _ [7] (by decide +kernel) (by decide +kernel)
set_option maxRecDepth 20000 in
theorem gX9_wished_X9_isMap : GoodIn wsX9_wished (va_wsS RX9 48 yX9_isMap wsX9_isMap) := goodIn_app (goodIn_of _ (by decide +kernel)) ggX9_wished_X9_isMap
set_option maxRecDepth 20000 in
theorem ggX9_wished_X9_isHand : GoodIn wsX9_wished wsX9_isHand := goodIn_r _ [10] (by decide +kernel) (by decide +kernel)
set_option maxRecDepth 20000 in
theorem gX9_wished_X9_isHand : GoodIn wsX9_wished (va_wsS RX9 79 yX9_isHand wsX9_isHand) := goodIn_app (goodIn_of _ (by decide +kernel)) ggX9_wished_X9_isHand
set_option maxRecDepth 20000 in
theorem ggX9_wished_X9_isTold : GoodIn wsX9_wished wsX9_isTold := goodIn_r _ [14, 1, 15, 16, 17, 6, 18, 4, 5, 7, 202, 203, 204, 205, 206, 207, 208, 209, 210, 211, 212] (by decide +kernel) (by decide +kernel)
set_option maxRecDepth 20000 in
theorem gX9_wished_X9_isTold : GoodIn wsX9_wished (wsV RX9 62 RX9 yX9_isTold wsX9_isTold) := goodIn_app (goodIn_of _ (by decide +kernel)) ggX9_wished_X9_isTold
set_option maxRecDepth 20000 in
theorem ggX9_wished_X2_firstWrong : GoodIn wsX9_wished wsX2_firstWrong := goodIn_r _ [23, 24, 25, 26, 27, 22, 28, 29, 30, 31, 32, 33, 34, 35, 36, 37, 38, 39, 40, 41, 42, 43, 44, 45, 46, 47, 48, 49, 50, 51, 52, 53, 54, 55, 56, 57, 58, 213, 214, 215] (by decide +kernel) (by decide +kernel)
set_option maxRecDepth 20000 in
theorem gX9_wished_X2_firstWrong : GoodIn wsX9_wished (wsV RX9 44 RX2 yX2_firstWrong wsX2_firstWrong) := goodIn_app (goodIn_of _ (by decide +kernel)) ggX9_wished_X2_firstWrong
set_option maxRecDepth 20000 in
theorem ggX9_wished_X3_codeOf : GoodIn wsX9_wished wsX3_codeOf := goodIn_r _ [63, 64, 207, 208, 209, 210, 211, 212] (by decide +kernel) (by decide +kernel)
set_option maxRecDepth 20000 in
theorem gX9_wished_X3_codeOf : GoodIn wsX9_wished (wsV RX9 65 RX3 yX3_codeOf wsX3_codeOf) := goodIn_app (goodIn_of _ (by decide +kernel)) ggX9_wished_X3_codeOf
set_option maxRecDepth 20000 in
theorem ggX9_wished_X9_goalPast : GoodIn wsX9_wished wsX9_goalPast := goodIn_r _ [68, 1, 2, 3, 69, 47, 48, 22, 49, 37, 38, 39, 40, 24, 41, 50, 51, 52, 53, 54, 70, 71, 72, 73, 74, 75, 76, 77, 78, 79, 80, 81, 82, 83, 84, 202, 203, 204, 205, 206, 207, 208, 209, 210, 211, 212, 213, 214, 215] (by decide +kernel) (by decide +kernel)
set_option maxRecDepth 20000 in
theorem gX9_wished_X9_goalPast : GoodIn wsX9_wished (wsV RX9 165 RX9 yX9_goalPast wsX9_goalPast) := goodIn_app (goodIn_of _ (by decide +kernel)) ggX9_wished_X9_goalPast
set_option maxRecDepth 20000 in
theorem ggX9_wished_X9_readySearch : GoodIn wsX9_wished wsX9_readySearch := goodIn_r _ [88, 89, 90, 91, 92, 93, 94, 95, 96, 97, 98, 99, 100, 101, 202, 203, 204, 205, 206, 216, 217, 218] (by decide +kernel) (by decide +kernel)
set_option maxRecDepth 20000 in
theorem gX9_wished_X9_readySearch : GoodIn wsX9_wished (wsV RX9 146 RX9 yX9_readySearch wsX9_readySearch) := goodIn_app (goodIn_of _ (by decide +kernel)) ggX9_wished_X9_readySearch
set_option maxRecDepth 20000 in
theorem ggX9_wished_X3_kindsOf : GoodIn wsX9_wished wsX3_kindsOf := goodIn_r _ [105, 106, 207, 208, 209, 210, 211, 212] (by decide +kernel) (by decide +kernel)
set_option maxRecDepth 20000 in
theorem gX9_wished_X3_kindsOf : GoodIn wsX9_wished (wsV RX9 82 RX3 yX3_kindsOf wsX3_kindsOf) := goodIn_app (goodIn_of _ (by decide +kernel)) ggX9_wished_X3_kindsOf
set_option maxRecDepth 20000 in
theorem ggX9_wished_X4_toward : GoodIn wsX9_wished wsX4_toward := goodIn_r _ [110, 99, 111, 112, 113, 114, 115, 116, 117, 118, 119, 120, 121, 92, 122, 123, 98, 124, 125, 126, 127, 96, 97, 128, 129, 100, 130, 131, 132, 133, 134, 135, 136, 137, 138, 139, 140, 141, 142, 143, 144, 145, 146, 147, 148, 149, 150, 83, 151, 152, 75, 72, 76, 77, 216, 217, 218, 219, 220, 221, 222, 223, 224, 225] (by decide +kernel) (by decide +kernel)
set_option maxRecDepth 20000 in
theorem gX9_wished_X4_toward : GoodIn wsX9_wished (wsV RX9 168 RX4 yX4_toward wsX4_toward) := goodIn_app (goodIn_of _ (by decide +kernel)) ggX9_wished_X4_toward
set_option maxRecDepth 20000 in
theorem ggX9_wished_X9_rowAnswer : GoodIn wsX9_wished wsX9_rowAnswer := goodIn_r _ [156, 1, 157, 158, 159, 114, 160, 161, 162, 163, 164, 118, 135, 136, 130, 165, 166, 72, 167, 74, 75, 76, 77, 168, 169, 170, 171, 129, 172, 173, 174, 175, 117, 152, 176, 79, 80, 177, 178, 179, 180, 145, 146, 147, 148, 102, 103, 104, 62, 105, 106, 181, 182, 183, 6, 184, 2, 185, 186, 187, 44, 188, 189, 190, 191, 192, 193, 43, 45, 194, 195, 196, 197, 71, 73, 78, 198, 199, 200, 201, 202, 203, 204, 205, 206, 219, 220, 221, 222, 223, 224, 225, 207, 208, 209, 210, 211, 212] (by decide +kernel) (by decide +kernel)
set_option maxRecDepth 20000 in
theorem gX9_wished_X9_rowAnswer : GoodIn wsX9_wished (wsV RX9 106 RX9 yX9_rowAnswer wsX9_rowAnswer) := goodIn_app (goodIn_of _ (by decide +kernel)) ggX9_wished_X9_rowAnswer
theorem dX9_wished_0 : decode cX9_wished 0 = .ok (.iload_n 1, 1) := by decide +kernel
theorem dX9_wished_1 : decode cX9_wished 1 = .ok (.invokestatic 48, 3) := by decide +kernel
theorem dX9_wished_4 : decode cX9_wished 4 = .ok (.ifCond .eq 10, 3) := by decide +kernel
theorem dX9_wished_7 : decode cX9_wished 7 = .ok (.iload_n 2, 1) := by decide +kernel
theorem dX9_wished_8 : decode cX9_wished 8 = .ok (.invokestatic 79, 3) := by decide +kernel
theorem dX9_wished_11 : decode cX9_wished 11 = .ok (.ifCond .ne 5, 3) := by decide +kernel
theorem dX9_wished_14 : decode cX9_wished 14 = .ok (.iconst (-1), 1) := by decide +kernel
theorem dX9_wished_15 : decode cX9_wished 15 = .ok (.ireturn, 1) := by decide +kernel
theorem dX9_wished_16 : decode cX9_wished 16 = .ok (.iload_n 3, 1) := by decide +kernel
theorem dX9_wished_17 : decode cX9_wished 17 = .ok (.ifCond .lt 16, 3) := by decide +kernel
theorem dX9_wished_20 : decode cX9_wished 20 = .ok (.iload_n 3, 1) := by decide +kernel
theorem dX9_wished_21 : decode cX9_wished 21 = .ok (.iconst 1, 1) := by decide +kernel
theorem dX9_wished_22 : decode cX9_wished 22 = .ok (.aload_n 0, 1) := by decide +kernel
theorem dX9_wished_23 : decode cX9_wished 23 = .ok (.getfield 19, 3) := by decide +kernel
theorem dX9_wished_26 : decode cX9_wished 26 = .ok (.getfield 27, 3) := by decide +kernel
theorem dX9_wished_29 : decode cX9_wished 29 = .ok (.ishl, 1) := by decide +kernel
theorem dX9_wished_30 : decode cX9_wished 30 = .ok (.if_icmp .lt 6, 3) := by decide +kernel
theorem dX9_wished_33 : decode cX9_wished 33 = .ok (.bipush (-2), 2) := by decide +kernel
theorem dX9_wished_35 : decode cX9_wished 35 = .ok (.ireturn, 1) := by decide +kernel
theorem dX9_wished_36 : decode cX9_wished 36 = .ok (.aload_n 0, 1) := by decide +kernel
theorem dX9_wished_37 : decode cX9_wished 37 = .ok (.iload_n 1, 1) := by decide +kernel
theorem dX9_wished_38 : decode cX9_wished 38 = .ok (.invokevirtual 62, 3) := by decide +kernel
theorem dX9_wished_41 : decode cX9_wished 41 = .ok (.ifCond .ne 6, 3) := by decide +kernel
theorem dX9_wished_44 : decode cX9_wished 44 = .ok (.bipush (-3), 2) := by decide +kernel
theorem dX9_wished_46 : decode cX9_wished 46 = .ok (.ireturn, 1) := by decide +kernel
theorem dX9_wished_47 : decode cX9_wished 47 = .ok (.aload_n 0, 1) := by decide +kernel
theorem dX9_wished_48 : decode cX9_wished 48 = .ok (.getfield 10, 3) := by decide +kernel
theorem dX9_wished_51 : decode cX9_wished 51 = .ok (.iconst 2, 1) := by decide +kernel
theorem dX9_wished_52 : decode cX9_wished 52 = .ok (.aload_n 0, 1) := by decide +kernel
theorem dX9_wished_53 : decode cX9_wished 53 = .ok (.getfield 19, 3) := by decide +kernel
theorem dX9_wished_56 : decode cX9_wished 56 = .ok (.getfield 27, 3) := by decide +kernel
theorem dX9_wished_59 : decode cX9_wished 59 = .ok (.invokevirtual 44, 3) := by decide +kernel
theorem dX9_wished_62 : decode cX9_wished 62 = .ok (.bipush (-6), 2) := by decide +kernel
theorem dX9_wished_64 : decode cX9_wished 64 = .ok (.if_icmp .eq 6, 3) := by decide +kernel
theorem dX9_wished_67 : decode cX9_wished 67 = .ok (.bipush (-5), 2) := by decide +kernel
theorem dX9_wished_69 : decode cX9_wished 69 = .ok (.ireturn, 1) := by decide +kernel
theorem dX9_wished_70 : decode cX9_wished 70 = .ok (.aload_n 0, 1) := by decide +kernel
theorem dX9_wished_71 : decode cX9_wished 71 = .ok (.getfield 19, 3) := by decide +kernel
theorem dX9_wished_74 : decode cX9_wished 74 = .ok (.iload_n 1, 1) := by decide +kernel
theorem dX9_wished_75 : decode cX9_wished 75 = .ok (.invokevirtual 65, 3) := by decide +kernel
theorem dX9_wished_78 : decode cX9_wished 78 = .ok (.istore 5, 2) := by decide +kernel
theorem dX9_wished_80 : decode cX9_wished 80 = .ok (.aload_n 0, 1) := by decide +kernel
theorem dX9_wished_81 : decode cX9_wished 81 = .ok (.iload_n 3, 1) := by decide +kernel
theorem dX9_wished_82 : decode cX9_wished 82 = .ok (.iload 5, 2) := by decide +kernel
theorem dX9_wished_84 : decode cX9_wished 84 = .ok (.invokevirtual 165, 3) := by decide +kernel
theorem dX9_wished_87 : decode cX9_wished 87 = .ok (.istore 6, 2) := by decide +kernel
theorem dX9_wished_89 : decode cX9_wished 89 = .ok (.iload 6, 2) := by decide +kernel
theorem dX9_wished_91 : decode cX9_wished 91 = .ok (.bipush (-6), 2) := by decide +kernel
theorem dX9_wished_93 : decode cX9_wished 93 = .ok (.if_icmp .ne 6, 3) := by decide +kernel
theorem dX9_wished_96 : decode cX9_wished 96 = .ok (.bipush (-6), 2) := by decide +kernel
theorem dX9_wished_98 : decode cX9_wished 98 = .ok (.ireturn, 1) := by decide +kernel
theorem dX9_wished_99 : decode cX9_wished 99 = .ok (.aload_n 0, 1) := by decide +kernel
theorem dX9_wished_100 : decode cX9_wished 100 = .ok (.invokevirtual 146, 3) := by decide +kernel
theorem dX9_wished_103 : decode cX9_wished 103 = .ok (.iload 6, 2) := by decide +kernel
theorem dX9_wished_105 : decode cX9_wished 105 = .ok (.aload_n 0, 1) := by decide +kernel
theorem dX9_wished_106 : decode cX9_wished 106 = .ok (.getfield 19, 3) := by decide +kernel
theorem dX9_wished_109 : decode cX9_wished 109 = .ok (.iload_n 2, 1) := by decide +kernel
theorem dX9_wished_110 : decode cX9_wished 110 = .ok (.invokevirtual 82, 3) := by decide +kernel
theorem dX9_wished_113 : decode cX9_wished 113 = .ok (.aload_n 0, 1) := by decide +kernel
theorem dX9_wished_114 : decode cX9_wished 114 = .ok (.getfield 19, 3) := by decide +kernel
theorem dX9_wished_117 : decode cX9_wished 117 = .ok (.getfield 27, 3) := by decide +kernel
theorem dX9_wished_120 : decode cX9_wished 120 = .ok (.invokevirtual 168, 3) := by decide +kernel
theorem dX9_wished_123 : decode cX9_wished 123 = .ok (.astore 7, 2) := by decide +kernel
theorem dX9_wished_125 : decode cX9_wished 125 = .ok (.aload_n 0, 1) := by decide +kernel
theorem dX9_wished_126 : decode cX9_wished 126 = .ok (.aload 7, 2) := by decide +kernel
theorem dX9_wished_128 : decode cX9_wished 128 = .ok (.iload 5, 2) := by decide +kernel
theorem dX9_wished_130 : decode cX9_wished 130 = .ok (.iload_n 2, 1) := by decide +kernel
theorem dX9_wished_131 : decode cX9_wished 131 = .ok (.iload 4, 2) := by decide +kernel
theorem dX9_wished_133 : decode cX9_wished 133 = .ok (.invokevirtual 106, 3) := by decide +kernel
theorem dX9_wished_136 : decode cX9_wished 136 = .ok (.ireturn, 1) := by decide +kernel
set_option maxRecDepth 20000 in
theorem ggX9_holds_X9_isSite : GoodIn wsX9_holds wsX9_isSite := goodIn_r _ [7, 1, 2, 59, 60, 61, 62, 63, 64, 65, 66, 67, 68, 69] (by decide +kernel) (by decide +kernel)
set_option maxRecDepth 20000 in
theorem gX9_holds_X9_isSite : GoodIn wsX9_holds (wsV RX9 59 RX9 yX9_isSite wsX9_isSite) := goodIn_app (goodIn_of _ (by decide +kernel)) ggX9_holds_X9_isSite
set_option maxRecDepth 20000 in
theorem ggX9_holds_X9_isSet : GoodIn wsX9_holds wsX9_isSet := goodIn_r _ [10] (by decide +kernel) (by decide +kernel)
set_option maxRecDepth 20000 in
theorem gX9_holds_X9_isSet : GoodIn wsX9_holds (va_wsS RX9 115 yX9_isSet wsX9_isSet) := goodIn_app (goodIn_of _ (by decide +kernel)) ggX9_holds_X9_isSet
set_option maxRecDepth 20000 in
theorem ggX9_holds_X9_areTold : GoodIn wsX9_holds wsX9_areTold := goodIn_r _ [14, 1, 15, 59, 60, 61, 62, 63, 64, 65, 66, 67, 68, 69] (by decide +kernel) (by decide +kernel)
set_option maxRecDepth 20000 in
theorem gX9_holds_X9_areTold : GoodIn wsX9_holds (wsV RX9 122 RX9 yX9_areTold wsX9_areTold) := goodIn_app (goodIn_of _ (by decide +kernel)) ggX9_holds_X9_areTold
set_option maxRecDepth 20000 in
theorem ggX9_holds_X9_mostAt : GoodIn wsX9_holds wsX9_mostAt := goodIn_r _ [19, 20, 21, 22, 6, 23, 1, 24, 25, 26, 27, 28, 29, 30, 31, 32, 33, 34, 35, 36, 37, 38, 39, 40, 41, 42, 43, 44, 45, 46, 59, 60, 61, 62, 63, 64, 65, 66, 67, 68, 69] (by decide +kernel) (by decide +kernel)
set_option maxRecDepth 20000 in
theorem gX9_holds_X9_mostAt : GoodIn wsX9_holds (wsV RX9 172 RX9 yX9_mostAt wsX9_mostAt) := goodIn_app (goodIn_of _ (by decide +kernel)) ggX9_holds_X9_mostAt
set_option maxRecDepth 20000 in
theorem ggX9_holds_X5_written : GoodIn wsX9_holds wsX5_written := goodIn_r _ [50, 51] (by decide +kernel) (by decide +kernel)
set_option maxRecDepth 20000 in
theorem gX9_holds_X5_written : GoodIn wsX9_holds (va_wsS RX9 74 yX5_written wsX5_written) := goodIn_app (goodIn_of _ (by decide +kernel)) ggX9_holds_X5_written
set_option maxRecDepth 20000 in
theorem ggX9_holds_X9_howMany : GoodIn wsX9_holds wsX9_howMany := goodIn_r _ [23, 1, 24, 25, 6, 26, 27, 28, 29, 30, 31, 32, 33, 34, 35, 36, 37, 38, 39, 40, 41, 42, 43, 44, 45, 46, 59, 60, 61, 62, 63, 64, 65, 66, 67, 68, 69] (by decide +kernel) (by decide +kernel)
set_option maxRecDepth 20000 in
theorem gX9_holds_X9_howMany : GoodIn wsX9_holds (wsV RX9 175 RX9 yX9_howMany wsX9_howMany) := goodIn_app (goodIn_of _ (by decide +kernel)) ggX9_holds_X9_howMany
set_option maxRecDepth 20000 in
theorem ggX9_holds_J6_bitCount_0f7a4 : GoodIn wsX9_holds wsJ6_bitCount_0f7a4 := goodIn_r _ [55, 56, 57, 58] (by decide +kernel) (by decide +kernel)
set_option maxRecDepth 20000 in
theorem gX9_holds_J6_bitCount_0f7a4 : GoodIn wsX9_holds (va_wsS RX9 179 yJ6_bitCount_0f7a4 wsJ6_bitCount_0f7a4) := goodIn_app (goodIn_of _ (by decide +kernel)) ggX9_holds_J6_bitCount_0f7a4
theorem dX9_holds_0 : decode cX9_holds 0 = .ok (.iload_n 2, 1) := by decide +kernel
theorem dX9_holds_1 : decode cX9_holds 1 = .ok (.iconst (-1), 1) := by decide +kernel
theorem dX9_holds_2 : decode cX9_holds 2 = .ok (.if_icmp .eq 13, 3) := by decide +kernel
theorem dX9_holds_5 : decode cX9_holds 5 = .ok (.aload_n 0, 1) := by decide +kernel
theorem dX9_holds_6 : decode cX9_holds 6 = .ok (.iload_n 2, 1) := by decide +kernel
theorem dX9_holds_7 : decode cX9_holds 7 = .ok (.invokevirtual 59, 3) := by decide +kernel
theorem dX9_holds_10 : decode cX9_holds 10 = .ok (.ifCond .ne 5, 3) := by decide +kernel
theorem dX9_holds_13 : decode cX9_holds 13 = .ok (.iconst (-1), 1) := by decide +kernel
theorem dX9_holds_14 : decode cX9_holds 14 = .ok (.ireturn, 1) := by decide +kernel
theorem dX9_holds_15 : decode cX9_holds 15 = .ok (.iload_n 1, 1) := by decide +kernel
theorem dX9_holds_16 : decode cX9_holds 16 = .ok (.invokestatic 115, 3) := by decide +kernel
theorem dX9_holds_19 : decode cX9_holds 19 = .ok (.ifCond .ne 6, 3) := by decide +kernel
theorem dX9_holds_22 : decode cX9_holds 22 = .ok (.bipush (-2), 2) := by decide +kernel
theorem dX9_holds_24 : decode cX9_holds 24 = .ok (.ireturn, 1) := by decide +kernel
theorem dX9_holds_25 : decode cX9_holds 25 = .ok (.aload_n 0, 1) := by decide +kernel
theorem dX9_holds_26 : decode cX9_holds 26 = .ok (.iload_n 1, 1) := by decide +kernel
theorem dX9_holds_27 : decode cX9_holds 27 = .ok (.invokevirtual 122, 3) := by decide +kernel
theorem dX9_holds_30 : decode cX9_holds 30 = .ok (.ifCond .ne 6, 3) := by decide +kernel
theorem dX9_holds_33 : decode cX9_holds 33 = .ok (.bipush (-3), 2) := by decide +kernel
theorem dX9_holds_35 : decode cX9_holds 35 = .ok (.ireturn, 1) := by decide +kernel
theorem dX9_holds_36 : decode cX9_holds 36 = .ok (.iload_n 2, 1) := by decide +kernel
theorem dX9_holds_37 : decode cX9_holds 37 = .ok (.iconst (-1), 1) := by decide +kernel
theorem dX9_holds_38 : decode cX9_holds 38 = .ok (.if_icmp .eq 13, 3) := by decide +kernel
theorem dX9_holds_41 : decode cX9_holds 41 = .ok (.aload_n 0, 1) := by decide +kernel
theorem dX9_holds_42 : decode cX9_holds 42 = .ok (.iload_n 1, 1) := by decide +kernel
theorem dX9_holds_43 : decode cX9_holds 43 = .ok (.iload_n 2, 1) := by decide +kernel
theorem dX9_holds_44 : decode cX9_holds 44 = .ok (.invokevirtual 172, 3) := by decide +kernel
theorem dX9_holds_47 : decode cX9_holds 47 = .ok (.invokestatic 74, 3) := by decide +kernel
theorem dX9_holds_50 : decode cX9_holds 50 = .ok (.ireturn, 1) := by decide +kernel
theorem dX9_holds_51 : decode cX9_holds 51 = .ok (.iconst 0, 1) := by decide +kernel
theorem dX9_holds_52 : decode cX9_holds 52 = .ok (.istore_n 3, 1) := by decide +kernel
theorem dX9_holds_53 : decode cX9_holds 53 = .ok (.iconst 0, 1) := by decide +kernel
theorem dX9_holds_54 : decode cX9_holds 54 = .ok (.istore 4, 2) := by decide +kernel
theorem dX9_holds_56 : decode cX9_holds 56 = .ok (.iload 4, 2) := by decide +kernel
theorem dX9_holds_58 : decode cX9_holds 58 = .ok (.aload_n 0, 1) := by decide +kernel
theorem dX9_holds_59 : decode cX9_holds 59 = .ok (.getfield 19, 3) := by decide +kernel
theorem dX9_holds_62 : decode cX9_holds 62 = .ok (.getfield 27, 3) := by decide +kernel
theorem dX9_holds_65 : decode cX9_holds 65 = .ok (.if_icmp .ge 41, 3) := by decide +kernel
theorem dX9_holds_68 : decode cX9_holds 68 = .ok (.aload_n 0, 1) := by decide +kernel
theorem dX9_holds_69 : decode cX9_holds 69 = .ok (.iload_n 1, 1) := by decide +kernel
theorem dX9_holds_70 : decode cX9_holds 70 = .ok (.iload 4, 2) := by decide +kernel
theorem dX9_holds_72 : decode cX9_holds 72 = .ok (.invokevirtual 172, 3) := by decide +kernel
theorem dX9_holds_75 : decode cX9_holds 75 = .ok (.istore 5, 2) := by decide +kernel
theorem dX9_holds_77 : decode cX9_holds 77 = .ok (.aload_n 0, 1) := by decide +kernel
theorem dX9_holds_78 : decode cX9_holds 78 = .ok (.iload_n 1, 1) := by decide +kernel
theorem dX9_holds_79 : decode cX9_holds 79 = .ok (.iload 4, 2) := by decide +kernel
theorem dX9_holds_81 : decode cX9_holds 81 = .ok (.iload 5, 2) := by decide +kernel
theorem dX9_holds_83 : decode cX9_holds 83 = .ok (.invokevirtual 175, 3) := by decide +kernel
theorem dX9_holds_86 : decode cX9_holds 86 = .ok (.iload_n 1, 1) := by decide +kernel
theorem dX9_holds_87 : decode cX9_holds 87 = .ok (.invokestatic 179, 3) := by decide +kernel
theorem dX9_holds_90 : decode cX9_holds 90 = .ok (.if_icmp .ne 10, 3) := by decide +kernel
theorem dX9_holds_93 : decode cX9_holds 93 = .ok (.iload_n 3, 1) := by decide +kernel
theorem dX9_holds_94 : decode cX9_holds 94 = .ok (.iconst 1, 1) := by decide +kernel
theorem dX9_holds_95 : decode cX9_holds 95 = .ok (.iload 4, 2) := by decide +kernel
theorem dX9_holds_97 : decode cX9_holds 97 = .ok (.ishl, 1) := by decide +kernel
theorem dX9_holds_98 : decode cX9_holds 98 = .ok (.ior, 1) := by decide +kernel
theorem dX9_holds_99 : decode cX9_holds 99 = .ok (.istore_n 3, 1) := by decide +kernel
theorem dX9_holds_100 : decode cX9_holds 100 = .ok (.iinc 4 1, 3) := by decide +kernel
theorem dX9_holds_103 : decode cX9_holds 103 = .ok (.goto (-47), 3) := by decide +kernel
theorem dX9_holds_106 : decode cX9_holds 106 = .ok (.iload_n 3, 1) := by decide +kernel
theorem dX9_holds_107 : decode cX9_holds 107 = .ok (.ireturn, 1) := by decide +kernel
theorem dX9_spades_0 : decode cX9_spades 0 = .ok (.iload_n 1, 1) := by decide +kernel
theorem dX9_spades_1 : decode cX9_spades 1 = .ok (.iconst 1, 1) := by decide +kernel
theorem dX9_spades_2 : decode cX9_spades 2 = .ok (.if_icmp .lt 9, 3) := by decide +kernel
theorem dX9_spades_5 : decode cX9_spades 5 = .ok (.iload_n 1, 1) := by decide +kernel
theorem dX9_spades_6 : decode cX9_spades 6 = .ok (.bipush 6, 2) := by decide +kernel
theorem dX9_spades_8 : decode cX9_spades 8 = .ok (.if_icmp .le 6, 3) := by decide +kernel
theorem dX9_spades_11 : decode cX9_spades 11 = .ok (.bipush (-2), 2) := by decide +kernel
theorem dX9_spades_13 : decode cX9_spades 13 = .ok (.ireturn, 1) := by decide +kernel
theorem dX9_spades_14 : decode cX9_spades 14 = .ok (.aload_n 0, 1) := by decide +kernel
theorem dX9_spades_15 : decode cX9_spades 15 = .ok (.getfield 19, 3) := by decide +kernel
theorem dX9_spades_18 : decode cX9_spades 18 = .ok (.getfield 184, 3) := by decide +kernel
theorem dX9_spades_21 : decode cX9_spades 21 = .ok (.istore_n 2, 1) := by decide +kernel
theorem dX9_spades_22 : decode cX9_spades 22 = .ok (.aload_n 0, 1) := by decide +kernel
theorem dX9_spades_23 : decode cX9_spades 23 = .ok (.getfield 19, 3) := by decide +kernel
theorem dX9_spades_26 : decode cX9_spades 26 = .ok (.iload_n 1, 1) := by decide +kernel
theorem dX9_spades_27 : decode cX9_spades 27 = .ok (.putfield 184, 3) := by decide +kernel
theorem dX9_spades_30 : decode cX9_spades 30 = .ok (.iload_n 2, 1) := by decide +kernel
theorem dX9_spades_31 : decode cX9_spades 31 = .ok (.ireturn, 1) := by decide +kernel
set_option maxRecDepth 20000 in
theorem ggX9_land_X9_isSite : GoodIn wsX9_land wsX9_isSite := goodIn_r _ [7, 1, 8, 25, 26, 27, 28, 29, 30, 31, 32, 33, 34, 35] (by decide +kernel) (by decide +kernel)
set_option maxRecDepth 20000 in
theorem gX9_land_X9_isSite : GoodIn wsX9_land (wsV RX9 59 RX9 yX9_isSite wsX9_isSite) := goodIn_app (goodIn_of _ (by decide +kernel)) ggX9_land_X9_isSite
set_option maxRecDepth 20000 in
theorem ggX9_land_X1_signAt : GoodIn wsX9_land wsX1_signAt := goodIn_r _ [12, 13, 14, 11, 15, 16, 17, 18, 19] (by decide +kernel) (by decide +kernel)
set_option maxRecDepth 20000 in
theorem gX9_land_X1_signAt : GoodIn wsX9_land (va_wsS RX9 69 yX1_signAt wsX1_signAt) := goodIn_app (goodIn_of _ (by decide +kernel)) ggX9_land_X1_signAt
set_option maxRecDepth 20000 in
theorem ggX9_land_X5_written : GoodIn wsX9_land wsX5_written := goodIn_r _ [23, 24] (by decide +kernel) (by decide +kernel)
set_option maxRecDepth 20000 in
theorem gX9_land_X5_written : GoodIn wsX9_land (va_wsS RX9 74 yX5_written wsX5_written) := goodIn_app (goodIn_of _ (by decide +kernel)) ggX9_land_X5_written
theorem dX9_land_0 : decode cX9_land 0 = .ok (.aload_n 0, 1) := by decide +kernel
theorem dX9_land_1 : decode cX9_land 1 = .ok (.iload_n 1, 1) := by decide +kernel
theorem dX9_land_2 : decode cX9_land 2 = .ok (.invokevirtual 59, 3) := by decide +kernel
theorem dX9_land_5 : decode cX9_land 5 = .ok (.ifCond .eq 20, 3) := by decide +kernel
theorem dX9_land_8 : decode cX9_land 8 = .ok (.aload_n 0, 1) := by decide +kernel
theorem dX9_land_9 : decode cX9_land 9 = .ok (.getfield 19, 3) := by decide +kernel
theorem dX9_land_12 : decode cX9_land 12 = .ok (.getfield 34, 3) := by decide +kernel
theorem dX9_land_15 : decode cX9_land 15 = .ok (.iload_n 1, 1) := by decide +kernel
theorem dX9_land_16 : decode cX9_land 16 = .ok (.invokestatic 69, 3) := by decide +kernel
theorem dX9_land_19 : decode cX9_land 19 = .ok (.invokestatic 74, 3) := by decide +kernel
theorem dX9_land_22 : decode cX9_land 22 = .ok (.goto 4, 3) := by decide +kernel
theorem dX9_land_25 : decode cX9_land 25 = .ok (.iconst (-1), 1) := by decide +kernel
theorem dX9_land_26 : decode cX9_land 26 = .ok (.ireturn, 1) := by decide +kernel
set_option maxRecDepth 20000 in
theorem ggX9_years_X9_isMap : GoodIn wsX9_years wsX9_isMap := goodIn_r _ [11] (by decide +kernel) (by decide +kernel)
set_option maxRecDepth 20000 in
theorem gX9_years_X9_isMap : GoodIn wsX9_years (va_wsS RX9 48 yX9_isMap wsX9_isMap) := goodIn_app (goodIn_of _ (by decide +kernel)) ggX9_years_X9_isMap
set_option maxRecDepth 20000 in
theorem ggX9_years_X9_isTold : GoodIn wsX9_years wsX9_isTold := goodIn_r _ [15, 1, 16, 17, 18, 10, 19, 8, 9, 11, 40, 41, 42, 43, 44, 45, 46, 47, 48, 49, 50] (by decide +kernel) (by decide +kernel)
set_option maxRecDepth 20000 in
theorem gX9_years_X9_isTold : GoodIn wsX9_years (wsV RX9 62 RX9 yX9_isTold wsX9_isTold) := goodIn_app (goodIn_of _ (by decide +kernel)) ggX9_years_X9_isTold
set_option maxRecDepth 20000 in
theorem ggX9_years_X3_codeOf : GoodIn wsX9_years wsX3_codeOf := goodIn_r _ [24, 25, 45, 46, 47, 48, 49, 50] (by decide +kernel) (by decide +kernel)
set_option maxRecDepth 20000 in
theorem gX9_years_X3_codeOf : GoodIn wsX9_years (wsV RX9 65 RX3 yX3_codeOf wsX3_codeOf) := goodIn_app (goodIn_of _ (by decide +kernel)) ggX9_years_X3_codeOf
set_option maxRecDepth 20000 in
theorem ggX9_years_X1_unlike : GoodIn wsX9_years wsX1_unlike := goodIn_r _ [29, 30, 31, 28, 32, 33, 34, 35, 36, 37, 38, 39] (by decide +kernel) (by decide +kernel)
set_option maxRecDepth 20000 in
theorem gX9_years_X1_unlike : GoodIn wsX9_years (va_wsS RX9 187 yX1_unlike wsX1_unlike) := goodIn_app (goodIn_of _ (by decide +kernel)) ggX9_years_X1_unlike
theorem dX9_years_0 : decode cX9_years 0 = .ok (.iload_n 1, 1) := by decide +kernel
theorem dX9_years_1 : decode cX9_years 1 = .ok (.invokestatic 48, 3) := by decide +kernel
theorem dX9_years_4 : decode cX9_years 4 = .ok (.ifCond .ne 5, 3) := by decide +kernel
theorem dX9_years_7 : decode cX9_years 7 = .ok (.iconst (-1), 1) := by decide +kernel
theorem dX9_years_8 : decode cX9_years 8 = .ok (.ireturn, 1) := by decide +kernel
theorem dX9_years_9 : decode cX9_years 9 = .ok (.aload_n 0, 1) := by decide +kernel
theorem dX9_years_10 : decode cX9_years 10 = .ok (.iload_n 1, 1) := by decide +kernel
theorem dX9_years_11 : decode cX9_years 11 = .ok (.invokevirtual 62, 3) := by decide +kernel
theorem dX9_years_14 : decode cX9_years 14 = .ok (.ifCond .ne 6, 3) := by decide +kernel
theorem dX9_years_17 : decode cX9_years 17 = .ok (.bipush (-3), 2) := by decide +kernel
theorem dX9_years_19 : decode cX9_years 19 = .ok (.ireturn, 1) := by decide +kernel
theorem dX9_years_20 : decode cX9_years 20 = .ok (.aload_n 0, 1) := by decide +kernel
theorem dX9_years_21 : decode cX9_years 21 = .ok (.getfield 19, 3) := by decide +kernel
theorem dX9_years_24 : decode cX9_years 24 = .ok (.getfield 34, 3) := by decide +kernel
theorem dX9_years_27 : decode cX9_years 27 = .ok (.aload_n 0, 1) := by decide +kernel
theorem dX9_years_28 : decode cX9_years 28 = .ok (.getfield 19, 3) := by decide +kernel
theorem dX9_years_31 : decode cX9_years 31 = .ok (.iload_n 1, 1) := by decide +kernel
theorem dX9_years_32 : decode cX9_years 32 = .ok (.invokevirtual 65, 3) := by decide +kernel
theorem dX9_years_35 : decode cX9_years 35 = .ok (.invokestatic 187, 3) := by decide +kernel
theorem dX9_years_38 : decode cX9_years 38 = .ok (.istore_n 2, 1) := by decide +kernel
theorem dX9_years_39 : decode cX9_years 39 = .ok (.iconst 1, 1) := by decide +kernel
theorem dX9_years_40 : decode cX9_years 40 = .ok (.aload_n 0, 1) := by decide +kernel
theorem dX9_years_41 : decode cX9_years 41 = .ok (.getfield 19, 3) := by decide +kernel
theorem dX9_years_44 : decode cX9_years 44 = .ok (.getfield 184, 3) := by decide +kernel
theorem dX9_years_47 : decode cX9_years 47 = .ok (.invokestatic 190, 3) := by decide +kernel
theorem dX9_years_50 : decode cX9_years 50 = .ok (.istore_n 3, 1) := by decide +kernel
theorem dX9_years_51 : decode cX9_years 51 = .ok (.iload_n 2, 1) := by decide +kernel
theorem dX9_years_52 : decode cX9_years 52 = .ok (.iload_n 3, 1) := by decide +kernel
theorem dX9_years_53 : decode cX9_years 53 = .ok (.iadd, 1) := by decide +kernel
theorem dX9_years_54 : decode cX9_years 54 = .ok (.iconst 1, 1) := by decide +kernel
theorem dX9_years_55 : decode cX9_years 55 = .ok (.isub, 1) := by decide +kernel
theorem dX9_years_56 : decode cX9_years 56 = .ok (.iload_n 3, 1) := by decide +kernel
theorem dX9_years_57 : decode cX9_years 57 = .ok (.idiv, 1) := by decide +kernel
theorem dX9_years_58 : decode cX9_years 58 = .ok (.ireturn, 1) := by decide +kernel
set_option maxRecDepth 20000 in
theorem ggX9_follow_X9_isMap : GoodIn wsX9_follow wsX9_isMap := goodIn_r _ [8] (by decide +kernel) (by decide +kernel)
set_option maxRecDepth 20000 in
theorem gX9_follow_X9_isMap : GoodIn wsX9_follow (va_wsS RX9 48 yX9_isMap wsX9_isMap) := goodIn_app (goodIn_of _ (by decide +kernel)) ggX9_follow_X9_isMap
set_option maxRecDepth 20000 in
theorem ggX9_follow_X9_isTold : GoodIn wsX9_follow wsX9_isTold := goodIn_r _ [12, 1, 13, 14, 15, 7, 16, 5, 6, 8, 41, 42, 43, 44, 45, 46, 47, 48, 49, 50, 51] (by decide +kernel) (by decide +kernel)
set_option maxRecDepth 20000 in
theorem gX9_follow_X9_isTold : GoodIn wsX9_follow (wsV RX9 62 RX9 yX9_isTold wsX9_isTold) := goodIn_app (goodIn_of _ (by decide +kernel)) ggX9_follow_X9_isTold
set_option maxRecDepth 20000 in
theorem ggX9_follow_X3_codeOf : GoodIn wsX9_follow wsX3_codeOf := goodIn_r _ [21, 22, 46, 47, 48, 49, 50, 51] (by decide +kernel) (by decide +kernel)
set_option maxRecDepth 20000 in
theorem gX9_follow_X3_codeOf : GoodIn wsX9_follow (wsV RX9 65 RX3 yX3_codeOf wsX3_codeOf) := goodIn_app (goodIn_of _ (by decide +kernel)) ggX9_follow_X3_codeOf
set_option maxRecDepth 20000 in
theorem ggX9_follow_X1_signAt : GoodIn wsX9_follow wsX1_signAt := goodIn_r _ [26, 27, 28, 25, 29, 30, 31, 32, 33] (by decide +kernel) (by decide +kernel)
set_option maxRecDepth 20000 in
theorem gX9_follow_X1_signAt : GoodIn wsX9_follow (va_wsS RX9 69 yX1_signAt wsX1_signAt) := goodIn_app (goodIn_of _ (by decide +kernel)) ggX9_follow_X1_signAt
set_option maxRecDepth 20000 in
theorem ggX9_follow_X1_with : GoodIn wsX9_follow wsX1_with := goodIn_r _ [36, 37, 24, 25, 26, 27, 28, 29, 30, 31, 32, 33] (by decide +kernel) (by decide +kernel)
set_option maxRecDepth 20000 in
theorem gX9_follow_X1_with : GoodIn wsX9_follow (va_wsS RX9 195 yX1_with wsX1_with) := goodIn_app (goodIn_of _ (by decide +kernel)) ggX9_follow_X1_with
set_option maxRecDepth 20000 in
theorem ggX9_follow_X1_unlike : GoodIn wsX9_follow wsX1_unlike := goodIn_r _ [40, 37, 24, 25, 26, 27, 28, 29, 30, 31, 32, 33] (by decide +kernel) (by decide +kernel)
set_option maxRecDepth 20000 in
theorem gX9_follow_X1_unlike : GoodIn wsX9_follow (va_wsS RX9 187 yX1_unlike wsX1_unlike) := goodIn_app (goodIn_of _ (by decide +kernel)) ggX9_follow_X1_unlike
theorem dX9_follow_0 : decode cX9_follow 0 = .ok (.iload_n 1, 1) := by decide +kernel
theorem dX9_follow_1 : decode cX9_follow 1 = .ok (.invokestatic 48, 3) := by decide +kernel
theorem dX9_follow_4 : decode cX9_follow 4 = .ok (.ifCond .ne 5, 3) := by decide +kernel
theorem dX9_follow_7 : decode cX9_follow 7 = .ok (.iconst (-1), 1) := by decide +kernel
theorem dX9_follow_8 : decode cX9_follow 8 = .ok (.ireturn, 1) := by decide +kernel
theorem dX9_follow_9 : decode cX9_follow 9 = .ok (.iload_n 2, 1) := by decide +kernel
theorem dX9_follow_10 : decode cX9_follow 10 = .ok (.ifCond .lt 9, 3) := by decide +kernel
theorem dX9_follow_13 : decode cX9_follow 13 = .ok (.iload_n 2, 1) := by decide +kernel
theorem dX9_follow_14 : decode cX9_follow 14 = .ok (.bipush 9, 2) := by decide +kernel
theorem dX9_follow_16 : decode cX9_follow 16 = .ok (.if_icmp .le 6, 3) := by decide +kernel
theorem dX9_follow_19 : decode cX9_follow 19 = .ok (.bipush (-2), 2) := by decide +kernel
theorem dX9_follow_21 : decode cX9_follow 21 = .ok (.ireturn, 1) := by decide +kernel
theorem dX9_follow_22 : decode cX9_follow 22 = .ok (.aload_n 0, 1) := by decide +kernel
theorem dX9_follow_23 : decode cX9_follow 23 = .ok (.iload_n 1, 1) := by decide +kernel
theorem dX9_follow_24 : decode cX9_follow 24 = .ok (.invokevirtual 62, 3) := by decide +kernel
theorem dX9_follow_27 : decode cX9_follow 27 = .ok (.ifCond .ne 6, 3) := by decide +kernel
theorem dX9_follow_30 : decode cX9_follow 30 = .ok (.bipush (-3), 2) := by decide +kernel
theorem dX9_follow_32 : decode cX9_follow 32 = .ok (.ireturn, 1) := by decide +kernel
theorem dX9_follow_33 : decode cX9_follow 33 = .ok (.aload_n 0, 1) := by decide +kernel
theorem dX9_follow_34 : decode cX9_follow 34 = .ok (.getfield 19, 3) := by decide +kernel
theorem dX9_follow_37 : decode cX9_follow 37 = .ok (.iload_n 1, 1) := by decide +kernel
theorem dX9_follow_38 : decode cX9_follow 38 = .ok (.invokevirtual 65, 3) := by decide +kernel
theorem dX9_follow_41 : decode cX9_follow 41 = .ok (.istore_n 3, 1) := by decide +kernel
theorem dX9_follow_42 : decode cX9_follow 42 = .ok (.iload_n 2, 1) := by decide +kernel
theorem dX9_follow_43 : decode cX9_follow 43 = .ok (.aload_n 0, 1) := by decide +kernel
theorem dX9_follow_44 : decode cX9_follow 44 = .ok (.getfield 19, 3) := by decide +kernel
theorem dX9_follow_47 : decode cX9_follow 47 = .ok (.getfield 184, 3) := by decide +kernel
theorem dX9_follow_50 : decode cX9_follow 50 = .ok (.imul, 1) := by decide +kernel
theorem dX9_follow_51 : decode cX9_follow 51 = .ok (.istore 4, 2) := by decide +kernel
theorem dX9_follow_53 : decode cX9_follow 53 = .ok (.iconst 0, 1) := by decide +kernel
theorem dX9_follow_54 : decode cX9_follow 54 = .ok (.istore 5, 2) := by decide +kernel
theorem dX9_follow_56 : decode cX9_follow 56 = .ok (.iload 5, 2) := by decide +kernel
theorem dX9_follow_58 : decode cX9_follow 58 = .ok (.aload_n 0, 1) := by decide +kernel
theorem dX9_follow_59 : decode cX9_follow 59 = .ok (.getfield 19, 3) := by decide +kernel
theorem dX9_follow_62 : decode cX9_follow 62 = .ok (.getfield 27, 3) := by decide +kernel
theorem dX9_follow_65 : decode cX9_follow 65 = .ok (.if_icmp .ge 63, 3) := by decide +kernel
theorem dX9_follow_68 : decode cX9_follow 68 = .ok (.iload 4, 2) := by decide +kernel
theorem dX9_follow_70 : decode cX9_follow 70 = .ok (.ifCond .le 58, 3) := by decide +kernel
theorem dX9_follow_73 : decode cX9_follow 73 = .ok (.iload_n 3, 1) := by decide +kernel
theorem dX9_follow_74 : decode cX9_follow 74 = .ok (.iload 5, 2) := by decide +kernel
theorem dX9_follow_76 : decode cX9_follow 76 = .ok (.invokestatic 69, 3) := by decide +kernel
theorem dX9_follow_79 : decode cX9_follow 79 = .ok (.istore 6, 2) := by decide +kernel
theorem dX9_follow_81 : decode cX9_follow 81 = .ok (.aload_n 0, 1) := by decide +kernel
theorem dX9_follow_82 : decode cX9_follow 82 = .ok (.getfield 19, 3) := by decide +kernel
theorem dX9_follow_85 : decode cX9_follow 85 = .ok (.getfield 34, 3) := by decide +kernel
theorem dX9_follow_88 : decode cX9_follow 88 = .ok (.iload 5, 2) := by decide +kernel
theorem dX9_follow_90 : decode cX9_follow 90 = .ok (.invokestatic 69, 3) := by decide +kernel
theorem dX9_follow_93 : decode cX9_follow 93 = .ok (.iload 6, 2) := by decide +kernel
theorem dX9_follow_95 : decode cX9_follow 95 = .ok (.if_icmp .eq 27, 3) := by decide +kernel
theorem dX9_follow_98 : decode cX9_follow 98 = .ok (.aload_n 0, 1) := by decide +kernel
theorem dX9_follow_99 : decode cX9_follow 99 = .ok (.getfield 19, 3) := by decide +kernel
theorem dX9_follow_102 : decode cX9_follow 102 = .ok (.aload_n 0, 1) := by decide +kernel
theorem dX9_follow_103 : decode cX9_follow 103 = .ok (.getfield 19, 3) := by decide +kernel
theorem dX9_follow_106 : decode cX9_follow 106 = .ok (.getfield 34, 3) := by decide +kernel
theorem dX9_follow_109 : decode cX9_follow 109 = .ok (.iload 5, 2) := by decide +kernel
theorem dX9_follow_111 : decode cX9_follow 111 = .ok (.iload 6, 2) := by decide +kernel
theorem dX9_follow_113 : decode cX9_follow 113 = .ok (.invokestatic 195, 3) := by decide +kernel
theorem dX9_follow_116 : decode cX9_follow 116 = .ok (.putfield 34, 3) := by decide +kernel
theorem dX9_follow_119 : decode cX9_follow 119 = .ok (.iinc 4 (-1), 3) := by decide +kernel
theorem dX9_follow_122 : decode cX9_follow 122 = .ok (.iinc 5 1, 3) := by decide +kernel
theorem dX9_follow_125 : decode cX9_follow 125 = .ok (.goto (-69), 3) := by decide +kernel
theorem dX9_follow_128 : decode cX9_follow 128 = .ok (.aload_n 0, 1) := by decide +kernel
theorem dX9_follow_129 : decode cX9_follow 129 = .ok (.getfield 19, 3) := by decide +kernel
theorem dX9_follow_132 : decode cX9_follow 132 = .ok (.getfield 34, 3) := by decide +kernel
theorem dX9_follow_135 : decode cX9_follow 135 = .ok (.iload_n 3, 1) := by decide +kernel
theorem dX9_follow_136 : decode cX9_follow 136 = .ok (.invokestatic 187, 3) := by decide +kernel
theorem dX9_follow_139 : decode cX9_follow 139 = .ok (.ireturn, 1) := by decide +kernel
set_option maxRecDepth 20000 in
theorem ggX9_drawn_X9_isMap : GoodIn wsX9_drawn wsX9_isMap := goodIn_r _ [6] (by decide +kernel) (by decide +kernel)
set_option maxRecDepth 20000 in
theorem gX9_drawn_X9_isMap : GoodIn wsX9_drawn (va_wsS RX9 48 yX9_isMap wsX9_isMap) := goodIn_app (goodIn_of _ (by decide +kernel)) ggX9_drawn_X9_isMap
set_option maxRecDepth 20000 in
theorem ggX9_drawn_X9_isHand : GoodIn wsX9_drawn wsX9_isHand := goodIn_r _ [9] (by decide +kernel) (by decide +kernel)
set_option maxRecDepth 20000 in
theorem gX9_drawn_X9_isHand : GoodIn wsX9_drawn (va_wsS RX9 79 yX9_isHand wsX9_isHand) := goodIn_app (goodIn_of _ (by decide +kernel)) ggX9_drawn_X9_isHand
set_option maxRecDepth 20000 in
theorem ggX9_drawn_X9_isSite : GoodIn wsX9_drawn wsX9_isSite := goodIn_r _ [13, 1, 14, 80, 81, 82, 83, 84, 85, 86, 87, 88, 89, 90] (by decide +kernel) (by decide +kernel)
set_option maxRecDepth 20000 in
theorem gX9_drawn_X9_isSite : GoodIn wsX9_drawn (wsV RX9 59 RX9 yX9_isSite wsX9_isSite) := goodIn_app (goodIn_of _ (by decide +kernel)) ggX9_drawn_X9_isSite
set_option maxRecDepth 20000 in
theorem ggX9_drawn_X9_isTold : GoodIn wsX9_drawn wsX9_isTold := goodIn_r _ [18, 1, 19, 20, 21, 5, 22, 3, 4, 6, 80, 81, 82, 83, 84, 85, 86, 87, 88, 89, 90] (by decide +kernel) (by decide +kernel)
set_option maxRecDepth 20000 in
theorem gX9_drawn_X9_isTold : GoodIn wsX9_drawn (wsV RX9 62 RX9 yX9_isTold wsX9_isTold) := goodIn_app (goodIn_of _ (by decide +kernel)) ggX9_drawn_X9_isTold
set_option maxRecDepth 20000 in
theorem ggX9_drawn_X3_codeOf : GoodIn wsX9_drawn wsX3_codeOf := goodIn_r _ [27, 28, 85, 86, 87, 88, 89, 90] (by decide +kernel) (by decide +kernel)
set_option maxRecDepth 20000 in
theorem gX9_drawn_X3_codeOf : GoodIn wsX9_drawn (wsV RX9 65 RX3 yX3_codeOf wsX3_codeOf) := goodIn_app (goodIn_of _ (by decide +kernel)) ggX9_drawn_X3_codeOf
set_option maxRecDepth 20000 in
theorem ggX9_drawn_X3_kindsOf : GoodIn wsX9_drawn wsX3_kindsOf := goodIn_r _ [32, 33, 85, 86, 87, 88, 89, 90] (by decide +kernel) (by decide +kernel)
set_option maxRecDepth 20000 in
theorem gX9_drawn_X3_kindsOf : GoodIn wsX9_drawn (wsV RX9 82 RX3 yX3_kindsOf wsX3_kindsOf) := goodIn_app (goodIn_of _ (by decide +kernel)) ggX9_drawn_X3_kindsOf
set_option maxRecDepth 20000 in
theorem ggX9_drawn_X9_afterDraw : GoodIn wsX9_drawn wsX9_afterDraw := goodIn_r _ [37, 38, 39, 40, 41, 42, 43, 44, 45, 5, 46, 1, 14, 47, 48, 49, 50, 51, 52, 53, 54, 55, 56, 57, 58, 59, 60, 61, 62, 63, 64, 65, 66, 67, 68, 69, 70, 80, 81, 82, 83, 84, 85, 86, 87, 88, 89, 90] (by decide +kernel) (by decide +kernel)
set_option maxRecDepth 20000 in
theorem gX9_drawn_X9_afterDraw : GoodIn wsX9_drawn (wsV RX9 199 RX9 yX9_afterDraw wsX9_afterDraw) := goodIn_app (goodIn_of _ (by decide +kernel)) ggX9_drawn_X9_afterDraw
set_option maxRecDepth 20000 in
theorem ggX9_drawn_X1_unlike : GoodIn wsX9_drawn wsX1_unlike := goodIn_r _ [73, 70, 57, 58, 59, 60, 61, 62, 63, 64, 65, 66] (by decide +kernel) (by decide +kernel)
set_option maxRecDepth 20000 in
theorem gX9_drawn_X1_unlike : GoodIn wsX9_drawn (va_wsS RX9 187 yX1_unlike wsX1_unlike) := goodIn_app (goodIn_of _ (by decide +kernel)) ggX9_drawn_X1_unlike
set_option maxRecDepth 20000 in
theorem ggX9_drawn_X1_signAt : GoodIn wsX9_drawn wsX1_signAt := goodIn_r _ [59, 60, 61, 58, 62, 63, 64, 65, 66] (by decide +kernel) (by decide +kernel)
set_option maxRecDepth 20000 in
theorem gX9_drawn_X1_signAt : GoodIn wsX9_drawn (va_wsS RX9 69 yX1_signAt wsX1_signAt) := goodIn_app (goodIn_of _ (by decide +kernel)) ggX9_drawn_X1_signAt
set_option maxRecDepth 20000 in
theorem ggX9_drawn_X5_written : GoodIn wsX9_drawn wsX5_written := goodIn_r _ [78, 79] (by decide +kernel) (by decide +kernel)
set_option maxRecDepth 20000 in
theorem gX9_drawn_X5_written : GoodIn wsX9_drawn (va_wsS RX9 74 yX5_written wsX5_written) := goodIn_app (goodIn_of _ (by decide +kernel)) ggX9_drawn_X5_written
theorem dX9_drawn_0 : decode cX9_drawn 0 = .ok (.iload_n 2, 1) := by decide +kernel
theorem dX9_drawn_1 : decode cX9_drawn 1 = .ok (.invokestatic 48, 3) := by decide +kernel
theorem dX9_drawn_4 : decode cX9_drawn 4 = .ok (.ifCond .eq 25, 3) := by decide +kernel
theorem dX9_drawn_7 : decode cX9_drawn 7 = .ok (.iload_n 3, 1) := by decide +kernel
theorem dX9_drawn_8 : decode cX9_drawn 8 = .ok (.invokestatic 79, 3) := by decide +kernel
theorem dX9_drawn_11 : decode cX9_drawn 11 = .ok (.ifCond .eq 18, 3) := by decide +kernel
theorem dX9_drawn_14 : decode cX9_drawn 14 = .ok (.iload 5, 2) := by decide +kernel
theorem dX9_drawn_16 : decode cX9_drawn 16 = .ok (.iconst (-1), 1) := by decide +kernel
theorem dX9_drawn_17 : decode cX9_drawn 17 = .ok (.if_icmp .eq 14, 3) := by decide +kernel
theorem dX9_drawn_20 : decode cX9_drawn 20 = .ok (.aload_n 0, 1) := by decide +kernel
theorem dX9_drawn_21 : decode cX9_drawn 21 = .ok (.iload 5, 2) := by decide +kernel
theorem dX9_drawn_23 : decode cX9_drawn 23 = .ok (.invokevirtual 59, 3) := by decide +kernel
theorem dX9_drawn_26 : decode cX9_drawn 26 = .ok (.ifCond .ne 5, 3) := by decide +kernel
theorem dX9_drawn_29 : decode cX9_drawn 29 = .ok (.iconst (-1), 1) := by decide +kernel
theorem dX9_drawn_30 : decode cX9_drawn 30 = .ok (.ireturn, 1) := by decide +kernel
theorem dX9_drawn_31 : decode cX9_drawn 31 = .ok (.iload_n 1, 1) := by decide +kernel
theorem dX9_drawn_32 : decode cX9_drawn 32 = .ok (.ifCond .lt 22, 3) := by decide +kernel
theorem dX9_drawn_35 : decode cX9_drawn 35 = .ok (.iload_n 1, 1) := by decide +kernel
theorem dX9_drawn_36 : decode cX9_drawn 36 = .ok (.sipush 9999, 3) := by decide +kernel
theorem dX9_drawn_39 : decode cX9_drawn 39 = .ok (.if_icmp .gt 15, 3) := by decide +kernel
theorem dX9_drawn_42 : decode cX9_drawn 42 = .ok (.iload 4, 2) := by decide +kernel
theorem dX9_drawn_44 : decode cX9_drawn 44 = .ok (.ifCond .lt 10, 3) := by decide +kernel
theorem dX9_drawn_47 : decode cX9_drawn 47 = .ok (.iload 4, 2) := by decide +kernel
theorem dX9_drawn_49 : decode cX9_drawn 49 = .ok (.bipush 60, 2) := by decide +kernel
theorem dX9_drawn_51 : decode cX9_drawn 51 = .ok (.if_icmp .le 6, 3) := by decide +kernel
theorem dX9_drawn_54 : decode cX9_drawn 54 = .ok (.bipush (-2), 2) := by decide +kernel
theorem dX9_drawn_56 : decode cX9_drawn 56 = .ok (.ireturn, 1) := by decide +kernel
theorem dX9_drawn_57 : decode cX9_drawn 57 = .ok (.aload_n 0, 1) := by decide +kernel
theorem dX9_drawn_58 : decode cX9_drawn 58 = .ok (.iload_n 2, 1) := by decide +kernel
theorem dX9_drawn_59 : decode cX9_drawn 59 = .ok (.invokevirtual 62, 3) := by decide +kernel
theorem dX9_drawn_62 : decode cX9_drawn 62 = .ok (.ifCond .ne 6, 3) := by decide +kernel
theorem dX9_drawn_65 : decode cX9_drawn 65 = .ok (.bipush (-3), 2) := by decide +kernel
theorem dX9_drawn_67 : decode cX9_drawn 67 = .ok (.ireturn, 1) := by decide +kernel
theorem dX9_drawn_68 : decode cX9_drawn 68 = .ok (.aload_n 0, 1) := by decide +kernel
theorem dX9_drawn_69 : decode cX9_drawn 69 = .ok (.getfield 19, 3) := by decide +kernel
theorem dX9_drawn_72 : decode cX9_drawn 72 = .ok (.iload_n 2, 1) := by decide +kernel
theorem dX9_drawn_73 : decode cX9_drawn 73 = .ok (.invokevirtual 65, 3) := by decide +kernel
theorem dX9_drawn_76 : decode cX9_drawn 76 = .ok (.istore 6, 2) := by decide +kernel
theorem dX9_drawn_78 : decode cX9_drawn 78 = .ok (.iload 6, 2) := by decide +kernel
theorem dX9_drawn_80 : decode cX9_drawn 80 = .ok (.istore 7, 2) := by decide +kernel
theorem dX9_drawn_82 : decode cX9_drawn 82 = .ok (.iload_n 1, 1) := by decide +kernel
theorem dX9_drawn_83 : decode cX9_drawn 83 = .ok (.istore 8, 2) := by decide +kernel
theorem dX9_drawn_85 : decode cX9_drawn 85 = .ok (.iconst 0, 1) := by decide +kernel
theorem dX9_drawn_86 : decode cX9_drawn 86 = .ok (.istore 9, 2) := by decide +kernel
theorem dX9_drawn_88 : decode cX9_drawn 88 = .ok (.iload 9, 2) := by decide +kernel
theorem dX9_drawn_90 : decode cX9_drawn 90 = .ok (.iload 4, 2) := by decide +kernel
theorem dX9_drawn_92 : decode cX9_drawn 92 = .ok (.if_icmp .ge 40, 3) := by decide +kernel
theorem dX9_drawn_95 : decode cX9_drawn 95 = .ok (.bipush 75, 2) := by decide +kernel
theorem dX9_drawn_97 : decode cX9_drawn 97 = .ok (.iload 8, 2) := by decide +kernel
theorem dX9_drawn_99 : decode cX9_drawn 99 = .ok (.imul, 1) := by decide +kernel
theorem dX9_drawn_100 : decode cX9_drawn 100 = .ok (.bipush 74, 2) := by decide +kernel
theorem dX9_drawn_102 : decode cX9_drawn 102 = .ok (.iadd, 1) := by decide +kernel
theorem dX9_drawn_103 : decode cX9_drawn 103 = .ok (.ldc 198, 2) := by decide +kernel
theorem dX9_drawn_105 : decode cX9_drawn 105 = .ok (.irem, 1) := by decide +kernel
theorem dX9_drawn_106 : decode cX9_drawn 106 = .ok (.istore 8, 2) := by decide +kernel
theorem dX9_drawn_108 : decode cX9_drawn 108 = .ok (.aload_n 0, 1) := by decide +kernel
theorem dX9_drawn_109 : decode cX9_drawn 109 = .ok (.iload 7, 2) := by decide +kernel
theorem dX9_drawn_111 : decode cX9_drawn 111 = .ok (.iload 8, 2) := by decide +kernel
theorem dX9_drawn_113 : decode cX9_drawn 113 = .ok (.aload_n 0, 1) := by decide +kernel
theorem dX9_drawn_114 : decode cX9_drawn 114 = .ok (.getfield 19, 3) := by decide +kernel
theorem dX9_drawn_117 : decode cX9_drawn 117 = .ok (.iload_n 3, 1) := by decide +kernel
theorem dX9_drawn_118 : decode cX9_drawn 118 = .ok (.invokevirtual 82, 3) := by decide +kernel
theorem dX9_drawn_121 : decode cX9_drawn 121 = .ok (.invokevirtual 199, 3) := by decide +kernel
theorem dX9_drawn_124 : decode cX9_drawn 124 = .ok (.istore 7, 2) := by decide +kernel
theorem dX9_drawn_126 : decode cX9_drawn 126 = .ok (.iinc 9 1, 3) := by decide +kernel
theorem dX9_drawn_129 : decode cX9_drawn 129 = .ok (.goto (-41), 3) := by decide +kernel
theorem dX9_drawn_132 : decode cX9_drawn 132 = .ok (.iload 5, 2) := by decide +kernel
theorem dX9_drawn_134 : decode cX9_drawn 134 = .ok (.iconst (-1), 1) := by decide +kernel
theorem dX9_drawn_135 : decode cX9_drawn 135 = .ok (.if_icmp .ne 13, 3) := by decide +kernel
theorem dX9_drawn_138 : decode cX9_drawn 138 = .ok (.iload 7, 2) := by decide +kernel
theorem dX9_drawn_140 : decode cX9_drawn 140 = .ok (.iload 6, 2) := by decide +kernel
theorem dX9_drawn_142 : decode cX9_drawn 142 = .ok (.invokestatic 187, 3) := by decide +kernel
theorem dX9_drawn_145 : decode cX9_drawn 145 = .ok (.goto 13, 3) := by decide +kernel
theorem dX9_drawn_148 : decode cX9_drawn 148 = .ok (.iload 7, 2) := by decide +kernel
theorem dX9_drawn_150 : decode cX9_drawn 150 = .ok (.iload 5, 2) := by decide +kernel
theorem dX9_drawn_152 : decode cX9_drawn 152 = .ok (.invokestatic 69, 3) := by decide +kernel
theorem dX9_drawn_155 : decode cX9_drawn 155 = .ok (.invokestatic 74, 3) := by decide +kernel
theorem dX9_drawn_158 : decode cX9_drawn 158 = .ok (.ireturn, 1) := by decide +kernel
set_option maxRecDepth 20000 in
theorem ggX9_image_X3_init : GoodIn wsX9_image wsX3_init := goodIn_r _ [7, 8, 9, 10, 11, 12, 13, 14, 15, 35, 36, 37, 38, 39, 40] (by decide +kernel) (by decide +kernel)
set_option maxRecDepth 20000 in
theorem gX9_image_X3_init_n18 : GoodIn wsX9_image (wsX3_init) := ggX9_image_X3_init
set_option maxRecDepth 20000 in
theorem ggX9_image_X3_take : GoodIn wsX9_image wsX3_take := goodIn_r _ [19, 11, 20, 12, 21, 14, 15, 22, 23, 24, 4, 25, 26, 27, 28, 29, 35, 36, 37, 38, 39, 40] (by decide +kernel) (by decide +kernel)
set_option maxRecDepth 20000 in
theorem gX9_image_X3_take : GoodIn wsX9_image (wsV RX9 202 RX3 yX3_take wsX3_take) := goodIn_app (goodIn_of _ (by decide +kernel)) ggX9_image_X3_take
theorem dX9_image_0 : decode cX9_image 0 = .ok (.iload_n 1, 1) := by decide +kernel
theorem dX9_image_1 : decode cX9_image 1 = .ok (.ifCond .lt 12, 3) := by decide +kernel
theorem dX9_image_4 : decode cX9_image 4 = .ok (.iload_n 1, 1) := by decide +kernel
theorem dX9_image_5 : decode cX9_image 5 = .ok (.aload_n 0, 1) := by decide +kernel
theorem dX9_image_6 : decode cX9_image 6 = .ok (.getfield 23, 3) := by decide +kernel
theorem dX9_image_9 : decode cX9_image 9 = .ok (.arraylength, 1) := by decide +kernel
theorem dX9_image_10 : decode cX9_image 10 = .ok (.if_icmp .lt 6, 3) := by decide +kernel
theorem dX9_image_13 : decode cX9_image 13 = .ok (.bipush (-2), 2) := by decide +kernel
theorem dX9_image_15 : decode cX9_image 15 = .ok (.ireturn, 1) := by decide +kernel
theorem dX9_image_16 : decode cX9_image 16 = .ok (.aload_n 0, 1) := by decide +kernel
theorem dX9_image_17 : decode cX9_image 17 = .ok (.getfield 23, 3) := by decide +kernel
theorem dX9_image_20 : decode cX9_image 20 = .ok (.iload_n 1, 1) := by decide +kernel
theorem dX9_image_21 : decode cX9_image 21 = .ok (.aaload, 1) := by decide +kernel
theorem dX9_image_22 : decode cX9_image 22 = .ok (.ifnonnull 16, 3) := by decide +kernel
theorem dX9_image_25 : decode cX9_image 25 = .ok (.aload_n 0, 1) := by decide +kernel
theorem dX9_image_26 : decode cX9_image 26 = .ok (.getfield 23, 3) := by decide +kernel
theorem dX9_image_29 : decode cX9_image 29 = .ok (.iload_n 1, 1) := by decide +kernel
theorem dX9_image_30 : decode cX9_image 30 = .ok (.new 16, 3) := by decide +kernel
theorem dX9_image_33 : decode cX9_image 33 = .ok (.dup, 1) := by decide +kernel
theorem dX9_image_34 : decode cX9_image 34 = .ok (.invokespecial 18, 3) := by decide +kernel
theorem dX9_image_37 : decode cX9_image 37 = .ok (.aastore, 1) := by decide +kernel
theorem dX9_image_38 : decode cX9_image 38 = .ok (.aload_n 0, 1) := by decide +kernel
theorem dX9_image_39 : decode cX9_image 39 = .ok (.getfield 23, 3) := by decide +kernel
theorem dX9_image_42 : decode cX9_image 42 = .ok (.iload_n 1, 1) := by decide +kernel
theorem dX9_image_43 : decode cX9_image 43 = .ok (.aaload, 1) := by decide +kernel
theorem dX9_image_44 : decode cX9_image 44 = .ok (.aload_n 0, 1) := by decide +kernel
theorem dX9_image_45 : decode cX9_image 45 = .ok (.getfield 19, 3) := by decide +kernel
theorem dX9_image_48 : decode cX9_image 48 = .ok (.invokevirtual 202, 3) := by decide +kernel
theorem dX9_image_51 : decode cX9_image 51 = .ok (.iconst 1, 1) := by decide +kernel
theorem dX9_image_52 : decode cX9_image 52 = .ok (.ireturn, 1) := by decide +kernel
set_option maxRecDepth 20000 in
theorem ggX9_restore_X3_take : GoodIn wsX9_restore wsX3_take := goodIn_r _ [7, 8, 9, 10, 11, 12, 13, 14, 15, 16, 6, 17, 18, 19, 20, 21, 27, 28, 29, 30, 31, 32] (by decide +kernel) (by decide +kernel)
set_option maxRecDepth 20000 in
theorem gX9_restore_X3_take : GoodIn wsX9_restore (wsV RX9 202 RX3 yX3_take wsX3_take) := goodIn_app (goodIn_of _ (by decide +kernel)) ggX9_restore_X3_take
theorem dX9_restore_0 : decode cX9_restore 0 = .ok (.iload_n 1, 1) := by decide +kernel
theorem dX9_restore_1 : decode cX9_restore 1 = .ok (.ifCond .lt 12, 3) := by decide +kernel
theorem dX9_restore_4 : decode cX9_restore 4 = .ok (.iload_n 1, 1) := by decide +kernel
theorem dX9_restore_5 : decode cX9_restore 5 = .ok (.aload_n 0, 1) := by decide +kernel
theorem dX9_restore_6 : decode cX9_restore 6 = .ok (.getfield 23, 3) := by decide +kernel
theorem dX9_restore_9 : decode cX9_restore 9 = .ok (.arraylength, 1) := by decide +kernel
theorem dX9_restore_10 : decode cX9_restore 10 = .ok (.if_icmp .lt 6, 3) := by decide +kernel
theorem dX9_restore_13 : decode cX9_restore 13 = .ok (.bipush (-2), 2) := by decide +kernel
theorem dX9_restore_15 : decode cX9_restore 15 = .ok (.ireturn, 1) := by decide +kernel
theorem dX9_restore_16 : decode cX9_restore 16 = .ok (.aload_n 0, 1) := by decide +kernel
theorem dX9_restore_17 : decode cX9_restore 17 = .ok (.getfield 23, 3) := by decide +kernel
theorem dX9_restore_20 : decode cX9_restore 20 = .ok (.iload_n 1, 1) := by decide +kernel
theorem dX9_restore_21 : decode cX9_restore 21 = .ok (.aaload, 1) := by decide +kernel
theorem dX9_restore_22 : decode cX9_restore 22 = .ok (.astore_n 2, 1) := by decide +kernel
theorem dX9_restore_23 : decode cX9_restore 23 = .ok (.aload_n 2, 1) := by decide +kernel
theorem dX9_restore_24 : decode cX9_restore 24 = .ok (.ifnonnull 6, 3) := by decide +kernel
theorem dX9_restore_27 : decode cX9_restore 27 = .ok (.bipush (-3), 2) := by decide +kernel
theorem dX9_restore_29 : decode cX9_restore 29 = .ok (.ireturn, 1) := by decide +kernel
theorem dX9_restore_30 : decode cX9_restore 30 = .ok (.aload_n 0, 1) := by decide +kernel
theorem dX9_restore_31 : decode cX9_restore 31 = .ok (.getfield 19, 3) := by decide +kernel
theorem dX9_restore_34 : decode cX9_restore 34 = .ok (.aload_n 2, 1) := by decide +kernel
theorem dX9_restore_35 : decode cX9_restore 35 = .ok (.invokevirtual 202, 3) := by decide +kernel
theorem dX9_restore_38 : decode cX9_restore 38 = .ok (.iconst 1, 1) := by decide +kernel
theorem dX9_restore_39 : decode cX9_restore 39 = .ok (.ireturn, 1) := by decide +kernel
set_option maxRecDepth 20000 in
theorem ggX9_told_X9_isHand : GoodIn wsX9_told wsX9_isHand := goodIn_r _ [10] (by decide +kernel) (by decide +kernel)
set_option maxRecDepth 20000 in
theorem gX9_told_X9_isHand : GoodIn wsX9_told (va_wsS RX9 79 yX9_isHand wsX9_isHand) := goodIn_app (goodIn_of _ (by decide +kernel)) ggX9_told_X9_isHand
set_option maxRecDepth 20000 in
theorem ggX9_told_X3_kindsOf : GoodIn wsX9_told wsX3_kindsOf := goodIn_r _ [15, 16, 25, 26, 27, 28, 29, 30] (by decide +kernel) (by decide +kernel)
set_option maxRecDepth 20000 in
theorem gX9_told_X3_kindsOf : GoodIn wsX9_told (wsV RX9 82 RX3 yX3_kindsOf wsX3_kindsOf) := goodIn_app (goodIn_of _ (by decide +kernel)) ggX9_told_X3_kindsOf
theorem dX9_told_0 : decode cX9_told 0 = .ok (.iload_n 1, 1) := by decide +kernel
theorem dX9_told_1 : decode cX9_told 1 = .ok (.bipush 10, 2) := by decide +kernel
theorem dX9_told_3 : decode cX9_told 3 = .ok (.if_icmp .lt 25, 3) := by decide +kernel
theorem dX9_told_6 : decode cX9_told 6 = .ok (.iload_n 1, 1) := by decide +kernel
theorem dX9_told_7 : decode cX9_told 7 = .ok (.bipush 10, 2) := by decide +kernel
theorem dX9_told_9 : decode cX9_told 9 = .ok (.isub, 1) := by decide +kernel
theorem dX9_told_10 : decode cX9_told 10 = .ok (.invokestatic 79, 3) := by decide +kernel
theorem dX9_told_13 : decode cX9_told 13 = .ok (.ifCond .eq 15, 3) := by decide +kernel
theorem dX9_told_16 : decode cX9_told 16 = .ok (.aload_n 0, 1) := by decide +kernel
theorem dX9_told_17 : decode cX9_told 17 = .ok (.getfield 19, 3) := by decide +kernel
theorem dX9_told_20 : decode cX9_told 20 = .ok (.iload_n 1, 1) := by decide +kernel
theorem dX9_told_21 : decode cX9_told 21 = .ok (.bipush 10, 2) := by decide +kernel
theorem dX9_told_23 : decode cX9_told 23 = .ok (.isub, 1) := by decide +kernel
theorem dX9_told_24 : decode cX9_told 24 = .ok (.invokevirtual 82, 3) := by decide +kernel
theorem dX9_told_27 : decode cX9_told 27 = .ok (.ireturn, 1) := by decide +kernel
theorem dX9_told_28 : decode cX9_told 28 = .ok (.iload_n 1, 1) := by decide +kernel
theorem dX9_told_29 : decode cX9_told 29 = .ok (.tableswitch 63 0 3 #[31, 39, 47, 55], 31) := by decide +kernel
theorem dX9_told_60 : decode cX9_told 60 = .ok (.aload_n 0, 1) := by decide +kernel
theorem dX9_told_61 : decode cX9_told 61 = .ok (.getfield 10, 3) := by decide +kernel
theorem dX9_told_64 : decode cX9_told 64 = .ok (.getfield 41, 3) := by decide +kernel
theorem dX9_told_67 : decode cX9_told 67 = .ok (.ireturn, 1) := by decide +kernel
theorem dX9_told_68 : decode cX9_told 68 = .ok (.aload_n 0, 1) := by decide +kernel
theorem dX9_told_69 : decode cX9_told 69 = .ok (.getfield 19, 3) := by decide +kernel
theorem dX9_told_72 : decode cX9_told 72 = .ok (.getfield 27, 3) := by decide +kernel
theorem dX9_told_75 : decode cX9_told 75 = .ok (.ireturn, 1) := by decide +kernel
theorem dX9_told_76 : decode cX9_told 76 = .ok (.aload_n 0, 1) := by decide +kernel
theorem dX9_told_77 : decode cX9_told 77 = .ok (.getfield 19, 3) := by decide +kernel
theorem dX9_told_80 : decode cX9_told 80 = .ok (.getfield 31, 3) := by decide +kernel
theorem dX9_told_83 : decode cX9_told 83 = .ok (.ireturn, 1) := by decide +kernel
theorem dX9_told_84 : decode cX9_told 84 = .ok (.aload_n 0, 1) := by decide +kernel
theorem dX9_told_85 : decode cX9_told 85 = .ok (.getfield 19, 3) := by decide +kernel
theorem dX9_told_88 : decode cX9_told 88 = .ok (.getfield 184, 3) := by decide +kernel
theorem dX9_told_91 : decode cX9_told 91 = .ok (.ireturn, 1) := by decide +kernel
theorem dX9_told_92 : decode cX9_told 92 = .ok (.bipush (-2), 2) := by decide +kernel
theorem dX9_told_94 : decode cX9_told 94 = .ok (.ireturn, 1) := by decide +kernel
theorem dX9_isMap_0 : decode cX9_isMap 0 = .ok (.iload_n 0, 1) := by decide +kernel
theorem dX9_isMap_1 : decode cX9_isMap 1 = .ok (.ifCond .lt 13, 3) := by decide +kernel
theorem dX9_isMap_4 : decode cX9_isMap 4 = .ok (.iload_n 0, 1) := by decide +kernel
theorem dX9_isMap_5 : decode cX9_isMap 5 = .ok (.bipush 6, 2) := by decide +kernel
theorem dX9_isMap_7 : decode cX9_isMap 7 = .ok (.if_icmp .ge 7, 3) := by decide +kernel
theorem dX9_isMap_10 : decode cX9_isMap 10 = .ok (.iconst 1, 1) := by decide +kernel
theorem dX9_isMap_11 : decode cX9_isMap 11 = .ok (.goto 4, 3) := by decide +kernel
theorem dX9_isMap_14 : decode cX9_isMap 14 = .ok (.iconst 0, 1) := by decide +kernel
theorem dX9_isMap_15 : decode cX9_isMap 15 = .ok (.ireturn, 1) := by decide +kernel
theorem dX9_isHand_0 : decode cX9_isHand 0 = .ok (.iload_n 0, 1) := by decide +kernel
theorem dX9_isHand_1 : decode cX9_isHand 1 = .ok (.ifCond .lt 12, 3) := by decide +kernel
theorem dX9_isHand_4 : decode cX9_isHand 4 = .ok (.iload_n 0, 1) := by decide +kernel
theorem dX9_isHand_5 : decode cX9_isHand 5 = .ok (.iconst 4, 1) := by decide +kernel
theorem dX9_isHand_6 : decode cX9_isHand 6 = .ok (.if_icmp .ge 7, 3) := by decide +kernel
theorem dX9_isHand_9 : decode cX9_isHand 9 = .ok (.iconst 1, 1) := by decide +kernel
theorem dX9_isHand_10 : decode cX9_isHand 10 = .ok (.goto 4, 3) := by decide +kernel
theorem dX9_isHand_13 : decode cX9_isHand 13 = .ok (.iconst 0, 1) := by decide +kernel
theorem dX9_isHand_14 : decode cX9_isHand 14 = .ok (.ireturn, 1) := by decide +kernel
theorem dX9_isSite_0 : decode cX9_isSite 0 = .ok (.iload_n 1, 1) := by decide +kernel
theorem dX9_isSite_1 : decode cX9_isSite 1 = .ok (.ifCond .lt 18, 3) := by decide +kernel
theorem dX9_isSite_4 : decode cX9_isSite 4 = .ok (.iload_n 1, 1) := by decide +kernel
theorem dX9_isSite_5 : decode cX9_isSite 5 = .ok (.aload_n 0, 1) := by decide +kernel
theorem dX9_isSite_6 : decode cX9_isSite 6 = .ok (.getfield 19, 3) := by decide +kernel
theorem dX9_isSite_9 : decode cX9_isSite 9 = .ok (.getfield 27, 3) := by decide +kernel
theorem dX9_isSite_12 : decode cX9_isSite 12 = .ok (.if_icmp .ge 7, 3) := by decide +kernel
theorem dX9_isSite_15 : decode cX9_isSite 15 = .ok (.iconst 1, 1) := by decide +kernel
theorem dX9_isSite_16 : decode cX9_isSite 16 = .ok (.goto 4, 3) := by decide +kernel
theorem dX9_isSite_19 : decode cX9_isSite 19 = .ok (.iconst 0, 1) := by decide +kernel
theorem dX9_isSite_20 : decode cX9_isSite 20 = .ok (.ireturn, 1) := by decide +kernel
theorem dX9_isSet_0 : decode cX9_isSet 0 = .ok (.iload_n 0, 1) := by decide +kernel
theorem dX9_isSet_1 : decode cX9_isSet 1 = .ok (.iconst 1, 1) := by decide +kernel
theorem dX9_isSet_2 : decode cX9_isSet 2 = .ok (.if_icmp .lt 13, 3) := by decide +kernel
theorem dX9_isSet_5 : decode cX9_isSet 5 = .ok (.iload_n 0, 1) := by decide +kernel
theorem dX9_isSet_6 : decode cX9_isSet 6 = .ok (.bipush 63, 2) := by decide +kernel
theorem dX9_isSet_8 : decode cX9_isSet 8 = .ok (.if_icmp .gt 7, 3) := by decide +kernel
theorem dX9_isSet_11 : decode cX9_isSet 11 = .ok (.iconst 1, 1) := by decide +kernel
theorem dX9_isSet_12 : decode cX9_isSet 12 = .ok (.goto 4, 3) := by decide +kernel
theorem dX9_isSet_15 : decode cX9_isSet 15 = .ok (.iconst 0, 1) := by decide +kernel
theorem dX9_isSet_16 : decode cX9_isSet 16 = .ok (.ireturn, 1) := by decide +kernel
set_option maxRecDepth 20000 in
theorem ggX9_isOf_X9_isMap : GoodIn wsX9_isOf wsX9_isMap := goodIn_r _ [4] (by decide +kernel) (by decide +kernel)
set_option maxRecDepth 20000 in
theorem gX9_isOf_X9_isMap : GoodIn wsX9_isOf (va_wsS RX9 48 yX9_isMap wsX9_isMap) := goodIn_app (goodIn_of _ (by decide +kernel)) ggX9_isOf_X9_isMap
theorem dX9_isOf_0 : decode cX9_isOf 0 = .ok (.iload_n 1, 1) := by decide +kernel
theorem dX9_isOf_1 : decode cX9_isOf 1 = .ok (.invokestatic 48, 3) := by decide +kernel
theorem dX9_isOf_4 : decode cX9_isOf 4 = .ok (.ifCond .eq 15, 3) := by decide +kernel
theorem dX9_isOf_7 : decode cX9_isOf 7 = .ok (.iload_n 0, 1) := by decide +kernel
theorem dX9_isOf_8 : decode cX9_isOf 8 = .ok (.iload_n 1, 1) := by decide +kernel
theorem dX9_isOf_9 : decode cX9_isOf 9 = .ok (.ishr, 1) := by decide +kernel
theorem dX9_isOf_10 : decode cX9_isOf 10 = .ok (.iconst 1, 1) := by decide +kernel
theorem dX9_isOf_11 : decode cX9_isOf 11 = .ok (.iand, 1) := by decide +kernel
theorem dX9_isOf_12 : decode cX9_isOf 12 = .ok (.ifCond .eq 7, 3) := by decide +kernel
theorem dX9_isOf_15 : decode cX9_isOf 15 = .ok (.iconst 1, 1) := by decide +kernel
theorem dX9_isOf_16 : decode cX9_isOf 16 = .ok (.goto 4, 3) := by decide +kernel
theorem dX9_isOf_19 : decode cX9_isOf 19 = .ok (.iconst 0, 1) := by decide +kernel
theorem dX9_isOf_20 : decode cX9_isOf 20 = .ok (.ireturn, 1) := by decide +kernel
set_option maxRecDepth 20000 in
theorem ggX9_isTold_X9_isOf : GoodIn wsX9_isTold wsX9_isOf := goodIn_r _ [6, 7, 8, 5, 9] (by decide +kernel) (by decide +kernel)
set_option maxRecDepth 20000 in
theorem gX9_isTold_X9_isOf : GoodIn wsX9_isTold (va_wsS RX9 132 yX9_isOf wsX9_isOf) := goodIn_app (goodIn_of _ (by decide +kernel)) ggX9_isTold_X9_isOf
theorem dX9_isTold_0 : decode cX9_isTold 0 = .ok (.aload_n 0, 1) := by decide +kernel
theorem dX9_isTold_1 : decode cX9_isTold 1 = .ok (.getfield 19, 3) := by decide +kernel
theorem dX9_isTold_4 : decode cX9_isTold 4 = .ok (.getfield 31, 3) := by decide +kernel
theorem dX9_isTold_7 : decode cX9_isTold 7 = .ok (.iload_n 1, 1) := by decide +kernel
theorem dX9_isTold_8 : decode cX9_isTold 8 = .ok (.invokestatic 132, 3) := by decide +kernel
theorem dX9_isTold_11 : decode cX9_isTold 11 = .ok (.ireturn, 1) := by decide +kernel
theorem dX9_areTold_0 : decode cX9_areTold 0 = .ok (.aload_n 0, 1) := by decide +kernel
theorem dX9_areTold_1 : decode cX9_areTold 1 = .ok (.getfield 19, 3) := by decide +kernel
theorem dX9_areTold_4 : decode cX9_areTold 4 = .ok (.getfield 31, 3) := by decide +kernel
theorem dX9_areTold_7 : decode cX9_areTold 7 = .ok (.iload_n 1, 1) := by decide +kernel
theorem dX9_areTold_8 : decode cX9_areTold 8 = .ok (.iand, 1) := by decide +kernel
theorem dX9_areTold_9 : decode cX9_areTold 9 = .ok (.iload_n 1, 1) := by decide +kernel
theorem dX9_areTold_10 : decode cX9_areTold 10 = .ok (.if_icmp .ne 7, 3) := by decide +kernel
theorem dX9_areTold_13 : decode cX9_areTold 13 = .ok (.iconst 1, 1) := by decide +kernel
theorem dX9_areTold_14 : decode cX9_areTold 14 = .ok (.goto 4, 3) := by decide +kernel
theorem dX9_areTold_17 : decode cX9_areTold 17 = .ok (.iconst 0, 1) := by decide +kernel
theorem dX9_areTold_18 : decode cX9_areTold 18 = .ok (.ireturn, 1) := by decide +kernel
set_option maxRecDepth 20000 in
theorem ggX9_isTreeQuestion_X9_isOf : GoodIn wsX9_isTreeQuestion wsX9_isOf := goodIn_r _ [4, 5, 6, 3, 7] (by decide +kernel) (by decide +kernel)
set_option maxRecDepth 20000 in
theorem gX9_isTreeQuestion_X9_isOf : GoodIn wsX9_isTreeQuestion (va_wsS RX9 132 yX9_isOf wsX9_isOf) := goodIn_app (goodIn_of _ (by decide +kernel)) ggX9_isTreeQuestion_X9_isOf
theorem dX9_isTreeQuestion_0 : decode cX9_isTreeQuestion 0 = .ok (.iload_n 1, 1) := by decide +kernel
theorem dX9_isTreeQuestion_1 : decode cX9_isTreeQuestion 1 = .ok (.ifCond .eq 25, 3) := by decide +kernel
theorem dX9_isTreeQuestion_4 : decode cX9_isTreeQuestion 4 = .ok (.iload_n 1, 1) := by decide +kernel
theorem dX9_isTreeQuestion_5 : decode cX9_isTreeQuestion 5 = .ok (.iconst 1, 1) := by decide +kernel
theorem dX9_isTreeQuestion_6 : decode cX9_isTreeQuestion 6 = .ok (.if_icmp .eq 20, 3) := by decide +kernel
theorem dX9_isTreeQuestion_9 : decode cX9_isTreeQuestion 9 = .ok (.iload_n 1, 1) := by decide +kernel
theorem dX9_isTreeQuestion_10 : decode cX9_isTreeQuestion 10 = .ok (.bipush 10, 2) := by decide +kernel
theorem dX9_isTreeQuestion_12 : decode cX9_isTreeQuestion 12 = .ok (.if_icmp .lt 18, 3) := by decide +kernel
theorem dX9_isTreeQuestion_15 : decode cX9_isTreeQuestion 15 = .ok (.iload_n 0, 1) := by decide +kernel
theorem dX9_isTreeQuestion_16 : decode cX9_isTreeQuestion 16 = .ok (.iload_n 1, 1) := by decide +kernel
theorem dX9_isTreeQuestion_17 : decode cX9_isTreeQuestion 17 = .ok (.bipush 10, 2) := by decide +kernel
theorem dX9_isTreeQuestion_19 : decode cX9_isTreeQuestion 19 = .ok (.isub, 1) := by decide +kernel
theorem dX9_isTreeQuestion_20 : decode cX9_isTreeQuestion 20 = .ok (.invokestatic 132, 3) := by decide +kernel
theorem dX9_isTreeQuestion_23 : decode cX9_isTreeQuestion 23 = .ok (.ifCond .eq 7, 3) := by decide +kernel
theorem dX9_isTreeQuestion_26 : decode cX9_isTreeQuestion 26 = .ok (.iconst 1, 1) := by decide +kernel
theorem dX9_isTreeQuestion_27 : decode cX9_isTreeQuestion 27 = .ok (.goto 4, 3) := by decide +kernel
theorem dX9_isTreeQuestion_30 : decode cX9_isTreeQuestion 30 = .ok (.iconst 0, 1) := by decide +kernel
theorem dX9_isTreeQuestion_31 : decode cX9_isTreeQuestion 31 = .ok (.ireturn, 1) := by decide +kernel
set_option maxRecDepth 20000 in
theorem ggX9_firstIdle_X2_readSlips : GoodIn wsX9_firstIdle wsX2_readSlips := goodIn_r _ [6, 7, 8, 9, 10, 11, 5, 12, 13, 14, 15, 16, 17, 18, 19, 20, 21, 22, 23, 24, 25, 26, 27, 28, 29, 30, 31, 32, 33, 34, 62, 63, 64] (by decide +kernel) (by decide +kernel)
set_option maxRecDepth 20000 in
theorem gX9_firstIdle_X2_readSlips : GoodIn wsX9_firstIdle (wsV RX9 91 RX2 yX2_readSlips wsX2_readSlips) := goodIn_app (goodIn_of _ (by decide +kernel)) ggX9_firstIdle_X2_readSlips
set_option maxRecDepth 20000 in
theorem ggX9_firstIdle_X2_slipAt : GoodIn wsX9_firstIdle wsX2_slipAt := goodIn_r _ [38, 7, 62, 63, 64] (by decide +kernel) (by decide +kernel)
set_option maxRecDepth 20000 in
theorem gX9_firstIdle_X2_slipAt : GoodIn wsX9_firstIdle (wsV RX9 94 RX2 yX2_slipAt wsX2_slipAt) := goodIn_app (goodIn_of _ (by decide +kernel)) ggX9_firstIdle_X2_slipAt
set_option maxRecDepth 20000 in
theorem ggX9_firstIdle_X6_after : GoodIn wsX9_firstIdle wsX6_after := goodIn_r _ [41, 42, 43, 44, 45, 46, 47, 48, 49, 50, 51, 52, 53, 54, 55, 56] (by decide +kernel) (by decide +kernel)
set_option maxRecDepth 20000 in
theorem gX9_firstIdle_X6_after : GoodIn wsX9_firstIdle (va_wsS RX9 97 yX6_after wsX6_after) := goodIn_app (goodIn_of _ (by decide +kernel)) ggX9_firstIdle_X6_after
theorem dX9_firstIdle_0 : decode cX9_firstIdle 0 = .ok (.aload_n 0, 1) := by decide +kernel
theorem dX9_firstIdle_1 : decode cX9_firstIdle 1 = .ok (.getfield 10, 3) := by decide +kernel
theorem dX9_firstIdle_4 : decode cX9_firstIdle 4 = .ok (.invokevirtual 91, 3) := by decide +kernel
theorem dX9_firstIdle_7 : decode cX9_firstIdle 7 = .ok (.istore_n 2, 1) := by decide +kernel
theorem dX9_firstIdle_8 : decode cX9_firstIdle 8 = .ok (.iload_n 1, 1) := by decide +kernel
theorem dX9_firstIdle_9 : decode cX9_firstIdle 9 = .ok (.istore_n 3, 1) := by decide +kernel
theorem dX9_firstIdle_10 : decode cX9_firstIdle 10 = .ok (.iconst 0, 1) := by decide +kernel
theorem dX9_firstIdle_11 : decode cX9_firstIdle 11 = .ok (.istore 4, 2) := by decide +kernel
theorem dX9_firstIdle_13 : decode cX9_firstIdle 13 = .ok (.iload 4, 2) := by decide +kernel
theorem dX9_firstIdle_15 : decode cX9_firstIdle 15 = .ok (.iload_n 2, 1) := by decide +kernel
theorem dX9_firstIdle_16 : decode cX9_firstIdle 16 = .ok (.if_icmp .ge 36, 3) := by decide +kernel
theorem dX9_firstIdle_19 : decode cX9_firstIdle 19 = .ok (.iload_n 3, 1) := by decide +kernel
theorem dX9_firstIdle_20 : decode cX9_firstIdle 20 = .ok (.aload_n 0, 1) := by decide +kernel
theorem dX9_firstIdle_21 : decode cX9_firstIdle 21 = .ok (.getfield 10, 3) := by decide +kernel
theorem dX9_firstIdle_24 : decode cX9_firstIdle 24 = .ok (.iload 4, 2) := by decide +kernel
theorem dX9_firstIdle_26 : decode cX9_firstIdle 26 = .ok (.invokevirtual 94, 3) := by decide +kernel
theorem dX9_firstIdle_29 : decode cX9_firstIdle 29 = .ok (.invokestatic 97, 3) := by decide +kernel
theorem dX9_firstIdle_32 : decode cX9_firstIdle 32 = .ok (.istore 5, 2) := by decide +kernel
theorem dX9_firstIdle_34 : decode cX9_firstIdle 34 = .ok (.iload 5, 2) := by decide +kernel
theorem dX9_firstIdle_36 : decode cX9_firstIdle 36 = .ok (.iload_n 3, 1) := by decide +kernel
theorem dX9_firstIdle_37 : decode cX9_firstIdle 37 = .ok (.if_icmp .ne 6, 3) := by decide +kernel
theorem dX9_firstIdle_40 : decode cX9_firstIdle 40 = .ok (.iload 4, 2) := by decide +kernel
theorem dX9_firstIdle_42 : decode cX9_firstIdle 42 = .ok (.ireturn, 1) := by decide +kernel
theorem dX9_firstIdle_43 : decode cX9_firstIdle 43 = .ok (.iload 5, 2) := by decide +kernel
theorem dX9_firstIdle_45 : decode cX9_firstIdle 45 = .ok (.istore_n 3, 1) := by decide +kernel
theorem dX9_firstIdle_46 : decode cX9_firstIdle 46 = .ok (.iinc 4 1, 3) := by decide +kernel
theorem dX9_firstIdle_49 : decode cX9_firstIdle 49 = .ok (.goto (-36), 3) := by decide +kernel
theorem dX9_firstIdle_52 : decode cX9_firstIdle 52 = .ok (.bipush (-6), 2) := by decide +kernel
theorem dX9_firstIdle_54 : decode cX9_firstIdle 54 = .ok (.ireturn, 1) := by decide +kernel
set_option maxRecDepth 20000 in
theorem ggX9_afterDraw_X6_inOrder : GoodIn wsX9_afterDraw wsX6_inOrder := goodIn_r _ [4, 5] (by decide +kernel) (by decide +kernel)
set_option maxRecDepth 20000 in
theorem gX9_afterDraw_X6_inOrder : GoodIn wsX9_afterDraw (va_wsS RX9 206 yX6_inOrder wsX6_inOrder) := goodIn_app (goodIn_of _ (by decide +kernel)) ggX9_afterDraw_X6_inOrder
set_option maxRecDepth 20000 in
theorem ggX9_afterDraw_X9_isSome : GoodIn wsX9_afterDraw wsX9_isSome := goodIn_r _ [10, 11, 12, 13, 14, 3, 15, 16, 17, 18, 19, 20, 21, 22, 23, 24, 25, 26, 27, 28, 29, 30, 31, 32, 33, 34, 35, 36, 37, 38, 39, 40, 41, 42, 43, 44, 45, 46, 47] (by decide +kernel) (by decide +kernel)
set_option maxRecDepth 20000 in
theorem gX9_afterDraw_X9_isSome : GoodIn wsX9_afterDraw (wsV RX9 209 RX9 yX9_isSome wsX9_isSome) := goodIn_app (goodIn_of _ (by decide +kernel)) ggX9_afterDraw_X9_isSome
set_option maxRecDepth 20000 in
theorem ggX9_afterDraw_X6_after : GoodIn wsX9_afterDraw wsX6_after := goodIn_r _ [21, 22, 23, 24, 25, 26, 27, 28, 29, 30, 31, 32, 33, 34, 35, 36] (by decide +kernel) (by decide +kernel)
set_option maxRecDepth 20000 in
theorem gX9_afterDraw_X6_after : GoodIn wsX9_afterDraw (va_wsS RX9 97 yX6_after wsX6_after) := goodIn_app (goodIn_of _ (by decide +kernel)) ggX9_afterDraw_X6_after
theorem dX9_afterDraw_0 : decode cX9_afterDraw 0 = .ok (.iconst 0, 1) := by decide +kernel
theorem dX9_afterDraw_1 : decode cX9_afterDraw 1 = .ok (.istore 4, 2) := by decide +kernel
theorem dX9_afterDraw_3 : decode cX9_afterDraw 3 = .ok (.iconst 0, 1) := by decide +kernel
theorem dX9_afterDraw_4 : decode cX9_afterDraw 4 = .ok (.istore 5, 2) := by decide +kernel
theorem dX9_afterDraw_6 : decode cX9_afterDraw 6 = .ok (.iload 5, 2) := by decide +kernel
theorem dX9_afterDraw_8 : decode cX9_afterDraw 8 = .ok (.bipush 40, 2) := by decide +kernel
theorem dX9_afterDraw_10 : decode cX9_afterDraw 10 = .ok (.if_icmp .ge 26, 3) := by decide +kernel
theorem dX9_afterDraw_13 : decode cX9_afterDraw 13 = .ok (.aload_n 0, 1) := by decide +kernel
theorem dX9_afterDraw_14 : decode cX9_afterDraw 14 = .ok (.iload_n 1, 1) := by decide +kernel
theorem dX9_afterDraw_15 : decode cX9_afterDraw 15 = .ok (.iload 5, 2) := by decide +kernel
theorem dX9_afterDraw_17 : decode cX9_afterDraw 17 = .ok (.invokestatic 206, 3) := by decide +kernel
theorem dX9_afterDraw_20 : decode cX9_afterDraw 20 = .ok (.iload_n 3, 1) := by decide +kernel
theorem dX9_afterDraw_21 : decode cX9_afterDraw 21 = .ok (.invokevirtual 209, 3) := by decide +kernel
theorem dX9_afterDraw_24 : decode cX9_afterDraw 24 = .ok (.ifCond .eq 6, 3) := by decide +kernel
theorem dX9_afterDraw_27 : decode cX9_afterDraw 27 = .ok (.iinc 4 1, 3) := by decide +kernel
theorem dX9_afterDraw_30 : decode cX9_afterDraw 30 = .ok (.iinc 5 1, 3) := by decide +kernel
theorem dX9_afterDraw_33 : decode cX9_afterDraw 33 = .ok (.goto (-27), 3) := by decide +kernel
theorem dX9_afterDraw_36 : decode cX9_afterDraw 36 = .ok (.iload 4, 2) := by decide +kernel
theorem dX9_afterDraw_38 : decode cX9_afterDraw 38 = .ok (.ifCond .ne 5, 3) := by decide +kernel
theorem dX9_afterDraw_41 : decode cX9_afterDraw 41 = .ok (.iload_n 1, 1) := by decide +kernel
theorem dX9_afterDraw_42 : decode cX9_afterDraw 42 = .ok (.ireturn, 1) := by decide +kernel
theorem dX9_afterDraw_43 : decode cX9_afterDraw 43 = .ok (.iload_n 2, 1) := by decide +kernel
theorem dX9_afterDraw_44 : decode cX9_afterDraw 44 = .ok (.iload 4, 2) := by decide +kernel
theorem dX9_afterDraw_46 : decode cX9_afterDraw 46 = .ok (.irem, 1) := by decide +kernel
theorem dX9_afterDraw_47 : decode cX9_afterDraw 47 = .ok (.istore 5, 2) := by decide +kernel
theorem dX9_afterDraw_49 : decode cX9_afterDraw 49 = .ok (.iconst 0, 1) := by decide +kernel
theorem dX9_afterDraw_50 : decode cX9_afterDraw 50 = .ok (.istore 6, 2) := by decide +kernel
theorem dX9_afterDraw_52 : decode cX9_afterDraw 52 = .ok (.iload 6, 2) := by decide +kernel
theorem dX9_afterDraw_54 : decode cX9_afterDraw 54 = .ok (.bipush 40, 2) := by decide +kernel
theorem dX9_afterDraw_56 : decode cX9_afterDraw 56 = .ok (.if_icmp .ge 42, 3) := by decide +kernel
theorem dX9_afterDraw_59 : decode cX9_afterDraw 59 = .ok (.iload 6, 2) := by decide +kernel
theorem dX9_afterDraw_61 : decode cX9_afterDraw 61 = .ok (.invokestatic 206, 3) := by decide +kernel
theorem dX9_afterDraw_64 : decode cX9_afterDraw 64 = .ok (.istore 7, 2) := by decide +kernel
theorem dX9_afterDraw_66 : decode cX9_afterDraw 66 = .ok (.aload_n 0, 1) := by decide +kernel
theorem dX9_afterDraw_67 : decode cX9_afterDraw 67 = .ok (.iload_n 1, 1) := by decide +kernel
theorem dX9_afterDraw_68 : decode cX9_afterDraw 68 = .ok (.iload 7, 2) := by decide +kernel
theorem dX9_afterDraw_70 : decode cX9_afterDraw 70 = .ok (.iload_n 3, 1) := by decide +kernel
theorem dX9_afterDraw_71 : decode cX9_afterDraw 71 = .ok (.invokevirtual 209, 3) := by decide +kernel
theorem dX9_afterDraw_74 : decode cX9_afterDraw 74 = .ok (.ifCond .eq 18, 3) := by decide +kernel
theorem dX9_afterDraw_77 : decode cX9_afterDraw 77 = .ok (.iload 5, 2) := by decide +kernel
theorem dX9_afterDraw_79 : decode cX9_afterDraw 79 = .ok (.ifCond .ne 10, 3) := by decide +kernel
theorem dX9_afterDraw_82 : decode cX9_afterDraw 82 = .ok (.iload_n 1, 1) := by decide +kernel
theorem dX9_afterDraw_83 : decode cX9_afterDraw 83 = .ok (.iload 7, 2) := by decide +kernel
theorem dX9_afterDraw_85 : decode cX9_afterDraw 85 = .ok (.invokestatic 97, 3) := by decide +kernel
theorem dX9_afterDraw_88 : decode cX9_afterDraw 88 = .ok (.ireturn, 1) := by decide +kernel
theorem dX9_afterDraw_89 : decode cX9_afterDraw 89 = .ok (.iinc 5 (-1), 3) := by decide +kernel
theorem dX9_afterDraw_92 : decode cX9_afterDraw 92 = .ok (.iinc 6 1, 3) := by decide +kernel
theorem dX9_afterDraw_95 : decode cX9_afterDraw 95 = .ok (.goto (-43), 3) := by decide +kernel
theorem dX9_afterDraw_98 : decode cX9_afterDraw 98 = .ok (.iload_n 1, 1) := by decide +kernel
theorem dX9_afterDraw_99 : decode cX9_afterDraw 99 = .ok (.ireturn, 1) := by decide +kernel
set_option maxRecDepth 20000 in
theorem ggX9_isSome_X6_isMade : GoodIn wsX9_isSome wsX6_isMade := goodIn_r _ [6, 7, 8, 5, 9] (by decide +kernel) (by decide +kernel)
set_option maxRecDepth 20000 in
theorem gX9_isSome_X6_isMade : GoodIn wsX9_isSome (va_wsS RX9 213 yX6_isMade wsX6_isMade) := goodIn_app (goodIn_of _ (by decide +kernel)) ggX9_isSome_X6_isMade
set_option maxRecDepth 20000 in
theorem ggX9_isSome_X6_after : GoodIn wsX9_isSome wsX6_after := goodIn_r _ [12, 13, 14, 15, 16, 17, 18, 19, 20, 21, 22, 23, 24, 25, 26, 27] (by decide +kernel) (by decide +kernel)
set_option maxRecDepth 20000 in
theorem gX9_isSome_X6_after : GoodIn wsX9_isSome (va_wsS RX9 97 yX6_after wsX6_after) := goodIn_app (goodIn_of _ (by decide +kernel)) ggX9_isSome_X6_after
theorem dX9_isSome_0 : decode cX9_isSome 0 = .ok (.iload_n 2, 1) := by decide +kernel
theorem dX9_isSome_1 : decode cX9_isSome 1 = .ok (.iload_n 3, 1) := by decide +kernel
theorem dX9_isSome_2 : decode cX9_isSome 2 = .ok (.aload_n 0, 1) := by decide +kernel
theorem dX9_isSome_3 : decode cX9_isSome 3 = .ok (.getfield 19, 3) := by decide +kernel
theorem dX9_isSome_6 : decode cX9_isSome 6 = .ok (.getfield 27, 3) := by decide +kernel
theorem dX9_isSome_9 : decode cX9_isSome 9 = .ok (.invokestatic 213, 3) := by decide +kernel
theorem dX9_isSome_12 : decode cX9_isSome 12 = .ok (.ifCond .eq 16, 3) := by decide +kernel
theorem dX9_isSome_15 : decode cX9_isSome 15 = .ok (.iload_n 1, 1) := by decide +kernel
theorem dX9_isSome_16 : decode cX9_isSome 16 = .ok (.iload_n 2, 1) := by decide +kernel
theorem dX9_isSome_17 : decode cX9_isSome 17 = .ok (.invokestatic 97, 3) := by decide +kernel
theorem dX9_isSome_20 : decode cX9_isSome 20 = .ok (.iload_n 1, 1) := by decide +kernel
theorem dX9_isSome_21 : decode cX9_isSome 21 = .ok (.if_icmp .eq 7, 3) := by decide +kernel
theorem dX9_isSome_24 : decode cX9_isSome 24 = .ok (.iconst 1, 1) := by decide +kernel
theorem dX9_isSome_25 : decode cX9_isSome 25 = .ok (.goto 4, 3) := by decide +kernel
theorem dX9_isSome_28 : decode cX9_isSome 28 = .ok (.iconst 0, 1) := by decide +kernel
theorem dX9_isSome_29 : decode cX9_isSome 29 = .ok (.ireturn, 1) := by decide +kernel
set_option maxRecDepth 20000 in
theorem ggX9_readySearch_X4_init : GoodIn wsX9_readySearch wsX4_init := goodIn_r _ [6, 7, 8, 9, 10, 11, 12, 13, 19, 20, 21] (by decide +kernel) (by decide +kernel)
set_option maxRecDepth 20000 in
theorem gX9_readySearch_X4_init_n220 : GoodIn wsX9_readySearch (wsX4_init) := ggX9_readySearch_X4_init
theorem dX9_readySearch_0 : decode cX9_readySearch 0 = .ok (.aload_n 0, 1) := by decide +kernel
theorem dX9_readySearch_1 : decode cX9_readySearch 1 = .ok (.getfield 216, 3) := by decide +kernel
theorem dX9_readySearch_4 : decode cX9_readySearch 4 = .ok (.ifnonnull 14, 3) := by decide +kernel
theorem dX9_readySearch_7 : decode cX9_readySearch 7 = .ok (.aload_n 0, 1) := by decide +kernel
theorem dX9_readySearch_8 : decode cX9_readySearch 8 = .ok (.new 151, 3) := by decide +kernel
theorem dX9_readySearch_11 : decode cX9_readySearch 11 = .ok (.dup, 1) := by decide +kernel
theorem dX9_readySearch_12 : decode cX9_readySearch 12 = .ok (.invokespecial 220, 3) := by decide +kernel
theorem dX9_readySearch_15 : decode cX9_readySearch 15 = .ok (.putfield 216, 3) := by decide +kernel
theorem dX9_readySearch_18 : decode cX9_readySearch 18 = .ok (.aload_n 0, 1) := by decide +kernel
theorem dX9_readySearch_19 : decode cX9_readySearch 19 = .ok (.getfield 216, 3) := by decide +kernel
theorem dX9_readySearch_22 : decode cX9_readySearch 22 = .ok (.areturn, 1) := by decide +kernel
set_option maxRecDepth 20000 in
theorem ggX9_tableOf_X3_codeOf : GoodIn wsX9_tableOf wsX3_codeOf := goodIn_r _ [7, 8, 101, 102, 103, 104, 105, 106] (by decide +kernel) (by decide +kernel)
set_option maxRecDepth 20000 in
theorem gX9_tableOf_X3_codeOf : GoodIn wsX9_tableOf (wsV RX9 65 RX3 yX3_codeOf wsX3_codeOf) := goodIn_app (goodIn_of _ (by decide +kernel)) ggX9_tableOf_X3_codeOf
set_option maxRecDepth 20000 in
theorem ggX9_tableOf_X0_onlyMap : GoodIn wsX9_tableOf wsX0_onlyMap := goodIn_r _ [12, 13, 14, 15, 16, 17, 18, 19, 20, 21, 22, 23, 24, 25, 11, 26] (by decide +kernel) (by decide +kernel)
set_option maxRecDepth 20000 in
theorem gX9_tableOf_X0_onlyMap : GoodIn wsX9_tableOf (va_wsS RX9 221 yX0_onlyMap wsX0_onlyMap) := goodIn_app (goodIn_of _ (by decide +kernel)) ggX9_tableOf_X0_onlyMap
set_option maxRecDepth 20000 in
theorem ggX9_tableOf_X9_readySearch : GoodIn wsX9_tableOf wsX9_readySearch := goodIn_r _ [31, 32, 33, 34, 35, 36, 37, 38, 39, 40, 41, 42, 43, 44, 96, 97, 98, 99, 100, 107, 108, 109] (by decide +kernel) (by decide +kernel)
set_option maxRecDepth 20000 in
theorem gX9_tableOf_X9_readySearch : GoodIn wsX9_tableOf (wsV RX9 146 RX9 yX9_readySearch wsX9_readySearch) := goodIn_app (goodIn_of _ (by decide +kernel)) ggX9_tableOf_X9_readySearch
set_option maxRecDepth 20000 in
theorem ggX9_tableOf_X3_kindsOf : GoodIn wsX9_tableOf wsX3_kindsOf := goodIn_r _ [48, 49, 101, 102, 103, 104, 105, 106] (by decide +kernel) (by decide +kernel)
set_option maxRecDepth 20000 in
theorem gX9_tableOf_X3_kindsOf : GoodIn wsX9_tableOf (wsV RX9 82 RX3 yX3_kindsOf wsX3_kindsOf) := goodIn_app (goodIn_of _ (by decide +kernel)) ggX9_tableOf_X3_kindsOf
set_option maxRecDepth 20000 in
theorem ggX9_tableOf_X4_toward : GoodIn wsX9_tableOf wsX4_toward := goodIn_r _ [53, 42, 54, 55, 56, 57, 58, 59, 60, 61, 62, 63, 64, 35, 65, 66, 41, 67, 68, 69, 70, 39, 40, 71, 72, 43, 73, 74, 75, 76, 77, 78, 79, 80, 81, 82, 83, 84, 85, 86, 87, 88, 89, 90, 91, 92, 93, 11, 94, 95, 18, 15, 19, 20, 107, 108, 109, 110, 111, 112, 113, 114, 115, 116] (by decide +kernel) (by decide +kernel)
set_option maxRecDepth 20000 in
theorem gX9_tableOf_X4_toward : GoodIn wsX9_tableOf (wsV RX9 168 RX4 yX4_toward wsX4_toward) := goodIn_app (goodIn_of _ (by decide +kernel)) ggX9_tableOf_X4_toward
theorem dX9_tableOf_0 : decode cX9_tableOf 0 = .ok (.aload_n 0, 1) := by decide +kernel
theorem dX9_tableOf_1 : decode cX9_tableOf 1 = .ok (.getfield 19, 3) := by decide +kernel
theorem dX9_tableOf_4 : decode cX9_tableOf 4 = .ok (.iload_n 1, 1) := by decide +kernel
theorem dX9_tableOf_5 : decode cX9_tableOf 5 = .ok (.invokevirtual 65, 3) := by decide +kernel
theorem dX9_tableOf_8 : decode cX9_tableOf 8 = .ok (.aload_n 0, 1) := by decide +kernel
theorem dX9_tableOf_9 : decode cX9_tableOf 9 = .ok (.getfield 19, 3) := by decide +kernel
theorem dX9_tableOf_12 : decode cX9_tableOf 12 = .ok (.getfield 27, 3) := by decide +kernel
theorem dX9_tableOf_15 : decode cX9_tableOf 15 = .ok (.invokestatic 221, 3) := by decide +kernel
theorem dX9_tableOf_18 : decode cX9_tableOf 18 = .ok (.istore_n 3, 1) := by decide +kernel
theorem dX9_tableOf_19 : decode cX9_tableOf 19 = .ok (.aload_n 0, 1) := by decide +kernel
theorem dX9_tableOf_20 : decode cX9_tableOf 20 = .ok (.invokevirtual 146, 3) := by decide +kernel
theorem dX9_tableOf_23 : decode cX9_tableOf 23 = .ok (.iload_n 3, 1) := by decide +kernel
theorem dX9_tableOf_24 : decode cX9_tableOf 24 = .ok (.aload_n 0, 1) := by decide +kernel
theorem dX9_tableOf_25 : decode cX9_tableOf 25 = .ok (.getfield 19, 3) := by decide +kernel
theorem dX9_tableOf_28 : decode cX9_tableOf 28 = .ok (.iload_n 2, 1) := by decide +kernel
theorem dX9_tableOf_29 : decode cX9_tableOf 29 = .ok (.invokevirtual 82, 3) := by decide +kernel
theorem dX9_tableOf_32 : decode cX9_tableOf 32 = .ok (.aload_n 0, 1) := by decide +kernel
theorem dX9_tableOf_33 : decode cX9_tableOf 33 = .ok (.getfield 19, 3) := by decide +kernel
theorem dX9_tableOf_36 : decode cX9_tableOf 36 = .ok (.getfield 27, 3) := by decide +kernel
theorem dX9_tableOf_39 : decode cX9_tableOf 39 = .ok (.invokevirtual 168, 3) := by decide +kernel
theorem dX9_tableOf_42 : decode cX9_tableOf 42 = .ok (.areturn, 1) := by decide +kernel
set_option maxRecDepth 20000 in
theorem ggX9_noteAllTo_X9_tableOf : GoodIn wsX9_noteAllTo wsX9_tableOf := goodIn_r _ [7, 2, 8, 9, 10, 11, 12, 13, 14, 15, 16, 17, 18, 19, 20, 21, 22, 23, 24, 25, 26, 27, 28, 29, 30, 31, 32, 33, 34, 35, 6, 36, 37, 38, 39, 40, 41, 42, 43, 44, 45, 46, 47, 48, 49, 50, 51, 52, 53, 54, 55, 56, 57, 58, 59, 60, 61, 62, 63, 64, 65, 66, 67, 68, 69, 70, 71, 72, 73, 74, 75, 76, 77, 78, 79, 80, 81, 82, 83, 84, 85, 86, 87, 88, 89, 90, 91, 92, 93, 94, 95, 96, 97, 98, 99, 100, 137, 138, 139, 140, 141, 142, 143, 144, 145, 146, 147, 148, 149, 150, 151, 152, 153, 154, 155, 156, 157] (by decide +kernel) (by decide +kernel)
set_option maxRecDepth 20000 in
theorem gX9_noteAllTo_X9_tableOf : GoodIn wsX9_noteAllTo (wsV RX9 102 RX9 yX9_tableOf wsX9_tableOf) := goodIn_app (goodIn_of _ (by decide +kernel)) ggX9_noteAllTo_X9_tableOf
set_option maxRecDepth 20000 in
theorem ggX9_noteAllTo_X9_isOf : GoodIn wsX9_noteAllTo wsX9_isOf := goodIn_r _ [103, 104, 105, 6, 106] (by decide +kernel) (by decide +kernel)
set_option maxRecDepth 20000 in
theorem gX9_noteAllTo_X9_isOf : GoodIn wsX9_noteAllTo (va_wsS RX9 132 yX9_isOf wsX9_isOf) := goodIn_app (goodIn_of _ (by decide +kernel)) ggX9_noteAllTo_X9_isOf
set_option maxRecDepth 20000 in
theorem ggX9_noteAllTo_X3_codeOf : GoodIn wsX9_noteAllTo wsX3_codeOf := goodIn_r _ [13, 14, 142, 143, 144, 145, 146, 147] (by decide +kernel) (by decide +kernel)
set_option maxRecDepth 20000 in
theorem gX9_noteAllTo_X3_codeOf : GoodIn wsX9_noteAllTo (wsV RX9 65 RX3 yX3_codeOf wsX3_codeOf) := goodIn_app (goodIn_of _ (by decide +kernel)) ggX9_noteAllTo_X3_codeOf
set_option maxRecDepth 20000 in
theorem ggX9_noteAllTo_X7_slipsFrom : GoodIn wsX9_noteAllTo wsX7_slipsFrom := goodIn_r _ [110, 111, 112, 113, 62, 114, 66, 83, 84, 78, 115, 116, 21, 117, 23, 24, 25, 26, 118, 119, 120, 121, 77, 122, 123, 124, 125, 65, 100, 126, 28, 29, 127, 128, 129, 130, 93, 94, 95, 96, 151, 152, 153, 154, 155, 156, 157] (by decide +kernel) (by decide +kernel)
set_option maxRecDepth 20000 in
theorem gX9_noteAllTo_X7_slipsFrom : GoodIn wsX9_noteAllTo (wsV RX9 110 RX7 yX7_slipsFrom wsX7_slipsFrom) := goodIn_app (goodIn_of _ (by decide +kernel)) ggX9_noteAllTo_X7_slipsFrom
set_option maxRecDepth 20000 in
theorem ggX9_noteAllTo_X8_note : GoodIn wsX9_noteAllTo wsX8_note := goodIn_r _ [135, 136, 105, 6, 106, 158, 159, 160, 161, 162] (by decide +kernel) (by decide +kernel)
set_option maxRecDepth 20000 in
theorem gX9_noteAllTo_X8_note : GoodIn wsX9_noteAllTo (wsV RX9 226 RX8 yX8_note wsX8_note) := goodIn_app (goodIn_of _ (by decide +kernel)) ggX9_noteAllTo_X8_note
theorem dX9_noteAllTo_0 : decode cX9_noteAllTo 0 = .ok (.aload_n 0, 1) := by decide +kernel
theorem dX9_noteAllTo_1 : decode cX9_noteAllTo 1 = .ok (.iload_n 1, 1) := by decide +kernel
theorem dX9_noteAllTo_2 : decode cX9_noteAllTo 2 = .ok (.iload_n 3, 1) := by decide +kernel
theorem dX9_noteAllTo_3 : decode cX9_noteAllTo 3 = .ok (.invokevirtual 102, 3) := by decide +kernel
theorem dX9_noteAllTo_6 : decode cX9_noteAllTo 6 = .ok (.astore 4, 2) := by decide +kernel
theorem dX9_noteAllTo_8 : decode cX9_noteAllTo 8 = .ok (.iconst 0, 1) := by decide +kernel
theorem dX9_noteAllTo_9 : decode cX9_noteAllTo 9 = .ok (.istore 5, 2) := by decide +kernel
theorem dX9_noteAllTo_11 : decode cX9_noteAllTo 11 = .ok (.iload 5, 2) := by decide +kernel
theorem dX9_noteAllTo_13 : decode cX9_noteAllTo 13 = .ok (.bipush 6, 2) := by decide +kernel
theorem dX9_noteAllTo_15 : decode cX9_noteAllTo 15 = .ok (.if_icmp .ge 49, 3) := by decide +kernel
theorem dX9_noteAllTo_18 : decode cX9_noteAllTo 18 = .ok (.iload_n 2, 1) := by decide +kernel
theorem dX9_noteAllTo_19 : decode cX9_noteAllTo 19 = .ok (.iload 5, 2) := by decide +kernel
theorem dX9_noteAllTo_21 : decode cX9_noteAllTo 21 = .ok (.invokestatic 132, 3) := by decide +kernel
theorem dX9_noteAllTo_24 : decode cX9_noteAllTo 24 = .ok (.ifCond .eq 34, 3) := by decide +kernel
theorem dX9_noteAllTo_27 : decode cX9_noteAllTo 27 = .ok (.aload_n 0, 1) := by decide +kernel
theorem dX9_noteAllTo_28 : decode cX9_noteAllTo 28 = .ok (.getfield 125, 3) := by decide +kernel
theorem dX9_noteAllTo_31 : decode cX9_noteAllTo 31 = .ok (.ifnull 27, 3) := by decide +kernel
theorem dX9_noteAllTo_34 : decode cX9_noteAllTo 34 = .ok (.aload_n 0, 1) := by decide +kernel
theorem dX9_noteAllTo_35 : decode cX9_noteAllTo 35 = .ok (.getfield 125, 3) := by decide +kernel
theorem dX9_noteAllTo_38 : decode cX9_noteAllTo 38 = .ok (.iload 5, 2) := by decide +kernel
theorem dX9_noteAllTo_40 : decode cX9_noteAllTo 40 = .ok (.iload_n 1, 1) := by decide +kernel
theorem dX9_noteAllTo_41 : decode cX9_noteAllTo 41 = .ok (.aload 4, 2) := by decide +kernel
theorem dX9_noteAllTo_43 : decode cX9_noteAllTo 43 = .ok (.aload_n 0, 1) := by decide +kernel
theorem dX9_noteAllTo_44 : decode cX9_noteAllTo 44 = .ok (.getfield 19, 3) := by decide +kernel
theorem dX9_noteAllTo_47 : decode cX9_noteAllTo 47 = .ok (.iload 5, 2) := by decide +kernel
theorem dX9_noteAllTo_49 : decode cX9_noteAllTo 49 = .ok (.invokevirtual 65, 3) := by decide +kernel
theorem dX9_noteAllTo_52 : decode cX9_noteAllTo 52 = .ok (.invokevirtual 110, 3) := by decide +kernel
theorem dX9_noteAllTo_55 : decode cX9_noteAllTo 55 = .ok (.invokevirtual 226, 3) := by decide +kernel
theorem dX9_noteAllTo_58 : decode cX9_noteAllTo 58 = .ok (.iinc 5 1, 3) := by decide +kernel
theorem dX9_noteAllTo_61 : decode cX9_noteAllTo 61 = .ok (.goto (-50), 3) := by decide +kernel
theorem dX9_noteAllTo_64 : decode cX9_noteAllTo 64 = .ok (.return_, 1) := by decide +kernel
set_option maxRecDepth 20000 in
theorem ggX9_rowAnswer_X7_slipsFrom : GoodIn wsX9_rowAnswer wsX7_slipsFrom := goodIn_r _ [6, 7, 8, 9, 5, 10, 11, 12, 13, 14, 15, 16, 17, 18, 19, 20, 21, 22, 23, 24, 25, 26, 27, 28, 29, 30, 31, 32, 33, 34, 35, 36, 37, 38, 39, 40, 41, 42, 43, 44, 85, 86, 87, 88, 89, 90, 91] (by decide +kernel) (by decide +kernel)
set_option maxRecDepth 20000 in
theorem gX9_rowAnswer_X7_slipsFrom : GoodIn wsX9_rowAnswer (wsV RX9 110 RX7 yX7_slipsFrom wsX7_slipsFrom) := goodIn_app (goodIn_of _ (by decide +kernel)) ggX9_rowAnswer_X7_slipsFrom
set_option maxRecDepth 20000 in
theorem ggX9_rowAnswer_X3_kindsOf : GoodIn wsX9_rowAnswer wsX3_kindsOf := goodIn_r _ [49, 50, 92, 93, 94, 95, 96, 97] (by decide +kernel) (by decide +kernel)
set_option maxRecDepth 20000 in
theorem gX9_rowAnswer_X3_kindsOf : GoodIn wsX9_rowAnswer (wsV RX9 82 RX3 yX3_kindsOf wsX3_kindsOf) := goodIn_app (goodIn_of _ (by decide +kernel)) ggX9_rowAnswer_X3_kindsOf
set_option maxRecDepth 20000 in
theorem ggX9_rowAnswer_X9_firstNearer : GoodIn wsX9_rowAnswer wsX9_firstNearer := goodIn_r _ [55, 1, 56, 57, 24, 25, 5, 26, 27, 58, 59, 60, 61, 62, 63, 64, 65, 66, 67, 68, 69, 70, 71, 72, 73, 17, 74, 19, 20, 21, 22, 75, 35, 36, 76, 77, 78, 79, 80, 81, 82, 83, 84, 92, 93, 94, 95, 96, 97, 85, 86, 87, 88, 89, 90, 91] (by decide +kernel) (by decide +kernel)
set_option maxRecDepth 20000 in
theorem gX9_rowAnswer_X9_firstNearer : GoodIn wsX9_rowAnswer (wsV RX9 229 RX9 yX9_firstNearer wsX9_firstNearer) := goodIn_app (goodIn_of _ (by decide +kernel)) ggX9_rowAnswer_X9_firstNearer
set_option maxRecDepth 20000 in
theorem ggX9_rowAnswer_X6_after : GoodIn wsX9_rowAnswer wsX6_after := goodIn_r _ [71, 72, 73, 17, 74, 19, 20, 21, 22, 75, 35, 36, 76, 77, 78, 79] (by decide +kernel) (by decide +kernel)
set_option maxRecDepth 20000 in
theorem gX9_rowAnswer_X6_after : GoodIn wsX9_rowAnswer (va_wsS RX9 97 yX6_after wsX6_after) := goodIn_app (goodIn_of _ (by decide +kernel)) ggX9_rowAnswer_X6_after
theorem dX9_rowAnswer_0 : decode cX9_rowAnswer 0 = .ok (.iload 4, 2) := by decide +kernel
theorem dX9_rowAnswer_2 : decode cX9_rowAnswer 2 = .ok (.iconst (-1), 1) := by decide +kernel
theorem dX9_rowAnswer_3 : decode cX9_rowAnswer 3 = .ok (.if_icmp .ne 9, 3) := by decide +kernel
theorem dX9_rowAnswer_6 : decode cX9_rowAnswer 6 = .ok (.aload_n 1, 1) := by decide +kernel
theorem dX9_rowAnswer_7 : decode cX9_rowAnswer 7 = .ok (.iload_n 2, 1) := by decide +kernel
theorem dX9_rowAnswer_8 : decode cX9_rowAnswer 8 = .ok (.invokevirtual 110, 3) := by decide +kernel
theorem dX9_rowAnswer_11 : decode cX9_rowAnswer 11 = .ok (.ireturn, 1) := by decide +kernel
theorem dX9_rowAnswer_12 : decode cX9_rowAnswer 12 = .ok (.iload 4, 2) := by decide +kernel
theorem dX9_rowAnswer_14 : decode cX9_rowAnswer 14 = .ok (.ifCond .lt 13, 3) := by decide +kernel
theorem dX9_rowAnswer_17 : decode cX9_rowAnswer 17 = .ok (.iload 4, 2) := by decide +kernel
theorem dX9_rowAnswer_19 : decode cX9_rowAnswer 19 = .ok (.aload_n 1, 1) := by decide +kernel
theorem dX9_rowAnswer_20 : decode cX9_rowAnswer 20 = .ok (.iload_n 2, 1) := by decide +kernel
theorem dX9_rowAnswer_21 : decode cX9_rowAnswer 21 = .ok (.invokevirtual 110, 3) := by decide +kernel
theorem dX9_rowAnswer_24 : decode cX9_rowAnswer 24 = .ok (.if_icmp .lt 6, 3) := by decide +kernel
theorem dX9_rowAnswer_27 : decode cX9_rowAnswer 27 = .ok (.bipush (-6), 2) := by decide +kernel
theorem dX9_rowAnswer_29 : decode cX9_rowAnswer 29 = .ok (.ireturn, 1) := by decide +kernel
theorem dX9_rowAnswer_30 : decode cX9_rowAnswer 30 = .ok (.iload_n 2, 1) := by decide +kernel
theorem dX9_rowAnswer_31 : decode cX9_rowAnswer 31 = .ok (.istore 5, 2) := by decide +kernel
theorem dX9_rowAnswer_33 : decode cX9_rowAnswer 33 = .ok (.bipush (-6), 2) := by decide +kernel
theorem dX9_rowAnswer_35 : decode cX9_rowAnswer 35 = .ok (.istore 6, 2) := by decide +kernel
theorem dX9_rowAnswer_37 : decode cX9_rowAnswer 37 = .ok (.iconst 0, 1) := by decide +kernel
theorem dX9_rowAnswer_38 : decode cX9_rowAnswer 38 = .ok (.istore 7, 2) := by decide +kernel
theorem dX9_rowAnswer_40 : decode cX9_rowAnswer 40 = .ok (.iload 7, 2) := by decide +kernel
theorem dX9_rowAnswer_42 : decode cX9_rowAnswer 42 = .ok (.iload 4, 2) := by decide +kernel
theorem dX9_rowAnswer_44 : decode cX9_rowAnswer 44 = .ok (.if_icmp .gt 35, 3) := by decide +kernel
theorem dX9_rowAnswer_47 : decode cX9_rowAnswer 47 = .ok (.aload_n 0, 1) := by decide +kernel
theorem dX9_rowAnswer_48 : decode cX9_rowAnswer 48 = .ok (.aload_n 1, 1) := by decide +kernel
theorem dX9_rowAnswer_49 : decode cX9_rowAnswer 49 = .ok (.iload 5, 2) := by decide +kernel
theorem dX9_rowAnswer_51 : decode cX9_rowAnswer 51 = .ok (.aload_n 0, 1) := by decide +kernel
theorem dX9_rowAnswer_52 : decode cX9_rowAnswer 52 = .ok (.getfield 19, 3) := by decide +kernel
theorem dX9_rowAnswer_55 : decode cX9_rowAnswer 55 = .ok (.iload_n 3, 1) := by decide +kernel
theorem dX9_rowAnswer_56 : decode cX9_rowAnswer 56 = .ok (.invokevirtual 82, 3) := by decide +kernel
theorem dX9_rowAnswer_59 : decode cX9_rowAnswer 59 = .ok (.invokevirtual 229, 3) := by decide +kernel
theorem dX9_rowAnswer_62 : decode cX9_rowAnswer 62 = .ok (.istore 6, 2) := by decide +kernel
theorem dX9_rowAnswer_64 : decode cX9_rowAnswer 64 = .ok (.iload 5, 2) := by decide +kernel
theorem dX9_rowAnswer_66 : decode cX9_rowAnswer 66 = .ok (.iload 6, 2) := by decide +kernel
theorem dX9_rowAnswer_68 : decode cX9_rowAnswer 68 = .ok (.invokestatic 97, 3) := by decide +kernel
theorem dX9_rowAnswer_71 : decode cX9_rowAnswer 71 = .ok (.istore 5, 2) := by decide +kernel
theorem dX9_rowAnswer_73 : decode cX9_rowAnswer 73 = .ok (.iinc 7 1, 3) := by decide +kernel
theorem dX9_rowAnswer_76 : decode cX9_rowAnswer 76 = .ok (.goto (-36), 3) := by decide +kernel
theorem dX9_rowAnswer_79 : decode cX9_rowAnswer 79 = .ok (.iload 6, 2) := by decide +kernel
theorem dX9_rowAnswer_81 : decode cX9_rowAnswer 81 = .ok (.ireturn, 1) := by decide +kernel
set_option maxRecDepth 20000 in
theorem ggX9_firstNearer_X7_known : GoodIn wsX9_firstNearer wsX7_known := goodIn_r _ [7, 8, 49, 50, 51, 52, 53, 54, 55] (by decide +kernel) (by decide +kernel)
set_option maxRecDepth 20000 in
theorem gX9_firstNearer_X7_known : GoodIn wsX9_firstNearer (wsV RX9 233 RX7 yX7_known wsX7_known) := goodIn_app (goodIn_of _ (by decide +kernel)) ggX9_firstNearer_X7_known
set_option maxRecDepth 20000 in
theorem ggX9_firstNearer_X6_inOrder : GoodIn wsX9_firstNearer wsX6_inOrder := goodIn_r _ [12, 13] (by decide +kernel) (by decide +kernel)
set_option maxRecDepth 20000 in
theorem gX9_firstNearer_X6_inOrder : GoodIn wsX9_firstNearer (va_wsS RX9 206 yX6_inOrder wsX6_inOrder) := goodIn_app (goodIn_of _ (by decide +kernel)) ggX9_firstNearer_X6_inOrder
set_option maxRecDepth 20000 in
theorem ggX9_firstNearer_X6_isMade : GoodIn wsX9_firstNearer wsX6_isMade := goodIn_r _ [16, 17, 18, 11, 19] (by decide +kernel) (by decide +kernel)
set_option maxRecDepth 20000 in
theorem gX9_firstNearer_X6_isMade : GoodIn wsX9_firstNearer (va_wsS RX9 213 yX6_isMade wsX6_isMade) := goodIn_app (goodIn_of _ (by decide +kernel)) ggX9_firstNearer_X6_isMade
set_option maxRecDepth 20000 in
theorem ggX9_firstNearer_X6_after : GoodIn wsX9_firstNearer wsX6_after := goodIn_r _ [22, 23, 24, 25, 26, 27, 28, 29, 30, 31, 32, 33, 34, 35, 36, 37] (by decide +kernel) (by decide +kernel)
set_option maxRecDepth 20000 in
theorem gX9_firstNearer_X6_after : GoodIn wsX9_firstNearer (va_wsS RX9 97 yX6_after wsX6_after) := goodIn_app (goodIn_of _ (by decide +kernel)) ggX9_firstNearer_X6_after
theorem dX9_firstNearer_0 : decode cX9_firstNearer 0 = .ok (.aload_n 1, 1) := by decide +kernel
theorem dX9_firstNearer_1 : decode cX9_firstNearer 1 = .ok (.iload_n 2, 1) := by decide +kernel
theorem dX9_firstNearer_2 : decode cX9_firstNearer 2 = .ok (.invokevirtual 233, 3) := by decide +kernel
theorem dX9_firstNearer_5 : decode cX9_firstNearer 5 = .ok (.iconst 1, 1) := by decide +kernel
theorem dX9_firstNearer_6 : decode cX9_firstNearer 6 = .ok (.isub, 1) := by decide +kernel
theorem dX9_firstNearer_7 : decode cX9_firstNearer 7 = .ok (.istore 4, 2) := by decide +kernel
theorem dX9_firstNearer_9 : decode cX9_firstNearer 9 = .ok (.iconst 0, 1) := by decide +kernel
theorem dX9_firstNearer_10 : decode cX9_firstNearer 10 = .ok (.istore 5, 2) := by decide +kernel
theorem dX9_firstNearer_12 : decode cX9_firstNearer 12 = .ok (.iload 5, 2) := by decide +kernel
theorem dX9_firstNearer_14 : decode cX9_firstNearer 14 = .ok (.bipush 40, 2) := by decide +kernel
theorem dX9_firstNearer_16 : decode cX9_firstNearer 16 = .ok (.if_icmp .ge 50, 3) := by decide +kernel
theorem dX9_firstNearer_19 : decode cX9_firstNearer 19 = .ok (.iload 5, 2) := by decide +kernel
theorem dX9_firstNearer_21 : decode cX9_firstNearer 21 = .ok (.invokestatic 206, 3) := by decide +kernel
theorem dX9_firstNearer_24 : decode cX9_firstNearer 24 = .ok (.istore 6, 2) := by decide +kernel
theorem dX9_firstNearer_26 : decode cX9_firstNearer 26 = .ok (.iload 6, 2) := by decide +kernel
theorem dX9_firstNearer_28 : decode cX9_firstNearer 28 = .ok (.iload_n 3, 1) := by decide +kernel
theorem dX9_firstNearer_29 : decode cX9_firstNearer 29 = .ok (.aload_n 0, 1) := by decide +kernel
theorem dX9_firstNearer_30 : decode cX9_firstNearer 30 = .ok (.getfield 19, 3) := by decide +kernel
theorem dX9_firstNearer_33 : decode cX9_firstNearer 33 = .ok (.getfield 27, 3) := by decide +kernel
theorem dX9_firstNearer_36 : decode cX9_firstNearer 36 = .ok (.invokestatic 213, 3) := by decide +kernel
theorem dX9_firstNearer_39 : decode cX9_firstNearer 39 = .ok (.ifCond .eq 21, 3) := by decide +kernel
theorem dX9_firstNearer_42 : decode cX9_firstNearer 42 = .ok (.aload_n 1, 1) := by decide +kernel
theorem dX9_firstNearer_43 : decode cX9_firstNearer 43 = .ok (.iload_n 2, 1) := by decide +kernel
theorem dX9_firstNearer_44 : decode cX9_firstNearer 44 = .ok (.iload 6, 2) := by decide +kernel
theorem dX9_firstNearer_46 : decode cX9_firstNearer 46 = .ok (.invokestatic 97, 3) := by decide +kernel
theorem dX9_firstNearer_49 : decode cX9_firstNearer 49 = .ok (.invokevirtual 233, 3) := by decide +kernel
theorem dX9_firstNearer_52 : decode cX9_firstNearer 52 = .ok (.iload 4, 2) := by decide +kernel
theorem dX9_firstNearer_54 : decode cX9_firstNearer 54 = .ok (.if_icmp .ne 6, 3) := by decide +kernel
theorem dX9_firstNearer_57 : decode cX9_firstNearer 57 = .ok (.iload 6, 2) := by decide +kernel
theorem dX9_firstNearer_59 : decode cX9_firstNearer 59 = .ok (.ireturn, 1) := by decide +kernel
theorem dX9_firstNearer_60 : decode cX9_firstNearer 60 = .ok (.iinc 5 1, 3) := by decide +kernel
theorem dX9_firstNearer_63 : decode cX9_firstNearer 63 = .ok (.goto (-51), 3) := by decide +kernel
theorem dX9_firstNearer_66 : decode cX9_firstNearer 66 = .ok (.bipush (-6), 2) := by decide +kernel
theorem dX9_firstNearer_68 : decode cX9_firstNearer 68 = .ok (.ireturn, 1) := by decide +kernel
set_option maxRecDepth 20000 in
theorem ggX9_goalPast_X2_markAt : GoodIn wsX9_goalPast wsX2_markAt := goodIn_r _ [8, 9, 10, 11, 7, 12, 13, 14, 15, 16, 17, 18, 19, 46, 47, 48] (by decide +kernel) (by decide +kernel)
set_option maxRecDepth 20000 in
theorem gX9_goalPast_X2_markAt : GoodIn wsX9_goalPast (wsV RX9 236 RX2 yX2_markAt wsX2_markAt) := goodIn_app (goodIn_of _ (by decide +kernel)) ggX9_goalPast_X2_markAt
set_option maxRecDepth 20000 in
theorem ggX9_goalPast_X1_signAt : GoodIn wsX9_goalPast wsX1_signAt := goodIn_r _ [23, 24, 25, 22, 26, 27, 28, 29, 30] (by decide +kernel) (by decide +kernel)
set_option maxRecDepth 20000 in
theorem gX9_goalPast_X1_signAt : GoodIn wsX9_goalPast (va_wsS RX9 69 yX1_signAt wsX1_signAt) := goodIn_app (goodIn_of _ (by decide +kernel)) ggX9_goalPast_X1_signAt
set_option maxRecDepth 20000 in
theorem ggX9_goalPast_X0_with : GoodIn wsX9_goalPast wsX0_with := goodIn_r _ [34] (by decide +kernel) (by decide +kernel)
set_option maxRecDepth 20000 in
theorem gX9_goalPast_X0_with : GoodIn wsX9_goalPast (va_wsS RX9 239 yX0_with wsX0_with) := goodIn_app (goodIn_of _ (by decide +kernel)) ggX9_goalPast_X0_with
theorem dX9_goalPast_0 : decode cX9_goalPast 0 = .ok (.iconst 0, 1) := by decide +kernel
theorem dX9_goalPast_1 : decode cX9_goalPast 1 = .ok (.istore_n 3, 1) := by decide +kernel
theorem dX9_goalPast_2 : decode cX9_goalPast 2 = .ok (.iconst 0, 1) := by decide +kernel
theorem dX9_goalPast_3 : decode cX9_goalPast 3 = .ok (.istore 4, 2) := by decide +kernel
theorem dX9_goalPast_5 : decode cX9_goalPast 5 = .ok (.iload 4, 2) := by decide +kernel
theorem dX9_goalPast_7 : decode cX9_goalPast 7 = .ok (.aload_n 0, 1) := by decide +kernel
theorem dX9_goalPast_8 : decode cX9_goalPast 8 = .ok (.getfield 19, 3) := by decide +kernel
theorem dX9_goalPast_11 : decode cX9_goalPast 11 = .ok (.getfield 27, 3) := by decide +kernel
theorem dX9_goalPast_14 : decode cX9_goalPast 14 = .ok (.if_icmp .ge 84, 3) := by decide +kernel
theorem dX9_goalPast_17 : decode cX9_goalPast 17 = .ok (.aload_n 0, 1) := by decide +kernel
theorem dX9_goalPast_18 : decode cX9_goalPast 18 = .ok (.getfield 10, 3) := by decide +kernel
theorem dX9_goalPast_21 : decode cX9_goalPast 21 = .ok (.iload 4, 2) := by decide +kernel
theorem dX9_goalPast_23 : decode cX9_goalPast 23 = .ok (.invokevirtual 236, 3) := by decide +kernel
theorem dX9_goalPast_26 : decode cX9_goalPast 26 = .ok (.istore 5, 2) := by decide +kernel
theorem dX9_goalPast_28 : decode cX9_goalPast 28 = .ok (.iload_n 2, 1) := by decide +kernel
theorem dX9_goalPast_29 : decode cX9_goalPast 29 = .ok (.iload 4, 2) := by decide +kernel
theorem dX9_goalPast_31 : decode cX9_goalPast 31 = .ok (.invokestatic 69, 3) := by decide +kernel
theorem dX9_goalPast_34 : decode cX9_goalPast 34 = .ok (.istore 6, 2) := by decide +kernel
theorem dX9_goalPast_36 : decode cX9_goalPast 36 = .ok (.iload_n 1, 1) := by decide +kernel
theorem dX9_goalPast_37 : decode cX9_goalPast 37 = .ok (.iload 4, 2) := by decide +kernel
theorem dX9_goalPast_39 : decode cX9_goalPast 39 = .ok (.ishr, 1) := by decide +kernel
theorem dX9_goalPast_40 : decode cX9_goalPast 40 = .ok (.iconst 1, 1) := by decide +kernel
theorem dX9_goalPast_41 : decode cX9_goalPast 41 = .ok (.iand, 1) := by decide +kernel
theorem dX9_goalPast_42 : decode cX9_goalPast 42 = .ok (.ifCond .eq 7, 3) := by decide +kernel
theorem dX9_goalPast_45 : decode cX9_goalPast 45 = .ok (.iconst 1, 1) := by decide +kernel
theorem dX9_goalPast_46 : decode cX9_goalPast 46 = .ok (.goto 4, 3) := by decide +kernel
theorem dX9_goalPast_49 : decode cX9_goalPast 49 = .ok (.iconst 0, 1) := by decide +kernel
theorem dX9_goalPast_50 : decode cX9_goalPast 50 = .ok (.istore 7, 2) := by decide +kernel
theorem dX9_goalPast_52 : decode cX9_goalPast 52 = .ok (.iload 7, 2) := by decide +kernel
theorem dX9_goalPast_54 : decode cX9_goalPast 54 = .ok (.ifCond .eq 19, 3) := by decide +kernel
theorem dX9_goalPast_57 : decode cX9_goalPast 57 = .ok (.iload 5, 2) := by decide +kernel
theorem dX9_goalPast_59 : decode cX9_goalPast 59 = .ok (.iconst 5, 1) := by decide +kernel
theorem dX9_goalPast_60 : decode cX9_goalPast 60 = .ok (.if_icmp .eq 13, 3) := by decide +kernel
theorem dX9_goalPast_63 : decode cX9_goalPast 63 = .ok (.iload 5, 2) := by decide +kernel
theorem dX9_goalPast_65 : decode cX9_goalPast 65 = .ok (.iload 6, 2) := by decide +kernel
theorem dX9_goalPast_67 : decode cX9_goalPast 67 = .ok (.if_icmp .eq 6, 3) := by decide +kernel
theorem dX9_goalPast_70 : decode cX9_goalPast 70 = .ok (.bipush (-6), 2) := by decide +kernel
theorem dX9_goalPast_72 : decode cX9_goalPast 72 = .ok (.ireturn, 1) := by decide +kernel
theorem dX9_goalPast_73 : decode cX9_goalPast 73 = .ok (.iload_n 3, 1) := by decide +kernel
theorem dX9_goalPast_74 : decode cX9_goalPast 74 = .ok (.iload 4, 2) := by decide +kernel
theorem dX9_goalPast_76 : decode cX9_goalPast 76 = .ok (.iload 7, 2) := by decide +kernel
theorem dX9_goalPast_78 : decode cX9_goalPast 78 = .ok (.ifCond .eq 8, 3) := by decide +kernel
theorem dX9_goalPast_81 : decode cX9_goalPast 81 = .ok (.iload 6, 2) := by decide +kernel
theorem dX9_goalPast_83 : decode cX9_goalPast 83 = .ok (.goto 5, 3) := by decide +kernel
theorem dX9_goalPast_86 : decode cX9_goalPast 86 = .ok (.iload 5, 2) := by decide +kernel
theorem dX9_goalPast_88 : decode cX9_goalPast 88 = .ok (.invokestatic 239, 3) := by decide +kernel
theorem dX9_goalPast_91 : decode cX9_goalPast 91 = .ok (.istore_n 3, 1) := by decide +kernel
theorem dX9_goalPast_92 : decode cX9_goalPast 92 = .ok (.iinc 4 1, 3) := by decide +kernel
theorem dX9_goalPast_95 : decode cX9_goalPast 95 = .ok (.goto (-90), 3) := by decide +kernel
theorem dX9_goalPast_98 : decode cX9_goalPast 98 = .ok (.iload_n 3, 1) := by decide +kernel
theorem dX9_goalPast_99 : decode cX9_goalPast 99 = .ok (.ireturn, 1) := by decide +kernel
set_option maxRecDepth 20000 in
theorem ggX9_howMany_X9_isOf : GoodIn wsX9_howMany wsX9_isOf := goodIn_r _ [5, 6, 7, 4, 8] (by decide +kernel) (by decide +kernel)
set_option maxRecDepth 20000 in
theorem gX9_howMany_X9_isOf : GoodIn wsX9_howMany (va_wsS RX9 132 yX9_isOf wsX9_isOf) := goodIn_app (goodIn_of _ (by decide +kernel)) ggX9_howMany_X9_isOf
set_option maxRecDepth 20000 in
theorem ggX9_howMany_X3_codeOf : GoodIn wsX9_howMany wsX3_codeOf := goodIn_r _ [13, 14, 31, 32, 33, 34, 35, 36] (by decide +kernel) (by decide +kernel)
set_option maxRecDepth 20000 in
theorem gX9_howMany_X3_codeOf : GoodIn wsX9_howMany (wsV RX9 65 RX3 yX3_codeOf wsX3_codeOf) := goodIn_app (goodIn_of _ (by decide +kernel)) ggX9_howMany_X3_codeOf
set_option maxRecDepth 20000 in
theorem ggX9_howMany_X1_signAt : GoodIn wsX9_howMany wsX1_signAt := goodIn_r _ [18, 19, 20, 17, 21, 22, 23, 24, 25] (by decide +kernel) (by decide +kernel)
set_option maxRecDepth 20000 in
theorem gX9_howMany_X1_signAt : GoodIn wsX9_howMany (va_wsS RX9 69 yX1_signAt wsX1_signAt) := goodIn_app (goodIn_of _ (by decide +kernel)) ggX9_howMany_X1_signAt
theorem dX9_howMany_0 : decode cX9_howMany 0 = .ok (.iconst 0, 1) := by decide +kernel
theorem dX9_howMany_1 : decode cX9_howMany 1 = .ok (.istore 4, 2) := by decide +kernel
theorem dX9_howMany_3 : decode cX9_howMany 3 = .ok (.iconst 0, 1) := by decide +kernel
theorem dX9_howMany_4 : decode cX9_howMany 4 = .ok (.istore 5, 2) := by decide +kernel
theorem dX9_howMany_6 : decode cX9_howMany 6 = .ok (.iload 5, 2) := by decide +kernel
theorem dX9_howMany_8 : decode cX9_howMany 8 = .ok (.bipush 6, 2) := by decide +kernel
theorem dX9_howMany_10 : decode cX9_howMany 10 = .ok (.if_icmp .ge 38, 3) := by decide +kernel
theorem dX9_howMany_13 : decode cX9_howMany 13 = .ok (.iload_n 1, 1) := by decide +kernel
theorem dX9_howMany_14 : decode cX9_howMany 14 = .ok (.iload 5, 2) := by decide +kernel
theorem dX9_howMany_16 : decode cX9_howMany 16 = .ok (.invokestatic 132, 3) := by decide +kernel
theorem dX9_howMany_19 : decode cX9_howMany 19 = .ok (.ifCond .eq 23, 3) := by decide +kernel
theorem dX9_howMany_22 : decode cX9_howMany 22 = .ok (.aload_n 0, 1) := by decide +kernel
theorem dX9_howMany_23 : decode cX9_howMany 23 = .ok (.getfield 19, 3) := by decide +kernel
theorem dX9_howMany_26 : decode cX9_howMany 26 = .ok (.iload 5, 2) := by decide +kernel
theorem dX9_howMany_28 : decode cX9_howMany 28 = .ok (.invokevirtual 65, 3) := by decide +kernel
theorem dX9_howMany_31 : decode cX9_howMany 31 = .ok (.iload_n 2, 1) := by decide +kernel
theorem dX9_howMany_32 : decode cX9_howMany 32 = .ok (.invokestatic 69, 3) := by decide +kernel
theorem dX9_howMany_35 : decode cX9_howMany 35 = .ok (.iload_n 3, 1) := by decide +kernel
theorem dX9_howMany_36 : decode cX9_howMany 36 = .ok (.if_icmp .ne 6, 3) := by decide +kernel
theorem dX9_howMany_39 : decode cX9_howMany 39 = .ok (.iinc 4 1, 3) := by decide +kernel
theorem dX9_howMany_42 : decode cX9_howMany 42 = .ok (.iinc 5 1, 3) := by decide +kernel
theorem dX9_howMany_45 : decode cX9_howMany 45 = .ok (.goto (-39), 3) := by decide +kernel
theorem dX9_howMany_48 : decode cX9_howMany 48 = .ok (.iload 4, 2) := by decide +kernel
theorem dX9_howMany_50 : decode cX9_howMany 50 = .ok (.ireturn, 1) := by decide +kernel
set_option maxRecDepth 20000 in
theorem ggX9_mostAt_X9_howMany : GoodIn wsX9_mostAt wsX9_howMany := goodIn_r _ [5, 6, 7, 8, 4, 9, 10, 11, 12, 13, 14, 15, 16, 17, 18, 19, 20, 21, 22, 23, 24, 25, 26, 27, 28, 29, 30, 31, 32, 33, 34, 35, 36, 37, 38, 39, 40] (by decide +kernel) (by decide +kernel)
set_option maxRecDepth 20000 in
theorem gX9_mostAt_X9_howMany : GoodIn wsX9_mostAt (wsV RX9 175 RX9 yX9_howMany wsX9_howMany) := goodIn_app (goodIn_of _ (by decide +kernel)) ggX9_mostAt_X9_howMany
theorem dX9_mostAt_0 : decode cX9_mostAt 0 = .ok (.iconst 0, 1) := by decide +kernel
theorem dX9_mostAt_1 : decode cX9_mostAt 1 = .ok (.istore_n 3, 1) := by decide +kernel
theorem dX9_mostAt_2 : decode cX9_mostAt 2 = .ok (.iconst 1, 1) := by decide +kernel
theorem dX9_mostAt_3 : decode cX9_mostAt 3 = .ok (.istore 4, 2) := by decide +kernel
theorem dX9_mostAt_5 : decode cX9_mostAt 5 = .ok (.iload 4, 2) := by decide +kernel
theorem dX9_mostAt_7 : decode cX9_mostAt 7 = .ok (.iconst 5, 1) := by decide +kernel
theorem dX9_mostAt_8 : decode cX9_mostAt 8 = .ok (.if_icmp .ge 30, 3) := by decide +kernel
theorem dX9_mostAt_11 : decode cX9_mostAt 11 = .ok (.aload_n 0, 1) := by decide +kernel
theorem dX9_mostAt_12 : decode cX9_mostAt 12 = .ok (.iload_n 1, 1) := by decide +kernel
theorem dX9_mostAt_13 : decode cX9_mostAt 13 = .ok (.iload_n 2, 1) := by decide +kernel
theorem dX9_mostAt_14 : decode cX9_mostAt 14 = .ok (.iload 4, 2) := by decide +kernel
theorem dX9_mostAt_16 : decode cX9_mostAt 16 = .ok (.invokevirtual 175, 3) := by decide +kernel
theorem dX9_mostAt_19 : decode cX9_mostAt 19 = .ok (.aload_n 0, 1) := by decide +kernel
theorem dX9_mostAt_20 : decode cX9_mostAt 20 = .ok (.iload_n 1, 1) := by decide +kernel
theorem dX9_mostAt_21 : decode cX9_mostAt 21 = .ok (.iload_n 2, 1) := by decide +kernel
theorem dX9_mostAt_22 : decode cX9_mostAt 22 = .ok (.iload_n 3, 1) := by decide +kernel
theorem dX9_mostAt_23 : decode cX9_mostAt 23 = .ok (.invokevirtual 175, 3) := by decide +kernel
theorem dX9_mostAt_26 : decode cX9_mostAt 26 = .ok (.if_icmp .le 6, 3) := by decide +kernel
theorem dX9_mostAt_29 : decode cX9_mostAt 29 = .ok (.iload 4, 2) := by decide +kernel
theorem dX9_mostAt_31 : decode cX9_mostAt 31 = .ok (.istore_n 3, 1) := by decide +kernel
theorem dX9_mostAt_32 : decode cX9_mostAt 32 = .ok (.iinc 4 1, 3) := by decide +kernel
theorem dX9_mostAt_35 : decode cX9_mostAt 35 = .ok (.goto (-30), 3) := by decide +kernel
theorem dX9_mostAt_38 : decode cX9_mostAt 38 = .ok (.iload_n 3, 1) := by decide +kernel
theorem dX9_mostAt_39 : decode cX9_mostAt 39 = .ok (.ireturn, 1) := by decide +kernel
end
section
set_option maxRecDepth 20000 in
theorem ggX10_init_X10_begin : GoodIn wsX10_init wsX10_begin := goodIn_r _ [27, 28, 29, 30, 5, 31, 32, 33, 26, 34, 7, 35, 36, 37, 38, 39, 40, 41, 42, 43, 44, 45, 46, 47, 48, 49, 50, 51, 52, 53, 54, 55, 56, 57, 58, 59, 60, 61, 62] (by decide +kernel) (by decide +kernel)
set_option maxRecDepth 20000 in
theorem gX10_init_X10_begin : GoodIn wsX10_init (wsV RX10 63 RX10 yX10_begin wsX10_begin) := goodIn_app (goodIn_of _ (by decide +kernel)) ggX10_init_X10_begin
theorem dX10_init_0 : decode cX10_init 0 = .ok (.aload_n 0, 1) := by decide +kernel
theorem dX10_init_1 : decode cX10_init 1 = .ok (.invokespecial 1, 3) := by decide +kernel
theorem dX10_init_4 : decode cX10_init 4 = .ok (.aload_n 0, 1) := by decide +kernel
theorem dX10_init_5 : decode cX10_init 5 = .ok (.bipush 6, 2) := by decide +kernel
theorem dX10_init_7 : decode cX10_init 7 = .ok (.newarray .int, 2) := by decide +kernel
theorem dX10_init_9 : decode cX10_init 9 = .ok (.putfield 7, 3) := by decide +kernel
theorem dX10_init_12 : decode cX10_init 12 = .ok (.aload_n 0, 1) := by decide +kernel
theorem dX10_init_13 : decode cX10_init 13 = .ok (.iconst 4, 1) := by decide +kernel
theorem dX10_init_14 : decode cX10_init 14 = .ok (.newarray .int, 2) := by decide +kernel
theorem dX10_init_16 : decode cX10_init 16 = .ok (.putfield 13, 3) := by decide +kernel
theorem dX10_init_19 : decode cX10_init 19 = .ok (.aload_n 0, 1) := by decide +kernel
theorem dX10_init_20 : decode cX10_init 20 = .ok (.bipush 6, 2) := by decide +kernel
theorem dX10_init_22 : decode cX10_init 22 = .ok (.newarray .int, 2) := by decide +kernel
theorem dX10_init_24 : decode cX10_init 24 = .ok (.putfield 16, 3) := by decide +kernel
theorem dX10_init_27 : decode cX10_init 27 = .ok (.aload_n 0, 1) := by decide +kernel
theorem dX10_init_28 : decode cX10_init 28 = .ok (.bipush 40, 2) := by decide +kernel
theorem dX10_init_30 : decode cX10_init 30 = .ok (.newarray .int, 2) := by decide +kernel
theorem dX10_init_32 : decode cX10_init 32 = .ok (.putfield 19, 3) := by decide +kernel
theorem dX10_init_35 : decode cX10_init 35 = .ok (.aload_n 0, 1) := by decide +kernel
theorem dX10_init_36 : decode cX10_init 36 = .ok (.bipush 10, 2) := by decide +kernel
theorem dX10_init_38 : decode cX10_init 38 = .ok (.newarray .int, 2) := by decide +kernel
theorem dX10_init_40 : decode cX10_init 40 = .ok (.putfield 22, 3) := by decide +kernel
theorem dX10_init_43 : decode cX10_init 43 = .ok (.aload_n 0, 1) := by decide +kernel
theorem dX10_init_44 : decode cX10_init 44 = .ok (.sipush 15625, 3) := by decide +kernel
theorem dX10_init_47 : decode cX10_init 47 = .ok (.newarray .int, 2) := by decide +kernel
theorem dX10_init_49 : decode cX10_init 49 = .ok (.putfield 25, 3) := by decide +kernel
theorem dX10_init_52 : decode cX10_init 52 = .ok (.aload_n 0, 1) := by decide +kernel
theorem dX10_init_53 : decode cX10_init 53 = .ok (.sipush 15625, 3) := by decide +kernel
theorem dX10_init_56 : decode cX10_init 56 = .ok (.newarray .int, 2) := by decide +kernel
theorem dX10_init_58 : decode cX10_init 58 = .ok (.putfield 28, 3) := by decide +kernel
theorem dX10_init_61 : decode cX10_init 61 = .ok (.aload_n 0, 1) := by decide +kernel
theorem dX10_init_62 : decode cX10_init 62 = .ok (.sipush 15625, 3) := by decide +kernel
theorem dX10_init_65 : decode cX10_init 65 = .ok (.newarray .int, 2) := by decide +kernel
theorem dX10_init_67 : decode cX10_init 67 = .ok (.putfield 31, 3) := by decide +kernel
theorem dX10_init_70 : decode cX10_init 70 = .ok (.aload_n 0, 1) := by decide +kernel
theorem dX10_init_71 : decode cX10_init 71 = .ok (.sipush 15625, 3) := by decide +kernel
theorem dX10_init_74 : decode cX10_init 74 = .ok (.newarray .int, 2) := by decide +kernel
theorem dX10_init_76 : decode cX10_init 76 = .ok (.putfield 34, 3) := by decide +kernel
theorem dX10_init_79 : decode cX10_init 79 = .ok (.aload_n 0, 1) := by decide +kernel
theorem dX10_init_80 : decode cX10_init 80 = .ok (.bipush 36, 2) := by decide +kernel
theorem dX10_init_82 : decode cX10_init 82 = .ok (.newarray .int, 2) := by decide +kernel
theorem dX10_init_84 : decode cX10_init 84 = .ok (.putfield 37, 3) := by decide +kernel
theorem dX10_init_87 : decode cX10_init 87 = .ok (.aload_n 0, 1) := by decide +kernel
theorem dX10_init_88 : decode cX10_init 88 = .ok (.bipush 6, 2) := by decide +kernel
theorem dX10_init_90 : decode cX10_init 90 = .ok (.newarray .int, 2) := by decide +kernel
theorem dX10_init_92 : decode cX10_init 92 = .ok (.putfield 40, 3) := by decide +kernel
theorem dX10_init_95 : decode cX10_init 95 = .ok (.aload_n 0, 1) := by decide +kernel
theorem dX10_init_96 : decode cX10_init 96 = .ok (.bipush 6, 2) := by decide +kernel
theorem dX10_init_98 : decode cX10_init 98 = .ok (.newarray .int, 2) := by decide +kernel
theorem dX10_init_100 : decode cX10_init 100 = .ok (.putfield 43, 3) := by decide +kernel
theorem dX10_init_103 : decode cX10_init 103 = .ok (.aload_n 0, 1) := by decide +kernel
theorem dX10_init_104 : decode cX10_init 104 = .ok (.sipush 15625, 3) := by decide +kernel
theorem dX10_init_107 : decode cX10_init 107 = .ok (.newarray .int, 2) := by decide +kernel
theorem dX10_init_109 : decode cX10_init 109 = .ok (.putfield 46, 3) := by decide +kernel
theorem dX10_init_112 : decode cX10_init 112 = .ok (.aload_n 0, 1) := by decide +kernel
theorem dX10_init_113 : decode cX10_init 113 = .ok (.sipush 15625, 3) := by decide +kernel
theorem dX10_init_116 : decode cX10_init 116 = .ok (.newarray .int, 2) := by decide +kernel
theorem dX10_init_118 : decode cX10_init 118 = .ok (.putfield 49, 3) := by decide +kernel
theorem dX10_init_121 : decode cX10_init 121 = .ok (.aload_n 0, 1) := by decide +kernel
theorem dX10_init_122 : decode cX10_init 122 = .ok (.bipush 80, 2) := by decide +kernel
theorem dX10_init_124 : decode cX10_init 124 = .ok (.newarray .int, 2) := by decide +kernel
theorem dX10_init_126 : decode cX10_init 126 = .ok (.putfield 52, 3) := by decide +kernel
theorem dX10_init_129 : decode cX10_init 129 = .ok (.aload_n 0, 1) := by decide +kernel
theorem dX10_init_130 : decode cX10_init 130 = .ok (.iconst 2, 1) := by decide +kernel
theorem dX10_init_131 : decode cX10_init 131 = .ok (.newarray .boolean, 2) := by decide +kernel
theorem dX10_init_133 : decode cX10_init 133 = .ok (.putfield 55, 3) := by decide +kernel
theorem dX10_init_136 : decode cX10_init 136 = .ok (.aload_n 0, 1) := by decide +kernel
theorem dX10_init_137 : decode cX10_init 137 = .ok (.iconst 1, 1) := by decide +kernel
theorem dX10_init_138 : decode cX10_init 138 = .ok (.putfield 59, 3) := by decide +kernel
theorem dX10_init_141 : decode cX10_init 141 = .ok (.iconst 0, 1) := by decide +kernel
theorem dX10_init_142 : decode cX10_init 142 = .ok (.istore_n 1, 1) := by decide +kernel
theorem dX10_init_143 : decode cX10_init 143 = .ok (.iload_n 1, 1) := by decide +kernel
theorem dX10_init_144 : decode cX10_init 144 = .ok (.iconst 4, 1) := by decide +kernel
theorem dX10_init_145 : decode cX10_init 145 = .ok (.if_icmp .ge 17, 3) := by decide +kernel
theorem dX10_init_148 : decode cX10_init 148 = .ok (.aload_n 0, 1) := by decide +kernel
theorem dX10_init_149 : decode cX10_init 149 = .ok (.getfield 13, 3) := by decide +kernel
theorem dX10_init_152 : decode cX10_init 152 = .ok (.iload_n 1, 1) := by decide +kernel
theorem dX10_init_153 : decode cX10_init 153 = .ok (.bipush 15, 2) := by decide +kernel
theorem dX10_init_155 : decode cX10_init 155 = .ok (.iastore, 1) := by decide +kernel
theorem dX10_init_156 : decode cX10_init 156 = .ok (.iinc 1 1, 3) := by decide +kernel
theorem dX10_init_159 : decode cX10_init 159 = .ok (.goto (-16), 3) := by decide +kernel
theorem dX10_init_162 : decode cX10_init 162 = .ok (.aload_n 0, 1) := by decide +kernel
theorem dX10_init_163 : decode cX10_init 163 = .ok (.bipush 6, 2) := by decide +kernel
theorem dX10_init_165 : decode cX10_init 165 = .ok (.invokevirtual 63, 3) := by decide +kernel
theorem dX10_init_168 : decode cX10_init 168 = .ok (.return_, 1) := by decide +kernel
theorem dX10_in_0 : decode cX10_in 0 = .ok (.lload_n 0, 1) := by decide +kernel
theorem dX10_in_1 : decode cX10_in 1 = .ok (.lload_n 2, 1) := by decide +kernel
theorem dX10_in_2 : decode cX10_in 2 = .ok (.lcmp, 1) := by decide +kernel
theorem dX10_in_3 : decode cX10_in 3 = .ok (.ifCond .lt 14, 3) := by decide +kernel
theorem dX10_in_6 : decode cX10_in 6 = .ok (.lload_n 0, 1) := by decide +kernel
theorem dX10_in_7 : decode cX10_in 7 = .ok (.lload 4, 2) := by decide +kernel
theorem dX10_in_9 : decode cX10_in 9 = .ok (.lcmp, 1) := by decide +kernel
theorem dX10_in_10 : decode cX10_in 10 = .ok (.ifCond .gt 7, 3) := by decide +kernel
theorem dX10_in_13 : decode cX10_in 13 = .ok (.iconst 1, 1) := by decide +kernel
theorem dX10_in_14 : decode cX10_in 14 = .ok (.goto 4, 3) := by decide +kernel
theorem dX10_in_17 : decode cX10_in 17 = .ok (.iconst 0, 1) := by decide +kernel
theorem dX10_in_18 : decode cX10_in 18 = .ok (.ireturn, 1) := by decide +kernel
set_option maxRecDepth 20000 in
theorem ggX10_begin_X10_findParts : GoodIn wsX10_begin wsX10_findParts := goodIn_r _ [9, 1, 10, 11, 12, 13, 14, 15, 16, 17, 18, 19, 20, 21, 22, 23, 24, 25, 26, 27, 28, 29, 30, 31, 32, 33, 34, 35, 36, 37, 38] (by decide +kernel) (by decide +kernel)
set_option maxRecDepth 20000 in
theorem gX10_begin_X10_findParts : GoodIn wsX10_begin (wsV RX10 76 RX10 yX10_findParts wsX10_findParts) := goodIn_app (goodIn_of _ (by decide +kernel)) ggX10_begin_X10_findParts
theorem dX10_begin_0 : decode cX10_begin 0 = .ok (.aload_n 0, 1) := by decide +kernel
theorem dX10_begin_1 : decode cX10_begin 1 = .ok (.iload_n 1, 1) := by decide +kernel
theorem dX10_begin_2 : decode cX10_begin 2 = .ok (.putfield 67, 3) := by decide +kernel
theorem dX10_begin_5 : decode cX10_begin 5 = .ok (.aload_n 0, 1) := by decide +kernel
theorem dX10_begin_6 : decode cX10_begin 6 = .ok (.iconst 0, 1) := by decide +kernel
theorem dX10_begin_7 : decode cX10_begin 7 = .ok (.putfield 70, 3) := by decide +kernel
theorem dX10_begin_10 : decode cX10_begin 10 = .ok (.aload_n 0, 1) := by decide +kernel
theorem dX10_begin_11 : decode cX10_begin 11 = .ok (.iconst 0, 1) := by decide +kernel
theorem dX10_begin_12 : decode cX10_begin 12 = .ok (.putfield 73, 3) := by decide +kernel
theorem dX10_begin_15 : decode cX10_begin 15 = .ok (.iconst 0, 1) := by decide +kernel
theorem dX10_begin_16 : decode cX10_begin 16 = .ok (.istore_n 2, 1) := by decide +kernel
theorem dX10_begin_17 : decode cX10_begin 17 = .ok (.iload_n 2, 1) := by decide +kernel
theorem dX10_begin_18 : decode cX10_begin 18 = .ok (.bipush 6, 2) := by decide +kernel
theorem dX10_begin_20 : decode cX10_begin 20 = .ok (.if_icmp .ge 16, 3) := by decide +kernel
theorem dX10_begin_23 : decode cX10_begin 23 = .ok (.aload_n 0, 1) := by decide +kernel
theorem dX10_begin_24 : decode cX10_begin 24 = .ok (.getfield 7, 3) := by decide +kernel
theorem dX10_begin_27 : decode cX10_begin 27 = .ok (.iload_n 2, 1) := by decide +kernel
theorem dX10_begin_28 : decode cX10_begin 28 = .ok (.iconst 0, 1) := by decide +kernel
theorem dX10_begin_29 : decode cX10_begin 29 = .ok (.iastore, 1) := by decide +kernel
theorem dX10_begin_30 : decode cX10_begin 30 = .ok (.iinc 2 1, 3) := by decide +kernel
theorem dX10_begin_33 : decode cX10_begin 33 = .ok (.goto (-16), 3) := by decide +kernel
theorem dX10_begin_36 : decode cX10_begin 36 = .ok (.aload_n 0, 1) := by decide +kernel
theorem dX10_begin_37 : decode cX10_begin 37 = .ok (.invokevirtual 76, 3) := by decide +kernel
theorem dX10_begin_40 : decode cX10_begin 40 = .ok (.return_, 1) := by decide +kernel
theorem dX10_findParts_0 : decode cX10_findParts 0 = .ok (.iconst 1, 1) := by decide +kernel
theorem dX10_findParts_1 : decode cX10_findParts 1 = .ok (.istore_n 1, 1) := by decide +kernel
theorem dX10_findParts_2 : decode cX10_findParts 2 = .ok (.aload_n 0, 1) := by decide +kernel
theorem dX10_findParts_3 : decode cX10_findParts 3 = .ok (.getfield 67, 3) := by decide +kernel
theorem dX10_findParts_6 : decode cX10_findParts 6 = .ok (.iconst 1, 1) := by decide +kernel
theorem dX10_findParts_7 : decode cX10_findParts 7 = .ok (.isub, 1) := by decide +kernel
theorem dX10_findParts_8 : decode cX10_findParts 8 = .ok (.istore_n 2, 1) := by decide +kernel
theorem dX10_findParts_9 : decode cX10_findParts 9 = .ok (.iload_n 2, 1) := by decide +kernel
theorem dX10_findParts_10 : decode cX10_findParts 10 = .ok (.ifCond .lt 20, 3) := by decide +kernel
theorem dX10_findParts_13 : decode cX10_findParts 13 = .ok (.aload_n 0, 1) := by decide +kernel
theorem dX10_findParts_14 : decode cX10_findParts 14 = .ok (.getfield 16, 3) := by decide +kernel
theorem dX10_findParts_17 : decode cX10_findParts 17 = .ok (.iload_n 2, 1) := by decide +kernel
theorem dX10_findParts_18 : decode cX10_findParts 18 = .ok (.iload_n 1, 1) := by decide +kernel
theorem dX10_findParts_19 : decode cX10_findParts 19 = .ok (.iastore, 1) := by decide +kernel
theorem dX10_findParts_20 : decode cX10_findParts 20 = .ok (.iload_n 1, 1) := by decide +kernel
theorem dX10_findParts_21 : decode cX10_findParts 21 = .ok (.iconst 5, 1) := by decide +kernel
theorem dX10_findParts_22 : decode cX10_findParts 22 = .ok (.imul, 1) := by decide +kernel
theorem dX10_findParts_23 : decode cX10_findParts 23 = .ok (.istore_n 1, 1) := by decide +kernel
theorem dX10_findParts_24 : decode cX10_findParts 24 = .ok (.iinc 2 (-1), 3) := by decide +kernel
theorem dX10_findParts_27 : decode cX10_findParts 27 = .ok (.goto (-18), 3) := by decide +kernel
theorem dX10_findParts_30 : decode cX10_findParts 30 = .ok (.return_, 1) := by decide +kernel
theorem dX10_all_0 : decode cX10_all 0 = .ok (.iconst 5, 1) := by decide +kernel
theorem dX10_all_1 : decode cX10_all 1 = .ok (.aload_n 0, 1) := by decide +kernel
theorem dX10_all_2 : decode cX10_all 2 = .ok (.getfield 16, 3) := by decide +kernel
theorem dX10_all_5 : decode cX10_all 5 = .ok (.iconst 0, 1) := by decide +kernel
theorem dX10_all_6 : decode cX10_all 6 = .ok (.iaload, 1) := by decide +kernel
theorem dX10_all_7 : decode cX10_all 7 = .ok (.imul, 1) := by decide +kernel
theorem dX10_all_8 : decode cX10_all 8 = .ok (.ireturn, 1) := by decide +kernel
set_option maxRecDepth 20000 in
theorem ggX10_isSite_X10_in : GoodIn wsX10_isSite wsX10_in := goodIn_r _ [5] (by decide +kernel) (by decide +kernel)
set_option maxRecDepth 20000 in
theorem gX10_isSite_X10_in : GoodIn wsX10_isSite (va_wsS RX10 79 yX10_in wsX10_in) := goodIn_app (goodIn_of _ (by decide +kernel)) ggX10_isSite_X10_in
theorem dX10_isSite_0 : decode cX10_isSite 0 = .ok (.iload_n 1, 1) := by decide +kernel
theorem dX10_isSite_1 : decode cX10_isSite 1 = .ok (.i2l, 1) := by decide +kernel
theorem dX10_isSite_2 : decode cX10_isSite 2 = .ok (.lconst 0, 1) := by decide +kernel
theorem dX10_isSite_3 : decode cX10_isSite 3 = .ok (.aload_n 0, 1) := by decide +kernel
theorem dX10_isSite_4 : decode cX10_isSite 4 = .ok (.getfield 67, 3) := by decide +kernel
theorem dX10_isSite_7 : decode cX10_isSite 7 = .ok (.iconst 1, 1) := by decide +kernel
theorem dX10_isSite_8 : decode cX10_isSite 8 = .ok (.isub, 1) := by decide +kernel
theorem dX10_isSite_9 : decode cX10_isSite 9 = .ok (.i2l, 1) := by decide +kernel
theorem dX10_isSite_10 : decode cX10_isSite 10 = .ok (.invokestatic 79, 3) := by decide +kernel
theorem dX10_isSite_13 : decode cX10_isSite 13 = .ok (.ireturn, 1) := by decide +kernel
set_option maxRecDepth 20000 in
theorem ggX10_isMap_X10_in : GoodIn wsX10_isMap wsX10_in := goodIn_r _ [5] (by decide +kernel) (by decide +kernel)
set_option maxRecDepth 20000 in
theorem gX10_isMap_X10_in : GoodIn wsX10_isMap (va_wsS RX10 79 yX10_in wsX10_in) := goodIn_app (goodIn_of _ (by decide +kernel)) ggX10_isMap_X10_in
theorem dX10_isMap_0 : decode cX10_isMap 0 = .ok (.iload_n 0, 1) := by decide +kernel
theorem dX10_isMap_1 : decode cX10_isMap 1 = .ok (.i2l, 1) := by decide +kernel
theorem dX10_isMap_2 : decode cX10_isMap 2 = .ok (.lconst 0, 1) := by decide +kernel
theorem dX10_isMap_3 : decode cX10_isMap 3 = .ok (.ldc2_w 83, 3) := by decide +kernel
theorem dX10_isMap_6 : decode cX10_isMap 6 = .ok (.invokestatic 79, 3) := by decide +kernel
theorem dX10_isMap_9 : decode cX10_isMap 9 = .ok (.ireturn, 1) := by decide +kernel
set_option maxRecDepth 20000 in
theorem ggX10_isHand_X10_in : GoodIn wsX10_isHand wsX10_in := goodIn_r _ [5] (by decide +kernel) (by decide +kernel)
set_option maxRecDepth 20000 in
theorem gX10_isHand_X10_in : GoodIn wsX10_isHand (va_wsS RX10 79 yX10_in wsX10_in) := goodIn_app (goodIn_of _ (by decide +kernel)) ggX10_isHand_X10_in
theorem dX10_isHand_0 : decode cX10_isHand 0 = .ok (.iload_n 0, 1) := by decide +kernel
theorem dX10_isHand_1 : decode cX10_isHand 1 = .ok (.i2l, 1) := by decide +kernel
theorem dX10_isHand_2 : decode cX10_isHand 2 = .ok (.lconst 0, 1) := by decide +kernel
theorem dX10_isHand_3 : decode cX10_isHand 3 = .ok (.ldc2_w 85, 3) := by decide +kernel
theorem dX10_isHand_6 : decode cX10_isHand 6 = .ok (.invokestatic 79, 3) := by decide +kernel
theorem dX10_isHand_9 : decode cX10_isHand 9 = .ok (.ireturn, 1) := by decide +kernel
theorem dX10_isTold_0 : decode cX10_isTold 0 = .ok (.aload_n 0, 1) := by decide +kernel
theorem dX10_isTold_1 : decode cX10_isTold 1 = .ok (.getfield 70, 3) := by decide +kernel
theorem dX10_isTold_4 : decode cX10_isTold 4 = .ok (.iload_n 1, 1) := by decide +kernel
theorem dX10_isTold_5 : decode cX10_isTold 5 = .ok (.ishr, 1) := by decide +kernel
theorem dX10_isTold_6 : decode cX10_isTold 6 = .ok (.iconst 1, 1) := by decide +kernel
theorem dX10_isTold_7 : decode cX10_isTold 7 = .ok (.iand, 1) := by decide +kernel
theorem dX10_isTold_8 : decode cX10_isTold 8 = .ok (.iconst 1, 1) := by decide +kernel
theorem dX10_isTold_9 : decode cX10_isTold 9 = .ok (.if_icmp .ne 7, 3) := by decide +kernel
theorem dX10_isTold_12 : decode cX10_isTold 12 = .ok (.iconst 1, 1) := by decide +kernel
theorem dX10_isTold_13 : decode cX10_isTold 13 = .ok (.goto 4, 3) := by decide +kernel
theorem dX10_isTold_16 : decode cX10_isTold 16 = .ok (.iconst 0, 1) := by decide +kernel
theorem dX10_isTold_17 : decode cX10_isTold 17 = .ok (.ireturn, 1) := by decide +kernel
set_option maxRecDepth 20000 in
theorem ggX10_sites_X10_in : GoodIn wsX10_sites wsX10_in := goodIn_r _ [7] (by decide +kernel) (by decide +kernel)
set_option maxRecDepth 20000 in
theorem gX10_sites_X10_in : GoodIn wsX10_sites (va_wsS RX10 79 yX10_in wsX10_in) := goodIn_app (goodIn_of _ (by decide +kernel)) ggX10_sites_X10_in
set_option maxRecDepth 20000 in
theorem ggX10_sites_X10_begin : GoodIn wsX10_sites wsX10_begin := goodIn_r _ [11, 3, 12, 13, 14, 15, 16, 17, 6, 18, 19, 20, 21, 22, 23, 24, 25, 26, 27, 28, 29, 30, 31, 32, 33, 34, 35, 36, 37, 38, 39, 40, 41, 42, 43, 44, 45, 46, 47] (by decide +kernel) (by decide +kernel)
set_option maxRecDepth 20000 in
theorem gX10_sites_X10_begin : GoodIn wsX10_sites (wsV RX10 63 RX10 yX10_begin wsX10_begin) := goodIn_app (goodIn_of _ (by decide +kernel)) ggX10_sites_X10_begin
theorem dX10_sites_0 : decode cX10_sites 0 = .ok (.iload_n 1, 1) := by decide +kernel
theorem dX10_sites_1 : decode cX10_sites 1 = .ok (.i2l, 1) := by decide +kernel
theorem dX10_sites_2 : decode cX10_sites 2 = .ok (.ldc2_w 87, 3) := by decide +kernel
theorem dX10_sites_5 : decode cX10_sites 5 = .ok (.ldc2_w 89, 3) := by decide +kernel
theorem dX10_sites_8 : decode cX10_sites 8 = .ok (.invokestatic 79, 3) := by decide +kernel
theorem dX10_sites_11 : decode cX10_sites 11 = .ok (.ifCond .ne 6, 3) := by decide +kernel
theorem dX10_sites_14 : decode cX10_sites 14 = .ok (.bipush (-2), 2) := by decide +kernel
theorem dX10_sites_16 : decode cX10_sites 16 = .ok (.ireturn, 1) := by decide +kernel
theorem dX10_sites_17 : decode cX10_sites 17 = .ok (.aload_n 0, 1) := by decide +kernel
theorem dX10_sites_18 : decode cX10_sites 18 = .ok (.getfield 67, 3) := by decide +kernel
theorem dX10_sites_21 : decode cX10_sites 21 = .ok (.istore_n 2, 1) := by decide +kernel
theorem dX10_sites_22 : decode cX10_sites 22 = .ok (.aload_n 0, 1) := by decide +kernel
theorem dX10_sites_23 : decode cX10_sites 23 = .ok (.iload_n 1, 1) := by decide +kernel
theorem dX10_sites_24 : decode cX10_sites 24 = .ok (.invokevirtual 63, 3) := by decide +kernel
theorem dX10_sites_27 : decode cX10_sites 27 = .ok (.iload_n 2, 1) := by decide +kernel
theorem dX10_sites_28 : decode cX10_sites 28 = .ok (.ireturn, 1) := by decide +kernel
theorem dX10_signAt_0 : decode cX10_signAt 0 = .ok (.iload_n 1, 1) := by decide +kernel
theorem dX10_signAt_1 : decode cX10_signAt 1 = .ok (.aload_n 0, 1) := by decide +kernel
theorem dX10_signAt_2 : decode cX10_signAt 2 = .ok (.getfield 16, 3) := by decide +kernel
theorem dX10_signAt_5 : decode cX10_signAt 5 = .ok (.iload_n 2, 1) := by decide +kernel
theorem dX10_signAt_6 : decode cX10_signAt 6 = .ok (.iaload, 1) := by decide +kernel
theorem dX10_signAt_7 : decode cX10_signAt 7 = .ok (.idiv, 1) := by decide +kernel
theorem dX10_signAt_8 : decode cX10_signAt 8 = .ok (.iconst 5, 1) := by decide +kernel
theorem dX10_signAt_9 : decode cX10_signAt 9 = .ok (.irem, 1) := by decide +kernel
theorem dX10_signAt_10 : decode cX10_signAt 10 = .ok (.ireturn, 1) := by decide +kernel
set_option maxRecDepth 20000 in
theorem ggX10_with_X10_signAt : GoodIn wsX10_with wsX10_signAt := goodIn_r _ [6, 1, 7, 8, 9, 10, 11, 12, 13, 14, 15, 16, 17, 18, 19, 20, 21, 22, 23, 24, 25, 26, 27, 28, 29, 30, 31, 32, 33, 34] (by decide +kernel) (by decide +kernel)
set_option maxRecDepth 20000 in
theorem gX10_with_X10_signAt : GoodIn wsX10_with (wsV RX10 91 RX10 yX10_signAt wsX10_signAt) := goodIn_app (goodIn_of _ (by decide +kernel)) ggX10_with_X10_signAt
theorem dX10_with_0 : decode cX10_with 0 = .ok (.iload_n 1, 1) := by decide +kernel
theorem dX10_with_1 : decode cX10_with 1 = .ok (.iload_n 3, 1) := by decide +kernel
theorem dX10_with_2 : decode cX10_with 2 = .ok (.aload_n 0, 1) := by decide +kernel
theorem dX10_with_3 : decode cX10_with 3 = .ok (.iload_n 1, 1) := by decide +kernel
theorem dX10_with_4 : decode cX10_with 4 = .ok (.iload_n 2, 1) := by decide +kernel
theorem dX10_with_5 : decode cX10_with 5 = .ok (.invokevirtual 91, 3) := by decide +kernel
theorem dX10_with_8 : decode cX10_with 8 = .ok (.isub, 1) := by decide +kernel
theorem dX10_with_9 : decode cX10_with 9 = .ok (.aload_n 0, 1) := by decide +kernel
theorem dX10_with_10 : decode cX10_with 10 = .ok (.getfield 16, 3) := by decide +kernel
theorem dX10_with_13 : decode cX10_with 13 = .ok (.iload_n 2, 1) := by decide +kernel
theorem dX10_with_14 : decode cX10_with 14 = .ok (.iaload, 1) := by decide +kernel
theorem dX10_with_15 : decode cX10_with 15 = .ok (.imul, 1) := by decide +kernel
theorem dX10_with_16 : decode cX10_with 16 = .ok (.iadd, 1) := by decide +kernel
theorem dX10_with_17 : decode cX10_with 17 = .ok (.ireturn, 1) := by decide +kernel
theorem dX10_codeOf_0 : decode cX10_codeOf 0 = .ok (.iload_n 0, 1) := by decide +kernel
theorem dX10_codeOf_1 : decode cX10_codeOf 1 = .ok (.iconst 4, 1) := by decide +kernel
theorem dX10_codeOf_2 : decode cX10_codeOf 2 = .ok (.if_icmp .ne 8, 3) := by decide +kernel
theorem dX10_codeOf_5 : decode cX10_codeOf 5 = .ok (.bipush 45, 2) := by decide +kernel
theorem dX10_codeOf_7 : decode cX10_codeOf 7 = .ok (.goto 7, 3) := by decide +kernel
theorem dX10_codeOf_10 : decode cX10_codeOf 10 = .ok (.bipush 97, 2) := by decide +kernel
theorem dX10_codeOf_12 : decode cX10_codeOf 12 = .ok (.iload_n 0, 1) := by decide +kernel
theorem dX10_codeOf_13 : decode cX10_codeOf 13 = .ok (.iadd, 1) := by decide +kernel
theorem dX10_codeOf_14 : decode cX10_codeOf 14 = .ok (.ireturn, 1) := by decide +kernel
set_option maxRecDepth 20000 in
theorem ggX10_signOf_X10_in : GoodIn wsX10_signOf wsX10_in := goodIn_r _ [6] (by decide +kernel) (by decide +kernel)
set_option maxRecDepth 20000 in
theorem gX10_signOf_X10_in : GoodIn wsX10_signOf (va_wsS RX10 79 yX10_in wsX10_in) := goodIn_app (goodIn_of _ (by decide +kernel)) ggX10_signOf_X10_in
theorem dX10_signOf_0 : decode cX10_signOf 0 = .ok (.iload_n 0, 1) := by decide +kernel
theorem dX10_signOf_1 : decode cX10_signOf 1 = .ok (.bipush 45, 2) := by decide +kernel
theorem dX10_signOf_3 : decode cX10_signOf 3 = .ok (.if_icmp .ne 7, 3) := by decide +kernel
theorem dX10_signOf_6 : decode cX10_signOf 6 = .ok (.iconst 4, 1) := by decide +kernel
theorem dX10_signOf_7 : decode cX10_signOf 7 = .ok (.goto 26, 3) := by decide +kernel
theorem dX10_signOf_10 : decode cX10_signOf 10 = .ok (.iload_n 0, 1) := by decide +kernel
theorem dX10_signOf_11 : decode cX10_signOf 11 = .ok (.i2l, 1) := by decide +kernel
theorem dX10_signOf_12 : decode cX10_signOf 12 = .ok (.ldc2_w 95, 3) := by decide +kernel
theorem dX10_signOf_15 : decode cX10_signOf 15 = .ok (.ldc2_w 97, 3) := by decide +kernel
theorem dX10_signOf_18 : decode cX10_signOf 18 = .ok (.invokestatic 79, 3) := by decide +kernel
theorem dX10_signOf_21 : decode cX10_signOf 21 = .ok (.ifCond .eq 10, 3) := by decide +kernel
theorem dX10_signOf_24 : decode cX10_signOf 24 = .ok (.iload_n 0, 1) := by decide +kernel
theorem dX10_signOf_25 : decode cX10_signOf 25 = .ok (.bipush 97, 2) := by decide +kernel
theorem dX10_signOf_27 : decode cX10_signOf 27 = .ok (.isub, 1) := by decide +kernel
theorem dX10_signOf_28 : decode cX10_signOf 28 = .ok (.goto 5, 3) := by decide +kernel
theorem dX10_signOf_31 : decode cX10_signOf 31 = .ok (.bipush (-6), 2) := by decide +kernel
theorem dX10_signOf_33 : decode cX10_signOf 33 = .ok (.ireturn, 1) := by decide +kernel
set_option maxRecDepth 20000 in
theorem ggX10_say_X10_in : GoodIn wsX10_say wsX10_in := goodIn_r _ [8] (by decide +kernel) (by decide +kernel)
set_option maxRecDepth 20000 in
theorem gX10_say_X10_in : GoodIn wsX10_say (va_wsS RX10 79 yX10_in wsX10_in) := goodIn_app (goodIn_of _ (by decide +kernel)) ggX10_say_X10_in
theorem dX10_say_0 : decode cX10_say 0 = .ok (.iload_n 1, 1) := by decide +kernel
theorem dX10_say_1 : decode cX10_say 1 = .ok (.i2l, 1) := by decide +kernel
theorem dX10_say_2 : decode cX10_say 2 = .ok (.ldc2_w 99, 3) := by decide +kernel
theorem dX10_say_5 : decode cX10_say 5 = .ok (.ldc2_w 101, 3) := by decide +kernel
theorem dX10_say_8 : decode cX10_say 8 = .ok (.invokestatic 79, 3) := by decide +kernel
theorem dX10_say_11 : decode cX10_say 11 = .ok (.ifCond .ne 6, 3) := by decide +kernel
theorem dX10_say_14 : decode cX10_say 14 = .ok (.bipush (-2), 2) := by decide +kernel
theorem dX10_say_16 : decode cX10_say 16 = .ok (.ireturn, 1) := by decide +kernel
theorem dX10_say_17 : decode cX10_say 17 = .ok (.aload_n 0, 1) := by decide +kernel
theorem dX10_say_18 : decode cX10_say 18 = .ok (.getfield 103, 3) := by decide +kernel
theorem dX10_say_21 : decode cX10_say 21 = .ok (.bipush 40, 2) := by decide +kernel
theorem dX10_say_23 : decode cX10_say 23 = .ok (.if_icmp .ne 6, 3) := by decide +kernel
theorem dX10_say_26 : decode cX10_say 26 = .ok (.bipush (-4), 2) := by decide +kernel
theorem dX10_say_28 : decode cX10_say 28 = .ok (.ireturn, 1) := by decide +kernel
theorem dX10_say_29 : decode cX10_say 29 = .ok (.aload_n 0, 1) := by decide +kernel
theorem dX10_say_30 : decode cX10_say 30 = .ok (.getfield 19, 3) := by decide +kernel
theorem dX10_say_33 : decode cX10_say 33 = .ok (.aload_n 0, 1) := by decide +kernel
theorem dX10_say_34 : decode cX10_say 34 = .ok (.getfield 103, 3) := by decide +kernel
theorem dX10_say_37 : decode cX10_say 37 = .ok (.iload_n 1, 1) := by decide +kernel
theorem dX10_say_38 : decode cX10_say 38 = .ok (.iastore, 1) := by decide +kernel
theorem dX10_say_39 : decode cX10_say 39 = .ok (.aload_n 0, 1) := by decide +kernel
theorem dX10_say_40 : decode cX10_say 40 = .ok (.dup, 1) := by decide +kernel
theorem dX10_say_41 : decode cX10_say 41 = .ok (.getfield 103, 3) := by decide +kernel
theorem dX10_say_44 : decode cX10_say 44 = .ok (.iconst 1, 1) := by decide +kernel
theorem dX10_say_45 : decode cX10_say 45 = .ok (.iadd, 1) := by decide +kernel
theorem dX10_say_46 : decode cX10_say 46 = .ok (.putfield 103, 3) := by decide +kernel
theorem dX10_say_49 : decode cX10_say 49 = .ok (.aload_n 0, 1) := by decide +kernel
theorem dX10_say_50 : decode cX10_say 50 = .ok (.getfield 103, 3) := by decide +kernel
theorem dX10_say_53 : decode cX10_say 53 = .ok (.ireturn, 1) := by decide +kernel
theorem dX10_wipe_0 : decode cX10_wipe 0 = .ok (.aload_n 0, 1) := by decide +kernel
theorem dX10_wipe_1 : decode cX10_wipe 1 = .ok (.getfield 103, 3) := by decide +kernel
theorem dX10_wipe_4 : decode cX10_wipe 4 = .ok (.istore_n 1, 1) := by decide +kernel
theorem dX10_wipe_5 : decode cX10_wipe 5 = .ok (.aload_n 0, 1) := by decide +kernel
theorem dX10_wipe_6 : decode cX10_wipe 6 = .ok (.iconst 0, 1) := by decide +kernel
theorem dX10_wipe_7 : decode cX10_wipe 7 = .ok (.putfield 103, 3) := by decide +kernel
theorem dX10_wipe_10 : decode cX10_wipe 10 = .ok (.iload_n 1, 1) := by decide +kernel
theorem dX10_wipe_11 : decode cX10_wipe 11 = .ok (.ireturn, 1) := by decide +kernel
set_option maxRecDepth 20000 in
theorem ggX10_faultOfMap_X10_signOf : GoodIn wsX10_faultOfMap wsX10_signOf := goodIn_r _ [7, 8, 9, 10, 11, 6, 12] (by decide +kernel) (by decide +kernel)
set_option maxRecDepth 20000 in
theorem gX10_faultOfMap_X10_signOf : GoodIn wsX10_faultOfMap (va_wsS RX10 106 yX10_signOf wsX10_signOf) := goodIn_app (goodIn_of _ (by decide +kernel)) ggX10_faultOfMap_X10_signOf
theorem dX10_faultOfMap_0 : decode cX10_faultOfMap 0 = .ok (.iconst 0, 1) := by decide +kernel
theorem dX10_faultOfMap_1 : decode cX10_faultOfMap 1 = .ok (.istore_n 2, 1) := by decide +kernel
theorem dX10_faultOfMap_2 : decode cX10_faultOfMap 2 = .ok (.iload_n 2, 1) := by decide +kernel
theorem dX10_faultOfMap_3 : decode cX10_faultOfMap 3 = .ok (.aload_n 0, 1) := by decide +kernel
theorem dX10_faultOfMap_4 : decode cX10_faultOfMap 4 = .ok (.getfield 103, 3) := by decide +kernel
theorem dX10_faultOfMap_7 : decode cX10_faultOfMap 7 = .ok (.if_icmp .ge 56, 3) := by decide +kernel
theorem dX10_faultOfMap_10 : decode cX10_faultOfMap 10 = .ok (.aload_n 0, 1) := by decide +kernel
theorem dX10_faultOfMap_11 : decode cX10_faultOfMap 11 = .ok (.getfield 19, 3) := by decide +kernel
theorem dX10_faultOfMap_14 : decode cX10_faultOfMap 14 = .ok (.iload_n 2, 1) := by decide +kernel
theorem dX10_faultOfMap_15 : decode cX10_faultOfMap 15 = .ok (.iaload, 1) := by decide +kernel
theorem dX10_faultOfMap_16 : decode cX10_faultOfMap 16 = .ok (.invokestatic 106, 3) := by decide +kernel
theorem dX10_faultOfMap_19 : decode cX10_faultOfMap 19 = .ok (.ifCond .ge 18, 3) := by decide +kernel
theorem dX10_faultOfMap_22 : decode cX10_faultOfMap 22 = .ok (.iload_n 1, 1) := by decide +kernel
theorem dX10_faultOfMap_23 : decode cX10_faultOfMap 23 = .ok (.ifCond .eq 18, 3) := by decide +kernel
theorem dX10_faultOfMap_26 : decode cX10_faultOfMap 26 = .ok (.aload_n 0, 1) := by decide +kernel
theorem dX10_faultOfMap_27 : decode cX10_faultOfMap 27 = .ok (.getfield 19, 3) := by decide +kernel
theorem dX10_faultOfMap_30 : decode cX10_faultOfMap 30 = .ok (.iload_n 2, 1) := by decide +kernel
theorem dX10_faultOfMap_31 : decode cX10_faultOfMap 31 = .ok (.iaload, 1) := by decide +kernel
theorem dX10_faultOfMap_32 : decode cX10_faultOfMap 32 = .ok (.bipush 63, 2) := by decide +kernel
theorem dX10_faultOfMap_34 : decode cX10_faultOfMap 34 = .ok (.if_icmp .ne 7, 3) := by decide +kernel
theorem dX10_faultOfMap_37 : decode cX10_faultOfMap 37 = .ok (.iconst 1, 1) := by decide +kernel
theorem dX10_faultOfMap_38 : decode cX10_faultOfMap 38 = .ok (.goto 4, 3) := by decide +kernel
theorem dX10_faultOfMap_41 : decode cX10_faultOfMap 41 = .ok (.iconst 0, 1) := by decide +kernel
theorem dX10_faultOfMap_42 : decode cX10_faultOfMap 42 = .ok (.istore_n 3, 1) := by decide +kernel
theorem dX10_faultOfMap_43 : decode cX10_faultOfMap 43 = .ok (.iload_n 2, 1) := by decide +kernel
theorem dX10_faultOfMap_44 : decode cX10_faultOfMap 44 = .ok (.aload_n 0, 1) := by decide +kernel
theorem dX10_faultOfMap_45 : decode cX10_faultOfMap 45 = .ok (.getfield 67, 3) := by decide +kernel
theorem dX10_faultOfMap_48 : decode cX10_faultOfMap 48 = .ok (.if_icmp .eq 7, 3) := by decide +kernel
theorem dX10_faultOfMap_51 : decode cX10_faultOfMap 51 = .ok (.iload_n 3, 1) := by decide +kernel
theorem dX10_faultOfMap_52 : decode cX10_faultOfMap 52 = .ok (.ifCond .ne 5, 3) := by decide +kernel
theorem dX10_faultOfMap_55 : decode cX10_faultOfMap 55 = .ok (.iload_n 2, 1) := by decide +kernel
theorem dX10_faultOfMap_56 : decode cX10_faultOfMap 56 = .ok (.ireturn, 1) := by decide +kernel
theorem dX10_faultOfMap_57 : decode cX10_faultOfMap 57 = .ok (.iinc 2 1, 3) := by decide +kernel
theorem dX10_faultOfMap_60 : decode cX10_faultOfMap 60 = .ok (.goto (-58), 3) := by decide +kernel
theorem dX10_faultOfMap_63 : decode cX10_faultOfMap 63 = .ok (.aload_n 0, 1) := by decide +kernel
theorem dX10_faultOfMap_64 : decode cX10_faultOfMap 64 = .ok (.getfield 103, 3) := by decide +kernel
theorem dX10_faultOfMap_67 : decode cX10_faultOfMap 67 = .ok (.aload_n 0, 1) := by decide +kernel
theorem dX10_faultOfMap_68 : decode cX10_faultOfMap 68 = .ok (.getfield 67, 3) := by decide +kernel
theorem dX10_faultOfMap_71 : decode cX10_faultOfMap 71 = .ok (.if_icmp .ge 10, 3) := by decide +kernel
theorem dX10_faultOfMap_74 : decode cX10_faultOfMap 74 = .ok (.aload_n 0, 1) := by decide +kernel
theorem dX10_faultOfMap_75 : decode cX10_faultOfMap 75 = .ok (.getfield 103, 3) := by decide +kernel
theorem dX10_faultOfMap_78 : decode cX10_faultOfMap 78 = .ok (.goto 5, 3) := by decide +kernel
theorem dX10_faultOfMap_81 : decode cX10_faultOfMap 81 = .ok (.bipush (-6), 2) := by decide +kernel
theorem dX10_faultOfMap_83 : decode cX10_faultOfMap 83 = .ok (.ireturn, 1) := by decide +kernel
theorem dX10_kindOf_0 : decode cX10_kindOf 0 = .ok (.iload_n 0, 1) := by decide +kernel
theorem dX10_kindOf_1 : decode cX10_kindOf 1 = .ok (.bipush 99, 2) := by decide +kernel
theorem dX10_kindOf_3 : decode cX10_kindOf 3 = .ok (.if_icmp .ne 7, 3) := by decide +kernel
theorem dX10_kindOf_6 : decode cX10_kindOf 6 = .ok (.iconst 0, 1) := by decide +kernel
theorem dX10_kindOf_7 : decode cX10_kindOf 7 = .ok (.goto 35, 3) := by decide +kernel
theorem dX10_kindOf_10 : decode cX10_kindOf 10 = .ok (.iload_n 0, 1) := by decide +kernel
theorem dX10_kindOf_11 : decode cX10_kindOf 11 = .ok (.bipush 115, 2) := by decide +kernel
theorem dX10_kindOf_13 : decode cX10_kindOf 13 = .ok (.if_icmp .ne 7, 3) := by decide +kernel
theorem dX10_kindOf_16 : decode cX10_kindOf 16 = .ok (.iconst 1, 1) := by decide +kernel
theorem dX10_kindOf_17 : decode cX10_kindOf 17 = .ok (.goto 25, 3) := by decide +kernel
theorem dX10_kindOf_20 : decode cX10_kindOf 20 = .ok (.iload_n 0, 1) := by decide +kernel
theorem dX10_kindOf_21 : decode cX10_kindOf 21 = .ok (.bipush 116, 2) := by decide +kernel
theorem dX10_kindOf_23 : decode cX10_kindOf 23 = .ok (.if_icmp .ne 7, 3) := by decide +kernel
theorem dX10_kindOf_26 : decode cX10_kindOf 26 = .ok (.iconst 2, 1) := by decide +kernel
theorem dX10_kindOf_27 : decode cX10_kindOf 27 = .ok (.goto 15, 3) := by decide +kernel
theorem dX10_kindOf_30 : decode cX10_kindOf 30 = .ok (.iload_n 0, 1) := by decide +kernel
theorem dX10_kindOf_31 : decode cX10_kindOf 31 = .ok (.bipush 111, 2) := by decide +kernel
theorem dX10_kindOf_33 : decode cX10_kindOf 33 = .ok (.if_icmp .ne 7, 3) := by decide +kernel
theorem dX10_kindOf_36 : decode cX10_kindOf 36 = .ok (.iconst 3, 1) := by decide +kernel
theorem dX10_kindOf_37 : decode cX10_kindOf 37 = .ok (.goto 5, 3) := by decide +kernel
theorem dX10_kindOf_40 : decode cX10_kindOf 40 = .ok (.bipush (-6), 2) := by decide +kernel
theorem dX10_kindOf_42 : decode cX10_kindOf 42 = .ok (.ireturn, 1) := by decide +kernel
set_option maxRecDepth 20000 in
theorem ggX10_faultOfSlips_X10_kindOf : GoodIn wsX10_faultOfSlips wsX10_kindOf := goodIn_r _ [11] (by decide +kernel) (by decide +kernel)
set_option maxRecDepth 20000 in
theorem gX10_faultOfSlips_X10_kindOf : GoodIn wsX10_faultOfSlips (va_wsS RX10 113 yX10_kindOf wsX10_kindOf) := goodIn_app (goodIn_of _ (by decide +kernel)) ggX10_faultOfSlips_X10_kindOf
set_option maxRecDepth 20000 in
theorem ggX10_faultOfSlips_X10_in : GoodIn wsX10_faultOfSlips wsX10_in := goodIn_r _ [14] (by decide +kernel) (by decide +kernel)
set_option maxRecDepth 20000 in
theorem gX10_faultOfSlips_X10_in : GoodIn wsX10_faultOfSlips (va_wsS RX10 79 yX10_in wsX10_in) := goodIn_app (goodIn_of _ (by decide +kernel)) ggX10_faultOfSlips_X10_in
theorem dX10_faultOfSlips_0 : decode cX10_faultOfSlips 0 = .ok (.iconst 0, 1) := by decide +kernel
theorem dX10_faultOfSlips_1 : decode cX10_faultOfSlips 1 = .ok (.istore_n 1, 1) := by decide +kernel
theorem dX10_faultOfSlips_2 : decode cX10_faultOfSlips 2 = .ok (.iconst 0, 1) := by decide +kernel
theorem dX10_faultOfSlips_3 : decode cX10_faultOfSlips 3 = .ok (.istore_n 2, 1) := by decide +kernel
theorem dX10_faultOfSlips_4 : decode cX10_faultOfSlips 4 = .ok (.iconst 0, 1) := by decide +kernel
theorem dX10_faultOfSlips_5 : decode cX10_faultOfSlips 5 = .ok (.istore_n 3, 1) := by decide +kernel
theorem dX10_faultOfSlips_6 : decode cX10_faultOfSlips 6 = .ok (.aload_n 0, 1) := by decide +kernel
theorem dX10_faultOfSlips_7 : decode cX10_faultOfSlips 7 = .ok (.iconst 0, 1) := by decide +kernel
theorem dX10_faultOfSlips_8 : decode cX10_faultOfSlips 8 = .ok (.putfield 110, 3) := by decide +kernel
theorem dX10_faultOfSlips_11 : decode cX10_faultOfSlips 11 = .ok (.iconst 0, 1) := by decide +kernel
theorem dX10_faultOfSlips_12 : decode cX10_faultOfSlips 12 = .ok (.istore 4, 2) := by decide +kernel
theorem dX10_faultOfSlips_14 : decode cX10_faultOfSlips 14 = .ok (.iload 4, 2) := by decide +kernel
theorem dX10_faultOfSlips_16 : decode cX10_faultOfSlips 16 = .ok (.aload_n 0, 1) := by decide +kernel
theorem dX10_faultOfSlips_17 : decode cX10_faultOfSlips 17 = .ok (.getfield 103, 3) := by decide +kernel
theorem dX10_faultOfSlips_20 : decode cX10_faultOfSlips 20 = .ok (.if_icmp .ge 198, 3) := by decide +kernel
theorem dX10_faultOfSlips_23 : decode cX10_faultOfSlips 23 = .ok (.aload_n 0, 1) := by decide +kernel
theorem dX10_faultOfSlips_24 : decode cX10_faultOfSlips 24 = .ok (.getfield 19, 3) := by decide +kernel
theorem dX10_faultOfSlips_27 : decode cX10_faultOfSlips 27 = .ok (.iload 4, 2) := by decide +kernel
theorem dX10_faultOfSlips_29 : decode cX10_faultOfSlips 29 = .ok (.iaload, 1) := by decide +kernel
theorem dX10_faultOfSlips_30 : decode cX10_faultOfSlips 30 = .ok (.istore 5, 2) := by decide +kernel
theorem dX10_faultOfSlips_32 : decode cX10_faultOfSlips 32 = .ok (.iconst 0, 1) := by decide +kernel
theorem dX10_faultOfSlips_33 : decode cX10_faultOfSlips 33 = .ok (.istore 6, 2) := by decide +kernel
theorem dX10_faultOfSlips_35 : decode cX10_faultOfSlips 35 = .ok (.iload_n 1, 1) := by decide +kernel
theorem dX10_faultOfSlips_36 : decode cX10_faultOfSlips 36 = .ok (.ifCond .ne 31, 3) := by decide +kernel
theorem dX10_faultOfSlips_39 : decode cX10_faultOfSlips 39 = .ok (.aload_n 0, 1) := by decide +kernel
theorem dX10_faultOfSlips_40 : decode cX10_faultOfSlips 40 = .ok (.getfield 110, 3) := by decide +kernel
theorem dX10_faultOfSlips_43 : decode cX10_faultOfSlips 43 = .ok (.bipush 10, 2) := by decide +kernel
theorem dX10_faultOfSlips_45 : decode cX10_faultOfSlips 45 = .ok (.if_icmp .ge 22, 3) := by decide +kernel
theorem dX10_faultOfSlips_48 : decode cX10_faultOfSlips 48 = .ok (.iload 5, 2) := by decide +kernel
theorem dX10_faultOfSlips_50 : decode cX10_faultOfSlips 50 = .ok (.invokestatic 113, 3) := by decide +kernel
theorem dX10_faultOfSlips_53 : decode cX10_faultOfSlips 53 = .ok (.ifCond .lt 14, 3) := by decide +kernel
theorem dX10_faultOfSlips_56 : decode cX10_faultOfSlips 56 = .ok (.iload 5, 2) := by decide +kernel
theorem dX10_faultOfSlips_58 : decode cX10_faultOfSlips 58 = .ok (.invokestatic 113, 3) := by decide +kernel
theorem dX10_faultOfSlips_61 : decode cX10_faultOfSlips 61 = .ok (.istore_n 2, 1) := by decide +kernel
theorem dX10_faultOfSlips_62 : decode cX10_faultOfSlips 62 = .ok (.iconst 1, 1) := by decide +kernel
theorem dX10_faultOfSlips_63 : decode cX10_faultOfSlips 63 = .ok (.istore_n 1, 1) := by decide +kernel
theorem dX10_faultOfSlips_64 : decode cX10_faultOfSlips 64 = .ok (.goto 99, 3) := by decide +kernel
theorem dX10_faultOfSlips_67 : decode cX10_faultOfSlips 67 = .ok (.iload_n 1, 1) := by decide +kernel
theorem dX10_faultOfSlips_68 : decode cX10_faultOfSlips 68 = .ok (.iconst 1, 1) := by decide +kernel
theorem dX10_faultOfSlips_69 : decode cX10_faultOfSlips 69 = .ok (.if_icmp .ne 65, 3) := by decide +kernel
theorem dX10_faultOfSlips_72 : decode cX10_faultOfSlips 72 = .ok (.iload 5, 2) := by decide +kernel
theorem dX10_faultOfSlips_74 : decode cX10_faultOfSlips 74 = .ok (.bipush 48, 2) := by decide +kernel
theorem dX10_faultOfSlips_76 : decode cX10_faultOfSlips 76 = .ok (.isub, 1) := by decide +kernel
theorem dX10_faultOfSlips_77 : decode cX10_faultOfSlips 77 = .ok (.i2l, 1) := by decide +kernel
theorem dX10_faultOfSlips_78 : decode cX10_faultOfSlips 78 = .ok (.lconst 0, 1) := by decide +kernel
theorem dX10_faultOfSlips_79 : decode cX10_faultOfSlips 79 = .ok (.iload_n 2, 1) := by decide +kernel
theorem dX10_faultOfSlips_80 : decode cX10_faultOfSlips 80 = .ok (.iconst 1, 1) := by decide +kernel
theorem dX10_faultOfSlips_81 : decode cX10_faultOfSlips 81 = .ok (.if_icmp .eq 8, 3) := by decide +kernel
theorem dX10_faultOfSlips_84 : decode cX10_faultOfSlips 84 = .ok (.iload_n 2, 1) := by decide +kernel
theorem dX10_faultOfSlips_85 : decode cX10_faultOfSlips 85 = .ok (.iconst 2, 1) := by decide +kernel
theorem dX10_faultOfSlips_86 : decode cX10_faultOfSlips 86 = .ok (.if_icmp .ne 13, 3) := by decide +kernel
theorem dX10_faultOfSlips_89 : decode cX10_faultOfSlips 89 = .ok (.aload_n 0, 1) := by decide +kernel
theorem dX10_faultOfSlips_90 : decode cX10_faultOfSlips 90 = .ok (.getfield 67, 3) := by decide +kernel
theorem dX10_faultOfSlips_93 : decode cX10_faultOfSlips 93 = .ok (.iconst 2, 1) := by decide +kernel
theorem dX10_faultOfSlips_94 : decode cX10_faultOfSlips 94 = .ok (.isub, 1) := by decide +kernel
theorem dX10_faultOfSlips_95 : decode cX10_faultOfSlips 95 = .ok (.i2l, 1) := by decide +kernel
theorem dX10_faultOfSlips_96 : decode cX10_faultOfSlips 96 = .ok (.goto 10, 3) := by decide +kernel
theorem dX10_faultOfSlips_99 : decode cX10_faultOfSlips 99 = .ok (.aload_n 0, 1) := by decide +kernel
theorem dX10_faultOfSlips_100 : decode cX10_faultOfSlips 100 = .ok (.getfield 67, 3) := by decide +kernel
theorem dX10_faultOfSlips_103 : decode cX10_faultOfSlips 103 = .ok (.iconst 1, 1) := by decide +kernel
theorem dX10_faultOfSlips_104 : decode cX10_faultOfSlips 104 = .ok (.isub, 1) := by decide +kernel
theorem dX10_faultOfSlips_105 : decode cX10_faultOfSlips 105 = .ok (.i2l, 1) := by decide +kernel
theorem dX10_faultOfSlips_106 : decode cX10_faultOfSlips 106 = .ok (.invokestatic 79, 3) := by decide +kernel
theorem dX10_faultOfSlips_109 : decode cX10_faultOfSlips 109 = .ok (.ifCond .eq 25, 3) := by decide +kernel
theorem dX10_faultOfSlips_112 : decode cX10_faultOfSlips 112 = .ok (.iload 5, 2) := by decide +kernel
theorem dX10_faultOfSlips_114 : decode cX10_faultOfSlips 114 = .ok (.bipush 48, 2) := by decide +kernel
theorem dX10_faultOfSlips_116 : decode cX10_faultOfSlips 116 = .ok (.isub, 1) := by decide +kernel
theorem dX10_faultOfSlips_117 : decode cX10_faultOfSlips 117 = .ok (.istore_n 3, 1) := by decide +kernel
theorem dX10_faultOfSlips_118 : decode cX10_faultOfSlips 118 = .ok (.iconst 2, 1) := by decide +kernel
theorem dX10_faultOfSlips_119 : decode cX10_faultOfSlips 119 = .ok (.istore_n 1, 1) := by decide +kernel
theorem dX10_faultOfSlips_120 : decode cX10_faultOfSlips 120 = .ok (.iload_n 2, 1) := by decide +kernel
theorem dX10_faultOfSlips_121 : decode cX10_faultOfSlips 121 = .ok (.ifCond .eq 7, 3) := by decide +kernel
theorem dX10_faultOfSlips_124 : decode cX10_faultOfSlips 124 = .ok (.iconst 1, 1) := by decide +kernel
theorem dX10_faultOfSlips_125 : decode cX10_faultOfSlips 125 = .ok (.goto 4, 3) := by decide +kernel
theorem dX10_faultOfSlips_128 : decode cX10_faultOfSlips 128 = .ok (.iconst 0, 1) := by decide +kernel
theorem dX10_faultOfSlips_129 : decode cX10_faultOfSlips 129 = .ok (.istore 6, 2) := by decide +kernel
theorem dX10_faultOfSlips_131 : decode cX10_faultOfSlips 131 = .ok (.goto 32, 3) := by decide +kernel
theorem dX10_faultOfSlips_134 : decode cX10_faultOfSlips 134 = .ok (.iload_n 1, 1) := by decide +kernel
theorem dX10_faultOfSlips_135 : decode cX10_faultOfSlips 135 = .ok (.iconst 2, 1) := by decide +kernel
theorem dX10_faultOfSlips_136 : decode cX10_faultOfSlips 136 = .ok (.if_icmp .ne 24, 3) := by decide +kernel
theorem dX10_faultOfSlips_139 : decode cX10_faultOfSlips 139 = .ok (.iload 5, 2) := by decide +kernel
theorem dX10_faultOfSlips_141 : decode cX10_faultOfSlips 141 = .ok (.i2l, 1) := by decide +kernel
theorem dX10_faultOfSlips_142 : decode cX10_faultOfSlips 142 = .ok (.ldc2_w 95, 3) := by decide +kernel
theorem dX10_faultOfSlips_145 : decode cX10_faultOfSlips 145 = .ok (.ldc2_w 97, 3) := by decide +kernel
theorem dX10_faultOfSlips_148 : decode cX10_faultOfSlips 148 = .ok (.invokestatic 79, 3) := by decide +kernel
theorem dX10_faultOfSlips_151 : decode cX10_faultOfSlips 151 = .ok (.ifCond .eq 9, 3) := by decide +kernel
theorem dX10_faultOfSlips_154 : decode cX10_faultOfSlips 154 = .ok (.iconst 1, 1) := by decide +kernel
theorem dX10_faultOfSlips_155 : decode cX10_faultOfSlips 155 = .ok (.istore 6, 2) := by decide +kernel
theorem dX10_faultOfSlips_157 : decode cX10_faultOfSlips 157 = .ok (.goto 6, 3) := by decide +kernel
theorem dX10_faultOfSlips_160 : decode cX10_faultOfSlips 160 = .ok (.iload 4, 2) := by decide +kernel
theorem dX10_faultOfSlips_162 : decode cX10_faultOfSlips 162 = .ok (.ireturn, 1) := by decide +kernel
theorem dX10_faultOfSlips_163 : decode cX10_faultOfSlips 163 = .ok (.iload 6, 2) := by decide +kernel
theorem dX10_faultOfSlips_165 : decode cX10_faultOfSlips 165 = .ok (.ifCond .eq 47, 3) := by decide +kernel
theorem dX10_faultOfSlips_168 : decode cX10_faultOfSlips 168 = .ok (.aload_n 0, 1) := by decide +kernel
theorem dX10_faultOfSlips_169 : decode cX10_faultOfSlips 169 = .ok (.getfield 22, 3) := by decide +kernel
theorem dX10_faultOfSlips_172 : decode cX10_faultOfSlips 172 = .ok (.aload_n 0, 1) := by decide +kernel
theorem dX10_faultOfSlips_173 : decode cX10_faultOfSlips 173 = .ok (.getfield 110, 3) := by decide +kernel
theorem dX10_faultOfSlips_176 : decode cX10_faultOfSlips 176 = .ok (.bipush 100, 2) := by decide +kernel
theorem dX10_faultOfSlips_178 : decode cX10_faultOfSlips 178 = .ok (.iload_n 2, 1) := by decide +kernel
theorem dX10_faultOfSlips_179 : decode cX10_faultOfSlips 179 = .ok (.imul, 1) := by decide +kernel
theorem dX10_faultOfSlips_180 : decode cX10_faultOfSlips 180 = .ok (.bipush 10, 2) := by decide +kernel
theorem dX10_faultOfSlips_182 : decode cX10_faultOfSlips 182 = .ok (.iload_n 3, 1) := by decide +kernel
theorem dX10_faultOfSlips_183 : decode cX10_faultOfSlips 183 = .ok (.imul, 1) := by decide +kernel
theorem dX10_faultOfSlips_184 : decode cX10_faultOfSlips 184 = .ok (.iadd, 1) := by decide +kernel
theorem dX10_faultOfSlips_185 : decode cX10_faultOfSlips 185 = .ok (.iload_n 2, 1) := by decide +kernel
theorem dX10_faultOfSlips_186 : decode cX10_faultOfSlips 186 = .ok (.ifCond .ne 11, 3) := by decide +kernel
theorem dX10_faultOfSlips_189 : decode cX10_faultOfSlips 189 = .ok (.iload 5, 2) := by decide +kernel
theorem dX10_faultOfSlips_191 : decode cX10_faultOfSlips 191 = .ok (.bipush 97, 2) := by decide +kernel
theorem dX10_faultOfSlips_193 : decode cX10_faultOfSlips 193 = .ok (.isub, 1) := by decide +kernel
theorem dX10_faultOfSlips_194 : decode cX10_faultOfSlips 194 = .ok (.goto 4, 3) := by decide +kernel
theorem dX10_faultOfSlips_197 : decode cX10_faultOfSlips 197 = .ok (.iconst 0, 1) := by decide +kernel
theorem dX10_faultOfSlips_198 : decode cX10_faultOfSlips 198 = .ok (.iadd, 1) := by decide +kernel
theorem dX10_faultOfSlips_199 : decode cX10_faultOfSlips 199 = .ok (.iastore, 1) := by decide +kernel
theorem dX10_faultOfSlips_200 : decode cX10_faultOfSlips 200 = .ok (.aload_n 0, 1) := by decide +kernel
theorem dX10_faultOfSlips_201 : decode cX10_faultOfSlips 201 = .ok (.dup, 1) := by decide +kernel
theorem dX10_faultOfSlips_202 : decode cX10_faultOfSlips 202 = .ok (.getfield 110, 3) := by decide +kernel
theorem dX10_faultOfSlips_205 : decode cX10_faultOfSlips 205 = .ok (.iconst 1, 1) := by decide +kernel
theorem dX10_faultOfSlips_206 : decode cX10_faultOfSlips 206 = .ok (.iadd, 1) := by decide +kernel
theorem dX10_faultOfSlips_207 : decode cX10_faultOfSlips 207 = .ok (.putfield 110, 3) := by decide +kernel
theorem dX10_faultOfSlips_210 : decode cX10_faultOfSlips 210 = .ok (.iconst 0, 1) := by decide +kernel
theorem dX10_faultOfSlips_211 : decode cX10_faultOfSlips 211 = .ok (.istore_n 1, 1) := by decide +kernel
theorem dX10_faultOfSlips_212 : decode cX10_faultOfSlips 212 = .ok (.iinc 4 1, 3) := by decide +kernel
theorem dX10_faultOfSlips_215 : decode cX10_faultOfSlips 215 = .ok (.goto (-201), 3) := by decide +kernel
theorem dX10_faultOfSlips_218 : decode cX10_faultOfSlips 218 = .ok (.iload_n 1, 1) := by decide +kernel
theorem dX10_faultOfSlips_219 : decode cX10_faultOfSlips 219 = .ok (.ifCond .ne 8, 3) := by decide +kernel
theorem dX10_faultOfSlips_222 : decode cX10_faultOfSlips 222 = .ok (.bipush (-6), 2) := by decide +kernel
theorem dX10_faultOfSlips_224 : decode cX10_faultOfSlips 224 = .ok (.goto 7, 3) := by decide +kernel
theorem dX10_faultOfSlips_227 : decode cX10_faultOfSlips 227 = .ok (.aload_n 0, 1) := by decide +kernel
theorem dX10_faultOfSlips_228 : decode cX10_faultOfSlips 228 = .ok (.getfield 103, 3) := by decide +kernel
theorem dX10_faultOfSlips_231 : decode cX10_faultOfSlips 231 = .ok (.ireturn, 1) := by decide +kernel
set_option maxRecDepth 20000 in
theorem ggX10_fault_X10_faultOfMap : GoodIn wsX10_fault wsX10_faultOfMap := goodIn_r _ [5, 6, 7, 8, 9, 10, 4, 11, 12, 13, 14, 15, 16, 26, 27, 28, 29, 30, 31, 32, 33, 34, 35, 36, 37, 38, 39, 40, 41, 42, 43, 44, 45, 46, 47, 48, 49, 50, 51, 52, 53] (by decide +kernel) (by decide +kernel)
set_option maxRecDepth 20000 in
theorem gX10_fault_X10_faultOfMap : GoodIn wsX10_fault (wsV RX10 116 RX10 yX10_faultOfMap wsX10_faultOfMap) := goodIn_app (goodIn_of _ (by decide +kernel)) ggX10_fault_X10_faultOfMap
set_option maxRecDepth 20000 in
theorem ggX10_fault_X10_faultOfSlips : GoodIn wsX10_fault wsX10_faultOfSlips := goodIn_r _ [20, 21, 6, 7, 8, 12, 13, 22, 23, 24, 4, 25, 14, 15, 16, 26, 27, 28, 29, 30, 31, 32, 33, 34, 35, 36, 37, 38, 39, 40, 41, 42, 43, 44, 45, 46, 47, 48, 49, 50, 51, 52, 53] (by decide +kernel) (by decide +kernel)
set_option maxRecDepth 20000 in
theorem gX10_fault_X10_faultOfSlips : GoodIn wsX10_fault (wsV RX10 120 RX10 yX10_faultOfSlips wsX10_faultOfSlips) := goodIn_app (goodIn_of _ (by decide +kernel)) ggX10_fault_X10_faultOfSlips
theorem dX10_fault_0 : decode cX10_fault 0 = .ok (.iload_n 1, 1) := by decide +kernel
theorem dX10_fault_1 : decode cX10_fault 1 = .ok (.ifCond .ne 11, 3) := by decide +kernel
theorem dX10_fault_4 : decode cX10_fault 4 = .ok (.aload_n 0, 1) := by decide +kernel
theorem dX10_fault_5 : decode cX10_fault 5 = .ok (.iconst 0, 1) := by decide +kernel
theorem dX10_fault_6 : decode cX10_fault 6 = .ok (.invokevirtual 116, 3) := by decide +kernel
theorem dX10_fault_9 : decode cX10_fault 9 = .ok (.goto 30, 3) := by decide +kernel
theorem dX10_fault_12 : decode cX10_fault 12 = .ok (.iload_n 1, 1) := by decide +kernel
theorem dX10_fault_13 : decode cX10_fault 13 = .ok (.iconst 1, 1) := by decide +kernel
theorem dX10_fault_14 : decode cX10_fault 14 = .ok (.if_icmp .ne 10, 3) := by decide +kernel
theorem dX10_fault_17 : decode cX10_fault 17 = .ok (.aload_n 0, 1) := by decide +kernel
theorem dX10_fault_18 : decode cX10_fault 18 = .ok (.invokevirtual 120, 3) := by decide +kernel
theorem dX10_fault_21 : decode cX10_fault 21 = .ok (.goto 18, 3) := by decide +kernel
theorem dX10_fault_24 : decode cX10_fault 24 = .ok (.iload_n 1, 1) := by decide +kernel
theorem dX10_fault_25 : decode cX10_fault 25 = .ok (.iconst 2, 1) := by decide +kernel
theorem dX10_fault_26 : decode cX10_fault 26 = .ok (.if_icmp .ne 11, 3) := by decide +kernel
theorem dX10_fault_29 : decode cX10_fault 29 = .ok (.aload_n 0, 1) := by decide +kernel
theorem dX10_fault_30 : decode cX10_fault 30 = .ok (.iconst 1, 1) := by decide +kernel
theorem dX10_fault_31 : decode cX10_fault 31 = .ok (.invokevirtual 116, 3) := by decide +kernel
theorem dX10_fault_34 : decode cX10_fault 34 = .ok (.goto 5, 3) := by decide +kernel
theorem dX10_fault_37 : decode cX10_fault 37 = .ok (.bipush (-2), 2) := by decide +kernel
theorem dX10_fault_39 : decode cX10_fault 39 = .ok (.ireturn, 1) := by decide +kernel
set_option maxRecDepth 20000 in
theorem ggX10_map_X10_isMap : GoodIn wsX10_map wsX10_isMap := goodIn_r _ [9, 10, 11, 12, 8, 13] (by decide +kernel) (by decide +kernel)
set_option maxRecDepth 20000 in
theorem gX10_map_X10_isMap : GoodIn wsX10_map (va_wsS RX10 124 yX10_isMap wsX10_isMap) := goodIn_app (goodIn_of _ (by decide +kernel)) ggX10_map_X10_isMap
set_option maxRecDepth 20000 in
theorem ggX10_map_X10_faultOfMap : GoodIn wsX10_map wsX10_faultOfMap := goodIn_r _ [17, 5, 2, 1, 18, 19, 8, 20, 21, 22, 11, 12, 13, 23, 24, 25, 26, 27, 28, 29, 30, 31, 32, 33, 34, 35, 36, 37, 38, 39, 40, 41, 42, 43, 44, 45, 46, 47, 48, 49, 50] (by decide +kernel) (by decide +kernel)
set_option maxRecDepth 20000 in
theorem gX10_map_X10_faultOfMap : GoodIn wsX10_map (wsV RX10 116 RX10 yX10_faultOfMap wsX10_faultOfMap) := goodIn_app (goodIn_of _ (by decide +kernel)) ggX10_map_X10_faultOfMap
set_option maxRecDepth 20000 in
theorem ggX10_map_X10_signOf : GoodIn wsX10_map wsX10_signOf := goodIn_r _ [20, 21, 22, 11, 12, 8, 13] (by decide +kernel) (by decide +kernel)
set_option maxRecDepth 20000 in
theorem gX10_map_X10_signOf : GoodIn wsX10_map (va_wsS RX10 106 yX10_signOf wsX10_signOf) := goodIn_app (goodIn_of _ (by decide +kernel)) ggX10_map_X10_signOf
theorem dX10_map_0 : decode cX10_map 0 = .ok (.iload_n 1, 1) := by decide +kernel
theorem dX10_map_1 : decode cX10_map 1 = .ok (.invokestatic 124, 3) := by decide +kernel
theorem dX10_map_4 : decode cX10_map 4 = .ok (.ifCond .ne 5, 3) := by decide +kernel
theorem dX10_map_7 : decode cX10_map 7 = .ok (.iconst (-1), 1) := by decide +kernel
theorem dX10_map_8 : decode cX10_map 8 = .ok (.ireturn, 1) := by decide +kernel
theorem dX10_map_9 : decode cX10_map 9 = .ok (.aload_n 0, 1) := by decide +kernel
theorem dX10_map_10 : decode cX10_map 10 = .ok (.iconst 0, 1) := by decide +kernel
theorem dX10_map_11 : decode cX10_map 11 = .ok (.invokevirtual 116, 3) := by decide +kernel
theorem dX10_map_14 : decode cX10_map 14 = .ok (.ifCond .lt 6, 3) := by decide +kernel
theorem dX10_map_17 : decode cX10_map 17 = .ok (.bipush (-5), 2) := by decide +kernel
theorem dX10_map_19 : decode cX10_map 19 = .ok (.ireturn, 1) := by decide +kernel
theorem dX10_map_20 : decode cX10_map 20 = .ok (.iconst 0, 1) := by decide +kernel
theorem dX10_map_21 : decode cX10_map 21 = .ok (.istore_n 2, 1) := by decide +kernel
theorem dX10_map_22 : decode cX10_map 22 = .ok (.iconst 0, 1) := by decide +kernel
theorem dX10_map_23 : decode cX10_map 23 = .ok (.istore_n 3, 1) := by decide +kernel
theorem dX10_map_24 : decode cX10_map 24 = .ok (.iload_n 3, 1) := by decide +kernel
theorem dX10_map_25 : decode cX10_map 25 = .ok (.aload_n 0, 1) := by decide +kernel
theorem dX10_map_26 : decode cX10_map 26 = .ok (.getfield 67, 3) := by decide +kernel
theorem dX10_map_29 : decode cX10_map 29 = .ok (.if_icmp .ge 23, 3) := by decide +kernel
theorem dX10_map_32 : decode cX10_map 32 = .ok (.iconst 5, 1) := by decide +kernel
theorem dX10_map_33 : decode cX10_map 33 = .ok (.iload_n 2, 1) := by decide +kernel
theorem dX10_map_34 : decode cX10_map 34 = .ok (.imul, 1) := by decide +kernel
theorem dX10_map_35 : decode cX10_map 35 = .ok (.aload_n 0, 1) := by decide +kernel
theorem dX10_map_36 : decode cX10_map 36 = .ok (.getfield 19, 3) := by decide +kernel
theorem dX10_map_39 : decode cX10_map 39 = .ok (.iload_n 3, 1) := by decide +kernel
theorem dX10_map_40 : decode cX10_map 40 = .ok (.iaload, 1) := by decide +kernel
theorem dX10_map_41 : decode cX10_map 41 = .ok (.invokestatic 106, 3) := by decide +kernel
theorem dX10_map_44 : decode cX10_map 44 = .ok (.iadd, 1) := by decide +kernel
theorem dX10_map_45 : decode cX10_map 45 = .ok (.istore_n 2, 1) := by decide +kernel
theorem dX10_map_46 : decode cX10_map 46 = .ok (.iinc 3 1, 3) := by decide +kernel
theorem dX10_map_49 : decode cX10_map 49 = .ok (.goto (-25), 3) := by decide +kernel
theorem dX10_map_52 : decode cX10_map 52 = .ok (.aload_n 0, 1) := by decide +kernel
theorem dX10_map_53 : decode cX10_map 53 = .ok (.getfield 7, 3) := by decide +kernel
theorem dX10_map_56 : decode cX10_map 56 = .ok (.iload_n 1, 1) := by decide +kernel
theorem dX10_map_57 : decode cX10_map 57 = .ok (.iload_n 2, 1) := by decide +kernel
theorem dX10_map_58 : decode cX10_map 58 = .ok (.iastore, 1) := by decide +kernel
theorem dX10_map_59 : decode cX10_map 59 = .ok (.aload_n 0, 1) := by decide +kernel
theorem dX10_map_60 : decode cX10_map 60 = .ok (.dup, 1) := by decide +kernel
theorem dX10_map_61 : decode cX10_map 61 = .ok (.getfield 70, 3) := by decide +kernel
theorem dX10_map_64 : decode cX10_map 64 = .ok (.iconst 1, 1) := by decide +kernel
theorem dX10_map_65 : decode cX10_map 65 = .ok (.iload_n 1, 1) := by decide +kernel
theorem dX10_map_66 : decode cX10_map 66 = .ok (.ishl, 1) := by decide +kernel
theorem dX10_map_67 : decode cX10_map 67 = .ok (.ior, 1) := by decide +kernel
theorem dX10_map_68 : decode cX10_map 68 = .ok (.putfield 70, 3) := by decide +kernel
theorem dX10_map_71 : decode cX10_map 71 = .ok (.aload_n 0, 1) := by decide +kernel
theorem dX10_map_72 : decode cX10_map 72 = .ok (.iconst 0, 1) := by decide +kernel
theorem dX10_map_73 : decode cX10_map 73 = .ok (.putfield 103, 3) := by decide +kernel
theorem dX10_map_76 : decode cX10_map 76 = .ok (.iconst 1, 1) := by decide +kernel
theorem dX10_map_77 : decode cX10_map 77 = .ok (.ireturn, 1) := by decide +kernel
set_option maxRecDepth 20000 in
theorem ggX10_at_X10_isMap : GoodIn wsX10_at wsX10_isMap := goodIn_r _ [5, 6, 7, 8, 4, 9] (by decide +kernel) (by decide +kernel)
set_option maxRecDepth 20000 in
theorem gX10_at_X10_isMap : GoodIn wsX10_at (va_wsS RX10 124 yX10_isMap wsX10_isMap) := goodIn_app (goodIn_of _ (by decide +kernel)) ggX10_at_X10_isMap
set_option maxRecDepth 20000 in
theorem ggX10_at_X10_isSite : GoodIn wsX10_at wsX10_isSite := goodIn_r _ [13, 14, 7, 8, 4, 9, 28, 29, 30, 31, 32, 33, 34, 35, 36, 37, 38, 39, 40, 41, 42, 43, 44, 45, 46, 47, 48, 49, 50, 51, 52, 53, 54, 55] (by decide +kernel) (by decide +kernel)
set_option maxRecDepth 20000 in
theorem gX10_at_X10_isSite : GoodIn wsX10_at (wsV RX10 128 RX10 yX10_isSite wsX10_isSite) := goodIn_app (goodIn_of _ (by decide +kernel)) ggX10_at_X10_isSite
set_option maxRecDepth 20000 in
theorem ggX10_at_X10_isTold : GoodIn wsX10_at wsX10_isTold := goodIn_r _ [18, 19, 28, 29, 30, 31, 32, 33, 34, 35, 36, 37, 38, 39, 40, 41, 42, 43, 44, 45, 46, 47, 48, 49, 50, 51, 52, 53, 54, 55] (by decide +kernel) (by decide +kernel)
set_option maxRecDepth 20000 in
theorem gX10_at_X10_isTold : GoodIn wsX10_at (wsV RX10 131 RX10 yX10_isTold wsX10_isTold) := goodIn_app (goodIn_of _ (by decide +kernel)) ggX10_at_X10_isTold
set_option maxRecDepth 20000 in
theorem ggX10_at_X10_signAt : GoodIn wsX10_at wsX10_signAt := goodIn_r _ [23, 24, 28, 29, 30, 31, 32, 33, 34, 35, 36, 37, 38, 39, 40, 41, 42, 43, 44, 45, 46, 47, 48, 49, 50, 51, 52, 53, 54, 55] (by decide +kernel) (by decide +kernel)
set_option maxRecDepth 20000 in
theorem gX10_at_X10_signAt : GoodIn wsX10_at (wsV RX10 91 RX10 yX10_signAt wsX10_signAt) := goodIn_app (goodIn_of _ (by decide +kernel)) ggX10_at_X10_signAt
set_option maxRecDepth 20000 in
theorem ggX10_at_X10_codeOf : GoodIn wsX10_at wsX10_codeOf := goodIn_r _ [27] (by decide +kernel) (by decide +kernel)
set_option maxRecDepth 20000 in
theorem gX10_at_X10_codeOf : GoodIn wsX10_at (va_wsS RX10 134 yX10_codeOf wsX10_codeOf) := goodIn_app (goodIn_of _ (by decide +kernel)) ggX10_at_X10_codeOf
theorem dX10_at_0 : decode cX10_at 0 = .ok (.iload_n 1, 1) := by decide +kernel
theorem dX10_at_1 : decode cX10_at 1 = .ok (.invokestatic 124, 3) := by decide +kernel
theorem dX10_at_4 : decode cX10_at 4 = .ok (.ifCond .eq 11, 3) := by decide +kernel
theorem dX10_at_7 : decode cX10_at 7 = .ok (.aload_n 0, 1) := by decide +kernel
theorem dX10_at_8 : decode cX10_at 8 = .ok (.iload_n 2, 1) := by decide +kernel
theorem dX10_at_9 : decode cX10_at 9 = .ok (.invokevirtual 128, 3) := by decide +kernel
theorem dX10_at_12 : decode cX10_at 12 = .ok (.ifCond .ne 5, 3) := by decide +kernel
theorem dX10_at_15 : decode cX10_at 15 = .ok (.iconst (-1), 1) := by decide +kernel
theorem dX10_at_16 : decode cX10_at 16 = .ok (.ireturn, 1) := by decide +kernel
theorem dX10_at_17 : decode cX10_at 17 = .ok (.aload_n 0, 1) := by decide +kernel
theorem dX10_at_18 : decode cX10_at 18 = .ok (.iload_n 1, 1) := by decide +kernel
theorem dX10_at_19 : decode cX10_at 19 = .ok (.invokevirtual 131, 3) := by decide +kernel
theorem dX10_at_22 : decode cX10_at 22 = .ok (.ifCond .eq 20, 3) := by decide +kernel
theorem dX10_at_25 : decode cX10_at 25 = .ok (.aload_n 0, 1) := by decide +kernel
theorem dX10_at_26 : decode cX10_at 26 = .ok (.aload_n 0, 1) := by decide +kernel
theorem dX10_at_27 : decode cX10_at 27 = .ok (.getfield 7, 3) := by decide +kernel
theorem dX10_at_30 : decode cX10_at 30 = .ok (.iload_n 1, 1) := by decide +kernel
theorem dX10_at_31 : decode cX10_at 31 = .ok (.iaload, 1) := by decide +kernel
theorem dX10_at_32 : decode cX10_at 32 = .ok (.iload_n 2, 1) := by decide +kernel
theorem dX10_at_33 : decode cX10_at 33 = .ok (.invokevirtual 91, 3) := by decide +kernel
theorem dX10_at_36 : decode cX10_at 36 = .ok (.invokestatic 134, 3) := by decide +kernel
theorem dX10_at_39 : decode cX10_at 39 = .ok (.goto 5, 3) := by decide +kernel
theorem dX10_at_42 : decode cX10_at 42 = .ok (.bipush (-3), 2) := by decide +kernel
theorem dX10_at_44 : decode cX10_at 44 = .ok (.ireturn, 1) := by decide +kernel
set_option maxRecDepth 20000 in
theorem ggX10_hand_X10_isHand : GoodIn wsX10_hand wsX10_isHand := goodIn_r _ [6, 7, 8, 9, 5, 10] (by decide +kernel) (by decide +kernel)
set_option maxRecDepth 20000 in
theorem gX10_hand_X10_isHand : GoodIn wsX10_hand (va_wsS RX10 137 yX10_isHand wsX10_isHand) := goodIn_app (goodIn_of _ (by decide +kernel)) ggX10_hand_X10_isHand
set_option maxRecDepth 20000 in
theorem ggX10_hand_X10_in : GoodIn wsX10_hand wsX10_in := goodIn_r _ [10] (by decide +kernel) (by decide +kernel)
set_option maxRecDepth 20000 in
theorem gX10_hand_X10_in : GoodIn wsX10_hand (va_wsS RX10 79 yX10_in wsX10_in) := goodIn_app (goodIn_of _ (by decide +kernel)) ggX10_hand_X10_in
theorem dX10_hand_0 : decode cX10_hand 0 = .ok (.iload_n 1, 1) := by decide +kernel
theorem dX10_hand_1 : decode cX10_hand 1 = .ok (.invokestatic 137, 3) := by decide +kernel
theorem dX10_hand_4 : decode cX10_hand 4 = .ok (.ifCond .ne 5, 3) := by decide +kernel
theorem dX10_hand_7 : decode cX10_hand 7 = .ok (.iconst (-1), 1) := by decide +kernel
theorem dX10_hand_8 : decode cX10_hand 8 = .ok (.ireturn, 1) := by decide +kernel
theorem dX10_hand_9 : decode cX10_hand 9 = .ok (.iload_n 2, 1) := by decide +kernel
theorem dX10_hand_10 : decode cX10_hand 10 = .ok (.i2l, 1) := by decide +kernel
theorem dX10_hand_11 : decode cX10_hand 11 = .ok (.lconst 0, 1) := by decide +kernel
theorem dX10_hand_12 : decode cX10_hand 12 = .ok (.ldc2_w 140, 3) := by decide +kernel
theorem dX10_hand_15 : decode cX10_hand 15 = .ok (.invokestatic 79, 3) := by decide +kernel
theorem dX10_hand_18 : decode cX10_hand 18 = .ok (.ifCond .ne 6, 3) := by decide +kernel
theorem dX10_hand_21 : decode cX10_hand 21 = .ok (.bipush (-2), 2) := by decide +kernel
theorem dX10_hand_23 : decode cX10_hand 23 = .ok (.ireturn, 1) := by decide +kernel
theorem dX10_hand_24 : decode cX10_hand 24 = .ok (.aload_n 0, 1) := by decide +kernel
theorem dX10_hand_25 : decode cX10_hand 25 = .ok (.getfield 13, 3) := by decide +kernel
theorem dX10_hand_28 : decode cX10_hand 28 = .ok (.iload_n 1, 1) := by decide +kernel
theorem dX10_hand_29 : decode cX10_hand 29 = .ok (.iaload, 1) := by decide +kernel
theorem dX10_hand_30 : decode cX10_hand 30 = .ok (.istore_n 3, 1) := by decide +kernel
theorem dX10_hand_31 : decode cX10_hand 31 = .ok (.aload_n 0, 1) := by decide +kernel
theorem dX10_hand_32 : decode cX10_hand 32 = .ok (.getfield 13, 3) := by decide +kernel
theorem dX10_hand_35 : decode cX10_hand 35 = .ok (.iload_n 1, 1) := by decide +kernel
theorem dX10_hand_36 : decode cX10_hand 36 = .ok (.iload_n 2, 1) := by decide +kernel
theorem dX10_hand_37 : decode cX10_hand 37 = .ok (.iastore, 1) := by decide +kernel
theorem dX10_hand_38 : decode cX10_hand 38 = .ok (.iload_n 3, 1) := by decide +kernel
theorem dX10_hand_39 : decode cX10_hand 39 = .ok (.ireturn, 1) := by decide +kernel
theorem dX10_slipsThere_0 : decode cX10_slipsThere 0 = .ok (.iconst 4, 1) := by decide +kernel
theorem dX10_slipsThere_1 : decode cX10_slipsThere 1 = .ok (.aload_n 0, 1) := by decide +kernel
theorem dX10_slipsThere_2 : decode cX10_slipsThere 2 = .ok (.getfield 67, 3) := by decide +kernel
theorem dX10_slipsThere_5 : decode cX10_slipsThere 5 = .ok (.imul, 1) := by decide +kernel
theorem dX10_slipsThere_6 : decode cX10_slipsThere 6 = .ok (.iconst 2, 1) := by decide +kernel
theorem dX10_slipsThere_7 : decode cX10_slipsThere 7 = .ok (.aload_n 0, 1) := by decide +kernel
theorem dX10_slipsThere_8 : decode cX10_slipsThere 8 = .ok (.getfield 67, 3) := by decide +kernel
theorem dX10_slipsThere_11 : decode cX10_slipsThere 11 = .ok (.iconst 1, 1) := by decide +kernel
theorem dX10_slipsThere_12 : decode cX10_slipsThere 12 = .ok (.isub, 1) := by decide +kernel
theorem dX10_slipsThere_13 : decode cX10_slipsThere 13 = .ok (.imul, 1) := by decide +kernel
theorem dX10_slipsThere_14 : decode cX10_slipsThere 14 = .ok (.iadd, 1) := by decide +kernel
theorem dX10_slipsThere_15 : decode cX10_slipsThere 15 = .ok (.aload_n 0, 1) := by decide +kernel
theorem dX10_slipsThere_16 : decode cX10_slipsThere 16 = .ok (.getfield 67, 3) := by decide +kernel
theorem dX10_slipsThere_19 : decode cX10_slipsThere 19 = .ok (.iadd, 1) := by decide +kernel
theorem dX10_slipsThere_20 : decode cX10_slipsThere 20 = .ok (.ireturn, 1) := by decide +kernel
theorem dX10_slipAt_0 : decode cX10_slipAt 0 = .ok (.iload_n 1, 1) := by decide +kernel
theorem dX10_slipAt_1 : decode cX10_slipAt 1 = .ok (.iconst 4, 1) := by decide +kernel
theorem dX10_slipAt_2 : decode cX10_slipAt 2 = .ok (.aload_n 0, 1) := by decide +kernel
theorem dX10_slipAt_3 : decode cX10_slipAt 3 = .ok (.getfield 67, 3) := by decide +kernel
theorem dX10_slipAt_6 : decode cX10_slipAt 6 = .ok (.imul, 1) := by decide +kernel
theorem dX10_slipAt_7 : decode cX10_slipAt 7 = .ok (.isub, 1) := by decide +kernel
theorem dX10_slipAt_8 : decode cX10_slipAt 8 = .ok (.istore_n 2, 1) := by decide +kernel
theorem dX10_slipAt_9 : decode cX10_slipAt 9 = .ok (.iload_n 2, 1) := by decide +kernel
theorem dX10_slipAt_10 : decode cX10_slipAt 10 = .ok (.ifCond .ge 14, 3) := by decide +kernel
theorem dX10_slipAt_13 : decode cX10_slipAt 13 = .ok (.bipush 10, 2) := by decide +kernel
theorem dX10_slipAt_15 : decode cX10_slipAt 15 = .ok (.iload_n 1, 1) := by decide +kernel
theorem dX10_slipAt_16 : decode cX10_slipAt 16 = .ok (.iconst 4, 1) := by decide +kernel
theorem dX10_slipAt_17 : decode cX10_slipAt 17 = .ok (.idiv, 1) := by decide +kernel
theorem dX10_slipAt_18 : decode cX10_slipAt 18 = .ok (.imul, 1) := by decide +kernel
theorem dX10_slipAt_19 : decode cX10_slipAt 19 = .ok (.iload_n 1, 1) := by decide +kernel
theorem dX10_slipAt_20 : decode cX10_slipAt 20 = .ok (.iconst 4, 1) := by decide +kernel
theorem dX10_slipAt_21 : decode cX10_slipAt 21 = .ok (.irem, 1) := by decide +kernel
theorem dX10_slipAt_22 : decode cX10_slipAt 22 = .ok (.iadd, 1) := by decide +kernel
theorem dX10_slipAt_23 : decode cX10_slipAt 23 = .ok (.ireturn, 1) := by decide +kernel
theorem dX10_slipAt_24 : decode cX10_slipAt 24 = .ok (.iconst 2, 1) := by decide +kernel
theorem dX10_slipAt_25 : decode cX10_slipAt 25 = .ok (.aload_n 0, 1) := by decide +kernel
theorem dX10_slipAt_26 : decode cX10_slipAt 26 = .ok (.getfield 67, 3) := by decide +kernel
theorem dX10_slipAt_29 : decode cX10_slipAt 29 = .ok (.iconst 1, 1) := by decide +kernel
theorem dX10_slipAt_30 : decode cX10_slipAt 30 = .ok (.isub, 1) := by decide +kernel
theorem dX10_slipAt_31 : decode cX10_slipAt 31 = .ok (.imul, 1) := by decide +kernel
theorem dX10_slipAt_32 : decode cX10_slipAt 32 = .ok (.istore_n 3, 1) := by decide +kernel
theorem dX10_slipAt_33 : decode cX10_slipAt 33 = .ok (.iload_n 2, 1) := by decide +kernel
theorem dX10_slipAt_34 : decode cX10_slipAt 34 = .ok (.aload_n 0, 1) := by decide +kernel
theorem dX10_slipAt_35 : decode cX10_slipAt 35 = .ok (.getfield 67, 3) := by decide +kernel
theorem dX10_slipAt_38 : decode cX10_slipAt 38 = .ok (.iconst 1, 1) := by decide +kernel
theorem dX10_slipAt_39 : decode cX10_slipAt 39 = .ok (.isub, 1) := by decide +kernel
theorem dX10_slipAt_40 : decode cX10_slipAt 40 = .ok (.if_icmp .ge 13, 3) := by decide +kernel
theorem dX10_slipAt_43 : decode cX10_slipAt 43 = .ok (.bipush 100, 2) := by decide +kernel
theorem dX10_slipAt_45 : decode cX10_slipAt 45 = .ok (.bipush 10, 2) := by decide +kernel
theorem dX10_slipAt_47 : decode cX10_slipAt 47 = .ok (.iload_n 2, 1) := by decide +kernel
theorem dX10_slipAt_48 : decode cX10_slipAt 48 = .ok (.imul, 1) := by decide +kernel
theorem dX10_slipAt_49 : decode cX10_slipAt 49 = .ok (.iadd, 1) := by decide +kernel
theorem dX10_slipAt_50 : decode cX10_slipAt 50 = .ok (.goto 36, 3) := by decide +kernel
theorem dX10_slipAt_53 : decode cX10_slipAt 53 = .ok (.iload_n 2, 1) := by decide +kernel
theorem dX10_slipAt_54 : decode cX10_slipAt 54 = .ok (.iload_n 3, 1) := by decide +kernel
theorem dX10_slipAt_55 : decode cX10_slipAt 55 = .ok (.if_icmp .ge 21, 3) := by decide +kernel
theorem dX10_slipAt_58 : decode cX10_slipAt 58 = .ok (.sipush 200, 3) := by decide +kernel
theorem dX10_slipAt_61 : decode cX10_slipAt 61 = .ok (.bipush 10, 2) := by decide +kernel
theorem dX10_slipAt_63 : decode cX10_slipAt 63 = .ok (.iload_n 2, 1) := by decide +kernel
theorem dX10_slipAt_64 : decode cX10_slipAt 64 = .ok (.aload_n 0, 1) := by decide +kernel
theorem dX10_slipAt_65 : decode cX10_slipAt 65 = .ok (.getfield 67, 3) := by decide +kernel
theorem dX10_slipAt_68 : decode cX10_slipAt 68 = .ok (.isub, 1) := by decide +kernel
theorem dX10_slipAt_69 : decode cX10_slipAt 69 = .ok (.iconst 1, 1) := by decide +kernel
theorem dX10_slipAt_70 : decode cX10_slipAt 70 = .ok (.iadd, 1) := by decide +kernel
theorem dX10_slipAt_71 : decode cX10_slipAt 71 = .ok (.imul, 1) := by decide +kernel
theorem dX10_slipAt_72 : decode cX10_slipAt 72 = .ok (.iadd, 1) := by decide +kernel
theorem dX10_slipAt_73 : decode cX10_slipAt 73 = .ok (.goto 13, 3) := by decide +kernel
theorem dX10_slipAt_76 : decode cX10_slipAt 76 = .ok (.sipush 300, 3) := by decide +kernel
theorem dX10_slipAt_79 : decode cX10_slipAt 79 = .ok (.bipush 10, 2) := by decide +kernel
theorem dX10_slipAt_81 : decode cX10_slipAt 81 = .ok (.iload_n 2, 1) := by decide +kernel
theorem dX10_slipAt_82 : decode cX10_slipAt 82 = .ok (.iload_n 3, 1) := by decide +kernel
theorem dX10_slipAt_83 : decode cX10_slipAt 83 = .ok (.isub, 1) := by decide +kernel
theorem dX10_slipAt_84 : decode cX10_slipAt 84 = .ok (.imul, 1) := by decide +kernel
theorem dX10_slipAt_85 : decode cX10_slipAt 85 = .ok (.iadd, 1) := by decide +kernel
theorem dX10_slipAt_86 : decode cX10_slipAt 86 = .ok (.ireturn, 1) := by decide +kernel
set_option maxRecDepth 20000 in
theorem ggX10_slipped_X10_signAt : GoodIn wsX10_slipped wsX10_signAt := goodIn_r _ [5, 6, 11, 12, 13, 14, 15, 16, 17, 18, 19, 20, 21, 22, 23, 24, 25, 26, 27, 28, 29, 30, 31, 32, 33, 34, 35, 36, 37, 38] (by decide +kernel) (by decide +kernel)
set_option maxRecDepth 20000 in
theorem gX10_slipped_X10_signAt : GoodIn wsX10_slipped (wsV RX10 91 RX10 yX10_signAt wsX10_signAt) := goodIn_app (goodIn_of _ (by decide +kernel)) ggX10_slipped_X10_signAt
set_option maxRecDepth 20000 in
theorem ggX10_slipped_X10_with : GoodIn wsX10_slipped wsX10_with := goodIn_r _ [10, 6, 1, 2, 3, 4, 5, 11, 12, 13, 14, 15, 16, 17, 18, 19, 20, 21, 22, 23, 24, 25, 26, 27, 28, 29, 30, 31, 32, 33, 34, 35, 36, 37, 38] (by decide +kernel) (by decide +kernel)
set_option maxRecDepth 20000 in
theorem gX10_slipped_X10_with : GoodIn wsX10_slipped (wsV RX10 142 RX10 yX10_with wsX10_with) := goodIn_app (goodIn_of _ (by decide +kernel)) ggX10_slipped_X10_with
theorem dX10_slipped_0 : decode cX10_slipped 0 = .ok (.iload_n 2, 1) := by decide +kernel
theorem dX10_slipped_1 : decode cX10_slipped 1 = .ok (.bipush 10, 2) := by decide +kernel
theorem dX10_slipped_3 : decode cX10_slipped 3 = .ok (.idiv, 1) := by decide +kernel
theorem dX10_slipped_4 : decode cX10_slipped 4 = .ok (.bipush 10, 2) := by decide +kernel
theorem dX10_slipped_6 : decode cX10_slipped 6 = .ok (.irem, 1) := by decide +kernel
theorem dX10_slipped_7 : decode cX10_slipped 7 = .ok (.istore_n 3, 1) := by decide +kernel
theorem dX10_slipped_8 : decode cX10_slipped 8 = .ok (.aload_n 0, 1) := by decide +kernel
theorem dX10_slipped_9 : decode cX10_slipped 9 = .ok (.iload_n 1, 1) := by decide +kernel
theorem dX10_slipped_10 : decode cX10_slipped 10 = .ok (.iload_n 3, 1) := by decide +kernel
theorem dX10_slipped_11 : decode cX10_slipped 11 = .ok (.invokevirtual 91, 3) := by decide +kernel
theorem dX10_slipped_14 : decode cX10_slipped 14 = .ok (.istore 4, 2) := by decide +kernel
theorem dX10_slipped_16 : decode cX10_slipped 16 = .ok (.iload_n 2, 1) := by decide +kernel
theorem dX10_slipped_17 : decode cX10_slipped 17 = .ok (.bipush 100, 2) := by decide +kernel
theorem dX10_slipped_19 : decode cX10_slipped 19 = .ok (.idiv, 1) := by decide +kernel
theorem dX10_slipped_20 : decode cX10_slipped 20 = .ok (.tableswitch 74 0 2 #[28, 39, 63], 28) := by decide +kernel
theorem dX10_slipped_48 : decode cX10_slipped 48 = .ok (.aload_n 0, 1) := by decide +kernel
theorem dX10_slipped_49 : decode cX10_slipped 49 = .ok (.iload_n 1, 1) := by decide +kernel
theorem dX10_slipped_50 : decode cX10_slipped 50 = .ok (.iload_n 3, 1) := by decide +kernel
theorem dX10_slipped_51 : decode cX10_slipped 51 = .ok (.iload_n 2, 1) := by decide +kernel
theorem dX10_slipped_52 : decode cX10_slipped 52 = .ok (.bipush 10, 2) := by decide +kernel
theorem dX10_slipped_54 : decode cX10_slipped 54 = .ok (.irem, 1) := by decide +kernel
theorem dX10_slipped_55 : decode cX10_slipped 55 = .ok (.invokevirtual 142, 3) := by decide +kernel
theorem dX10_slipped_58 : decode cX10_slipped 58 = .ok (.ireturn, 1) := by decide +kernel
theorem dX10_slipped_59 : decode cX10_slipped 59 = .ok (.aload_n 0, 1) := by decide +kernel
theorem dX10_slipped_60 : decode cX10_slipped 60 = .ok (.aload_n 0, 1) := by decide +kernel
theorem dX10_slipped_61 : decode cX10_slipped 61 = .ok (.iload_n 1, 1) := by decide +kernel
theorem dX10_slipped_62 : decode cX10_slipped 62 = .ok (.iload_n 3, 1) := by decide +kernel
theorem dX10_slipped_63 : decode cX10_slipped 63 = .ok (.aload_n 0, 1) := by decide +kernel
theorem dX10_slipped_64 : decode cX10_slipped 64 = .ok (.iload_n 1, 1) := by decide +kernel
theorem dX10_slipped_65 : decode cX10_slipped 65 = .ok (.iload_n 3, 1) := by decide +kernel
theorem dX10_slipped_66 : decode cX10_slipped 66 = .ok (.iconst 1, 1) := by decide +kernel
theorem dX10_slipped_67 : decode cX10_slipped 67 = .ok (.iadd, 1) := by decide +kernel
theorem dX10_slipped_68 : decode cX10_slipped 68 = .ok (.invokevirtual 91, 3) := by decide +kernel
theorem dX10_slipped_71 : decode cX10_slipped 71 = .ok (.invokevirtual 142, 3) := by decide +kernel
theorem dX10_slipped_74 : decode cX10_slipped 74 = .ok (.iload_n 3, 1) := by decide +kernel
theorem dX10_slipped_75 : decode cX10_slipped 75 = .ok (.iconst 1, 1) := by decide +kernel
theorem dX10_slipped_76 : decode cX10_slipped 76 = .ok (.iadd, 1) := by decide +kernel
theorem dX10_slipped_77 : decode cX10_slipped 77 = .ok (.iload 4, 2) := by decide +kernel
theorem dX10_slipped_79 : decode cX10_slipped 79 = .ok (.invokevirtual 142, 3) := by decide +kernel
theorem dX10_slipped_82 : decode cX10_slipped 82 = .ok (.ireturn, 1) := by decide +kernel
theorem dX10_slipped_83 : decode cX10_slipped 83 = .ok (.aload_n 0, 1) := by decide +kernel
theorem dX10_slipped_84 : decode cX10_slipped 84 = .ok (.iload_n 1, 1) := by decide +kernel
theorem dX10_slipped_85 : decode cX10_slipped 85 = .ok (.iload_n 3, 1) := by decide +kernel
theorem dX10_slipped_86 : decode cX10_slipped 86 = .ok (.iconst 1, 1) := by decide +kernel
theorem dX10_slipped_87 : decode cX10_slipped 87 = .ok (.iadd, 1) := by decide +kernel
theorem dX10_slipped_88 : decode cX10_slipped 88 = .ok (.iload 4, 2) := by decide +kernel
theorem dX10_slipped_90 : decode cX10_slipped 90 = .ok (.invokevirtual 142, 3) := by decide +kernel
theorem dX10_slipped_93 : decode cX10_slipped 93 = .ok (.ireturn, 1) := by decide +kernel
theorem dX10_slipped_94 : decode cX10_slipped 94 = .ok (.aload_n 0, 1) := by decide +kernel
theorem dX10_slipped_95 : decode cX10_slipped 95 = .ok (.iload_n 1, 1) := by decide +kernel
theorem dX10_slipped_96 : decode cX10_slipped 96 = .ok (.iload_n 3, 1) := by decide +kernel
theorem dX10_slipped_97 : decode cX10_slipped 97 = .ok (.iconst 4, 1) := by decide +kernel
theorem dX10_slipped_98 : decode cX10_slipped 98 = .ok (.invokevirtual 142, 3) := by decide +kernel
theorem dX10_slipped_101 : decode cX10_slipped 101 = .ok (.ireturn, 1) := by decide +kernel
theorem dX10_makes_0 : decode cX10_makes 0 = .ok (.iload_n 0, 1) := by decide +kernel
theorem dX10_makes_1 : decode cX10_makes 1 = .ok (.iload_n 1, 1) := by decide +kernel
theorem dX10_makes_2 : decode cX10_makes 2 = .ok (.bipush 100, 2) := by decide +kernel
theorem dX10_makes_4 : decode cX10_makes 4 = .ok (.idiv, 1) := by decide +kernel
theorem dX10_makes_5 : decode cX10_makes 5 = .ok (.ishr, 1) := by decide +kernel
theorem dX10_makes_6 : decode cX10_makes 6 = .ok (.iconst 1, 1) := by decide +kernel
theorem dX10_makes_7 : decode cX10_makes 7 = .ok (.iand, 1) := by decide +kernel
theorem dX10_makes_8 : decode cX10_makes 8 = .ok (.iconst 1, 1) := by decide +kernel
theorem dX10_makes_9 : decode cX10_makes 9 = .ok (.if_icmp .ne 7, 3) := by decide +kernel
theorem dX10_makes_12 : decode cX10_makes 12 = .ok (.iconst 1, 1) := by decide +kernel
theorem dX10_makes_13 : decode cX10_makes 13 = .ok (.goto 4, 3) := by decide +kernel
theorem dX10_makes_16 : decode cX10_makes 16 = .ok (.iconst 0, 1) := by decide +kernel
theorem dX10_makes_17 : decode cX10_makes 17 = .ok (.ireturn, 1) := by decide +kernel
set_option maxRecDepth 20000 in
theorem ggX10_judge_X10_isMap : GoodIn wsX10_judge wsX10_isMap := goodIn_r _ [5, 6, 7, 8, 4, 9] (by decide +kernel) (by decide +kernel)
set_option maxRecDepth 20000 in
theorem gX10_judge_X10_isMap : GoodIn wsX10_judge (va_wsS RX10 124 yX10_isMap wsX10_isMap) := goodIn_app (goodIn_of _ (by decide +kernel)) ggX10_judge_X10_isMap
set_option maxRecDepth 20000 in
theorem ggX10_judge_X10_isTold : GoodIn wsX10_judge wsX10_isTold := goodIn_r _ [13, 14, 47, 48, 49, 50, 51, 52, 53, 54, 55, 56, 57, 58, 59, 60, 61, 62, 63, 64, 65, 66, 67, 68, 69, 70, 71, 72, 73, 74] (by decide +kernel) (by decide +kernel)
set_option maxRecDepth 20000 in
theorem gX10_judge_X10_isTold : GoodIn wsX10_judge (wsV RX10 131 RX10 yX10_isTold wsX10_isTold) := goodIn_app (goodIn_of _ (by decide +kernel)) ggX10_judge_X10_isTold
set_option maxRecDepth 20000 in
theorem ggX10_judge_X10_faultOfSlips : GoodIn wsX10_judge wsX10_faultOfSlips := goodIn_r _ [18, 19, 20, 21, 22, 23, 24, 25, 26, 27, 4, 28, 7, 8, 9, 47, 48, 49, 50, 51, 52, 53, 54, 55, 56, 57, 58, 59, 60, 61, 62, 63, 64, 65, 66, 67, 68, 69, 70, 71, 72, 73, 74] (by decide +kernel) (by decide +kernel)
set_option maxRecDepth 20000 in
theorem gX10_judge_X10_faultOfSlips : GoodIn wsX10_judge (wsV RX10 120 RX10 yX10_faultOfSlips wsX10_faultOfSlips) := goodIn_app (goodIn_of _ (by decide +kernel)) ggX10_judge_X10_faultOfSlips
set_option maxRecDepth 20000 in
theorem ggX10_judge_X10_badFrom : GoodIn wsX10_judge wsX10_badFrom := goodIn_r _ [32, 33, 19, 25, 34, 35, 36, 4, 37, 38, 39, 40, 41, 42, 43, 44, 45, 46, 47, 48, 49, 50, 51, 52, 53, 54, 55, 56, 57, 58, 59, 60, 61, 62, 63, 64, 65, 66, 67, 68, 69, 70, 71, 72, 73, 74] (by decide +kernel) (by decide +kernel)
set_option maxRecDepth 20000 in
theorem gX10_judge_X10_badFrom : GoodIn wsX10_judge (wsV RX10 146 RX10 yX10_badFrom wsX10_badFrom) := goodIn_app (goodIn_of _ (by decide +kernel)) ggX10_judge_X10_badFrom
theorem dX10_judge_0 : decode cX10_judge 0 = .ok (.iload_n 1, 1) := by decide +kernel
theorem dX10_judge_1 : decode cX10_judge 1 = .ok (.invokestatic 124, 3) := by decide +kernel
theorem dX10_judge_4 : decode cX10_judge 4 = .ok (.ifCond .ne 5, 3) := by decide +kernel
theorem dX10_judge_7 : decode cX10_judge 7 = .ok (.iconst (-1), 1) := by decide +kernel
theorem dX10_judge_8 : decode cX10_judge 8 = .ok (.ireturn, 1) := by decide +kernel
theorem dX10_judge_9 : decode cX10_judge 9 = .ok (.aload_n 0, 1) := by decide +kernel
theorem dX10_judge_10 : decode cX10_judge 10 = .ok (.iload_n 1, 1) := by decide +kernel
theorem dX10_judge_11 : decode cX10_judge 11 = .ok (.invokevirtual 131, 3) := by decide +kernel
theorem dX10_judge_14 : decode cX10_judge 14 = .ok (.ifCond .ne 6, 3) := by decide +kernel
theorem dX10_judge_17 : decode cX10_judge 17 = .ok (.bipush (-3), 2) := by decide +kernel
theorem dX10_judge_19 : decode cX10_judge 19 = .ok (.ireturn, 1) := by decide +kernel
theorem dX10_judge_20 : decode cX10_judge 20 = .ok (.aload_n 0, 1) := by decide +kernel
theorem dX10_judge_21 : decode cX10_judge 21 = .ok (.invokevirtual 120, 3) := by decide +kernel
theorem dX10_judge_24 : decode cX10_judge 24 = .ok (.ifCond .lt 8, 3) := by decide +kernel
theorem dX10_judge_27 : decode cX10_judge 27 = .ok (.bipush (-5), 2) := by decide +kernel
theorem dX10_judge_29 : decode cX10_judge 29 = .ok (.goto 13, 3) := by decide +kernel
theorem dX10_judge_32 : decode cX10_judge 32 = .ok (.aload_n 0, 1) := by decide +kernel
theorem dX10_judge_33 : decode cX10_judge 33 = .ok (.aload_n 0, 1) := by decide +kernel
theorem dX10_judge_34 : decode cX10_judge 34 = .ok (.getfield 7, 3) := by decide +kernel
theorem dX10_judge_37 : decode cX10_judge 37 = .ok (.iload_n 1, 1) := by decide +kernel
theorem dX10_judge_38 : decode cX10_judge 38 = .ok (.iaload, 1) := by decide +kernel
theorem dX10_judge_39 : decode cX10_judge 39 = .ok (.invokevirtual 146, 3) := by decide +kernel
theorem dX10_judge_42 : decode cX10_judge 42 = .ok (.ireturn, 1) := by decide +kernel
set_option maxRecDepth 20000 in
theorem ggX10_badFrom_X10_slipped : GoodIn wsX10_badFrom wsX10_slipped := goodIn_r _ [8, 9, 10, 11, 7, 12, 13, 14, 15, 16, 17, 18, 19, 20, 21, 22, 23, 24, 25, 26, 27, 28, 29, 30, 31, 32, 33, 34, 35, 36, 37, 38, 39, 40, 41, 42, 43, 44, 45] (by decide +kernel) (by decide +kernel)
set_option maxRecDepth 20000 in
theorem gX10_badFrom_X10_slipped : GoodIn wsX10_badFrom (wsV RX10 152 RX10 yX10_slipped wsX10_slipped) := goodIn_app (goodIn_of _ (by decide +kernel)) ggX10_badFrom_X10_slipped
theorem dX10_badFrom_0 : decode cX10_badFrom 0 = .ok (.aload_n 0, 1) := by decide +kernel
theorem dX10_badFrom_1 : decode cX10_badFrom 1 = .ok (.iload_n 1, 1) := by decide +kernel
theorem dX10_badFrom_2 : decode cX10_badFrom 2 = .ok (.putfield 149, 3) := by decide +kernel
theorem dX10_badFrom_5 : decode cX10_badFrom 5 = .ok (.iconst 0, 1) := by decide +kernel
theorem dX10_badFrom_6 : decode cX10_badFrom 6 = .ok (.istore_n 2, 1) := by decide +kernel
theorem dX10_badFrom_7 : decode cX10_badFrom 7 = .ok (.iload_n 2, 1) := by decide +kernel
theorem dX10_badFrom_8 : decode cX10_badFrom 8 = .ok (.aload_n 0, 1) := by decide +kernel
theorem dX10_badFrom_9 : decode cX10_badFrom 9 = .ok (.getfield 110, 3) := by decide +kernel
theorem dX10_badFrom_12 : decode cX10_badFrom 12 = .ok (.if_icmp .ge 39, 3) := by decide +kernel
theorem dX10_badFrom_15 : decode cX10_badFrom 15 = .ok (.aload_n 0, 1) := by decide +kernel
theorem dX10_badFrom_16 : decode cX10_badFrom 16 = .ok (.aload_n 0, 1) := by decide +kernel
theorem dX10_badFrom_17 : decode cX10_badFrom 17 = .ok (.getfield 149, 3) := by decide +kernel
theorem dX10_badFrom_20 : decode cX10_badFrom 20 = .ok (.aload_n 0, 1) := by decide +kernel
theorem dX10_badFrom_21 : decode cX10_badFrom 21 = .ok (.getfield 22, 3) := by decide +kernel
theorem dX10_badFrom_24 : decode cX10_badFrom 24 = .ok (.iload_n 2, 1) := by decide +kernel
theorem dX10_badFrom_25 : decode cX10_badFrom 25 = .ok (.iaload, 1) := by decide +kernel
theorem dX10_badFrom_26 : decode cX10_badFrom 26 = .ok (.invokevirtual 152, 3) := by decide +kernel
theorem dX10_badFrom_29 : decode cX10_badFrom 29 = .ok (.istore_n 3, 1) := by decide +kernel
theorem dX10_badFrom_30 : decode cX10_badFrom 30 = .ok (.iload_n 3, 1) := by decide +kernel
theorem dX10_badFrom_31 : decode cX10_badFrom 31 = .ok (.aload_n 0, 1) := by decide +kernel
theorem dX10_badFrom_32 : decode cX10_badFrom 32 = .ok (.getfield 149, 3) := by decide +kernel
theorem dX10_badFrom_35 : decode cX10_badFrom 35 = .ok (.if_icmp .ne 5, 3) := by decide +kernel
theorem dX10_badFrom_38 : decode cX10_badFrom 38 = .ok (.iload_n 2, 1) := by decide +kernel
theorem dX10_badFrom_39 : decode cX10_badFrom 39 = .ok (.ireturn, 1) := by decide +kernel
theorem dX10_badFrom_40 : decode cX10_badFrom 40 = .ok (.aload_n 0, 1) := by decide +kernel
theorem dX10_badFrom_41 : decode cX10_badFrom 41 = .ok (.iload_n 3, 1) := by decide +kernel
theorem dX10_badFrom_42 : decode cX10_badFrom 42 = .ok (.putfield 149, 3) := by decide +kernel
theorem dX10_badFrom_45 : decode cX10_badFrom 45 = .ok (.iinc 2 1, 3) := by decide +kernel
theorem dX10_badFrom_48 : decode cX10_badFrom 48 = .ok (.goto (-41), 3) := by decide +kernel
theorem dX10_badFrom_51 : decode cX10_badFrom 51 = .ok (.bipush (-6), 2) := by decide +kernel
theorem dX10_badFrom_53 : decode cX10_badFrom 53 = .ok (.ireturn, 1) := by decide +kernel
set_option maxRecDepth 20000 in
theorem ggX10_copy_X10_isMap : GoodIn wsX10_copy wsX10_isMap := goodIn_r _ [9, 10, 11, 12, 8, 13] (by decide +kernel) (by decide +kernel)
set_option maxRecDepth 20000 in
theorem gX10_copy_X10_isMap : GoodIn wsX10_copy (va_wsS RX10 124 yX10_isMap wsX10_isMap) := goodIn_app (goodIn_of _ (by decide +kernel)) ggX10_copy_X10_isMap
set_option maxRecDepth 20000 in
theorem ggX10_copy_X10_isTold : GoodIn wsX10_copy wsX10_isTold := goodIn_r _ [17, 3, 47, 48, 49, 50, 51, 52, 53, 54, 55, 56, 57, 58, 59, 60, 61, 62, 63, 64, 65, 66, 67, 68, 69, 70, 71, 72, 73, 74] (by decide +kernel) (by decide +kernel)
set_option maxRecDepth 20000 in
theorem gX10_copy_X10_isTold : GoodIn wsX10_copy (wsV RX10 131 RX10 yX10_isTold wsX10_isTold) := goodIn_app (goodIn_of _ (by decide +kernel)) ggX10_copy_X10_isTold
set_option maxRecDepth 20000 in
theorem ggX10_copy_X10_faultOfSlips : GoodIn wsX10_copy wsX10_faultOfSlips := goodIn_r _ [21, 5, 4, 22, 23, 24, 25, 26, 27, 28, 8, 29, 11, 12, 13, 47, 48, 49, 50, 51, 52, 53, 54, 55, 56, 57, 58, 59, 60, 61, 62, 63, 64, 65, 66, 67, 68, 69, 70, 71, 72, 73, 74] (by decide +kernel) (by decide +kernel)
set_option maxRecDepth 20000 in
theorem gX10_copy_X10_faultOfSlips : GoodIn wsX10_copy (wsV RX10 120 RX10 yX10_faultOfSlips wsX10_faultOfSlips) := goodIn_app (goodIn_of _ (by decide +kernel)) ggX10_copy_X10_faultOfSlips
set_option maxRecDepth 20000 in
theorem ggX10_copy_X10_badFrom : GoodIn wsX10_copy wsX10_badFrom := goodIn_r _ [33, 2, 5, 26, 34, 35, 36, 8, 37, 38, 39, 40, 41, 42, 43, 44, 45, 46, 47, 48, 49, 50, 51, 52, 53, 54, 55, 56, 57, 58, 59, 60, 61, 62, 63, 64, 65, 66, 67, 68, 69, 70, 71, 72, 73, 74] (by decide +kernel) (by decide +kernel)
set_option maxRecDepth 20000 in
theorem gX10_copy_X10_badFrom : GoodIn wsX10_copy (wsV RX10 146 RX10 yX10_badFrom wsX10_badFrom) := goodIn_app (goodIn_of _ (by decide +kernel)) ggX10_copy_X10_badFrom
theorem dX10_copy_0 : decode cX10_copy 0 = .ok (.iload_n 1, 1) := by decide +kernel
theorem dX10_copy_1 : decode cX10_copy 1 = .ok (.invokestatic 124, 3) := by decide +kernel
theorem dX10_copy_4 : decode cX10_copy 4 = .ok (.ifCond .eq 10, 3) := by decide +kernel
theorem dX10_copy_7 : decode cX10_copy 7 = .ok (.iload_n 2, 1) := by decide +kernel
theorem dX10_copy_8 : decode cX10_copy 8 = .ok (.invokestatic 124, 3) := by decide +kernel
theorem dX10_copy_11 : decode cX10_copy 11 = .ok (.ifCond .ne 5, 3) := by decide +kernel
theorem dX10_copy_14 : decode cX10_copy 14 = .ok (.iconst (-1), 1) := by decide +kernel
theorem dX10_copy_15 : decode cX10_copy 15 = .ok (.ireturn, 1) := by decide +kernel
theorem dX10_copy_16 : decode cX10_copy 16 = .ok (.aload_n 0, 1) := by decide +kernel
theorem dX10_copy_17 : decode cX10_copy 17 = .ok (.iload_n 2, 1) := by decide +kernel
theorem dX10_copy_18 : decode cX10_copy 18 = .ok (.invokevirtual 131, 3) := by decide +kernel
theorem dX10_copy_21 : decode cX10_copy 21 = .ok (.ifCond .ne 6, 3) := by decide +kernel
theorem dX10_copy_24 : decode cX10_copy 24 = .ok (.bipush (-3), 2) := by decide +kernel
theorem dX10_copy_26 : decode cX10_copy 26 = .ok (.ireturn, 1) := by decide +kernel
theorem dX10_copy_27 : decode cX10_copy 27 = .ok (.aload_n 0, 1) := by decide +kernel
theorem dX10_copy_28 : decode cX10_copy 28 = .ok (.invokevirtual 120, 3) := by decide +kernel
theorem dX10_copy_31 : decode cX10_copy 31 = .ok (.ifCond .ge 16, 3) := by decide +kernel
theorem dX10_copy_34 : decode cX10_copy 34 = .ok (.aload_n 0, 1) := by decide +kernel
theorem dX10_copy_35 : decode cX10_copy 35 = .ok (.aload_n 0, 1) := by decide +kernel
theorem dX10_copy_36 : decode cX10_copy 36 = .ok (.getfield 7, 3) := by decide +kernel
theorem dX10_copy_39 : decode cX10_copy 39 = .ok (.iload_n 2, 1) := by decide +kernel
theorem dX10_copy_40 : decode cX10_copy 40 = .ok (.iaload, 1) := by decide +kernel
theorem dX10_copy_41 : decode cX10_copy 41 = .ok (.invokevirtual 146, 3) := by decide +kernel
theorem dX10_copy_44 : decode cX10_copy 44 = .ok (.ifCond .lt 6, 3) := by decide +kernel
theorem dX10_copy_47 : decode cX10_copy 47 = .ok (.bipush (-5), 2) := by decide +kernel
theorem dX10_copy_49 : decode cX10_copy 49 = .ok (.ireturn, 1) := by decide +kernel
theorem dX10_copy_50 : decode cX10_copy 50 = .ok (.aload_n 0, 1) := by decide +kernel
theorem dX10_copy_51 : decode cX10_copy 51 = .ok (.getfield 7, 3) := by decide +kernel
theorem dX10_copy_54 : decode cX10_copy 54 = .ok (.iload_n 1, 1) := by decide +kernel
theorem dX10_copy_55 : decode cX10_copy 55 = .ok (.aload_n 0, 1) := by decide +kernel
theorem dX10_copy_56 : decode cX10_copy 56 = .ok (.getfield 149, 3) := by decide +kernel
theorem dX10_copy_59 : decode cX10_copy 59 = .ok (.iastore, 1) := by decide +kernel
theorem dX10_copy_60 : decode cX10_copy 60 = .ok (.aload_n 0, 1) := by decide +kernel
theorem dX10_copy_61 : decode cX10_copy 61 = .ok (.dup, 1) := by decide +kernel
theorem dX10_copy_62 : decode cX10_copy 62 = .ok (.getfield 70, 3) := by decide +kernel
theorem dX10_copy_65 : decode cX10_copy 65 = .ok (.iconst 1, 1) := by decide +kernel
theorem dX10_copy_66 : decode cX10_copy 66 = .ok (.iload_n 1, 1) := by decide +kernel
theorem dX10_copy_67 : decode cX10_copy 67 = .ok (.ishl, 1) := by decide +kernel
theorem dX10_copy_68 : decode cX10_copy 68 = .ok (.ior, 1) := by decide +kernel
theorem dX10_copy_69 : decode cX10_copy 69 = .ok (.putfield 70, 3) := by decide +kernel
theorem dX10_copy_72 : decode cX10_copy 72 = .ok (.aload_n 0, 1) := by decide +kernel
theorem dX10_copy_73 : decode cX10_copy 73 = .ok (.iconst 0, 1) := by decide +kernel
theorem dX10_copy_74 : decode cX10_copy 74 = .ok (.putfield 103, 3) := by decide +kernel
theorem dX10_copy_77 : decode cX10_copy 77 = .ok (.aload_n 0, 1) := by decide +kernel
theorem dX10_copy_78 : decode cX10_copy 78 = .ok (.getfield 110, 3) := by decide +kernel
theorem dX10_copy_81 : decode cX10_copy 81 = .ok (.ireturn, 1) := by decide +kernel
set_option maxRecDepth 20000 in
theorem ggX10_goFrom_X10_all : GoodIn wsX10_goFrom wsX10_all := goodIn_r _ [10, 11, 36, 37, 38, 39, 40, 41, 42, 43, 44, 45, 46, 47, 48, 49, 50, 51, 52, 53, 54, 55, 56, 57, 58, 59, 60, 61, 62, 63] (by decide +kernel) (by decide +kernel)
set_option maxRecDepth 20000 in
theorem gX10_goFrom_X10_all : GoodIn wsX10_goFrom (wsV RX10 155 RX10 yX10_all wsX10_all) := goodIn_app (goodIn_of _ (by decide +kernel)) ggX10_goFrom_X10_all
set_option maxRecDepth 20000 in
theorem ggX10_goFrom_X10_slipsThere : GoodIn wsX10_goFrom wsX10_slipsThere := goodIn_r _ [15, 16, 36, 37, 38, 39, 40, 41, 42, 43, 44, 45, 46, 47, 48, 49, 50, 51, 52, 53, 54, 55, 56, 57, 58, 59, 60, 61, 62, 63] (by decide +kernel) (by decide +kernel)
set_option maxRecDepth 20000 in
theorem gX10_goFrom_X10_slipsThere : GoodIn wsX10_goFrom (wsV RX10 161 RX10 yX10_slipsThere wsX10_slipsThere) := goodIn_app (goodIn_of _ (by decide +kernel)) ggX10_goFrom_X10_slipsThere
set_option maxRecDepth 20000 in
theorem ggX10_goFrom_X10_slipAt : GoodIn wsX10_goFrom wsX10_slipAt := goodIn_r _ [20, 16, 36, 37, 38, 39, 40, 41, 42, 43, 44, 45, 46, 47, 48, 49, 50, 51, 52, 53, 54, 55, 56, 57, 58, 59, 60, 61, 62, 63] (by decide +kernel) (by decide +kernel)
set_option maxRecDepth 20000 in
theorem gX10_goFrom_X10_slipAt : GoodIn wsX10_goFrom (wsV RX10 164 RX10 yX10_slipAt wsX10_slipAt) := goodIn_app (goodIn_of _ (by decide +kernel)) ggX10_goFrom_X10_slipAt
set_option maxRecDepth 20000 in
theorem ggX10_goFrom_X10_makes : GoodIn wsX10_goFrom wsX10_makes := goodIn_r _ [23] (by decide +kernel) (by decide +kernel)
set_option maxRecDepth 20000 in
theorem gX10_goFrom_X10_makes : GoodIn wsX10_goFrom (va_wsS RX10 167 yX10_makes wsX10_makes) := goodIn_app (goodIn_of _ (by decide +kernel)) ggX10_goFrom_X10_makes
set_option maxRecDepth 20000 in
theorem ggX10_goFrom_X10_slipped : GoodIn wsX10_goFrom wsX10_slipped := goodIn_r _ [27, 28, 29, 30, 9, 31, 11, 32, 33, 34, 35, 36, 37, 38, 39, 40, 41, 42, 43, 44, 45, 46, 47, 48, 49, 50, 51, 52, 53, 54, 55, 56, 57, 58, 59, 60, 61, 62, 63] (by decide +kernel) (by decide +kernel)
set_option maxRecDepth 20000 in
theorem gX10_goFrom_X10_slipped : GoodIn wsX10_goFrom (wsV RX10 152 RX10 yX10_slipped wsX10_slipped) := goodIn_app (goodIn_of _ (by decide +kernel)) ggX10_goFrom_X10_slipped
theorem dX10_goFrom_0 : decode cX10_goFrom 0 = .ok (.aload_n 0, 1) := by decide +kernel
theorem dX10_goFrom_1 : decode cX10_goFrom 1 = .ok (.invokevirtual 155, 3) := by decide +kernel
theorem dX10_goFrom_4 : decode cX10_goFrom 4 = .ok (.istore_n 3, 1) := by decide +kernel
theorem dX10_goFrom_5 : decode cX10_goFrom 5 = .ok (.iconst 0, 1) := by decide +kernel
theorem dX10_goFrom_6 : decode cX10_goFrom 6 = .ok (.istore 4, 2) := by decide +kernel
theorem dX10_goFrom_8 : decode cX10_goFrom 8 = .ok (.iload 4, 2) := by decide +kernel
theorem dX10_goFrom_10 : decode cX10_goFrom 10 = .ok (.iload_n 3, 1) := by decide +kernel
theorem dX10_goFrom_11 : decode cX10_goFrom 11 = .ok (.if_icmp .ge 18, 3) := by decide +kernel
theorem dX10_goFrom_14 : decode cX10_goFrom 14 = .ok (.aload_n 0, 1) := by decide +kernel
theorem dX10_goFrom_15 : decode cX10_goFrom 15 = .ok (.getfield 28, 3) := by decide +kernel
theorem dX10_goFrom_18 : decode cX10_goFrom 18 = .ok (.iload 4, 2) := by decide +kernel
theorem dX10_goFrom_20 : decode cX10_goFrom 20 = .ok (.bipush (-6), 2) := by decide +kernel
theorem dX10_goFrom_22 : decode cX10_goFrom 22 = .ok (.iastore, 1) := by decide +kernel
theorem dX10_goFrom_23 : decode cX10_goFrom 23 = .ok (.iinc 4 1, 3) := by decide +kernel
theorem dX10_goFrom_26 : decode cX10_goFrom 26 = .ok (.goto (-18), 3) := by decide +kernel
theorem dX10_goFrom_29 : decode cX10_goFrom 29 = .ok (.aload_n 0, 1) := by decide +kernel
theorem dX10_goFrom_30 : decode cX10_goFrom 30 = .ok (.getfield 28, 3) := by decide +kernel
theorem dX10_goFrom_33 : decode cX10_goFrom 33 = .ok (.iload_n 1, 1) := by decide +kernel
theorem dX10_goFrom_34 : decode cX10_goFrom 34 = .ok (.iconst 0, 1) := by decide +kernel
theorem dX10_goFrom_35 : decode cX10_goFrom 35 = .ok (.iastore, 1) := by decide +kernel
theorem dX10_goFrom_36 : decode cX10_goFrom 36 = .ok (.aload_n 0, 1) := by decide +kernel
theorem dX10_goFrom_37 : decode cX10_goFrom 37 = .ok (.getfield 25, 3) := by decide +kernel
theorem dX10_goFrom_40 : decode cX10_goFrom 40 = .ok (.iconst 0, 1) := by decide +kernel
theorem dX10_goFrom_41 : decode cX10_goFrom 41 = .ok (.iload_n 1, 1) := by decide +kernel
theorem dX10_goFrom_42 : decode cX10_goFrom 42 = .ok (.iastore, 1) := by decide +kernel
theorem dX10_goFrom_43 : decode cX10_goFrom 43 = .ok (.aload_n 0, 1) := by decide +kernel
theorem dX10_goFrom_44 : decode cX10_goFrom 44 = .ok (.iconst 1, 1) := by decide +kernel
theorem dX10_goFrom_45 : decode cX10_goFrom 45 = .ok (.putfield 158, 3) := by decide +kernel
theorem dX10_goFrom_48 : decode cX10_goFrom 48 = .ok (.aload_n 0, 1) := by decide +kernel
theorem dX10_goFrom_49 : decode cX10_goFrom 49 = .ok (.invokevirtual 161, 3) := by decide +kernel
theorem dX10_goFrom_52 : decode cX10_goFrom 52 = .ok (.istore 4, 2) := by decide +kernel
theorem dX10_goFrom_54 : decode cX10_goFrom 54 = .ok (.iconst 0, 1) := by decide +kernel
theorem dX10_goFrom_55 : decode cX10_goFrom 55 = .ok (.istore 5, 2) := by decide +kernel
theorem dX10_goFrom_57 : decode cX10_goFrom 57 = .ok (.iload 5, 2) := by decide +kernel
theorem dX10_goFrom_59 : decode cX10_goFrom 59 = .ok (.aload_n 0, 1) := by decide +kernel
theorem dX10_goFrom_60 : decode cX10_goFrom 60 = .ok (.getfield 158, 3) := by decide +kernel
theorem dX10_goFrom_63 : decode cX10_goFrom 63 = .ok (.if_icmp .ge 131, 3) := by decide +kernel
theorem dX10_goFrom_66 : decode cX10_goFrom 66 = .ok (.aload_n 0, 1) := by decide +kernel
theorem dX10_goFrom_67 : decode cX10_goFrom 67 = .ok (.getfield 25, 3) := by decide +kernel
theorem dX10_goFrom_70 : decode cX10_goFrom 70 = .ok (.iload 5, 2) := by decide +kernel
theorem dX10_goFrom_72 : decode cX10_goFrom 72 = .ok (.iaload, 1) := by decide +kernel
theorem dX10_goFrom_73 : decode cX10_goFrom 73 = .ok (.istore 6, 2) := by decide +kernel
theorem dX10_goFrom_75 : decode cX10_goFrom 75 = .ok (.iconst 0, 1) := by decide +kernel
theorem dX10_goFrom_76 : decode cX10_goFrom 76 = .ok (.istore 7, 2) := by decide +kernel
theorem dX10_goFrom_78 : decode cX10_goFrom 78 = .ok (.iload 7, 2) := by decide +kernel
theorem dX10_goFrom_80 : decode cX10_goFrom 80 = .ok (.iload 4, 2) := by decide +kernel
theorem dX10_goFrom_82 : decode cX10_goFrom 82 = .ok (.if_icmp .ge 106, 3) := by decide +kernel
theorem dX10_goFrom_85 : decode cX10_goFrom 85 = .ok (.aload_n 0, 1) := by decide +kernel
theorem dX10_goFrom_86 : decode cX10_goFrom 86 = .ok (.iload 7, 2) := by decide +kernel
theorem dX10_goFrom_88 : decode cX10_goFrom 88 = .ok (.invokevirtual 164, 3) := by decide +kernel
theorem dX10_goFrom_91 : decode cX10_goFrom 91 = .ok (.istore 8, 2) := by decide +kernel
theorem dX10_goFrom_93 : decode cX10_goFrom 93 = .ok (.iload_n 2, 1) := by decide +kernel
theorem dX10_goFrom_94 : decode cX10_goFrom 94 = .ok (.iload 8, 2) := by decide +kernel
theorem dX10_goFrom_96 : decode cX10_goFrom 96 = .ok (.invokestatic 167, 3) := by decide +kernel
theorem dX10_goFrom_99 : decode cX10_goFrom 99 = .ok (.ifCond .eq 14, 3) := by decide +kernel
theorem dX10_goFrom_102 : decode cX10_goFrom 102 = .ok (.aload_n 0, 1) := by decide +kernel
theorem dX10_goFrom_103 : decode cX10_goFrom 103 = .ok (.iload 6, 2) := by decide +kernel
theorem dX10_goFrom_105 : decode cX10_goFrom 105 = .ok (.iload 8, 2) := by decide +kernel
theorem dX10_goFrom_107 : decode cX10_goFrom 107 = .ok (.invokevirtual 152, 3) := by decide +kernel
theorem dX10_goFrom_110 : decode cX10_goFrom 110 = .ok (.goto 5, 3) := by decide +kernel
theorem dX10_goFrom_113 : decode cX10_goFrom 113 = .ok (.iload 6, 2) := by decide +kernel
theorem dX10_goFrom_115 : decode cX10_goFrom 115 = .ok (.istore 9, 2) := by decide +kernel
theorem dX10_goFrom_117 : decode cX10_goFrom 117 = .ok (.aload_n 0, 1) := by decide +kernel
theorem dX10_goFrom_118 : decode cX10_goFrom 118 = .ok (.getfield 28, 3) := by decide +kernel
theorem dX10_goFrom_121 : decode cX10_goFrom 121 = .ok (.iload 9, 2) := by decide +kernel
theorem dX10_goFrom_123 : decode cX10_goFrom 123 = .ok (.iaload, 1) := by decide +kernel
theorem dX10_goFrom_124 : decode cX10_goFrom 124 = .ok (.ifCond .ge 58, 3) := by decide +kernel
theorem dX10_goFrom_127 : decode cX10_goFrom 127 = .ok (.aload_n 0, 1) := by decide +kernel
theorem dX10_goFrom_128 : decode cX10_goFrom 128 = .ok (.getfield 28, 3) := by decide +kernel
theorem dX10_goFrom_131 : decode cX10_goFrom 131 = .ok (.iload 9, 2) := by decide +kernel
theorem dX10_goFrom_133 : decode cX10_goFrom 133 = .ok (.aload_n 0, 1) := by decide +kernel
theorem dX10_goFrom_134 : decode cX10_goFrom 134 = .ok (.getfield 28, 3) := by decide +kernel
theorem dX10_goFrom_137 : decode cX10_goFrom 137 = .ok (.iload 6, 2) := by decide +kernel
theorem dX10_goFrom_139 : decode cX10_goFrom 139 = .ok (.iaload, 1) := by decide +kernel
theorem dX10_goFrom_140 : decode cX10_goFrom 140 = .ok (.iconst 1, 1) := by decide +kernel
theorem dX10_goFrom_141 : decode cX10_goFrom 141 = .ok (.iadd, 1) := by decide +kernel
theorem dX10_goFrom_142 : decode cX10_goFrom 142 = .ok (.iastore, 1) := by decide +kernel
theorem dX10_goFrom_143 : decode cX10_goFrom 143 = .ok (.aload_n 0, 1) := by decide +kernel
theorem dX10_goFrom_144 : decode cX10_goFrom 144 = .ok (.getfield 31, 3) := by decide +kernel
theorem dX10_goFrom_147 : decode cX10_goFrom 147 = .ok (.iload 9, 2) := by decide +kernel
theorem dX10_goFrom_149 : decode cX10_goFrom 149 = .ok (.iload 8, 2) := by decide +kernel
theorem dX10_goFrom_151 : decode cX10_goFrom 151 = .ok (.iastore, 1) := by decide +kernel
theorem dX10_goFrom_152 : decode cX10_goFrom 152 = .ok (.aload_n 0, 1) := by decide +kernel
theorem dX10_goFrom_153 : decode cX10_goFrom 153 = .ok (.getfield 34, 3) := by decide +kernel
theorem dX10_goFrom_156 : decode cX10_goFrom 156 = .ok (.iload 9, 2) := by decide +kernel
theorem dX10_goFrom_158 : decode cX10_goFrom 158 = .ok (.iload 6, 2) := by decide +kernel
theorem dX10_goFrom_160 : decode cX10_goFrom 160 = .ok (.iastore, 1) := by decide +kernel
theorem dX10_goFrom_161 : decode cX10_goFrom 161 = .ok (.aload_n 0, 1) := by decide +kernel
theorem dX10_goFrom_162 : decode cX10_goFrom 162 = .ok (.getfield 25, 3) := by decide +kernel
theorem dX10_goFrom_165 : decode cX10_goFrom 165 = .ok (.aload_n 0, 1) := by decide +kernel
theorem dX10_goFrom_166 : decode cX10_goFrom 166 = .ok (.getfield 158, 3) := by decide +kernel
theorem dX10_goFrom_169 : decode cX10_goFrom 169 = .ok (.iload 9, 2) := by decide +kernel
theorem dX10_goFrom_171 : decode cX10_goFrom 171 = .ok (.iastore, 1) := by decide +kernel
theorem dX10_goFrom_172 : decode cX10_goFrom 172 = .ok (.aload_n 0, 1) := by decide +kernel
theorem dX10_goFrom_173 : decode cX10_goFrom 173 = .ok (.dup, 1) := by decide +kernel
theorem dX10_goFrom_174 : decode cX10_goFrom 174 = .ok (.getfield 158, 3) := by decide +kernel
theorem dX10_goFrom_177 : decode cX10_goFrom 177 = .ok (.iconst 1, 1) := by decide +kernel
theorem dX10_goFrom_178 : decode cX10_goFrom 178 = .ok (.iadd, 1) := by decide +kernel
theorem dX10_goFrom_179 : decode cX10_goFrom 179 = .ok (.putfield 158, 3) := by decide +kernel
theorem dX10_goFrom_182 : decode cX10_goFrom 182 = .ok (.iinc 7 1, 3) := by decide +kernel
theorem dX10_goFrom_185 : decode cX10_goFrom 185 = .ok (.goto (-107), 3) := by decide +kernel
theorem dX10_goFrom_188 : decode cX10_goFrom 188 = .ok (.iinc 5 1, 3) := by decide +kernel
theorem dX10_goFrom_191 : decode cX10_goFrom 191 = .ok (.goto (-134), 3) := by decide +kernel
theorem dX10_goFrom_194 : decode cX10_goFrom 194 = .ok (.return_, 1) := by decide +kernel
set_option maxRecDepth 20000 in
theorem ggX10_slipTo_X10_in : GoodIn wsX10_slipTo wsX10_in := goodIn_r _ [7] (by decide +kernel) (by decide +kernel)
set_option maxRecDepth 20000 in
theorem gX10_slipTo_X10_in : GoodIn wsX10_slipTo (va_wsS RX10 79 yX10_in wsX10_in) := goodIn_app (goodIn_of _ (by decide +kernel)) ggX10_slipTo_X10_in
theorem dX10_slipTo_0 : decode cX10_slipTo 0 = .ok (.iload_n 2, 1) := by decide +kernel
theorem dX10_slipTo_1 : decode cX10_slipTo 1 = .ok (.i2l, 1) := by decide +kernel
theorem dX10_slipTo_2 : decode cX10_slipTo 2 = .ok (.lconst 0, 1) := by decide +kernel
theorem dX10_slipTo_3 : decode cX10_slipTo 3 = .ok (.aload_n 0, 1) := by decide +kernel
theorem dX10_slipTo_4 : decode cX10_slipTo 4 = .ok (.getfield 28, 3) := by decide +kernel
theorem dX10_slipTo_7 : decode cX10_slipTo 7 = .ok (.iload_n 1, 1) := by decide +kernel
theorem dX10_slipTo_8 : decode cX10_slipTo 8 = .ok (.iaload, 1) := by decide +kernel
theorem dX10_slipTo_9 : decode cX10_slipTo 9 = .ok (.iconst 1, 1) := by decide +kernel
theorem dX10_slipTo_10 : decode cX10_slipTo 10 = .ok (.isub, 1) := by decide +kernel
theorem dX10_slipTo_11 : decode cX10_slipTo 11 = .ok (.i2l, 1) := by decide +kernel
theorem dX10_slipTo_12 : decode cX10_slipTo 12 = .ok (.invokestatic 79, 3) := by decide +kernel
theorem dX10_slipTo_15 : decode cX10_slipTo 15 = .ok (.ifCond .ne 6, 3) := by decide +kernel
theorem dX10_slipTo_18 : decode cX10_slipTo 18 = .ok (.bipush (-6), 2) := by decide +kernel
theorem dX10_slipTo_20 : decode cX10_slipTo 20 = .ok (.ireturn, 1) := by decide +kernel
theorem dX10_slipTo_21 : decode cX10_slipTo 21 = .ok (.iload_n 1, 1) := by decide +kernel
theorem dX10_slipTo_22 : decode cX10_slipTo 22 = .ok (.istore_n 3, 1) := by decide +kernel
theorem dX10_slipTo_23 : decode cX10_slipTo 23 = .ok (.aload_n 0, 1) := by decide +kernel
theorem dX10_slipTo_24 : decode cX10_slipTo 24 = .ok (.getfield 28, 3) := by decide +kernel
theorem dX10_slipTo_27 : decode cX10_slipTo 27 = .ok (.iload_n 3, 1) := by decide +kernel
theorem dX10_slipTo_28 : decode cX10_slipTo 28 = .ok (.iaload, 1) := by decide +kernel
theorem dX10_slipTo_29 : decode cX10_slipTo 29 = .ok (.iload_n 2, 1) := by decide +kernel
theorem dX10_slipTo_30 : decode cX10_slipTo 30 = .ok (.iconst 1, 1) := by decide +kernel
theorem dX10_slipTo_31 : decode cX10_slipTo 31 = .ok (.iadd, 1) := by decide +kernel
theorem dX10_slipTo_32 : decode cX10_slipTo 32 = .ok (.if_icmp .le 13, 3) := by decide +kernel
theorem dX10_slipTo_35 : decode cX10_slipTo 35 = .ok (.aload_n 0, 1) := by decide +kernel
theorem dX10_slipTo_36 : decode cX10_slipTo 36 = .ok (.getfield 34, 3) := by decide +kernel
theorem dX10_slipTo_39 : decode cX10_slipTo 39 = .ok (.iload_n 3, 1) := by decide +kernel
theorem dX10_slipTo_40 : decode cX10_slipTo 40 = .ok (.iaload, 1) := by decide +kernel
theorem dX10_slipTo_41 : decode cX10_slipTo 41 = .ok (.istore_n 3, 1) := by decide +kernel
theorem dX10_slipTo_42 : decode cX10_slipTo 42 = .ok (.goto (-19), 3) := by decide +kernel
theorem dX10_slipTo_45 : decode cX10_slipTo 45 = .ok (.aload_n 0, 1) := by decide +kernel
theorem dX10_slipTo_46 : decode cX10_slipTo 46 = .ok (.getfield 31, 3) := by decide +kernel
theorem dX10_slipTo_49 : decode cX10_slipTo 49 = .ok (.iload_n 3, 1) := by decide +kernel
theorem dX10_slipTo_50 : decode cX10_slipTo 50 = .ok (.iaload, 1) := by decide +kernel
theorem dX10_slipTo_51 : decode cX10_slipTo 51 = .ok (.ireturn, 1) := by decide +kernel
set_option maxRecDepth 20000 in
theorem ggX10_farOf_X10_goFrom : GoodIn wsX10_farOf wsX10_goFrom := goodIn_r _ [6, 1, 7, 8, 9, 10, 11, 12, 13, 5, 14, 15, 16, 17, 18, 19, 20, 21, 22, 23, 24, 25, 26, 27, 28, 29, 30, 31, 32, 33, 34, 35, 36, 37, 38, 39, 40, 41, 42, 43, 44, 45, 46, 47, 48, 49, 50, 51, 52, 53, 54, 55, 56, 57, 58, 59, 60, 61, 62, 63, 64, 65, 66, 67] (by decide +kernel) (by decide +kernel)
set_option maxRecDepth 20000 in
theorem gX10_farOf_X10_goFrom : GoodIn wsX10_farOf (wsV RX10 171 RX10 yX10_goFrom wsX10_goFrom) := goodIn_app (goodIn_of _ (by decide +kernel)) ggX10_farOf_X10_goFrom
theorem dX10_farOf_0 : decode cX10_farOf 0 = .ok (.aload_n 0, 1) := by decide +kernel
theorem dX10_farOf_1 : decode cX10_farOf 1 = .ok (.iload_n 1, 1) := by decide +kernel
theorem dX10_farOf_2 : decode cX10_farOf 2 = .ok (.iload_n 3, 1) := by decide +kernel
theorem dX10_farOf_3 : decode cX10_farOf 3 = .ok (.invokevirtual 171, 3) := by decide +kernel
theorem dX10_farOf_6 : decode cX10_farOf 6 = .ok (.aload_n 0, 1) := by decide +kernel
theorem dX10_farOf_7 : decode cX10_farOf 7 = .ok (.getfield 28, 3) := by decide +kernel
theorem dX10_farOf_10 : decode cX10_farOf 10 = .ok (.iload_n 2, 1) := by decide +kernel
theorem dX10_farOf_11 : decode cX10_farOf 11 = .ok (.iaload, 1) := by decide +kernel
theorem dX10_farOf_12 : decode cX10_farOf 12 = .ok (.ireturn, 1) := by decide +kernel
set_option maxRecDepth 20000 in
theorem ggX10_far_X10_isMap : GoodIn wsX10_far wsX10_isMap := goodIn_r _ [6, 7, 8, 9, 5, 10] (by decide +kernel) (by decide +kernel)
set_option maxRecDepth 20000 in
theorem gX10_far_X10_isMap : GoodIn wsX10_far (va_wsS RX10 124 yX10_isMap wsX10_isMap) := goodIn_app (goodIn_of _ (by decide +kernel)) ggX10_far_X10_isMap
set_option maxRecDepth 20000 in
theorem ggX10_far_X10_isHand : GoodIn wsX10_far wsX10_isHand := goodIn_r _ [13, 14, 8, 9, 5, 10] (by decide +kernel) (by decide +kernel)
set_option maxRecDepth 20000 in
theorem gX10_far_X10_isHand : GoodIn wsX10_far (va_wsS RX10 137 yX10_isHand wsX10_isHand) := goodIn_app (goodIn_of _ (by decide +kernel)) ggX10_far_X10_isHand
set_option maxRecDepth 20000 in
theorem ggX10_far_X10_isTold : GoodIn wsX10_far wsX10_isTold := goodIn_r _ [18, 19, 66, 67, 68, 69, 70, 71, 72, 73, 74, 75, 76, 77, 78, 79, 80, 81, 82, 83, 84, 85, 86, 87, 88, 89, 90, 91, 92, 93] (by decide +kernel) (by decide +kernel)
set_option maxRecDepth 20000 in
theorem gX10_far_X10_isTold : GoodIn wsX10_far (wsV RX10 131 RX10 yX10_isTold wsX10_isTold) := goodIn_app (goodIn_of _ (by decide +kernel)) ggX10_far_X10_isTold
set_option maxRecDepth 20000 in
theorem ggX10_far_X10_farOf : GoodIn wsX10_far wsX10_farOf := goodIn_r _ [23, 24, 25, 26, 27, 5, 28, 29, 30, 31, 32, 33, 34, 35, 36, 37, 38, 39, 40, 41, 42, 43, 44, 45, 46, 47, 48, 49, 50, 51, 52, 53, 54, 55, 56, 57, 58, 59, 60, 61, 66, 67, 68, 69, 70, 71, 72, 73, 74, 75, 76, 77, 78, 79, 80, 81, 82, 83, 84, 85, 86, 87, 88, 89, 90, 91, 92, 93] (by decide +kernel) (by decide +kernel)
set_option maxRecDepth 20000 in
theorem gX10_far_X10_farOf : GoodIn wsX10_far (wsV RX10 175 RX10 yX10_farOf wsX10_farOf) := goodIn_app (goodIn_of _ (by decide +kernel)) ggX10_far_X10_farOf
set_option maxRecDepth 20000 in
theorem ggX10_far_X10_slipTo : GoodIn wsX10_far wsX10_slipTo := goodIn_r _ [65, 24, 32, 31, 8, 9, 5, 10, 66, 67, 68, 69, 70, 71, 72, 73, 74, 75, 76, 77, 78, 79, 80, 81, 82, 83, 84, 85, 86, 87, 88, 89, 90, 91, 92, 93] (by decide +kernel) (by decide +kernel)
set_option maxRecDepth 20000 in
theorem gX10_far_X10_slipTo : GoodIn wsX10_far (wsV RX10 178 RX10 yX10_slipTo wsX10_slipTo) := goodIn_app (goodIn_of _ (by decide +kernel)) ggX10_far_X10_slipTo
theorem dX10_far_0 : decode cX10_far 0 = .ok (.iload_n 1, 1) := by decide +kernel
theorem dX10_far_1 : decode cX10_far 1 = .ok (.invokestatic 124, 3) := by decide +kernel
theorem dX10_far_4 : decode cX10_far 4 = .ok (.ifCond .eq 17, 3) := by decide +kernel
theorem dX10_far_7 : decode cX10_far 7 = .ok (.iload_n 2, 1) := by decide +kernel
theorem dX10_far_8 : decode cX10_far 8 = .ok (.invokestatic 124, 3) := by decide +kernel
theorem dX10_far_11 : decode cX10_far 11 = .ok (.ifCond .eq 10, 3) := by decide +kernel
theorem dX10_far_14 : decode cX10_far 14 = .ok (.iload_n 3, 1) := by decide +kernel
theorem dX10_far_15 : decode cX10_far 15 = .ok (.invokestatic 137, 3) := by decide +kernel
theorem dX10_far_18 : decode cX10_far 18 = .ok (.ifCond .ne 5, 3) := by decide +kernel
theorem dX10_far_21 : decode cX10_far 21 = .ok (.iconst (-1), 1) := by decide +kernel
theorem dX10_far_22 : decode cX10_far 22 = .ok (.ireturn, 1) := by decide +kernel
theorem dX10_far_23 : decode cX10_far 23 = .ok (.aload_n 0, 1) := by decide +kernel
theorem dX10_far_24 : decode cX10_far 24 = .ok (.iload_n 1, 1) := by decide +kernel
theorem dX10_far_25 : decode cX10_far 25 = .ok (.invokevirtual 131, 3) := by decide +kernel
theorem dX10_far_28 : decode cX10_far 28 = .ok (.ifCond .eq 11, 3) := by decide +kernel
theorem dX10_far_31 : decode cX10_far 31 = .ok (.aload_n 0, 1) := by decide +kernel
theorem dX10_far_32 : decode cX10_far 32 = .ok (.iload_n 2, 1) := by decide +kernel
theorem dX10_far_33 : decode cX10_far 33 = .ok (.invokevirtual 131, 3) := by decide +kernel
theorem dX10_far_36 : decode cX10_far 36 = .ok (.ifCond .ne 6, 3) := by decide +kernel
theorem dX10_far_39 : decode cX10_far 39 = .ok (.bipush (-3), 2) := by decide +kernel
theorem dX10_far_41 : decode cX10_far 41 = .ok (.ireturn, 1) := by decide +kernel
theorem dX10_far_42 : decode cX10_far 42 = .ok (.aload_n 0, 1) := by decide +kernel
theorem dX10_far_43 : decode cX10_far 43 = .ok (.aload_n 0, 1) := by decide +kernel
theorem dX10_far_44 : decode cX10_far 44 = .ok (.getfield 7, 3) := by decide +kernel
theorem dX10_far_47 : decode cX10_far 47 = .ok (.iload_n 1, 1) := by decide +kernel
theorem dX10_far_48 : decode cX10_far 48 = .ok (.iaload, 1) := by decide +kernel
theorem dX10_far_49 : decode cX10_far 49 = .ok (.aload_n 0, 1) := by decide +kernel
theorem dX10_far_50 : decode cX10_far 50 = .ok (.getfield 7, 3) := by decide +kernel
theorem dX10_far_53 : decode cX10_far 53 = .ok (.iload_n 2, 1) := by decide +kernel
theorem dX10_far_54 : decode cX10_far 54 = .ok (.iaload, 1) := by decide +kernel
theorem dX10_far_55 : decode cX10_far 55 = .ok (.aload_n 0, 1) := by decide +kernel
theorem dX10_far_56 : decode cX10_far 56 = .ok (.getfield 13, 3) := by decide +kernel
theorem dX10_far_59 : decode cX10_far 59 = .ok (.iload_n 3, 1) := by decide +kernel
theorem dX10_far_60 : decode cX10_far 60 = .ok (.iaload, 1) := by decide +kernel
theorem dX10_far_61 : decode cX10_far 61 = .ok (.invokevirtual 175, 3) := by decide +kernel
theorem dX10_far_64 : decode cX10_far 64 = .ok (.istore 5, 2) := by decide +kernel
theorem dX10_far_66 : decode cX10_far 66 = .ok (.iload 5, 2) := by decide +kernel
theorem dX10_far_68 : decode cX10_far 68 = .ok (.ifCond .lt 9, 3) := by decide +kernel
theorem dX10_far_71 : decode cX10_far 71 = .ok (.iload 4, 2) := by decide +kernel
theorem dX10_far_73 : decode cX10_far 73 = .ok (.iconst (-1), 1) := by decide +kernel
theorem dX10_far_74 : decode cX10_far 74 = .ok (.if_icmp .ne 8, 3) := by decide +kernel
theorem dX10_far_77 : decode cX10_far 77 = .ok (.iload 5, 2) := by decide +kernel
theorem dX10_far_79 : decode cX10_far 79 = .ok (.goto 15, 3) := by decide +kernel
theorem dX10_far_82 : decode cX10_far 82 = .ok (.aload_n 0, 1) := by decide +kernel
theorem dX10_far_83 : decode cX10_far 83 = .ok (.aload_n 0, 1) := by decide +kernel
theorem dX10_far_84 : decode cX10_far 84 = .ok (.getfield 7, 3) := by decide +kernel
theorem dX10_far_87 : decode cX10_far 87 = .ok (.iload_n 2, 1) := by decide +kernel
theorem dX10_far_88 : decode cX10_far 88 = .ok (.iaload, 1) := by decide +kernel
theorem dX10_far_89 : decode cX10_far 89 = .ok (.iload 4, 2) := by decide +kernel
theorem dX10_far_91 : decode cX10_far 91 = .ok (.invokevirtual 178, 3) := by decide +kernel
theorem dX10_far_94 : decode cX10_far 94 = .ok (.ireturn, 1) := by decide +kernel
set_option maxRecDepth 20000 in
theorem ggX10_who_X10_isMap : GoodIn wsX10_who wsX10_isMap := goodIn_r _ [7, 8, 9, 10, 6, 11] (by decide +kernel) (by decide +kernel)
set_option maxRecDepth 20000 in
theorem gX10_who_X10_isMap : GoodIn wsX10_who (va_wsS RX10 124 yX10_isMap wsX10_isMap) := goodIn_app (goodIn_of _ (by decide +kernel)) ggX10_who_X10_isMap
set_option maxRecDepth 20000 in
theorem ggX10_who_X10_in : GoodIn wsX10_who wsX10_in := goodIn_r _ [11] (by decide +kernel) (by decide +kernel)
set_option maxRecDepth 20000 in
theorem gX10_who_X10_in : GoodIn wsX10_who (va_wsS RX10 79 yX10_in wsX10_in) := goodIn_app (goodIn_of _ (by decide +kernel)) ggX10_who_X10_in
set_option maxRecDepth 20000 in
theorem ggX10_who_X10_isTold : GoodIn wsX10_who wsX10_isTold := goodIn_r _ [15, 16, 59, 60, 61, 62, 63, 64, 65, 66, 67, 68, 69, 70, 71, 72, 73, 74, 75, 76, 77, 78, 79, 80, 81, 82, 83, 84, 85, 86] (by decide +kernel) (by decide +kernel)
set_option maxRecDepth 20000 in
theorem gX10_who_X10_isTold : GoodIn wsX10_who (wsV RX10 131 RX10 yX10_isTold wsX10_isTold) := goodIn_app (goodIn_of _ (by decide +kernel)) ggX10_who_X10_isTold
set_option maxRecDepth 20000 in
theorem ggX10_who_X10_farOf : GoodIn wsX10_who wsX10_farOf := goodIn_r _ [20, 21, 22, 23, 24, 6, 25, 26, 27, 28, 29, 30, 31, 32, 33, 34, 35, 36, 37, 38, 39, 40, 41, 42, 43, 44, 45, 46, 47, 48, 49, 50, 51, 52, 53, 54, 55, 56, 57, 58, 59, 60, 61, 62, 63, 64, 65, 66, 67, 68, 69, 70, 71, 72, 73, 74, 75, 76, 77, 78, 79, 80, 81, 82, 83, 84, 85, 86] (by decide +kernel) (by decide +kernel)
set_option maxRecDepth 20000 in
theorem gX10_who_X10_farOf : GoodIn wsX10_who (wsV RX10 175 RX10 yX10_farOf wsX10_farOf) := goodIn_app (goodIn_of _ (by decide +kernel)) ggX10_who_X10_farOf
theorem dX10_who_0 : decode cX10_who 0 = .ok (.iload_n 1, 1) := by decide +kernel
theorem dX10_who_1 : decode cX10_who 1 = .ok (.invokestatic 124, 3) := by decide +kernel
theorem dX10_who_4 : decode cX10_who 4 = .ok (.ifCond .eq 10, 3) := by decide +kernel
theorem dX10_who_7 : decode cX10_who 7 = .ok (.iload_n 2, 1) := by decide +kernel
theorem dX10_who_8 : decode cX10_who 8 = .ok (.invokestatic 124, 3) := by decide +kernel
theorem dX10_who_11 : decode cX10_who 11 = .ok (.ifCond .ne 5, 3) := by decide +kernel
theorem dX10_who_14 : decode cX10_who 14 = .ok (.iconst (-1), 1) := by decide +kernel
theorem dX10_who_15 : decode cX10_who 15 = .ok (.ireturn, 1) := by decide +kernel
theorem dX10_who_16 : decode cX10_who 16 = .ok (.iload_n 3, 1) := by decide +kernel
theorem dX10_who_17 : decode cX10_who 17 = .ok (.i2l, 1) := by decide +kernel
theorem dX10_who_18 : decode cX10_who 18 = .ok (.lconst 0, 1) := by decide +kernel
theorem dX10_who_19 : decode cX10_who 19 = .ok (.ldc2_w 181, 3) := by decide +kernel
theorem dX10_who_22 : decode cX10_who 22 = .ok (.invokestatic 79, 3) := by decide +kernel
theorem dX10_who_25 : decode cX10_who 25 = .ok (.ifCond .ne 6, 3) := by decide +kernel
theorem dX10_who_28 : decode cX10_who 28 = .ok (.bipush (-2), 2) := by decide +kernel
theorem dX10_who_30 : decode cX10_who 30 = .ok (.ireturn, 1) := by decide +kernel
theorem dX10_who_31 : decode cX10_who 31 = .ok (.aload_n 0, 1) := by decide +kernel
theorem dX10_who_32 : decode cX10_who 32 = .ok (.iload_n 1, 1) := by decide +kernel
theorem dX10_who_33 : decode cX10_who 33 = .ok (.invokevirtual 131, 3) := by decide +kernel
theorem dX10_who_36 : decode cX10_who 36 = .ok (.ifCond .eq 11, 3) := by decide +kernel
theorem dX10_who_39 : decode cX10_who 39 = .ok (.aload_n 0, 1) := by decide +kernel
theorem dX10_who_40 : decode cX10_who 40 = .ok (.iload_n 2, 1) := by decide +kernel
theorem dX10_who_41 : decode cX10_who 41 = .ok (.invokevirtual 131, 3) := by decide +kernel
theorem dX10_who_44 : decode cX10_who 44 = .ok (.ifCond .ne 6, 3) := by decide +kernel
theorem dX10_who_47 : decode cX10_who 47 = .ok (.bipush (-3), 2) := by decide +kernel
theorem dX10_who_49 : decode cX10_who 49 = .ok (.ireturn, 1) := by decide +kernel
theorem dX10_who_50 : decode cX10_who 50 = .ok (.iconst 0, 1) := by decide +kernel
theorem dX10_who_51 : decode cX10_who 51 = .ok (.istore 4, 2) := by decide +kernel
theorem dX10_who_53 : decode cX10_who 53 = .ok (.iconst 0, 1) := by decide +kernel
theorem dX10_who_54 : decode cX10_who 54 = .ok (.istore 5, 2) := by decide +kernel
theorem dX10_who_56 : decode cX10_who 56 = .ok (.iload 5, 2) := by decide +kernel
theorem dX10_who_58 : decode cX10_who 58 = .ok (.iconst 4, 1) := by decide +kernel
theorem dX10_who_59 : decode cX10_who 59 = .ok (.if_icmp .ge 58, 3) := by decide +kernel
theorem dX10_who_62 : decode cX10_who 62 = .ok (.aload_n 0, 1) := by decide +kernel
theorem dX10_who_63 : decode cX10_who 63 = .ok (.aload_n 0, 1) := by decide +kernel
theorem dX10_who_64 : decode cX10_who 64 = .ok (.getfield 7, 3) := by decide +kernel
theorem dX10_who_67 : decode cX10_who 67 = .ok (.iload_n 1, 1) := by decide +kernel
theorem dX10_who_68 : decode cX10_who 68 = .ok (.iaload, 1) := by decide +kernel
theorem dX10_who_69 : decode cX10_who 69 = .ok (.aload_n 0, 1) := by decide +kernel
theorem dX10_who_70 : decode cX10_who 70 = .ok (.getfield 7, 3) := by decide +kernel
theorem dX10_who_73 : decode cX10_who 73 = .ok (.iload_n 2, 1) := by decide +kernel
theorem dX10_who_74 : decode cX10_who 74 = .ok (.iaload, 1) := by decide +kernel
theorem dX10_who_75 : decode cX10_who 75 = .ok (.aload_n 0, 1) := by decide +kernel
theorem dX10_who_76 : decode cX10_who 76 = .ok (.getfield 13, 3) := by decide +kernel
theorem dX10_who_79 : decode cX10_who 79 = .ok (.iload 5, 2) := by decide +kernel
theorem dX10_who_81 : decode cX10_who 81 = .ok (.iaload, 1) := by decide +kernel
theorem dX10_who_82 : decode cX10_who 82 = .ok (.invokevirtual 175, 3) := by decide +kernel
theorem dX10_who_85 : decode cX10_who 85 = .ok (.istore 6, 2) := by decide +kernel
theorem dX10_who_87 : decode cX10_who 87 = .ok (.iload 4, 2) := by decide +kernel
theorem dX10_who_89 : decode cX10_who 89 = .ok (.iload 6, 2) := by decide +kernel
theorem dX10_who_91 : decode cX10_who 91 = .ok (.ifCond .lt 16, 3) := by decide +kernel
theorem dX10_who_94 : decode cX10_who 94 = .ok (.iload 6, 2) := by decide +kernel
theorem dX10_who_96 : decode cX10_who 96 = .ok (.iload_n 3, 1) := by decide +kernel
theorem dX10_who_97 : decode cX10_who 97 = .ok (.if_icmp .gt 10, 3) := by decide +kernel
theorem dX10_who_100 : decode cX10_who 100 = .ok (.iconst 1, 1) := by decide +kernel
theorem dX10_who_101 : decode cX10_who 101 = .ok (.iload 5, 2) := by decide +kernel
theorem dX10_who_103 : decode cX10_who 103 = .ok (.ishl, 1) := by decide +kernel
theorem dX10_who_104 : decode cX10_who 104 = .ok (.goto 4, 3) := by decide +kernel
theorem dX10_who_107 : decode cX10_who 107 = .ok (.iconst 0, 1) := by decide +kernel
theorem dX10_who_108 : decode cX10_who 108 = .ok (.ior, 1) := by decide +kernel
theorem dX10_who_109 : decode cX10_who 109 = .ok (.istore 4, 2) := by decide +kernel
theorem dX10_who_111 : decode cX10_who 111 = .ok (.iinc 5 1, 3) := by decide +kernel
theorem dX10_who_114 : decode cX10_who 114 = .ok (.goto (-58), 3) := by decide +kernel
theorem dX10_who_117 : decode cX10_who 117 = .ok (.iload 4, 2) := by decide +kernel
theorem dX10_who_119 : decode cX10_who 119 = .ok (.ireturn, 1) := by decide +kernel
set_option maxRecDepth 20000 in
theorem ggX10_between_X10_isMap : GoodIn wsX10_between wsX10_isMap := goodIn_r _ [7, 8, 9, 10, 6, 11] (by decide +kernel) (by decide +kernel)
set_option maxRecDepth 20000 in
theorem gX10_between_X10_isMap : GoodIn wsX10_between (va_wsS RX10 124 yX10_isMap wsX10_isMap) := goodIn_app (goodIn_of _ (by decide +kernel)) ggX10_between_X10_isMap
set_option maxRecDepth 20000 in
theorem ggX10_between_X10_isHand : GoodIn wsX10_between wsX10_isHand := goodIn_r _ [14, 15, 9, 10, 6, 11] (by decide +kernel) (by decide +kernel)
set_option maxRecDepth 20000 in
theorem gX10_between_X10_isHand : GoodIn wsX10_between (va_wsS RX10 137 yX10_isHand wsX10_isHand) := goodIn_app (goodIn_of _ (by decide +kernel)) ggX10_between_X10_isHand
set_option maxRecDepth 20000 in
theorem ggX10_between_X10_in : GoodIn wsX10_between wsX10_in := goodIn_r _ [11] (by decide +kernel) (by decide +kernel)
set_option maxRecDepth 20000 in
theorem gX10_between_X10_in : GoodIn wsX10_between (va_wsS RX10 79 yX10_in wsX10_in) := goodIn_app (goodIn_of _ (by decide +kernel)) ggX10_between_X10_in
set_option maxRecDepth 20000 in
theorem ggX10_between_X10_isTold : GoodIn wsX10_between wsX10_isTold := goodIn_r _ [19, 20, 63, 64, 65, 66, 67, 68, 69, 70, 71, 72, 73, 74, 75, 76, 77, 78, 79, 80, 81, 82, 83, 84, 85, 86, 87, 88, 89, 90] (by decide +kernel) (by decide +kernel)
set_option maxRecDepth 20000 in
theorem gX10_between_X10_isTold : GoodIn wsX10_between (wsV RX10 131 RX10 yX10_isTold wsX10_isTold) := goodIn_app (goodIn_of _ (by decide +kernel)) ggX10_between_X10_isTold
set_option maxRecDepth 20000 in
theorem ggX10_between_X10_farOf : GoodIn wsX10_between wsX10_farOf := goodIn_r _ [24, 25, 26, 27, 28, 6, 29, 30, 31, 32, 33, 34, 35, 36, 37, 38, 39, 40, 41, 42, 43, 44, 45, 46, 47, 48, 49, 50, 51, 52, 53, 54, 55, 56, 57, 58, 59, 60, 61, 62, 63, 64, 65, 66, 67, 68, 69, 70, 71, 72, 73, 74, 75, 76, 77, 78, 79, 80, 81, 82, 83, 84, 85, 86, 87, 88, 89, 90] (by decide +kernel) (by decide +kernel)
set_option maxRecDepth 20000 in
theorem gX10_between_X10_farOf : GoodIn wsX10_between (wsV RX10 175 RX10 yX10_farOf wsX10_farOf) := goodIn_app (goodIn_of _ (by decide +kernel)) ggX10_between_X10_farOf
theorem dX10_between_0 : decode cX10_between 0 = .ok (.iload_n 1, 1) := by decide +kernel
theorem dX10_between_1 : decode cX10_between 1 = .ok (.invokestatic 124, 3) := by decide +kernel
theorem dX10_between_4 : decode cX10_between 4 = .ok (.ifCond .eq 17, 3) := by decide +kernel
theorem dX10_between_7 : decode cX10_between 7 = .ok (.iload_n 2, 1) := by decide +kernel
theorem dX10_between_8 : decode cX10_between 8 = .ok (.invokestatic 124, 3) := by decide +kernel
theorem dX10_between_11 : decode cX10_between 11 = .ok (.ifCond .eq 10, 3) := by decide +kernel
theorem dX10_between_14 : decode cX10_between 14 = .ok (.iload_n 3, 1) := by decide +kernel
theorem dX10_between_15 : decode cX10_between 15 = .ok (.invokestatic 137, 3) := by decide +kernel
theorem dX10_between_18 : decode cX10_between 18 = .ok (.ifCond .ne 5, 3) := by decide +kernel
theorem dX10_between_21 : decode cX10_between 21 = .ok (.iconst (-1), 1) := by decide +kernel
theorem dX10_between_22 : decode cX10_between 22 = .ok (.ireturn, 1) := by decide +kernel
theorem dX10_between_23 : decode cX10_between 23 = .ok (.iload 4, 2) := by decide +kernel
theorem dX10_between_25 : decode cX10_between 25 = .ok (.i2l, 1) := by decide +kernel
theorem dX10_between_26 : decode cX10_between 26 = .ok (.lconst 1, 1) := by decide +kernel
theorem dX10_between_27 : decode cX10_between 27 = .ok (.ldc2_w 183, 3) := by decide +kernel
theorem dX10_between_30 : decode cX10_between 30 = .ok (.invokestatic 79, 3) := by decide +kernel
theorem dX10_between_33 : decode cX10_between 33 = .ok (.ifCond .ne 6, 3) := by decide +kernel
theorem dX10_between_36 : decode cX10_between 36 = .ok (.bipush (-2), 2) := by decide +kernel
theorem dX10_between_38 : decode cX10_between 38 = .ok (.ireturn, 1) := by decide +kernel
theorem dX10_between_39 : decode cX10_between 39 = .ok (.aload_n 0, 1) := by decide +kernel
theorem dX10_between_40 : decode cX10_between 40 = .ok (.iload_n 1, 1) := by decide +kernel
theorem dX10_between_41 : decode cX10_between 41 = .ok (.invokevirtual 131, 3) := by decide +kernel
theorem dX10_between_44 : decode cX10_between 44 = .ok (.ifCond .eq 11, 3) := by decide +kernel
theorem dX10_between_47 : decode cX10_between 47 = .ok (.aload_n 0, 1) := by decide +kernel
theorem dX10_between_48 : decode cX10_between 48 = .ok (.iload_n 2, 1) := by decide +kernel
theorem dX10_between_49 : decode cX10_between 49 = .ok (.invokevirtual 131, 3) := by decide +kernel
theorem dX10_between_52 : decode cX10_between 52 = .ok (.ifCond .ne 6, 3) := by decide +kernel
theorem dX10_between_55 : decode cX10_between 55 = .ok (.bipush (-3), 2) := by decide +kernel
theorem dX10_between_57 : decode cX10_between 57 = .ok (.ireturn, 1) := by decide +kernel
theorem dX10_between_58 : decode cX10_between 58 = .ok (.aload_n 0, 1) := by decide +kernel
theorem dX10_between_59 : decode cX10_between 59 = .ok (.aload_n 0, 1) := by decide +kernel
theorem dX10_between_60 : decode cX10_between 60 = .ok (.getfield 7, 3) := by decide +kernel
theorem dX10_between_63 : decode cX10_between 63 = .ok (.iload_n 1, 1) := by decide +kernel
theorem dX10_between_64 : decode cX10_between 64 = .ok (.iaload, 1) := by decide +kernel
theorem dX10_between_65 : decode cX10_between 65 = .ok (.aload_n 0, 1) := by decide +kernel
theorem dX10_between_66 : decode cX10_between 66 = .ok (.getfield 7, 3) := by decide +kernel
theorem dX10_between_69 : decode cX10_between 69 = .ok (.iload_n 2, 1) := by decide +kernel
theorem dX10_between_70 : decode cX10_between 70 = .ok (.iaload, 1) := by decide +kernel
theorem dX10_between_71 : decode cX10_between 71 = .ok (.aload_n 0, 1) := by decide +kernel
theorem dX10_between_72 : decode cX10_between 72 = .ok (.getfield 13, 3) := by decide +kernel
theorem dX10_between_75 : decode cX10_between 75 = .ok (.iload_n 3, 1) := by decide +kernel
theorem dX10_between_76 : decode cX10_between 76 = .ok (.iaload, 1) := by decide +kernel
theorem dX10_between_77 : decode cX10_between 77 = .ok (.invokevirtual 175, 3) := by decide +kernel
theorem dX10_between_80 : decode cX10_between 80 = .ok (.istore 5, 2) := by decide +kernel
theorem dX10_between_82 : decode cX10_between 82 = .ok (.iload 5, 2) := by decide +kernel
theorem dX10_between_84 : decode cX10_between 84 = .ok (.ifCond .ge 8, 3) := by decide +kernel
theorem dX10_between_87 : decode cX10_between 87 = .ok (.bipush (-6), 2) := by decide +kernel
theorem dX10_between_89 : decode cX10_between 89 = .ok (.goto 13, 3) := by decide +kernel
theorem dX10_between_92 : decode cX10_between 92 = .ok (.iload 5, 2) := by decide +kernel
theorem dX10_between_94 : decode cX10_between 94 = .ok (.iload 4, 2) := by decide +kernel
theorem dX10_between_96 : decode cX10_between 96 = .ok (.iadd, 1) := by decide +kernel
theorem dX10_between_97 : decode cX10_between 97 = .ok (.iconst 1, 1) := by decide +kernel
theorem dX10_between_98 : decode cX10_between 98 = .ok (.isub, 1) := by decide +kernel
theorem dX10_between_99 : decode cX10_between 99 = .ok (.iload 4, 2) := by decide +kernel
theorem dX10_between_101 : decode cX10_between 101 = .ok (.idiv, 1) := by decide +kernel
theorem dX10_between_102 : decode cX10_between 102 = .ok (.ireturn, 1) := by decide +kernel
theorem dX10_areTold_0 : decode cX10_areTold 0 = .ok (.iload_n 1, 1) := by decide +kernel
theorem dX10_areTold_1 : decode cX10_areTold 1 = .ok (.aload_n 0, 1) := by decide +kernel
theorem dX10_areTold_2 : decode cX10_areTold 2 = .ok (.getfield 70, 3) := by decide +kernel
theorem dX10_areTold_5 : decode cX10_areTold 5 = .ok (.iconst (-1), 1) := by decide +kernel
theorem dX10_areTold_6 : decode cX10_areTold 6 = .ok (.ixor, 1) := by decide +kernel
theorem dX10_areTold_7 : decode cX10_areTold 7 = .ok (.iand, 1) := by decide +kernel
theorem dX10_areTold_8 : decode cX10_areTold 8 = .ok (.ifCond .ne 7, 3) := by decide +kernel
theorem dX10_areTold_11 : decode cX10_areTold 11 = .ok (.iconst 1, 1) := by decide +kernel
theorem dX10_areTold_12 : decode cX10_areTold 12 = .ok (.goto 4, 3) := by decide +kernel
theorem dX10_areTold_15 : decode cX10_areTold 15 = .ok (.iconst 0, 1) := by decide +kernel
theorem dX10_areTold_16 : decode cX10_areTold 16 = .ok (.ireturn, 1) := by decide +kernel
set_option maxRecDepth 20000 in
theorem ggX10_findOffs_X10_goFrom : GoodIn wsX10_findOffs wsX10_goFrom := goodIn_r _ [9, 4, 10, 11, 12, 13, 14, 15, 16, 8, 17, 18, 19, 20, 21, 22, 23, 24, 25, 26, 27, 28, 29, 30, 31, 32, 33, 34, 35, 36, 37, 38, 39, 40, 41, 42, 43, 44, 45, 46, 47, 48, 49, 50, 51, 52, 53, 54, 55, 56, 57, 58, 59, 60, 61, 62, 63, 64, 65, 66, 67, 68, 69, 70] (by decide +kernel) (by decide +kernel)
set_option maxRecDepth 20000 in
theorem gX10_findOffs_X10_goFrom : GoodIn wsX10_findOffs (wsV RX10 171 RX10 yX10_goFrom wsX10_goFrom) := goodIn_app (goodIn_of _ (by decide +kernel)) ggX10_findOffs_X10_goFrom
theorem dX10_findOffs_0 : decode cX10_findOffs 0 = .ok (.iconst 0, 1) := by decide +kernel
theorem dX10_findOffs_1 : decode cX10_findOffs 1 = .ok (.istore_n 3, 1) := by decide +kernel
theorem dX10_findOffs_2 : decode cX10_findOffs 2 = .ok (.iload_n 3, 1) := by decide +kernel
theorem dX10_findOffs_3 : decode cX10_findOffs 3 = .ok (.bipush 6, 2) := by decide +kernel
theorem dX10_findOffs_5 : decode cX10_findOffs 5 = .ok (.if_icmp .ge 89, 3) := by decide +kernel
theorem dX10_findOffs_8 : decode cX10_findOffs 8 = .ok (.iload_n 1, 1) := by decide +kernel
theorem dX10_findOffs_9 : decode cX10_findOffs 9 = .ok (.iload_n 3, 1) := by decide +kernel
theorem dX10_findOffs_10 : decode cX10_findOffs 10 = .ok (.ishr, 1) := by decide +kernel
theorem dX10_findOffs_11 : decode cX10_findOffs 11 = .ok (.iconst 1, 1) := by decide +kernel
theorem dX10_findOffs_12 : decode cX10_findOffs 12 = .ok (.iand, 1) := by decide +kernel
theorem dX10_findOffs_13 : decode cX10_findOffs 13 = .ok (.iconst 1, 1) := by decide +kernel
theorem dX10_findOffs_14 : decode cX10_findOffs 14 = .ok (.if_icmp .ne 74, 3) := by decide +kernel
theorem dX10_findOffs_17 : decode cX10_findOffs 17 = .ok (.aload_n 0, 1) := by decide +kernel
theorem dX10_findOffs_18 : decode cX10_findOffs 18 = .ok (.aload_n 0, 1) := by decide +kernel
theorem dX10_findOffs_19 : decode cX10_findOffs 19 = .ok (.getfield 7, 3) := by decide +kernel
theorem dX10_findOffs_22 : decode cX10_findOffs 22 = .ok (.iload_n 3, 1) := by decide +kernel
theorem dX10_findOffs_23 : decode cX10_findOffs 23 = .ok (.iaload, 1) := by decide +kernel
theorem dX10_findOffs_24 : decode cX10_findOffs 24 = .ok (.aload_n 0, 1) := by decide +kernel
theorem dX10_findOffs_25 : decode cX10_findOffs 25 = .ok (.getfield 13, 3) := by decide +kernel
theorem dX10_findOffs_28 : decode cX10_findOffs 28 = .ok (.iload_n 2, 1) := by decide +kernel
theorem dX10_findOffs_29 : decode cX10_findOffs 29 = .ok (.iaload, 1) := by decide +kernel
theorem dX10_findOffs_30 : decode cX10_findOffs 30 = .ok (.invokevirtual 171, 3) := by decide +kernel
theorem dX10_findOffs_33 : decode cX10_findOffs 33 = .ok (.iconst 0, 1) := by decide +kernel
theorem dX10_findOffs_34 : decode cX10_findOffs 34 = .ok (.istore 4, 2) := by decide +kernel
theorem dX10_findOffs_36 : decode cX10_findOffs 36 = .ok (.iload 4, 2) := by decide +kernel
theorem dX10_findOffs_38 : decode cX10_findOffs 38 = .ok (.bipush 6, 2) := by decide +kernel
theorem dX10_findOffs_40 : decode cX10_findOffs 40 = .ok (.if_icmp .ge 48, 3) := by decide +kernel
theorem dX10_findOffs_43 : decode cX10_findOffs 43 = .ok (.aload_n 0, 1) := by decide +kernel
theorem dX10_findOffs_44 : decode cX10_findOffs 44 = .ok (.getfield 37, 3) := by decide +kernel
theorem dX10_findOffs_47 : decode cX10_findOffs 47 = .ok (.bipush 6, 2) := by decide +kernel
theorem dX10_findOffs_49 : decode cX10_findOffs 49 = .ok (.iload_n 3, 1) := by decide +kernel
theorem dX10_findOffs_50 : decode cX10_findOffs 50 = .ok (.imul, 1) := by decide +kernel
theorem dX10_findOffs_51 : decode cX10_findOffs 51 = .ok (.iload 4, 2) := by decide +kernel
theorem dX10_findOffs_53 : decode cX10_findOffs 53 = .ok (.iadd, 1) := by decide +kernel
theorem dX10_findOffs_54 : decode cX10_findOffs 54 = .ok (.iload_n 1, 1) := by decide +kernel
theorem dX10_findOffs_55 : decode cX10_findOffs 55 = .ok (.iload 4, 2) := by decide +kernel
theorem dX10_findOffs_57 : decode cX10_findOffs 57 = .ok (.ishr, 1) := by decide +kernel
theorem dX10_findOffs_58 : decode cX10_findOffs 58 = .ok (.iconst 1, 1) := by decide +kernel
theorem dX10_findOffs_59 : decode cX10_findOffs 59 = .ok (.iand, 1) := by decide +kernel
theorem dX10_findOffs_60 : decode cX10_findOffs 60 = .ok (.iconst 1, 1) := by decide +kernel
theorem dX10_findOffs_61 : decode cX10_findOffs 61 = .ok (.if_icmp .ne 18, 3) := by decide +kernel
theorem dX10_findOffs_64 : decode cX10_findOffs 64 = .ok (.aload_n 0, 1) := by decide +kernel
theorem dX10_findOffs_65 : decode cX10_findOffs 65 = .ok (.getfield 28, 3) := by decide +kernel
theorem dX10_findOffs_68 : decode cX10_findOffs 68 = .ok (.aload_n 0, 1) := by decide +kernel
theorem dX10_findOffs_69 : decode cX10_findOffs 69 = .ok (.getfield 7, 3) := by decide +kernel
theorem dX10_findOffs_72 : decode cX10_findOffs 72 = .ok (.iload 4, 2) := by decide +kernel
theorem dX10_findOffs_74 : decode cX10_findOffs 74 = .ok (.iaload, 1) := by decide +kernel
theorem dX10_findOffs_75 : decode cX10_findOffs 75 = .ok (.iaload, 1) := by decide +kernel
theorem dX10_findOffs_76 : decode cX10_findOffs 76 = .ok (.goto 5, 3) := by decide +kernel
theorem dX10_findOffs_79 : decode cX10_findOffs 79 = .ok (.bipush (-6), 2) := by decide +kernel
theorem dX10_findOffs_81 : decode cX10_findOffs 81 = .ok (.iastore, 1) := by decide +kernel
theorem dX10_findOffs_82 : decode cX10_findOffs 82 = .ok (.iinc 4 1, 3) := by decide +kernel
theorem dX10_findOffs_85 : decode cX10_findOffs 85 = .ok (.goto (-49), 3) := by decide +kernel
theorem dX10_findOffs_88 : decode cX10_findOffs 88 = .ok (.iinc 3 1, 3) := by decide +kernel
theorem dX10_findOffs_91 : decode cX10_findOffs 91 = .ok (.goto (-89), 3) := by decide +kernel
theorem dX10_findOffs_94 : decode cX10_findOffs 94 = .ok (.return_, 1) := by decide +kernel
set_option maxRecDepth 20000 in
theorem ggX10_layTree_X10_noRounds : GoodIn wsX10_layTree wsX10_noRounds := goodIn_r _ [7, 1, 8, 9, 10, 11, 12, 13, 14, 15, 16, 17, 18, 19, 20, 21, 22, 23, 24, 25, 26, 27, 28, 29, 30, 31, 32, 33, 34, 35] (by decide +kernel) (by decide +kernel)
set_option maxRecDepth 20000 in
theorem gX10_layTree_X10_noRounds : GoodIn wsX10_layTree (wsV RX10 185 RX10 yX10_noRounds wsX10_noRounds) := goodIn_app (goodIn_of _ (by decide +kernel)) ggX10_layTree_X10_noRounds
theorem dX10_layTree_0 : decode cX10_layTree 0 = .ok (.iload_n 2, 1) := by decide +kernel
theorem dX10_layTree_1 : decode cX10_layTree 1 = .ok (.istore_n 3, 1) := by decide +kernel
theorem dX10_layTree_2 : decode cX10_layTree 2 = .ok (.iconst 0, 1) := by decide +kernel
theorem dX10_layTree_3 : decode cX10_layTree 3 = .ok (.istore 4, 2) := by decide +kernel
theorem dX10_layTree_5 : decode cX10_layTree 5 = .ok (.iconst 1, 1) := by decide +kernel
theorem dX10_layTree_6 : decode cX10_layTree 6 = .ok (.istore 5, 2) := by decide +kernel
theorem dX10_layTree_8 : decode cX10_layTree 8 = .ok (.iconst 5, 1) := by decide +kernel
theorem dX10_layTree_9 : decode cX10_layTree 9 = .ok (.istore 6, 2) := by decide +kernel
theorem dX10_layTree_11 : decode cX10_layTree 11 = .ok (.iload 6, 2) := by decide +kernel
theorem dX10_layTree_13 : decode cX10_layTree 13 = .ok (.ifCond .lt 117, 3) := by decide +kernel
theorem dX10_layTree_16 : decode cX10_layTree 16 = .ok (.aload_n 0, 1) := by decide +kernel
theorem dX10_layTree_17 : decode cX10_layTree 17 = .ok (.getfield 40, 3) := by decide +kernel
theorem dX10_layTree_20 : decode cX10_layTree 20 = .ok (.iload 6, 2) := by decide +kernel
theorem dX10_layTree_22 : decode cX10_layTree 22 = .ok (.bipush 6, 2) := by decide +kernel
theorem dX10_layTree_24 : decode cX10_layTree 24 = .ok (.iastore, 1) := by decide +kernel
theorem dX10_layTree_25 : decode cX10_layTree 25 = .ok (.iload_n 1, 1) := by decide +kernel
theorem dX10_layTree_26 : decode cX10_layTree 26 = .ok (.iload 6, 2) := by decide +kernel
theorem dX10_layTree_28 : decode cX10_layTree 28 = .ok (.ishr, 1) := by decide +kernel
theorem dX10_layTree_29 : decode cX10_layTree 29 = .ok (.iconst 1, 1) := by decide +kernel
theorem dX10_layTree_30 : decode cX10_layTree 30 = .ok (.iand, 1) := by decide +kernel
theorem dX10_layTree_31 : decode cX10_layTree 31 = .ok (.iconst 1, 1) := by decide +kernel
theorem dX10_layTree_32 : decode cX10_layTree 32 = .ok (.if_icmp .ne 92, 3) := by decide +kernel
theorem dX10_layTree_35 : decode cX10_layTree 35 = .ok (.iload_n 3, 1) := by decide +kernel
theorem dX10_layTree_36 : decode cX10_layTree 36 = .ok (.bipush 7, 2) := by decide +kernel
theorem dX10_layTree_38 : decode cX10_layTree 38 = .ok (.irem, 1) := by decide +kernel
theorem dX10_layTree_39 : decode cX10_layTree 39 = .ok (.istore 7, 2) := by decide +kernel
theorem dX10_layTree_41 : decode cX10_layTree 41 = .ok (.iload_n 3, 1) := by decide +kernel
theorem dX10_layTree_42 : decode cX10_layTree 42 = .ok (.bipush 7, 2) := by decide +kernel
theorem dX10_layTree_44 : decode cX10_layTree 44 = .ok (.idiv, 1) := by decide +kernel
theorem dX10_layTree_45 : decode cX10_layTree 45 = .ok (.istore_n 3, 1) := by decide +kernel
theorem dX10_layTree_46 : decode cX10_layTree 46 = .ok (.aload_n 0, 1) := by decide +kernel
theorem dX10_layTree_47 : decode cX10_layTree 47 = .ok (.getfield 40, 3) := by decide +kernel
theorem dX10_layTree_50 : decode cX10_layTree 50 = .ok (.iload 6, 2) := by decide +kernel
theorem dX10_layTree_52 : decode cX10_layTree 52 = .ok (.iload 7, 2) := by decide +kernel
theorem dX10_layTree_54 : decode cX10_layTree 54 = .ok (.iastore, 1) := by decide +kernel
theorem dX10_layTree_55 : decode cX10_layTree 55 = .ok (.iload 4, 2) := by decide +kernel
theorem dX10_layTree_57 : decode cX10_layTree 57 = .ok (.iload 7, 2) := by decide +kernel
theorem dX10_layTree_59 : decode cX10_layTree 59 = .ok (.bipush 6, 2) := by decide +kernel
theorem dX10_layTree_61 : decode cX10_layTree 61 = .ok (.if_icmp .ne 7, 3) := by decide +kernel
theorem dX10_layTree_64 : decode cX10_layTree 64 = .ok (.iconst 1, 1) := by decide +kernel
theorem dX10_layTree_65 : decode cX10_layTree 65 = .ok (.goto 4, 3) := by decide +kernel
theorem dX10_layTree_68 : decode cX10_layTree 68 = .ok (.iconst 0, 1) := by decide +kernel
theorem dX10_layTree_69 : decode cX10_layTree 69 = .ok (.iadd, 1) := by decide +kernel
theorem dX10_layTree_70 : decode cX10_layTree 70 = .ok (.istore 4, 2) := by decide +kernel
theorem dX10_layTree_72 : decode cX10_layTree 72 = .ok (.iload 5, 2) := by decide +kernel
theorem dX10_layTree_74 : decode cX10_layTree 74 = .ok (.ifCond .eq 47, 3) := by decide +kernel
theorem dX10_layTree_77 : decode cX10_layTree 77 = .ok (.iload 7, 2) := by decide +kernel
theorem dX10_layTree_79 : decode cX10_layTree 79 = .ok (.bipush 6, 2) := by decide +kernel
theorem dX10_layTree_81 : decode cX10_layTree 81 = .ok (.if_icmp .eq 36, 3) := by decide +kernel
theorem dX10_layTree_84 : decode cX10_layTree 84 = .ok (.iload 7, 2) := by decide +kernel
theorem dX10_layTree_86 : decode cX10_layTree 86 = .ok (.iload 6, 2) := by decide +kernel
theorem dX10_layTree_88 : decode cX10_layTree 88 = .ok (.if_icmp .eq 33, 3) := by decide +kernel
theorem dX10_layTree_91 : decode cX10_layTree 91 = .ok (.iload_n 1, 1) := by decide +kernel
theorem dX10_layTree_92 : decode cX10_layTree 92 = .ok (.iload 7, 2) := by decide +kernel
theorem dX10_layTree_94 : decode cX10_layTree 94 = .ok (.ishr, 1) := by decide +kernel
theorem dX10_layTree_95 : decode cX10_layTree 95 = .ok (.iconst 1, 1) := by decide +kernel
theorem dX10_layTree_96 : decode cX10_layTree 96 = .ok (.iand, 1) := by decide +kernel
theorem dX10_layTree_97 : decode cX10_layTree 97 = .ok (.iconst 1, 1) := by decide +kernel
theorem dX10_layTree_98 : decode cX10_layTree 98 = .ok (.if_icmp .ne 23, 3) := by decide +kernel
theorem dX10_layTree_101 : decode cX10_layTree 101 = .ok (.aload_n 0, 1) := by decide +kernel
theorem dX10_layTree_102 : decode cX10_layTree 102 = .ok (.getfield 37, 3) := by decide +kernel
theorem dX10_layTree_105 : decode cX10_layTree 105 = .ok (.bipush 6, 2) := by decide +kernel
theorem dX10_layTree_107 : decode cX10_layTree 107 = .ok (.iload 7, 2) := by decide +kernel
theorem dX10_layTree_109 : decode cX10_layTree 109 = .ok (.imul, 1) := by decide +kernel
theorem dX10_layTree_110 : decode cX10_layTree 110 = .ok (.iload 6, 2) := by decide +kernel
theorem dX10_layTree_112 : decode cX10_layTree 112 = .ok (.iadd, 1) := by decide +kernel
theorem dX10_layTree_113 : decode cX10_layTree 113 = .ok (.iaload, 1) := by decide +kernel
theorem dX10_layTree_114 : decode cX10_layTree 114 = .ok (.ifCond .lt 7, 3) := by decide +kernel
theorem dX10_layTree_117 : decode cX10_layTree 117 = .ok (.iconst 1, 1) := by decide +kernel
theorem dX10_layTree_118 : decode cX10_layTree 118 = .ok (.goto 4, 3) := by decide +kernel
theorem dX10_layTree_121 : decode cX10_layTree 121 = .ok (.iconst 0, 1) := by decide +kernel
theorem dX10_layTree_122 : decode cX10_layTree 122 = .ok (.istore 5, 2) := by decide +kernel
theorem dX10_layTree_124 : decode cX10_layTree 124 = .ok (.iinc 6 (-1), 3) := by decide +kernel
theorem dX10_layTree_127 : decode cX10_layTree 127 = .ok (.goto (-116), 3) := by decide +kernel
theorem dX10_layTree_130 : decode cX10_layTree 130 = .ok (.iload 5, 2) := by decide +kernel
theorem dX10_layTree_132 : decode cX10_layTree 132 = .ok (.ifCond .eq 21, 3) := by decide +kernel
theorem dX10_layTree_135 : decode cX10_layTree 135 = .ok (.iload 4, 2) := by decide +kernel
theorem dX10_layTree_137 : decode cX10_layTree 137 = .ok (.iconst 1, 1) := by decide +kernel
theorem dX10_layTree_138 : decode cX10_layTree 138 = .ok (.if_icmp .ne 15, 3) := by decide +kernel
theorem dX10_layTree_141 : decode cX10_layTree 141 = .ok (.aload_n 0, 1) := by decide +kernel
theorem dX10_layTree_142 : decode cX10_layTree 142 = .ok (.iload_n 1, 1) := by decide +kernel
theorem dX10_layTree_143 : decode cX10_layTree 143 = .ok (.invokevirtual 185, 3) := by decide +kernel
theorem dX10_layTree_146 : decode cX10_layTree 146 = .ok (.ifCond .eq 7, 3) := by decide +kernel
theorem dX10_layTree_149 : decode cX10_layTree 149 = .ok (.iconst 1, 1) := by decide +kernel
theorem dX10_layTree_150 : decode cX10_layTree 150 = .ok (.goto 4, 3) := by decide +kernel
theorem dX10_layTree_153 : decode cX10_layTree 153 = .ok (.iconst 0, 1) := by decide +kernel
theorem dX10_layTree_154 : decode cX10_layTree 154 = .ok (.ireturn, 1) := by decide +kernel
theorem dX10_noRounds_0 : decode cX10_noRounds 0 = .ok (.iconst 1, 1) := by decide +kernel
theorem dX10_noRounds_1 : decode cX10_noRounds 1 = .ok (.istore_n 2, 1) := by decide +kernel
theorem dX10_noRounds_2 : decode cX10_noRounds 2 = .ok (.iconst 0, 1) := by decide +kernel
theorem dX10_noRounds_3 : decode cX10_noRounds 3 = .ok (.istore_n 3, 1) := by decide +kernel
theorem dX10_noRounds_4 : decode cX10_noRounds 4 = .ok (.iload_n 3, 1) := by decide +kernel
theorem dX10_noRounds_5 : decode cX10_noRounds 5 = .ok (.bipush 6, 2) := by decide +kernel
theorem dX10_noRounds_7 : decode cX10_noRounds 7 = .ok (.if_icmp .ge 69, 3) := by decide +kernel
theorem dX10_noRounds_10 : decode cX10_noRounds 10 = .ok (.iload_n 3, 1) := by decide +kernel
theorem dX10_noRounds_11 : decode cX10_noRounds 11 = .ok (.istore 4, 2) := by decide +kernel
theorem dX10_noRounds_13 : decode cX10_noRounds 13 = .ok (.iconst 0, 1) := by decide +kernel
theorem dX10_noRounds_14 : decode cX10_noRounds 14 = .ok (.istore 5, 2) := by decide +kernel
theorem dX10_noRounds_16 : decode cX10_noRounds 16 = .ok (.iload 5, 2) := by decide +kernel
theorem dX10_noRounds_18 : decode cX10_noRounds 18 = .ok (.bipush 6, 2) := by decide +kernel
theorem dX10_noRounds_20 : decode cX10_noRounds 20 = .ok (.if_icmp .ge 25, 3) := by decide +kernel
theorem dX10_noRounds_23 : decode cX10_noRounds 23 = .ok (.iload 4, 2) := by decide +kernel
theorem dX10_noRounds_25 : decode cX10_noRounds 25 = .ok (.bipush 6, 2) := by decide +kernel
theorem dX10_noRounds_27 : decode cX10_noRounds 27 = .ok (.if_icmp .ge 18, 3) := by decide +kernel
theorem dX10_noRounds_30 : decode cX10_noRounds 30 = .ok (.aload_n 0, 1) := by decide +kernel
theorem dX10_noRounds_31 : decode cX10_noRounds 31 = .ok (.getfield 40, 3) := by decide +kernel
theorem dX10_noRounds_34 : decode cX10_noRounds 34 = .ok (.iload 4, 2) := by decide +kernel
theorem dX10_noRounds_36 : decode cX10_noRounds 36 = .ok (.iaload, 1) := by decide +kernel
theorem dX10_noRounds_37 : decode cX10_noRounds 37 = .ok (.istore 4, 2) := by decide +kernel
theorem dX10_noRounds_39 : decode cX10_noRounds 39 = .ok (.iinc 5 1, 3) := by decide +kernel
theorem dX10_noRounds_42 : decode cX10_noRounds 42 = .ok (.goto (-26), 3) := by decide +kernel
theorem dX10_noRounds_45 : decode cX10_noRounds 45 = .ok (.iload_n 2, 1) := by decide +kernel
theorem dX10_noRounds_46 : decode cX10_noRounds 46 = .ok (.ifCond .eq 22, 3) := by decide +kernel
theorem dX10_noRounds_49 : decode cX10_noRounds 49 = .ok (.iload_n 1, 1) := by decide +kernel
theorem dX10_noRounds_50 : decode cX10_noRounds 50 = .ok (.iload_n 3, 1) := by decide +kernel
theorem dX10_noRounds_51 : decode cX10_noRounds 51 = .ok (.ishr, 1) := by decide +kernel
theorem dX10_noRounds_52 : decode cX10_noRounds 52 = .ok (.iconst 1, 1) := by decide +kernel
theorem dX10_noRounds_53 : decode cX10_noRounds 53 = .ok (.iand, 1) := by decide +kernel
theorem dX10_noRounds_54 : decode cX10_noRounds 54 = .ok (.ifCond .eq 10, 3) := by decide +kernel
theorem dX10_noRounds_57 : decode cX10_noRounds 57 = .ok (.iload 4, 2) := by decide +kernel
theorem dX10_noRounds_59 : decode cX10_noRounds 59 = .ok (.bipush 6, 2) := by decide +kernel
theorem dX10_noRounds_61 : decode cX10_noRounds 61 = .ok (.if_icmp .ne 7, 3) := by decide +kernel
theorem dX10_noRounds_64 : decode cX10_noRounds 64 = .ok (.iconst 1, 1) := by decide +kernel
theorem dX10_noRounds_65 : decode cX10_noRounds 65 = .ok (.goto 4, 3) := by decide +kernel
theorem dX10_noRounds_68 : decode cX10_noRounds 68 = .ok (.iconst 0, 1) := by decide +kernel
theorem dX10_noRounds_69 : decode cX10_noRounds 69 = .ok (.istore_n 2, 1) := by decide +kernel
theorem dX10_noRounds_70 : decode cX10_noRounds 70 = .ok (.iinc 3 1, 3) := by decide +kernel
theorem dX10_noRounds_73 : decode cX10_noRounds 73 = .ok (.goto (-69), 3) := by decide +kernel
theorem dX10_noRounds_76 : decode cX10_noRounds 76 = .ok (.iload_n 2, 1) := by decide +kernel
theorem dX10_noRounds_77 : decode cX10_noRounds 77 = .ok (.ireturn, 1) := by decide +kernel
theorem dX10_sumOfTree_0 : decode cX10_sumOfTree 0 = .ok (.iconst 0, 1) := by decide +kernel
theorem dX10_sumOfTree_1 : decode cX10_sumOfTree 1 = .ok (.istore_n 2, 1) := by decide +kernel
theorem dX10_sumOfTree_2 : decode cX10_sumOfTree 2 = .ok (.iconst 0, 1) := by decide +kernel
theorem dX10_sumOfTree_3 : decode cX10_sumOfTree 3 = .ok (.istore_n 3, 1) := by decide +kernel
theorem dX10_sumOfTree_4 : decode cX10_sumOfTree 4 = .ok (.iload_n 3, 1) := by decide +kernel
theorem dX10_sumOfTree_5 : decode cX10_sumOfTree 5 = .ok (.bipush 6, 2) := by decide +kernel
theorem dX10_sumOfTree_7 : decode cX10_sumOfTree 7 = .ok (.if_icmp .ge 52, 3) := by decide +kernel
theorem dX10_sumOfTree_10 : decode cX10_sumOfTree 10 = .ok (.iload_n 2, 1) := by decide +kernel
theorem dX10_sumOfTree_11 : decode cX10_sumOfTree 11 = .ok (.iload_n 1, 1) := by decide +kernel
theorem dX10_sumOfTree_12 : decode cX10_sumOfTree 12 = .ok (.iload_n 3, 1) := by decide +kernel
theorem dX10_sumOfTree_13 : decode cX10_sumOfTree 13 = .ok (.ishr, 1) := by decide +kernel
theorem dX10_sumOfTree_14 : decode cX10_sumOfTree 14 = .ok (.iconst 1, 1) := by decide +kernel
theorem dX10_sumOfTree_15 : decode cX10_sumOfTree 15 = .ok (.iand, 1) := by decide +kernel
theorem dX10_sumOfTree_16 : decode cX10_sumOfTree 16 = .ok (.iconst 1, 1) := by decide +kernel
theorem dX10_sumOfTree_17 : decode cX10_sumOfTree 17 = .ok (.if_icmp .ne 33, 3) := by decide +kernel
theorem dX10_sumOfTree_20 : decode cX10_sumOfTree 20 = .ok (.aload_n 0, 1) := by decide +kernel
theorem dX10_sumOfTree_21 : decode cX10_sumOfTree 21 = .ok (.getfield 40, 3) := by decide +kernel
theorem dX10_sumOfTree_24 : decode cX10_sumOfTree 24 = .ok (.iload_n 3, 1) := by decide +kernel
theorem dX10_sumOfTree_25 : decode cX10_sumOfTree 25 = .ok (.iaload, 1) := by decide +kernel
theorem dX10_sumOfTree_26 : decode cX10_sumOfTree 26 = .ok (.bipush 6, 2) := by decide +kernel
theorem dX10_sumOfTree_28 : decode cX10_sumOfTree 28 = .ok (.if_icmp .ge 22, 3) := by decide +kernel
theorem dX10_sumOfTree_31 : decode cX10_sumOfTree 31 = .ok (.aload_n 0, 1) := by decide +kernel
theorem dX10_sumOfTree_32 : decode cX10_sumOfTree 32 = .ok (.getfield 37, 3) := by decide +kernel
theorem dX10_sumOfTree_35 : decode cX10_sumOfTree 35 = .ok (.bipush 6, 2) := by decide +kernel
theorem dX10_sumOfTree_37 : decode cX10_sumOfTree 37 = .ok (.aload_n 0, 1) := by decide +kernel
theorem dX10_sumOfTree_38 : decode cX10_sumOfTree 38 = .ok (.getfield 40, 3) := by decide +kernel
theorem dX10_sumOfTree_41 : decode cX10_sumOfTree 41 = .ok (.iload_n 3, 1) := by decide +kernel
theorem dX10_sumOfTree_42 : decode cX10_sumOfTree 42 = .ok (.iaload, 1) := by decide +kernel
theorem dX10_sumOfTree_43 : decode cX10_sumOfTree 43 = .ok (.imul, 1) := by decide +kernel
theorem dX10_sumOfTree_44 : decode cX10_sumOfTree 44 = .ok (.iload_n 3, 1) := by decide +kernel
theorem dX10_sumOfTree_45 : decode cX10_sumOfTree 45 = .ok (.iadd, 1) := by decide +kernel
theorem dX10_sumOfTree_46 : decode cX10_sumOfTree 46 = .ok (.iaload, 1) := by decide +kernel
theorem dX10_sumOfTree_47 : decode cX10_sumOfTree 47 = .ok (.goto 4, 3) := by decide +kernel
theorem dX10_sumOfTree_50 : decode cX10_sumOfTree 50 = .ok (.iconst 0, 1) := by decide +kernel
theorem dX10_sumOfTree_51 : decode cX10_sumOfTree 51 = .ok (.iadd, 1) := by decide +kernel
theorem dX10_sumOfTree_52 : decode cX10_sumOfTree 52 = .ok (.istore_n 2, 1) := by decide +kernel
theorem dX10_sumOfTree_53 : decode cX10_sumOfTree 53 = .ok (.iinc 3 1, 3) := by decide +kernel
theorem dX10_sumOfTree_56 : decode cX10_sumOfTree 56 = .ok (.goto (-52), 3) := by decide +kernel
theorem dX10_sumOfTree_59 : decode cX10_sumOfTree 59 = .ok (.iload_n 2, 1) := by decide +kernel
theorem dX10_sumOfTree_60 : decode cX10_sumOfTree 60 = .ok (.ireturn, 1) := by decide +kernel
set_option maxRecDepth 20000 in
theorem ggX10_findTrees_X10_findOffs : GoodIn wsX10_findTrees wsX10_findOffs := goodIn_r _ [9, 10, 11, 12, 13, 14, 15, 16, 8, 17, 18, 19, 20, 21, 22, 23, 24, 25, 26, 27, 28, 29, 30, 31, 32, 33, 34, 35, 36, 37, 38, 39, 40, 41, 42, 43, 44, 45, 46, 47, 48, 49, 50, 63, 64, 65, 66, 67, 68, 69, 70, 71, 72, 73, 74, 75, 76, 77, 78, 79, 80, 81, 82, 83, 84, 85, 86, 87, 88, 89, 90] (by decide +kernel) (by decide +kernel)
set_option maxRecDepth 20000 in
theorem gX10_findTrees_X10_findOffs : GoodIn wsX10_findTrees (wsV RX10 188 RX10 yX10_findOffs wsX10_findOffs) := goodIn_app (goodIn_of _ (by decide +kernel)) ggX10_findTrees_X10_findOffs
set_option maxRecDepth 20000 in
theorem ggX10_findTrees_X10_layTree : GoodIn wsX10_findTrees wsX10_layTree := goodIn_r _ [54, 4, 12, 55, 56, 57, 8, 58, 63, 64, 65, 66, 67, 68, 69, 70, 71, 72, 73, 74, 75, 76, 77, 78, 79, 80, 81, 82, 83, 84, 85, 86, 87, 88, 89, 90] (by decide +kernel) (by decide +kernel)
set_option maxRecDepth 20000 in
theorem gX10_findTrees_X10_layTree : GoodIn wsX10_findTrees (wsV RX10 197 RX10 yX10_layTree wsX10_layTree) := goodIn_app (goodIn_of _ (by decide +kernel)) ggX10_findTrees_X10_layTree
set_option maxRecDepth 20000 in
theorem ggX10_findTrees_X10_sumOfTree : GoodIn wsX10_findTrees wsX10_sumOfTree := goodIn_r _ [62, 4, 12, 63, 64, 65, 66, 67, 68, 69, 70, 71, 72, 73, 74, 75, 76, 77, 78, 79, 80, 81, 82, 83, 84, 85, 86, 87, 88, 89, 90] (by decide +kernel) (by decide +kernel)
set_option maxRecDepth 20000 in
theorem gX10_findTrees_X10_sumOfTree : GoodIn wsX10_findTrees (wsV RX10 200 RX10 yX10_sumOfTree wsX10_sumOfTree) := goodIn_app (goodIn_of _ (by decide +kernel)) ggX10_findTrees_X10_sumOfTree
theorem dX10_findTrees_0 : decode cX10_findTrees 0 = .ok (.aload_n 0, 1) := by decide +kernel
theorem dX10_findTrees_1 : decode cX10_findTrees 1 = .ok (.iload_n 1, 1) := by decide +kernel
theorem dX10_findTrees_2 : decode cX10_findTrees 2 = .ok (.iload_n 2, 1) := by decide +kernel
theorem dX10_findTrees_3 : decode cX10_findTrees 3 = .ok (.invokevirtual 188, 3) := by decide +kernel
theorem dX10_findTrees_6 : decode cX10_findTrees 6 = .ok (.aload_n 0, 1) := by decide +kernel
theorem dX10_findTrees_7 : decode cX10_findTrees 7 = .ok (.iconst 0, 1) := by decide +kernel
theorem dX10_findTrees_8 : decode cX10_findTrees 8 = .ok (.putfield 191, 3) := by decide +kernel
theorem dX10_findTrees_11 : decode cX10_findTrees 11 = .ok (.aload_n 0, 1) := by decide +kernel
theorem dX10_findTrees_12 : decode cX10_findTrees 12 = .ok (.bipush (-6), 2) := by decide +kernel
theorem dX10_findTrees_14 : decode cX10_findTrees 14 = .ok (.putfield 194, 3) := by decide +kernel
theorem dX10_findTrees_17 : decode cX10_findTrees 17 = .ok (.iconst 1, 1) := by decide +kernel
theorem dX10_findTrees_18 : decode cX10_findTrees 18 = .ok (.istore_n 3, 1) := by decide +kernel
theorem dX10_findTrees_19 : decode cX10_findTrees 19 = .ok (.iconst 0, 1) := by decide +kernel
theorem dX10_findTrees_20 : decode cX10_findTrees 20 = .ok (.istore 4, 2) := by decide +kernel
theorem dX10_findTrees_22 : decode cX10_findTrees 22 = .ok (.iload 4, 2) := by decide +kernel
theorem dX10_findTrees_24 : decode cX10_findTrees 24 = .ok (.bipush 6, 2) := by decide +kernel
theorem dX10_findTrees_26 : decode cX10_findTrees 26 = .ok (.if_icmp .ge 28, 3) := by decide +kernel
theorem dX10_findTrees_29 : decode cX10_findTrees 29 = .ok (.iload_n 3, 1) := by decide +kernel
theorem dX10_findTrees_30 : decode cX10_findTrees 30 = .ok (.iload_n 1, 1) := by decide +kernel
theorem dX10_findTrees_31 : decode cX10_findTrees 31 = .ok (.iload 4, 2) := by decide +kernel
theorem dX10_findTrees_33 : decode cX10_findTrees 33 = .ok (.ishr, 1) := by decide +kernel
theorem dX10_findTrees_34 : decode cX10_findTrees 34 = .ok (.iconst 1, 1) := by decide +kernel
theorem dX10_findTrees_35 : decode cX10_findTrees 35 = .ok (.iand, 1) := by decide +kernel
theorem dX10_findTrees_36 : decode cX10_findTrees 36 = .ok (.iconst 1, 1) := by decide +kernel
theorem dX10_findTrees_37 : decode cX10_findTrees 37 = .ok (.if_icmp .ne 8, 3) := by decide +kernel
theorem dX10_findTrees_40 : decode cX10_findTrees 40 = .ok (.bipush 7, 2) := by decide +kernel
theorem dX10_findTrees_42 : decode cX10_findTrees 42 = .ok (.goto 4, 3) := by decide +kernel
theorem dX10_findTrees_45 : decode cX10_findTrees 45 = .ok (.iconst 1, 1) := by decide +kernel
theorem dX10_findTrees_46 : decode cX10_findTrees 46 = .ok (.imul, 1) := by decide +kernel
theorem dX10_findTrees_47 : decode cX10_findTrees 47 = .ok (.istore_n 3, 1) := by decide +kernel
theorem dX10_findTrees_48 : decode cX10_findTrees 48 = .ok (.iinc 4 1, 3) := by decide +kernel
theorem dX10_findTrees_51 : decode cX10_findTrees 51 = .ok (.goto (-29), 3) := by decide +kernel
theorem dX10_findTrees_54 : decode cX10_findTrees 54 = .ok (.iconst 0, 1) := by decide +kernel
theorem dX10_findTrees_55 : decode cX10_findTrees 55 = .ok (.istore 4, 2) := by decide +kernel
theorem dX10_findTrees_57 : decode cX10_findTrees 57 = .ok (.iload 4, 2) := by decide +kernel
theorem dX10_findTrees_59 : decode cX10_findTrees 59 = .ok (.iload_n 3, 1) := by decide +kernel
theorem dX10_findTrees_60 : decode cX10_findTrees 60 = .ok (.if_icmp .ge 106, 3) := by decide +kernel
theorem dX10_findTrees_63 : decode cX10_findTrees 63 = .ok (.aload_n 0, 1) := by decide +kernel
theorem dX10_findTrees_64 : decode cX10_findTrees 64 = .ok (.iload_n 1, 1) := by decide +kernel
theorem dX10_findTrees_65 : decode cX10_findTrees 65 = .ok (.iload 4, 2) := by decide +kernel
theorem dX10_findTrees_67 : decode cX10_findTrees 67 = .ok (.invokevirtual 197, 3) := by decide +kernel
theorem dX10_findTrees_70 : decode cX10_findTrees 70 = .ok (.ifCond .eq 90, 3) := by decide +kernel
theorem dX10_findTrees_73 : decode cX10_findTrees 73 = .ok (.aload_n 0, 1) := by decide +kernel
theorem dX10_findTrees_74 : decode cX10_findTrees 74 = .ok (.iload_n 1, 1) := by decide +kernel
theorem dX10_findTrees_75 : decode cX10_findTrees 75 = .ok (.invokevirtual 200, 3) := by decide +kernel
theorem dX10_findTrees_78 : decode cX10_findTrees 78 = .ok (.istore 5, 2) := by decide +kernel
theorem dX10_findTrees_80 : decode cX10_findTrees 80 = .ok (.aload_n 0, 1) := by decide +kernel
theorem dX10_findTrees_81 : decode cX10_findTrees 81 = .ok (.getfield 194, 3) := by decide +kernel
theorem dX10_findTrees_84 : decode cX10_findTrees 84 = .ok (.ifCond .lt 12, 3) := by decide +kernel
theorem dX10_findTrees_87 : decode cX10_findTrees 87 = .ok (.iload 5, 2) := by decide +kernel
theorem dX10_findTrees_89 : decode cX10_findTrees 89 = .ok (.aload_n 0, 1) := by decide +kernel
theorem dX10_findTrees_90 : decode cX10_findTrees 90 = .ok (.getfield 194, 3) := by decide +kernel
theorem dX10_findTrees_93 : decode cX10_findTrees 93 = .ok (.if_icmp .ge 44, 3) := by decide +kernel
theorem dX10_findTrees_96 : decode cX10_findTrees 96 = .ok (.aload_n 0, 1) := by decide +kernel
theorem dX10_findTrees_97 : decode cX10_findTrees 97 = .ok (.iload 5, 2) := by decide +kernel
theorem dX10_findTrees_99 : decode cX10_findTrees 99 = .ok (.putfield 194, 3) := by decide +kernel
theorem dX10_findTrees_102 : decode cX10_findTrees 102 = .ok (.aload_n 0, 1) := by decide +kernel
theorem dX10_findTrees_103 : decode cX10_findTrees 103 = .ok (.iconst 0, 1) := by decide +kernel
theorem dX10_findTrees_104 : decode cX10_findTrees 104 = .ok (.putfield 191, 3) := by decide +kernel
theorem dX10_findTrees_107 : decode cX10_findTrees 107 = .ok (.iconst 0, 1) := by decide +kernel
theorem dX10_findTrees_108 : decode cX10_findTrees 108 = .ok (.istore 6, 2) := by decide +kernel
theorem dX10_findTrees_110 : decode cX10_findTrees 110 = .ok (.iload 6, 2) := by decide +kernel
theorem dX10_findTrees_112 : decode cX10_findTrees 112 = .ok (.bipush 6, 2) := by decide +kernel
theorem dX10_findTrees_114 : decode cX10_findTrees 114 = .ok (.if_icmp .ge 23, 3) := by decide +kernel
theorem dX10_findTrees_117 : decode cX10_findTrees 117 = .ok (.aload_n 0, 1) := by decide +kernel
theorem dX10_findTrees_118 : decode cX10_findTrees 118 = .ok (.getfield 43, 3) := by decide +kernel
theorem dX10_findTrees_121 : decode cX10_findTrees 121 = .ok (.iload 6, 2) := by decide +kernel
theorem dX10_findTrees_123 : decode cX10_findTrees 123 = .ok (.aload_n 0, 1) := by decide +kernel
theorem dX10_findTrees_124 : decode cX10_findTrees 124 = .ok (.getfield 40, 3) := by decide +kernel
theorem dX10_findTrees_127 : decode cX10_findTrees 127 = .ok (.iload 6, 2) := by decide +kernel
theorem dX10_findTrees_129 : decode cX10_findTrees 129 = .ok (.iaload, 1) := by decide +kernel
theorem dX10_findTrees_130 : decode cX10_findTrees 130 = .ok (.iastore, 1) := by decide +kernel
theorem dX10_findTrees_131 : decode cX10_findTrees 131 = .ok (.iinc 6 1, 3) := by decide +kernel
theorem dX10_findTrees_134 : decode cX10_findTrees 134 = .ok (.goto (-24), 3) := by decide +kernel
theorem dX10_findTrees_137 : decode cX10_findTrees 137 = .ok (.aload_n 0, 1) := by decide +kernel
theorem dX10_findTrees_138 : decode cX10_findTrees 138 = .ok (.dup, 1) := by decide +kernel
theorem dX10_findTrees_139 : decode cX10_findTrees 139 = .ok (.getfield 191, 3) := by decide +kernel
theorem dX10_findTrees_142 : decode cX10_findTrees 142 = .ok (.iload 5, 2) := by decide +kernel
theorem dX10_findTrees_144 : decode cX10_findTrees 144 = .ok (.aload_n 0, 1) := by decide +kernel
theorem dX10_findTrees_145 : decode cX10_findTrees 145 = .ok (.getfield 194, 3) := by decide +kernel
theorem dX10_findTrees_148 : decode cX10_findTrees 148 = .ok (.if_icmp .ne 7, 3) := by decide +kernel
theorem dX10_findTrees_151 : decode cX10_findTrees 151 = .ok (.iconst 1, 1) := by decide +kernel
theorem dX10_findTrees_152 : decode cX10_findTrees 152 = .ok (.goto 4, 3) := by decide +kernel
theorem dX10_findTrees_155 : decode cX10_findTrees 155 = .ok (.iconst 0, 1) := by decide +kernel
theorem dX10_findTrees_156 : decode cX10_findTrees 156 = .ok (.iadd, 1) := by decide +kernel
theorem dX10_findTrees_157 : decode cX10_findTrees 157 = .ok (.putfield 191, 3) := by decide +kernel
theorem dX10_findTrees_160 : decode cX10_findTrees 160 = .ok (.iinc 4 1, 3) := by decide +kernel
theorem dX10_findTrees_163 : decode cX10_findTrees 163 = .ok (.goto (-106), 3) := by decide +kernel
theorem dX10_findTrees_166 : decode cX10_findTrees 166 = .ok (.return_, 1) := by decide +kernel
set_option maxRecDepth 20000 in
theorem ggX10_tree_X10_isHand : GoodIn wsX10_tree wsX10_isHand := goodIn_r _ [8, 9, 10, 11, 7, 12] (by decide +kernel) (by decide +kernel)
set_option maxRecDepth 20000 in
theorem gX10_tree_X10_isHand : GoodIn wsX10_tree (va_wsS RX10 137 yX10_isHand wsX10_isHand) := goodIn_app (goodIn_of _ (by decide +kernel)) ggX10_tree_X10_isHand
set_option maxRecDepth 20000 in
theorem ggX10_tree_X10_isMap : GoodIn wsX10_tree wsX10_isMap := goodIn_r _ [15, 16, 10, 11, 7, 12] (by decide +kernel) (by decide +kernel)
set_option maxRecDepth 20000 in
theorem gX10_tree_X10_isMap : GoodIn wsX10_tree (va_wsS RX10 124 yX10_isMap wsX10_isMap) := goodIn_app (goodIn_of _ (by decide +kernel)) ggX10_tree_X10_isMap
set_option maxRecDepth 20000 in
theorem ggX10_tree_X10_in : GoodIn wsX10_tree wsX10_in := goodIn_r _ [12] (by decide +kernel) (by decide +kernel)
set_option maxRecDepth 20000 in
theorem gX10_tree_X10_in : GoodIn wsX10_tree (va_wsS RX10 79 yX10_in wsX10_in) := goodIn_app (goodIn_of _ (by decide +kernel)) ggX10_tree_X10_in
set_option maxRecDepth 20000 in
theorem ggX10_tree_X10_areTold : GoodIn wsX10_tree wsX10_areTold := goodIn_r _ [20, 21, 84, 85, 86, 87, 88, 89, 90, 91, 92, 93, 94, 95, 96, 97, 98, 99, 100, 101, 102, 103, 104, 105, 106, 107, 108, 109, 110, 111] (by decide +kernel) (by decide +kernel)
set_option maxRecDepth 20000 in
theorem gX10_tree_X10_areTold : GoodIn wsX10_tree (wsV RX10 205 RX10 yX10_areTold wsX10_areTold) := goodIn_app (goodIn_of _ (by decide +kernel)) ggX10_tree_X10_areTold
set_option maxRecDepth 20000 in
theorem ggX10_tree_X10_findTrees : GoodIn wsX10_tree wsX10_findTrees := goodIn_r _ [25, 2, 3, 4, 26, 27, 28, 29, 7, 30, 31, 32, 33, 34, 35, 36, 37, 38, 39, 40, 41, 42, 43, 44, 45, 46, 47, 48, 49, 50, 51, 52, 53, 54, 55, 56, 57, 58, 59, 60, 61, 62, 63, 64, 65, 66, 67, 68, 69, 70, 71, 72, 73, 74, 75, 76, 77, 78, 79, 80, 81, 82, 83, 84, 85, 86, 87, 88, 89, 90, 91, 92, 93, 94, 95, 96, 97, 98, 99, 100, 101, 102, 103, 104, 105, 106, 107, 108, 109, 110, 111] (by decide +kernel) (by decide +kernel)
set_option maxRecDepth 20000 in
theorem gX10_tree_X10_findTrees : GoodIn wsX10_tree (wsV RX10 208 RX10 yX10_findTrees wsX10_findTrees) := goodIn_app (goodIn_of _ (by decide +kernel)) ggX10_tree_X10_findTrees
theorem dX10_tree_0 : decode cX10_tree 0 = .ok (.iload_n 2, 1) := by decide +kernel
theorem dX10_tree_1 : decode cX10_tree 1 = .ok (.invokestatic 137, 3) := by decide +kernel
theorem dX10_tree_4 : decode cX10_tree 4 = .ok (.ifCond .ne 5, 3) := by decide +kernel
theorem dX10_tree_7 : decode cX10_tree 7 = .ok (.iconst (-1), 1) := by decide +kernel
theorem dX10_tree_8 : decode cX10_tree 8 = .ok (.ireturn, 1) := by decide +kernel
theorem dX10_tree_9 : decode cX10_tree 9 = .ok (.iload_n 3, 1) := by decide +kernel
theorem dX10_tree_10 : decode cX10_tree 10 = .ok (.bipush 10, 2) := by decide +kernel
theorem dX10_tree_12 : decode cX10_tree 12 = .ok (.if_icmp .lt 17, 3) := by decide +kernel
theorem dX10_tree_15 : decode cX10_tree 15 = .ok (.iload_n 3, 1) := by decide +kernel
theorem dX10_tree_16 : decode cX10_tree 16 = .ok (.bipush 10, 2) := by decide +kernel
theorem dX10_tree_18 : decode cX10_tree 18 = .ok (.isub, 1) := by decide +kernel
theorem dX10_tree_19 : decode cX10_tree 19 = .ok (.invokestatic 124, 3) := by decide +kernel
theorem dX10_tree_22 : decode cX10_tree 22 = .ok (.ifCond .eq 7, 3) := by decide +kernel
theorem dX10_tree_25 : decode cX10_tree 25 = .ok (.iconst 1, 1) := by decide +kernel
theorem dX10_tree_26 : decode cX10_tree 26 = .ok (.goto 4, 3) := by decide +kernel
theorem dX10_tree_29 : decode cX10_tree 29 = .ok (.iconst 0, 1) := by decide +kernel
theorem dX10_tree_30 : decode cX10_tree 30 = .ok (.istore 4, 2) := by decide +kernel
theorem dX10_tree_32 : decode cX10_tree 32 = .ok (.iload_n 1, 1) := by decide +kernel
theorem dX10_tree_33 : decode cX10_tree 33 = .ok (.i2l, 1) := by decide +kernel
theorem dX10_tree_34 : decode cX10_tree 34 = .ok (.lconst 1, 1) := by decide +kernel
theorem dX10_tree_35 : decode cX10_tree 35 = .ok (.ldc2_w 203, 3) := by decide +kernel
theorem dX10_tree_38 : decode cX10_tree 38 = .ok (.invokestatic 79, 3) := by decide +kernel
theorem dX10_tree_41 : decode cX10_tree 41 = .ok (.ifCond .eq 29, 3) := by decide +kernel
theorem dX10_tree_44 : decode cX10_tree 44 = .ok (.iload_n 3, 1) := by decide +kernel
theorem dX10_tree_45 : decode cX10_tree 45 = .ok (.i2l, 1) := by decide +kernel
theorem dX10_tree_46 : decode cX10_tree 46 = .ok (.lconst 0, 1) := by decide +kernel
theorem dX10_tree_47 : decode cX10_tree 47 = .ok (.lconst 1, 1) := by decide +kernel
theorem dX10_tree_48 : decode cX10_tree 48 = .ok (.invokestatic 79, 3) := by decide +kernel
theorem dX10_tree_51 : decode cX10_tree 51 = .ok (.ifCond .ne 22, 3) := by decide +kernel
theorem dX10_tree_54 : decode cX10_tree 54 = .ok (.iload 4, 2) := by decide +kernel
theorem dX10_tree_56 : decode cX10_tree 56 = .ok (.ifCond .eq 14, 3) := by decide +kernel
theorem dX10_tree_59 : decode cX10_tree 59 = .ok (.iload_n 1, 1) := by decide +kernel
theorem dX10_tree_60 : decode cX10_tree 60 = .ok (.iload_n 3, 1) := by decide +kernel
theorem dX10_tree_61 : decode cX10_tree 61 = .ok (.bipush 10, 2) := by decide +kernel
theorem dX10_tree_63 : decode cX10_tree 63 = .ok (.isub, 1) := by decide +kernel
theorem dX10_tree_64 : decode cX10_tree 64 = .ok (.ishr, 1) := by decide +kernel
theorem dX10_tree_65 : decode cX10_tree 65 = .ok (.iconst 1, 1) := by decide +kernel
theorem dX10_tree_66 : decode cX10_tree 66 = .ok (.iand, 1) := by decide +kernel
theorem dX10_tree_67 : decode cX10_tree 67 = .ok (.ifCond .ne 6, 3) := by decide +kernel
theorem dX10_tree_70 : decode cX10_tree 70 = .ok (.bipush (-2), 2) := by decide +kernel
theorem dX10_tree_72 : decode cX10_tree 72 = .ok (.ireturn, 1) := by decide +kernel
theorem dX10_tree_73 : decode cX10_tree 73 = .ok (.aload_n 0, 1) := by decide +kernel
theorem dX10_tree_74 : decode cX10_tree 74 = .ok (.iload_n 1, 1) := by decide +kernel
theorem dX10_tree_75 : decode cX10_tree 75 = .ok (.invokevirtual 205, 3) := by decide +kernel
theorem dX10_tree_78 : decode cX10_tree 78 = .ok (.ifCond .ne 6, 3) := by decide +kernel
theorem dX10_tree_81 : decode cX10_tree 81 = .ok (.bipush (-3), 2) := by decide +kernel
theorem dX10_tree_83 : decode cX10_tree 83 = .ok (.ireturn, 1) := by decide +kernel
theorem dX10_tree_84 : decode cX10_tree 84 = .ok (.aload_n 0, 1) := by decide +kernel
theorem dX10_tree_85 : decode cX10_tree 85 = .ok (.iload_n 1, 1) := by decide +kernel
theorem dX10_tree_86 : decode cX10_tree 86 = .ok (.iload_n 2, 1) := by decide +kernel
theorem dX10_tree_87 : decode cX10_tree 87 = .ok (.invokevirtual 208, 3) := by decide +kernel
theorem dX10_tree_90 : decode cX10_tree 90 = .ok (.iload 4, 2) := by decide +kernel
theorem dX10_tree_92 : decode cX10_tree 92 = .ok (.ifCond .ne 20, 3) := by decide +kernel
theorem dX10_tree_95 : decode cX10_tree 95 = .ok (.iload_n 3, 1) := by decide +kernel
theorem dX10_tree_96 : decode cX10_tree 96 = .ok (.iconst 1, 1) := by decide +kernel
theorem dX10_tree_97 : decode cX10_tree 97 = .ok (.if_icmp .ne 10, 3) := by decide +kernel
theorem dX10_tree_100 : decode cX10_tree 100 = .ok (.aload_n 0, 1) := by decide +kernel
theorem dX10_tree_101 : decode cX10_tree 101 = .ok (.getfield 191, 3) := by decide +kernel
theorem dX10_tree_104 : decode cX10_tree 104 = .ok (.goto 7, 3) := by decide +kernel
theorem dX10_tree_107 : decode cX10_tree 107 = .ok (.aload_n 0, 1) := by decide +kernel
theorem dX10_tree_108 : decode cX10_tree 108 = .ok (.getfield 194, 3) := by decide +kernel
theorem dX10_tree_111 : decode cX10_tree 111 = .ok (.ireturn, 1) := by decide +kernel
theorem dX10_tree_112 : decode cX10_tree 112 = .ok (.aload_n 0, 1) := by decide +kernel
theorem dX10_tree_113 : decode cX10_tree 113 = .ok (.getfield 194, 3) := by decide +kernel
theorem dX10_tree_116 : decode cX10_tree 116 = .ok (.ifCond .lt 17, 3) := by decide +kernel
theorem dX10_tree_119 : decode cX10_tree 119 = .ok (.aload_n 0, 1) := by decide +kernel
theorem dX10_tree_120 : decode cX10_tree 120 = .ok (.getfield 43, 3) := by decide +kernel
theorem dX10_tree_123 : decode cX10_tree 123 = .ok (.iload_n 3, 1) := by decide +kernel
theorem dX10_tree_124 : decode cX10_tree 124 = .ok (.bipush 10, 2) := by decide +kernel
theorem dX10_tree_126 : decode cX10_tree 126 = .ok (.isub, 1) := by decide +kernel
theorem dX10_tree_127 : decode cX10_tree 127 = .ok (.iaload, 1) := by decide +kernel
theorem dX10_tree_128 : decode cX10_tree 128 = .ok (.bipush 6, 2) := by decide +kernel
theorem dX10_tree_130 : decode cX10_tree 130 = .ok (.if_icmp .ne 8, 3) := by decide +kernel
theorem dX10_tree_133 : decode cX10_tree 133 = .ok (.bipush (-6), 2) := by decide +kernel
theorem dX10_tree_135 : decode cX10_tree 135 = .ok (.goto 12, 3) := by decide +kernel
theorem dX10_tree_138 : decode cX10_tree 138 = .ok (.aload_n 0, 1) := by decide +kernel
theorem dX10_tree_139 : decode cX10_tree 139 = .ok (.getfield 43, 3) := by decide +kernel
theorem dX10_tree_142 : decode cX10_tree 142 = .ok (.iload_n 3, 1) := by decide +kernel
theorem dX10_tree_143 : decode cX10_tree 143 = .ok (.bipush 10, 2) := by decide +kernel
theorem dX10_tree_145 : decode cX10_tree 145 = .ok (.isub, 1) := by decide +kernel
theorem dX10_tree_146 : decode cX10_tree 146 = .ok (.iaload, 1) := by decide +kernel
theorem dX10_tree_147 : decode cX10_tree 147 = .ok (.ireturn, 1) := by decide +kernel
set_option maxRecDepth 20000 in
theorem ggX10_leadsTo_X10_slipsThere : GoodIn wsX10_leadsTo wsX10_slipsThere := goodIn_r _ [6, 7, 28, 29, 30, 31, 32, 33, 34, 35, 36, 37, 38, 39, 40, 41, 42, 43, 44, 45, 46, 47, 48, 49, 50, 51, 52, 53, 54, 55] (by decide +kernel) (by decide +kernel)
set_option maxRecDepth 20000 in
theorem gX10_leadsTo_X10_slipsThere : GoodIn wsX10_leadsTo (wsV RX10 161 RX10 yX10_slipsThere wsX10_slipsThere) := goodIn_app (goodIn_of _ (by decide +kernel)) ggX10_leadsTo_X10_slipsThere
set_option maxRecDepth 20000 in
theorem ggX10_leadsTo_X10_slipAt : GoodIn wsX10_leadsTo wsX10_slipAt := goodIn_r _ [11, 7, 28, 29, 30, 31, 32, 33, 34, 35, 36, 37, 38, 39, 40, 41, 42, 43, 44, 45, 46, 47, 48, 49, 50, 51, 52, 53, 54, 55] (by decide +kernel) (by decide +kernel)
set_option maxRecDepth 20000 in
theorem gX10_leadsTo_X10_slipAt : GoodIn wsX10_leadsTo (wsV RX10 164 RX10 yX10_slipAt wsX10_slipAt) := goodIn_app (goodIn_of _ (by decide +kernel)) ggX10_leadsTo_X10_slipAt
set_option maxRecDepth 20000 in
theorem ggX10_leadsTo_X10_makes : GoodIn wsX10_leadsTo wsX10_makes := goodIn_r _ [14] (by decide +kernel) (by decide +kernel)
set_option maxRecDepth 20000 in
theorem gX10_leadsTo_X10_makes : GoodIn wsX10_leadsTo (va_wsS RX10 167 yX10_makes wsX10_makes) := goodIn_app (goodIn_of _ (by decide +kernel)) ggX10_leadsTo_X10_makes
set_option maxRecDepth 20000 in
theorem ggX10_leadsTo_X10_slipped : GoodIn wsX10_leadsTo wsX10_slipped := goodIn_r _ [18, 19, 20, 21, 5, 22, 23, 24, 25, 26, 27, 28, 29, 30, 31, 32, 33, 34, 35, 36, 37, 38, 39, 40, 41, 42, 43, 44, 45, 46, 47, 48, 49, 50, 51, 52, 53, 54, 55] (by decide +kernel) (by decide +kernel)
set_option maxRecDepth 20000 in
theorem gX10_leadsTo_X10_slipped : GoodIn wsX10_leadsTo (wsV RX10 152 RX10 yX10_slipped wsX10_slipped) := goodIn_app (goodIn_of _ (by decide +kernel)) ggX10_leadsTo_X10_slipped
theorem dX10_leadsTo_0 : decode cX10_leadsTo 0 = .ok (.aload_n 0, 1) := by decide +kernel
theorem dX10_leadsTo_1 : decode cX10_leadsTo 1 = .ok (.invokevirtual 161, 3) := by decide +kernel
theorem dX10_leadsTo_4 : decode cX10_leadsTo 4 = .ok (.istore 4, 2) := by decide +kernel
theorem dX10_leadsTo_6 : decode cX10_leadsTo 6 = .ok (.iconst 0, 1) := by decide +kernel
theorem dX10_leadsTo_7 : decode cX10_leadsTo 7 = .ok (.istore 5, 2) := by decide +kernel
theorem dX10_leadsTo_9 : decode cX10_leadsTo 9 = .ok (.iload 5, 2) := by decide +kernel
theorem dX10_leadsTo_11 : decode cX10_leadsTo 11 = .ok (.iload 4, 2) := by decide +kernel
theorem dX10_leadsTo_13 : decode cX10_leadsTo 13 = .ok (.if_icmp .ge 44, 3) := by decide +kernel
theorem dX10_leadsTo_16 : decode cX10_leadsTo 16 = .ok (.aload_n 0, 1) := by decide +kernel
theorem dX10_leadsTo_17 : decode cX10_leadsTo 17 = .ok (.iload 5, 2) := by decide +kernel
theorem dX10_leadsTo_19 : decode cX10_leadsTo 19 = .ok (.invokevirtual 164, 3) := by decide +kernel
theorem dX10_leadsTo_22 : decode cX10_leadsTo 22 = .ok (.istore 6, 2) := by decide +kernel
theorem dX10_leadsTo_24 : decode cX10_leadsTo 24 = .ok (.iload_n 2, 1) := by decide +kernel
theorem dX10_leadsTo_25 : decode cX10_leadsTo 25 = .ok (.iload 6, 2) := by decide +kernel
theorem dX10_leadsTo_27 : decode cX10_leadsTo 27 = .ok (.invokestatic 167, 3) := by decide +kernel
theorem dX10_leadsTo_30 : decode cX10_leadsTo 30 = .ok (.ifCond .eq 21, 3) := by decide +kernel
theorem dX10_leadsTo_33 : decode cX10_leadsTo 33 = .ok (.aload_n 0, 1) := by decide +kernel
theorem dX10_leadsTo_34 : decode cX10_leadsTo 34 = .ok (.getfield 49, 3) := by decide +kernel
theorem dX10_leadsTo_37 : decode cX10_leadsTo 37 = .ok (.aload_n 0, 1) := by decide +kernel
theorem dX10_leadsTo_38 : decode cX10_leadsTo 38 = .ok (.iload_n 1, 1) := by decide +kernel
theorem dX10_leadsTo_39 : decode cX10_leadsTo 39 = .ok (.iload 6, 2) := by decide +kernel
theorem dX10_leadsTo_41 : decode cX10_leadsTo 41 = .ok (.invokevirtual 152, 3) := by decide +kernel
theorem dX10_leadsTo_44 : decode cX10_leadsTo 44 = .ok (.iaload, 1) := by decide +kernel
theorem dX10_leadsTo_45 : decode cX10_leadsTo 45 = .ok (.iload_n 3, 1) := by decide +kernel
theorem dX10_leadsTo_46 : decode cX10_leadsTo 46 = .ok (.if_icmp .ne 5, 3) := by decide +kernel
theorem dX10_leadsTo_49 : decode cX10_leadsTo 49 = .ok (.iconst 1, 1) := by decide +kernel
theorem dX10_leadsTo_50 : decode cX10_leadsTo 50 = .ok (.ireturn, 1) := by decide +kernel
theorem dX10_leadsTo_51 : decode cX10_leadsTo 51 = .ok (.iinc 5 1, 3) := by decide +kernel
theorem dX10_leadsTo_54 : decode cX10_leadsTo 54 = .ok (.goto (-45), 3) := by decide +kernel
theorem dX10_leadsTo_57 : decode cX10_leadsTo 57 = .ok (.iconst 0, 1) := by decide +kernel
theorem dX10_leadsTo_58 : decode cX10_leadsTo 58 = .ok (.ireturn, 1) := by decide +kernel
set_option maxRecDepth 20000 in
theorem ggX10_findToward_X10_all : GoodIn wsX10_findToward wsX10_all := goodIn_r _ [6, 7, 36, 37, 38, 39, 40, 41, 42, 43, 44, 45, 46, 47, 48, 49, 50, 51, 52, 53, 54, 55, 56, 57, 58, 59, 60, 61, 62, 63] (by decide +kernel) (by decide +kernel)
set_option maxRecDepth 20000 in
theorem gX10_findToward_X10_all : GoodIn wsX10_findToward (wsV RX10 155 RX10 yX10_all wsX10_all) := goodIn_app (goodIn_of _ (by decide +kernel)) ggX10_findToward_X10_all
set_option maxRecDepth 20000 in
theorem ggX10_findToward_X10_leadsTo : GoodIn wsX10_findToward wsX10_leadsTo := goodIn_r _ [11, 1, 12, 13, 14, 5, 15, 16, 17, 18, 19, 20, 21, 22, 23, 24, 25, 26, 27, 28, 29, 30, 31, 7, 32, 33, 34, 35, 36, 37, 38, 39, 40, 41, 42, 43, 44, 45, 46, 47, 48, 49, 50, 51, 52, 53, 54, 55, 56, 57, 58, 59, 60, 61, 62, 63] (by decide +kernel) (by decide +kernel)
set_option maxRecDepth 20000 in
theorem gX10_findToward_X10_leadsTo : GoodIn wsX10_findToward (wsV RX10 211 RX10 yX10_leadsTo wsX10_leadsTo) := goodIn_app (goodIn_of _ (by decide +kernel)) ggX10_findToward_X10_leadsTo
theorem dX10_findToward_0 : decode cX10_findToward 0 = .ok (.aload_n 0, 1) := by decide +kernel
theorem dX10_findToward_1 : decode cX10_findToward 1 = .ok (.invokevirtual 155, 3) := by decide +kernel
theorem dX10_findToward_4 : decode cX10_findToward 4 = .ok (.istore_n 3, 1) := by decide +kernel
theorem dX10_findToward_5 : decode cX10_findToward 5 = .ok (.iconst 0, 1) := by decide +kernel
theorem dX10_findToward_6 : decode cX10_findToward 6 = .ok (.istore 4, 2) := by decide +kernel
theorem dX10_findToward_8 : decode cX10_findToward 8 = .ok (.iload 4, 2) := by decide +kernel
theorem dX10_findToward_10 : decode cX10_findToward 10 = .ok (.iload_n 3, 1) := by decide +kernel
theorem dX10_findToward_11 : decode cX10_findToward 11 = .ok (.if_icmp .ge 29, 3) := by decide +kernel
theorem dX10_findToward_14 : decode cX10_findToward 14 = .ok (.aload_n 0, 1) := by decide +kernel
theorem dX10_findToward_15 : decode cX10_findToward 15 = .ok (.getfield 49, 3) := by decide +kernel
theorem dX10_findToward_18 : decode cX10_findToward 18 = .ok (.iload 4, 2) := by decide +kernel
theorem dX10_findToward_20 : decode cX10_findToward 20 = .ok (.iload 4, 2) := by decide +kernel
theorem dX10_findToward_22 : decode cX10_findToward 22 = .ok (.iload_n 1, 1) := by decide +kernel
theorem dX10_findToward_23 : decode cX10_findToward 23 = .ok (.if_icmp .ne 7, 3) := by decide +kernel
theorem dX10_findToward_26 : decode cX10_findToward 26 = .ok (.iconst 0, 1) := by decide +kernel
theorem dX10_findToward_27 : decode cX10_findToward 27 = .ok (.goto 6, 3) := by decide +kernel
theorem dX10_findToward_30 : decode cX10_findToward 30 = .ok (.sipush 1000, 3) := by decide +kernel
theorem dX10_findToward_33 : decode cX10_findToward 33 = .ok (.iastore, 1) := by decide +kernel
theorem dX10_findToward_34 : decode cX10_findToward 34 = .ok (.iinc 4 1, 3) := by decide +kernel
theorem dX10_findToward_37 : decode cX10_findToward 37 = .ok (.goto (-29), 3) := by decide +kernel
theorem dX10_findToward_40 : decode cX10_findToward 40 = .ok (.iconst 1, 1) := by decide +kernel
theorem dX10_findToward_41 : decode cX10_findToward 41 = .ok (.istore 4, 2) := by decide +kernel
theorem dX10_findToward_43 : decode cX10_findToward 43 = .ok (.iconst 0, 1) := by decide +kernel
theorem dX10_findToward_44 : decode cX10_findToward 44 = .ok (.istore 5, 2) := by decide +kernel
theorem dX10_findToward_46 : decode cX10_findToward 46 = .ok (.iload 4, 2) := by decide +kernel
theorem dX10_findToward_48 : decode cX10_findToward 48 = .ok (.ifCond .eq 66, 3) := by decide +kernel
theorem dX10_findToward_51 : decode cX10_findToward 51 = .ok (.iconst 0, 1) := by decide +kernel
theorem dX10_findToward_52 : decode cX10_findToward 52 = .ok (.istore 4, 2) := by decide +kernel
theorem dX10_findToward_54 : decode cX10_findToward 54 = .ok (.iconst 0, 1) := by decide +kernel
theorem dX10_findToward_55 : decode cX10_findToward 55 = .ok (.istore 6, 2) := by decide +kernel
theorem dX10_findToward_57 : decode cX10_findToward 57 = .ok (.iload 6, 2) := by decide +kernel
theorem dX10_findToward_59 : decode cX10_findToward 59 = .ok (.iload_n 3, 1) := by decide +kernel
theorem dX10_findToward_60 : decode cX10_findToward 60 = .ok (.if_icmp .ge 48, 3) := by decide +kernel
theorem dX10_findToward_63 : decode cX10_findToward 63 = .ok (.aload_n 0, 1) := by decide +kernel
theorem dX10_findToward_64 : decode cX10_findToward 64 = .ok (.getfield 49, 3) := by decide +kernel
theorem dX10_findToward_67 : decode cX10_findToward 67 = .ok (.iload 6, 2) := by decide +kernel
theorem dX10_findToward_69 : decode cX10_findToward 69 = .ok (.iaload, 1) := by decide +kernel
theorem dX10_findToward_70 : decode cX10_findToward 70 = .ok (.sipush 1000, 3) := by decide +kernel
theorem dX10_findToward_73 : decode cX10_findToward 73 = .ok (.if_icmp .ne 29, 3) := by decide +kernel
theorem dX10_findToward_76 : decode cX10_findToward 76 = .ok (.aload_n 0, 1) := by decide +kernel
theorem dX10_findToward_77 : decode cX10_findToward 77 = .ok (.iload 6, 2) := by decide +kernel
theorem dX10_findToward_79 : decode cX10_findToward 79 = .ok (.iload_n 2, 1) := by decide +kernel
theorem dX10_findToward_80 : decode cX10_findToward 80 = .ok (.iload 5, 2) := by decide +kernel
theorem dX10_findToward_82 : decode cX10_findToward 82 = .ok (.invokevirtual 211, 3) := by decide +kernel
theorem dX10_findToward_85 : decode cX10_findToward 85 = .ok (.ifCond .eq 17, 3) := by decide +kernel
theorem dX10_findToward_88 : decode cX10_findToward 88 = .ok (.aload_n 0, 1) := by decide +kernel
theorem dX10_findToward_89 : decode cX10_findToward 89 = .ok (.getfield 49, 3) := by decide +kernel
theorem dX10_findToward_92 : decode cX10_findToward 92 = .ok (.iload 6, 2) := by decide +kernel
theorem dX10_findToward_94 : decode cX10_findToward 94 = .ok (.iload 5, 2) := by decide +kernel
theorem dX10_findToward_96 : decode cX10_findToward 96 = .ok (.iconst 1, 1) := by decide +kernel
theorem dX10_findToward_97 : decode cX10_findToward 97 = .ok (.iadd, 1) := by decide +kernel
theorem dX10_findToward_98 : decode cX10_findToward 98 = .ok (.iastore, 1) := by decide +kernel
theorem dX10_findToward_99 : decode cX10_findToward 99 = .ok (.iconst 1, 1) := by decide +kernel
theorem dX10_findToward_100 : decode cX10_findToward 100 = .ok (.istore 4, 2) := by decide +kernel
theorem dX10_findToward_102 : decode cX10_findToward 102 = .ok (.iinc 6 1, 3) := by decide +kernel
theorem dX10_findToward_105 : decode cX10_findToward 105 = .ok (.goto (-48), 3) := by decide +kernel
theorem dX10_findToward_108 : decode cX10_findToward 108 = .ok (.iinc 5 1, 3) := by decide +kernel
theorem dX10_findToward_111 : decode cX10_findToward 111 = .ok (.goto (-65), 3) := by decide +kernel
theorem dX10_findToward_114 : decode cX10_findToward 114 = .ok (.return_, 1) := by decide +kernel
set_option maxRecDepth 20000 in
theorem ggX10_lost_X10_isHand : GoodIn wsX10_lost wsX10_isHand := goodIn_r _ [9, 10, 11, 12, 8, 13] (by decide +kernel) (by decide +kernel)
set_option maxRecDepth 20000 in
theorem gX10_lost_X10_isHand : GoodIn wsX10_lost (va_wsS RX10 137 yX10_isHand wsX10_isHand) := goodIn_app (goodIn_of _ (by decide +kernel)) ggX10_lost_X10_isHand
set_option maxRecDepth 20000 in
theorem ggX10_lost_X10_in : GoodIn wsX10_lost wsX10_in := goodIn_r _ [13] (by decide +kernel) (by decide +kernel)
set_option maxRecDepth 20000 in
theorem gX10_lost_X10_in : GoodIn wsX10_lost (va_wsS RX10 79 yX10_in wsX10_in) := goodIn_app (goodIn_of _ (by decide +kernel)) ggX10_lost_X10_in
set_option maxRecDepth 20000 in
theorem ggX10_lost_X10_areTold : GoodIn wsX10_lost wsX10_areTold := goodIn_r _ [17, 18, 63, 64, 65, 66, 67, 68, 69, 70, 71, 72, 73, 74, 75, 76, 77, 78, 79, 80, 81, 82, 83, 84, 85, 86, 87, 88, 89, 90] (by decide +kernel) (by decide +kernel)
set_option maxRecDepth 20000 in
theorem gX10_lost_X10_areTold : GoodIn wsX10_lost (wsV RX10 205 RX10 yX10_areTold wsX10_areTold) := goodIn_app (goodIn_of _ (by decide +kernel)) ggX10_lost_X10_areTold
set_option maxRecDepth 20000 in
theorem ggX10_lost_X10_all : GoodIn wsX10_lost wsX10_all := goodIn_r _ [22, 23, 63, 64, 65, 66, 67, 68, 69, 70, 71, 72, 73, 74, 75, 76, 77, 78, 79, 80, 81, 82, 83, 84, 85, 86, 87, 88, 89, 90] (by decide +kernel) (by decide +kernel)
set_option maxRecDepth 20000 in
theorem gX10_lost_X10_all : GoodIn wsX10_lost (wsV RX10 155 RX10 yX10_all wsX10_all) := goodIn_app (goodIn_of _ (by decide +kernel)) ggX10_lost_X10_all
set_option maxRecDepth 20000 in
theorem ggX10_lost_X10_findToward : GoodIn wsX10_lost wsX10_findToward := goodIn_r _ [27, 5, 19, 20, 21, 8, 22, 23, 28, 29, 30, 31, 32, 33, 34, 35, 36, 37, 38, 39, 40, 41, 42, 43, 44, 45, 46, 47, 48, 49, 50, 51, 52, 53, 54, 55, 63, 64, 65, 66, 67, 68, 69, 70, 71, 72, 73, 74, 75, 76, 77, 78, 79, 80, 81, 82, 83, 84, 85, 86, 87, 88, 89, 90] (by decide +kernel) (by decide +kernel)
set_option maxRecDepth 20000 in
theorem gX10_lost_X10_findToward : GoodIn wsX10_lost (wsV RX10 215 RX10 yX10_findToward wsX10_findToward) := goodIn_app (goodIn_of _ (by decide +kernel)) ggX10_lost_X10_findToward
set_option maxRecDepth 20000 in
theorem ggX10_lost_X10_isSite : GoodIn wsX10_lost wsX10_isSite := goodIn_r _ [59, 36, 11, 12, 8, 13, 63, 64, 65, 66, 67, 68, 69, 70, 71, 72, 73, 74, 75, 76, 77, 78, 79, 80, 81, 82, 83, 84, 85, 86, 87, 88, 89, 90] (by decide +kernel) (by decide +kernel)
set_option maxRecDepth 20000 in
theorem gX10_lost_X10_isSite : GoodIn wsX10_lost (wsV RX10 128 RX10 yX10_isSite wsX10_isSite) := goodIn_app (goodIn_of _ (by decide +kernel)) ggX10_lost_X10_isSite
set_option maxRecDepth 20000 in
theorem ggX10_lost_X10_signAt : GoodIn wsX10_lost wsX10_signAt := goodIn_r _ [51, 23, 63, 64, 65, 66, 67, 68, 69, 70, 71, 72, 73, 74, 75, 76, 77, 78, 79, 80, 81, 82, 83, 84, 85, 86, 87, 88, 89, 90] (by decide +kernel) (by decide +kernel)
set_option maxRecDepth 20000 in
theorem gX10_lost_X10_signAt : GoodIn wsX10_lost (wsV RX10 91 RX10 yX10_signAt wsX10_signAt) := goodIn_app (goodIn_of _ (by decide +kernel)) ggX10_lost_X10_signAt
set_option maxRecDepth 20000 in
theorem ggX10_lost_X10_codeOf : GoodIn wsX10_lost wsX10_codeOf := goodIn_r _ [62] (by decide +kernel) (by decide +kernel)
set_option maxRecDepth 20000 in
theorem gX10_lost_X10_codeOf : GoodIn wsX10_lost (va_wsS RX10 134 yX10_codeOf wsX10_codeOf) := goodIn_app (goodIn_of _ (by decide +kernel)) ggX10_lost_X10_codeOf
theorem dX10_lost_0 : decode cX10_lost 0 = .ok (.iload_n 2, 1) := by decide +kernel
theorem dX10_lost_1 : decode cX10_lost 1 = .ok (.invokestatic 137, 3) := by decide +kernel
theorem dX10_lost_4 : decode cX10_lost 4 = .ok (.ifCond .ne 5, 3) := by decide +kernel
theorem dX10_lost_7 : decode cX10_lost 7 = .ok (.iconst (-1), 1) := by decide +kernel
theorem dX10_lost_8 : decode cX10_lost 8 = .ok (.ireturn, 1) := by decide +kernel
theorem dX10_lost_9 : decode cX10_lost 9 = .ok (.iload_n 1, 1) := by decide +kernel
theorem dX10_lost_10 : decode cX10_lost 10 = .ok (.i2l, 1) := by decide +kernel
theorem dX10_lost_11 : decode cX10_lost 11 = .ok (.lconst 1, 1) := by decide +kernel
theorem dX10_lost_12 : decode cX10_lost 12 = .ok (.ldc2_w 203, 3) := by decide +kernel
theorem dX10_lost_15 : decode cX10_lost 15 = .ok (.invokestatic 79, 3) := by decide +kernel
theorem dX10_lost_18 : decode cX10_lost 18 = .ok (.ifCond .ne 6, 3) := by decide +kernel
theorem dX10_lost_21 : decode cX10_lost 21 = .ok (.bipush (-2), 2) := by decide +kernel
theorem dX10_lost_23 : decode cX10_lost 23 = .ok (.ireturn, 1) := by decide +kernel
theorem dX10_lost_24 : decode cX10_lost 24 = .ok (.aload_n 0, 1) := by decide +kernel
theorem dX10_lost_25 : decode cX10_lost 25 = .ok (.iload_n 1, 1) := by decide +kernel
theorem dX10_lost_26 : decode cX10_lost 26 = .ok (.invokevirtual 205, 3) := by decide +kernel
theorem dX10_lost_29 : decode cX10_lost 29 = .ok (.ifCond .ne 6, 3) := by decide +kernel
theorem dX10_lost_32 : decode cX10_lost 32 = .ok (.bipush (-3), 2) := by decide +kernel
theorem dX10_lost_34 : decode cX10_lost 34 = .ok (.ireturn, 1) := by decide +kernel
theorem dX10_lost_35 : decode cX10_lost 35 = .ok (.aload_n 0, 1) := by decide +kernel
theorem dX10_lost_36 : decode cX10_lost 36 = .ok (.invokevirtual 155, 3) := by decide +kernel
theorem dX10_lost_39 : decode cX10_lost 39 = .ok (.istore 4, 2) := by decide +kernel
theorem dX10_lost_41 : decode cX10_lost 41 = .ok (.iconst 0, 1) := by decide +kernel
theorem dX10_lost_42 : decode cX10_lost 42 = .ok (.istore 5, 2) := by decide +kernel
theorem dX10_lost_44 : decode cX10_lost 44 = .ok (.iload 5, 2) := by decide +kernel
theorem dX10_lost_46 : decode cX10_lost 46 = .ok (.iload 4, 2) := by decide +kernel
theorem dX10_lost_48 : decode cX10_lost 48 = .ok (.if_icmp .ge 17, 3) := by decide +kernel
theorem dX10_lost_51 : decode cX10_lost 51 = .ok (.aload_n 0, 1) := by decide +kernel
theorem dX10_lost_52 : decode cX10_lost 52 = .ok (.getfield 46, 3) := by decide +kernel
theorem dX10_lost_55 : decode cX10_lost 55 = .ok (.iload 5, 2) := by decide +kernel
theorem dX10_lost_57 : decode cX10_lost 57 = .ok (.iconst 0, 1) := by decide +kernel
theorem dX10_lost_58 : decode cX10_lost 58 = .ok (.iastore, 1) := by decide +kernel
theorem dX10_lost_59 : decode cX10_lost 59 = .ok (.iinc 5 1, 3) := by decide +kernel
theorem dX10_lost_62 : decode cX10_lost 62 = .ok (.goto (-18), 3) := by decide +kernel
theorem dX10_lost_65 : decode cX10_lost 65 = .ok (.iconst 0, 1) := by decide +kernel
theorem dX10_lost_66 : decode cX10_lost 66 = .ok (.istore 5, 2) := by decide +kernel
theorem dX10_lost_68 : decode cX10_lost 68 = .ok (.iload 5, 2) := by decide +kernel
theorem dX10_lost_70 : decode cX10_lost 70 = .ok (.bipush 6, 2) := by decide +kernel
theorem dX10_lost_72 : decode cX10_lost 72 = .ok (.if_icmp .ge 69, 3) := by decide +kernel
theorem dX10_lost_75 : decode cX10_lost 75 = .ok (.iload_n 1, 1) := by decide +kernel
theorem dX10_lost_76 : decode cX10_lost 76 = .ok (.iload 5, 2) := by decide +kernel
theorem dX10_lost_78 : decode cX10_lost 78 = .ok (.ishr, 1) := by decide +kernel
theorem dX10_lost_79 : decode cX10_lost 79 = .ok (.iconst 1, 1) := by decide +kernel
theorem dX10_lost_80 : decode cX10_lost 80 = .ok (.iand, 1) := by decide +kernel
theorem dX10_lost_81 : decode cX10_lost 81 = .ok (.iconst 1, 1) := by decide +kernel
theorem dX10_lost_82 : decode cX10_lost 82 = .ok (.if_icmp .ne 53, 3) := by decide +kernel
theorem dX10_lost_85 : decode cX10_lost 85 = .ok (.aload_n 0, 1) := by decide +kernel
theorem dX10_lost_86 : decode cX10_lost 86 = .ok (.aload_n 0, 1) := by decide +kernel
theorem dX10_lost_87 : decode cX10_lost 87 = .ok (.getfield 7, 3) := by decide +kernel
theorem dX10_lost_90 : decode cX10_lost 90 = .ok (.iload 5, 2) := by decide +kernel
theorem dX10_lost_92 : decode cX10_lost 92 = .ok (.iaload, 1) := by decide +kernel
theorem dX10_lost_93 : decode cX10_lost 93 = .ok (.aload_n 0, 1) := by decide +kernel
theorem dX10_lost_94 : decode cX10_lost 94 = .ok (.getfield 13, 3) := by decide +kernel
theorem dX10_lost_97 : decode cX10_lost 97 = .ok (.iload_n 2, 1) := by decide +kernel
theorem dX10_lost_98 : decode cX10_lost 98 = .ok (.iaload, 1) := by decide +kernel
theorem dX10_lost_99 : decode cX10_lost 99 = .ok (.invokevirtual 215, 3) := by decide +kernel
theorem dX10_lost_102 : decode cX10_lost 102 = .ok (.iconst 0, 1) := by decide +kernel
theorem dX10_lost_103 : decode cX10_lost 103 = .ok (.istore 6, 2) := by decide +kernel
theorem dX10_lost_105 : decode cX10_lost 105 = .ok (.iload 6, 2) := by decide +kernel
theorem dX10_lost_107 : decode cX10_lost 107 = .ok (.iload 4, 2) := by decide +kernel
theorem dX10_lost_109 : decode cX10_lost 109 = .ok (.if_icmp .ge 26, 3) := by decide +kernel
theorem dX10_lost_112 : decode cX10_lost 112 = .ok (.aload_n 0, 1) := by decide +kernel
theorem dX10_lost_113 : decode cX10_lost 113 = .ok (.getfield 46, 3) := by decide +kernel
theorem dX10_lost_116 : decode cX10_lost 116 = .ok (.iload 6, 2) := by decide +kernel
theorem dX10_lost_118 : decode cX10_lost 118 = .ok (.dup2, 1) := by decide +kernel
theorem dX10_lost_119 : decode cX10_lost 119 = .ok (.iaload, 1) := by decide +kernel
theorem dX10_lost_120 : decode cX10_lost 120 = .ok (.aload_n 0, 1) := by decide +kernel
theorem dX10_lost_121 : decode cX10_lost 121 = .ok (.getfield 49, 3) := by decide +kernel
theorem dX10_lost_124 : decode cX10_lost 124 = .ok (.iload 6, 2) := by decide +kernel
theorem dX10_lost_126 : decode cX10_lost 126 = .ok (.iaload, 1) := by decide +kernel
theorem dX10_lost_127 : decode cX10_lost 127 = .ok (.iadd, 1) := by decide +kernel
theorem dX10_lost_128 : decode cX10_lost 128 = .ok (.iastore, 1) := by decide +kernel
theorem dX10_lost_129 : decode cX10_lost 129 = .ok (.iinc 6 1, 3) := by decide +kernel
theorem dX10_lost_132 : decode cX10_lost 132 = .ok (.goto (-27), 3) := by decide +kernel
theorem dX10_lost_135 : decode cX10_lost 135 = .ok (.iinc 5 1, 3) := by decide +kernel
theorem dX10_lost_138 : decode cX10_lost 138 = .ok (.goto (-70), 3) := by decide +kernel
theorem dX10_lost_141 : decode cX10_lost 141 = .ok (.iconst 0, 1) := by decide +kernel
theorem dX10_lost_142 : decode cX10_lost 142 = .ok (.istore 5, 2) := by decide +kernel
theorem dX10_lost_144 : decode cX10_lost 144 = .ok (.iconst 0, 1) := by decide +kernel
theorem dX10_lost_145 : decode cX10_lost 145 = .ok (.istore 6, 2) := by decide +kernel
theorem dX10_lost_147 : decode cX10_lost 147 = .ok (.iload 6, 2) := by decide +kernel
theorem dX10_lost_149 : decode cX10_lost 149 = .ok (.iload 4, 2) := by decide +kernel
theorem dX10_lost_151 : decode cX10_lost 151 = .ok (.if_icmp .ge 35, 3) := by decide +kernel
theorem dX10_lost_154 : decode cX10_lost 154 = .ok (.aload_n 0, 1) := by decide +kernel
theorem dX10_lost_155 : decode cX10_lost 155 = .ok (.getfield 46, 3) := by decide +kernel
theorem dX10_lost_158 : decode cX10_lost 158 = .ok (.iload 6, 2) := by decide +kernel
theorem dX10_lost_160 : decode cX10_lost 160 = .ok (.iaload, 1) := by decide +kernel
theorem dX10_lost_161 : decode cX10_lost 161 = .ok (.aload_n 0, 1) := by decide +kernel
theorem dX10_lost_162 : decode cX10_lost 162 = .ok (.getfield 46, 3) := by decide +kernel
theorem dX10_lost_165 : decode cX10_lost 165 = .ok (.iload 5, 2) := by decide +kernel
theorem dX10_lost_167 : decode cX10_lost 167 = .ok (.iaload, 1) := by decide +kernel
theorem dX10_lost_168 : decode cX10_lost 168 = .ok (.if_icmp .ge 8, 3) := by decide +kernel
theorem dX10_lost_171 : decode cX10_lost 171 = .ok (.iload 6, 2) := by decide +kernel
theorem dX10_lost_173 : decode cX10_lost 173 = .ok (.goto 5, 3) := by decide +kernel
theorem dX10_lost_176 : decode cX10_lost 176 = .ok (.iload 5, 2) := by decide +kernel
theorem dX10_lost_178 : decode cX10_lost 178 = .ok (.istore 5, 2) := by decide +kernel
theorem dX10_lost_180 : decode cX10_lost 180 = .ok (.iinc 6 1, 3) := by decide +kernel
theorem dX10_lost_183 : decode cX10_lost 183 = .ok (.goto (-36), 3) := by decide +kernel
theorem dX10_lost_186 : decode cX10_lost 186 = .ok (.aload_n 0, 1) := by decide +kernel
theorem dX10_lost_187 : decode cX10_lost 187 = .ok (.getfield 46, 3) := by decide +kernel
theorem dX10_lost_190 : decode cX10_lost 190 = .ok (.iload 5, 2) := by decide +kernel
theorem dX10_lost_192 : decode cX10_lost 192 = .ok (.iaload, 1) := by decide +kernel
theorem dX10_lost_193 : decode cX10_lost 193 = .ok (.sipush 1000, 3) := by decide +kernel
theorem dX10_lost_196 : decode cX10_lost 196 = .ok (.if_icmp .lt 6, 3) := by decide +kernel
theorem dX10_lost_199 : decode cX10_lost 199 = .ok (.bipush (-6), 2) := by decide +kernel
theorem dX10_lost_201 : decode cX10_lost 201 = .ok (.ireturn, 1) := by decide +kernel
theorem dX10_lost_202 : decode cX10_lost 202 = .ok (.iload_n 3, 1) := by decide +kernel
theorem dX10_lost_203 : decode cX10_lost 203 = .ok (.iconst (-1), 1) := by decide +kernel
theorem dX10_lost_204 : decode cX10_lost 204 = .ok (.if_icmp .ne 13, 3) := by decide +kernel
theorem dX10_lost_207 : decode cX10_lost 207 = .ok (.aload_n 0, 1) := by decide +kernel
theorem dX10_lost_208 : decode cX10_lost 208 = .ok (.getfield 46, 3) := by decide +kernel
theorem dX10_lost_211 : decode cX10_lost 211 = .ok (.iload 5, 2) := by decide +kernel
theorem dX10_lost_213 : decode cX10_lost 213 = .ok (.iaload, 1) := by decide +kernel
theorem dX10_lost_214 : decode cX10_lost 214 = .ok (.goto 26, 3) := by decide +kernel
theorem dX10_lost_217 : decode cX10_lost 217 = .ok (.aload_n 0, 1) := by decide +kernel
theorem dX10_lost_218 : decode cX10_lost 218 = .ok (.iload_n 3, 1) := by decide +kernel
theorem dX10_lost_219 : decode cX10_lost 219 = .ok (.invokevirtual 128, 3) := by decide +kernel
theorem dX10_lost_222 : decode cX10_lost 222 = .ok (.ifCond .eq 16, 3) := by decide +kernel
theorem dX10_lost_225 : decode cX10_lost 225 = .ok (.aload_n 0, 1) := by decide +kernel
theorem dX10_lost_226 : decode cX10_lost 226 = .ok (.iload 5, 2) := by decide +kernel
theorem dX10_lost_228 : decode cX10_lost 228 = .ok (.iload_n 3, 1) := by decide +kernel
theorem dX10_lost_229 : decode cX10_lost 229 = .ok (.invokevirtual 91, 3) := by decide +kernel
theorem dX10_lost_232 : decode cX10_lost 232 = .ok (.invokestatic 134, 3) := by decide +kernel
theorem dX10_lost_235 : decode cX10_lost 235 = .ok (.goto 5, 3) := by decide +kernel
theorem dX10_lost_238 : decode cX10_lost 238 = .ok (.bipush (-6), 2) := by decide +kernel
theorem dX10_lost_240 : decode cX10_lost 240 = .ok (.ireturn, 1) := by decide +kernel
set_option maxRecDepth 20000 in
theorem ggX10_isWished_X10_signAt : GoodIn wsX10_isWished wsX10_signAt := goodIn_r _ [7, 8, 17, 18, 19, 20, 21, 22, 23, 24, 25, 26, 27, 28, 29, 30, 31, 32, 33, 34, 35, 36, 37, 38, 39, 40, 41, 42, 43, 44] (by decide +kernel) (by decide +kernel)
set_option maxRecDepth 20000 in
theorem gX10_isWished_X10_signAt : GoodIn wsX10_isWished (wsV RX10 91 RX10 yX10_signAt wsX10_signAt) := goodIn_app (goodIn_of _ (by decide +kernel)) ggX10_isWished_X10_signAt
set_option maxRecDepth 20000 in
theorem ggX10_isWished_X10_signOf : GoodIn wsX10_isWished wsX10_signOf := goodIn_r _ [11, 12, 13, 14, 15, 6, 16] (by decide +kernel) (by decide +kernel)
set_option maxRecDepth 20000 in
theorem gX10_isWished_X10_signOf : GoodIn wsX10_isWished (va_wsS RX10 106 yX10_signOf wsX10_signOf) := goodIn_app (goodIn_of _ (by decide +kernel)) ggX10_isWished_X10_signOf
theorem dX10_isWished_0 : decode cX10_isWished 0 = .ok (.iconst 1, 1) := by decide +kernel
theorem dX10_isWished_1 : decode cX10_isWished 1 = .ok (.istore 4, 2) := by decide +kernel
theorem dX10_isWished_3 : decode cX10_isWished 3 = .ok (.iconst 0, 1) := by decide +kernel
theorem dX10_isWished_4 : decode cX10_isWished 4 = .ok (.istore 5, 2) := by decide +kernel
theorem dX10_isWished_6 : decode cX10_isWished 6 = .ok (.iload 5, 2) := by decide +kernel
theorem dX10_isWished_8 : decode cX10_isWished 8 = .ok (.aload_n 0, 1) := by decide +kernel
theorem dX10_isWished_9 : decode cX10_isWished 9 = .ok (.getfield 67, 3) := by decide +kernel
theorem dX10_isWished_12 : decode cX10_isWished 12 = .ok (.if_icmp .ge 78, 3) := by decide +kernel
theorem dX10_isWished_15 : decode cX10_isWished 15 = .ok (.aload_n 0, 1) := by decide +kernel
theorem dX10_isWished_16 : decode cX10_isWished 16 = .ok (.iload_n 1, 1) := by decide +kernel
theorem dX10_isWished_17 : decode cX10_isWished 17 = .ok (.iload 5, 2) := by decide +kernel
theorem dX10_isWished_19 : decode cX10_isWished 19 = .ok (.invokevirtual 91, 3) := by decide +kernel
theorem dX10_isWished_22 : decode cX10_isWished 22 = .ok (.istore 6, 2) := by decide +kernel
theorem dX10_isWished_24 : decode cX10_isWished 24 = .ok (.iload 4, 2) := by decide +kernel
theorem dX10_isWished_26 : decode cX10_isWished 26 = .ok (.ifCond .eq 55, 3) := by decide +kernel
theorem dX10_isWished_29 : decode cX10_isWished 29 = .ok (.aload_n 0, 1) := by decide +kernel
theorem dX10_isWished_30 : decode cX10_isWished 30 = .ok (.getfield 19, 3) := by decide +kernel
theorem dX10_isWished_33 : decode cX10_isWished 33 = .ok (.iload 5, 2) := by decide +kernel
theorem dX10_isWished_35 : decode cX10_isWished 35 = .ok (.iaload, 1) := by decide +kernel
theorem dX10_isWished_36 : decode cX10_isWished 36 = .ok (.bipush 63, 2) := by decide +kernel
theorem dX10_isWished_38 : decode cX10_isWished 38 = .ok (.if_icmp .eq 18, 3) := by decide +kernel
theorem dX10_isWished_41 : decode cX10_isWished 41 = .ok (.aload_n 0, 1) := by decide +kernel
theorem dX10_isWished_42 : decode cX10_isWished 42 = .ok (.getfield 19, 3) := by decide +kernel
theorem dX10_isWished_45 : decode cX10_isWished 45 = .ok (.iload 5, 2) := by decide +kernel
theorem dX10_isWished_47 : decode cX10_isWished 47 = .ok (.iaload, 1) := by decide +kernel
theorem dX10_isWished_48 : decode cX10_isWished 48 = .ok (.invokestatic 106, 3) := by decide +kernel
theorem dX10_isWished_51 : decode cX10_isWished 51 = .ok (.iload 6, 2) := by decide +kernel
theorem dX10_isWished_53 : decode cX10_isWished 53 = .ok (.if_icmp .ne 28, 3) := by decide +kernel
theorem dX10_isWished_56 : decode cX10_isWished 56 = .ok (.iload_n 3, 1) := by decide +kernel
theorem dX10_isWished_57 : decode cX10_isWished 57 = .ok (.iload 5, 2) := by decide +kernel
theorem dX10_isWished_59 : decode cX10_isWished 59 = .ok (.ishr, 1) := by decide +kernel
theorem dX10_isWished_60 : decode cX10_isWished 60 = .ok (.iconst 1, 1) := by decide +kernel
theorem dX10_isWished_61 : decode cX10_isWished 61 = .ok (.iand, 1) := by decide +kernel
theorem dX10_isWished_62 : decode cX10_isWished 62 = .ok (.ifCond .eq 15, 3) := by decide +kernel
theorem dX10_isWished_65 : decode cX10_isWished 65 = .ok (.iload 6, 2) := by decide +kernel
theorem dX10_isWished_67 : decode cX10_isWished 67 = .ok (.aload_n 0, 1) := by decide +kernel
theorem dX10_isWished_68 : decode cX10_isWished 68 = .ok (.iload_n 2, 1) := by decide +kernel
theorem dX10_isWished_69 : decode cX10_isWished 69 = .ok (.iload 5, 2) := by decide +kernel
theorem dX10_isWished_71 : decode cX10_isWished 71 = .ok (.invokevirtual 91, 3) := by decide +kernel
theorem dX10_isWished_74 : decode cX10_isWished 74 = .ok (.if_icmp .ne 7, 3) := by decide +kernel
theorem dX10_isWished_77 : decode cX10_isWished 77 = .ok (.iconst 1, 1) := by decide +kernel
theorem dX10_isWished_78 : decode cX10_isWished 78 = .ok (.goto 4, 3) := by decide +kernel
theorem dX10_isWished_81 : decode cX10_isWished 81 = .ok (.iconst 0, 1) := by decide +kernel
theorem dX10_isWished_82 : decode cX10_isWished 82 = .ok (.istore 4, 2) := by decide +kernel
theorem dX10_isWished_84 : decode cX10_isWished 84 = .ok (.iinc 5 1, 3) := by decide +kernel
theorem dX10_isWished_87 : decode cX10_isWished 87 = .ok (.goto (-81), 3) := by decide +kernel
theorem dX10_isWished_90 : decode cX10_isWished 90 = .ok (.iload 4, 2) := by decide +kernel
theorem dX10_isWished_92 : decode cX10_isWished 92 = .ok (.ireturn, 1) := by decide +kernel
set_option maxRecDepth 20000 in
theorem ggX10_wished_X10_isMap : GoodIn wsX10_wished wsX10_isMap := goodIn_r _ [10, 11, 12, 13, 9, 14] (by decide +kernel) (by decide +kernel)
set_option maxRecDepth 20000 in
theorem gX10_wished_X10_isMap : GoodIn wsX10_wished (va_wsS RX10 124 yX10_isMap wsX10_isMap) := goodIn_app (goodIn_of _ (by decide +kernel)) ggX10_wished_X10_isMap
set_option maxRecDepth 20000 in
theorem ggX10_wished_X10_isHand : GoodIn wsX10_wished wsX10_isHand := goodIn_r _ [17, 18, 12, 13, 9, 14] (by decide +kernel) (by decide +kernel)
set_option maxRecDepth 20000 in
theorem gX10_wished_X10_isHand : GoodIn wsX10_wished (va_wsS RX10 137 yX10_isHand wsX10_isHand) := goodIn_app (goodIn_of _ (by decide +kernel)) ggX10_wished_X10_isHand
set_option maxRecDepth 20000 in
theorem ggX10_wished_X10_in : GoodIn wsX10_wished wsX10_in := goodIn_r _ [14] (by decide +kernel) (by decide +kernel)
set_option maxRecDepth 20000 in
theorem gX10_wished_X10_in : GoodIn wsX10_wished (va_wsS RX10 79 yX10_in wsX10_in) := goodIn_app (goodIn_of _ (by decide +kernel)) ggX10_wished_X10_in
set_option maxRecDepth 20000 in
theorem ggX10_wished_X10_isTold : GoodIn wsX10_wished wsX10_isTold := goodIn_r _ [22, 23, 77, 78, 79, 80, 81, 82, 83, 84, 85, 86, 87, 88, 89, 90, 91, 92, 93, 94, 95, 96, 97, 98, 99, 100, 101, 102, 103, 104] (by decide +kernel) (by decide +kernel)
set_option maxRecDepth 20000 in
theorem gX10_wished_X10_isTold : GoodIn wsX10_wished (wsV RX10 131 RX10 yX10_isTold wsX10_isTold) := goodIn_app (goodIn_of _ (by decide +kernel)) ggX10_wished_X10_isTold
set_option maxRecDepth 20000 in
theorem ggX10_wished_X10_faultOfMap : GoodIn wsX10_wished wsX10_faultOfMap := goodIn_r _ [27, 28, 29, 1, 30, 31, 9, 32, 33, 34, 12, 13, 14, 77, 78, 79, 80, 81, 82, 83, 84, 85, 86, 87, 88, 89, 90, 91, 92, 93, 94, 95, 96, 97, 98, 99, 100, 101, 102, 103, 104] (by decide +kernel) (by decide +kernel)
set_option maxRecDepth 20000 in
theorem gX10_wished_X10_faultOfMap : GoodIn wsX10_wished (wsV RX10 116 RX10 yX10_faultOfMap wsX10_faultOfMap) := goodIn_app (goodIn_of _ (by decide +kernel)) ggX10_wished_X10_faultOfMap
set_option maxRecDepth 20000 in
theorem ggX10_wished_X10_goFrom : GoodIn wsX10_wished wsX10_goFrom := goodIn_r _ [38, 6, 5, 4, 39, 40, 41, 42, 43, 9, 44, 45, 46, 47, 48, 49, 1, 50, 51, 52, 53, 54, 55, 56, 57, 58, 59, 60, 61, 62, 63, 64, 65, 66, 67, 68, 77, 78, 79, 80, 81, 82, 83, 84, 85, 86, 87, 88, 89, 90, 91, 92, 93, 94, 95, 96, 97, 98, 99, 100, 101, 102, 103, 104] (by decide +kernel) (by decide +kernel)
set_option maxRecDepth 20000 in
theorem gX10_wished_X10_goFrom : GoodIn wsX10_wished (wsV RX10 171 RX10 yX10_goFrom wsX10_goFrom) := goodIn_app (goodIn_of _ (by decide +kernel)) ggX10_wished_X10_goFrom
set_option maxRecDepth 20000 in
theorem ggX10_wished_X10_isWished : GoodIn wsX10_wished wsX10_isWished := goodIn_r _ [72, 1, 29, 61, 62, 63, 9, 64, 45, 30, 31, 32, 33, 34, 12, 13, 14, 77, 78, 79, 80, 81, 82, 83, 84, 85, 86, 87, 88, 89, 90, 91, 92, 93, 94, 95, 96, 97, 98, 99, 100, 101, 102, 103, 104] (by decide +kernel) (by decide +kernel)
set_option maxRecDepth 20000 in
theorem gX10_wished_X10_isWished : GoodIn wsX10_wished (wsV RX10 218 RX10 yX10_isWished wsX10_isWished) := goodIn_app (goodIn_of _ (by decide +kernel)) ggX10_wished_X10_isWished
set_option maxRecDepth 20000 in
theorem ggX10_wished_X10_slipTo : GoodIn wsX10_wished wsX10_slipTo := goodIn_r _ [76, 6, 40, 39, 12, 13, 9, 14, 77, 78, 79, 80, 81, 82, 83, 84, 85, 86, 87, 88, 89, 90, 91, 92, 93, 94, 95, 96, 97, 98, 99, 100, 101, 102, 103, 104] (by decide +kernel) (by decide +kernel)
set_option maxRecDepth 20000 in
theorem gX10_wished_X10_slipTo : GoodIn wsX10_wished (wsV RX10 178 RX10 yX10_slipTo wsX10_slipTo) := goodIn_app (goodIn_of _ (by decide +kernel)) ggX10_wished_X10_slipTo
theorem dX10_wished_0 : decode cX10_wished 0 = .ok (.iload_n 1, 1) := by decide +kernel
theorem dX10_wished_1 : decode cX10_wished 1 = .ok (.invokestatic 124, 3) := by decide +kernel
theorem dX10_wished_4 : decode cX10_wished 4 = .ok (.ifCond .eq 10, 3) := by decide +kernel
theorem dX10_wished_7 : decode cX10_wished 7 = .ok (.iload_n 2, 1) := by decide +kernel
theorem dX10_wished_8 : decode cX10_wished 8 = .ok (.invokestatic 137, 3) := by decide +kernel
theorem dX10_wished_11 : decode cX10_wished 11 = .ok (.ifCond .ne 5, 3) := by decide +kernel
theorem dX10_wished_14 : decode cX10_wished 14 = .ok (.iconst (-1), 1) := by decide +kernel
theorem dX10_wished_15 : decode cX10_wished 15 = .ok (.ireturn, 1) := by decide +kernel
theorem dX10_wished_16 : decode cX10_wished 16 = .ok (.iload_n 3, 1) := by decide +kernel
theorem dX10_wished_17 : decode cX10_wished 17 = .ok (.i2l, 1) := by decide +kernel
theorem dX10_wished_18 : decode cX10_wished 18 = .ok (.lconst 0, 1) := by decide +kernel
theorem dX10_wished_19 : decode cX10_wished 19 = .ok (.iconst 1, 1) := by decide +kernel
theorem dX10_wished_20 : decode cX10_wished 20 = .ok (.aload_n 0, 1) := by decide +kernel
theorem dX10_wished_21 : decode cX10_wished 21 = .ok (.getfield 67, 3) := by decide +kernel
theorem dX10_wished_24 : decode cX10_wished 24 = .ok (.ishl, 1) := by decide +kernel
theorem dX10_wished_25 : decode cX10_wished 25 = .ok (.iconst 1, 1) := by decide +kernel
theorem dX10_wished_26 : decode cX10_wished 26 = .ok (.isub, 1) := by decide +kernel
theorem dX10_wished_27 : decode cX10_wished 27 = .ok (.i2l, 1) := by decide +kernel
theorem dX10_wished_28 : decode cX10_wished 28 = .ok (.invokestatic 79, 3) := by decide +kernel
theorem dX10_wished_31 : decode cX10_wished 31 = .ok (.ifCond .ne 6, 3) := by decide +kernel
theorem dX10_wished_34 : decode cX10_wished 34 = .ok (.bipush (-2), 2) := by decide +kernel
theorem dX10_wished_36 : decode cX10_wished 36 = .ok (.ireturn, 1) := by decide +kernel
theorem dX10_wished_37 : decode cX10_wished 37 = .ok (.aload_n 0, 1) := by decide +kernel
theorem dX10_wished_38 : decode cX10_wished 38 = .ok (.iload_n 1, 1) := by decide +kernel
theorem dX10_wished_39 : decode cX10_wished 39 = .ok (.invokevirtual 131, 3) := by decide +kernel
theorem dX10_wished_42 : decode cX10_wished 42 = .ok (.ifCond .ne 6, 3) := by decide +kernel
theorem dX10_wished_45 : decode cX10_wished 45 = .ok (.bipush (-3), 2) := by decide +kernel
theorem dX10_wished_47 : decode cX10_wished 47 = .ok (.ireturn, 1) := by decide +kernel
theorem dX10_wished_48 : decode cX10_wished 48 = .ok (.aload_n 0, 1) := by decide +kernel
theorem dX10_wished_49 : decode cX10_wished 49 = .ok (.iconst 1, 1) := by decide +kernel
theorem dX10_wished_50 : decode cX10_wished 50 = .ok (.invokevirtual 116, 3) := by decide +kernel
theorem dX10_wished_53 : decode cX10_wished 53 = .ok (.ifCond .lt 6, 3) := by decide +kernel
theorem dX10_wished_56 : decode cX10_wished 56 = .ok (.bipush (-5), 2) := by decide +kernel
theorem dX10_wished_58 : decode cX10_wished 58 = .ok (.ireturn, 1) := by decide +kernel
theorem dX10_wished_59 : decode cX10_wished 59 = .ok (.aload_n 0, 1) := by decide +kernel
theorem dX10_wished_60 : decode cX10_wished 60 = .ok (.aload_n 0, 1) := by decide +kernel
theorem dX10_wished_61 : decode cX10_wished 61 = .ok (.getfield 7, 3) := by decide +kernel
theorem dX10_wished_64 : decode cX10_wished 64 = .ok (.iload_n 1, 1) := by decide +kernel
theorem dX10_wished_65 : decode cX10_wished 65 = .ok (.iaload, 1) := by decide +kernel
theorem dX10_wished_66 : decode cX10_wished 66 = .ok (.aload_n 0, 1) := by decide +kernel
theorem dX10_wished_67 : decode cX10_wished 67 = .ok (.getfield 13, 3) := by decide +kernel
theorem dX10_wished_70 : decode cX10_wished 70 = .ok (.iload_n 2, 1) := by decide +kernel
theorem dX10_wished_71 : decode cX10_wished 71 = .ok (.iaload, 1) := by decide +kernel
theorem dX10_wished_72 : decode cX10_wished 72 = .ok (.invokevirtual 171, 3) := by decide +kernel
theorem dX10_wished_75 : decode cX10_wished 75 = .ok (.iconst 0, 1) := by decide +kernel
theorem dX10_wished_76 : decode cX10_wished 76 = .ok (.istore 5, 2) := by decide +kernel
theorem dX10_wished_78 : decode cX10_wished 78 = .ok (.iload 5, 2) := by decide +kernel
theorem dX10_wished_80 : decode cX10_wished 80 = .ok (.aload_n 0, 1) := by decide +kernel
theorem dX10_wished_81 : decode cX10_wished 81 = .ok (.getfield 158, 3) := by decide +kernel
theorem dX10_wished_84 : decode cX10_wished 84 = .ok (.if_icmp .ge 65, 3) := by decide +kernel
theorem dX10_wished_87 : decode cX10_wished 87 = .ok (.aload_n 0, 1) := by decide +kernel
theorem dX10_wished_88 : decode cX10_wished 88 = .ok (.aload_n 0, 1) := by decide +kernel
theorem dX10_wished_89 : decode cX10_wished 89 = .ok (.getfield 25, 3) := by decide +kernel
theorem dX10_wished_92 : decode cX10_wished 92 = .ok (.iload 5, 2) := by decide +kernel
theorem dX10_wished_94 : decode cX10_wished 94 = .ok (.iaload, 1) := by decide +kernel
theorem dX10_wished_95 : decode cX10_wished 95 = .ok (.aload_n 0, 1) := by decide +kernel
theorem dX10_wished_96 : decode cX10_wished 96 = .ok (.getfield 7, 3) := by decide +kernel
theorem dX10_wished_99 : decode cX10_wished 99 = .ok (.iload_n 1, 1) := by decide +kernel
theorem dX10_wished_100 : decode cX10_wished 100 = .ok (.iaload, 1) := by decide +kernel
theorem dX10_wished_101 : decode cX10_wished 101 = .ok (.iload_n 3, 1) := by decide +kernel
theorem dX10_wished_102 : decode cX10_wished 102 = .ok (.invokevirtual 218, 3) := by decide +kernel
theorem dX10_wished_105 : decode cX10_wished 105 = .ok (.ifCond .eq 38, 3) := by decide +kernel
theorem dX10_wished_108 : decode cX10_wished 108 = .ok (.iload 4, 2) := by decide +kernel
theorem dX10_wished_110 : decode cX10_wished 110 = .ok (.iconst (-1), 1) := by decide +kernel
theorem dX10_wished_111 : decode cX10_wished 111 = .ok (.if_icmp .ne 18, 3) := by decide +kernel
theorem dX10_wished_114 : decode cX10_wished 114 = .ok (.aload_n 0, 1) := by decide +kernel
theorem dX10_wished_115 : decode cX10_wished 115 = .ok (.getfield 28, 3) := by decide +kernel
theorem dX10_wished_118 : decode cX10_wished 118 = .ok (.aload_n 0, 1) := by decide +kernel
theorem dX10_wished_119 : decode cX10_wished 119 = .ok (.getfield 25, 3) := by decide +kernel
theorem dX10_wished_122 : decode cX10_wished 122 = .ok (.iload 5, 2) := by decide +kernel
theorem dX10_wished_124 : decode cX10_wished 124 = .ok (.iaload, 1) := by decide +kernel
theorem dX10_wished_125 : decode cX10_wished 125 = .ok (.iaload, 1) := by decide +kernel
theorem dX10_wished_126 : decode cX10_wished 126 = .ok (.goto 16, 3) := by decide +kernel
theorem dX10_wished_129 : decode cX10_wished 129 = .ok (.aload_n 0, 1) := by decide +kernel
theorem dX10_wished_130 : decode cX10_wished 130 = .ok (.aload_n 0, 1) := by decide +kernel
theorem dX10_wished_131 : decode cX10_wished 131 = .ok (.getfield 25, 3) := by decide +kernel
theorem dX10_wished_134 : decode cX10_wished 134 = .ok (.iload 5, 2) := by decide +kernel
theorem dX10_wished_136 : decode cX10_wished 136 = .ok (.iaload, 1) := by decide +kernel
theorem dX10_wished_137 : decode cX10_wished 137 = .ok (.iload 4, 2) := by decide +kernel
theorem dX10_wished_139 : decode cX10_wished 139 = .ok (.invokevirtual 178, 3) := by decide +kernel
theorem dX10_wished_142 : decode cX10_wished 142 = .ok (.ireturn, 1) := by decide +kernel
theorem dX10_wished_143 : decode cX10_wished 143 = .ok (.iinc 5 1, 3) := by decide +kernel
theorem dX10_wished_146 : decode cX10_wished 146 = .ok (.goto (-68), 3) := by decide +kernel
theorem dX10_wished_149 : decode cX10_wished 149 = .ok (.bipush (-6), 2) := by decide +kernel
theorem dX10_wished_151 : decode cX10_wished 151 = .ok (.ireturn, 1) := by decide +kernel
set_option maxRecDepth 20000 in
theorem ggX10_mostAt_X10_signAt : GoodIn wsX10_mostAt wsX10_signAt := goodIn_r _ [6, 7, 8, 9, 10, 11, 12, 13, 14, 15, 16, 17, 18, 19, 20, 21, 22, 23, 24, 25, 26, 27, 28, 29, 30, 31, 32, 33, 34, 35] (by decide +kernel) (by decide +kernel)
set_option maxRecDepth 20000 in
theorem gX10_mostAt_X10_signAt : GoodIn wsX10_mostAt (wsV RX10 91 RX10 yX10_signAt wsX10_signAt) := goodIn_app (goodIn_of _ (by decide +kernel)) ggX10_mostAt_X10_signAt
theorem dX10_mostAt_0 : decode cX10_mostAt 0 = .ok (.iconst 0, 1) := by decide +kernel
theorem dX10_mostAt_1 : decode cX10_mostAt 1 = .ok (.istore_n 3, 1) := by decide +kernel
theorem dX10_mostAt_2 : decode cX10_mostAt 2 = .ok (.iconst 0, 1) := by decide +kernel
theorem dX10_mostAt_3 : decode cX10_mostAt 3 = .ok (.istore 4, 2) := by decide +kernel
theorem dX10_mostAt_5 : decode cX10_mostAt 5 = .ok (.iconst 0, 1) := by decide +kernel
theorem dX10_mostAt_6 : decode cX10_mostAt 6 = .ok (.istore 5, 2) := by decide +kernel
theorem dX10_mostAt_8 : decode cX10_mostAt 8 = .ok (.iload 5, 2) := by decide +kernel
theorem dX10_mostAt_10 : decode cX10_mostAt 10 = .ok (.iconst 5, 1) := by decide +kernel
theorem dX10_mostAt_11 : decode cX10_mostAt 11 = .ok (.if_icmp .ge 95, 3) := by decide +kernel
theorem dX10_mostAt_14 : decode cX10_mostAt 14 = .ok (.iconst 0, 1) := by decide +kernel
theorem dX10_mostAt_15 : decode cX10_mostAt 15 = .ok (.istore 6, 2) := by decide +kernel
theorem dX10_mostAt_17 : decode cX10_mostAt 17 = .ok (.iconst 0, 1) := by decide +kernel
theorem dX10_mostAt_18 : decode cX10_mostAt 18 = .ok (.istore 7, 2) := by decide +kernel
theorem dX10_mostAt_20 : decode cX10_mostAt 20 = .ok (.iload 7, 2) := by decide +kernel
theorem dX10_mostAt_22 : decode cX10_mostAt 22 = .ok (.bipush 6, 2) := by decide +kernel
theorem dX10_mostAt_24 : decode cX10_mostAt 24 = .ok (.if_icmp .ge 46, 3) := by decide +kernel
theorem dX10_mostAt_27 : decode cX10_mostAt 27 = .ok (.iload 6, 2) := by decide +kernel
theorem dX10_mostAt_29 : decode cX10_mostAt 29 = .ok (.iload_n 1, 1) := by decide +kernel
theorem dX10_mostAt_30 : decode cX10_mostAt 30 = .ok (.iload 7, 2) := by decide +kernel
theorem dX10_mostAt_32 : decode cX10_mostAt 32 = .ok (.ishr, 1) := by decide +kernel
theorem dX10_mostAt_33 : decode cX10_mostAt 33 = .ok (.iconst 1, 1) := by decide +kernel
theorem dX10_mostAt_34 : decode cX10_mostAt 34 = .ok (.iand, 1) := by decide +kernel
theorem dX10_mostAt_35 : decode cX10_mostAt 35 = .ok (.iconst 1, 1) := by decide +kernel
theorem dX10_mostAt_36 : decode cX10_mostAt 36 = .ok (.if_icmp .ne 24, 3) := by decide +kernel
theorem dX10_mostAt_39 : decode cX10_mostAt 39 = .ok (.aload_n 0, 1) := by decide +kernel
theorem dX10_mostAt_40 : decode cX10_mostAt 40 = .ok (.aload_n 0, 1) := by decide +kernel
theorem dX10_mostAt_41 : decode cX10_mostAt 41 = .ok (.getfield 7, 3) := by decide +kernel
theorem dX10_mostAt_44 : decode cX10_mostAt 44 = .ok (.iload 7, 2) := by decide +kernel
theorem dX10_mostAt_46 : decode cX10_mostAt 46 = .ok (.iaload, 1) := by decide +kernel
theorem dX10_mostAt_47 : decode cX10_mostAt 47 = .ok (.iload_n 2, 1) := by decide +kernel
theorem dX10_mostAt_48 : decode cX10_mostAt 48 = .ok (.invokevirtual 91, 3) := by decide +kernel
theorem dX10_mostAt_51 : decode cX10_mostAt 51 = .ok (.iload 5, 2) := by decide +kernel
theorem dX10_mostAt_53 : decode cX10_mostAt 53 = .ok (.if_icmp .ne 7, 3) := by decide +kernel
theorem dX10_mostAt_56 : decode cX10_mostAt 56 = .ok (.iconst 1, 1) := by decide +kernel
theorem dX10_mostAt_57 : decode cX10_mostAt 57 = .ok (.goto 4, 3) := by decide +kernel
theorem dX10_mostAt_60 : decode cX10_mostAt 60 = .ok (.iconst 0, 1) := by decide +kernel
theorem dX10_mostAt_61 : decode cX10_mostAt 61 = .ok (.iadd, 1) := by decide +kernel
theorem dX10_mostAt_62 : decode cX10_mostAt 62 = .ok (.istore 6, 2) := by decide +kernel
theorem dX10_mostAt_64 : decode cX10_mostAt 64 = .ok (.iinc 7 1, 3) := by decide +kernel
theorem dX10_mostAt_67 : decode cX10_mostAt 67 = .ok (.goto (-47), 3) := by decide +kernel
theorem dX10_mostAt_70 : decode cX10_mostAt 70 = .ok (.iload 6, 2) := by decide +kernel
theorem dX10_mostAt_72 : decode cX10_mostAt 72 = .ok (.iload 4, 2) := by decide +kernel
theorem dX10_mostAt_74 : decode cX10_mostAt 74 = .ok (.if_icmp .le 8, 3) := by decide +kernel
theorem dX10_mostAt_77 : decode cX10_mostAt 77 = .ok (.iload 5, 2) := by decide +kernel
theorem dX10_mostAt_79 : decode cX10_mostAt 79 = .ok (.goto 4, 3) := by decide +kernel
theorem dX10_mostAt_82 : decode cX10_mostAt 82 = .ok (.iload_n 3, 1) := by decide +kernel
theorem dX10_mostAt_83 : decode cX10_mostAt 83 = .ok (.istore_n 3, 1) := by decide +kernel
theorem dX10_mostAt_84 : decode cX10_mostAt 84 = .ok (.iload 6, 2) := by decide +kernel
theorem dX10_mostAt_86 : decode cX10_mostAt 86 = .ok (.iload 4, 2) := by decide +kernel
theorem dX10_mostAt_88 : decode cX10_mostAt 88 = .ok (.if_icmp .le 8, 3) := by decide +kernel
theorem dX10_mostAt_91 : decode cX10_mostAt 91 = .ok (.iload 6, 2) := by decide +kernel
theorem dX10_mostAt_93 : decode cX10_mostAt 93 = .ok (.goto 5, 3) := by decide +kernel
theorem dX10_mostAt_96 : decode cX10_mostAt 96 = .ok (.iload 4, 2) := by decide +kernel
theorem dX10_mostAt_98 : decode cX10_mostAt 98 = .ok (.istore 4, 2) := by decide +kernel
theorem dX10_mostAt_100 : decode cX10_mostAt 100 = .ok (.iinc 5 1, 3) := by decide +kernel
theorem dX10_mostAt_103 : decode cX10_mostAt 103 = .ok (.goto (-95), 3) := by decide +kernel
theorem dX10_mostAt_106 : decode cX10_mostAt 106 = .ok (.iload_n 3, 1) := by decide +kernel
theorem dX10_mostAt_107 : decode cX10_mostAt 107 = .ok (.ireturn, 1) := by decide +kernel
set_option maxRecDepth 20000 in
theorem ggX10_holdsAt_X10_mostAt : GoodIn wsX10_holdsAt wsX10_mostAt := goodIn_r _ [6, 1, 7, 8, 9, 5, 10, 11, 12, 13, 14, 15, 16, 17, 18, 19, 20, 21, 22, 23, 24, 25, 26, 27, 28, 29, 30, 31, 32, 33, 34, 35, 36, 37, 38, 39] (by decide +kernel) (by decide +kernel)
set_option maxRecDepth 20000 in
theorem gX10_holdsAt_X10_mostAt : GoodIn wsX10_holdsAt (wsV RX10 221 RX10 yX10_mostAt wsX10_mostAt) := goodIn_app (goodIn_of _ (by decide +kernel)) ggX10_holdsAt_X10_mostAt
set_option maxRecDepth 20000 in
theorem ggX10_holdsAt_X10_signAt : GoodIn wsX10_holdsAt wsX10_signAt := goodIn_r _ [10, 11, 12, 13, 14, 15, 16, 17, 18, 19, 20, 21, 22, 23, 24, 25, 26, 27, 28, 29, 30, 31, 32, 33, 34, 35, 36, 37, 38, 39] (by decide +kernel) (by decide +kernel)
set_option maxRecDepth 20000 in
theorem gX10_holdsAt_X10_signAt : GoodIn wsX10_holdsAt (wsV RX10 91 RX10 yX10_signAt wsX10_signAt) := goodIn_app (goodIn_of _ (by decide +kernel)) ggX10_holdsAt_X10_signAt
theorem dX10_holdsAt_0 : decode cX10_holdsAt 0 = .ok (.aload_n 0, 1) := by decide +kernel
theorem dX10_holdsAt_1 : decode cX10_holdsAt 1 = .ok (.iload_n 1, 1) := by decide +kernel
theorem dX10_holdsAt_2 : decode cX10_holdsAt 2 = .ok (.iload_n 2, 1) := by decide +kernel
theorem dX10_holdsAt_3 : decode cX10_holdsAt 3 = .ok (.invokevirtual 221, 3) := by decide +kernel
theorem dX10_holdsAt_6 : decode cX10_holdsAt 6 = .ok (.istore_n 3, 1) := by decide +kernel
theorem dX10_holdsAt_7 : decode cX10_holdsAt 7 = .ok (.iconst 1, 1) := by decide +kernel
theorem dX10_holdsAt_8 : decode cX10_holdsAt 8 = .ok (.istore 4, 2) := by decide +kernel
theorem dX10_holdsAt_10 : decode cX10_holdsAt 10 = .ok (.iconst 0, 1) := by decide +kernel
theorem dX10_holdsAt_11 : decode cX10_holdsAt 11 = .ok (.istore 5, 2) := by decide +kernel
theorem dX10_holdsAt_13 : decode cX10_holdsAt 13 = .ok (.iload 5, 2) := by decide +kernel
theorem dX10_holdsAt_15 : decode cX10_holdsAt 15 = .ok (.bipush 6, 2) := by decide +kernel
theorem dX10_holdsAt_17 : decode cX10_holdsAt 17 = .ok (.if_icmp .ge 46, 3) := by decide +kernel
theorem dX10_holdsAt_20 : decode cX10_holdsAt 20 = .ok (.iload 4, 2) := by decide +kernel
theorem dX10_holdsAt_22 : decode cX10_holdsAt 22 = .ok (.ifCond .eq 32, 3) := by decide +kernel
theorem dX10_holdsAt_25 : decode cX10_holdsAt 25 = .ok (.iload_n 1, 1) := by decide +kernel
theorem dX10_holdsAt_26 : decode cX10_holdsAt 26 = .ok (.iload 5, 2) := by decide +kernel
theorem dX10_holdsAt_28 : decode cX10_holdsAt 28 = .ok (.ishr, 1) := by decide +kernel
theorem dX10_holdsAt_29 : decode cX10_holdsAt 29 = .ok (.iconst 1, 1) := by decide +kernel
theorem dX10_holdsAt_30 : decode cX10_holdsAt 30 = .ok (.iand, 1) := by decide +kernel
theorem dX10_holdsAt_31 : decode cX10_holdsAt 31 = .ok (.ifCond .eq 19, 3) := by decide +kernel
theorem dX10_holdsAt_34 : decode cX10_holdsAt 34 = .ok (.aload_n 0, 1) := by decide +kernel
theorem dX10_holdsAt_35 : decode cX10_holdsAt 35 = .ok (.aload_n 0, 1) := by decide +kernel
theorem dX10_holdsAt_36 : decode cX10_holdsAt 36 = .ok (.getfield 7, 3) := by decide +kernel
theorem dX10_holdsAt_39 : decode cX10_holdsAt 39 = .ok (.iload 5, 2) := by decide +kernel
theorem dX10_holdsAt_41 : decode cX10_holdsAt 41 = .ok (.iaload, 1) := by decide +kernel
theorem dX10_holdsAt_42 : decode cX10_holdsAt 42 = .ok (.iload_n 2, 1) := by decide +kernel
theorem dX10_holdsAt_43 : decode cX10_holdsAt 43 = .ok (.invokevirtual 91, 3) := by decide +kernel
theorem dX10_holdsAt_46 : decode cX10_holdsAt 46 = .ok (.iload_n 3, 1) := by decide +kernel
theorem dX10_holdsAt_47 : decode cX10_holdsAt 47 = .ok (.if_icmp .ne 7, 3) := by decide +kernel
theorem dX10_holdsAt_50 : decode cX10_holdsAt 50 = .ok (.iconst 1, 1) := by decide +kernel
theorem dX10_holdsAt_51 : decode cX10_holdsAt 51 = .ok (.goto 4, 3) := by decide +kernel
theorem dX10_holdsAt_54 : decode cX10_holdsAt 54 = .ok (.iconst 0, 1) := by decide +kernel
theorem dX10_holdsAt_55 : decode cX10_holdsAt 55 = .ok (.istore 4, 2) := by decide +kernel
theorem dX10_holdsAt_57 : decode cX10_holdsAt 57 = .ok (.iinc 5 1, 3) := by decide +kernel
theorem dX10_holdsAt_60 : decode cX10_holdsAt 60 = .ok (.goto (-47), 3) := by decide +kernel
theorem dX10_holdsAt_63 : decode cX10_holdsAt 63 = .ok (.iload 4, 2) := by decide +kernel
theorem dX10_holdsAt_65 : decode cX10_holdsAt 65 = .ok (.ireturn, 1) := by decide +kernel
set_option maxRecDepth 20000 in
theorem ggX10_holds_X10_isSite : GoodIn wsX10_holds wsX10_isSite := goodIn_r _ [7, 2, 8, 9, 6, 10, 33, 34, 35, 36, 37, 38, 39, 40, 41, 42, 43, 44, 45, 46, 47, 48, 49, 50, 51, 52, 53, 54, 55, 56, 57, 58, 59, 60] (by decide +kernel) (by decide +kernel)
set_option maxRecDepth 20000 in
theorem gX10_holds_X10_isSite : GoodIn wsX10_holds (wsV RX10 128 RX10 yX10_isSite wsX10_isSite) := goodIn_app (goodIn_of _ (by decide +kernel)) ggX10_holds_X10_isSite
set_option maxRecDepth 20000 in
theorem ggX10_holds_X10_in : GoodIn wsX10_holds wsX10_in := goodIn_r _ [10] (by decide +kernel) (by decide +kernel)
set_option maxRecDepth 20000 in
theorem gX10_holds_X10_in : GoodIn wsX10_holds (va_wsS RX10 79 yX10_in wsX10_in) := goodIn_app (goodIn_of _ (by decide +kernel)) ggX10_holds_X10_in
set_option maxRecDepth 20000 in
theorem ggX10_holds_X10_areTold : GoodIn wsX10_holds wsX10_areTold := goodIn_r _ [14, 15, 33, 34, 35, 36, 37, 38, 39, 40, 41, 42, 43, 44, 45, 46, 47, 48, 49, 50, 51, 52, 53, 54, 55, 56, 57, 58, 59, 60] (by decide +kernel) (by decide +kernel)
set_option maxRecDepth 20000 in
theorem gX10_holds_X10_areTold : GoodIn wsX10_holds (wsV RX10 205 RX10 yX10_areTold wsX10_areTold) := goodIn_app (goodIn_of _ (by decide +kernel)) ggX10_holds_X10_areTold
set_option maxRecDepth 20000 in
theorem ggX10_holds_X10_mostAt : GoodIn wsX10_holds wsX10_mostAt := goodIn_r _ [19, 20, 21, 22, 23, 6, 24, 25, 33, 34, 35, 36, 37, 38, 39, 40, 41, 42, 43, 44, 45, 46, 47, 48, 49, 50, 51, 52, 53, 54, 55, 56, 57, 58, 59, 60] (by decide +kernel) (by decide +kernel)
set_option maxRecDepth 20000 in
theorem gX10_holds_X10_mostAt : GoodIn wsX10_holds (wsV RX10 221 RX10 yX10_mostAt wsX10_mostAt) := goodIn_app (goodIn_of _ (by decide +kernel)) ggX10_holds_X10_mostAt
set_option maxRecDepth 20000 in
theorem ggX10_holds_X10_codeOf : GoodIn wsX10_holds wsX10_codeOf := goodIn_r _ [28] (by decide +kernel) (by decide +kernel)
set_option maxRecDepth 20000 in
theorem gX10_holds_X10_codeOf : GoodIn wsX10_holds (va_wsS RX10 134 yX10_codeOf wsX10_codeOf) := goodIn_app (goodIn_of _ (by decide +kernel)) ggX10_holds_X10_codeOf
set_option maxRecDepth 20000 in
theorem ggX10_holds_X10_holdsAt : GoodIn wsX10_holds wsX10_holdsAt := goodIn_r _ [32, 20, 16, 17, 18, 6, 19, 21, 22, 23, 24, 25, 33, 34, 35, 36, 37, 38, 39, 40, 41, 42, 43, 44, 45, 46, 47, 48, 49, 50, 51, 52, 53, 54, 55, 56, 57, 58, 59, 60] (by decide +kernel) (by decide +kernel)
set_option maxRecDepth 20000 in
theorem gX10_holds_X10_holdsAt : GoodIn wsX10_holds (wsV RX10 224 RX10 yX10_holdsAt wsX10_holdsAt) := goodIn_app (goodIn_of _ (by decide +kernel)) ggX10_holds_X10_holdsAt
theorem dX10_holds_0 : decode cX10_holds 0 = .ok (.iload_n 2, 1) := by decide +kernel
theorem dX10_holds_1 : decode cX10_holds 1 = .ok (.iconst (-1), 1) := by decide +kernel
theorem dX10_holds_2 : decode cX10_holds 2 = .ok (.if_icmp .eq 13, 3) := by decide +kernel
theorem dX10_holds_5 : decode cX10_holds 5 = .ok (.aload_n 0, 1) := by decide +kernel
theorem dX10_holds_6 : decode cX10_holds 6 = .ok (.iload_n 2, 1) := by decide +kernel
theorem dX10_holds_7 : decode cX10_holds 7 = .ok (.invokevirtual 128, 3) := by decide +kernel
theorem dX10_holds_10 : decode cX10_holds 10 = .ok (.ifCond .ne 5, 3) := by decide +kernel
theorem dX10_holds_13 : decode cX10_holds 13 = .ok (.iconst (-1), 1) := by decide +kernel
theorem dX10_holds_14 : decode cX10_holds 14 = .ok (.ireturn, 1) := by decide +kernel
theorem dX10_holds_15 : decode cX10_holds 15 = .ok (.iload_n 1, 1) := by decide +kernel
theorem dX10_holds_16 : decode cX10_holds 16 = .ok (.i2l, 1) := by decide +kernel
theorem dX10_holds_17 : decode cX10_holds 17 = .ok (.lconst 1, 1) := by decide +kernel
theorem dX10_holds_18 : decode cX10_holds 18 = .ok (.ldc2_w 203, 3) := by decide +kernel
theorem dX10_holds_21 : decode cX10_holds 21 = .ok (.invokestatic 79, 3) := by decide +kernel
theorem dX10_holds_24 : decode cX10_holds 24 = .ok (.ifCond .ne 6, 3) := by decide +kernel
theorem dX10_holds_27 : decode cX10_holds 27 = .ok (.bipush (-2), 2) := by decide +kernel
theorem dX10_holds_29 : decode cX10_holds 29 = .ok (.ireturn, 1) := by decide +kernel
theorem dX10_holds_30 : decode cX10_holds 30 = .ok (.aload_n 0, 1) := by decide +kernel
theorem dX10_holds_31 : decode cX10_holds 31 = .ok (.iload_n 1, 1) := by decide +kernel
theorem dX10_holds_32 : decode cX10_holds 32 = .ok (.invokevirtual 205, 3) := by decide +kernel
theorem dX10_holds_35 : decode cX10_holds 35 = .ok (.ifCond .ne 6, 3) := by decide +kernel
theorem dX10_holds_38 : decode cX10_holds 38 = .ok (.bipush (-3), 2) := by decide +kernel
theorem dX10_holds_40 : decode cX10_holds 40 = .ok (.ireturn, 1) := by decide +kernel
theorem dX10_holds_41 : decode cX10_holds 41 = .ok (.iload_n 2, 1) := by decide +kernel
theorem dX10_holds_42 : decode cX10_holds 42 = .ok (.ifCond .lt 13, 3) := by decide +kernel
theorem dX10_holds_45 : decode cX10_holds 45 = .ok (.aload_n 0, 1) := by decide +kernel
theorem dX10_holds_46 : decode cX10_holds 46 = .ok (.iload_n 1, 1) := by decide +kernel
theorem dX10_holds_47 : decode cX10_holds 47 = .ok (.iload_n 2, 1) := by decide +kernel
theorem dX10_holds_48 : decode cX10_holds 48 = .ok (.invokevirtual 221, 3) := by decide +kernel
theorem dX10_holds_51 : decode cX10_holds 51 = .ok (.invokestatic 134, 3) := by decide +kernel
theorem dX10_holds_54 : decode cX10_holds 54 = .ok (.ireturn, 1) := by decide +kernel
theorem dX10_holds_55 : decode cX10_holds 55 = .ok (.iconst 0, 1) := by decide +kernel
theorem dX10_holds_56 : decode cX10_holds 56 = .ok (.istore_n 3, 1) := by decide +kernel
theorem dX10_holds_57 : decode cX10_holds 57 = .ok (.iconst 0, 1) := by decide +kernel
theorem dX10_holds_58 : decode cX10_holds 58 = .ok (.istore 4, 2) := by decide +kernel
theorem dX10_holds_60 : decode cX10_holds 60 = .ok (.iload 4, 2) := by decide +kernel
theorem dX10_holds_62 : decode cX10_holds 62 = .ok (.aload_n 0, 1) := by decide +kernel
theorem dX10_holds_63 : decode cX10_holds 63 = .ok (.getfield 67, 3) := by decide +kernel
theorem dX10_holds_66 : decode cX10_holds 66 = .ok (.if_icmp .ge 30, 3) := by decide +kernel
theorem dX10_holds_69 : decode cX10_holds 69 = .ok (.iload_n 3, 1) := by decide +kernel
theorem dX10_holds_70 : decode cX10_holds 70 = .ok (.aload_n 0, 1) := by decide +kernel
theorem dX10_holds_71 : decode cX10_holds 71 = .ok (.iload_n 1, 1) := by decide +kernel
theorem dX10_holds_72 : decode cX10_holds 72 = .ok (.iload 4, 2) := by decide +kernel
theorem dX10_holds_74 : decode cX10_holds 74 = .ok (.invokevirtual 224, 3) := by decide +kernel
theorem dX10_holds_77 : decode cX10_holds 77 = .ok (.ifCond .eq 10, 3) := by decide +kernel
theorem dX10_holds_80 : decode cX10_holds 80 = .ok (.iconst 1, 1) := by decide +kernel
theorem dX10_holds_81 : decode cX10_holds 81 = .ok (.iload 4, 2) := by decide +kernel
theorem dX10_holds_83 : decode cX10_holds 83 = .ok (.ishl, 1) := by decide +kernel
theorem dX10_holds_84 : decode cX10_holds 84 = .ok (.goto 4, 3) := by decide +kernel
theorem dX10_holds_87 : decode cX10_holds 87 = .ok (.iconst 0, 1) := by decide +kernel
theorem dX10_holds_88 : decode cX10_holds 88 = .ok (.ior, 1) := by decide +kernel
theorem dX10_holds_89 : decode cX10_holds 89 = .ok (.istore_n 3, 1) := by decide +kernel
theorem dX10_holds_90 : decode cX10_holds 90 = .ok (.iinc 4 1, 3) := by decide +kernel
theorem dX10_holds_93 : decode cX10_holds 93 = .ok (.goto (-33), 3) := by decide +kernel
theorem dX10_holds_96 : decode cX10_holds 96 = .ok (.iload_n 3, 1) := by decide +kernel
theorem dX10_holds_97 : decode cX10_holds 97 = .ok (.ireturn, 1) := by decide +kernel
set_option maxRecDepth 20000 in
theorem ggX10_spades_X10_in : GoodIn wsX10_spades wsX10_in := goodIn_r _ [6] (by decide +kernel) (by decide +kernel)
set_option maxRecDepth 20000 in
theorem gX10_spades_X10_in : GoodIn wsX10_spades (va_wsS RX10 79 yX10_in wsX10_in) := goodIn_app (goodIn_of _ (by decide +kernel)) ggX10_spades_X10_in
theorem dX10_spades_0 : decode cX10_spades 0 = .ok (.iload_n 1, 1) := by decide +kernel
theorem dX10_spades_1 : decode cX10_spades 1 = .ok (.i2l, 1) := by decide +kernel
theorem dX10_spades_2 : decode cX10_spades 2 = .ok (.lconst 1, 1) := by decide +kernel
theorem dX10_spades_3 : decode cX10_spades 3 = .ok (.ldc2_w 89, 3) := by decide +kernel
theorem dX10_spades_6 : decode cX10_spades 6 = .ok (.invokestatic 79, 3) := by decide +kernel
theorem dX10_spades_9 : decode cX10_spades 9 = .ok (.ifCond .ne 6, 3) := by decide +kernel
theorem dX10_spades_12 : decode cX10_spades 12 = .ok (.bipush (-2), 2) := by decide +kernel
theorem dX10_spades_14 : decode cX10_spades 14 = .ok (.ireturn, 1) := by decide +kernel
theorem dX10_spades_15 : decode cX10_spades 15 = .ok (.aload_n 0, 1) := by decide +kernel
theorem dX10_spades_16 : decode cX10_spades 16 = .ok (.getfield 59, 3) := by decide +kernel
theorem dX10_spades_19 : decode cX10_spades 19 = .ok (.istore_n 2, 1) := by decide +kernel
theorem dX10_spades_20 : decode cX10_spades 20 = .ok (.aload_n 0, 1) := by decide +kernel
theorem dX10_spades_21 : decode cX10_spades 21 = .ok (.iload_n 1, 1) := by decide +kernel
theorem dX10_spades_22 : decode cX10_spades 22 = .ok (.putfield 59, 3) := by decide +kernel
theorem dX10_spades_25 : decode cX10_spades 25 = .ok (.iload_n 2, 1) := by decide +kernel
theorem dX10_spades_26 : decode cX10_spades 26 = .ok (.ireturn, 1) := by decide +kernel
set_option maxRecDepth 20000 in
theorem ggX10_land_X10_isSite : GoodIn wsX10_land wsX10_isSite := goodIn_r _ [6, 7, 8, 9, 5, 10, 19, 20, 21, 22, 23, 24, 25, 26, 27, 28, 29, 30, 31, 32, 33, 34, 35, 36, 37, 38, 39, 40, 41, 42, 43, 44, 45, 46] (by decide +kernel) (by decide +kernel)
set_option maxRecDepth 20000 in
theorem gX10_land_X10_isSite : GoodIn wsX10_land (wsV RX10 128 RX10 yX10_isSite wsX10_isSite) := goodIn_app (goodIn_of _ (by decide +kernel)) ggX10_land_X10_isSite
set_option maxRecDepth 20000 in
theorem ggX10_land_X10_signAt : GoodIn wsX10_land wsX10_signAt := goodIn_r _ [14, 15, 19, 20, 21, 22, 23, 24, 25, 26, 27, 28, 29, 30, 31, 32, 33, 34, 35, 36, 37, 38, 39, 40, 41, 42, 43, 44, 45, 46] (by decide +kernel) (by decide +kernel)
set_option maxRecDepth 20000 in
theorem gX10_land_X10_signAt : GoodIn wsX10_land (wsV RX10 91 RX10 yX10_signAt wsX10_signAt) := goodIn_app (goodIn_of _ (by decide +kernel)) ggX10_land_X10_signAt
set_option maxRecDepth 20000 in
theorem ggX10_land_X10_codeOf : GoodIn wsX10_land wsX10_codeOf := goodIn_r _ [18] (by decide +kernel) (by decide +kernel)
set_option maxRecDepth 20000 in
theorem gX10_land_X10_codeOf : GoodIn wsX10_land (va_wsS RX10 134 yX10_codeOf wsX10_codeOf) := goodIn_app (goodIn_of _ (by decide +kernel)) ggX10_land_X10_codeOf
theorem dX10_land_0 : decode cX10_land 0 = .ok (.aload_n 0, 1) := by decide +kernel
theorem dX10_land_1 : decode cX10_land 1 = .ok (.iload_n 1, 1) := by decide +kernel
theorem dX10_land_2 : decode cX10_land 2 = .ok (.invokevirtual 128, 3) := by decide +kernel
theorem dX10_land_5 : decode cX10_land 5 = .ok (.ifCond .eq 18, 3) := by decide +kernel
theorem dX10_land_8 : decode cX10_land 8 = .ok (.aload_n 0, 1) := by decide +kernel
theorem dX10_land_9 : decode cX10_land 9 = .ok (.aload_n 0, 1) := by decide +kernel
theorem dX10_land_10 : decode cX10_land 10 = .ok (.getfield 73, 3) := by decide +kernel
theorem dX10_land_13 : decode cX10_land 13 = .ok (.iload_n 1, 1) := by decide +kernel
theorem dX10_land_14 : decode cX10_land 14 = .ok (.invokevirtual 91, 3) := by decide +kernel
theorem dX10_land_17 : decode cX10_land 17 = .ok (.invokestatic 134, 3) := by decide +kernel
theorem dX10_land_20 : decode cX10_land 20 = .ok (.goto 4, 3) := by decide +kernel
theorem dX10_land_23 : decode cX10_land 23 = .ok (.iconst (-1), 1) := by decide +kernel
theorem dX10_land_24 : decode cX10_land 24 = .ok (.ireturn, 1) := by decide +kernel
set_option maxRecDepth 20000 in
theorem ggX10_otherThan_X10_signAt : GoodIn wsX10_otherThan wsX10_signAt := goodIn_r _ [6, 7, 8, 9, 10, 11, 12, 13, 14, 15, 16, 17, 18, 19, 20, 21, 22, 23, 24, 25, 26, 27, 28, 29, 30, 31, 32, 33, 34, 35] (by decide +kernel) (by decide +kernel)
set_option maxRecDepth 20000 in
theorem gX10_otherThan_X10_signAt : GoodIn wsX10_otherThan (wsV RX10 91 RX10 yX10_signAt wsX10_signAt) := goodIn_app (goodIn_of _ (by decide +kernel)) ggX10_otherThan_X10_signAt
theorem dX10_otherThan_0 : decode cX10_otherThan 0 = .ok (.iconst 0, 1) := by decide +kernel
theorem dX10_otherThan_1 : decode cX10_otherThan 1 = .ok (.istore_n 3, 1) := by decide +kernel
theorem dX10_otherThan_2 : decode cX10_otherThan 2 = .ok (.iconst 0, 1) := by decide +kernel
theorem dX10_otherThan_3 : decode cX10_otherThan 3 = .ok (.istore 4, 2) := by decide +kernel
theorem dX10_otherThan_5 : decode cX10_otherThan 5 = .ok (.iload 4, 2) := by decide +kernel
theorem dX10_otherThan_7 : decode cX10_otherThan 7 = .ok (.aload_n 0, 1) := by decide +kernel
theorem dX10_otherThan_8 : decode cX10_otherThan 8 = .ok (.getfield 67, 3) := by decide +kernel
theorem dX10_otherThan_11 : decode cX10_otherThan 11 = .ok (.if_icmp .ge 34, 3) := by decide +kernel
theorem dX10_otherThan_14 : decode cX10_otherThan 14 = .ok (.iload_n 3, 1) := by decide +kernel
theorem dX10_otherThan_15 : decode cX10_otherThan 15 = .ok (.aload_n 0, 1) := by decide +kernel
theorem dX10_otherThan_16 : decode cX10_otherThan 16 = .ok (.iload_n 1, 1) := by decide +kernel
theorem dX10_otherThan_17 : decode cX10_otherThan 17 = .ok (.iload 4, 2) := by decide +kernel
theorem dX10_otherThan_19 : decode cX10_otherThan 19 = .ok (.invokevirtual 91, 3) := by decide +kernel
theorem dX10_otherThan_22 : decode cX10_otherThan 22 = .ok (.aload_n 0, 1) := by decide +kernel
theorem dX10_otherThan_23 : decode cX10_otherThan 23 = .ok (.iload_n 2, 1) := by decide +kernel
theorem dX10_otherThan_24 : decode cX10_otherThan 24 = .ok (.iload 4, 2) := by decide +kernel
theorem dX10_otherThan_26 : decode cX10_otherThan 26 = .ok (.invokevirtual 91, 3) := by decide +kernel
theorem dX10_otherThan_29 : decode cX10_otherThan 29 = .ok (.if_icmp .ne 7, 3) := by decide +kernel
theorem dX10_otherThan_32 : decode cX10_otherThan 32 = .ok (.iconst 0, 1) := by decide +kernel
theorem dX10_otherThan_33 : decode cX10_otherThan 33 = .ok (.goto 4, 3) := by decide +kernel
theorem dX10_otherThan_36 : decode cX10_otherThan 36 = .ok (.iconst 1, 1) := by decide +kernel
theorem dX10_otherThan_37 : decode cX10_otherThan 37 = .ok (.iadd, 1) := by decide +kernel
theorem dX10_otherThan_38 : decode cX10_otherThan 38 = .ok (.istore_n 3, 1) := by decide +kernel
theorem dX10_otherThan_39 : decode cX10_otherThan 39 = .ok (.iinc 4 1, 3) := by decide +kernel
theorem dX10_otherThan_42 : decode cX10_otherThan 42 = .ok (.goto (-37), 3) := by decide +kernel
theorem dX10_otherThan_45 : decode cX10_otherThan 45 = .ok (.iload_n 3, 1) := by decide +kernel
theorem dX10_otherThan_46 : decode cX10_otherThan 46 = .ok (.ireturn, 1) := by decide +kernel
set_option maxRecDepth 20000 in
theorem ggX10_years_X10_isMap : GoodIn wsX10_years wsX10_isMap := goodIn_r _ [7, 8, 9, 10, 6, 11] (by decide +kernel) (by decide +kernel)
set_option maxRecDepth 20000 in
theorem gX10_years_X10_isMap : GoodIn wsX10_years (va_wsS RX10 124 yX10_isMap wsX10_isMap) := goodIn_app (goodIn_of _ (by decide +kernel)) ggX10_years_X10_isMap
set_option maxRecDepth 20000 in
theorem ggX10_years_X10_isTold : GoodIn wsX10_years wsX10_isTold := goodIn_r _ [15, 16, 27, 28, 29, 30, 31, 32, 33, 34, 35, 36, 37, 38, 39, 40, 41, 42, 43, 44, 45, 46, 47, 48, 49, 50, 51, 52, 53, 54] (by decide +kernel) (by decide +kernel)
set_option maxRecDepth 20000 in
theorem gX10_years_X10_isTold : GoodIn wsX10_years (wsV RX10 131 RX10 yX10_isTold wsX10_isTold) := goodIn_app (goodIn_of _ (by decide +kernel)) ggX10_years_X10_isTold
set_option maxRecDepth 20000 in
theorem ggX10_years_X10_otherThan : GoodIn wsX10_years wsX10_otherThan := goodIn_r _ [20, 21, 22, 23, 24, 6, 25, 26, 27, 28, 29, 30, 31, 32, 33, 34, 35, 36, 37, 38, 39, 40, 41, 42, 43, 44, 45, 46, 47, 48, 49, 50, 51, 52, 53, 54] (by decide +kernel) (by decide +kernel)
set_option maxRecDepth 20000 in
theorem gX10_years_X10_otherThan : GoodIn wsX10_years (wsV RX10 227 RX10 yX10_otherThan wsX10_otherThan) := goodIn_app (goodIn_of _ (by decide +kernel)) ggX10_years_X10_otherThan
theorem dX10_years_0 : decode cX10_years 0 = .ok (.iload_n 1, 1) := by decide +kernel
theorem dX10_years_1 : decode cX10_years 1 = .ok (.invokestatic 124, 3) := by decide +kernel
theorem dX10_years_4 : decode cX10_years 4 = .ok (.ifCond .ne 5, 3) := by decide +kernel
theorem dX10_years_7 : decode cX10_years 7 = .ok (.iconst (-1), 1) := by decide +kernel
theorem dX10_years_8 : decode cX10_years 8 = .ok (.ireturn, 1) := by decide +kernel
theorem dX10_years_9 : decode cX10_years 9 = .ok (.aload_n 0, 1) := by decide +kernel
theorem dX10_years_10 : decode cX10_years 10 = .ok (.iload_n 1, 1) := by decide +kernel
theorem dX10_years_11 : decode cX10_years 11 = .ok (.invokevirtual 131, 3) := by decide +kernel
theorem dX10_years_14 : decode cX10_years 14 = .ok (.ifCond .eq 32, 3) := by decide +kernel
theorem dX10_years_17 : decode cX10_years 17 = .ok (.aload_n 0, 1) := by decide +kernel
theorem dX10_years_18 : decode cX10_years 18 = .ok (.aload_n 0, 1) := by decide +kernel
theorem dX10_years_19 : decode cX10_years 19 = .ok (.getfield 73, 3) := by decide +kernel
theorem dX10_years_22 : decode cX10_years 22 = .ok (.aload_n 0, 1) := by decide +kernel
theorem dX10_years_23 : decode cX10_years 23 = .ok (.getfield 7, 3) := by decide +kernel
theorem dX10_years_26 : decode cX10_years 26 = .ok (.iload_n 1, 1) := by decide +kernel
theorem dX10_years_27 : decode cX10_years 27 = .ok (.iaload, 1) := by decide +kernel
theorem dX10_years_28 : decode cX10_years 28 = .ok (.invokevirtual 227, 3) := by decide +kernel
theorem dX10_years_31 : decode cX10_years 31 = .ok (.aload_n 0, 1) := by decide +kernel
theorem dX10_years_32 : decode cX10_years 32 = .ok (.getfield 59, 3) := by decide +kernel
theorem dX10_years_35 : decode cX10_years 35 = .ok (.iadd, 1) := by decide +kernel
theorem dX10_years_36 : decode cX10_years 36 = .ok (.iconst 1, 1) := by decide +kernel
theorem dX10_years_37 : decode cX10_years 37 = .ok (.isub, 1) := by decide +kernel
theorem dX10_years_38 : decode cX10_years 38 = .ok (.aload_n 0, 1) := by decide +kernel
theorem dX10_years_39 : decode cX10_years 39 = .ok (.getfield 59, 3) := by decide +kernel
theorem dX10_years_42 : decode cX10_years 42 = .ok (.idiv, 1) := by decide +kernel
theorem dX10_years_43 : decode cX10_years 43 = .ok (.goto 5, 3) := by decide +kernel
theorem dX10_years_46 : decode cX10_years 46 = .ok (.bipush (-3), 2) := by decide +kernel
theorem dX10_years_48 : decode cX10_years 48 = .ok (.ireturn, 1) := by decide +kernel
set_option maxRecDepth 20000 in
theorem ggX10_follow_X10_isMap : GoodIn wsX10_follow wsX10_isMap := goodIn_r _ [9, 10, 11, 12, 8, 13] (by decide +kernel) (by decide +kernel)
set_option maxRecDepth 20000 in
theorem gX10_follow_X10_isMap : GoodIn wsX10_follow (va_wsS RX10 124 yX10_isMap wsX10_isMap) := goodIn_app (goodIn_of _ (by decide +kernel)) ggX10_follow_X10_isMap
set_option maxRecDepth 20000 in
theorem ggX10_follow_X10_in : GoodIn wsX10_follow wsX10_in := goodIn_r _ [13] (by decide +kernel) (by decide +kernel)
set_option maxRecDepth 20000 in
theorem gX10_follow_X10_in : GoodIn wsX10_follow (va_wsS RX10 79 yX10_in wsX10_in) := goodIn_app (goodIn_of _ (by decide +kernel)) ggX10_follow_X10_in
set_option maxRecDepth 20000 in
theorem ggX10_follow_X10_isTold : GoodIn wsX10_follow wsX10_isTold := goodIn_r _ [17, 18, 32, 33, 34, 35, 36, 37, 38, 39, 40, 41, 42, 43, 44, 45, 46, 47, 48, 49, 50, 51, 52, 53, 54, 55, 56, 57, 58, 59] (by decide +kernel) (by decide +kernel)
set_option maxRecDepth 20000 in
theorem gX10_follow_X10_isTold : GoodIn wsX10_follow (wsV RX10 131 RX10 yX10_isTold wsX10_isTold) := goodIn_app (goodIn_of _ (by decide +kernel)) ggX10_follow_X10_isTold
set_option maxRecDepth 20000 in
theorem ggX10_follow_X10_signAt : GoodIn wsX10_follow wsX10_signAt := goodIn_r _ [22, 23, 32, 33, 34, 35, 36, 37, 38, 39, 40, 41, 42, 43, 44, 45, 46, 47, 48, 49, 50, 51, 52, 53, 54, 55, 56, 57, 58, 59] (by decide +kernel) (by decide +kernel)
set_option maxRecDepth 20000 in
theorem gX10_follow_X10_signAt : GoodIn wsX10_follow (wsV RX10 91 RX10 yX10_signAt wsX10_signAt) := goodIn_app (goodIn_of _ (by decide +kernel)) ggX10_follow_X10_signAt
set_option maxRecDepth 20000 in
theorem ggX10_follow_X10_with : GoodIn wsX10_follow wsX10_with := goodIn_r _ [27, 23, 19, 20, 21, 8, 22, 32, 33, 34, 35, 36, 37, 38, 39, 40, 41, 42, 43, 44, 45, 46, 47, 48, 49, 50, 51, 52, 53, 54, 55, 56, 57, 58, 59] (by decide +kernel) (by decide +kernel)
set_option maxRecDepth 20000 in
theorem gX10_follow_X10_with : GoodIn wsX10_follow (wsV RX10 142 RX10 yX10_with wsX10_with) := goodIn_app (goodIn_of _ (by decide +kernel)) ggX10_follow_X10_with
set_option maxRecDepth 20000 in
theorem ggX10_follow_X10_otherThan : GoodIn wsX10_follow wsX10_otherThan := goodIn_r _ [31, 3, 19, 20, 21, 8, 22, 23, 32, 33, 34, 35, 36, 37, 38, 39, 40, 41, 42, 43, 44, 45, 46, 47, 48, 49, 50, 51, 52, 53, 54, 55, 56, 57, 58, 59] (by decide +kernel) (by decide +kernel)
set_option maxRecDepth 20000 in
theorem gX10_follow_X10_otherThan : GoodIn wsX10_follow (wsV RX10 227 RX10 yX10_otherThan wsX10_otherThan) := goodIn_app (goodIn_of _ (by decide +kernel)) ggX10_follow_X10_otherThan
theorem dX10_follow_0 : decode cX10_follow 0 = .ok (.iload_n 1, 1) := by decide +kernel
theorem dX10_follow_1 : decode cX10_follow 1 = .ok (.invokestatic 124, 3) := by decide +kernel
theorem dX10_follow_4 : decode cX10_follow 4 = .ok (.ifCond .ne 5, 3) := by decide +kernel
theorem dX10_follow_7 : decode cX10_follow 7 = .ok (.iconst (-1), 1) := by decide +kernel
theorem dX10_follow_8 : decode cX10_follow 8 = .ok (.ireturn, 1) := by decide +kernel
theorem dX10_follow_9 : decode cX10_follow 9 = .ok (.iload_n 2, 1) := by decide +kernel
theorem dX10_follow_10 : decode cX10_follow 10 = .ok (.i2l, 1) := by decide +kernel
theorem dX10_follow_11 : decode cX10_follow 11 = .ok (.lconst 0, 1) := by decide +kernel
theorem dX10_follow_12 : decode cX10_follow 12 = .ok (.ldc2_w 183, 3) := by decide +kernel
theorem dX10_follow_15 : decode cX10_follow 15 = .ok (.invokestatic 79, 3) := by decide +kernel
theorem dX10_follow_18 : decode cX10_follow 18 = .ok (.ifCond .ne 6, 3) := by decide +kernel
theorem dX10_follow_21 : decode cX10_follow 21 = .ok (.bipush (-2), 2) := by decide +kernel
theorem dX10_follow_23 : decode cX10_follow 23 = .ok (.ireturn, 1) := by decide +kernel
theorem dX10_follow_24 : decode cX10_follow 24 = .ok (.aload_n 0, 1) := by decide +kernel
theorem dX10_follow_25 : decode cX10_follow 25 = .ok (.iload_n 1, 1) := by decide +kernel
theorem dX10_follow_26 : decode cX10_follow 26 = .ok (.invokevirtual 131, 3) := by decide +kernel
theorem dX10_follow_29 : decode cX10_follow 29 = .ok (.ifCond .ne 6, 3) := by decide +kernel
theorem dX10_follow_32 : decode cX10_follow 32 = .ok (.bipush (-3), 2) := by decide +kernel
theorem dX10_follow_34 : decode cX10_follow 34 = .ok (.ireturn, 1) := by decide +kernel
theorem dX10_follow_35 : decode cX10_follow 35 = .ok (.iload_n 2, 1) := by decide +kernel
theorem dX10_follow_36 : decode cX10_follow 36 = .ok (.aload_n 0, 1) := by decide +kernel
theorem dX10_follow_37 : decode cX10_follow 37 = .ok (.getfield 59, 3) := by decide +kernel
theorem dX10_follow_40 : decode cX10_follow 40 = .ok (.imul, 1) := by decide +kernel
theorem dX10_follow_41 : decode cX10_follow 41 = .ok (.istore_n 3, 1) := by decide +kernel
theorem dX10_follow_42 : decode cX10_follow 42 = .ok (.iconst 0, 1) := by decide +kernel
theorem dX10_follow_43 : decode cX10_follow 43 = .ok (.istore 4, 2) := by decide +kernel
theorem dX10_follow_45 : decode cX10_follow 45 = .ok (.iload 4, 2) := by decide +kernel
theorem dX10_follow_47 : decode cX10_follow 47 = .ok (.aload_n 0, 1) := by decide +kernel
theorem dX10_follow_48 : decode cX10_follow 48 = .ok (.getfield 67, 3) := by decide +kernel
theorem dX10_follow_51 : decode cX10_follow 51 = .ok (.if_icmp .ge 61, 3) := by decide +kernel
theorem dX10_follow_54 : decode cX10_follow 54 = .ok (.aload_n 0, 1) := by decide +kernel
theorem dX10_follow_55 : decode cX10_follow 55 = .ok (.aload_n 0, 1) := by decide +kernel
theorem dX10_follow_56 : decode cX10_follow 56 = .ok (.getfield 7, 3) := by decide +kernel
theorem dX10_follow_59 : decode cX10_follow 59 = .ok (.iload_n 1, 1) := by decide +kernel
theorem dX10_follow_60 : decode cX10_follow 60 = .ok (.iaload, 1) := by decide +kernel
theorem dX10_follow_61 : decode cX10_follow 61 = .ok (.iload 4, 2) := by decide +kernel
theorem dX10_follow_63 : decode cX10_follow 63 = .ok (.invokevirtual 91, 3) := by decide +kernel
theorem dX10_follow_66 : decode cX10_follow 66 = .ok (.istore 5, 2) := by decide +kernel
theorem dX10_follow_68 : decode cX10_follow 68 = .ok (.iload_n 3, 1) := by decide +kernel
theorem dX10_follow_69 : decode cX10_follow 69 = .ok (.ifCond .le 37, 3) := by decide +kernel
theorem dX10_follow_72 : decode cX10_follow 72 = .ok (.aload_n 0, 1) := by decide +kernel
theorem dX10_follow_73 : decode cX10_follow 73 = .ok (.aload_n 0, 1) := by decide +kernel
theorem dX10_follow_74 : decode cX10_follow 74 = .ok (.getfield 73, 3) := by decide +kernel
theorem dX10_follow_77 : decode cX10_follow 77 = .ok (.iload 4, 2) := by decide +kernel
theorem dX10_follow_79 : decode cX10_follow 79 = .ok (.invokevirtual 91, 3) := by decide +kernel
theorem dX10_follow_82 : decode cX10_follow 82 = .ok (.iload 5, 2) := by decide +kernel
theorem dX10_follow_84 : decode cX10_follow 84 = .ok (.if_icmp .eq 22, 3) := by decide +kernel
theorem dX10_follow_87 : decode cX10_follow 87 = .ok (.aload_n 0, 1) := by decide +kernel
theorem dX10_follow_88 : decode cX10_follow 88 = .ok (.aload_n 0, 1) := by decide +kernel
theorem dX10_follow_89 : decode cX10_follow 89 = .ok (.aload_n 0, 1) := by decide +kernel
theorem dX10_follow_90 : decode cX10_follow 90 = .ok (.getfield 73, 3) := by decide +kernel
theorem dX10_follow_93 : decode cX10_follow 93 = .ok (.iload 4, 2) := by decide +kernel
theorem dX10_follow_95 : decode cX10_follow 95 = .ok (.iload 5, 2) := by decide +kernel
theorem dX10_follow_97 : decode cX10_follow 97 = .ok (.invokevirtual 142, 3) := by decide +kernel
theorem dX10_follow_100 : decode cX10_follow 100 = .ok (.putfield 73, 3) := by decide +kernel
theorem dX10_follow_103 : decode cX10_follow 103 = .ok (.iinc 3 (-1), 3) := by decide +kernel
theorem dX10_follow_106 : decode cX10_follow 106 = .ok (.iinc 4 1, 3) := by decide +kernel
theorem dX10_follow_109 : decode cX10_follow 109 = .ok (.goto (-64), 3) := by decide +kernel
theorem dX10_follow_112 : decode cX10_follow 112 = .ok (.aload_n 0, 1) := by decide +kernel
theorem dX10_follow_113 : decode cX10_follow 113 = .ok (.aload_n 0, 1) := by decide +kernel
theorem dX10_follow_114 : decode cX10_follow 114 = .ok (.getfield 73, 3) := by decide +kernel
theorem dX10_follow_117 : decode cX10_follow 117 = .ok (.aload_n 0, 1) := by decide +kernel
theorem dX10_follow_118 : decode cX10_follow 118 = .ok (.getfield 7, 3) := by decide +kernel
theorem dX10_follow_121 : decode cX10_follow 121 = .ok (.iload_n 1, 1) := by decide +kernel
theorem dX10_follow_122 : decode cX10_follow 122 = .ok (.iaload, 1) := by decide +kernel
theorem dX10_follow_123 : decode cX10_follow 123 = .ok (.invokevirtual 227, 3) := by decide +kernel
theorem dX10_follow_126 : decode cX10_follow 126 = .ok (.ireturn, 1) := by decide +kernel
set_option maxRecDepth 20000 in
theorem ggX10_slipsFrom_X10_slipsThere : GoodIn wsX10_slipsFrom wsX10_slipsThere := goodIn_r _ [6, 7, 28, 29, 30, 31, 32, 33, 34, 35, 36, 37, 38, 39, 40, 41, 42, 43, 44, 45, 46, 47, 48, 49, 50, 51, 52, 53, 54, 55] (by decide +kernel) (by decide +kernel)
set_option maxRecDepth 20000 in
theorem gX10_slipsFrom_X10_slipsThere : GoodIn wsX10_slipsFrom (wsV RX10 161 RX10 yX10_slipsThere wsX10_slipsThere) := goodIn_app (goodIn_of _ (by decide +kernel)) ggX10_slipsFrom_X10_slipsThere
set_option maxRecDepth 20000 in
theorem ggX10_slipsFrom_X10_slipAt : GoodIn wsX10_slipsFrom wsX10_slipAt := goodIn_r _ [11, 7, 28, 29, 30, 31, 32, 33, 34, 35, 36, 37, 38, 39, 40, 41, 42, 43, 44, 45, 46, 47, 48, 49, 50, 51, 52, 53, 54, 55] (by decide +kernel) (by decide +kernel)
set_option maxRecDepth 20000 in
theorem gX10_slipsFrom_X10_slipAt : GoodIn wsX10_slipsFrom (wsV RX10 164 RX10 yX10_slipAt wsX10_slipAt) := goodIn_app (goodIn_of _ (by decide +kernel)) ggX10_slipsFrom_X10_slipAt
set_option maxRecDepth 20000 in
theorem ggX10_slipsFrom_X10_makes : GoodIn wsX10_slipsFrom wsX10_makes := goodIn_r _ [14] (by decide +kernel) (by decide +kernel)
set_option maxRecDepth 20000 in
theorem gX10_slipsFrom_X10_makes : GoodIn wsX10_slipsFrom (va_wsS RX10 167 yX10_makes wsX10_makes) := goodIn_app (goodIn_of _ (by decide +kernel)) ggX10_slipsFrom_X10_makes
set_option maxRecDepth 20000 in
theorem ggX10_slipsFrom_X10_slipped : GoodIn wsX10_slipsFrom wsX10_slipped := goodIn_r _ [18, 19, 20, 21, 5, 22, 23, 24, 25, 26, 27, 28, 29, 30, 31, 32, 33, 34, 35, 36, 37, 38, 39, 40, 41, 42, 43, 44, 45, 46, 47, 48, 49, 50, 51, 52, 53, 54, 55] (by decide +kernel) (by decide +kernel)
set_option maxRecDepth 20000 in
theorem gX10_slipsFrom_X10_slipped : GoodIn wsX10_slipsFrom (wsV RX10 152 RX10 yX10_slipped wsX10_slipped) := goodIn_app (goodIn_of _ (by decide +kernel)) ggX10_slipsFrom_X10_slipped
theorem dX10_slipsFrom_0 : decode cX10_slipsFrom 0 = .ok (.iconst 0, 1) := by decide +kernel
theorem dX10_slipsFrom_1 : decode cX10_slipsFrom 1 = .ok (.istore 4, 2) := by decide +kernel
theorem dX10_slipsFrom_3 : decode cX10_slipsFrom 3 = .ok (.aload_n 0, 1) := by decide +kernel
theorem dX10_slipsFrom_4 : decode cX10_slipsFrom 4 = .ok (.invokevirtual 161, 3) := by decide +kernel
theorem dX10_slipsFrom_7 : decode cX10_slipsFrom 7 = .ok (.istore 5, 2) := by decide +kernel
theorem dX10_slipsFrom_9 : decode cX10_slipsFrom 9 = .ok (.iconst 0, 1) := by decide +kernel
theorem dX10_slipsFrom_10 : decode cX10_slipsFrom 10 = .ok (.istore 6, 2) := by decide +kernel
theorem dX10_slipsFrom_12 : decode cX10_slipsFrom 12 = .ok (.iload 6, 2) := by decide +kernel
theorem dX10_slipsFrom_14 : decode cX10_slipsFrom 14 = .ok (.iload 5, 2) := by decide +kernel
theorem dX10_slipsFrom_16 : decode cX10_slipsFrom 16 = .ok (.if_icmp .ge 64, 3) := by decide +kernel
theorem dX10_slipsFrom_19 : decode cX10_slipsFrom 19 = .ok (.aload_n 0, 1) := by decide +kernel
theorem dX10_slipsFrom_20 : decode cX10_slipsFrom 20 = .ok (.iload 6, 2) := by decide +kernel
theorem dX10_slipsFrom_22 : decode cX10_slipsFrom 22 = .ok (.invokevirtual 164, 3) := by decide +kernel
theorem dX10_slipsFrom_25 : decode cX10_slipsFrom 25 = .ok (.istore 7, 2) := by decide +kernel
theorem dX10_slipsFrom_27 : decode cX10_slipsFrom 27 = .ok (.iload_n 2, 1) := by decide +kernel
theorem dX10_slipsFrom_28 : decode cX10_slipsFrom 28 = .ok (.iload 7, 2) := by decide +kernel
theorem dX10_slipsFrom_30 : decode cX10_slipsFrom 30 = .ok (.invokestatic 167, 3) := by decide +kernel
theorem dX10_slipsFrom_33 : decode cX10_slipsFrom 33 = .ok (.ifCond .eq 41, 3) := by decide +kernel
theorem dX10_slipsFrom_36 : decode cX10_slipsFrom 36 = .ok (.aload_n 0, 1) := by decide +kernel
theorem dX10_slipsFrom_37 : decode cX10_slipsFrom 37 = .ok (.iload_n 1, 1) := by decide +kernel
theorem dX10_slipsFrom_38 : decode cX10_slipsFrom 38 = .ok (.iload 7, 2) := by decide +kernel
theorem dX10_slipsFrom_40 : decode cX10_slipsFrom 40 = .ok (.invokevirtual 152, 3) := by decide +kernel
theorem dX10_slipsFrom_43 : decode cX10_slipsFrom 43 = .ok (.iload_n 1, 1) := by decide +kernel
theorem dX10_slipsFrom_44 : decode cX10_slipsFrom 44 = .ok (.if_icmp .eq 30, 3) := by decide +kernel
theorem dX10_slipsFrom_47 : decode cX10_slipsFrom 47 = .ok (.aload_n 0, 1) := by decide +kernel
theorem dX10_slipsFrom_48 : decode cX10_slipsFrom 48 = .ok (.iload 4, 2) := by decide +kernel
theorem dX10_slipsFrom_50 : decode cX10_slipsFrom 50 = .ok (.iload_n 3, 1) := by decide +kernel
theorem dX10_slipsFrom_51 : decode cX10_slipsFrom 51 = .ok (.if_icmp .ne 13, 3) := by decide +kernel
theorem dX10_slipsFrom_54 : decode cX10_slipsFrom 54 = .ok (.aload_n 0, 1) := by decide +kernel
theorem dX10_slipsFrom_55 : decode cX10_slipsFrom 55 = .ok (.iload_n 1, 1) := by decide +kernel
theorem dX10_slipsFrom_56 : decode cX10_slipsFrom 56 = .ok (.iload 7, 2) := by decide +kernel
theorem dX10_slipsFrom_58 : decode cX10_slipsFrom 58 = .ok (.invokevirtual 152, 3) := by decide +kernel
theorem dX10_slipsFrom_61 : decode cX10_slipsFrom 61 = .ok (.goto 7, 3) := by decide +kernel
theorem dX10_slipsFrom_64 : decode cX10_slipsFrom 64 = .ok (.aload_n 0, 1) := by decide +kernel
theorem dX10_slipsFrom_65 : decode cX10_slipsFrom 65 = .ok (.getfield 149, 3) := by decide +kernel
theorem dX10_slipsFrom_68 : decode cX10_slipsFrom 68 = .ok (.putfield 149, 3) := by decide +kernel
theorem dX10_slipsFrom_71 : decode cX10_slipsFrom 71 = .ok (.iinc 4 1, 3) := by decide +kernel
theorem dX10_slipsFrom_74 : decode cX10_slipsFrom 74 = .ok (.iinc 6 1, 3) := by decide +kernel
theorem dX10_slipsFrom_77 : decode cX10_slipsFrom 77 = .ok (.goto (-65), 3) := by decide +kernel
theorem dX10_slipsFrom_80 : decode cX10_slipsFrom 80 = .ok (.iload 4, 2) := by decide +kernel
theorem dX10_slipsFrom_82 : decode cX10_slipsFrom 82 = .ok (.ireturn, 1) := by decide +kernel
set_option maxRecDepth 20000 in
theorem ggX10_drawn_X10_isMap : GoodIn wsX10_drawn wsX10_isMap := goodIn_r _ [12, 13, 14, 15, 11, 16] (by decide +kernel) (by decide +kernel)
set_option maxRecDepth 20000 in
theorem gX10_drawn_X10_isMap : GoodIn wsX10_drawn (va_wsS RX10 124 yX10_isMap wsX10_isMap) := goodIn_app (goodIn_of _ (by decide +kernel)) ggX10_drawn_X10_isMap
set_option maxRecDepth 20000 in
theorem ggX10_drawn_X10_isHand : GoodIn wsX10_drawn wsX10_isHand := goodIn_r _ [19, 20, 14, 15, 11, 16] (by decide +kernel) (by decide +kernel)
set_option maxRecDepth 20000 in
theorem gX10_drawn_X10_isHand : GoodIn wsX10_drawn (va_wsS RX10 137 yX10_isHand wsX10_isHand) := goodIn_app (goodIn_of _ (by decide +kernel)) ggX10_drawn_X10_isHand
set_option maxRecDepth 20000 in
theorem ggX10_drawn_X10_isSite : GoodIn wsX10_drawn wsX10_isSite := goodIn_r _ [24, 25, 14, 15, 11, 16, 66, 67, 68, 69, 70, 71, 72, 73, 74, 75, 76, 77, 78, 79, 80, 81, 82, 83, 84, 85, 86, 87, 88, 89, 90, 91, 92, 93] (by decide +kernel) (by decide +kernel)
set_option maxRecDepth 20000 in
theorem gX10_drawn_X10_isSite : GoodIn wsX10_drawn (wsV RX10 128 RX10 yX10_isSite wsX10_isSite) := goodIn_app (goodIn_of _ (by decide +kernel)) ggX10_drawn_X10_isSite
set_option maxRecDepth 20000 in
theorem ggX10_drawn_X10_in : GoodIn wsX10_drawn wsX10_in := goodIn_r _ [16] (by decide +kernel) (by decide +kernel)
set_option maxRecDepth 20000 in
theorem gX10_drawn_X10_in : GoodIn wsX10_drawn (va_wsS RX10 79 yX10_in wsX10_in) := goodIn_app (goodIn_of _ (by decide +kernel)) ggX10_drawn_X10_in
set_option maxRecDepth 20000 in
theorem ggX10_drawn_X10_isTold : GoodIn wsX10_drawn wsX10_isTold := goodIn_r _ [29, 30, 66, 67, 68, 69, 70, 71, 72, 73, 74, 75, 76, 77, 78, 79, 80, 81, 82, 83, 84, 85, 86, 87, 88, 89, 90, 91, 92, 93] (by decide +kernel) (by decide +kernel)
set_option maxRecDepth 20000 in
theorem gX10_drawn_X10_isTold : GoodIn wsX10_drawn (wsV RX10 131 RX10 yX10_isTold wsX10_isTold) := goodIn_app (goodIn_of _ (by decide +kernel)) ggX10_drawn_X10_isTold
set_option maxRecDepth 20000 in
theorem ggX10_drawn_X10_slipsFrom : GoodIn wsX10_drawn wsX10_slipsFrom := goodIn_r _ [34, 8, 35, 36, 37, 11, 38, 25, 39, 40, 41, 42, 43, 44, 45, 46, 47, 48, 49, 50, 51, 52, 53, 54, 55, 56, 57, 58, 66, 67, 68, 69, 70, 71, 72, 73, 74, 75, 76, 77, 78, 79, 80, 81, 82, 83, 84, 85, 86, 87, 88, 89, 90, 91, 92, 93] (by decide +kernel) (by decide +kernel)
set_option maxRecDepth 20000 in
theorem gX10_drawn_X10_slipsFrom : GoodIn wsX10_drawn (wsV RX10 240 RX10 yX10_slipsFrom wsX10_slipsFrom) := goodIn_app (goodIn_of _ (by decide +kernel)) ggX10_drawn_X10_slipsFrom
set_option maxRecDepth 20000 in
theorem ggX10_drawn_X10_otherThan : GoodIn wsX10_drawn wsX10_otherThan := goodIn_r _ [62, 25, 50, 51, 52, 11, 53, 54, 66, 67, 68, 69, 70, 71, 72, 73, 74, 75, 76, 77, 78, 79, 80, 81, 82, 83, 84, 85, 86, 87, 88, 89, 90, 91, 92, 93] (by decide +kernel) (by decide +kernel)
set_option maxRecDepth 20000 in
theorem gX10_drawn_X10_otherThan : GoodIn wsX10_drawn (wsV RX10 227 RX10 yX10_otherThan wsX10_otherThan) := goodIn_app (goodIn_of _ (by decide +kernel)) ggX10_drawn_X10_otherThan
set_option maxRecDepth 20000 in
theorem ggX10_drawn_X10_signAt : GoodIn wsX10_drawn wsX10_signAt := goodIn_r _ [53, 54, 66, 67, 68, 69, 70, 71, 72, 73, 74, 75, 76, 77, 78, 79, 80, 81, 82, 83, 84, 85, 86, 87, 88, 89, 90, 91, 92, 93] (by decide +kernel) (by decide +kernel)
set_option maxRecDepth 20000 in
theorem gX10_drawn_X10_signAt : GoodIn wsX10_drawn (wsV RX10 91 RX10 yX10_signAt wsX10_signAt) := goodIn_app (goodIn_of _ (by decide +kernel)) ggX10_drawn_X10_signAt
set_option maxRecDepth 20000 in
theorem ggX10_drawn_X10_codeOf : GoodIn wsX10_drawn wsX10_codeOf := goodIn_r _ [65] (by decide +kernel) (by decide +kernel)
set_option maxRecDepth 20000 in
theorem gX10_drawn_X10_codeOf : GoodIn wsX10_drawn (va_wsS RX10 134 yX10_codeOf wsX10_codeOf) := goodIn_app (goodIn_of _ (by decide +kernel)) ggX10_drawn_X10_codeOf
theorem dX10_drawn_0 : decode cX10_drawn 0 = .ok (.iload_n 2, 1) := by decide +kernel
theorem dX10_drawn_1 : decode cX10_drawn 1 = .ok (.invokestatic 124, 3) := by decide +kernel
theorem dX10_drawn_4 : decode cX10_drawn 4 = .ok (.ifCond .eq 25, 3) := by decide +kernel
theorem dX10_drawn_7 : decode cX10_drawn 7 = .ok (.iload_n 3, 1) := by decide +kernel
theorem dX10_drawn_8 : decode cX10_drawn 8 = .ok (.invokestatic 137, 3) := by decide +kernel
theorem dX10_drawn_11 : decode cX10_drawn 11 = .ok (.ifCond .eq 18, 3) := by decide +kernel
theorem dX10_drawn_14 : decode cX10_drawn 14 = .ok (.iload 5, 2) := by decide +kernel
theorem dX10_drawn_16 : decode cX10_drawn 16 = .ok (.iconst (-1), 1) := by decide +kernel
theorem dX10_drawn_17 : decode cX10_drawn 17 = .ok (.if_icmp .eq 14, 3) := by decide +kernel
theorem dX10_drawn_20 : decode cX10_drawn 20 = .ok (.aload_n 0, 1) := by decide +kernel
theorem dX10_drawn_21 : decode cX10_drawn 21 = .ok (.iload 5, 2) := by decide +kernel
theorem dX10_drawn_23 : decode cX10_drawn 23 = .ok (.invokevirtual 128, 3) := by decide +kernel
theorem dX10_drawn_26 : decode cX10_drawn 26 = .ok (.ifCond .ne 5, 3) := by decide +kernel
theorem dX10_drawn_29 : decode cX10_drawn 29 = .ok (.iconst (-1), 1) := by decide +kernel
theorem dX10_drawn_30 : decode cX10_drawn 30 = .ok (.ireturn, 1) := by decide +kernel
theorem dX10_drawn_31 : decode cX10_drawn 31 = .ok (.iload_n 1, 1) := by decide +kernel
theorem dX10_drawn_32 : decode cX10_drawn 32 = .ok (.i2l, 1) := by decide +kernel
theorem dX10_drawn_33 : decode cX10_drawn 33 = .ok (.lconst 0, 1) := by decide +kernel
theorem dX10_drawn_34 : decode cX10_drawn 34 = .ok (.ldc2_w 230, 3) := by decide +kernel
theorem dX10_drawn_37 : decode cX10_drawn 37 = .ok (.invokestatic 79, 3) := by decide +kernel
theorem dX10_drawn_40 : decode cX10_drawn 40 = .ok (.ifCond .eq 16, 3) := by decide +kernel
theorem dX10_drawn_43 : decode cX10_drawn 43 = .ok (.iload 4, 2) := by decide +kernel
theorem dX10_drawn_45 : decode cX10_drawn 45 = .ok (.i2l, 1) := by decide +kernel
theorem dX10_drawn_46 : decode cX10_drawn 46 = .ok (.lconst 0, 1) := by decide +kernel
theorem dX10_drawn_47 : decode cX10_drawn 47 = .ok (.ldc2_w 232, 3) := by decide +kernel
theorem dX10_drawn_50 : decode cX10_drawn 50 = .ok (.invokestatic 79, 3) := by decide +kernel
theorem dX10_drawn_53 : decode cX10_drawn 53 = .ok (.ifCond .ne 6, 3) := by decide +kernel
theorem dX10_drawn_56 : decode cX10_drawn 56 = .ok (.bipush (-2), 2) := by decide +kernel
theorem dX10_drawn_58 : decode cX10_drawn 58 = .ok (.ireturn, 1) := by decide +kernel
theorem dX10_drawn_59 : decode cX10_drawn 59 = .ok (.aload_n 0, 1) := by decide +kernel
theorem dX10_drawn_60 : decode cX10_drawn 60 = .ok (.iload_n 2, 1) := by decide +kernel
theorem dX10_drawn_61 : decode cX10_drawn 61 = .ok (.invokevirtual 131, 3) := by decide +kernel
theorem dX10_drawn_64 : decode cX10_drawn 64 = .ok (.ifCond .ne 6, 3) := by decide +kernel
theorem dX10_drawn_67 : decode cX10_drawn 67 = .ok (.bipush (-3), 2) := by decide +kernel
theorem dX10_drawn_69 : decode cX10_drawn 69 = .ok (.ireturn, 1) := by decide +kernel
theorem dX10_drawn_70 : decode cX10_drawn 70 = .ok (.aload_n 0, 1) := by decide +kernel
theorem dX10_drawn_71 : decode cX10_drawn 71 = .ok (.getfield 7, 3) := by decide +kernel
theorem dX10_drawn_74 : decode cX10_drawn 74 = .ok (.iload_n 2, 1) := by decide +kernel
theorem dX10_drawn_75 : decode cX10_drawn 75 = .ok (.iaload, 1) := by decide +kernel
theorem dX10_drawn_76 : decode cX10_drawn 76 = .ok (.istore 6, 2) := by decide +kernel
theorem dX10_drawn_78 : decode cX10_drawn 78 = .ok (.iload_n 1, 1) := by decide +kernel
theorem dX10_drawn_79 : decode cX10_drawn 79 = .ok (.istore 7, 2) := by decide +kernel
theorem dX10_drawn_81 : decode cX10_drawn 81 = .ok (.iconst 0, 1) := by decide +kernel
theorem dX10_drawn_82 : decode cX10_drawn 82 = .ok (.istore 8, 2) := by decide +kernel
theorem dX10_drawn_84 : decode cX10_drawn 84 = .ok (.iload 8, 2) := by decide +kernel
theorem dX10_drawn_86 : decode cX10_drawn 86 = .ok (.iload 4, 2) := by decide +kernel
theorem dX10_drawn_88 : decode cX10_drawn 88 = .ok (.if_icmp .ge 72, 3) := by decide +kernel
theorem dX10_drawn_91 : decode cX10_drawn 91 = .ok (.ldc2_w 234, 3) := by decide +kernel
theorem dX10_drawn_94 : decode cX10_drawn 94 = .ok (.iload 7, 2) := by decide +kernel
theorem dX10_drawn_96 : decode cX10_drawn 96 = .ok (.i2l, 1) := by decide +kernel
theorem dX10_drawn_97 : decode cX10_drawn 97 = .ok (.lmul, 1) := by decide +kernel
theorem dX10_drawn_98 : decode cX10_drawn 98 = .ok (.ldc2_w 236, 3) := by decide +kernel
theorem dX10_drawn_101 : decode cX10_drawn 101 = .ok (.ladd, 1) := by decide +kernel
theorem dX10_drawn_102 : decode cX10_drawn 102 = .ok (.ldc2_w 238, 3) := by decide +kernel
theorem dX10_drawn_105 : decode cX10_drawn 105 = .ok (.lrem, 1) := by decide +kernel
theorem dX10_drawn_106 : decode cX10_drawn 106 = .ok (.l2i, 1) := by decide +kernel
theorem dX10_drawn_107 : decode cX10_drawn 107 = .ok (.istore 7, 2) := by decide +kernel
theorem dX10_drawn_109 : decode cX10_drawn 109 = .ok (.aload_n 0, 1) := by decide +kernel
theorem dX10_drawn_110 : decode cX10_drawn 110 = .ok (.iload 6, 2) := by decide +kernel
theorem dX10_drawn_112 : decode cX10_drawn 112 = .ok (.aload_n 0, 1) := by decide +kernel
theorem dX10_drawn_113 : decode cX10_drawn 113 = .ok (.getfield 13, 3) := by decide +kernel
theorem dX10_drawn_116 : decode cX10_drawn 116 = .ok (.iload_n 3, 1) := by decide +kernel
theorem dX10_drawn_117 : decode cX10_drawn 117 = .ok (.iaload, 1) := by decide +kernel
theorem dX10_drawn_118 : decode cX10_drawn 118 = .ok (.bipush (-6), 2) := by decide +kernel
theorem dX10_drawn_120 : decode cX10_drawn 120 = .ok (.invokevirtual 240, 3) := by decide +kernel
theorem dX10_drawn_123 : decode cX10_drawn 123 = .ok (.istore 9, 2) := by decide +kernel
theorem dX10_drawn_125 : decode cX10_drawn 125 = .ok (.iload 9, 2) := by decide +kernel
theorem dX10_drawn_127 : decode cX10_drawn 127 = .ok (.ifCond .le 27, 3) := by decide +kernel
theorem dX10_drawn_130 : decode cX10_drawn 130 = .ok (.aload_n 0, 1) := by decide +kernel
theorem dX10_drawn_131 : decode cX10_drawn 131 = .ok (.iload 6, 2) := by decide +kernel
theorem dX10_drawn_133 : decode cX10_drawn 133 = .ok (.aload_n 0, 1) := by decide +kernel
theorem dX10_drawn_134 : decode cX10_drawn 134 = .ok (.getfield 13, 3) := by decide +kernel
theorem dX10_drawn_137 : decode cX10_drawn 137 = .ok (.iload_n 3, 1) := by decide +kernel
theorem dX10_drawn_138 : decode cX10_drawn 138 = .ok (.iaload, 1) := by decide +kernel
theorem dX10_drawn_139 : decode cX10_drawn 139 = .ok (.iload 7, 2) := by decide +kernel
theorem dX10_drawn_141 : decode cX10_drawn 141 = .ok (.iload 9, 2) := by decide +kernel
theorem dX10_drawn_143 : decode cX10_drawn 143 = .ok (.irem, 1) := by decide +kernel
theorem dX10_drawn_144 : decode cX10_drawn 144 = .ok (.invokevirtual 240, 3) := by decide +kernel
theorem dX10_drawn_147 : decode cX10_drawn 147 = .ok (.pop, 1) := by decide +kernel
theorem dX10_drawn_148 : decode cX10_drawn 148 = .ok (.aload_n 0, 1) := by decide +kernel
theorem dX10_drawn_149 : decode cX10_drawn 149 = .ok (.getfield 149, 3) := by decide +kernel
theorem dX10_drawn_152 : decode cX10_drawn 152 = .ok (.istore 6, 2) := by decide +kernel
theorem dX10_drawn_154 : decode cX10_drawn 154 = .ok (.iinc 8 1, 3) := by decide +kernel
theorem dX10_drawn_157 : decode cX10_drawn 157 = .ok (.goto (-73), 3) := by decide +kernel
theorem dX10_drawn_160 : decode cX10_drawn 160 = .ok (.iload 5, 2) := by decide +kernel
theorem dX10_drawn_162 : decode cX10_drawn 162 = .ok (.iconst (-1), 1) := by decide +kernel
theorem dX10_drawn_163 : decode cX10_drawn 163 = .ok (.if_icmp .ne 18, 3) := by decide +kernel
theorem dX10_drawn_166 : decode cX10_drawn 166 = .ok (.aload_n 0, 1) := by decide +kernel
theorem dX10_drawn_167 : decode cX10_drawn 167 = .ok (.iload 6, 2) := by decide +kernel
theorem dX10_drawn_169 : decode cX10_drawn 169 = .ok (.aload_n 0, 1) := by decide +kernel
theorem dX10_drawn_170 : decode cX10_drawn 170 = .ok (.getfield 7, 3) := by decide +kernel
theorem dX10_drawn_173 : decode cX10_drawn 173 = .ok (.iload_n 2, 1) := by decide +kernel
theorem dX10_drawn_174 : decode cX10_drawn 174 = .ok (.iaload, 1) := by decide +kernel
theorem dX10_drawn_175 : decode cX10_drawn 175 = .ok (.invokevirtual 227, 3) := by decide +kernel
theorem dX10_drawn_178 : decode cX10_drawn 178 = .ok (.goto 14, 3) := by decide +kernel
theorem dX10_drawn_181 : decode cX10_drawn 181 = .ok (.aload_n 0, 1) := by decide +kernel
theorem dX10_drawn_182 : decode cX10_drawn 182 = .ok (.iload 6, 2) := by decide +kernel
theorem dX10_drawn_184 : decode cX10_drawn 184 = .ok (.iload 5, 2) := by decide +kernel
theorem dX10_drawn_186 : decode cX10_drawn 186 = .ok (.invokevirtual 91, 3) := by decide +kernel
theorem dX10_drawn_189 : decode cX10_drawn 189 = .ok (.invokestatic 134, 3) := by decide +kernel
theorem dX10_drawn_192 : decode cX10_drawn 192 = .ok (.ireturn, 1) := by decide +kernel
theorem dX10_pass_0 : decode cX10_pass 0 = .ok (.aload_n 0, 1) := by decide +kernel
theorem dX10_pass_1 : decode cX10_pass 1 = .ok (.getfield 243, 3) := by decide +kernel
theorem dX10_pass_4 : decode cX10_pass 4 = .ok (.ifCond .eq 7, 3) := by decide +kernel
theorem dX10_pass_7 : decode cX10_pass 7 = .ok (.iload_n 1, 1) := by decide +kernel
theorem dX10_pass_8 : decode cX10_pass 8 = .ok (.goto 12, 3) := by decide +kernel
theorem dX10_pass_11 : decode cX10_pass 11 = .ok (.aload_n 0, 1) := by decide +kernel
theorem dX10_pass_12 : decode cX10_pass 12 = .ok (.getfield 52, 3) := by decide +kernel
theorem dX10_pass_15 : decode cX10_pass 15 = .ok (.aload_n 0, 1) := by decide +kernel
theorem dX10_pass_16 : decode cX10_pass 16 = .ok (.getfield 247, 3) := by decide +kernel
theorem dX10_pass_19 : decode cX10_pass 19 = .ok (.iaload, 1) := by decide +kernel
theorem dX10_pass_20 : decode cX10_pass 20 = .ok (.istore_n 2, 1) := by decide +kernel
theorem dX10_pass_21 : decode cX10_pass 21 = .ok (.aload_n 0, 1) := by decide +kernel
theorem dX10_pass_22 : decode cX10_pass 22 = .ok (.getfield 52, 3) := by decide +kernel
theorem dX10_pass_25 : decode cX10_pass 25 = .ok (.aload_n 0, 1) := by decide +kernel
theorem dX10_pass_26 : decode cX10_pass 26 = .ok (.getfield 247, 3) := by decide +kernel
theorem dX10_pass_29 : decode cX10_pass 29 = .ok (.iload_n 2, 1) := by decide +kernel
theorem dX10_pass_30 : decode cX10_pass 30 = .ok (.iastore, 1) := by decide +kernel
theorem dX10_pass_31 : decode cX10_pass 31 = .ok (.aload_n 0, 1) := by decide +kernel
theorem dX10_pass_32 : decode cX10_pass 32 = .ok (.dup, 1) := by decide +kernel
theorem dX10_pass_33 : decode cX10_pass 33 = .ok (.getfield 247, 3) := by decide +kernel
theorem dX10_pass_36 : decode cX10_pass 36 = .ok (.iconst 1, 1) := by decide +kernel
theorem dX10_pass_37 : decode cX10_pass 37 = .ok (.iadd, 1) := by decide +kernel
theorem dX10_pass_38 : decode cX10_pass 38 = .ok (.putfield 247, 3) := by decide +kernel
theorem dX10_pass_41 : decode cX10_pass 41 = .ok (.iload_n 2, 1) := by decide +kernel
theorem dX10_pass_42 : decode cX10_pass 42 = .ok (.ireturn, 1) := by decide +kernel
set_option maxRecDepth 20000 in
theorem ggX10_passAll_X10_pass : GoodIn wsX10_passAll wsX10_pass := goodIn_r _ [11, 12, 13, 14, 20, 21, 22, 23, 24, 25, 26, 27, 28, 29, 30, 31, 32, 33, 34, 35, 36, 37, 38, 39, 40, 41, 42, 43, 44, 45, 46, 47] (by decide +kernel) (by decide +kernel)
set_option maxRecDepth 20000 in
theorem gX10_passAll_X10_pass : GoodIn wsX10_passAll (wsV RX10 250 RX10 yX10_pass wsX10_pass) := goodIn_app (goodIn_of _ (by decide +kernel)) ggX10_passAll_X10_pass
set_option maxRecDepth 20000 in
theorem ggX10_passAll_X10_findParts : GoodIn wsX10_passAll wsX10_findParts := goodIn_r _ [18, 1, 19, 20, 21, 22, 23, 24, 25, 26, 27, 28, 29, 30, 31, 32, 33, 34, 35, 36, 37, 38, 39, 40, 41, 42, 43, 44, 45, 46, 47] (by decide +kernel) (by decide +kernel)
set_option maxRecDepth 20000 in
theorem gX10_passAll_X10_findParts : GoodIn wsX10_passAll (wsV RX10 76 RX10 yX10_findParts wsX10_findParts) := goodIn_app (goodIn_of _ (by decide +kernel)) ggX10_passAll_X10_findParts
theorem dX10_passAll_0 : decode cX10_passAll 0 = .ok (.aload_n 0, 1) := by decide +kernel
theorem dX10_passAll_1 : decode cX10_passAll 1 = .ok (.aload_n 0, 1) := by decide +kernel
theorem dX10_passAll_2 : decode cX10_passAll 2 = .ok (.aload_n 0, 1) := by decide +kernel
theorem dX10_passAll_3 : decode cX10_passAll 3 = .ok (.getfield 67, 3) := by decide +kernel
theorem dX10_passAll_6 : decode cX10_passAll 6 = .ok (.invokevirtual 250, 3) := by decide +kernel
theorem dX10_passAll_9 : decode cX10_passAll 9 = .ok (.putfield 67, 3) := by decide +kernel
theorem dX10_passAll_12 : decode cX10_passAll 12 = .ok (.aload_n 0, 1) := by decide +kernel
theorem dX10_passAll_13 : decode cX10_passAll 13 = .ok (.aload_n 0, 1) := by decide +kernel
theorem dX10_passAll_14 : decode cX10_passAll 14 = .ok (.aload_n 0, 1) := by decide +kernel
theorem dX10_passAll_15 : decode cX10_passAll 15 = .ok (.getfield 70, 3) := by decide +kernel
theorem dX10_passAll_18 : decode cX10_passAll 18 = .ok (.invokevirtual 250, 3) := by decide +kernel
theorem dX10_passAll_21 : decode cX10_passAll 21 = .ok (.putfield 70, 3) := by decide +kernel
theorem dX10_passAll_24 : decode cX10_passAll 24 = .ok (.aload_n 0, 1) := by decide +kernel
theorem dX10_passAll_25 : decode cX10_passAll 25 = .ok (.aload_n 0, 1) := by decide +kernel
theorem dX10_passAll_26 : decode cX10_passAll 26 = .ok (.aload_n 0, 1) := by decide +kernel
theorem dX10_passAll_27 : decode cX10_passAll 27 = .ok (.getfield 73, 3) := by decide +kernel
theorem dX10_passAll_30 : decode cX10_passAll 30 = .ok (.invokevirtual 250, 3) := by decide +kernel
theorem dX10_passAll_33 : decode cX10_passAll 33 = .ok (.putfield 73, 3) := by decide +kernel
theorem dX10_passAll_36 : decode cX10_passAll 36 = .ok (.aload_n 0, 1) := by decide +kernel
theorem dX10_passAll_37 : decode cX10_passAll 37 = .ok (.aload_n 0, 1) := by decide +kernel
theorem dX10_passAll_38 : decode cX10_passAll 38 = .ok (.aload_n 0, 1) := by decide +kernel
theorem dX10_passAll_39 : decode cX10_passAll 39 = .ok (.getfield 59, 3) := by decide +kernel
theorem dX10_passAll_42 : decode cX10_passAll 42 = .ok (.invokevirtual 250, 3) := by decide +kernel
theorem dX10_passAll_45 : decode cX10_passAll 45 = .ok (.putfield 59, 3) := by decide +kernel
theorem dX10_passAll_48 : decode cX10_passAll 48 = .ok (.iconst 0, 1) := by decide +kernel
theorem dX10_passAll_49 : decode cX10_passAll 49 = .ok (.istore_n 1, 1) := by decide +kernel
theorem dX10_passAll_50 : decode cX10_passAll 50 = .ok (.iload_n 1, 1) := by decide +kernel
theorem dX10_passAll_51 : decode cX10_passAll 51 = .ok (.bipush 6, 2) := by decide +kernel
theorem dX10_passAll_53 : decode cX10_passAll 53 = .ok (.if_icmp .ge 25, 3) := by decide +kernel
theorem dX10_passAll_56 : decode cX10_passAll 56 = .ok (.aload_n 0, 1) := by decide +kernel
theorem dX10_passAll_57 : decode cX10_passAll 57 = .ok (.getfield 7, 3) := by decide +kernel
theorem dX10_passAll_60 : decode cX10_passAll 60 = .ok (.iload_n 1, 1) := by decide +kernel
theorem dX10_passAll_61 : decode cX10_passAll 61 = .ok (.aload_n 0, 1) := by decide +kernel
theorem dX10_passAll_62 : decode cX10_passAll 62 = .ok (.aload_n 0, 1) := by decide +kernel
theorem dX10_passAll_63 : decode cX10_passAll 63 = .ok (.getfield 7, 3) := by decide +kernel
theorem dX10_passAll_66 : decode cX10_passAll 66 = .ok (.iload_n 1, 1) := by decide +kernel
theorem dX10_passAll_67 : decode cX10_passAll 67 = .ok (.iaload, 1) := by decide +kernel
theorem dX10_passAll_68 : decode cX10_passAll 68 = .ok (.invokevirtual 250, 3) := by decide +kernel
theorem dX10_passAll_71 : decode cX10_passAll 71 = .ok (.iastore, 1) := by decide +kernel
theorem dX10_passAll_72 : decode cX10_passAll 72 = .ok (.iinc 1 1, 3) := by decide +kernel
theorem dX10_passAll_75 : decode cX10_passAll 75 = .ok (.goto (-25), 3) := by decide +kernel
theorem dX10_passAll_78 : decode cX10_passAll 78 = .ok (.iconst 0, 1) := by decide +kernel
theorem dX10_passAll_79 : decode cX10_passAll 79 = .ok (.istore_n 1, 1) := by decide +kernel
theorem dX10_passAll_80 : decode cX10_passAll 80 = .ok (.iload_n 1, 1) := by decide +kernel
theorem dX10_passAll_81 : decode cX10_passAll 81 = .ok (.iconst 4, 1) := by decide +kernel
theorem dX10_passAll_82 : decode cX10_passAll 82 = .ok (.if_icmp .ge 25, 3) := by decide +kernel
theorem dX10_passAll_85 : decode cX10_passAll 85 = .ok (.aload_n 0, 1) := by decide +kernel
theorem dX10_passAll_86 : decode cX10_passAll 86 = .ok (.getfield 13, 3) := by decide +kernel
theorem dX10_passAll_89 : decode cX10_passAll 89 = .ok (.iload_n 1, 1) := by decide +kernel
theorem dX10_passAll_90 : decode cX10_passAll 90 = .ok (.aload_n 0, 1) := by decide +kernel
theorem dX10_passAll_91 : decode cX10_passAll 91 = .ok (.aload_n 0, 1) := by decide +kernel
theorem dX10_passAll_92 : decode cX10_passAll 92 = .ok (.getfield 13, 3) := by decide +kernel
theorem dX10_passAll_95 : decode cX10_passAll 95 = .ok (.iload_n 1, 1) := by decide +kernel
theorem dX10_passAll_96 : decode cX10_passAll 96 = .ok (.iaload, 1) := by decide +kernel
theorem dX10_passAll_97 : decode cX10_passAll 97 = .ok (.invokevirtual 250, 3) := by decide +kernel
theorem dX10_passAll_100 : decode cX10_passAll 100 = .ok (.iastore, 1) := by decide +kernel
theorem dX10_passAll_101 : decode cX10_passAll 101 = .ok (.iinc 1 1, 3) := by decide +kernel
theorem dX10_passAll_104 : decode cX10_passAll 104 = .ok (.goto (-24), 3) := by decide +kernel
theorem dX10_passAll_107 : decode cX10_passAll 107 = .ok (.aload_n 0, 1) := by decide +kernel
theorem dX10_passAll_108 : decode cX10_passAll 108 = .ok (.invokevirtual 76, 3) := by decide +kernel
theorem dX10_passAll_111 : decode cX10_passAll 111 = .ok (.return_, 1) := by decide +kernel
set_option maxRecDepth 20000 in
theorem ggX10_image_X10_in : GoodIn wsX10_image wsX10_in := goodIn_r _ [7] (by decide +kernel) (by decide +kernel)
set_option maxRecDepth 20000 in
theorem gX10_image_X10_in : GoodIn wsX10_image (va_wsS RX10 79 yX10_in wsX10_in) := goodIn_app (goodIn_of _ (by decide +kernel)) ggX10_image_X10_in
set_option maxRecDepth 20000 in
theorem ggX10_image_X10_passAll : GoodIn wsX10_image wsX10_passAll := goodIn_r _ [11, 12, 13, 14, 15, 16, 17, 18, 19, 20, 6, 21, 2, 22, 1, 23, 24, 25, 26, 27, 28, 29, 30, 31, 32, 33, 34, 35, 36, 37, 38, 39, 40, 41, 42, 43, 44, 45, 46, 47, 48, 49, 50, 51, 52, 53, 54, 55] (by decide +kernel) (by decide +kernel)
set_option maxRecDepth 20000 in
theorem gX10_image_X10_passAll : GoodIn wsX10_image (wsV RX10 253 RX10 yX10_passAll wsX10_passAll) := goodIn_app (goodIn_of _ (by decide +kernel)) ggX10_image_X10_passAll
theorem dX10_image_0 : decode cX10_image 0 = .ok (.iload_n 1, 1) := by decide +kernel
theorem dX10_image_1 : decode cX10_image 1 = .ok (.i2l, 1) := by decide +kernel
theorem dX10_image_2 : decode cX10_image 2 = .ok (.lconst 0, 1) := by decide +kernel
theorem dX10_image_3 : decode cX10_image 3 = .ok (.lconst 1, 1) := by decide +kernel
theorem dX10_image_4 : decode cX10_image 4 = .ok (.invokestatic 79, 3) := by decide +kernel
theorem dX10_image_7 : decode cX10_image 7 = .ok (.ifCond .ne 6, 3) := by decide +kernel
theorem dX10_image_10 : decode cX10_image 10 = .ok (.bipush (-2), 2) := by decide +kernel
theorem dX10_image_12 : decode cX10_image 12 = .ok (.ireturn, 1) := by decide +kernel
theorem dX10_image_13 : decode cX10_image 13 = .ok (.aload_n 0, 1) := by decide +kernel
theorem dX10_image_14 : decode cX10_image 14 = .ok (.bipush 40, 2) := by decide +kernel
theorem dX10_image_16 : decode cX10_image 16 = .ok (.iload_n 1, 1) := by decide +kernel
theorem dX10_image_17 : decode cX10_image 17 = .ok (.imul, 1) := by decide +kernel
theorem dX10_image_18 : decode cX10_image 18 = .ok (.putfield 247, 3) := by decide +kernel
theorem dX10_image_21 : decode cX10_image 21 = .ok (.aload_n 0, 1) := by decide +kernel
theorem dX10_image_22 : decode cX10_image 22 = .ok (.iconst 1, 1) := by decide +kernel
theorem dX10_image_23 : decode cX10_image 23 = .ok (.putfield 243, 3) := by decide +kernel
theorem dX10_image_26 : decode cX10_image 26 = .ok (.aload_n 0, 1) := by decide +kernel
theorem dX10_image_27 : decode cX10_image 27 = .ok (.invokevirtual 253, 3) := by decide +kernel
theorem dX10_image_30 : decode cX10_image 30 = .ok (.aload_n 0, 1) := by decide +kernel
theorem dX10_image_31 : decode cX10_image 31 = .ok (.getfield 55, 3) := by decide +kernel
theorem dX10_image_34 : decode cX10_image 34 = .ok (.iload_n 1, 1) := by decide +kernel
theorem dX10_image_35 : decode cX10_image 35 = .ok (.iconst 1, 1) := by decide +kernel
theorem dX10_image_36 : decode cX10_image 36 = .ok (.bastore, 1) := by decide +kernel
theorem dX10_image_37 : decode cX10_image 37 = .ok (.iconst 1, 1) := by decide +kernel
theorem dX10_image_38 : decode cX10_image 38 = .ok (.ireturn, 1) := by decide +kernel
set_option maxRecDepth 20000 in
theorem ggX10_restore_X10_in : GoodIn wsX10_restore wsX10_in := goodIn_r _ [7] (by decide +kernel) (by decide +kernel)
set_option maxRecDepth 20000 in
theorem gX10_restore_X10_in : GoodIn wsX10_restore (va_wsS RX10 79 yX10_in wsX10_in) := goodIn_app (goodIn_of _ (by decide +kernel)) ggX10_restore_X10_in
set_option maxRecDepth 20000 in
theorem ggX10_restore_X10_passAll : GoodIn wsX10_restore wsX10_passAll := goodIn_r _ [11, 12, 13, 14, 15, 16, 17, 18, 19, 20, 6, 21, 3, 22, 2, 23, 24, 25, 26, 27, 28, 29, 30, 31, 32, 33, 34, 35, 36, 37, 38, 39, 40, 41, 42, 43, 44, 45, 46, 47, 48, 49, 50, 51, 52, 53, 54, 55] (by decide +kernel) (by decide +kernel)
set_option maxRecDepth 20000 in
theorem gX10_restore_X10_passAll : GoodIn wsX10_restore (wsV RX10 253 RX10 yX10_passAll wsX10_passAll) := goodIn_app (goodIn_of _ (by decide +kernel)) ggX10_restore_X10_passAll
theorem dX10_restore_0 : decode cX10_restore 0 = .ok (.iload_n 1, 1) := by decide +kernel
theorem dX10_restore_1 : decode cX10_restore 1 = .ok (.i2l, 1) := by decide +kernel
theorem dX10_restore_2 : decode cX10_restore 2 = .ok (.lconst 0, 1) := by decide +kernel
theorem dX10_restore_3 : decode cX10_restore 3 = .ok (.lconst 1, 1) := by decide +kernel
theorem dX10_restore_4 : decode cX10_restore 4 = .ok (.invokestatic 79, 3) := by decide +kernel
theorem dX10_restore_7 : decode cX10_restore 7 = .ok (.ifCond .ne 6, 3) := by decide +kernel
theorem dX10_restore_10 : decode cX10_restore 10 = .ok (.bipush (-2), 2) := by decide +kernel
theorem dX10_restore_12 : decode cX10_restore 12 = .ok (.ireturn, 1) := by decide +kernel
theorem dX10_restore_13 : decode cX10_restore 13 = .ok (.aload_n 0, 1) := by decide +kernel
theorem dX10_restore_14 : decode cX10_restore 14 = .ok (.getfield 55, 3) := by decide +kernel
theorem dX10_restore_17 : decode cX10_restore 17 = .ok (.iload_n 1, 1) := by decide +kernel
theorem dX10_restore_18 : decode cX10_restore 18 = .ok (.baload, 1) := by decide +kernel
theorem dX10_restore_19 : decode cX10_restore 19 = .ok (.ifCond .ne 6, 3) := by decide +kernel
theorem dX10_restore_22 : decode cX10_restore 22 = .ok (.bipush (-3), 2) := by decide +kernel
theorem dX10_restore_24 : decode cX10_restore 24 = .ok (.ireturn, 1) := by decide +kernel
theorem dX10_restore_25 : decode cX10_restore 25 = .ok (.aload_n 0, 1) := by decide +kernel
theorem dX10_restore_26 : decode cX10_restore 26 = .ok (.bipush 40, 2) := by decide +kernel
theorem dX10_restore_28 : decode cX10_restore 28 = .ok (.iload_n 1, 1) := by decide +kernel
theorem dX10_restore_29 : decode cX10_restore 29 = .ok (.imul, 1) := by decide +kernel
theorem dX10_restore_30 : decode cX10_restore 30 = .ok (.putfield 247, 3) := by decide +kernel
theorem dX10_restore_33 : decode cX10_restore 33 = .ok (.aload_n 0, 1) := by decide +kernel
theorem dX10_restore_34 : decode cX10_restore 34 = .ok (.iconst 0, 1) := by decide +kernel
theorem dX10_restore_35 : decode cX10_restore 35 = .ok (.putfield 243, 3) := by decide +kernel
theorem dX10_restore_38 : decode cX10_restore 38 = .ok (.aload_n 0, 1) := by decide +kernel
theorem dX10_restore_39 : decode cX10_restore 39 = .ok (.invokevirtual 253, 3) := by decide +kernel
theorem dX10_restore_42 : decode cX10_restore 42 = .ok (.iconst 1, 1) := by decide +kernel
theorem dX10_restore_43 : decode cX10_restore 43 = .ok (.ireturn, 1) := by decide +kernel
set_option maxRecDepth 20000 in
theorem ggX10_told_X10_in : GoodIn wsX10_told wsX10_in := goodIn_r _ [11] (by decide +kernel) (by decide +kernel)
set_option maxRecDepth 20000 in
theorem gX10_told_X10_in : GoodIn wsX10_told (va_wsS RX10 79 yX10_in wsX10_in) := goodIn_app (goodIn_of _ (by decide +kernel)) ggX10_told_X10_in
theorem dX10_told_0 : decode cX10_told 0 = .ok (.iload_n 1, 1) := by decide +kernel
theorem dX10_told_1 : decode cX10_told 1 = .ok (.i2l, 1) := by decide +kernel
theorem dX10_told_2 : decode cX10_told 2 = .ok (.ldc2_w 256, 3) := by decide +kernel
theorem dX10_told_5 : decode cX10_told 5 = .ok (.ldc2_w 258, 3) := by decide +kernel
theorem dX10_told_8 : decode cX10_told 8 = .ok (.invokestatic 79, 3) := by decide +kernel
theorem dX10_told_11 : decode cX10_told 11 = .ok (.ifCond .eq 13, 3) := by decide +kernel
theorem dX10_told_14 : decode cX10_told 14 = .ok (.aload_n 0, 1) := by decide +kernel
theorem dX10_told_15 : decode cX10_told 15 = .ok (.getfield 13, 3) := by decide +kernel
theorem dX10_told_18 : decode cX10_told 18 = .ok (.iload_n 1, 1) := by decide +kernel
theorem dX10_told_19 : decode cX10_told 19 = .ok (.bipush 10, 2) := by decide +kernel
theorem dX10_told_21 : decode cX10_told 21 = .ok (.isub, 1) := by decide +kernel
theorem dX10_told_22 : decode cX10_told 22 = .ok (.iaload, 1) := by decide +kernel
theorem dX10_told_23 : decode cX10_told 23 = .ok (.ireturn, 1) := by decide +kernel
theorem dX10_told_24 : decode cX10_told 24 = .ok (.iload_n 1, 1) := by decide +kernel
theorem dX10_told_25 : decode cX10_told 25 = .ok (.ifCond .ne 10, 3) := by decide +kernel
theorem dX10_told_28 : decode cX10_told 28 = .ok (.aload_n 0, 1) := by decide +kernel
theorem dX10_told_29 : decode cX10_told 29 = .ok (.getfield 103, 3) := by decide +kernel
theorem dX10_told_32 : decode cX10_told 32 = .ok (.goto 41, 3) := by decide +kernel
theorem dX10_told_35 : decode cX10_told 35 = .ok (.iload_n 1, 1) := by decide +kernel
theorem dX10_told_36 : decode cX10_told 36 = .ok (.iconst 1, 1) := by decide +kernel
theorem dX10_told_37 : decode cX10_told 37 = .ok (.if_icmp .ne 10, 3) := by decide +kernel
theorem dX10_told_40 : decode cX10_told 40 = .ok (.aload_n 0, 1) := by decide +kernel
theorem dX10_told_41 : decode cX10_told 41 = .ok (.getfield 67, 3) := by decide +kernel
theorem dX10_told_44 : decode cX10_told 44 = .ok (.goto 29, 3) := by decide +kernel
theorem dX10_told_47 : decode cX10_told 47 = .ok (.iload_n 1, 1) := by decide +kernel
theorem dX10_told_48 : decode cX10_told 48 = .ok (.iconst 2, 1) := by decide +kernel
theorem dX10_told_49 : decode cX10_told 49 = .ok (.if_icmp .ne 10, 3) := by decide +kernel
theorem dX10_told_52 : decode cX10_told 52 = .ok (.aload_n 0, 1) := by decide +kernel
theorem dX10_told_53 : decode cX10_told 53 = .ok (.getfield 70, 3) := by decide +kernel
theorem dX10_told_56 : decode cX10_told 56 = .ok (.goto 17, 3) := by decide +kernel
theorem dX10_told_59 : decode cX10_told 59 = .ok (.iload_n 1, 1) := by decide +kernel
theorem dX10_told_60 : decode cX10_told 60 = .ok (.iconst 3, 1) := by decide +kernel
theorem dX10_told_61 : decode cX10_told 61 = .ok (.if_icmp .ne 10, 3) := by decide +kernel
theorem dX10_told_64 : decode cX10_told 64 = .ok (.aload_n 0, 1) := by decide +kernel
theorem dX10_told_65 : decode cX10_told 65 = .ok (.getfield 59, 3) := by decide +kernel
theorem dX10_told_68 : decode cX10_told 68 = .ok (.goto 5, 3) := by decide +kernel
theorem dX10_told_71 : decode cX10_told 71 = .ok (.bipush (-2), 2) := by decide +kernel
theorem dX10_told_73 : decode cX10_told 73 = .ok (.ireturn, 1) := by decide +kernel
theorem dJ6_bitCount_0f7a4_0 : decode cJ6_bitCount_0f7a4 0 = .ok (.iload_n 0, 1) := by decide +kernel
theorem dJ6_bitCount_0f7a4_1 : decode cJ6_bitCount_0f7a4 1 = .ok (.iload_n 0, 1) := by decide +kernel
theorem dJ6_bitCount_0f7a4_2 : decode cJ6_bitCount_0f7a4 2 = .ok (.iconst 1, 1) := by decide +kernel
theorem dJ6_bitCount_0f7a4_3 : decode cJ6_bitCount_0f7a4 3 = .ok (.iushr, 1) := by decide +kernel
theorem dJ6_bitCount_0f7a4_4 : decode cJ6_bitCount_0f7a4 4 = .ok (.ldc_w 265, 3) := by decide +kernel
theorem dJ6_bitCount_0f7a4_7 : decode cJ6_bitCount_0f7a4 7 = .ok (.iand, 1) := by decide +kernel
theorem dJ6_bitCount_0f7a4_8 : decode cJ6_bitCount_0f7a4 8 = .ok (.isub, 1) := by decide +kernel
theorem dJ6_bitCount_0f7a4_9 : decode cJ6_bitCount_0f7a4 9 = .ok (.istore_n 0, 1) := by decide +kernel
theorem dJ6_bitCount_0f7a4_10 : decode cJ6_bitCount_0f7a4 10 = .ok (.iload_n 0, 1) := by decide +kernel
theorem dJ6_bitCount_0f7a4_11 : decode cJ6_bitCount_0f7a4 11 = .ok (.ldc_w 266, 3) := by decide +kernel
theorem dJ6_bitCount_0f7a4_14 : decode cJ6_bitCount_0f7a4 14 = .ok (.iand, 1) := by decide +kernel
theorem dJ6_bitCount_0f7a4_15 : decode cJ6_bitCount_0f7a4 15 = .ok (.iload_n 0, 1) := by decide +kernel
theorem dJ6_bitCount_0f7a4_16 : decode cJ6_bitCount_0f7a4 16 = .ok (.iconst 2, 1) := by decide +kernel
theorem dJ6_bitCount_0f7a4_17 : decode cJ6_bitCount_0f7a4 17 = .ok (.iushr, 1) := by decide +kernel
theorem dJ6_bitCount_0f7a4_18 : decode cJ6_bitCount_0f7a4 18 = .ok (.ldc_w 266, 3) := by decide +kernel
theorem dJ6_bitCount_0f7a4_21 : decode cJ6_bitCount_0f7a4 21 = .ok (.iand, 1) := by decide +kernel
theorem dJ6_bitCount_0f7a4_22 : decode cJ6_bitCount_0f7a4 22 = .ok (.iadd, 1) := by decide +kernel
theorem dJ6_bitCount_0f7a4_23 : decode cJ6_bitCount_0f7a4 23 = .ok (.istore_n 0, 1) := by decide +kernel
theorem dJ6_bitCount_0f7a4_24 : decode cJ6_bitCount_0f7a4 24 = .ok (.iload_n 0, 1) := by decide +kernel
theorem dJ6_bitCount_0f7a4_25 : decode cJ6_bitCount_0f7a4 25 = .ok (.iload_n 0, 1) := by decide +kernel
theorem dJ6_bitCount_0f7a4_26 : decode cJ6_bitCount_0f7a4 26 = .ok (.iconst 4, 1) := by decide +kernel
theorem dJ6_bitCount_0f7a4_27 : decode cJ6_bitCount_0f7a4 27 = .ok (.iushr, 1) := by decide +kernel
theorem dJ6_bitCount_0f7a4_28 : decode cJ6_bitCount_0f7a4 28 = .ok (.iadd, 1) := by decide +kernel
theorem dJ6_bitCount_0f7a4_29 : decode cJ6_bitCount_0f7a4 29 = .ok (.ldc_w 267, 3) := by decide +kernel
theorem dJ6_bitCount_0f7a4_32 : decode cJ6_bitCount_0f7a4 32 = .ok (.iand, 1) := by decide +kernel
theorem dJ6_bitCount_0f7a4_33 : decode cJ6_bitCount_0f7a4 33 = .ok (.istore_n 0, 1) := by decide +kernel
theorem dJ6_bitCount_0f7a4_34 : decode cJ6_bitCount_0f7a4 34 = .ok (.iload_n 0, 1) := by decide +kernel
theorem dJ6_bitCount_0f7a4_35 : decode cJ6_bitCount_0f7a4 35 = .ok (.iload_n 0, 1) := by decide +kernel
theorem dJ6_bitCount_0f7a4_36 : decode cJ6_bitCount_0f7a4 36 = .ok (.bipush 8, 2) := by decide +kernel
theorem dJ6_bitCount_0f7a4_38 : decode cJ6_bitCount_0f7a4 38 = .ok (.iushr, 1) := by decide +kernel
theorem dJ6_bitCount_0f7a4_39 : decode cJ6_bitCount_0f7a4 39 = .ok (.iadd, 1) := by decide +kernel
theorem dJ6_bitCount_0f7a4_40 : decode cJ6_bitCount_0f7a4 40 = .ok (.istore_n 0, 1) := by decide +kernel
theorem dJ6_bitCount_0f7a4_41 : decode cJ6_bitCount_0f7a4 41 = .ok (.iload_n 0, 1) := by decide +kernel
theorem dJ6_bitCount_0f7a4_42 : decode cJ6_bitCount_0f7a4 42 = .ok (.iload_n 0, 1) := by decide +kernel
theorem dJ6_bitCount_0f7a4_43 : decode cJ6_bitCount_0f7a4 43 = .ok (.bipush 16, 2) := by decide +kernel
theorem dJ6_bitCount_0f7a4_45 : decode cJ6_bitCount_0f7a4 45 = .ok (.iushr, 1) := by decide +kernel
theorem dJ6_bitCount_0f7a4_46 : decode cJ6_bitCount_0f7a4 46 = .ok (.iadd, 1) := by decide +kernel
theorem dJ6_bitCount_0f7a4_47 : decode cJ6_bitCount_0f7a4 47 = .ok (.istore_n 0, 1) := by decide +kernel
theorem dJ6_bitCount_0f7a4_48 : decode cJ6_bitCount_0f7a4 48 = .ok (.iload_n 0, 1) := by decide +kernel
theorem dJ6_bitCount_0f7a4_49 : decode cJ6_bitCount_0f7a4 49 = .ok (.bipush 63, 2) := by decide +kernel
theorem dJ6_bitCount_0f7a4_51 : decode cJ6_bitCount_0f7a4 51 = .ok (.iand, 1) := by decide +kernel
theorem dJ6_bitCount_0f7a4_52 : decode cJ6_bitCount_0f7a4 52 = .ok (.ireturn, 1) := by decide +kernel
theorem dJ9_max_7cf53_0 : decode cJ9_max_7cf53 0 = .ok (.iload_n 0, 1) := by decide +kernel
theorem dJ9_max_7cf53_1 : decode cJ9_max_7cf53 1 = .ok (.iload_n 1, 1) := by decide +kernel
theorem dJ9_max_7cf53_2 : decode cJ9_max_7cf53 2 = .ok (.if_icmp .lt 7, 3) := by decide +kernel
theorem dJ9_max_7cf53_5 : decode cJ9_max_7cf53 5 = .ok (.iload_n 0, 1) := by decide +kernel
theorem dJ9_max_7cf53_6 : decode cJ9_max_7cf53 6 = .ok (.goto 4, 3) := by decide +kernel
theorem dJ9_max_7cf53_9 : decode cJ9_max_7cf53 9 = .ok (.iload_n 1, 1) := by decide +kernel
theorem dJ9_max_7cf53_10 : decode cJ9_max_7cf53 10 = .ok (.ireturn, 1) := by decide +kernel
theorem dJ7_fill_53178_0 : decode cJ7_fill_53178 0 = .ok (.iconst 0, 1) := by decide +kernel
theorem dJ7_fill_53178_1 : decode cJ7_fill_53178 1 = .ok (.istore_n 2, 1) := by decide +kernel
theorem dJ7_fill_53178_2 : decode cJ7_fill_53178 2 = .ok (.aload_n 0, 1) := by decide +kernel
theorem dJ7_fill_53178_3 : decode cJ7_fill_53178 3 = .ok (.arraylength, 1) := by decide +kernel
theorem dJ7_fill_53178_4 : decode cJ7_fill_53178 4 = .ok (.istore_n 3, 1) := by decide +kernel
theorem dJ7_fill_53178_5 : decode cJ7_fill_53178 5 = .ok (.iload_n 2, 1) := by decide +kernel
theorem dJ7_fill_53178_6 : decode cJ7_fill_53178 6 = .ok (.iload_n 3, 1) := by decide +kernel
theorem dJ7_fill_53178_7 : decode cJ7_fill_53178 7 = .ok (.if_icmp .ge 13, 3) := by decide +kernel
theorem dJ7_fill_53178_10 : decode cJ7_fill_53178 10 = .ok (.aload_n 0, 1) := by decide +kernel
theorem dJ7_fill_53178_11 : decode cJ7_fill_53178 11 = .ok (.iload_n 2, 1) := by decide +kernel
theorem dJ7_fill_53178_12 : decode cJ7_fill_53178 12 = .ok (.iload_n 1, 1) := by decide +kernel
theorem dJ7_fill_53178_13 : decode cJ7_fill_53178 13 = .ok (.iastore, 1) := by decide +kernel
theorem dJ7_fill_53178_14 : decode cJ7_fill_53178 14 = .ok (.iinc 2 1, 3) := by decide +kernel
theorem dJ7_fill_53178_17 : decode cJ7_fill_53178 17 = .ok (.goto (-12), 3) := by decide +kernel
theorem dJ7_fill_53178_20 : decode cJ7_fill_53178 20 = .ok (.return_, 1) := by decide +kernel
theorem dJ7_fill_031fb_0 : decode cJ7_fill_031fb 0 = .ok (.iconst 0, 1) := by decide +kernel
theorem dJ7_fill_031fb_1 : decode cJ7_fill_031fb 1 = .ok (.istore_n 2, 1) := by decide +kernel
theorem dJ7_fill_031fb_2 : decode cJ7_fill_031fb 2 = .ok (.aload_n 0, 1) := by decide +kernel
theorem dJ7_fill_031fb_3 : decode cJ7_fill_031fb 3 = .ok (.arraylength, 1) := by decide +kernel
theorem dJ7_fill_031fb_4 : decode cJ7_fill_031fb 4 = .ok (.istore_n 3, 1) := by decide +kernel
theorem dJ7_fill_031fb_5 : decode cJ7_fill_031fb 5 = .ok (.iload_n 2, 1) := by decide +kernel
theorem dJ7_fill_031fb_6 : decode cJ7_fill_031fb 6 = .ok (.iload_n 3, 1) := by decide +kernel
theorem dJ7_fill_031fb_7 : decode cJ7_fill_031fb 7 = .ok (.if_icmp .ge 13, 3) := by decide +kernel
theorem dJ7_fill_031fb_10 : decode cJ7_fill_031fb 10 = .ok (.aload_n 0, 1) := by decide +kernel
theorem dJ7_fill_031fb_11 : decode cJ7_fill_031fb 11 = .ok (.iload_n 2, 1) := by decide +kernel
theorem dJ7_fill_031fb_12 : decode cJ7_fill_031fb 12 = .ok (.iload_n 1, 1) := by decide +kernel
theorem dJ7_fill_031fb_13 : decode cJ7_fill_031fb 13 = .ok (.bastore, 1) := by decide +kernel
theorem dJ7_fill_031fb_14 : decode cJ7_fill_031fb 14 = .ok (.iinc 2 1, 3) := by decide +kernel
theorem dJ7_fill_031fb_17 : decode cJ7_fill_031fb 17 = .ok (.goto (-12), 3) := by decide +kernel
theorem dJ7_fill_031fb_20 : decode cJ7_fill_031fb 20 = .ok (.return_, 1) := by decide +kernel
end
section
/-! the environment that every contract carries: class numbers, array classes, static tables, nest words -/
abbrev Gy : Type := va_G × (ClassId × ClassId × ClassId × ClassId × ClassId)
abbrev gB (G : Gy) : ClassId := G.2.1
abbrev gI (G : Gy) : ClassId := G.2.2.1
abbrev gZ (G : Gy) : ClassId := G.2.2.2.1
abbrev gP (G : Gy) : ClassId := G.2.2.2.2.1
abbrev gT (G : Gy) : ClassId := G.2.2.2.2.2
def gt (G : Gy) : List (ClassId × FieldType) := [(gB G, .byte), (gI G, .int), (gZ G, .boolean), (gP G, .object RX3), (gT G, .object RX7)]
def tW : Nat → Value := fun j => .int (([97, 98, 99, 100, 45, 63] : List Int32).getD j 0)
def tM : Nat → Value := fun j => .int (([3125, 625, 125, 25, 5, 1] : List Int32).getD j 0)
def tO : Nat → Value := fun j => .int (([0, 1, 2, 3, 10, 11, 12, 13, 20, 21, 22, 23, 30, 31, 32, 33, 40, 41, 42, 43, 50, 51, 52, 53, 100, 110, 120, 130, 140, 200, 210, 220, 230, 240, 300, 310, 320, 330, 340, 350] : List Int32).getD j 0)
def EV (G : Gy) (A : Nat → Prop) (U : State) (H : Heap) : Prop :=
  va_K G.1 vwCl (gt G) U ∧ (∃ t : Nat, va_Z RX5 "WRITTEN" "[I" (.ref t) A U H ∧ va_T .int t 6 tW A U H) ∧ (∃ t : Nat, va_Z RX1 "WEIGHTS" "[I" (.ref t) A U H ∧ va_T .int t 6 tM A U H) ∧ (∃ t : Nat, va_Z RX6 "ORDER" "[I" (.ref t) A U H ∧ va_T .int t 40 tO A U H) ∧
  va_AO RX3 U ∧ va_AO RX7 U ∧ va_Nw (.methodLinkNest RX9 9 yX2_init RX9) U ∧ va_Nw (.methodLinkNest RX9 18 yX3_init RX9) U ∧ va_Nw (.methodLinkNest RX9 220 yX4_init RX9) U ∧ va_Nw (.methodLinkNest RX9 131 yX8_init RX9) U ∧ va_Nw (.methodLinkNest RX4 39 yX7_init RX9) U ∧ va_Nw (.methodLinkNest RX8 21 yX9_isMap RX9) U ∧ va_Nw (.methodLinkNest RX8 46 yX9_isOf RX9) U
theorem EV.K {G : Gy} {A : Nat → Prop} {U : State} {H : Heap} (h : EV G A U H) : va_K G.1 vwCl (gt G) U := h.1
theorem EV.W {G : Gy} {A : Nat → Prop} {U : State} {H : Heap} (h : EV G A U H) : ∃ t : Nat, va_Z RX5 "WRITTEN" "[I" (.ref t) A U H ∧ va_T .int t 6 tW A U H := h.2.1
theorem EV.M {G : Gy} {A : Nat → Prop} {U : State} {H : Heap} (h : EV G A U H) : ∃ t : Nat, va_Z RX1 "WEIGHTS" "[I" (.ref t) A U H ∧ va_T .int t 6 tM A U H := h.2.2.1
theorem EV.O {G : Gy} {A : Nat → Prop} {U : State} {H : Heap} (h : EV G A U H) : ∃ t : Nat, va_Z RX6 "ORDER" "[I" (.ref t) A U H ∧ va_T .int t 40 tO A U H := h.2.2.2.1
theorem EV.aP {G : Gy} {A : Nat → Prop} {U : State} {H : Heap} (h : EV G A U H) : va_AO RX3 U := h.2.2.2.2.1
theorem EV.aT {G : Gy} {A : Nat → Prop} {U : State} {H : Heap} (h : EV G A U H) : va_AO RX7 U := h.2.2.2.2.2.1
theorem EV.n9 {G : Gy} {A : Nat → Prop} {U : State} {H : Heap} (h : EV G A U H) : va_Nw (.methodLinkNest RX9 9 yX2_init RX9) U := h.2.2.2.2.2.2.1
theorem EV.n18 {G : Gy} {A : Nat → Prop} {U : State} {H : Heap} (h : EV G A U H) : va_Nw (.methodLinkNest RX9 18 yX3_init RX9) U := h.2.2.2.2.2.2.2.1
theorem EV.n220 {G : Gy} {A : Nat → Prop} {U : State} {H : Heap} (h : EV G A U H) : va_Nw (.methodLinkNest RX9 220 yX4_init RX9) U := h.2.2.2.2.2.2.2.2.1
theorem EV.n131 {G : Gy} {A : Nat → Prop} {U : State} {H : Heap} (h : EV G A U H) : va_Nw (.methodLinkNest RX9 131 yX8_init RX9) U := h.2.2.2.2.2.2.2.2.2.1
theorem EV.n39 {G : Gy} {A : Nat → Prop} {U : State} {H : Heap} (h : EV G A U H) : va_Nw (.methodLinkNest RX4 39 yX7_init RX9) U := h.2.2.2.2.2.2.2.2.2.2.1
theorem EV.n21 {G : Gy} {A : Nat → Prop} {U : State} {H : Heap} (h : EV G A U H) : va_Nw (.methodLinkNest RX8 21 yX9_isMap RX9) U := h.2.2.2.2.2.2.2.2.2.2.2.1
theorem EV.n46 {G : Gy} {A : Nat → Prop} {U : State} {H : Heap} (h : EV G A U H) : va_Nw (.methodLinkNest RX8 46 yX9_isOf RX9) U := h.2.2.2.2.2.2.2.2.2.2.2.2
theorem EV.call {G : Gy} {A B : Nat → Prop} {s U : State} {H : Heap} {locs : List Loc} (h : EV G A s s.heap) (hS : va_S A s.heap H locs) (hB : ∀ q, B q → A q) (hW : s.WarmedH U.vm) (hU : U.heap = H) : EV G B U U.heap := by
  obtain ⟨hK, ⟨t1, z1, T1⟩, ⟨t2, z2, T2⟩, ⟨t3, z3, T3⟩, a1, a2, n1, n2, n3, n4, n5, n6, n7⟩ := h
  have hk : ∀ a : Nat, a < s.heap.size → ¬ A a → U.heap[a]? = s.heap[a]? := fun a x y => by rw [hU]; exact hS.2.1 a x y
  exact ⟨va_K.moved hW.alike hK, ⟨t1, ((z1.kept hk).narrow hB).moved hW.alike, ((T1.kept hk).narrow hB).moved hW.alike⟩, ⟨t2, ((z2.kept hk).narrow hB).moved hW.alike, ((T2.kept hk).narrow hB).moved hW.alike⟩, ⟨t3, ((z3.kept hk).narrow hB).moved hW.alike, ((T3.kept hk).narrow hB).moved hW.alike⟩, va_AO.moved hW.alike a1, va_AO.moved hW.alike a2, va_Nw.warmM hW n1, va_Nw.warmM hW n2, va_Nw.warmM hW n3, va_Nw.warmM hW n4, va_Nw.warmM hW n5, va_Nw.warmM hW n6, va_Nw.warmM hW n7⟩
theorem EV.same {G : Gy} {A : Nat → Prop} {u U : State} {H : Heap} (e : u.vm = U.vm) (h : EV G A u H) : EV G A U H := by
  obtain ⟨hK, ⟨t1, z1, T1⟩, ⟨t2, z2, T2⟩, ⟨t3, z3, T3⟩, a1, a2, n1, n2, n3, n4, n5, n6, n7⟩ := h
  have ha : u.vm.Alike U.vm := by rw [e]; exact Vm.Alike.refl U.vm
  exact ⟨va_K.moved ha hK, ⟨t1, z1.moved ha, T1.moved ha⟩, ⟨t2, z2.moved ha, T2.moved ha⟩, ⟨t3, z3.moved ha, T3.moved ha⟩, va_AO.moved ha a1, va_AO.moved ha a2, va_Nw.same rfl e n1, va_Nw.same rfl e n2, va_Nw.same rfl e n3, va_Nw.same rfl e n4, va_Nw.same rfl e n5, va_Nw.same rfl e n6, va_Nw.same rfl e n7⟩
/-! a contract's start and end -/
def cPre (G : Gy) (ws : va_W) (sz : Nat) (av : List Value) : Array Value → State → Prop := va_Pc av (fun U => U.heap.size = sz ∧ va_P G.1 vwCl ws U.heap ∧ va_D (fun _ => True) ws ∧ EV G (va_A ws sz) U U.heap)
def cPost (G : Gy) {S : Type} (W' : S → va_W) (A : Nat → Prop) : S → State → Prop := fun u t => va_P G.1 vwCl (W' u) t.heap ∧ va_D A (W' u)
abbrev Ci (l : Launch) (G : Gy) (y : MethodName) (wy : List Cond) (rm : Room) (av : List Value) (ws : va_W) (sz : Nat) {S : Type} (post : Int32 → S → Prop) (W' : S → va_W) (mc ms : Nat) : Prop := Met l y wy rm (cPre G ws sz av) (va_Qi post (cPost G W' (va_A ws sz)) (va_A ws sz)) mc ms (va_A ws sz)
abbrev Cv (l : Launch) (G : Gy) (y : MethodName) (wy : List Cond) (rm : Room) (av : List Value) (ws : va_W) (sz : Nat) {S : Type} (post : S → Prop) (W' : S → va_W) (mc ms : Nat) : Prop := Met l y wy rm (cPre G ws sz av) (va_Qv post (cPost G W' (va_A ws sz)) (va_A ws sz)) mc ms (va_A ws sz)
theorem cPre_blind {G : Gy} {ws : va_W} {sz : Nat} {av : List Value} : FrameBlind (cPre G ws sz av) := fun a U g mk q => by
  obtain ⟨q0, q1, qP, qD, qE⟩ := q
  exact ⟨q0, q1, qP, qD, EV.same (u := U) (U := U.calling g mk a) rfl qE⟩
theorem pre_S {G : Gy} {A : Nat → Prop} {s : State} {H : Heap} {locs : List Loc} {ws wc : va_W} {As : List Value} (E : EV G A s s.heap) (hP : va_P G.1 vwCl ws H) (hD : va_D A ws) (hS : va_S A s.heap H locs) (hA : ∀ q, s.heap.size ≤ q → A q) (isC : List Nat) (hn : va_nd isC = true) (hC : isC.map (fun i => ws[i]?) = wc.map some) : PreS s H (cPre G wc H.size As) As := by
  refine ⟨cPre_blind, fun U hU hW => ⟨rfl, by rw [hU], ?_, (hD.sub isC hn hC).weaken (fun _ _ _ _ => trivial), E.call hS (va_free hD hS hA isC hC) hW hU⟩⟩
  rw [hU]
  refine hP.sub isC ?_
  have h2 : (isC.map (fun i => ws[i]?)).filterMap id = (wc.map some).filterMap id := by rw [hC]
  simpa [List.filterMap_map] using h2
theorem pre_V {G : Gy} {A : Nat → Prop} {s : State} {H : Heap} {locs : List Loc} {ws wc : va_W} {b : Nat} {As : List Value} (E : EV G A s s.heap) (hP : va_P G.1 vwCl ws H) (hD : va_D A ws) (hS : va_S A s.heap H locs) (hA : ∀ q, s.heap.size ≤ q → A q) (isC : List Nat) (hn : va_nd isC = true) (hC : isC.map (fun i => ws[i]?) = wc.map some) (q0 ci : Nat) {q : vw_C} {fs : List Value} (hc : vwCl[ci]? = some q) (he : ws[q0]? = some (b, .inr (ci, fs))) : PreV s H q.1 b (cPre G wc H.size (.ref b :: As)) As :=
  ⟨cPre_blind, va_recv E.K hP hc he, (pre_S E hP hD hS hA isC hn hC).2⟩
theorem ro_join {A0 : Nat → Prop} {D : va_G} {cl : List vw_C} {ws wc : va_W} {H H1 : Heap} (hP : va_P D cl ws H) (hD : va_D A0 ws) (isC : List Nat) (hC : isC.map (fun i => ws[i]?) = wc.map some) (hk : ∀ q : Nat, q < H.size → ¬ va_A wc H.size q → H1[q]? = H[q]?) (hP1 : va_P D cl wc H1) : va_P D cl ws H1 := by
  intro k q hq
  by_cases h : va_A wc H.size q.1
  · rcases h with ⟨k2, e, h2⟩ | h2
    · have h1 : (isC.map (fun i => ws[i]?))[k2]? = some (some (q.1, e)) := by rw [hC, List.getElem?_map, h2]; rfl
      rw [List.getElem?_map] at h1
      cases hi : isC[k2]? with
      | none => rw [hi] at h1; cases h1
      | some i =>
        rw [hi] at h1
        have h3 : ws[i]? = some (q.1, e) := Option.some.inj h1
        have hki := hD.1 k i q (q.1, e) hq h3 rfl
        subst hki
        have hqe : q = (q.1, e) := Option.some.inj (hq.symm.trans h3)
        rw [hqe]
        exact hP1 k2 _ h2
    · exact absurd (hP k q hq).lt (Nat.not_lt.mpr h2)
  · exact (hP k q hq).kept (hk _ (hP k q hq).lt h)
section CA
variable {p : Program} {l : Launch} {e : Env} {R : Room} {s : State} {m : MethodId} {args : Array Value} {below : List Frame} {meth : Method} {c : Code} {H : Heap} {locs : List Loc} {cells slots : Nat} {Q : State → Prop}
variable {pc : Nat} {ls : Array Slot} {rest st0 : List Value} {a : Array Value} {A : Nat → Prop} {mc ms : Nat} {G : Gy} {ws wc : va_W}
/-- behind a call that only reads, answer an int -/
theorem ca_iR {S : Type} {post : Int32 → S → Prop} (hr : va_Run p l e R s m args below meth c H locs cells slots mc ms (F0 m pc ls st0) rest (va_Qi post (cPost G (fun _ => wc) (va_A wc H.size)) (va_A wc H.size) a) (va_A wc H.size)) (hS : va_S A s.heap H locs) (hP : va_P G.1 vwCl ws H) (hD : va_D A ws) (hA : ∀ q, s.heap.size ≤ q → A q) (isC : List Nat) (hC : isC.map (fun i => ws[i]?) = wc.map some)
    (kk : ∀ (r : Int32) (u : S) (H1 : Heap) (locs1 : List Loc), post r u → va_P G.1 vwCl ws H1 → va_S A s.heap H1 locs1 → W p l e R s m args below meth c H1 locs1 (cells + mc) (slots + ms) Q (F0 m (pc + 3) ls (.int r :: rest))) : W p l e R s m args below meth c H locs cells slots Q (F0 m pc ls st0) := by
  have hF := va_free hD hS hA isC hC
  refine va_calli hr hS (fun q _ h => hF q h) hF (fun r u t H1 locs1 ht hvm hw hB hz hk hS1 => kk r u H1 locs1 hw ?_ hS1)
  exact ro_join hP hD isC hC hk (by rw [← ht]; exact hB.1)
/-- behind a call that writes, answer an int -/
theorem ca_i {S : Type} {post : Int32 → S → Prop} {W' : S → va_W} {wr : va_W} (hr : va_Run p l e R s m args below meth c H locs cells slots mc ms (F0 m pc ls st0) rest (va_Qi post (cPost G W' (va_A wc H.size)) (va_A wc H.size) a) (va_A wc H.size)) (hS : va_S A s.heap H locs) (hP : va_P G.1 vwCl ws H) (hD : va_D A ws) (hA : ∀ q, s.heap.size ≤ q → A q) (isC isR : List Nat) (hC : isC.map (fun i => ws[i]?) = wc.map some) (hR : isR.map (fun i => ws[i]?) = wr.map some) (hn : va_nd isR = true) (hdis : ∀ i ∈ isR, i ∉ isC)
    (kk : ∀ (r : Int32) (u : S) (H1 : Heap) (locs1 : List Loc), post r u → va_P G.1 vwCl (wr ++ W' u) H1 → va_D A (wr ++ W' u) → va_S A s.heap H1 locs1 → W p l e R s m args below meth c H1 locs1 (cells + mc) (slots + ms) Q (F0 m (pc + 3) ls (.int r :: rest))) : W p l e R s m args below meth c H locs cells slots Q (F0 m pc ls st0) := by
  have hF := va_free hD hS hA isC hC
  refine va_calli hr hS (fun q _ h => hF q h) hF (fun r u t H1 locs1 ht hvm hw hB hz hk hS1 => ?_)
  obtain ⟨h1, h2⟩ := va_join hP hD isC isR hC hR hn hdis hk hF (by rw [← ht]; exact hB.1) hB.2
  exact kk r u H1 locs1 hw h1 h2 hS1
/-- behind a call that writes, no answer -/
theorem ca_v {S : Type} {post : S → Prop} {W' : S → va_W} {wr : va_W} (hr : va_Run p l e R s m args below meth c H locs cells slots mc ms (F0 m pc ls st0) rest (va_Qv post (cPost G W' (va_A wc H.size)) (va_A wc H.size) a) (va_A wc H.size)) (hS : va_S A s.heap H locs) (hP : va_P G.1 vwCl ws H) (hD : va_D A ws) (hA : ∀ q, s.heap.size ≤ q → A q) (isC isR : List Nat) (hC : isC.map (fun i => ws[i]?) = wc.map some) (hR : isR.map (fun i => ws[i]?) = wr.map some) (hn : va_nd isR = true) (hdis : ∀ i ∈ isR, i ∉ isC)
    (kk : ∀ (u : S) (H1 : Heap) (locs1 : List Loc), post u → va_P G.1 vwCl (wr ++ W' u) H1 → va_D A (wr ++ W' u) → va_S A s.heap H1 locs1 → W p l e R s m args below meth c H1 locs1 (cells + mc) (slots + ms) Q (F0 m (pc + 3) ls rest)) : W p l e R s m args below meth c H locs cells slots Q (F0 m pc ls st0) := by
  have hF := va_free hD hS hA isC hC
  refine va_callv hr hS (fun q _ h => hF q h) hF (fun u t H1 locs1 ht hvm hw hB hz hk hS1 => ?_)
  obtain ⟨h1, h2⟩ := va_join hP hD isC isR hC hR hn hdis hk hF (by rw [← ht]; exact hB.1) hB.2
  exact kk u H1 locs1 hw h1 h2 hS1
end CA
section NA
variable {p : Program} {l : Launch} {e : Env} {R : Room} {s : State} {m : MethodId} {args : Array Value} {below : List Frame} {meth : Method} {c : Code} {H : Heap} {locs : List Loc} {cells slots : Nat} {Q : State → Prop}
variable {cc : ByteArray} {pc : Nat} {ls : Array Slot} {rest : List Value} {A : Nat → Prop} {G : Gy} {ws : va_W}
/-- a new row of ints, of bytes, of booleans: its class is the known one -/
theorem nw_row (hexec : p.tables.exec = Jvm.exec) (hb : c.code = cc) {atype : ArrayType} (harr : (Cond.arrayClass (newarray.typeOf atype)).before args s = true) {ty : FieldType} (hty : newarray.typeOf atype = ty) (E : EV G A s s.heap) (k0 : Nat) {cA : ClassId} (hk0 : (gt G)[k0]? = some (cA, ty)) (hprim : ∀ (U : State) (c1 : ClassId), va_RA U c1 ty → U.vm.findClass ("[" ++ ty.toString) = some c1) (hP : va_P G.1 vwCl ws H) (hD : va_D A ws) (hS : va_S A s.heap H locs) (hA : ∀ q, s.heap.size ≤ q → A q)
    {n : Int32} {N' : Nat} {a0 : vp_A} (ha : ∀ cA : ClassId, vp_cell cA a0 = arrV cA N' (fun _ => defaultValue ty)) (hn : ¬ n < 0) (hN : n.toNatClampNeg = N') (hbytes : N' * componentBytes ty ≤ 536870912) (hcells : cells + 1 ≤ R.cells) (hslots : slots + N' ≤ R.slots) (hdg : decode cc pc = .ok (.newarray atype, 2))
    (kk : ∀ (q : Nat) (H1 : Heap), va_P G.1 vwCl (ws ++ [(q, .inl (cA, a0))]) H1 → va_D A (ws ++ [(q, .inl (cA, a0))]) → va_S A s.heap H1 locs → W p l e R s m args below meth c H1 locs (cells + 1) (slots + N') Q (F0 m (pc + 2) ls (.ref q :: rest))) : W p l e R s m args below meth c H locs cells slots Q (F0 m pc ls (.int n :: rest)) := by
  refine va_newa hexec hb harr hty E.K hP hD hS hA ha hn hN hbytes hcells hslots hdg (fun q cB H1 hK1 hP1 hD1 hS1 => ?_)
  have h1 := (hK1.2 (gt G).length (cB, ty) (by simp)).2
  have h2 := (E.K.2 k0 _ hk0).2
  have h3 : cB = cA := Option.some.inj ((hprim s cB h1).symm.trans (hprim s cA h2))
  subst h3
  exact kk q H1 hP1 hD1 hS1
/-- a new row of references -/
theorem nw_rowq (hexec : p.tables.exec = Jvm.exec) (hb : c.code = cc) {own C : String} {index : Nat} (hown : s.vm.findClass own = some m.cls) (hclink : (Cond.classLink own index C).before args s = true) (hover : va_AO C s) (E : EV G A s s.heap) (k0 : Nat) {cA : ClassId} (hk0 : (gt G)[k0]? = some (cA, .object C)) (hP : va_P G.1 vwCl ws H) (hD : va_D A ws) (hS : va_S A s.heap H locs) (hA : ∀ q, s.heap.size ≤ q → A q)
    {n : Int32} {N' : Nat} (hn : ¬ n < 0) (hN : n.toNatClampNeg = N') (hbytes : N' * 4 ≤ 536870912) (hcells : cells + 1 ≤ R.cells) (hslots : slots + N' ≤ R.slots) (hdg : decode cc pc = .ok (.anewarray index, 3))
    (kk : ∀ (q : Nat) (H1 : Heap), va_P G.1 vwCl (ws ++ [(q, .inl (cA, N', .inr (.inr (.inr (.inr (fun _ => none))))))]) H1 → va_D A (ws ++ [(q, .inl (cA, N', .inr (.inr (.inr (.inr (fun _ => none))))))]) → va_S A s.heap H1 locs → W p l e R s m args below meth c H1 locs (cells + 1) (slots + N') Q (F0 m (pc + 3) ls (.ref q :: rest))) : W p l e R s m args below meth c H locs cells slots Q (F0 m pc ls (.int n :: rest)) := by
  refine va_newq hexec hb hown hclink hover E.K hP hD hS hA hn hN hbytes hcells hslots hdg (fun q cB H1 hK1 hP1 hD1 hS1 => ?_)
  have h1 := (hK1.2 (gt G).length (cB, .object C) (by simp)).2
  have h2 := (E.K.2 k0 _ hk0).2
  obtain ⟨-, -, -, -, -, g1⟩ := h1
  obtain ⟨-, -, -, -, -, g2⟩ := h2
  have h3 : cB = cA := Option.some.inj (g1.symm.trans g2)
  subst h3
  exact kk q H1 hP1 hD1 hS1
end NA
/-! numbers -/
def inR (x lo hi : Int32) : Prop := lo ≤ x ∧ x ≤ hi
noncomputable def cIf (P : Prop) (a b : Int32) : Int32 := @ite _ P (Classical.propDecidable P) a b
theorem cIf_t {P : Prop} {a b : Int32} (h : P) : cIf P a b = a := by unfold cIf; exact if_pos h
theorem cIf_f {P : Prop} {a b : Int32} (h : ¬ P) : cIf P a b = b := by unfold cIf; exact if_neg h
theorem i3_lt {x y : Int32} : x < y ↔ x.toInt < y.toInt := Int32.lt_iff_toInt_lt
theorem i3_le {x y : Int32} : x ≤ y ↔ x.toInt ≤ y.toInt := Int32.le_iff_toInt_le
theorem i6_lt {x y : Int64} : x < y ↔ x.toInt < y.toInt := Int64.lt_iff_toInt_lt
theorem i6_le {x y : Int64} : x ≤ y ↔ x.toInt ≤ y.toInt := Int64.le_iff_toInt_le
theorem i3_eq {x y : Int32} : x = y ↔ x.toInt = y.toInt := Int32.toInt_inj.symm
theorem t_nI (n : Nat) (h : n < 2 ^ 31) (x : Int32) (e : x = nI n) : x.toInt = n := by rw [e]; exact nI_toInt h
theorem tst1 (p0 : Int32) (c1 : ¬ p0 < 0) (c2 : ¬ 6 ≤ p0) : inR p0 0 5 := by
  simp only [inR, i3_lt, i3_le, Int32.reduceToInt, Int32.toInt_zero] at *
  omega
section LP
variable {p : Program} {l : Launch} {e : Env} {R : Room} {s : State} {m : MethodId} {args : Array Value} {below : List Frame} {meth : Method} {c : Code} {H : Heap} {locs : List Loc} {cells slots : Nat} {Q : State → Prop}
variable {pc : Nat} {ls : Array Slot} {st : List Value} {A : Nat → Prop} {G : Gy}
/-- a loop: a state x, its cells WS x, its locals LV x, its invariant I x, a measure that falls -/
theorem lp_run {σ : Type} {x0 : σ} {nL : Nat} (WS : σ → va_W) (LV : σ → List (Nat × Value)) (I : σ → Prop) (μ : σ → Nat) (hP : va_P G.1 vwCl (WS x0) H) (hD : va_D A (WS x0)) (hS : va_S A s.heap H locs) (hl : lv_has ls nL (LV x0)) (h0 : I x0)
    (step : ∀ x : σ, I x → (∀ y : σ, I y → μ y < μ x → ∀ (H1 : Heap) (locs1 : List Loc) (ls1 : Array Slot), va_P G.1 vwCl (WS y) H1 → va_D A (WS y) → va_S A s.heap H1 locs1 → lv_has ls1 nL (LV y) → W p l e R s m args below meth c H1 locs1 cells slots Q (F0 m pc ls1 st)) → ∀ (H1 : Heap) (locs1 : List Loc) (ls1 : Array Slot), va_P G.1 vwCl (WS x) H1 → va_D A (WS x) → va_S A s.heap H1 locs1 → lv_has ls1 nL (LV x) → W p l e R s m args below meth c H1 locs1 cells slots Q (F0 m pc ls1 st)) : W p l e R s m args below meth c H locs cells slots Q (F0 m pc ls st) := by
  have key : ∀ (k : Nat) (x : σ), μ x < k → I x → ∀ (H1 : Heap) (locs1 : List Loc) (ls1 : Array Slot), va_P G.1 vwCl (WS x) H1 → va_D A (WS x) → va_S A s.heap H1 locs1 → lv_has ls1 nL (LV x) → W p l e R s m args below meth c H1 locs1 cells slots Q (F0 m pc ls1 st) := by
    intro k
    induction k with
    | zero => intro x h; exact absurd h (Nat.not_lt_zero _)
    | succ k ih => intro x hx hI; exact step x hI (fun y hy hm => ih y (Nat.lt_of_lt_of_le hm (Nat.le_of_lt_succ hx)) hy)
  exact key (μ x0 + 1) x0 (Nat.lt_succ_self _) h0 H locs ls hP hD hS hl
end LP
def isOfP (set map : Int32) : Prop := inR map 0 5 ∧ ¬ (set >>> (map &&& 31)) &&& 1 = 0
def tqP (set what : Int32) : Prop := what = 0 ∨ what = 1 ∨ (10 ≤ what ∧ isOfP set (what - 10))
def inS (x n : Int32) : Prop := 0 ≤ x ∧ x < n
def tMi (j : Nat) : Int32 := ([3125, 625, 125, 25, 5, 1] : List Int32).getD j 0
def tWi (j : Nat) : Int32 := ([97, 98, 99, 100, 45, 63] : List Int32).getD j 0
noncomputable def wgt (x : Int32) : Int32 := cIf (inR x 0 5) (tMi x.toNatClampNeg) 1
noncomputable def wri (x : Int32) : Int32 := cIf (inR x 0 5) (tWi x.toNatClampNeg) 0
noncomputable def sgn (c w : Int32) : Int32 := cIf (w < 1) 0 (c / w - c / w / 5 * 5)
theorem z_div (x : Int32) : (0 : Int32) / x = 0 := by simp
theorem sgn0 (w : Int32) : sgn 0 w = 0 := by
  unfold sgn
  by_cases h : w < 1
  · exact cIf_t h
  · rw [cIf_f h, z_div]; rfl
theorem clampR {x hi : Int32} {n : Nat} (h : inR x 0 hi) (hn : hi.toInt < n) : x.toNatClampNeg < n := by
  have h1 := i3_le.mp h.1
  have h2 := i3_le.mp h.2
  have h3 : (0 : Int32).toInt = 0 := rfl
  show x.toInt.toNat < n
  omega
theorem not_told0 (x : Int32) : ¬ isOfP 0 x := by
  intro h
  exact h.2 (by simp)
theorem not_all0 (x : Int32) (h : inR x 1 63) : ¬ (0 : Int32) &&& x = x := by
  intro e
  rw [show (0 : Int32) &&& x = 0 by simp] at e
  rw [← e] at h
  exact absurd h.1 (by decide)
theorem sub10 {x : Int32} (h : 10 ≤ x) : (x - 10).toInt = x.toInt - 10 := by
  have := Int32.toInt_sub_of_le x 10 (by decide) h
  rw [this]
  rfl
theorem tld {x : Int32} : inR x 10 13 ↔ 10 ≤ x ∧ inR (x - 10) 0 3 := by
  constructor
  · intro h
    refine ⟨h.1, ?_⟩
    have h1 := sub10 h.1
    have h2 := h.1
    have h3 := h.2
    simp only [inR, i3_le, Int32.reduceToInt, h1] at *
    omega
  · intro ⟨h, g⟩
    have h1 := sub10 h
    have h2 := g.1
    have h3 := g.2
    simp only [inR, i3_le, Int32.reduceToInt, h1] at *
    omega
noncomputable def sp_sites (p0 : Int32) : Int32 := cIf (inR p0 2 6) 6 (-2)
noncomputable def sp_say (p0 : Int32) : Int32 := cIf (inR p0 33 126) 1 (-2)
noncomputable def sp_wipe : Int32 := 0
noncomputable def sp_fault (p0 : Int32) : Int32 := cIf (inR p0 0 2) (cIf (p0 = 1) (-6) 0) (-2)
noncomputable def sp_map (p0 : Int32) : Int32 := cIf (inR p0 0 5) (-5) (-1)
noncomputable def sp_at (p0 p1 : Int32) : Int32 := cIf (inR p0 0 5) (cIf (inR p1 0 5) (-3) (-1)) (-1)
noncomputable def sp_hand (p0 p1 : Int32) : Int32 := cIf (inR p0 0 3) (cIf (inR p1 0 15) 15 (-2)) (-1)
noncomputable def sp_judge (p0 : Int32) : Int32 := cIf (inR p0 0 5) (-3) (-1)
noncomputable def sp_copy (p0 p1 : Int32) : Int32 := cIf (inR p0 0 5) (cIf (inR p1 0 5) (-3) (-1)) (-1)
noncomputable def sp_far (p0 p1 p2 p3 : Int32) : Int32 := cIf (inR p0 0 5) (cIf (inR p1 0 5) (cIf (inR p2 0 3) (-3) (-1)) (-1)) (-1)
noncomputable def sp_who (p0 p1 p2 : Int32) : Int32 := cIf (inR p0 0 5) (cIf (inR p1 0 5) (cIf (inR p2 0 30) (-3) (-2)) (-1)) (-1)
noncomputable def sp_between (p0 p1 p2 p3 : Int32) : Int32 := cIf (inR p0 0 5) (cIf (inR p1 0 5) (cIf (inR p2 0 3) (cIf (inR p3 1 9) (-3) (-2)) (-1)) (-1)) (-1)
noncomputable def sp_tree (p0 p1 p2 : Int32) : Int32 := cIf (inR p1 0 3) (cIf (inR p0 1 63) (cIf (tqP p0 p2) (-3) (-2)) (-2)) (-1)
noncomputable def sp_lost (p0 p1 p2 : Int32) : Int32 := cIf (inR p1 0 3) (cIf (inR p0 1 63) (-3) (-2)) (-1)
noncomputable def sp_wished (p0 p1 p2 p3 : Int32) : Int32 := cIf (inR p0 0 5) (cIf (inR p1 0 3) (cIf (inR p2 0 63) (-3) (-2)) (-1)) (-1)
noncomputable def sp_holds (p0 p1 : Int32) : Int32 := cIf (p1 = (-1)) (cIf (inR p0 1 63) (-3) (-2)) (cIf (inR p1 0 5) (cIf (inR p0 1 63) (-3) (-2)) (-1))
noncomputable def sp_spades (p0 : Int32) : Int32 := cIf (inR p0 1 6) 1 (-2)
noncomputable def sp_land (p0 : Int32) : Int32 := cIf (inR p0 0 5) 97 (-1)
noncomputable def sp_years (p0 : Int32) : Int32 := cIf (inR p0 0 5) (-3) (-1)
noncomputable def sp_follow (p0 p1 : Int32) : Int32 := cIf (inR p0 0 5) (cIf (inR p1 0 9) (-3) (-2)) (-1)
noncomputable def sp_drawn (p0 p1 p2 p3 p4 : Int32) : Int32 := cIf (inR p1 0 5) (cIf (inR p2 0 3) (cIf (p4 = (-1)) (cIf (inR p0 0 9999) (cIf (inR p3 0 60) (-3) (-2)) (-2)) (cIf (inR p4 0 5) (cIf (inR p0 0 9999) (cIf (inR p3 0 60) (-3) (-2)) (-2)) (-1))) (-1)) (-1)
noncomputable def sp_image (p0 : Int32) : Int32 := cIf (inR p0 0 1) 1 (-2)
noncomputable def sp_restore (p0 : Int32) : Int32 := cIf (inR p0 0 1) (-3) (-2)
noncomputable def sp_told (p0 : Int32) : Int32 := cIf (inR p0 10 13) 15 (cIf (p0 = 0) 0 (cIf (p0 = 1) 6 (cIf (p0 = 2) 0 (cIf (p0 = 3) 1 (-2)))))
theorem m_are0 {p x1 x2 : Int32} (hp : inR p 1 63) (e1 : x1 = (0 : Int32) ^^^ (-1)) (e2 : x2 = p &&& x1) : ¬ x2 = 0 := by
  intro h
  have h1 : x1 = -1 := by rw [e1]; decide
  rw [h1, show p &&& (-1 : Int32) = p by simp] at e2
  rw [e2.symm.trans h] at hp
  exact absurd hp.1 (by decide)
theorem six {x : Int32} (h : inR x 2 6) : ∃ k : Nat, 1 ≤ k ∧ k ≤ 6 ∧ x = nI k := by
  have h1 := i3_le.mp h.1
  have h2 := i3_le.mp h.2
  simp only [Int32.reduceToInt] at h1 h2
  refine ⟨x.toInt.toNat, by omega, by omega, ?_⟩
  rw [i3_eq, nI_toInt (by omega)]
  omega
theorem tq01 {s x : Int32} (h : inR x 0 1) : tqP s x := by
  have h1 := i3_le.mp h.1
  have h2 := i3_le.mp h.2
  simp only [Int32.reduceToInt] at h1 h2
  by_cases h3 : x.toInt = 0
  · exact Or.inl (i3_eq.mpr (by rw [h3]; rfl))
  · exact Or.inr (Or.inl (i3_eq.mpr (by simp only [Int32.reduceToInt]; omega)))
end
section
set_option maxHeartbeats 4000000 in
set_option maxRecDepth 100000 in
theorem c_isMap (l : Launch) (G : Gy) (sz : Nat) (p0 : Int32)  : Ci l G yX9_isMap wsX9_isMap ({ frames := 0, cells := 0, slots := 0, locals := 0 }) [.int p0] [] sz (fun (r : Int32) (_ : Unit) => (r = 1 ∧ inR p0 0 5) ∨ (r = 0 ∧ ¬ inR p0 0 5)) (fun (_ : Unit) => []) 0 0 := by
  refine Met.ofW (cc := cX9_isMap) (maxL := 1) (ret := (some .boolean)) (by decide) rfl ?_
  intro p e s m args below meth c s₁ B hml hv
  obtain ⟨rfl, hsz, hP, hD0, E0⟩ := hv
  have hx := B.exec
  have hb := B.bytes
  have hr := B.returns
  have hts := atoms_spec (ws := wsX9_isMap) B.pre
  have hown : s.vm.findClass RX9 = some m.cls := findClass_of_methodNamed B.named
  have hlocks := B.notSynchronized
  subst hsz
  have hD := hD0.self (sz := s.heap.size)
  generalize hAe : va_A [] s.heap.size = A at hD E0 ⊢
  have E : EV G A s s.heap := E0
  have hA : ∀ q : Nat, s.heap.size ≤ q → A q := fun q h => by rw [← hAe]; exact Or.inr h
  have hS : va_S A s.heap s.heap [] := va_S.rf
  have hl := lv_entry ([.int p0]) (n := 1) (Nat.le_of_ble_eq_true rfl)
  rw [lg_entry_eq]
  generalize (lg_sl ([.int p0]) ++ List.replicate (1 - (lg_sl ([.int p0])).length) Slot.unset).toArray = ls at hl ⊢
  have hl : lv_has ls 1 [(0, .int p0)] := hl
  have hP : va_P G.1 vwCl [] s.heap := hP
  refine lv_iload_n hx hb dX9_isMap_0 rfl (lv_at hl 0 rfl) ?_
  refine lv_if_lt (tgt := 14) hx hb dX9_isMap_1 (by decide) (fun c1 => ?_) (fun c1 => ?_)
  · refine lv_iconst (v := 0) hx hb dX9_isMap_14 (by decide) ?_
    have hP9 := hP.sub (ws' := []) [] rfl
    have hD9 := hD.sub (ws' := []) [] (by decide) rfl
    exact W.zret (v := 0) hx hb hr (by decide) (fun t ht hW => ⟨⟨0, (), rfl, Or.inr ⟨rfl, by ((try simp only [inR, inS, i3_lt, i3_le, i3_eq, i6_lt, i6_le, Int32.toInt_toInt64, lg_cmp_lt, lg_cmp_gt, lg_cmp_ge, lg_cmp_le, Int32.reduceToInt, Int64.reduceToInt] at c1 ⊢); omega)⟩, by rw [ht]; exact hP9, hD9⟩, hS.F ht⟩) hS.2.2 dX9_isMap_15
  · refine lv_iload_n hx hb dX9_isMap_4 rfl (lv_at hl 0 rfl) ?_
    refine lv_bipush (v := 6) hx hb dX9_isMap_5 (by decide) ?_
    refine lv_icmp_ge (tgt := 14) hx hb dX9_isMap_7 (by decide) (fun c2 => ?_) (fun c2 => ?_)
    · refine lv_iconst (v := 0) hx hb dX9_isMap_14 (by decide) ?_
      have hP9 := hP.sub (ws' := []) [] rfl
      have hD9 := hD.sub (ws' := []) [] (by decide) rfl
      exact W.zret (v := 0) hx hb hr (by decide) (fun t ht hW => ⟨⟨0, (), rfl, Or.inr ⟨rfl, by ((try simp only [inR, inS, i3_lt, i3_le, i3_eq, i6_lt, i6_le, Int32.toInt_toInt64, lg_cmp_lt, lg_cmp_gt, lg_cmp_ge, lg_cmp_le, Int32.reduceToInt, Int64.reduceToInt] at c1 c2 ⊢); omega)⟩, by rw [ht]; exact hP9, hD9⟩, hS.F ht⟩) hS.2.2 dX9_isMap_15
    · refine lv_iconst (v := 1) hx hb dX9_isMap_10 (by decide) ?_
      refine lv_goto (tgt := 15) hx hb dX9_isMap_11 (by decide) ?_
      have hP9 := hP.sub (ws' := []) [] rfl
      have hD9 := hD.sub (ws' := []) [] (by decide) rfl
      exact W.zret (v := 1) hx hb hr (by decide) (fun t ht hW => ⟨⟨1, (), rfl, Or.inl ⟨rfl, by ((try simp only [inR, inS, i3_lt, i3_le, i3_eq, i6_lt, i6_le, Int32.toInt_toInt64, lg_cmp_lt, lg_cmp_gt, lg_cmp_ge, lg_cmp_le, Int32.reduceToInt, Int64.reduceToInt] at c1 c2 ⊢); omega)⟩, by rw [ht]; exact hP9, hD9⟩, hS.F ht⟩) hS.2.2 dX9_isMap_15

set_option maxHeartbeats 4000000 in
set_option maxRecDepth 100000 in
theorem c_isHand (l : Launch) (G : Gy) (sz : Nat) (p0 : Int32)  : Ci l G yX9_isHand wsX9_isHand ({ frames := 0, cells := 0, slots := 0, locals := 0 }) [.int p0] [] sz (fun (r : Int32) (_ : Unit) => (r = 1 ∧ inR p0 0 3) ∨ (r = 0 ∧ ¬ inR p0 0 3)) (fun (_ : Unit) => []) 0 0 := by
  refine Met.ofW (cc := cX9_isHand) (maxL := 1) (ret := (some .boolean)) (by decide) rfl ?_
  intro p e s m args below meth c s₁ B hml hv
  obtain ⟨rfl, hsz, hP, hD0, E0⟩ := hv
  have hx := B.exec
  have hb := B.bytes
  have hr := B.returns
  have hts := atoms_spec (ws := wsX9_isHand) B.pre
  have hown : s.vm.findClass RX9 = some m.cls := findClass_of_methodNamed B.named
  have hlocks := B.notSynchronized
  subst hsz
  have hD := hD0.self (sz := s.heap.size)
  generalize hAe : va_A [] s.heap.size = A at hD E0 ⊢
  have E : EV G A s s.heap := E0
  have hA : ∀ q : Nat, s.heap.size ≤ q → A q := fun q h => by rw [← hAe]; exact Or.inr h
  have hS : va_S A s.heap s.heap [] := va_S.rf
  have hl := lv_entry ([.int p0]) (n := 1) (Nat.le_of_ble_eq_true rfl)
  rw [lg_entry_eq]
  generalize (lg_sl ([.int p0]) ++ List.replicate (1 - (lg_sl ([.int p0])).length) Slot.unset).toArray = ls at hl ⊢
  have hl : lv_has ls 1 [(0, .int p0)] := hl
  have hP : va_P G.1 vwCl [] s.heap := hP
  refine lv_iload_n hx hb dX9_isHand_0 rfl (lv_at hl 0 rfl) ?_
  refine lv_if_lt (tgt := 13) hx hb dX9_isHand_1 (by decide) (fun c1 => ?_) (fun c1 => ?_)
  · refine lv_iconst (v := 0) hx hb dX9_isHand_13 (by decide) ?_
    have hP9 := hP.sub (ws' := []) [] rfl
    have hD9 := hD.sub (ws' := []) [] (by decide) rfl
    exact W.zret (v := 0) hx hb hr (by decide) (fun t ht hW => ⟨⟨0, (), rfl, Or.inr ⟨rfl, by ((try simp only [inR, inS, i3_lt, i3_le, i3_eq, i6_lt, i6_le, Int32.toInt_toInt64, lg_cmp_lt, lg_cmp_gt, lg_cmp_ge, lg_cmp_le, Int32.reduceToInt, Int64.reduceToInt] at c1 ⊢); omega)⟩, by rw [ht]; exact hP9, hD9⟩, hS.F ht⟩) hS.2.2 dX9_isHand_14
  · refine lv_iload_n hx hb dX9_isHand_4 rfl (lv_at hl 0 rfl) ?_
    refine lv_iconst (v := 4) hx hb dX9_isHand_5 (by decide) ?_
    refine lv_icmp_ge (tgt := 13) hx hb dX9_isHand_6 (by decide) (fun c2 => ?_) (fun c2 => ?_)
    · refine lv_iconst (v := 0) hx hb dX9_isHand_13 (by decide) ?_
      have hP9 := hP.sub (ws' := []) [] rfl
      have hD9 := hD.sub (ws' := []) [] (by decide) rfl
      exact W.zret (v := 0) hx hb hr (by decide) (fun t ht hW => ⟨⟨0, (), rfl, Or.inr ⟨rfl, by ((try simp only [inR, inS, i3_lt, i3_le, i3_eq, i6_lt, i6_le, Int32.toInt_toInt64, lg_cmp_lt, lg_cmp_gt, lg_cmp_ge, lg_cmp_le, Int32.reduceToInt, Int64.reduceToInt] at c1 c2 ⊢); omega)⟩, by rw [ht]; exact hP9, hD9⟩, hS.F ht⟩) hS.2.2 dX9_isHand_14
    · refine lv_iconst (v := 1) hx hb dX9_isHand_9 (by decide) ?_
      refine lv_goto (tgt := 14) hx hb dX9_isHand_10 (by decide) ?_
      have hP9 := hP.sub (ws' := []) [] rfl
      have hD9 := hD.sub (ws' := []) [] (by decide) rfl
      exact W.zret (v := 1) hx hb hr (by decide) (fun t ht hW => ⟨⟨1, (), rfl, Or.inl ⟨rfl, by ((try simp only [inR, inS, i3_lt, i3_le, i3_eq, i6_lt, i6_le, Int32.toInt_toInt64, lg_cmp_lt, lg_cmp_gt, lg_cmp_ge, lg_cmp_le, Int32.reduceToInt, Int64.reduceToInt] at c1 c2 ⊢); omega)⟩, by rw [ht]; exact hP9, hD9⟩, hS.F ht⟩) hS.2.2 dX9_isHand_14

set_option maxHeartbeats 4000000 in
set_option maxRecDepth 100000 in
theorem c_isSet (l : Launch) (G : Gy) (sz : Nat) (p0 : Int32)  : Ci l G yX9_isSet wsX9_isSet ({ frames := 0, cells := 0, slots := 0, locals := 0 }) [.int p0] [] sz (fun (r : Int32) (_ : Unit) => (r = 1 ∧ inR p0 1 63) ∨ (r = 0 ∧ ¬ inR p0 1 63)) (fun (_ : Unit) => []) 0 0 := by
  refine Met.ofW (cc := cX9_isSet) (maxL := 1) (ret := (some .boolean)) (by decide) rfl ?_
  intro p e s m args below meth c s₁ B hml hv
  obtain ⟨rfl, hsz, hP, hD0, E0⟩ := hv
  have hx := B.exec
  have hb := B.bytes
  have hr := B.returns
  have hts := atoms_spec (ws := wsX9_isSet) B.pre
  have hown : s.vm.findClass RX9 = some m.cls := findClass_of_methodNamed B.named
  have hlocks := B.notSynchronized
  subst hsz
  have hD := hD0.self (sz := s.heap.size)
  generalize hAe : va_A [] s.heap.size = A at hD E0 ⊢
  have E : EV G A s s.heap := E0
  have hA : ∀ q : Nat, s.heap.size ≤ q → A q := fun q h => by rw [← hAe]; exact Or.inr h
  have hS : va_S A s.heap s.heap [] := va_S.rf
  have hl := lv_entry ([.int p0]) (n := 1) (Nat.le_of_ble_eq_true rfl)
  rw [lg_entry_eq]
  generalize (lg_sl ([.int p0]) ++ List.replicate (1 - (lg_sl ([.int p0])).length) Slot.unset).toArray = ls at hl ⊢
  have hl : lv_has ls 1 [(0, .int p0)] := hl
  have hP : va_P G.1 vwCl [] s.heap := hP
  refine lv_iload_n hx hb dX9_isSet_0 rfl (lv_at hl 0 rfl) ?_
  refine lv_iconst (v := 1) hx hb dX9_isSet_1 (by decide) ?_
  refine lv_icmp_lt (tgt := 15) hx hb dX9_isSet_2 (by decide) (fun c1 => ?_) (fun c1 => ?_)
  · refine lv_iconst (v := 0) hx hb dX9_isSet_15 (by decide) ?_
    have hP9 := hP.sub (ws' := []) [] rfl
    have hD9 := hD.sub (ws' := []) [] (by decide) rfl
    exact W.zret (v := 0) hx hb hr (by decide) (fun t ht hW => ⟨⟨0, (), rfl, Or.inr ⟨rfl, by ((try simp only [inR, inS, i3_lt, i3_le, i3_eq, i6_lt, i6_le, Int32.toInt_toInt64, lg_cmp_lt, lg_cmp_gt, lg_cmp_ge, lg_cmp_le, Int32.reduceToInt, Int64.reduceToInt] at c1 ⊢); omega)⟩, by rw [ht]; exact hP9, hD9⟩, hS.F ht⟩) hS.2.2 dX9_isSet_16
  · refine lv_iload_n hx hb dX9_isSet_5 rfl (lv_at hl 0 rfl) ?_
    refine lv_bipush (v := 63) hx hb dX9_isSet_6 (by decide) ?_
    refine lv_icmp_gt (tgt := 15) hx hb dX9_isSet_8 (by decide) (fun c2 => ?_) (fun c2 => ?_)
    · refine lv_iconst (v := 0) hx hb dX9_isSet_15 (by decide) ?_
      have hP9 := hP.sub (ws' := []) [] rfl
      have hD9 := hD.sub (ws' := []) [] (by decide) rfl
      exact W.zret (v := 0) hx hb hr (by decide) (fun t ht hW => ⟨⟨0, (), rfl, Or.inr ⟨rfl, by ((try simp only [inR, inS, i3_lt, i3_le, i3_eq, i6_lt, i6_le, Int32.toInt_toInt64, lg_cmp_lt, lg_cmp_gt, lg_cmp_ge, lg_cmp_le, Int32.reduceToInt, Int64.reduceToInt] at c1 c2 ⊢); omega)⟩, by rw [ht]; exact hP9, hD9⟩, hS.F ht⟩) hS.2.2 dX9_isSet_16
    · refine lv_iconst (v := 1) hx hb dX9_isSet_11 (by decide) ?_
      refine lv_goto (tgt := 16) hx hb dX9_isSet_12 (by decide) ?_
      have hP9 := hP.sub (ws' := []) [] rfl
      have hD9 := hD.sub (ws' := []) [] (by decide) rfl
      exact W.zret (v := 1) hx hb hr (by decide) (fun t ht hW => ⟨⟨1, (), rfl, Or.inl ⟨rfl, by ((try simp only [inR, inS, i3_lt, i3_le, i3_eq, i6_lt, i6_le, Int32.toInt_toInt64, lg_cmp_lt, lg_cmp_gt, lg_cmp_ge, lg_cmp_le, Int32.reduceToInt, Int64.reduceToInt] at c1 c2 ⊢); omega)⟩, by rw [ht]; exact hP9, hD9⟩, hS.F ht⟩) hS.2.2 dX9_isSet_16

set_option maxHeartbeats 4000000 in
set_option maxRecDepth 100000 in
theorem c_isOf (l : Launch) (G : Gy) (sz : Nat) (p0 : Int32) (p1 : Int32)  : Ci l G yX9_isOf wsX9_isOf ({ frames := 1, cells := 0, slots := 0, locals := 20 }) [.int p0, .int p1] [] sz (fun (r : Int32) (_ : Unit) => (r = 1 ∧ isOfP p0 p1) ∨ (r = 0 ∧ ¬ isOfP p0 p1)) (fun (_ : Unit) => []) 0 0 := by
  refine Met.ofW (cc := cX9_isOf) (maxL := 2) (ret := (some .boolean)) (by decide) rfl ?_
  intro p e s m args below meth c s₁ B hml hv
  obtain ⟨rfl, hsz, hP, hD0, E0⟩ := hv
  have hx := B.exec
  have hb := B.bytes
  have hr := B.returns
  have hts := atoms_spec (ws := wsX9_isOf) B.pre
  have hown : s.vm.findClass RX9 = some m.cls := findClass_of_methodNamed B.named
  have hlocks := B.notSynchronized
  subst hsz
  have hD := hD0.self (sz := s.heap.size)
  generalize hAe : va_A [] s.heap.size = A at hD E0 ⊢
  have E : EV G A s s.heap := E0
  have hA : ∀ q : Nat, s.heap.size ≤ q → A q := fun q h => by rw [← hAe]; exact Or.inr h
  have hS : va_S A s.heap s.heap [] := va_S.rf
  have hl := lv_entry ([.int p0, .int p1]) (n := 2) (Nat.le_of_ble_eq_true rfl)
  rw [lg_entry_eq]
  generalize (lg_sl ([.int p0, .int p1]) ++ List.replicate (2 - (lg_sl ([.int p0, .int p1])).length) Slot.unset).toArray = ls at hl ⊢
  have hl : lv_has ls 2 [(0, .int p0), (1, .int p1)] := hl
  have hP : va_P G.1 vwCl [] s.heap := hP
  refine lv_iload_n hx hb dX9_isOf_0 rfl (lv_at hl 1 rfl) ?_
  refine ca_iR (va_runS (As := [.int p1]) (rest := []) ⟨hx, hb, hml, hown, hts⟩ (c_isMap l G s.heap.size p1) (va_cwS 1 hts gX9_isOf_X9_isMap rfl rfl rfl (by decide +kernel) ⟨by decide, by decide⟩) (pre_S E hP hD hS hA [] (by decide) rfl) rfl rfl hl.1 rfl (lv_room (by decide)) dX9_isOf_1 ⟨by decide, by decide⟩) hS hP hD hA [] rfl (fun r2 _ H locs w1 hP hS => ?_)
  rcases w1 with ⟨rfl, b3⟩ | ⟨rfl, b3⟩
  · refine lv_if_eq (tgt := 19) hx hb dX9_isOf_4 (by decide) (fun c4 => absurd c4 (by decide)) (fun _ => ?_)
    refine lv_iload_n hx hb dX9_isOf_7 rfl (lv_at hl 0 rfl) ?_
    refine lv_iload_n hx hb dX9_isOf_8 rfl (lv_at hl 1 rfl) ?_
    refine lv_ishr hx hb dX9_isOf_9 ?_
    refine lv_topi (fun x5 ex5 => ?_)
    refine lv_iconst (v := 1) hx hb dX9_isOf_10 (by decide) ?_
    refine lv_iand hx hb dX9_isOf_11 ?_
    refine lv_topi (fun x6 ex6 => ?_)
    refine lv_if_eq (tgt := 19) hx hb dX9_isOf_12 (by decide) (fun c7 => ?_) (fun c7 => ?_)
    · refine lv_iconst (v := 0) hx hb dX9_isOf_19 (by decide) ?_
      have hP9 := hP.sub (ws' := []) [] rfl
      have hD9 := hD.sub (ws' := []) [] (by decide) rfl
      exact W.zret (v := 0) hx hb hr (by decide) (fun t ht hW => ⟨⟨0, (), rfl, Or.inr ⟨rfl, fun h => h.2 (by rw [← ex5, ← ex6]; exact c7)⟩, by rw [ht]; exact hP9, hD9⟩, hS.F ht⟩) hS.2.2 dX9_isOf_20
    · refine lv_iconst (v := 1) hx hb dX9_isOf_15 (by decide) ?_
      refine lv_goto (tgt := 20) hx hb dX9_isOf_16 (by decide) ?_
      have hP9 := hP.sub (ws' := []) [] rfl
      have hD9 := hD.sub (ws' := []) [] (by decide) rfl
      exact W.zret (v := 1) hx hb hr (by decide) (fun t ht hW => ⟨⟨1, (), rfl, Or.inl ⟨rfl, ⟨b3, by rw [← ex5, ← ex6]; exact c7⟩⟩, by rw [ht]; exact hP9, hD9⟩, hS.F ht⟩) hS.2.2 dX9_isOf_20
  · refine lv_if_eq (tgt := 19) hx hb dX9_isOf_4 (by decide) (fun _ => ?_) (fun c8 => absurd (by decide) c8)
    refine lv_iconst (v := 0) hx hb dX9_isOf_19 (by decide) ?_
    have hP9 := hP.sub (ws' := []) [] rfl
    have hD9 := hD.sub (ws' := []) [] (by decide) rfl
    exact W.zret (v := 0) hx hb hr (by decide) (fun t ht hW => ⟨⟨0, (), rfl, Or.inr ⟨rfl, fun h => b3 h.1⟩, by rw [ht]; exact hP9, hD9⟩, hS.F ht⟩) hS.2.2 dX9_isOf_20

set_option maxHeartbeats 4000000 in
set_option maxRecDepth 100000 in
theorem c_isTreeQuestion (l : Launch) (G : Gy) (sz : Nat) (p0 : Int32) (p1 : Int32)  : Ci l G yX9_isTreeQuestion wsX9_isTreeQuestion ({ frames := 2, cells := 0, slots := 0, locals := 41 }) [.int p0, .int p1] [] sz (fun (r : Int32) (_ : Unit) => (r = 1 ∧ tqP p0 p1) ∨ (r = 0 ∧ ¬ tqP p0 p1)) (fun (_ : Unit) => []) 0 0 := by
  refine Met.ofW (cc := cX9_isTreeQuestion) (maxL := 2) (ret := (some .boolean)) (by decide) rfl ?_
  intro p e s m args below meth c s₁ B hml hv
  obtain ⟨rfl, hsz, hP, hD0, E0⟩ := hv
  have hx := B.exec
  have hb := B.bytes
  have hr := B.returns
  have hts := atoms_spec (ws := wsX9_isTreeQuestion) B.pre
  have hown : s.vm.findClass RX9 = some m.cls := findClass_of_methodNamed B.named
  have hlocks := B.notSynchronized
  subst hsz
  have hD := hD0.self (sz := s.heap.size)
  generalize hAe : va_A [] s.heap.size = A at hD E0 ⊢
  have E : EV G A s s.heap := E0
  have hA : ∀ q : Nat, s.heap.size ≤ q → A q := fun q h => by rw [← hAe]; exact Or.inr h
  have hS : va_S A s.heap s.heap [] := va_S.rf
  have hl := lv_entry ([.int p0, .int p1]) (n := 2) (Nat.le_of_ble_eq_true rfl)
  rw [lg_entry_eq]
  generalize (lg_sl ([.int p0, .int p1]) ++ List.replicate (2 - (lg_sl ([.int p0, .int p1])).length) Slot.unset).toArray = ls at hl ⊢
  have hl : lv_has ls 2 [(0, .int p0), (1, .int p1)] := hl
  have hP : va_P G.1 vwCl [] s.heap := hP
  refine lv_iload_n hx hb dX9_isTreeQuestion_0 rfl (lv_at hl 1 rfl) ?_
  refine lv_if_eq (tgt := 26) hx hb dX9_isTreeQuestion_1 (by decide) (fun c1 => ?_) (fun c1 => ?_)
  · refine lv_iconst (v := 1) hx hb dX9_isTreeQuestion_26 (by decide) ?_
    refine lv_goto (tgt := 31) hx hb dX9_isTreeQuestion_27 (by decide) ?_
    have hP9 := hP.sub (ws' := []) [] rfl
    have hD9 := hD.sub (ws' := []) [] (by decide) rfl
    exact W.zret (v := 1) hx hb hr (by decide) (fun t ht hW => ⟨⟨1, (), rfl, Or.inl ⟨rfl, by first | exact Or.inl (by assumption) | exact Or.inr (Or.inl (by assumption)) | exact Or.inr (Or.inr ⟨by ((try simp only [inR, inS, i3_lt, i3_le, i3_eq, i6_lt, i6_le, Int32.toInt_toInt64, lg_cmp_lt, lg_cmp_gt, lg_cmp_ge, lg_cmp_le, Int32.reduceToInt, Int64.reduceToInt] at c1 ⊢); omega), by subst_vars; assumption⟩) | (rintro (h | h | ⟨h, g⟩) <;> first | (exact absurd h (by assumption)) | (exact absurd g (by subst_vars; assumption)) | (((try simp only [inR, inS, i3_lt, i3_le, i3_eq, i6_lt, i6_le, Int32.toInt_toInt64, lg_cmp_lt, lg_cmp_gt, lg_cmp_ge, lg_cmp_le, Int32.reduceToInt, Int64.reduceToInt] at c1 h); omega)))⟩, by rw [ht]; exact hP9, hD9⟩, hS.F ht⟩) hS.2.2 dX9_isTreeQuestion_31
  · refine lv_iload_n hx hb dX9_isTreeQuestion_4 rfl (lv_at hl 1 rfl) ?_
    refine lv_iconst (v := 1) hx hb dX9_isTreeQuestion_5 (by decide) ?_
    refine lv_icmp_eq (tgt := 26) hx hb dX9_isTreeQuestion_6 (by decide) (fun c2 => ?_) (fun c2 => ?_)
    · refine lv_iconst (v := 1) hx hb dX9_isTreeQuestion_26 (by decide) ?_
      refine lv_goto (tgt := 31) hx hb dX9_isTreeQuestion_27 (by decide) ?_
      have hP9 := hP.sub (ws' := []) [] rfl
      have hD9 := hD.sub (ws' := []) [] (by decide) rfl
      exact W.zret (v := 1) hx hb hr (by decide) (fun t ht hW => ⟨⟨1, (), rfl, Or.inl ⟨rfl, by first | exact Or.inl (by assumption) | exact Or.inr (Or.inl (by assumption)) | exact Or.inr (Or.inr ⟨by ((try simp only [inR, inS, i3_lt, i3_le, i3_eq, i6_lt, i6_le, Int32.toInt_toInt64, lg_cmp_lt, lg_cmp_gt, lg_cmp_ge, lg_cmp_le, Int32.reduceToInt, Int64.reduceToInt] at c1 c2 ⊢); omega), by subst_vars; assumption⟩) | (rintro (h | h | ⟨h, g⟩) <;> first | (exact absurd h (by assumption)) | (exact absurd g (by subst_vars; assumption)) | (((try simp only [inR, inS, i3_lt, i3_le, i3_eq, i6_lt, i6_le, Int32.toInt_toInt64, lg_cmp_lt, lg_cmp_gt, lg_cmp_ge, lg_cmp_le, Int32.reduceToInt, Int64.reduceToInt] at c1 c2 h); omega)))⟩, by rw [ht]; exact hP9, hD9⟩, hS.F ht⟩) hS.2.2 dX9_isTreeQuestion_31
    · refine lv_iload_n hx hb dX9_isTreeQuestion_9 rfl (lv_at hl 1 rfl) ?_
      refine lv_bipush (v := 10) hx hb dX9_isTreeQuestion_10 (by decide) ?_
      refine lv_icmp_lt (tgt := 30) hx hb dX9_isTreeQuestion_12 (by decide) (fun c3 => ?_) (fun c3 => ?_)
      · refine lv_iconst (v := 0) hx hb dX9_isTreeQuestion_30 (by decide) ?_
        have hP9 := hP.sub (ws' := []) [] rfl
        have hD9 := hD.sub (ws' := []) [] (by decide) rfl
        exact W.zret (v := 0) hx hb hr (by decide) (fun t ht hW => ⟨⟨0, (), rfl, Or.inr ⟨rfl, by first | exact Or.inl (by assumption) | exact Or.inr (Or.inl (by assumption)) | exact Or.inr (Or.inr ⟨by ((try simp only [inR, inS, i3_lt, i3_le, i3_eq, i6_lt, i6_le, Int32.toInt_toInt64, lg_cmp_lt, lg_cmp_gt, lg_cmp_ge, lg_cmp_le, Int32.reduceToInt, Int64.reduceToInt] at c1 c2 c3 ⊢); omega), by subst_vars; assumption⟩) | (rintro (h | h | ⟨h, g⟩) <;> first | (exact absurd h (by assumption)) | (exact absurd g (by subst_vars; assumption)) | (((try simp only [inR, inS, i3_lt, i3_le, i3_eq, i6_lt, i6_le, Int32.toInt_toInt64, lg_cmp_lt, lg_cmp_gt, lg_cmp_ge, lg_cmp_le, Int32.reduceToInt, Int64.reduceToInt] at c1 c2 c3 h); omega)))⟩, by rw [ht]; exact hP9, hD9⟩, hS.F ht⟩) hS.2.2 dX9_isTreeQuestion_31
      · refine lv_iload_n hx hb dX9_isTreeQuestion_15 rfl (lv_at hl 0 rfl) ?_
        refine lv_iload_n hx hb dX9_isTreeQuestion_16 rfl (lv_at hl 1 rfl) ?_
        refine lv_bipush (v := 10) hx hb dX9_isTreeQuestion_17 (by decide) ?_
        refine lv_isub hx hb dX9_isTreeQuestion_19 ?_
        refine lv_topi (fun x4 ex4 => ?_)
        refine ca_iR (va_runS (As := [.int p0, .int x4]) (rest := []) ⟨hx, hb, hml, hown, hts⟩ (c_isOf l G s.heap.size p0 x4) (va_cwS 2 hts gX9_isTreeQuestion_X9_isOf rfl rfl rfl (by decide +kernel) ⟨by decide, by decide⟩) (pre_S E hP hD hS hA [] (by decide) rfl) rfl rfl hl.1 rfl (lv_room (by decide)) dX9_isTreeQuestion_20 ⟨by decide, by decide⟩) hS hP hD hA [] rfl (fun r6 _ H locs w5 hP hS => ?_)
        rcases w5 with ⟨rfl, b7⟩ | ⟨rfl, b7⟩
        · refine lv_if_eq (tgt := 30) hx hb dX9_isTreeQuestion_23 (by decide) (fun c8 => absurd c8 (by decide)) (fun _ => ?_)
          refine lv_iconst (v := 1) hx hb dX9_isTreeQuestion_26 (by decide) ?_
          refine lv_goto (tgt := 31) hx hb dX9_isTreeQuestion_27 (by decide) ?_
          have hP9 := hP.sub (ws' := []) [] rfl
          have hD9 := hD.sub (ws' := []) [] (by decide) rfl
          exact W.zret (v := 1) hx hb hr (by decide) (fun t ht hW => ⟨⟨1, (), rfl, Or.inl ⟨rfl, by first | exact Or.inl (by assumption) | exact Or.inr (Or.inl (by assumption)) | exact Or.inr (Or.inr ⟨by ((try simp only [inR, inS, i3_lt, i3_le, i3_eq, i6_lt, i6_le, Int32.toInt_toInt64, lg_cmp_lt, lg_cmp_gt, lg_cmp_ge, lg_cmp_le, Int32.reduceToInt, Int64.reduceToInt] at c1 c2 c3 ⊢); omega), by subst_vars; assumption⟩) | (rintro (h | h | ⟨h, g⟩) <;> first | (exact absurd h (by assumption)) | (exact absurd g (by subst_vars; assumption)) | (((try simp only [inR, inS, i3_lt, i3_le, i3_eq, i6_lt, i6_le, Int32.toInt_toInt64, lg_cmp_lt, lg_cmp_gt, lg_cmp_ge, lg_cmp_le, Int32.reduceToInt, Int64.reduceToInt] at c1 c2 c3 h); omega)))⟩, by rw [ht]; exact hP9, hD9⟩, hS.F ht⟩) hS.2.2 dX9_isTreeQuestion_31
        · refine lv_if_eq (tgt := 30) hx hb dX9_isTreeQuestion_23 (by decide) (fun _ => ?_) (fun c9 => absurd (by decide) c9)
          refine lv_iconst (v := 0) hx hb dX9_isTreeQuestion_30 (by decide) ?_
          have hP9 := hP.sub (ws' := []) [] rfl
          have hD9 := hD.sub (ws' := []) [] (by decide) rfl
          exact W.zret (v := 0) hx hb hr (by decide) (fun t ht hW => ⟨⟨0, (), rfl, Or.inr ⟨rfl, by first | exact Or.inl (by assumption) | exact Or.inr (Or.inl (by assumption)) | exact Or.inr (Or.inr ⟨by ((try simp only [inR, inS, i3_lt, i3_le, i3_eq, i6_lt, i6_le, Int32.toInt_toInt64, lg_cmp_lt, lg_cmp_gt, lg_cmp_ge, lg_cmp_le, Int32.reduceToInt, Int64.reduceToInt] at c1 c2 c3 ⊢); omega), by subst_vars; assumption⟩) | (rintro (h | h | ⟨h, g⟩) <;> first | (exact absurd h (by assumption)) | (exact absurd g (by subst_vars; assumption)) | (((try simp only [inR, inS, i3_lt, i3_le, i3_eq, i6_lt, i6_le, Int32.toInt_toInt64, lg_cmp_lt, lg_cmp_gt, lg_cmp_ge, lg_cmp_le, Int32.reduceToInt, Int64.reduceToInt] at c1 c2 c3 h); omega)))⟩, by rw [ht]; exact hP9, hD9⟩, hS.F ht⟩) hS.2.2 dX9_isTreeQuestion_31

set_option maxHeartbeats 4000000 in
set_option maxRecDepth 100000 in
theorem c_isSite (l : Launch) (G : Gy) (sz : Nat) (h0 : Nat) (pad : Nat) (pp : Nat) (im : Nat) (vse : Value) (vtr : Value) (ac : Nat) (ak : Nat) (n : Int32) (told : Int32) (sp : Int32) (gr : Int32) (p0 : Int32)  : Ci l G yX9_isSite wsX9_isSite ({ frames := 0, cells := 0, slots := 0, locals := 0 }) [.ref h0, .int p0] [(h0, .inr (5, [.ref pad, .ref pp, .ref im, vse, vtr])), (pp, .inr (1, [.int n, .int told, .int sp, .int gr, .ref ac, .ref ak]))] sz (fun (r : Int32) (_ : Unit) => (r = 1 ∧ inS p0 n) ∨ (r = 0 ∧ ¬ inS p0 n)) (fun (_ : Unit) => [(h0, .inr (5, [.ref pad, .ref pp, .ref im, vse, vtr])), (pp, .inr (1, [.int n, .int told, .int sp, .int gr, .ref ac, .ref ak]))]) 0 0 := by
  refine Met.ofW (cc := cX9_isSite) (maxL := 2) (ret := (some .boolean)) (by decide) rfl ?_
  intro p e s m args below meth c s₁ B hml hv
  obtain ⟨rfl, hsz, hP, hD0, E0⟩ := hv
  have hx := B.exec
  have hb := B.bytes
  have hr := B.returns
  have hts := atoms_spec (ws := wsX9_isSite) B.pre
  have hown : s.vm.findClass RX9 = some m.cls := findClass_of_methodNamed B.named
  have hlocks := B.notSynchronized
  subst hsz
  have hD := hD0.self (sz := s.heap.size)
  generalize hAe : va_A [(h0, .inr (5, [.ref pad, .ref pp, .ref im, vse, vtr])), (pp, .inr (1, [.int n, .int told, .int sp, .int gr, .ref ac, .ref ak]))] s.heap.size = A at hD E0 ⊢
  have E : EV G A s s.heap := E0
  have hA : ∀ q : Nat, s.heap.size ≤ q → A q := fun q h => by rw [← hAe]; exact Or.inr h
  have hS : va_S A s.heap s.heap [] := va_S.rf
  have hl := lv_entry ([.ref h0, .int p0]) (n := 2) (Nat.le_of_ble_eq_true rfl)
  rw [lg_entry_eq]
  generalize (lg_sl ([.ref h0, .int p0]) ++ List.replicate (2 - (lg_sl ([.ref h0, .int p0])).length) Slot.unset).toArray = ls at hl ⊢
  have hl : lv_has ls 2 [(0, .ref h0), (1, .int p0)] := hl
  have hP : va_P G.1 vwCl [(h0, .inr (5, [.ref pad, .ref pp, .ref im, vse, vtr])), (pp, .inr (1, [.int n, .int told, .int sp, .int gr, .ref ac, .ref ak]))] s.heap := hP
  refine lv_iload_n hx hb dX9_isSite_0 rfl (lv_at hl 1 rfl) ?_
  refine lv_if_lt (tgt := 19) hx hb dX9_isSite_1 (by decide) (fun c1 => ?_) (fun c1 => ?_)
  · refine lv_iconst (v := 0) hx hb dX9_isSite_19 (by decide) ?_
    have hP9 := hP.sub (ws' := [(h0, .inr (5, [.ref pad, .ref pp, .ref im, vse, vtr])), (pp, .inr (1, [.int n, .int told, .int sp, .int gr, .ref ac, .ref ak]))]) [0, 1] rfl
    have hD9 := hD.sub (ws' := [(h0, .inr (5, [.ref pad, .ref pp, .ref im, vse, vtr])), (pp, .inr (1, [.int n, .int told, .int sp, .int gr, .ref ac, .ref ak]))]) [0, 1] (by decide) rfl
    exact W.zret (v := 0) hx hb hr (by decide) (fun t ht hW => ⟨⟨0, (), rfl, Or.inr ⟨rfl, by unfold inS; ((try simp only [inR, inS, i3_lt, i3_le, i3_eq, i6_lt, i6_le, Int32.toInt_toInt64, lg_cmp_lt, lg_cmp_gt, lg_cmp_ge, lg_cmp_le, Int32.reduceToInt, Int64.reduceToInt] at c1 ⊢); omega)⟩, by rw [ht]; exact hP9, hD9⟩, hS.F ht⟩) hS.2.2 dX9_isSite_20
  · refine lv_iload_n hx hb dX9_isSite_4 rfl (lv_at hl 1 rfl) ?_
    refine lv_aload_n hx hb dX9_isSite_5 rfl (lv_at hl 0 rfl) ?_
    refine va_get (D := G.1) (ci := 5) (v := .ref pp) (C := RX9) (T := TX9) (N := 5) hx hb hts (fun _ h => List.mem_cons_of_mem _ (List.mem_append_left _ (List.mem_append_right _ h))) hown E.K hP 0 rfl rfl 1 (by decide) (hts (.fieldLink RX9 19 "LastMap" "papers" "LLastMap$Papers;") (by decide +kernel)) (fun _ h9 => h9) rfl dX9_isSite_6 ?_
    refine va_get (D := G.1) (ci := 1) (v := .int n) (C := RX3) (T := TX3) (N := 6) hx hb hts (fun _ h => List.mem_cons_of_mem _ (List.mem_append_right _ h)) hown E.K hP 1 rfl rfl 0 (by decide) (hts (.fieldLink RX9 27 "LastMap$Papers" "siteCount" "I") (by decide +kernel)) (fun _ h9 => h9) rfl dX9_isSite_9 ?_
    refine lv_icmp_ge (tgt := 19) hx hb dX9_isSite_12 (by decide) (fun c2 => ?_) (fun c2 => ?_)
    · refine lv_iconst (v := 0) hx hb dX9_isSite_19 (by decide) ?_
      have hP9 := hP.sub (ws' := [(h0, .inr (5, [.ref pad, .ref pp, .ref im, vse, vtr])), (pp, .inr (1, [.int n, .int told, .int sp, .int gr, .ref ac, .ref ak]))]) [0, 1] rfl
      have hD9 := hD.sub (ws' := [(h0, .inr (5, [.ref pad, .ref pp, .ref im, vse, vtr])), (pp, .inr (1, [.int n, .int told, .int sp, .int gr, .ref ac, .ref ak]))]) [0, 1] (by decide) rfl
      exact W.zret (v := 0) hx hb hr (by decide) (fun t ht hW => ⟨⟨0, (), rfl, Or.inr ⟨rfl, by unfold inS; ((try simp only [inR, inS, i3_lt, i3_le, i3_eq, i6_lt, i6_le, Int32.toInt_toInt64, lg_cmp_lt, lg_cmp_gt, lg_cmp_ge, lg_cmp_le, Int32.reduceToInt, Int64.reduceToInt] at c1 c2 ⊢); omega)⟩, by rw [ht]; exact hP9, hD9⟩, hS.F ht⟩) hS.2.2 dX9_isSite_20
    · refine lv_iconst (v := 1) hx hb dX9_isSite_15 (by decide) ?_
      refine lv_goto (tgt := 20) hx hb dX9_isSite_16 (by decide) ?_
      have hP9 := hP.sub (ws' := [(h0, .inr (5, [.ref pad, .ref pp, .ref im, vse, vtr])), (pp, .inr (1, [.int n, .int told, .int sp, .int gr, .ref ac, .ref ak]))]) [0, 1] rfl
      have hD9 := hD.sub (ws' := [(h0, .inr (5, [.ref pad, .ref pp, .ref im, vse, vtr])), (pp, .inr (1, [.int n, .int told, .int sp, .int gr, .ref ac, .ref ak]))]) [0, 1] (by decide) rfl
      exact W.zret (v := 1) hx hb hr (by decide) (fun t ht hW => ⟨⟨1, (), rfl, Or.inl ⟨rfl, by unfold inS; ((try simp only [inR, inS, i3_lt, i3_le, i3_eq, i6_lt, i6_le, Int32.toInt_toInt64, lg_cmp_lt, lg_cmp_gt, lg_cmp_ge, lg_cmp_le, Int32.reduceToInt, Int64.reduceToInt] at c1 c2 ⊢); omega)⟩, by rw [ht]; exact hP9, hD9⟩, hS.F ht⟩) hS.2.2 dX9_isSite_20

set_option maxHeartbeats 4000000 in
set_option maxRecDepth 100000 in
theorem c_isTold (l : Launch) (G : Gy) (sz : Nat) (h0 : Nat) (pad : Nat) (pp : Nat) (im : Nat) (vse : Value) (vtr : Value) (ac : Nat) (ak : Nat) (n : Int32) (told : Int32) (sp : Int32) (gr : Int32) (p0 : Int32)  : Ci l G yX9_isTold wsX9_isTold ({ frames := 2, cells := 0, slots := 0, locals := 41 }) [.ref h0, .int p0] [(h0, .inr (5, [.ref pad, .ref pp, .ref im, vse, vtr])), (pp, .inr (1, [.int n, .int told, .int sp, .int gr, .ref ac, .ref ak]))] sz (fun (r : Int32) (_ : Unit) => (r = 1 ∧ isOfP told p0) ∨ (r = 0 ∧ ¬ isOfP told p0)) (fun (_ : Unit) => [(h0, .inr (5, [.ref pad, .ref pp, .ref im, vse, vtr])), (pp, .inr (1, [.int n, .int told, .int sp, .int gr, .ref ac, .ref ak]))]) 0 0 := by
  refine Met.ofW (cc := cX9_isTold) (maxL := 2) (ret := (some .boolean)) (by decide) rfl ?_
  intro p e s m args below meth c s₁ B hml hv
  obtain ⟨rfl, hsz, hP, hD0, E0⟩ := hv
  have hx := B.exec
  have hb := B.bytes
  have hr := B.returns
  have hts := atoms_spec (ws := wsX9_isTold) B.pre
  have hown : s.vm.findClass RX9 = some m.cls := findClass_of_methodNamed B.named
  have hlocks := B.notSynchronized
  subst hsz
  have hD := hD0.self (sz := s.heap.size)
  generalize hAe : va_A [(h0, .inr (5, [.ref pad, .ref pp, .ref im, vse, vtr])), (pp, .inr (1, [.int n, .int told, .int sp, .int gr, .ref ac, .ref ak]))] s.heap.size = A at hD E0 ⊢
  have E : EV G A s s.heap := E0
  have hA : ∀ q : Nat, s.heap.size ≤ q → A q := fun q h => by rw [← hAe]; exact Or.inr h
  have hS : va_S A s.heap s.heap [] := va_S.rf
  have hl := lv_entry ([.ref h0, .int p0]) (n := 2) (Nat.le_of_ble_eq_true rfl)
  rw [lg_entry_eq]
  generalize (lg_sl ([.ref h0, .int p0]) ++ List.replicate (2 - (lg_sl ([.ref h0, .int p0])).length) Slot.unset).toArray = ls at hl ⊢
  have hl : lv_has ls 2 [(0, .ref h0), (1, .int p0)] := hl
  have hP : va_P G.1 vwCl [(h0, .inr (5, [.ref pad, .ref pp, .ref im, vse, vtr])), (pp, .inr (1, [.int n, .int told, .int sp, .int gr, .ref ac, .ref ak]))] s.heap := hP
  refine lv_aload_n hx hb dX9_isTold_0 rfl (lv_at hl 0 rfl) ?_
  refine va_get (D := G.1) (ci := 5) (v := .ref pp) (C := RX9) (T := TX9) (N := 5) hx hb hts (fun _ h => List.mem_cons_of_mem _ (List.mem_append_left _ (List.mem_append_right _ h))) hown E.K hP 0 rfl rfl 1 (by decide) (hts (.fieldLink RX9 19 "LastMap" "papers" "LLastMap$Papers;") (by decide +kernel)) (fun _ h9 => h9) rfl dX9_isTold_1 ?_
  refine va_get (D := G.1) (ci := 1) (v := .int told) (C := RX3) (T := TX3) (N := 6) hx hb hts (fun _ h => List.mem_cons_of_mem _ (List.mem_append_right _ h)) hown E.K hP 1 rfl rfl 1 (by decide) (hts (.fieldLink RX9 31 "LastMap$Papers" "toldMaps" "I") (by decide +kernel)) (fun _ h9 => h9) rfl dX9_isTold_4 ?_
  refine lv_iload_n hx hb dX9_isTold_7 rfl (lv_at hl 1 rfl) ?_
  refine ca_iR (va_runS (As := [.int told, .int p0]) (rest := []) ⟨hx, hb, hml, hown, hts⟩ (c_isOf l G s.heap.size told p0) (va_cwS 2 hts gX9_isTold_X9_isOf rfl rfl rfl (by decide +kernel) ⟨by decide, by decide⟩) (pre_S E hP hD hS hA [] (by decide) rfl) rfl rfl hl.1 rfl (lv_room (by decide)) dX9_isTold_8 ⟨by decide, by decide⟩) hS hP hD hA [] rfl (fun r2 _ H locs w1 hP hS => ?_)
  rcases w1 with ⟨rfl, b3⟩ | ⟨rfl, b3⟩
  · have hP9 := hP.sub (ws' := [(h0, .inr (5, [.ref pad, .ref pp, .ref im, vse, vtr])), (pp, .inr (1, [.int n, .int told, .int sp, .int gr, .ref ac, .ref ak]))]) [0, 1] rfl
    have hD9 := hD.sub (ws' := [(h0, .inr (5, [.ref pad, .ref pp, .ref im, vse, vtr])), (pp, .inr (1, [.int n, .int told, .int sp, .int gr, .ref ac, .ref ak]))]) [0, 1] (by decide) rfl
    exact W.zret (v := 1) hx hb hr (by decide) (fun t ht hW => ⟨⟨1, (), rfl, Or.inl ⟨rfl, b3⟩, by rw [ht]; exact hP9, hD9⟩, hS.F ht⟩) hS.2.2 dX9_isTold_11
  · have hP9 := hP.sub (ws' := [(h0, .inr (5, [.ref pad, .ref pp, .ref im, vse, vtr])), (pp, .inr (1, [.int n, .int told, .int sp, .int gr, .ref ac, .ref ak]))]) [0, 1] rfl
    have hD9 := hD.sub (ws' := [(h0, .inr (5, [.ref pad, .ref pp, .ref im, vse, vtr])), (pp, .inr (1, [.int n, .int told, .int sp, .int gr, .ref ac, .ref ak]))]) [0, 1] (by decide) rfl
    exact W.zret (v := 0) hx hb hr (by decide) (fun t ht hW => ⟨⟨0, (), rfl, Or.inr ⟨rfl, b3⟩, by rw [ht]; exact hP9, hD9⟩, hS.F ht⟩) hS.2.2 dX9_isTold_11

set_option maxHeartbeats 4000000 in
set_option maxRecDepth 100000 in
theorem c_areTold (l : Launch) (G : Gy) (sz : Nat) (h0 : Nat) (pad : Nat) (pp : Nat) (im : Nat) (vse : Value) (vtr : Value) (ac : Nat) (ak : Nat) (n : Int32) (told : Int32) (sp : Int32) (gr : Int32) (p0 : Int32)  : Ci l G yX9_areTold wsX9_areTold ({ frames := 0, cells := 0, slots := 0, locals := 0 }) [.ref h0, .int p0] [(h0, .inr (5, [.ref pad, .ref pp, .ref im, vse, vtr])), (pp, .inr (1, [.int n, .int told, .int sp, .int gr, .ref ac, .ref ak]))] sz (fun (r : Int32) (_ : Unit) => (r = 1 ∧ told &&& p0 = p0) ∨ (r = 0 ∧ ¬ told &&& p0 = p0)) (fun (_ : Unit) => [(h0, .inr (5, [.ref pad, .ref pp, .ref im, vse, vtr])), (pp, .inr (1, [.int n, .int told, .int sp, .int gr, .ref ac, .ref ak]))]) 0 0 := by
  refine Met.ofW (cc := cX9_areTold) (maxL := 2) (ret := (some .boolean)) (by decide) rfl ?_
  intro p e s m args below meth c s₁ B hml hv
  obtain ⟨rfl, hsz, hP, hD0, E0⟩ := hv
  have hx := B.exec
  have hb := B.bytes
  have hr := B.returns
  have hts := atoms_spec (ws := wsX9_areTold) B.pre
  have hown : s.vm.findClass RX9 = some m.cls := findClass_of_methodNamed B.named
  have hlocks := B.notSynchronized
  subst hsz
  have hD := hD0.self (sz := s.heap.size)
  generalize hAe : va_A [(h0, .inr (5, [.ref pad, .ref pp, .ref im, vse, vtr])), (pp, .inr (1, [.int n, .int told, .int sp, .int gr, .ref ac, .ref ak]))] s.heap.size = A at hD E0 ⊢
  have E : EV G A s s.heap := E0
  have hA : ∀ q : Nat, s.heap.size ≤ q → A q := fun q h => by rw [← hAe]; exact Or.inr h
  have hS : va_S A s.heap s.heap [] := va_S.rf
  have hl := lv_entry ([.ref h0, .int p0]) (n := 2) (Nat.le_of_ble_eq_true rfl)
  rw [lg_entry_eq]
  generalize (lg_sl ([.ref h0, .int p0]) ++ List.replicate (2 - (lg_sl ([.ref h0, .int p0])).length) Slot.unset).toArray = ls at hl ⊢
  have hl : lv_has ls 2 [(0, .ref h0), (1, .int p0)] := hl
  have hP : va_P G.1 vwCl [(h0, .inr (5, [.ref pad, .ref pp, .ref im, vse, vtr])), (pp, .inr (1, [.int n, .int told, .int sp, .int gr, .ref ac, .ref ak]))] s.heap := hP
  refine lv_aload_n hx hb dX9_areTold_0 rfl (lv_at hl 0 rfl) ?_
  refine va_get (D := G.1) (ci := 5) (v := .ref pp) (C := RX9) (T := TX9) (N := 5) hx hb hts (fun _ h => List.mem_cons_of_mem _ (List.mem_append_left _ (List.mem_append_right _ h))) hown E.K hP 0 rfl rfl 1 (by decide) (hts (.fieldLink RX9 19 "LastMap" "papers" "LLastMap$Papers;") (by decide +kernel)) (fun _ h9 => h9) rfl dX9_areTold_1 ?_
  refine va_get (D := G.1) (ci := 1) (v := .int told) (C := RX3) (T := TX3) (N := 6) hx hb hts (fun _ h => List.mem_cons_of_mem _ (List.mem_append_right _ h)) hown E.K hP 1 rfl rfl 1 (by decide) (hts (.fieldLink RX9 31 "LastMap$Papers" "toldMaps" "I") (by decide +kernel)) (fun _ h9 => h9) rfl dX9_areTold_4 ?_
  refine lv_iload_n hx hb dX9_areTold_7 rfl (lv_at hl 1 rfl) ?_
  refine lv_iand hx hb dX9_areTold_8 ?_
  refine lv_topi (fun x1 ex1 => ?_)
  refine lv_iload_n hx hb dX9_areTold_9 rfl (lv_at hl 1 rfl) ?_
  refine lv_icmp_ne (tgt := 17) hx hb dX9_areTold_10 (by decide) (fun c2 => ?_) (fun c2 => ?_)
  · refine lv_iconst (v := 0) hx hb dX9_areTold_17 (by decide) ?_
    have hP9 := hP.sub (ws' := [(h0, .inr (5, [.ref pad, .ref pp, .ref im, vse, vtr])), (pp, .inr (1, [.int n, .int told, .int sp, .int gr, .ref ac, .ref ak]))]) [0, 1] rfl
    have hD9 := hD.sub (ws' := [(h0, .inr (5, [.ref pad, .ref pp, .ref im, vse, vtr])), (pp, .inr (1, [.int n, .int told, .int sp, .int gr, .ref ac, .ref ak]))]) [0, 1] (by decide) rfl
    exact W.zret (v := 0) hx hb hr (by decide) (fun t ht hW => ⟨⟨0, (), rfl, Or.inr ⟨rfl, by rw [← ex1]; exact c2⟩, by rw [ht]; exact hP9, hD9⟩, hS.F ht⟩) hS.2.2 dX9_areTold_18
  · refine lv_iconst (v := 1) hx hb dX9_areTold_13 (by decide) ?_
    refine lv_goto (tgt := 18) hx hb dX9_areTold_14 (by decide) ?_
    have hP9 := hP.sub (ws' := [(h0, .inr (5, [.ref pad, .ref pp, .ref im, vse, vtr])), (pp, .inr (1, [.int n, .int told, .int sp, .int gr, .ref ac, .ref ak]))]) [0, 1] rfl
    have hD9 := hD.sub (ws' := [(h0, .inr (5, [.ref pad, .ref pp, .ref im, vse, vtr])), (pp, .inr (1, [.int n, .int told, .int sp, .int gr, .ref ac, .ref ak]))]) [0, 1] (by decide) rfl
    exact W.zret (v := 1) hx hb hr (by decide) (fun t ht hW => ⟨⟨1, (), rfl, Or.inl ⟨rfl, by rw [← ex1]; exact c2⟩, by rw [ht]; exact hP9, hD9⟩, hS.F ht⟩) hS.2.2 dX9_areTold_18
end
