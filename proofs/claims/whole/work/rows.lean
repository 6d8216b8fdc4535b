section
-- ===== PART A: goes FIRST, ahead of the names: the tables' words, and 'selects' of the private methods out of them =====
/-- a private method of a class that the tables say can be made, by its rows of tables_1 -/
def lw_okq (q : MethodName × Nat) : Prop := (q.1.cls ≠ "java/lang/invoke/MethodHandle" ∧ q.1.cls ≠ "java/lang/invoke/VarHandle") ∧ Cond.instantiable q.1.cls q.2 ∈ tables_1 ∧ Cond.privateMethod q.1 ∈ tables_1 ∧ Cond.instanceMethod q.1 ∈ tables_1
theorem lw_p0 : lw_okq (⟨"NetlistBench", "digestCircuit", "(J)J"⟩, 4) := ⟨⟨by decide +kernel, by decide +kernel⟩, List.mem_of_getElem? (i := 24) (by decide +kernel), List.mem_of_getElem? (i := 102) (by decide +kernel), List.mem_of_getElem? (i := 103) (by decide +kernel)⟩
theorem lw_p1 : lw_okq (⟨"NetlistBench", "countOf", "(I)I"⟩, 4) := ⟨⟨by decide +kernel, by decide +kernel⟩, List.mem_of_getElem? (i := 24) (by decide +kernel), List.mem_of_getElem? (i := 106) (by decide +kernel), List.mem_of_getElem? (i := 107) (by decide +kernel)⟩
theorem lw_p2 : lw_okq (⟨"NetlistBench", "countRails", "()I"⟩, 4) := ⟨⟨by decide +kernel, by decide +kernel⟩, List.mem_of_getElem? (i := 24) (by decide +kernel), List.mem_of_getElem? (i := 114) (by decide +kernel), List.mem_of_getElem? (i := 115) (by decide +kernel)⟩
theorem lw_p3 : lw_okq (⟨"NetlistBench", "countToggles", "()I"⟩, 4) := ⟨⟨by decide +kernel, by decide +kernel⟩, List.mem_of_getElem? (i := 24) (by decide +kernel), List.mem_of_getElem? (i := 133) (by decide +kernel), List.mem_of_getElem? (i := 134) (by decide +kernel)⟩
theorem lw_p4 : lw_okq (⟨"NetlistBench", "digestPotentials", "(JI)J"⟩, 4) := ⟨⟨by decide +kernel, by decide +kernel⟩, List.mem_of_getElem? (i := 24) (by decide +kernel), List.mem_of_getElem? (i := 153) (by decide +kernel), List.mem_of_getElem? (i := 154) (by decide +kernel)⟩
theorem lw_p5 : lw_okq (⟨"NetlistBench", "settle", "(I)V"⟩, 4) := ⟨⟨by decide +kernel, by decide +kernel⟩, List.mem_of_getElem? (i := 24) (by decide +kernel), List.mem_of_getElem? (i := 157) (by decide +kernel), List.mem_of_getElem? (i := 158) (by decide +kernel)⟩
theorem lw_p6 : lw_okq (⟨"NetlistBench", "group", "(I)V"⟩, 4) := ⟨⟨by decide +kernel, by decide +kernel⟩, List.mem_of_getElem? (i := 24) (by decide +kernel), List.mem_of_getElem? (i := 161) (by decide +kernel), List.mem_of_getElem? (i := 162) (by decide +kernel)⟩
theorem lw_p7 : lw_okq (⟨"NetlistBench$Element", "togglesBefore", "(I)I"⟩, 7) := ⟨⟨by decide +kernel, by decide +kernel⟩, List.mem_of_getElem? (i := 171) (by decide +kernel), List.mem_of_getElem? (i := 169) (by decide +kernel), List.mem_of_getElem? (i := 170) (by decide +kernel)⟩
theorem lw_p8 : lw_okq (⟨"NetlistBench", "join", "(I)V"⟩, 4) := ⟨⟨by decide +kernel, by decide +kernel⟩, List.mem_of_getElem? (i := 24) (by decide +kernel), List.mem_of_getElem? (i := 174) (by decide +kernel), List.mem_of_getElem? (i := 175) (by decide +kernel)⟩
theorem lw_p9 : lw_okq (⟨"NetlistBench", "isAfloat", "(I)Z"⟩, 4) := ⟨⟨by decide +kernel, by decide +kernel⟩, List.mem_of_getElem? (i := 24) (by decide +kernel), List.mem_of_getElem? (i := 189) (by decide +kernel), List.mem_of_getElem? (i := 190) (by decide +kernel)⟩
theorem lw_p10 : lw_okq (⟨"NetlistBench", "conduct", "(I)V"⟩, 4) := ⟨⟨by decide +kernel, by decide +kernel⟩, List.mem_of_getElem? (i := 24) (by decide +kernel), List.mem_of_getElem? (i := 201) (by decide +kernel), List.mem_of_getElem? (i := 202) (by decide +kernel)⟩
theorem lw_p11 : lw_okq (⟨"NetlistBench$Equations", "linkOneWay", "(IIJ)V"⟩, 5) := ⟨⟨by decide +kernel, by decide +kernel⟩, List.mem_of_getElem? (i := 58) (by decide +kernel), List.mem_of_getElem? (i := 209) (by decide +kernel), List.mem_of_getElem? (i := 210) (by decide +kernel)⟩
theorem lw_p12 : lw_okq (⟨"NetlistBench$Equations", "allColumns", "()I"⟩, 5) := ⟨⟨by decide +kernel, by decide +kernel⟩, List.mem_of_getElem? (i := 58) (by decide +kernel), List.mem_of_getElem? (i := 217) (by decide +kernel), List.mem_of_getElem? (i := 218) (by decide +kernel)⟩
theorem lw_p13 : lw_okq (⟨"NetlistBench$Equations", "expand", "(I)J"⟩, 5) := ⟨⟨by decide +kernel, by decide +kernel⟩, List.mem_of_getElem? (i := 58) (by decide +kernel), List.mem_of_getElem? (i := 221) (by decide +kernel), List.mem_of_getElem? (i := 222) (by decide +kernel)⟩
theorem lw_p14 : lw_okq (⟨"NetlistBench", "firstToggleBehind", "(I)I"⟩, 4) := ⟨⟨by decide +kernel, by decide +kernel⟩, List.mem_of_getElem? (i := 24) (by decide +kernel), List.mem_of_getElem? (i := 251) (by decide +kernel), List.mem_of_getElem? (i := 252) (by decide +kernel)⟩
theorem lw_p15 : lw_okq (⟨"java/lang/Throwable", "fillInStackTrace", "(I)Ljava/lang/Throwable;"⟩, 6) := ⟨⟨by decide +kernel, by decide +kernel⟩, List.mem_of_getElem? (i := 306) (by decide +kernel), List.mem_of_getElem? (i := 304) (by decide +kernel), List.mem_of_getElem? (i := 305) (by decide +kernel)⟩
def lw_privs_1 : List (MethodName × Nat) := [(⟨"NetlistBench", "digestCircuit", "(J)J"⟩, 4), (⟨"NetlistBench", "countOf", "(I)I"⟩, 4), (⟨"NetlistBench", "countRails", "()I"⟩, 4), (⟨"NetlistBench", "countToggles", "()I"⟩, 4), (⟨"NetlistBench", "digestPotentials", "(JI)J"⟩, 4), (⟨"NetlistBench", "settle", "(I)V"⟩, 4), (⟨"NetlistBench", "group", "(I)V"⟩, 4), (⟨"NetlistBench$Element", "togglesBefore", "(I)I"⟩, 7), (⟨"NetlistBench", "join", "(I)V"⟩, 4), (⟨"NetlistBench", "isAfloat", "(I)Z"⟩, 4), (⟨"NetlistBench", "conduct", "(I)V"⟩, 4), (⟨"NetlistBench$Equations", "linkOneWay", "(IIJ)V"⟩, 5), (⟨"NetlistBench$Equations", "allColumns", "()I"⟩, 5), (⟨"NetlistBench$Equations", "expand", "(I)J"⟩, 5), (⟨"NetlistBench", "firstToggleBehind", "(I)I"⟩, 4), (⟨"java/lang/Throwable", "fillInStackTrace", "(I)Ljava/lang/Throwable;"⟩, 6)]
theorem lw_r1 : ∀ q ∈ lw_privs_1, lw_okq q := List.forall_mem_cons.mpr ⟨lw_p0, List.forall_mem_cons.mpr ⟨lw_p1, List.forall_mem_cons.mpr ⟨lw_p2, List.forall_mem_cons.mpr ⟨lw_p3, List.forall_mem_cons.mpr ⟨lw_p4, List.forall_mem_cons.mpr ⟨lw_p5, List.forall_mem_cons.mpr ⟨lw_p6, List.forall_mem_cons.mpr ⟨lw_p7, List.forall_mem_cons.mpr ⟨lw_p8, List.forall_mem_cons.mpr ⟨lw_p9, List.forall_mem_cons.mpr ⟨lw_p10, List.forall_mem_cons.mpr ⟨lw_p11, List.forall_mem_cons.mpr ⟨lw_p12, List.forall_mem_cons.mpr ⟨lw_p13, List.forall_mem_cons.mpr ⟨lw_p14, List.forall_mem_cons.mpr ⟨lw_p15, fun _ h => absurd h List.not_mem_nil⟩⟩⟩⟩⟩⟩⟩⟩⟩⟩⟩⟩⟩⟩⟩⟩
theorem lw_p16 : lw_okq (⟨"java/util/ArrayList", "add", "(Ljava/lang/Object;[Ljava/lang/Object;I)V"⟩, 3) := ⟨⟨by decide +kernel, by decide +kernel⟩, List.mem_of_getElem? (i := 32) (by decide +kernel), List.mem_of_getElem? (i := 354) (by decide +kernel), List.mem_of_getElem? (i := 355) (by decide +kernel)⟩
theorem lw_p17 : lw_okq (⟨"java/util/ArrayList", "grow", "()[Ljava/lang/Object;"⟩, 3) := ⟨⟨by decide +kernel, by decide +kernel⟩, List.mem_of_getElem? (i := 32) (by decide +kernel), List.mem_of_getElem? (i := 358) (by decide +kernel), List.mem_of_getElem? (i := 359) (by decide +kernel)⟩
theorem lw_p18 : lw_okq (⟨"java/util/ArrayList", "grow", "(I)[Ljava/lang/Object;"⟩, 3) := ⟨⟨by decide +kernel, by decide +kernel⟩, List.mem_of_getElem? (i := 32) (by decide +kernel), List.mem_of_getElem? (i := 362) (by decide +kernel), List.mem_of_getElem? (i := 363) (by decide +kernel)⟩
theorem lw_p19 : lw_okq (⟨"NetlistBench", "checkNode", "(I)V"⟩, 4) := ⟨⟨by decide +kernel, by decide +kernel⟩, List.mem_of_getElem? (i := 24) (by decide +kernel), List.mem_of_getElem? (i := 415) (by decide +kernel), List.mem_of_getElem? (i := 416) (by decide +kernel)⟩
theorem lw_p20 : lw_okq (⟨"NetlistBench", "checkElement", "(I)V"⟩, 4) := ⟨⟨by decide +kernel, by decide +kernel⟩, List.mem_of_getElem? (i := 24) (by decide +kernel), List.mem_of_getElem? (i := 503) (by decide +kernel), List.mem_of_getElem? (i := 504) (by decide +kernel)⟩
theorem lw_p21 : lw_okq (⟨"NetlistBench", "checkGrounded", "(I)V"⟩, 4) := ⟨⟨by decide +kernel, by decide +kernel⟩, List.mem_of_getElem? (i := 24) (by decide +kernel), List.mem_of_getElem? (i := 592) (by decide +kernel), List.mem_of_getElem? (i := 593) (by decide +kernel)⟩
theorem lw_p22 : lw_okq (⟨"NetlistBench", "flowOut", "(LNetlistBench$Element;I)J"⟩, 4) := ⟨⟨by decide +kernel, by decide +kernel⟩, List.mem_of_getElem? (i := 24) (by decide +kernel), List.mem_of_getElem? (i := 604) (by decide +kernel), List.mem_of_getElem? (i := 605) (by decide +kernel)⟩
theorem lw_p23 : lw_okq (⟨"NetlistBench", "drive", "(III)V"⟩, 4) := ⟨⟨by decide +kernel, by decide +kernel⟩, List.mem_of_getElem? (i := 24) (by decide +kernel), List.mem_of_getElem? (i := 624) (by decide +kernel), List.mem_of_getElem? (i := 625) (by decide +kernel)⟩
theorem lw_p24 : lw_okq (⟨"NetlistBench", "quotientAt", "(I)D"⟩, 4) := ⟨⟨by decide +kernel, by decide +kernel⟩, List.mem_of_getElem? (i := 24) (by decide +kernel), List.mem_of_getElem? (i := 635) (by decide +kernel), List.mem_of_getElem? (i := 636) (by decide +kernel)⟩
theorem lw_p25 : lw_okq (⟨"NetlistBench", "isFirstOfLevel", "(I)Z"⟩, 4) := ⟨⟨by decide +kernel, by decide +kernel⟩, List.mem_of_getElem? (i := 24) (by decide +kernel), List.mem_of_getElem? (i := 681) (by decide +kernel), List.mem_of_getElem? (i := 682) (by decide +kernel)⟩
theorem lw_p26 : lw_okq (⟨"NetlistBenchModel", "fail", "(I)I"⟩, 20) := ⟨⟨by decide +kernel, by decide +kernel⟩, List.mem_of_getElem? (i := 685) (by decide +kernel), List.mem_of_getElem? (i := 761) (by decide +kernel), List.mem_of_getElem? (i := 762) (by decide +kernel)⟩
theorem lw_p27 : lw_okq (⟨"NetlistBenchModel", "isNode", "(I)Z"⟩, 20) := ⟨⟨by decide +kernel, by decide +kernel⟩, List.mem_of_getElem? (i := 685) (by decide +kernel), List.mem_of_getElem? (i := 769) (by decide +kernel), List.mem_of_getElem? (i := 770) (by decide +kernel)⟩
theorem lw_p28 : lw_okq (⟨"NetlistBenchModel", "isElement", "(I)Z"⟩, 20) := ⟨⟨by decide +kernel, by decide +kernel⟩, List.mem_of_getElem? (i := 685) (by decide +kernel), List.mem_of_getElem? (i := 787) (by decide +kernel), List.mem_of_getElem? (i := 788) (by decide +kernel)⟩
theorem lw_p29 : lw_okq (⟨"NetlistBenchModel", "counted", "(I)I"⟩, 20) := ⟨⟨by decide +kernel, by decide +kernel⟩, List.mem_of_getElem? (i := 685) (by decide +kernel), List.mem_of_getElem? (i := 804) (by decide +kernel), List.mem_of_getElem? (i := 805) (by decide +kernel)⟩
theorem lw_p30 : lw_okq (⟨"NetlistBenchModel", "elementTold", "(II)I"⟩, 20) := ⟨⟨by decide +kernel, by decide +kernel⟩, List.mem_of_getElem? (i := 685) (by decide +kernel), List.mem_of_getElem? (i := 812) (by decide +kernel), List.mem_of_getElem? (i := 813) (by decide +kernel)⟩
theorem lw_p31 : lw_okq (⟨"NetlistBenchModel", "isOnAt", "(II)Z"⟩, 20) := ⟨⟨by decide +kernel, by decide +kernel⟩, List.mem_of_getElem? (i := 685) (by decide +kernel), List.mem_of_getElem? (i := 827) (by decide +kernel), List.mem_of_getElem? (i := 828) (by decide +kernel)⟩
def lw_privs_2 : List (MethodName × Nat) := [(⟨"java/util/ArrayList", "add", "(Ljava/lang/Object;[Ljava/lang/Object;I)V"⟩, 3), (⟨"java/util/ArrayList", "grow", "()[Ljava/lang/Object;"⟩, 3), (⟨"java/util/ArrayList", "grow", "(I)[Ljava/lang/Object;"⟩, 3), (⟨"NetlistBench", "checkNode", "(I)V"⟩, 4), (⟨"NetlistBench", "checkElement", "(I)V"⟩, 4), (⟨"NetlistBench", "checkGrounded", "(I)V"⟩, 4), (⟨"NetlistBench", "flowOut", "(LNetlistBench$Element;I)J"⟩, 4), (⟨"NetlistBench", "drive", "(III)V"⟩, 4), (⟨"NetlistBench", "quotientAt", "(I)D"⟩, 4), (⟨"NetlistBench", "isFirstOfLevel", "(I)Z"⟩, 4), (⟨"NetlistBenchModel", "fail", "(I)I"⟩, 20), (⟨"NetlistBenchModel", "isNode", "(I)Z"⟩, 20), (⟨"NetlistBenchModel", "isElement", "(I)Z"⟩, 20), (⟨"NetlistBenchModel", "counted", "(I)I"⟩, 20), (⟨"NetlistBenchModel", "elementTold", "(II)I"⟩, 20), (⟨"NetlistBenchModel", "isOnAt", "(II)Z"⟩, 20)]
theorem lw_r2 : ∀ q ∈ lw_privs_2, lw_okq q := List.forall_mem_cons.mpr ⟨lw_p16, List.forall_mem_cons.mpr ⟨lw_p17, List.forall_mem_cons.mpr ⟨lw_p18, List.forall_mem_cons.mpr ⟨lw_p19, List.forall_mem_cons.mpr ⟨lw_p20, List.forall_mem_cons.mpr ⟨lw_p21, List.forall_mem_cons.mpr ⟨lw_p22, List.forall_mem_cons.mpr ⟨lw_p23, List.forall_mem_cons.mpr ⟨lw_p24, List.forall_mem_cons.mpr ⟨lw_p25, List.forall_mem_cons.mpr ⟨lw_p26, List.forall_mem_cons.mpr ⟨lw_p27, List.forall_mem_cons.mpr ⟨lw_p28, List.forall_mem_cons.mpr ⟨lw_p29, List.forall_mem_cons.mpr ⟨lw_p30, List.forall_mem_cons.mpr ⟨lw_p31, fun _ h => absurd h List.not_mem_nil⟩⟩⟩⟩⟩⟩⟩⟩⟩⟩⟩⟩⟩⟩⟩⟩
theorem lw_p32 : lw_okq (⟨"NetlistBenchModel", "group", "(II)I"⟩, 20) := ⟨⟨by decide +kernel, by decide +kernel⟩, List.mem_of_getElem? (i := 685) (by decide +kernel), List.mem_of_getElem? (i := 835) (by decide +kernel), List.mem_of_getElem? (i := 836) (by decide +kernel)⟩
theorem lw_p33 : lw_okq (⟨"NetlistBenchModel", "conducts", "(II)Z"⟩, 20) := ⟨⟨by decide +kernel, by decide +kernel⟩, List.mem_of_getElem? (i := 685) (by decide +kernel), List.mem_of_getElem? (i := 839) (by decide +kernel), List.mem_of_getElem? (i := 840) (by decide +kernel)⟩
theorem lw_p34 : lw_okq (⟨"NetlistBenchModel", "floatsAt", "(II)Z"⟩, 20) := ⟨⟨by decide +kernel, by decide +kernel⟩, List.mem_of_getElem? (i := 685) (by decide +kernel), List.mem_of_getElem? (i := 847) (by decide +kernel), List.mem_of_getElem? (i := 848) (by decide +kernel)⟩
theorem lw_p35 : lw_okq (⟨"NetlistBenchModel", "solve", "(I)V"⟩, 20) := ⟨⟨by decide +kernel, by decide +kernel⟩, List.mem_of_getElem? (i := 685) (by decide +kernel), List.mem_of_getElem? (i := 855) (by decide +kernel), List.mem_of_getElem? (i := 856) (by decide +kernel)⟩
theorem lw_p36 : lw_okq (⟨"NetlistBenchModel", "clear", "()V"⟩, 20) := ⟨⟨by decide +kernel, by decide +kernel⟩, List.mem_of_getElem? (i := 685) (by decide +kernel), List.mem_of_getElem? (i := 859) (by decide +kernel), List.mem_of_getElem? (i := 860) (by decide +kernel)⟩
theorem lw_p37 : lw_okq (⟨"NetlistBenchModel", "lay", "(III)V"⟩, 20) := ⟨⟨by decide +kernel, by decide +kernel⟩, List.mem_of_getElem? (i := 685) (by decide +kernel), List.mem_of_getElem? (i := 863) (by decide +kernel), List.mem_of_getElem? (i := 864) (by decide +kernel)⟩
theorem lw_p38 : lw_okq (⟨"NetlistBenchModel", "determinant", "(I)J"⟩, 20) := ⟨⟨by decide +kernel, by decide +kernel⟩, List.mem_of_getElem? (i := 685) (by decide +kernel), List.mem_of_getElem? (i := 867) (by decide +kernel), List.mem_of_getElem? (i := 868) (by decide +kernel)⟩
theorem lw_p39 : lw_okq (⟨"NetlistBenchModel", "potentialOf", "(I)D"⟩, 20) := ⟨⟨by decide +kernel, by decide +kernel⟩, List.mem_of_getElem? (i := 685) (by decide +kernel), List.mem_of_getElem? (i := 895) (by decide +kernel), List.mem_of_getElem? (i := 896) (by decide +kernel)⟩
theorem lw_p40 : lw_okq (⟨"NetlistBenchModel", "toggleBehind", "(I)I"⟩, 20) := ⟨⟨by decide +kernel, by decide +kernel⟩, List.mem_of_getElem? (i := 685) (by decide +kernel), List.mem_of_getElem? (i := 903) (by decide +kernel), List.mem_of_getElem? (i := 904) (by decide +kernel)⟩
theorem lw_p41 : lw_okq (⟨"NetlistBenchModel", "into", "(JI)J"⟩, 20) := ⟨⟨by decide +kernel, by decide +kernel⟩, List.mem_of_getElem? (i := 685) (by decide +kernel), List.mem_of_getElem? (i := 929) (by decide +kernel), List.mem_of_getElem? (i := 930) (by decide +kernel)⟩
def lw_privs_3 : List (MethodName × Nat) := [(⟨"NetlistBenchModel", "group", "(II)I"⟩, 20), (⟨"NetlistBenchModel", "conducts", "(II)Z"⟩, 20), (⟨"NetlistBenchModel", "floatsAt", "(II)Z"⟩, 20), (⟨"NetlistBenchModel", "solve", "(I)V"⟩, 20), (⟨"NetlistBenchModel", "clear", "()V"⟩, 20), (⟨"NetlistBenchModel", "lay", "(III)V"⟩, 20), (⟨"NetlistBenchModel", "determinant", "(I)J"⟩, 20), (⟨"NetlistBenchModel", "potentialOf", "(I)D"⟩, 20), (⟨"NetlistBenchModel", "toggleBehind", "(I)I"⟩, 20), (⟨"NetlistBenchModel", "into", "(JI)J"⟩, 20)]
theorem lw_r3 : ∀ q ∈ lw_privs_3, lw_okq q := List.forall_mem_cons.mpr ⟨lw_p32, List.forall_mem_cons.mpr ⟨lw_p33, List.forall_mem_cons.mpr ⟨lw_p34, List.forall_mem_cons.mpr ⟨lw_p35, List.forall_mem_cons.mpr ⟨lw_p36, List.forall_mem_cons.mpr ⟨lw_p37, List.forall_mem_cons.mpr ⟨lw_p38, List.forall_mem_cons.mpr ⟨lw_p39, List.forall_mem_cons.mpr ⟨lw_p40, List.forall_mem_cons.mpr ⟨lw_p41, fun _ h => absurd h List.not_mem_nil⟩⟩⟩⟩⟩⟩⟩⟩⟩⟩
def lw_privs : List (MethodName × Nat) := lw_privs_1 ++ (lw_privs_2 ++ (lw_privs_3))
def lw_tbl : List Cond := k2_sels lw_privs ++ tables_1
theorem lw_privs_ok : ∀ q ∈ lw_privs, lw_okq q := by
  show ∀ q ∈ lw_privs_1 ++ (lw_privs_2 ++ (lw_privs_3)), lw_okq q
  exact List.forall_mem_append.mpr ⟨lw_r1, List.forall_mem_append.mpr ⟨lw_r2, lw_r3⟩⟩
/-- the streams that the claim lets the run draw from -/
abbrev lw_cs : List Choice := [Jvm.Choice.named "NaN.bits"]
theorem lw_bits : nanBits ∈ lw_cs := by first | decide | exact List.mem_cons_self | simp [lw_cs, nanBits]
/-- an array of arrays: what the printed names ask for (their sheet is not in this kit) -/
def va_AOA (t : FieldType) (U : State) : Prop := (Cond.arrayOver (.array t)).before #[] U = true
theorem va_AOA.use {t : FieldType} {A : Array Value} {U : State} (h : va_AOA t U) : (Cond.arrayOver (.array t)).before A U = true := h
/-! ===== BEGIN words of one list among another's, by their places ===== -/
theorem goodIn_r {big : List Cond} (ws : List Cond) (ps : List Nat) (hp : ws = ps.filterMap (fun i => big[i]?)) (h : ws.all goodWord = true) : GoodIn big ws := by
  intro w hw
  have h1 := List.all_eq_true.mp h w hw
  rw [hp] at hw
  obtain ⟨i, -, hi⟩ := List.mem_filterMap.mp hw
  have hm : w ∈ big := by first | exact List.mem_of_getElem? hi | exact List.getElem?_mem hi
  exact ⟨hm, good_of_word h1⟩
theorem goodIn_app {big a b : List Cond} (ha : GoodIn big a) (hb : GoodIn big b) : GoodIn big (a ++ b) := fun w h => (List.mem_append.mp h).elim (ha w) (hb w)
theorem goodIn_ca {big a b : List Cond} {c : Cond} (ha : GoodIn big (c :: a)) (hb : GoodIn big b) : GoodIn big (c :: (a ++ b)) := fun w h => (List.mem_cons.mp h).elim (fun e => ha w (List.mem_cons.mpr (Or.inl e))) (fun h => (List.mem_append.mp h).elim (fun h => ha w (List.mem_cons.mpr (Or.inr h))) (hb w))
theorem goodIn_sub {big ws : List Cond} (hm : ∀ w ∈ ws, w ∈ big) (h : ws.all goodWord = true) : GoodIn big ws := fun w hw => ⟨hm w hw, good_of_word (List.all_eq_true.mp h w hw)⟩
/-! ===== END ===== -/

/-! ===== BEGIN new T[n][m]: the outer array a place, the inner ones among the pooled ===== -/
/-- f, but v at every address of l -/
def vr_up {α : Type} (f : Nat → α) (l : List Nat) (v : α) : Nat → α := fun a => if a ∈ l then v else f a
theorem vr_up_in {α : Type} {f : Nat → α} {l : List Nat} {v : α} {a : Nat} (h : a ∈ l) : vr_up f l v a = v := if_pos h
theorem vr_up_ne {α : Type} {f : Nat → α} {l : List Nat} {v : α} {a : Nat} (h : a ∉ l) : vr_up f l v a = f a := if_neg h
theorem vr_rows {L l : List Nat} {f : Nat → va_E} {e : va_E} (h : ∀ a, a ∈ l → a ∉ L) : va_pl L f ++ l.map (fun a => (a, e)) = va_pl (L ++ l) (vr_up f l e) := by
  unfold va_pl
  rw [List.map_append]
  congr 1
  · apply List.map_congr_left
    intro a ha
    rw [vr_up_ne (fun q => h a q ha)]
  · apply List.map_congr_left
    intro a ha
    rw [vr_up_in ha]
theorem vr_lay {X rows : va_W} {x : Nat × va_E} {pl : va_W} {D : va_G} {cl : List vw_C} {H : Heap} (hP : va_P D cl (((X ++ pl) ++ [x]) ++ rows) H) : va_P D cl ((X ++ [x]) ++ (pl ++ rows)) H := by
  rw [List.append_assoc (X ++ pl)] at hP
  have h := va_P.swap hP
  rw [← List.append_assoc X] at h
  have h2 := va_P.swap h
  rw [List.append_assoc (X ++ [x])] at h2
  exact h2
theorem vr_layD {X rows : va_W} {x : Nat × va_E} {pl : va_W} {A : Nat → Prop} (hD : va_D A (((X ++ pl) ++ [x]) ++ rows)) : va_D A ((X ++ [x]) ++ (pl ++ rows)) := by
  rw [List.append_assoc (X ++ pl)] at hD
  have h := va_D.swap hD
  rw [← List.append_assoc X] at h
  have h2 := va_D.swap h
  rw [List.append_assoc (X ++ [x])] at h2
  exact h2
theorem vr_outer (c : ClassId) (N h0 : Nat) : ∀ i : Nat, Jvm.Free.Multi.outerC c N h0 i = arrV c N (fun j => va_rf (if j < i then some (h0 + 1 + j) else none))
  | 0 => by
    show ({ cls := c, slots := Array.replicate N .null, vm := .none } : Cell) = _
    rw [arrV_new]
    refine congrArg (arrV c N) (funext fun j => ?_)
    simp [va_rf]
  | i + 1 => by
    show (Jvm.Free.Multi.outerC c N h0 i).setSlot i (.ref (h0 + 1 + i)) = _
    rw [vr_outer c N h0 i, arrV_store]
    refine congrArg (arrV c N) (funext fun j => ?_)
    by_cases e : j = i
    · subst e
      simp [updV, va_rf]
    · by_cases h : j < i
      · simp [updV, e, h, Nat.lt_succ_of_lt h]
      · simp [updV, e, h, show ¬ j < i + 1 by omega]
section VGM
variable {p : Program} {l : Launch} {e : Env} {R : Room} {s : State} {m : MethodId} {args : Array Value} {below : List Frame} {meth : Method} {c : Code} {H : Heap} {locs : List Loc} {cells slots : Nat} {Q : State → Prop}
variable {cc : ByteArray} {pc : Nat} {ls : Array Slot} {rest : List Value} {D : va_G} {cl : List vw_C} {A : Nat → Prop} {a : Nat} {tys : List (ClassId × FieldType)} {ws : va_W} {H0 : Heap}
theorem va_mna {X : va_W} {L : List Nat} {f : Nat → va_E} {cc : ByteArray} (hexec : p.tables.exec = Jvm.exec) (hb : c.code = cc) {own : String} {index : Nat} {ty : FieldType} {cy : ClassId} (hown : s.vm.findClass own = some m.cls) (hclink : (Cond.classLink own index ("[" ++ (FieldType.array ty).toString)).before args s = true) (hover : va_AOA ty s) (harr : (Cond.arrayClass ty).before args s = true) (hcy : s.vm.findClass (FieldType.array ty).toString = some cy)
    (hK : va_K D cl tys s) (hP : va_P D cl (X ++ va_pl L f) H) (hD : va_D A (X ++ va_pl L f)) (hS : va_S A H0 H locs) (hA : ∀ q, H0.size ≤ q → A q) {n k : Int32} {N' K' : Nat} {z : vp_A} (hn : ¬ n < 0) (hk : ¬ k < 0) (hN : n.toNatClampNeg = N') (hM : k.toNatClampNeg = K')
    (hb1 : N' * 4 ≤ 536870912) (hb2 : K' * componentBytes ty ≤ 536870912) (hb3 : K' ≤ 536870912) (hdf : fits ty (defaultValue ty) = true) (hdd : (defaultValue ty).isDefault = true) (hcells : cells + (1 + N') ≤ R.cells) (hslots : slots + (N' + N' * K') ≤ R.slots) (hz : ∀ c : ClassId, Jvm.Free.Multi.innerC c K' (defaultValue ty) = vp_cell c z) (hdg : decode cc pc = .ok (.multianewarray index 2, 4))
    (kk : ∀ (q : Nat) (r : Nat → Nat) (cA : ClassId) (H1 : Heap), (∀ i j : Nat, i < N' → j < N' → r i = r j → i = j) → (∀ i : Nat, i < N' → r i ∉ L) → va_K D cl (tys ++ [(cA, .array ty)]) s →
      va_P D cl ((X ++ [(q, .inl (cA, N', .inr (.inr (.inr (.inr (fun i => if i < N' then some (r i) else none))))))]) ++ va_pl (L ++ (List.range N').map r) (vr_up f ((List.range N').map r) (.inl (cy, z)))) H1 → va_D A ((X ++ [(q, .inl (cA, N', .inr (.inr (.inr (.inr (fun i => if i < N' then some (r i) else none))))))]) ++ va_pl (L ++ (List.range N').map r) (vr_up f ((List.range N').map r) (.inl (cy, z)))) → va_S A H0 H1 locs →
      W p l e R s m args below meth c H1 locs (cells + 1 + N') (slots + N' + N' * K') Q (F0 m (pc + 4) ls (.ref q :: rest))) : W p l e R s m args below meth c H locs cells slots Q (F0 m pc ls (.int k :: .int n :: rest)) := by
  subst hN
  subst hM
  intro T hT Xs
  obtain ⟨vm₁, cA, comp, -, fA, fC, hO, -, X', step⟩ := Xs.multianewarray2F hexec hown hclink (va_AOA.use hover) harr (g := F0 m pc ls (.int k :: .int n :: rest)) rfl (by rw [hb]; exact hdg) rfl hn hk hb1 hb2 hb3 hdf hdd hcells hslots
  have ec : some cy = some comp := hcy.symm.trans fC
  cases ec
  generalize hF : Jvm.Free.Multi.fill (T.setVm vm₁) cA cy n.toNatClampNeg k.toNatClampNeg (defaultValue ty) n.toNatClampNeg = F at X' step
  have hTh : (T.setVm vm₁).heap = H := hT
  obtain ⟨f1, f2, -, -⟩ := Jvm.Free.Multi.fill_facts (T.setVm vm₁) cA cy n.toNatClampNeg k.toNatClampNeg (defaultValue ty) n.toNatClampNeg
  rw [hF, hTh] at f1 f2
  have hold : ∀ x : Nat, x < H.size → F.heap[x]? = H[x]? := fun x hx => by
    have := Jvm.Free.Multi.fill_old (T.setVm vm₁) cA cy n.toNatClampNeg k.toNatClampNeg (defaultValue ty) (a := x) (by rw [hTh]; exact hx) n.toNatClampNeg
    rw [hF, hTh] at this
    exact this
  have hrow : ∀ j : Nat, j < n.toNatClampNeg → F.heap[H.size + 1 + j]? = some (vp_cell cy z) := fun j hj => by
    have := Jvm.Free.Multi.fill_inner (T.setVm vm₁) cA cy n.toNatClampNeg k.toNatClampNeg (defaultValue ty) n.toNatClampNeg j hj
    rw [hF, hTh, hz] at this
    exact this
  have hout : Jvm.Free.Multi.outerC cA n.toNatClampNeg H.size n.toNatClampNeg = vp_cell cA (n.toNatClampNeg, .inr (.inr (.inr (.inr (fun i => if i < n.toNatClampNeg then some (H.size + 1 + i) else none))))) := by
    rw [vp_cell_q]
    exact vr_outer cA n.toNatClampNeg H.size n.toNatClampNeg
  rw [hout] at f2
  have hlt : ∀ a, a ∈ L → a < H.size := fun a ha => by
    obtain ⟨k9, hk9⟩ := va_pl_get (X := X) (f := f) ha
    exact (hP k9 _ hk9).lt
  have hnl : ∀ i : Nat, i < n.toNatClampNeg → H.size + 1 + i ∉ L := fun i _ h => by
    have := hlt _ h
    omega
  have hnm : ∀ a, a ∈ (List.range n.toNatClampNeg).map (fun i => H.size + 1 + i) → a ∉ L := fun a ha h => by
    obtain ⟨i, -, rfl⟩ := List.mem_map.mp ha
    have := hlt _ h
    omega
  have hP0 : va_P D cl (X ++ va_pl L f) F.heap := hP.kept (fun k9 x hx => hold x.1 ((hP k9 x hx).lt))
  have hP1 : va_P D cl ((X ++ va_pl L f) ++ [(H.size, .inl (cA, n.toNatClampNeg, .inr (.inr (.inr (.inr (fun i => if i < n.toNatClampNeg then some (H.size + 1 + i) else none))))))]) F.heap := hP0.app (fun k9 x hx => by
    have h0 : k9 < 1 := (List.getElem?_eq_some_iff.mp hx).1
    rw [show k9 = 0 by omega] at hx
    cases hx
    exact f2)
  have hP2 : va_P D cl (((X ++ va_pl L f) ++ [(H.size, .inl (cA, n.toNatClampNeg, .inr (.inr (.inr (.inr (fun i => if i < n.toNatClampNeg then some (H.size + 1 + i) else none))))))]) ++ ((List.range n.toNatClampNeg).map (fun i => H.size + 1 + i)).map (fun a => (a, .inl (cy, z)))) F.heap := hP1.app (fun k9 x hx => by
    obtain ⟨a, ha, rfl⟩ := List.mem_map.mp (List.mem_of_getElem? hx)
    obtain ⟨i, hi, rfl⟩ := List.mem_map.mp ha
    exact hrow i (List.mem_range.mp hi))
  have hD2 : va_D A (((X ++ va_pl L f) ++ [(H.size, .inl (cA, n.toNatClampNeg, .inr (.inr (.inr (.inr (fun i => if i < n.toNatClampNeg then some (H.size + 1 + i) else none))))))]) ++ ((List.range n.toNatClampNeg).map (fun i => H.size + 1 + i)).map (fun a => (a, .inl (cy, z)))) := by
    have hD1 := hD.push (e := .inl (cA, n.toNatClampNeg, .inr (.inr (.inr (.inr (fun i => if i < n.toNatClampNeg then some (H.size + 1 + i) else none)))))) hP rfl (hA _ hS.1)
    generalize hW1 : (X ++ va_pl L f) ++ [(H.size, .inl (cA, n.toNatClampNeg, .inr (.inr (.inr (.inr (fun i => if i < n.toNatClampNeg then some (H.size + 1 + i) else none))))))] = W1 at hD1 hP1 ⊢
    have hle : ∀ (k9 : Nat) (x : Nat × va_E), W1[k9]? = some x → x.1 ≤ H.size := fun k9 x hx => by
      rw [← hW1] at hx
      by_cases hl : k9 < (X ++ va_pl L f).length
      · rw [List.getElem?_append_left hl] at hx
        exact Nat.le_of_lt ((hP k9 x hx).lt)
      · rw [List.getElem?_append_right (by omega)] at hx
        have h0 : k9 - (X ++ va_pl L f).length < 1 := (List.getElem?_eq_some_iff.mp hx).1
        rw [show k9 - (X ++ va_pl L f).length = 0 by omega] at hx
        cases hx
        exact Nat.le_refl _
    have hr : ∀ (k9 : Nat) (x : Nat × va_E), (((List.range n.toNatClampNeg).map (fun i => H.size + 1 + i)).map (fun a => ((a, .inl (cy, z)) : Nat × va_E)))[k9]? = some x → x.1 = H.size + 1 + k9 := fun k9 x hx => by
      rw [List.getElem?_map, List.getElem?_map] at hx
      by_cases h9 : k9 < n.toNatClampNeg
      · rw [List.getElem?_range h9] at hx
        cases hx
        rfl
      · have hn0 : (List.range n.toNatClampNeg)[k9]? = none := List.getElem?_eq_none (by rw [List.length_range]; omega)
        rw [hn0] at hx
        cases hx
    refine ⟨fun i j x y hi hj hxy => ?_, fun k9 x hx => ?_⟩
    · by_cases h1 : i < W1.length <;> by_cases h2 : j < W1.length
      · rw [List.getElem?_append_left h1] at hi
        rw [List.getElem?_append_left h2] at hj
        exact hD1.1 i j x y hi hj hxy
      · rw [List.getElem?_append_left h1] at hi
        rw [List.getElem?_append_right (by omega)] at hj
        have := hle _ _ hi
        have := hr _ _ hj
        omega
      · rw [List.getElem?_append_right (by omega)] at hi
        rw [List.getElem?_append_left h2] at hj
        have := hle _ _ hj
        have := hr _ _ hi
        omega
      · rw [List.getElem?_append_right (by omega)] at hi hj
        have := hr _ _ hi
        have := hr _ _ hj
        omega
    · by_cases h1 : k9 < W1.length
      · rw [List.getElem?_append_left h1] at hx
        exact hD1.2 k9 x hx
      · rw [List.getElem?_append_right (by omega)] at hx
        have := hr _ _ hx
        exact hA _ (by have := hS.1; omega)
  have hAr : ArrOfT s cA (.array ty) := fun N9 z9 => by
    obtain ⟨-, k9, hk9, cm9, hkk9⟩ := (hO 0 0 0).1
    exact ⟨(fun q hq => by cases hq), k9, hk9, cm9, hkk9⟩
  have hK2 : va_K D cl (tys ++ [(cA, .array ty)]) s := ⟨hK.1, fun k9 x hx => by
    by_cases hl : k9 < tys.length
    · rw [List.getElem?_append_left hl] at hx
      exact hK.2 k9 x hx
    · rw [List.getElem?_append_right (by omega)] at hx
      have h0 : k9 - tys.length < 1 := (List.getElem?_eq_some_iff.mp hx).1
      rw [show k9 - tys.length = 0 by omega] at hx
      cases hx
      exact ⟨hAr, fA⟩⟩
  obtain ⟨t, a1, b1⟩ := kk H.size (fun i => H.size + 1 + i) cA F.heap (fun i j _ _ h => by have h9 : H.size + 1 + i = H.size + 1 + j := h; omega) hnl hK2 (by rw [← vr_rows hnm]; exact vr_lay hP2) (by rw [← vr_rows hnm]; exact vr_layD hD2) ⟨by rw [f1]; have := hS.1; omega, fun x h1 h2 => (hold x (Nat.lt_of_lt_of_le h1 hS.1)).trans (hS.2.1 x h1 h2), hS.2.2⟩ F rfl X'
  refine ⟨t, step t ?_, b1⟩
  have e : T.heap.size = H.size := by rw [hT]
  rw [e]
  exact a1
end VGM
/-! ===== END ===== -/

/-! ===== BEGIN exceptions that leave a method, and their catching by the caller (launches without stack traces) ===== -/
section VXA
/-! The laws vx_back, vx_callV, vx_callS, vx_callSW, vx_throw0, vx_throwS follow proofs of the library, with one case more: JvmDerived/Free/Laws.lean (Back.of_free), Shelf42/LK1.lean (callV, callS), Shelf/KitTraced.lean (throwNew0V, throwNewS). -/
/-- where a method has thrown q: the class by its name, the cell, what was written, the world -/
def vx_T (XC : String → State → State → Prop) (st : State) (q : Addr) (t : State) (mc ms : Nat) (free : Addr → Prop) : Prop :=
  ∃ (E : String) (ce : Cell) (L : List Loc), XC E st t ∧ t.heap[q]? = some ce ∧ ce.vm = .none ∧ st.vm.findClass E = some ce.cls ∧ st.WarmedH t.vm ∧ st.sameButNew ({ t with vm := st.vm } : State) L mc ms ∧ ∀ z ∈ L, free z.base
def vx_Q (Qc : Array Value → State → Outcome → State → Prop) (XC : String → State → State → Prop) (mc ms : Nat) (free : Addr → Prop) : Array Value → State → Outcome → State → Prop := fun a st o t =>
  (Qc a st o t ∧ ∃ L, FrameEnd st o t L mc ms ∧ ∀ q ∈ L, free q.base) ∨ ∃ q, o = .threw q ∧ vx_T XC st q t mc ms free
/-- a callee that returns or throws -/
def vx_Met (l : Launch) (y : MethodName) (ws : List Cond) (rm : Room) (Pc : Array Value → State → Prop) (Qc : Array Value → State → Outcome → State → Prop) (XC : String → State → State → Prop) (mc ms : Nat) (free : Addr → Prop) : Prop :=
  MetFree l y (headSpec ws rm) Pc (fun _ _ _ _ _ => True) (vx_Q Qc XC mc ms free)
def vx_Post (XC : String → State → State → Prop) (mc ms : Nat) (free : Addr → Prop) : Pt → Array Value → Addr → Pt → Prop := fun A a q B =>
  ∃ (g : JFrame) (mk : MethodId) (t : State) (L : List Loc) (E : String) (ce : Cell), B.U.heap = t.heap ∧ B.U.vm = t.vm ∧ XC E (A.U.calling g mk a) t ∧ t.heap[q]? = some ce ∧ ce.vm = .none ∧ A.U.vm.findClass E = some ce.cls ∧ B.locs = A.locs ++ L ∧ (∀ z ∈ L, free z.base) ∧ B.cells = A.cells + mc ∧ B.slots = A.slots + ms
def vx_Back (l : Launch) (R : Room) (p : Program) (e : Env) (below : List Frame) (s : State) (sargs : Array Value) (y : MethodName) (len W9 : Nat)
    (Pre : Pt → Array Value → Prop) (Post : Pt → Array Value → Option Value → Pt → Prop) (PostX : Pt → Array Value → Addr → Pt → Prop) : Prop :=
  ∀ (m : MethodId) (meth : Method) (c : Code) (A : Pt) (g : JFrame) (ig : Instr) (mk : MethodId) (a : Array Value),
    Stand p l e R s m sargs below meth c A.U A.locs A.cells A.slots → g.method = m → g.locals.size = c.maxLocals → decode c.code g.pc = .ok (ig, len) →
    2 * g.monitorRoom + (g.stack.map fun v => v.category).sum ≤ W9 → A.U.methodNamed? y = some mk → Pre A a →
    (∃ (v : Option Value) (B : Pt), Stand p l e R s m sargs below meth c B.U B.locs B.cells B.slots ∧ Post A a v B ∧
      Steps p.tables e below (doInvoke e (A.U.setTop g) [] mk a).1 (B.U.setTop { g with pc := g.pc + len, stack := v.toList ++ g.stack })) ∨
    (∃ (q : Addr) (B : Pt), Stand p l e R s m sargs below meth c B.U B.locs B.cells B.slots ∧ PostX A a q B ∧
      Steps p.tables e below (doInvoke e (A.U.setTop g) [] mk a).1 ((B.U.setTop g).pushFrame (.throwing q)))
section Payer
variable {l : Launch} {R : Room} {p : Program} {e : Env} {below : List Frame} {s : State} {sargs : Array Value} {y : MethodName} {len W9 : Nat}
theorem vx_back {ws : List Cond} {rm : Room} {Pc : Array Value → State → Prop} {Qc : Array Value → State → Outcome → State → Prop} {XC : String → State → State → Prop} {mc ms : Nat} {free : Addr → Prop} {bytes : ByteArray} {maxL : Nat} {ret : Option FieldType}
    (hM : vx_Met l y ws rm Pc Qc XC mc ms free) (hblind : FrameBlind Pc) (hrc : rm.cells = mc) (hrs : rm.slots = ms)
    (hframes : rm.frames + 1 ≤ R.frames) (hlocals : W9 + (maxL + 11) + rm.locals ≤ R.locals)
    (hws : ∀ w ∈ ws, ∀ a' U, s.WarmedH U.vm → w.before a' U = true) (hcode : Cond.code y bytes maxL ret ∈ ws) (hinit : ∀ a' U, s.WarmedH U.vm → (Cond.initialized y.cls).before a' U = true) :
    vx_Back l R p e below s sargs y len W9 (PreOf R mc ms Pc) (PostOf Qc mc ms free) (vx_Post XC mc ms free) := by
  intro m meth c A g ig mk a X hg hsize hdg hW hn hp
  have h1 : (headSpec ws rm).pre.before a A.U = true := atoms_intro fun w hw => hws w hw _ _ X.warmed
  have h2 : (Cond.code y bytes maxL ret).before a A.U = true := hws _ hcode _ _ X.warmed
  have h3 : (Cond.initialized y.cls).before a A.U = true := hinit _ _ X.warmed
  have h4 : A.cells + (headSpec ws rm).room.cells ≤ R.cells := by rw [show (headSpec ws rm).room.cells = mc from hrc]; exact hp.1
  have h5 : A.slots + (headSpec ws rm).room.slots ≤ R.slots := by rw [show (headSpec ws rm).room.slots = ms from hrs]; exact hp.2.1
  have hPc : Pc a (A.U.calling g mk a) := hblind _ _ _ _ hp.2.2
  obtain ⟨U, Ls, c0, s0⟩ := A
  dsimp only [Pt.U, Pt.locs, Pt.cells, Pt.slots] at h1 h2 h3 h4 h5 X hn hPc ⊢
  obtain ⟨methY, cY, hmY, hcY, -, hlY, -, -, -, -⟩ := Cond.code_spec hn h2
  obtain ⟨kY, hkY, -⟩ := className_of_methodNamed hn
  have hinitY : kY.init = .initialized := Cond.initialized_spec (findClass_of_methodNamed hn) hkY h3
  have h : At U g.method c below := by rw [hg]; exact X.here
  have hlocals9 : W9 + (maxL + 11) + (headSpec ws rm).room.locals ≤ R.locals := hlocals
  have happ : (headSpec ws rm).appliesLoose y e.platform (U.calling g mk a) = true :=
    Spec.appliesLoose_calling (g := g) h hdg hn hkY hinitY
      (X.room_calling (g := g) (R' := (headSpec ws rm).room) hsize hmY hcY hframes (by rw [hlY]; omega) h4 h5) h1
  obtain ⟨mid, hmid⟩ := h.above
  have hfr : (U.setTop g).frames = (.java g :: mid) ++ below := by rw [State.frames_setTop' g h.top, hmid]; rfl
  obtain ⟨o, s₂, hsteps, -, hend, hq⟩ := Steps.callFree hM p X.admits X.cas X.clock (acts := []) hfr happ hPc trivial
  have hq' : vx_Q Qc XC mc ms free a (U.calling g mk a) o s₂ := hq
  rw [State.frames_setTop' g h.top] at hend
  obtain ⟨g₀, hg0⟩ := Option.isSome_iff_exists.mp h.top
  obtain ⟨r, hr⟩ := State.topJava?_eq_some.mp hg0
  have hr' : (({ U with heap := s₂.heap, slotsUsed := s₂.slotsUsed } : State).setVm s₂.vm).frames = .java g₀ :: r := hr
  rcases hq' with ⟨hqc, L, hfe, hL⟩ | ⟨q, rfl, E, ce, L, hx, hce, hcv, hcl, hW₂, hsm, hL⟩
  · obtain ⟨⟨v, rfl⟩, hW₂, e2, q2, q3, q4, q5, q6⟩ := id hfe
    have e3 : s₂ = ({ (U.calling g mk a).setFrames s₂.frames with heap := s₂.heap, slotsUsed := s₂.slotsUsed } : State).setVm s₂.vm := by
      have : s₂ = ({ s₂ with vm := (U.calling g mk a).vm } : State).setVm s₂.vm := rfl
      rw [e2] at this
      exact this
    obtain ⟨c₂, i₂, len₂, hc₂, hd₂, hf₂⟩ := hend
    have hW' : U.WarmedH s₂.vm := hW₂
    have hcc : c₂ = c := by
      have h1 : s₂.code? g.method = U.code? g.method := by
        rw [State.code?_eq, State.code?_eq, hW'.alike.method?]
      exact Option.some.inj (hc₂.symm.trans (h1.trans h.code))
    subst hcc
    have hlen : len₂ = len := by rw [hdg] at hd₂; cases hd₂; rfl
    subst hlen
    have hs₂ : s₂ = (({ U with heap := s₂.heap, slotsUsed := s₂.slotsUsed } : State).setVm s₂.vm).setTop { g with pc := g.pc + len₂, stack := v.toList ++ g.stack } := by
      refine e3.trans ?_
      rw [hf₂, State.calling_eq h.top, State.setFrames_setFrames, State.setTop_of_frames _ hr', hr]
      rfl
    have hsame : U.sameButNew ({ U with heap := s₂.heap, slotsUsed := s₂.slotsUsed } : State) L mc ms := by
      refine ⟨?_, q2, q3, q4, q5, q6⟩
      obtain ⟨t, ht, -⟩ := State.frames_cons hr
      show ({ U with heap := s₂.heap, slotsUsed := s₂.slotsUsed } : State) = { U.setFrames U.frames with heap := s₂.heap, slotsUsed := s₂.slotsUsed }
      rw [State.setFrames_self ht]
    subst hg
    refine Or.inl ⟨v, ⟨(({ U with heap := s₂.heap, slotsUsed := s₂.slotsUsed } : State).setVm s₂.vm), Ls ++ L, c0 + mc, s0 + ms⟩,
      ⟨X.admits, X.cas, X.clock, X.frames, X.room, X.hears, X.method, X.code, (X.here.setHeapUsed s₂.heap s₂.slotsUsed).setVm hW'.alike, X.tail, State.WarmedH.trans X.warmed hW', X.limits, X.bytes, X.same.trans (hsame.setVm s.vm)⟩,
      ⟨g, mk, s₂, L, rfl, rfl, hqc, rfl, hL, rfl, rfl⟩, ?_⟩
    show Steps p.tables e below _ ((({ U with heap := s₂.heap, slotsUsed := s₂.slotsUsed } : State).setVm s₂.vm).setTop { g with pc := g.pc + len₂, stack := v.toList ++ g.stack })
    rw [← hs₂]
    exact hsteps
  · obtain ⟨e2, q2, q3, q4, q5, q6⟩ := id hsm
    have e3 : s₂ = ({ (U.calling g mk a).setFrames s₂.frames with heap := s₂.heap, slotsUsed := s₂.slotsUsed } : State).setVm s₂.vm := by
      have : s₂ = ({ s₂ with vm := (U.calling g mk a).vm } : State).setVm s₂.vm := rfl
      rw [e2] at this
      exact this
    have hf₂ : s₂.frames = .throwing q :: .java g :: U.frames.tail := hend
    have hW' : U.WarmedH s₂.vm := hW₂
    have hs₂ : s₂ = ((({ U with heap := s₂.heap, slotsUsed := s₂.slotsUsed } : State).setVm s₂.vm).setTop g).pushFrame (.throwing q) := by
      refine e3.trans ?_
      rw [hf₂, State.calling_eq h.top, State.setFrames_setFrames, State.pushFrame, State.frames_setTop _ hr', State.setTop_of_frames _ hr', State.setFrames_setFrames, hr]
      rfl
    have hsame : U.sameButNew ({ U with heap := s₂.heap, slotsUsed := s₂.slotsUsed } : State) L mc ms := by
      refine ⟨?_, q2, q3, q4, q5, q6⟩
      obtain ⟨t, ht, -⟩ := State.frames_cons hr
      show ({ U with heap := s₂.heap, slotsUsed := s₂.slotsUsed } : State) = { U.setFrames U.frames with heap := s₂.heap, slotsUsed := s₂.slotsUsed }
      rw [State.setFrames_self ht]
    subst hg
    refine Or.inr ⟨q, ⟨(({ U with heap := s₂.heap, slotsUsed := s₂.slotsUsed } : State).setVm s₂.vm), Ls ++ L, c0 + mc, s0 + ms⟩,
      ⟨X.admits, X.cas, X.clock, X.frames, X.room, X.hears, X.method, X.code, (X.here.setHeapUsed s₂.heap s₂.slotsUsed).setVm hW'.alike, X.tail, State.WarmedH.trans X.warmed hW', X.limits, X.bytes, X.same.trans (hsame.setVm s.vm)⟩,
      ⟨g, mk, s₂, L, E, ce, rfl, rfl, hx, hce, hcv, hcl, rfl, hL, rfl, rfl⟩, ?_⟩
    show Steps p.tables e below _ (((({ U with heap := s₂.heap, slotsUsed := s₂.slotsUsed } : State).setVm s₂.vm).setTop g).pushFrame (.throwing q))
    rw [← hs₂]
    exact hsteps
end Payer
section Calls
variable {p : Program} {l : Launch} {e : Env} {R : Room} {s : State} {m : MethodId} {args : Array Value} {below : List Frame} {meth : Method} {c : Code} {T : State} {locs : List Loc} {cells slots : Nat}
theorem vx_callV (X : Stand p l e R s m args below meth c T locs cells slots) (hexec : p.tables.exec = Jvm.exec) {own C : String} {index : Nat} {y : MethodName} {bytes : ByteArray} {maxL : Nat} {ret : Option FieldType}
    (hown : s.vm.findClass own = some m.cls) (hlink : (Cond.methodLink own index y).before args s = true) (hinst : (Cond.instanceMethod y).before args s = true) (hsel : (Cond.selects C y y).before args s = true)
    (hcode : (Cond.code y bytes maxL ret).before args s = true) (hy : y.cls ≠ "java/lang/invoke/MethodHandle" ∧ y.cls ≠ "java/lang/invoke/VarHandle")
    {W9 : Nat} {Pre : Pt → Array Value → Prop} {Post : Pt → Array Value → Option Value → Pt → Prop} {PostX : Pt → Array Value → Addr → Pt → Prop} (hK : vx_Back l R p e below s args y 3 W9 Pre Post PostX)
    {b : Addr} {cellB : Cell} (hcell : T.heap[b]? = some cellB) (hobj : cellB.vm.isStatics = false) (hcls : s.vm.findClass C = some cellB.cls)
    {g : JFrame} (hg : g.method = m) (hsize : g.locals.size = c.maxLocals) {argsL rest : List Value} (hlen : ∀ sig, parseMethodDescriptor y.desc = some sig → argsL.length = sig.parameters.length)
    (hstack : g.stack = argsL.reverse ++ .ref b :: rest) (hW : 2 * g.monitorRoom + (rest.map fun v => v.category).sum ≤ W9) (hdg : decode c.code g.pc = .ok (.invokevirtual index, 3))
    (hpre : ∀ vm₁, s.WarmedH vm₁ → Pre ⟨T.setVm vm₁, locs, cells, slots⟩ (Value.ref b :: argsL).toArray) :
    (∃ (v : Option Value) (vm₁ : Vm) (B : Pt), s.WarmedH vm₁ ∧ Stand p l e R s m args below meth c B.U B.locs B.cells B.slots ∧ Post ⟨T.setVm vm₁, locs, cells, slots⟩ (Value.ref b :: argsL).toArray v B ∧
      ∀ target, Steps p.tables e below (B.U.setTop { g with pc := g.pc + 3, stack := v.toList ++ rest }) target → Steps p.tables e below (T.setTop g) target) ∨
    (∃ (q : Addr) (vm₁ : Vm) (B : Pt), s.WarmedH vm₁ ∧ Stand p l e R s m args below meth c B.U B.locs B.cells B.slots ∧ PostX ⟨T.setVm vm₁, locs, cells, slots⟩ (Value.ref b :: argsL).toArray q B ∧
      Steps p.tables e below (T.setTop g) ((B.U.setTop { g with stack := rest }).pushFrame (.throwing q))) := by
  obtain ⟨mk, methM, hnamed, hmethM, hstM, habM⟩ := Cond.instanceMethod_spec hinst
  obtain ⟨methM', cM, hmethM', -, -, -, -, -, -, hsigM⟩ := Cond.code_spec hnamed hcode
  cases hmethM.symm.trans hmethM'
  obtain ⟨c2, r2, m2, q1, q2, q3, q4, kP, hkP, hkPi⟩ := Cond.selects_spec hsel
  cases hcls.symm.trans q1
  cases (State.methodFound?_of_named hnamed hy).symm.trans q2
  cases hnamed.symm.trans q3
  have hselP : selectMethod e.platform s.vm cellB.cls mk = .method mk := by rw [Launch.admits_selectMethod X.admits]; exact q4
  obtain ⟨vm₁, X₁, hstep₁⟩ := X.invokevirtual hexec hown hlink hnamed hmethM hstM hkP hkPi hy (a := b) (cell := cellB) hcell
    (fun z h => by rw [h] at hobj; cases hobj) hselP hmethM habM hkP hkPi (g := g) hg (argsL := argsL) (rest := rest) (hlen _ hsigM) hstack hdg
  rcases hK m meth c ⟨T.setVm vm₁, locs, cells, slots⟩ { g with stack := rest } (.invokevirtual index) mk (Value.ref b :: argsL).toArray X₁ hg hsize hdg hW (X₁.named hnamed) (hpre vm₁ X₁.warmed) with ⟨v, B, X', hpost, hsteps⟩ | ⟨q, B, X', hpost, hsteps⟩
  · exact Or.inl ⟨v, vm₁, B, X₁.warmed, X', hpost, fun target h => hstep₁ _ fun acts => by rw [doInvoke_state]; exact hsteps.trans h⟩
  · exact Or.inr ⟨q, vm₁, B, X₁.warmed, X', hpost, hstep₁ _ fun acts => by rw [doInvoke_state]; exact hsteps⟩
theorem vx_callS (X : Stand p l e R s m args below meth c T locs cells slots) (hexec : p.tables.exec = Jvm.exec) {own : String} {index : Nat} {y : MethodName} {bytes : ByteArray} {maxL : Nat} {ret : Option FieldType}
    (hown : s.vm.findClass own = some m.cls) (hlink : (Cond.methodLink own index y).before args s = true) (hstat : (Cond.static y).before args s = true) (hinit : (Cond.initialized y.cls).before args s = true)
    (hcode : (Cond.code y bytes maxL ret).before args s = true) (hy : y.cls ≠ "java/lang/invoke/MethodHandle" ∧ y.cls ≠ "java/lang/invoke/VarHandle")
    {W9 : Nat} {Pre : Pt → Array Value → Prop} {Post : Pt → Array Value → Option Value → Pt → Prop} {PostX : Pt → Array Value → Addr → Pt → Prop} (hK : vx_Back l R p e below s args y 3 W9 Pre Post PostX)
    {g : JFrame} (hg : g.method = m) (hsize : g.locals.size = c.maxLocals) {argsL rest : List Value} (hlen : ∀ sig, parseMethodDescriptor y.desc = some sig → argsL.length = sig.parameters.length)
    (hstack : g.stack = argsL.reverse ++ rest) (hW : 2 * g.monitorRoom + (rest.map fun v => v.category).sum ≤ W9) (hdg : decode c.code g.pc = .ok (.invokestatic index, 3))
    (hpre : ∀ vm₁, s.WarmedH vm₁ → Pre ⟨T.setVm vm₁, locs, cells, slots⟩ argsL.toArray) :
    (∃ (v : Option Value) (vm₁ : Vm) (B : Pt), s.WarmedH vm₁ ∧ Stand p l e R s m args below meth c B.U B.locs B.cells B.slots ∧ Post ⟨T.setVm vm₁, locs, cells, slots⟩ argsL.toArray v B ∧
      ∀ target, Steps p.tables e below (B.U.setTop { g with pc := g.pc + 3, stack := v.toList ++ rest }) target → Steps p.tables e below (T.setTop g) target) ∨
    (∃ (q : Addr) (vm₁ : Vm) (B : Pt), s.WarmedH vm₁ ∧ Stand p l e R s m args below meth c B.U B.locs B.cells B.slots ∧ PostX ⟨T.setVm vm₁, locs, cells, slots⟩ argsL.toArray q B ∧
      Steps p.tables e below (T.setTop g) ((B.U.setTop { g with stack := rest }).pushFrame (.throwing q))) := by
  obtain ⟨mk, hnamed⟩ := Cond.code_named hcode
  obtain ⟨methM, cM, hmethM, -, -, -, -, -, -, hsigM⟩ := Cond.code_spec hnamed hcode
  have hstatic : methM.isStatic = true := Cond.static_spec hnamed hmethM hstat
  obtain ⟨kP, hkP, -⟩ := className_of_methodNamed hnamed
  have hinitP : kP.init = .initialized := Cond.initialized_spec (findClass_of_methodNamed hnamed) hkP hinit
  obtain ⟨vm₁, X₁, hstep₁⟩ := X.invokestatic hexec hown hlink hnamed hmethM hstatic hkP hinitP hy (g := g) hg (argsL := argsL) (rest := rest) (hlen _ hsigM) hstack hdg
  rcases hK m meth c ⟨T.setVm vm₁, locs, cells, slots⟩ { g with stack := rest } (.invokestatic index) mk argsL.toArray X₁ hg hsize hdg hW (X₁.named hnamed) (hpre vm₁ X₁.warmed) with ⟨v, B, X', hpost, hsteps⟩ | ⟨q, B, X', hpost, hsteps⟩
  · exact Or.inl ⟨v, vm₁, B, X₁.warmed, X', hpost, fun target h => hstep₁ _ fun acts => by rw [doInvoke_state]; exact hsteps.trans h⟩
  · exact Or.inr ⟨q, vm₁, B, X₁.warmed, X', hpost, hstep₁ _ fun acts => by rw [doInvoke_state]; exact hsteps⟩
end Calls
theorem vx_cls {s : State} {T : State} {vm₁ : Vm} {E : String} {k : ClassId} (hW : s.WarmedH vm₁) (h : (T.setVm vm₁).vm.findClass E = some k) : s.vm.findClass E = some k := by
  have h1 : vm₁.findClass E = some k := h
  rw [hW.alike.findClass] at h1
  exact h1
/-- the method's frame g, with q thrown over it -/
def vx_W (p : Program) (l : Launch) (e : Env) (R : Room) (s : State) (m : MethodId) (args : Array Value) (below : List Frame) (meth : Method) (c : Code) (H : Heap) (locs : List Loc) (cells slots : Nat) (Q : State → Prop) (g : JFrame) (q : Addr) : Prop :=
  ∀ T : State, T.heap = H → Stand p l e R s m args below meth c T locs cells slots → ∃ t, Steps p.tables e below ((T.setTop g).pushFrame (.throwing q)) t ∧ Q t
def vx_Run (p : Program) (l : Launch) (e : Env) (R : Room) (s : State) (m : MethodId) (args : Array Value) (below : List Frame) (meth : Method) (c : Code) (H : Heap) (locs : List Loc) (cells slots mc ms : Nat) (g : JFrame) (rest : List Value) (Qa : State → Outcome → State → Prop) (XC : String → State → State → Prop) (free : Addr → Prop) : Prop :=
  ∀ T : State, T.heap = H → Stand p l e R s m args below meth c T locs cells slots →
    (∃ (v : Option Value) (st₀ t T' : State) (L : List Loc), st₀.heap = H ∧ Stand p l e R s m args below meth c T' (locs ++ L) (cells + mc) (slots + ms) ∧ (∀ q ∈ L, free q.base) ∧ T'.heap = t.heap ∧ T'.vm = t.vm ∧ Qa st₀ (.returned v) t ∧
      Goes p e below T g T' { g with pc := g.pc + 3, stack := v.toList ++ rest }) ∨
    (∃ (q : Addr) (st₀ t T' : State) (L : List Loc) (E : String) (ce : Cell), st₀.heap = H ∧ Stand p l e R s m args below meth c T' (locs ++ L) (cells + mc) (slots + ms) ∧ (∀ z ∈ L, free z.base) ∧ T'.heap = t.heap ∧ T'.vm = t.vm ∧ XC E st₀ t ∧ t.heap[q]? = some ce ∧ ce.vm = .none ∧ s.vm.findClass E = some ce.cls ∧
      Steps p.tables e below (T.setTop g) ((T'.setTop { g with stack := rest }).pushFrame (.throwing q)))
def vx_X {S : Type} (px : S → Prop) (B : String → S → State → Prop) (A : Nat → Prop) : String → State → State → Prop := fun E st t => ∃ u : S, px u ∧ B E u t ∧ va_F A st t
section Runs
variable {p : Program} {l : Launch} {e : Env} {R : Room} {s : State} {m : MethodId} {args : Array Value} {below : List Frame} {meth : Method} {c : Code} {H : Heap} {locs : List Loc} {cells slots : Nat}
variable {y : MethodName} {bytes cc : ByteArray} {maxL nL mc ms n index : Nat} {ret : Option FieldType} {ws : List Cond} {rm : Room} {Pc : Array Value → State → Prop} {Qc : Array Value → State → Outcome → State → Prop} {XC : String → State → State → Prop} {free : Addr → Prop} {Ts : List Cond} {own C : String} {b : Addr} {As rest : List Value} {g : JFrame}
theorem vx_callBack (cb : CallB R s args own index y bytes maxL ret ws rm mc ms n) (hM : vx_Met l y ws rm Pc Qc XC mc ms free) (hbl : FrameBlind Pc) : vx_Back l R p e below s args y 3 8 (PreOf R mc ms Pc) (PostOf Qc mc ms free) (vx_Post XC mc ms free) := by
  obtain ⟨hrc, hrs, hfr, hlo, hws, hcw, -, hini, -⟩ := cb
  exact vx_back (bytes := bytes) (maxL := maxL) (ret := ret) hM hbl hrc hrs hfr hlo hws hcw (fun a' U hW => word_at hW (Or.inl (by first | rfl | simp [Cond.onTables, Cond.keeps, Cond.steady])) hini)
theorem vx_runV (S : CallFix p m c cc nL s args Ts own) (hM : vx_Met l y ws rm Pc Qc XC mc ms free) (cw : CallW R s args own C index y bytes maxL ret ws rm mc ms n) (hp : PreV s H C b Pc As)
    (hg : g.method = m) (hn : As.length = n) (hsize : g.locals.size = nL) (hstack : g.stack = As.reverse ++ .ref b :: rest) (hW : 2 * g.monitorRoom + (rest.map fun v => v.category).sum ≤ 8) (hdg : decode cc g.pc = .ok (.invokevirtual index, 3)) (hf : cells + mc ≤ R.cells ∧ slots + ms ≤ R.slots) :
    vx_Run p l e R s m args below meth c H locs cells slots mc ms g rest (Qc (Value.ref b :: As).toArray) XC free := by
  have hK : vx_Back l R p e below s args y 3 8 (PreOf R mc ms Pc) (PostOf Qc mc ms free) (vx_Post XC mc ms free) := vx_callBack cw.1 hM hp.1
  obtain ⟨⟨-, -, -, -, -, -, hcode, -, hy, hlen, hl⟩, hin, hse⟩ := cw
  obtain ⟨hx, hb, hml, ho, -⟩ := S
  obtain ⟨-, ⟨cellB, hcB, hoB, hclB⟩, hPc⟩ := hp
  intro T hT X
  rcases vx_callV X hx (C := C) (bytes := bytes) (maxL := maxL) (ret := ret) ho hl hin hse hcode hy hK (by rw [hT]; exact hcB) hoB hclB hg (hsize.trans hml.symm) (argsL := As) (rest := rest) (fun sig h => hn.trans (hlen sig h)) hstack hW (by rw [hb]; exact hdg)
    (fun vm₁ hW₁ => ⟨hf.1, hf.2, hPc (T.setVm vm₁) hT hW₁⟩) with ⟨v, vm₁, ⟨U', l2, c2, s2⟩, hW₁, X', ⟨g', mk, t, L, e1, e2, hq, h1, hL, h2, h3⟩, st⟩ | ⟨q, vm₁, ⟨U', l2, c2, s2⟩, hW₁, X', ⟨g', mk, t, L, E, ce, e1, e2, hq, hce, hcv, hcl, h1, hL, h2, h3⟩, st⟩
  · dsimp only [Pt.U, Pt.locs, Pt.cells, Pt.slots] at X' e1 e2 h1 h2 h3 st
    subst h1; subst h2; subst h3
    exact Or.inl ⟨v, (T.setVm vm₁).calling g' mk (Value.ref b :: As).toArray, t, U', L, hT, X', hL, e1, e2, hq, st⟩
  · dsimp only [Pt.U, Pt.locs, Pt.cells, Pt.slots] at X' e1 e2 h1 h2 h3 st hcl
    subst h1; subst h2; subst h3
    exact Or.inr ⟨q, (T.setVm vm₁).calling g' mk (Value.ref b :: As).toArray, t, U', L, E, ce, hT, X', hL, e1, e2, hq, hce, hcv, vx_cls hW₁ hcl, st⟩
theorem vx_runS (S : CallFix p m c cc nL s args Ts own) (hM : vx_Met l y ws rm Pc Qc XC mc ms free) (cw : CallB R s args own index y bytes maxL ret ws rm mc ms n ∧ (Cond.static y).before args s = true) (hp : PreS s H Pc As)
    (hg : g.method = m) (hn : As.length = n) (hsize : g.locals.size = nL) (hstack : g.stack = As.reverse ++ rest) (hW : 2 * g.monitorRoom + (rest.map fun v => v.category).sum ≤ 8) (hdg : decode cc g.pc = .ok (.invokestatic index, 3)) (hf : cells + mc ≤ R.cells ∧ slots + ms ≤ R.slots) :
    vx_Run p l e R s m args below meth c H locs cells slots mc ms g rest (Qc As.toArray) XC free := by
  have hK : vx_Back l R p e below s args y 3 8 (PreOf R mc ms Pc) (PostOf Qc mc ms free) (vx_Post XC mc ms free) := vx_callBack cw.1 hM hp.1
  obtain ⟨⟨-, -, -, -, -, -, hcode, hini, hy, hlen, hl⟩, hstt⟩ := cw
  obtain ⟨hx, hb, hml, ho, -⟩ := S
  intro T hT X
  rcases vx_callS X hx (bytes := bytes) (maxL := maxL) (ret := ret) ho hl hstt hini hcode hy hK hg (hsize.trans hml.symm) (argsL := As) (rest := rest) (fun sig h => hn.trans (hlen sig h)) hstack hW (by rw [hb]; exact hdg)
    (fun vm₁ hW₁ => ⟨hf.1, hf.2, hp.2 (T.setVm vm₁) hT hW₁⟩) with ⟨v, vm₁, ⟨U', l2, c2, s2⟩, hW₁, X', ⟨g', mk, t, L, e1, e2, hq, h1, hL, h2, h3⟩, st⟩ | ⟨q, vm₁, ⟨U', l2, c2, s2⟩, hW₁, X', ⟨g', mk, t, L, E, ce, e1, e2, hq, hce, hcv, hcl, h1, hL, h2, h3⟩, st⟩
  · dsimp only [Pt.U, Pt.locs, Pt.cells, Pt.slots] at X' e1 e2 h1 h2 h3 st
    subst h1; subst h2; subst h3
    exact Or.inl ⟨v, (T.setVm vm₁).calling g' mk As.toArray, t, U', L, hT, X', hL, e1, e2, hq, st⟩
  · dsimp only [Pt.U, Pt.locs, Pt.cells, Pt.slots] at X' e1 e2 h1 h2 h3 st hcl
    subst h1; subst h2; subst h3
    exact Or.inr ⟨q, (T.setVm vm₁).calling g' mk As.toArray, t, U', L, E, ce, hT, X', hL, e1, e2, hq, hce, hcv, vx_cls hW₁ hcl, st⟩
end Runs
section Rows
variable {p : Program} {l : Launch} {e : Env} {R : Room} {s : State} {m : MethodId} {args : Array Value} {below : List Frame} {meth : Method} {c : Code} {H : Heap} {locs : List Loc} {cells slots : Nat} {Q : State → Prop}
variable {mc ms : Nat} {free : Addr → Prop} {A0 A1 : Nat → Prop} {H0 : Heap} {a : Array Value} {pc : Nat} {ls : Array Slot} {st0 rest : List Value}
theorem vx_keep {st₀ t T' : State} {L : List Loc} (h0 : st₀.heap = H) (e1 : T'.heap = t.heap) (hS : va_S A0 H0 H locs) (hA : ∀ q, q < H.size → A1 q → A0 q) (hf : ∀ q, free q → A0 q) (hL : ∀ q ∈ L, free q.base) (hF : va_F A1 st₀ t) :
    H.size ≤ T'.heap.size ∧ (∀ q : Nat, q < H.size → ¬ A1 q → T'.heap[q]? = H[q]?) ∧ va_S A0 H0 T'.heap (locs ++ L) := by
  obtain ⟨hz, hk⟩ := hF
  rw [h0] at hz hk
  exact ⟨by rw [e1]; exact hz, fun q h1 h2 => by rw [e1]; exact hk q h1 h2,
    ⟨Nat.le_trans hS.1 (by rw [e1]; exact hz), fun q h1 h2 => by rw [e1, hk q (Nat.lt_of_lt_of_le h1 hS.1) (fun z => h2 (hA q (Nat.lt_of_lt_of_le h1 hS.1) z))]; exact hS.2.1 q h1 h2, fun q hq => by
      rcases List.mem_append.mp hq with h | h
      · exact hS.2.2 q h
      · exact hf _ (hL q h)⟩⟩
theorem vx_calli {S SX : Type} {post : Int32 → S → Prop} {px : SX → Prop} {B : S → State → Prop} {BX : String → SX → State → Prop} {AX : Nat → Prop} (hr : vx_Run p l e R s m args below meth c H locs cells slots mc ms (F0 m pc ls st0) rest (va_Qi post B A1 a) (vx_X px BX AX) free) (hS : va_S A0 H0 H locs) (hA : ∀ q, q < H.size → A1 q → A0 q) (hf : ∀ q, free q → A0 q) (hAX : ∀ q, q < H.size → AX q → A0 q)
    (kx : ∀ (E : String) (ce : Cell) (q9 : Addr) (u : SX) (t : State) (H1 : Heap) (locs1 : List Loc), t.heap = H1 → s.vm.Alike t.vm → px u → BX E u t → H.size ≤ H1.size → (∀ q : Nat, q < H.size → ¬ AX q → H1[q]? = H[q]?) → va_S A0 H0 H1 locs1 → H1[q9]? = some ce → ce.vm = .none → s.vm.findClass E = some ce.cls → vx_W p l e R s m args below meth c H1 locs1 (cells + mc) (slots + ms) Q (F0 m pc ls rest) q9)
    (kk : ∀ (r : Int32) (u : S) (t : State) (H1 : Heap) (locs1 : List Loc), t.heap = H1 → s.vm.Alike t.vm → post r u → B u t → H.size ≤ H1.size → (∀ q : Nat, q < H.size → ¬ A1 q → H1[q]? = H[q]?) → va_S A0 H0 H1 locs1 → W p l e R s m args below meth c H1 locs1 (cells + mc) (slots + ms) Q (F0 m (pc + 3) ls (.int r :: rest))) : W p l e R s m args below meth c H locs cells slots Q (F0 m pc ls st0) := by
  intro T hT X
  rcases hr T hT X with ⟨v, st₀, t, T', L, h0, X', hL, e1, e2, ⟨⟨r, u, hv, hp, hb⟩, hF⟩, st⟩ | ⟨q, st₀, t, T', L, E, ce, h0, X', hL, e1, e2, ⟨u, hp, hb, hF⟩, hce, hcv, hcl, st⟩
  · cases hv
    obtain ⟨k1, k2, k3⟩ := vx_keep h0 e1 hS hA hf hL hF
    obtain ⟨t2, a1, b1⟩ := kk r u t T'.heap (locs ++ L) e1.symm (by rw [← e2]; exact X'.warmed.alike) hp hb k1 k2 k3 T' rfl X'
    exact ⟨t2, st t2 a1, b1⟩
  · obtain ⟨k1, k2, k3⟩ := vx_keep h0 e1 hS hAX hf hL hF
    obtain ⟨t2, a1, b1⟩ := kx E ce q u t T'.heap (locs ++ L) e1.symm (by rw [← e2]; exact X'.warmed.alike) hp hb k1 k2 k3 (by rw [e1]; exact hce) hcv hcl T' rfl X'
    exact ⟨t2, st.trans a1, b1⟩
theorem vx_calll {S SX : Type} {post : Int64 → S → Prop} {px : SX → Prop} {B : S → State → Prop} {BX : String → SX → State → Prop} {AX : Nat → Prop} (hr : vx_Run p l e R s m args below meth c H locs cells slots mc ms (F0 m pc ls st0) rest (va_Ql post B A1 a) (vx_X px BX AX) free) (hS : va_S A0 H0 H locs) (hA : ∀ q, q < H.size → A1 q → A0 q) (hf : ∀ q, free q → A0 q) (hAX : ∀ q, q < H.size → AX q → A0 q)
    (kx : ∀ (E : String) (ce : Cell) (q9 : Addr) (u : SX) (t : State) (H1 : Heap) (locs1 : List Loc), t.heap = H1 → s.vm.Alike t.vm → px u → BX E u t → H.size ≤ H1.size → (∀ q : Nat, q < H.size → ¬ AX q → H1[q]? = H[q]?) → va_S A0 H0 H1 locs1 → H1[q9]? = some ce → ce.vm = .none → s.vm.findClass E = some ce.cls → vx_W p l e R s m args below meth c H1 locs1 (cells + mc) (slots + ms) Q (F0 m pc ls rest) q9)
    (kk : ∀ (r : Int64) (u : S) (t : State) (H1 : Heap) (locs1 : List Loc), t.heap = H1 → s.vm.Alike t.vm → post r u → B u t → H.size ≤ H1.size → (∀ q : Nat, q < H.size → ¬ A1 q → H1[q]? = H[q]?) → va_S A0 H0 H1 locs1 → W p l e R s m args below meth c H1 locs1 (cells + mc) (slots + ms) Q (F0 m (pc + 3) ls (.long r :: rest))) : W p l e R s m args below meth c H locs cells slots Q (F0 m pc ls st0) := by
  intro T hT X
  rcases hr T hT X with ⟨v, st₀, t, T', L, h0, X', hL, e1, e2, ⟨⟨r, u, hv, hp, hb⟩, hF⟩, st⟩ | ⟨q, st₀, t, T', L, E, ce, h0, X', hL, e1, e2, ⟨u, hp, hb, hF⟩, hce, hcv, hcl, st⟩
  · cases hv
    obtain ⟨k1, k2, k3⟩ := vx_keep h0 e1 hS hA hf hL hF
    obtain ⟨t2, a1, b1⟩ := kk r u t T'.heap (locs ++ L) e1.symm (by rw [← e2]; exact X'.warmed.alike) hp hb k1 k2 k3 T' rfl X'
    exact ⟨t2, st t2 a1, b1⟩
  · obtain ⟨k1, k2, k3⟩ := vx_keep h0 e1 hS hAX hf hL hF
    obtain ⟨t2, a1, b1⟩ := kx E ce q u t T'.heap (locs ++ L) e1.symm (by rw [← e2]; exact X'.warmed.alike) hp hb k1 k2 k3 (by rw [e1]; exact hce) hcv hcl T' rfl X'
    exact ⟨t2, st.trans a1, b1⟩
theorem vx_callf {S SX : Type} {post : UInt32 → S → Prop} {px : SX → Prop} {B : S → State → Prop} {BX : String → SX → State → Prop} {AX : Nat → Prop} (hr : vx_Run p l e R s m args below meth c H locs cells slots mc ms (F0 m pc ls st0) rest (va_Qf post B A1 a) (vx_X px BX AX) free) (hS : va_S A0 H0 H locs) (hA : ∀ q, q < H.size → A1 q → A0 q) (hf : ∀ q, free q → A0 q) (hAX : ∀ q, q < H.size → AX q → A0 q)
    (kx : ∀ (E : String) (ce : Cell) (q9 : Addr) (u : SX) (t : State) (H1 : Heap) (locs1 : List Loc), t.heap = H1 → s.vm.Alike t.vm → px u → BX E u t → H.size ≤ H1.size → (∀ q : Nat, q < H.size → ¬ AX q → H1[q]? = H[q]?) → va_S A0 H0 H1 locs1 → H1[q9]? = some ce → ce.vm = .none → s.vm.findClass E = some ce.cls → vx_W p l e R s m args below meth c H1 locs1 (cells + mc) (slots + ms) Q (F0 m pc ls rest) q9)
    (kk : ∀ (r : UInt32) (u : S) (t : State) (H1 : Heap) (locs1 : List Loc), t.heap = H1 → s.vm.Alike t.vm → post r u → B u t → H.size ≤ H1.size → (∀ q : Nat, q < H.size → ¬ A1 q → H1[q]? = H[q]?) → va_S A0 H0 H1 locs1 → W p l e R s m args below meth c H1 locs1 (cells + mc) (slots + ms) Q (F0 m (pc + 3) ls (.float r :: rest))) : W p l e R s m args below meth c H locs cells slots Q (F0 m pc ls st0) := by
  intro T hT X
  rcases hr T hT X with ⟨v, st₀, t, T', L, h0, X', hL, e1, e2, ⟨⟨r, u, hv, hp, hb⟩, hF⟩, st⟩ | ⟨q, st₀, t, T', L, E, ce, h0, X', hL, e1, e2, ⟨u, hp, hb, hF⟩, hce, hcv, hcl, st⟩
  · cases hv
    obtain ⟨k1, k2, k3⟩ := vx_keep h0 e1 hS hA hf hL hF
    obtain ⟨t2, a1, b1⟩ := kk r u t T'.heap (locs ++ L) e1.symm (by rw [← e2]; exact X'.warmed.alike) hp hb k1 k2 k3 T' rfl X'
    exact ⟨t2, st t2 a1, b1⟩
  · obtain ⟨k1, k2, k3⟩ := vx_keep h0 e1 hS hAX hf hL hF
    obtain ⟨t2, a1, b1⟩ := kx E ce q u t T'.heap (locs ++ L) e1.symm (by rw [← e2]; exact X'.warmed.alike) hp hb k1 k2 k3 (by rw [e1]; exact hce) hcv hcl T' rfl X'
    exact ⟨t2, st.trans a1, b1⟩
theorem vx_calld {S SX : Type} {post : UInt64 → S → Prop} {px : SX → Prop} {B : S → State → Prop} {BX : String → SX → State → Prop} {AX : Nat → Prop} (hr : vx_Run p l e R s m args below meth c H locs cells slots mc ms (F0 m pc ls st0) rest (va_Qd post B A1 a) (vx_X px BX AX) free) (hS : va_S A0 H0 H locs) (hA : ∀ q, q < H.size → A1 q → A0 q) (hf : ∀ q, free q → A0 q) (hAX : ∀ q, q < H.size → AX q → A0 q)
    (kx : ∀ (E : String) (ce : Cell) (q9 : Addr) (u : SX) (t : State) (H1 : Heap) (locs1 : List Loc), t.heap = H1 → s.vm.Alike t.vm → px u → BX E u t → H.size ≤ H1.size → (∀ q : Nat, q < H.size → ¬ AX q → H1[q]? = H[q]?) → va_S A0 H0 H1 locs1 → H1[q9]? = some ce → ce.vm = .none → s.vm.findClass E = some ce.cls → vx_W p l e R s m args below meth c H1 locs1 (cells + mc) (slots + ms) Q (F0 m pc ls rest) q9)
    (kk : ∀ (r : UInt64) (u : S) (t : State) (H1 : Heap) (locs1 : List Loc), t.heap = H1 → s.vm.Alike t.vm → post r u → B u t → H.size ≤ H1.size → (∀ q : Nat, q < H.size → ¬ A1 q → H1[q]? = H[q]?) → va_S A0 H0 H1 locs1 → W p l e R s m args below meth c H1 locs1 (cells + mc) (slots + ms) Q (F0 m (pc + 3) ls (.double r :: rest))) : W p l e R s m args below meth c H locs cells slots Q (F0 m pc ls st0) := by
  intro T hT X
  rcases hr T hT X with ⟨v, st₀, t, T', L, h0, X', hL, e1, e2, ⟨⟨r, u, hv, hp, hb⟩, hF⟩, st⟩ | ⟨q, st₀, t, T', L, E, ce, h0, X', hL, e1, e2, ⟨u, hp, hb, hF⟩, hce, hcv, hcl, st⟩
  · cases hv
    obtain ⟨k1, k2, k3⟩ := vx_keep h0 e1 hS hA hf hL hF
    obtain ⟨t2, a1, b1⟩ := kk r u t T'.heap (locs ++ L) e1.symm (by rw [← e2]; exact X'.warmed.alike) hp hb k1 k2 k3 T' rfl X'
    exact ⟨t2, st t2 a1, b1⟩
  · obtain ⟨k1, k2, k3⟩ := vx_keep h0 e1 hS hAX hf hL hF
    obtain ⟨t2, a1, b1⟩ := kx E ce q u t T'.heap (locs ++ L) e1.symm (by rw [← e2]; exact X'.warmed.alike) hp hb k1 k2 k3 (by rw [e1]; exact hce) hcv hcl T' rfl X'
    exact ⟨t2, st.trans a1, b1⟩
theorem vx_callv {S SX : Type} {post : S → Prop} {px : SX → Prop} {B : S → State → Prop} {BX : String → SX → State → Prop} {AX : Nat → Prop} (hr : vx_Run p l e R s m args below meth c H locs cells slots mc ms (F0 m pc ls st0) rest (va_Qv post B A1 a) (vx_X px BX AX) free) (hS : va_S A0 H0 H locs) (hA : ∀ q, q < H.size → A1 q → A0 q) (hf : ∀ q, free q → A0 q) (hAX : ∀ q, q < H.size → AX q → A0 q)
    (kx : ∀ (E : String) (ce : Cell) (q9 : Addr) (u : SX) (t : State) (H1 : Heap) (locs1 : List Loc), t.heap = H1 → s.vm.Alike t.vm → px u → BX E u t → H.size ≤ H1.size → (∀ q : Nat, q < H.size → ¬ AX q → H1[q]? = H[q]?) → va_S A0 H0 H1 locs1 → H1[q9]? = some ce → ce.vm = .none → s.vm.findClass E = some ce.cls → vx_W p l e R s m args below meth c H1 locs1 (cells + mc) (slots + ms) Q (F0 m pc ls rest) q9)
    (kk : ∀ (u : S) (t : State) (H1 : Heap) (locs1 : List Loc), t.heap = H1 → s.vm.Alike t.vm → post u → B u t → H.size ≤ H1.size → (∀ q : Nat, q < H.size → ¬ A1 q → H1[q]? = H[q]?) → va_S A0 H0 H1 locs1 → W p l e R s m args below meth c H1 locs1 (cells + mc) (slots + ms) Q (F0 m (pc + 3) ls (rest))) : W p l e R s m args below meth c H locs cells slots Q (F0 m pc ls st0) := by
  intro T hT X
  rcases hr T hT X with ⟨v, st₀, t, T', L, h0, X', hL, e1, e2, ⟨⟨u, hv, hp, hb⟩, hF⟩, st⟩ | ⟨q, st₀, t, T', L, E, ce, h0, X', hL, e1, e2, ⟨u, hp, hb, hF⟩, hce, hcv, hcl, st⟩
  · cases hv
    obtain ⟨k1, k2, k3⟩ := vx_keep h0 e1 hS hA hf hL hF
    obtain ⟨t2, a1, b1⟩ := kk u t T'.heap (locs ++ L) e1.symm (by rw [← e2]; exact X'.warmed.alike) hp hb k1 k2 k3 T' rfl X'
    exact ⟨t2, st t2 a1, b1⟩
  · obtain ⟨k1, k2, k3⟩ := vx_keep h0 e1 hS hAX hf hL hF
    obtain ⟨t2, a1, b1⟩ := kx E ce q u t T'.heap (locs ++ L) e1.symm (by rw [← e2]; exact X'.warmed.alike) hp hb k1 k2 k3 (by rw [e1]; exact hce) hcv hcl T' rfl X'
    exact ⟨t2, st.trans a1, b1⟩
/-- caught by the row x of this method's table; the rows ahead don't take it -/
theorem vx_catch {own name : String} {E : String} {ce : Cell} {q : Addr} (hown : s.vm.findClass own = some m.cls) (pre : List ExceptionTableEntry) (x : ExceptionTableEntry) (suf : List ExceptionTableEntry) (hsplit : c.exceptionTable.toList = pre ++ x :: suf)
    (hpass : ∀ z ∈ pre, covers z pc = false ∨ (z.catchType ≠ 0 ∧ ∃ nm : String, (Cond.classLink own z.catchType nm).before args s = true ∧ va_Nc E nm s)) (hx : covers x pc = true) (h0 : x.catchType ≠ 0)
    (hlink : (Cond.classLink own x.catchType name).before args s = true) (hcast : (Cond.castable E name).before args s = true) (hcell : H[q]? = some ce) (hv : ce.vm = .none) (hcl : s.vm.findClass E = some ce.cls)
    (kk : W p l e R s m args below meth c H locs cells slots Q (F0 m x.handlerPc ls [.ref q])) : vx_W p l e R s m args below meth c H locs cells slots Q (F0 m pc ls rest) q := by
  intro T hT X
  have hpl : e.platform.magicAccessors = ({} : Platform).magicAccessors := by rw [X.admits.platform]
  obtain ⟨c3, c4, hc3, hc4, hasg⟩ := Cond.castable_spec hcast
  cases Option.some.inj (hc3.symm.trans hcl)
  obtain ⟨c5, hc5, hcl5⟩ := Cond.classLink_spec hown hlink e.platform hpl
  cases Option.some.inj (hc4.symm.trans hc5)
  obtain ⟨vm', X', st⟩ := X.thenCaughtThrough q (g := F0 m pc ls rest) rfl (Steps.refl _) (by rw [hT]; exact hcell) (by rw [hv]; rfl) (by obtain ⟨k9, h9, -⟩ := Vm.findClass_spec hcl; exact ⟨k9, h9⟩) pre x suf hsplit
    (fun z hz => by
      rcases hpass z hz with h | ⟨hz0, nm, hl1, hn1⟩
      · exact Or.inl h
      · obtain ⟨c6, hc6, hcl6⟩ := Cond.classLink_spec hown hl1 e.platform hpl
        obtain ⟨a8, b8, h1, h2, h3⟩ := hn1
        cases Option.some.inj (h1.symm.trans hcl)
        cases Option.some.inj (h2.symm.trans hc6)
        exact Or.inr ⟨hz0, _, hcl6, h3⟩) hx (Or.inr ⟨h0, c4, hcl5, hasg⟩)
  obtain ⟨t, a1, b1⟩ := kk (T.setVm vm') hT X'
  exact ⟨t, st.trans a1, b1⟩
end Rows
section Ends
variable {p : Program} {l : Launch} {e : Env} {R : Room} {s : State} {m : MethodId} {args : Array Value} {below : List Frame} {meth : Method} {c : Code} {H : Heap} {locs : List Loc} {cells slots : Nat} {Q : State → Prop}
variable {mc ms : Nat} {free : Addr → Prop} {A0 A1 : Nat → Prop} {H0 : Heap} {a : Array Value} {ls : Array Slot} {st0 rest : List Value}
variable {Qc : Array Value → State → Outcome → State → Prop} {XC : String → State → State → Prop}
/-- what a body that may throw owes at its end -/
def vx_MQ (below : List Frame) (Qc : Array Value → State → Outcome → State → Prop) (XC : String → State → State → Prop) (a : Array Value) (s : State) (mc ms : Nat) (free : Addr → Prop) : State → Prop := fun t =>
  ∃ o, t.status = .running ∧ Ended t below o ∧ vx_Q Qc XC mc ms free a s o t
theorem vx_ret {g : JFrame} {mc ms : Nat} (k : W p l e R s m args below meth c H locs cells slots (MQ below Qc args s mc ms free) g) : W p l e R s m args below meth c H locs cells slots (vx_MQ below Qc XC args s mc ms free) g := by
  intro T hT X
  obtain ⟨t, a1, o, b1, b2, b3, b4⟩ := k T hT X
  exact ⟨t, a1, o, b1, b2, Or.inl ⟨b3, b4⟩⟩
/-- not caught here: it goes on to the caller -/
theorem vx_widen {g : JFrame} {q : Addr} {k n : Nat} (h1 : cells ≤ k) (h2 : slots ≤ n) (kk : vx_W p l e R s m args below meth c H locs k n Q g q) : vx_W p l e R s m args below meth c H locs cells slots Q g q := fun T hT X => kk T hT (stand_widen X h1 h2)
theorem vx_out {pc : Nat} {E : String} {ce : Cell} {q : Addr} {mc ms : Nat} (hout : ∀ x ∈ c.exceptionTable.toList, covers x pc = false) (hlocks : meth.locks = false) (hcell : H[q]? = some ce) (hv : ce.vm = .none) (hcl : s.vm.findClass E = some ce.cls)
    (hx : ∀ t : State, t.heap = H → s.vm.Alike t.vm → XC E s t) (hf : ∀ z ∈ locs, free z.base) (hc : cells ≤ mc) (hs : slots ≤ ms) :
    vx_W p l e R s m args below meth c H locs cells slots (vx_MQ below Qc XC args s mc ms free) (F0 m pc ls rest) q := by
  intro T hT X
  obtain ⟨st1, hrun, hend, hW, hsm⟩ := X.leaveThrown q (g := F0 m pc ls rest) rfl rfl rfl hout hlocks
  have hcell9 : (T.setFrames (.throwing q :: below)).heap[q]? = some ce := by
    show T.heap[q]? = some ce
    rw [hT]; exact hcell
  exact ⟨_, st1, .threw q, hrun, hend, Or.inr ⟨q, rfl, E, ce, locs, hx _ hT hW.alike, hcell9, hv, hcl, hW, hsm.mono hc hs, hf⟩⟩
theorem vx_frame {U : State} {k n : Nat} (h : s.sameButNew ({ U with vm := s.vm } : State) locs k n) : s.heap.size ≤ U.heap.size ∧ ∀ q : Nat, q < s.heap.size → (∀ z ∈ locs, z.base ≠ q) → U.heap[q]? = s.heap[q]? := by
  obtain ⟨-, h2, -, -, -, h6⟩ := h
  refine ⟨h2, fun q hq hz => ?_⟩
  obtain ⟨c9, e1, e2, e3, e4⟩ := h6 q _ (Array.getElem?_eq_getElem hq)
  have hs : c9.slots = (s.heap[q]).slots := Array.ext_getElem? fun i => e4 i fun hm => hz _ hm rfl
  have h9 : c9 = s.heap[q] := by
    rw [hs] at e2
    exact e2
  have e5 : U.heap[q]? = some c9 := e1
  rw [e5, h9, Array.getElem?_eq_getElem hq]
/-- the words of a throw but the four that speak of the heap -/
def vx_no (w : Cond) : Bool := decide (w ≠ .isRef (.static Bundle.tN "UNASSIGNED_STACK" Bundle.steD)) && decide (w ≠ .isRef (.static Bundle.tN "SUPPRESSED_SENTINEL" Bundle.listD)) && decide (w ≠ .laysStatic Bundle.tN "UNASSIGNED_STACK" Bundle.steD) && decide (w ≠ .laysStatic Bundle.tN "SUPPRESSED_SENTINEL" Bundle.listD)
def vx_at0 (own : String) (ic : Nat) (X : String) (names : List String) : List Cond := (Bundle.ownAtoms0 own ic X names).filter vx_no
def vx_atS (own : String) (ic : Nat) (X : String) (names : List String) : List Cond := (Bundle.ownAtoms own ic X names).filter vx_no
/-- a word that the tables alone decide, or a good one -/
def vx_ot (w : Cond) : Bool := w.onTables || goodWord w
theorem vx_ot_at {args a' : Array Value} {s U : State} {w : Cond} (hW : s.WarmedH U.vm) (hvm : s.vm = U.vm) (hg : vx_ot w = true) (h : w.before args s = true) : w.before a' U = true := by
  simp only [vx_ot, Bool.or_eq_true] at hg
  rcases hg with hg | hg
  · exact va_tabs hg hvm h
  · exact word_at hW (good_of_word hg) h
/-- a list's words: the good ones out of the method's own list, the others by premises of their own -/
theorem vx_hat {args : Array Value} {s : State} {L B : List Cond} (h1 : ∀ w ∈ L.filter goodWord, w.before args s = true) (h2 : ∀ w ∈ L.filter (fun w => !goodWord w), w ∈ B) (h3 : ∀ w ∈ B, w.before args s = true) : ∀ w ∈ L, w.before args s = true := by
  intro w hw
  by_cases g : goodWord w = true
  · exact h1 w (List.mem_filter.mpr ⟨hw, g⟩)
  · refine h3 w (h2 w (List.mem_filter.mpr ⟨hw, ?_⟩))
    show (!goodWord w) = true
    cases hgw : goodWord w
    · rfl
    · exact absurd hgw g
theorem vx_c {args : Array Value} {s : State} {w : Cond} {B : List Cond} (h : w.before args s = true) (t : ∀ w ∈ B, w.before args s = true) : ∀ w' ∈ w :: B, w'.before args s = true := fun w' h' => (List.mem_cons.mp h').elim (fun e => by rw [e]; exact h) (t w')
theorem vx_n {args : Array Value} {s : State} : ∀ w ∈ ([] : List Cond), w.before args s = true := fun _ h => nomatch h
theorem vx_own {args : Array Value} {s : State} {L : List Cond} (h1 : ∀ w ∈ L.filter vx_no, w.before args s = true)
    (hU : (Cond.isRef (.static Bundle.tN "UNASSIGNED_STACK" Bundle.steD)).before args s = true) (hN : (Cond.isRef (.static Bundle.tN "SUPPRESSED_SENTINEL" Bundle.listD)).before args s = true)
    (lU : (Cond.laysStatic Bundle.tN "UNASSIGNED_STACK" Bundle.steD).before args s = true) (lN : (Cond.laysStatic Bundle.tN "SUPPRESSED_SENTINEL" Bundle.listD).before args s = true) : ∀ w ∈ L, w.before args s = true := by
  intro w hw
  by_cases e1 : w = .isRef (.static Bundle.tN "UNASSIGNED_STACK" Bundle.steD)
  · rw [e1]; exact hU
  · by_cases e2 : w = .isRef (.static Bundle.tN "SUPPRESSED_SENTINEL" Bundle.listD)
    · rw [e2]; exact hN
    · by_cases e3 : w = .laysStatic Bundle.tN "UNASSIGNED_STACK" Bundle.steD
      · rw [e3]; exact lU
      · by_cases e4 : w = .laysStatic Bundle.tN "SUPPRESSED_SENTINEL" Bundle.listD
        · rw [e4]; exact lN
        · exact h1 w (List.mem_filter.mpr ⟨hw, by unfold vx_no; rw [decide_eq_true e1, decide_eq_true e2, decide_eq_true e3, decide_eq_true e4]; rfl⟩)
/-- where a static field lies, its class's statics cell in H -/
def vx_L (C n d : String) (A : Nat → Prop) (U : State) (H : Heap) : Prop := ∃ (c : ClassId) (k : Class) (i : Nat) (f : Field) (a : Nat) (cell : Cell), U.vm.findClass C = some c ∧ U.fieldFound? C n d = some (c, k, i, f) ∧ f.isStatic = true ∧ k.statics = some a ∧ H[a]? = some cell ∧ cell.vm.isStatics = true ∧ cell.cls = c ∧ f.slot < cell.slots.size ∧ k.staticTypes[f.slot]? = some f.type ∧ ¬ A a
theorem vx_L.moved {C n d : String} {A : Nat → Prop} {u U : State} {H : Heap} (hvm : u.vm.Alike U.vm) (h : vx_L C n d A u H) : vx_L C n d A U H := by
  obtain ⟨c, k, i, f, a, cell, h1, h2, h3, h4, h5, h6, h7, h8, h9, h10⟩ := h
  obtain ⟨k', hi', he⟩ := State.fieldFound?_setVm hvm h2
  exact ⟨c, k', i, f, a, cell, by rw [hvm.findClass]; exact h1, hi', h3, by rw [he]; exact h4, h5, h6, h7, h8, by rw [he]; exact h9, h10⟩
theorem vx_L.kept {C n d : String} {A : Nat → Prop} {U : State} {H H1 : Heap} (h : vx_L C n d A U H) (hq : ∀ a : Nat, a < H.size → ¬ A a → H1[a]? = H[a]?) : vx_L C n d A U H1 := by
  obtain ⟨c, k, i, f, a, cell, h1, h2, h3, h4, h5, h6, h7, h8, h9, h10⟩ := h
  exact ⟨c, k, i, f, a, cell, h1, h2, h3, h4, by rw [hq a (Array.getElem?_eq_some_iff.mp h5).1 h10]; exact h5, h6, h7, h8, h9, h10⟩
theorem vx_L.narrow {C n d : String} {A B : Nat → Prop} {U : State} {H : Heap} (h : vx_L C n d A U H) (hAB : ∀ q, B q → A q) : vx_L C n d B U H := by
  obtain ⟨c, k, i, f, a, cell, h1, h2, h3, h4, h5, h6, h7, h8, h9, h10⟩ := h
  exact ⟨c, k, i, f, a, cell, h1, h2, h3, h4, h5, h6, h7, h8, h9, fun z => h10 (hAB _ z)⟩
theorem vx_L.word {C n d : String} {A : Nat → Prop} {s : State} {args : Array Value} (h : vx_L C n d A s s.heap) : (Cond.laysStatic C n d).before args s = true := by
  obtain ⟨c, k, i, f, a, cell, h1, h2, h3, h4, h5, h6, h7, h8, h9, -⟩ := h
  show (Cond.laysStatic C n d).holds args s none s [] = true
  exact Cond.laysStatic_of h1 h2 h3 h4 h5 h6 h7 h8 h9
/-- .. and what it holds: null or some reference -/
def vx_Zq (C n d : String) (A : Nat → Prop) (U : State) (H : Heap) : Prop := va_Zq C n d A U H ∧ vx_L C n d A U H
theorem vx_Zq.moved {C n d : String} {A : Nat → Prop} {u U : State} {H : Heap} (hvm : u.vm.Alike U.vm) (h : vx_Zq C n d A u H) : vx_Zq C n d A U H := ⟨va_Zq.moved hvm h.1, vx_L.moved hvm h.2⟩
theorem vx_Zq.kept {C n d : String} {A : Nat → Prop} {U : State} {H H1 : Heap} (h : vx_Zq C n d A U H) (hq : ∀ a : Nat, a < H.size → ¬ A a → H1[a]? = H[a]?) : vx_Zq C n d A U H1 := ⟨va_Zq.kept h.1 hq, vx_L.kept h.2 hq⟩
theorem vx_Zq.narrow {C n d : String} {A B : Nat → Prop} {U : State} {H : Heap} (h : vx_Zq C n d A U H) (hAB : ∀ q, B q → A q) : vx_Zq C n d B U H := ⟨va_Zq.narrow h.1 hAB, vx_L.narrow h.2 hAB⟩
theorem vx_Zqof {args : Array Value} {s : State} {C n d : String} {A : Nat → Prop} (hl : (Cond.laysStatic C n d).before args s = true) (hini : (Cond.initialized C).before args s = true) (h : (Cond.isRef (.static C n d)).before args s = true) (hA : ∀ a : Nat, a < s.heap.size → ¬ A a) : vx_Zq C n d A s s.heap := by
  refine ⟨va_Zqof hl hini h hA, ?_⟩
  obtain ⟨c, k, i, f, a, cell, h1, h2, h3, h4, h5, h6, h7, h8, h9⟩ := Cond.laysStatic_spec hl
  exact ⟨c, k, i, f, a, cell, h1, h2, h3, h4, h5, h6, h7, h8, h9, hA a (Array.getElem?_eq_some_iff.mp h5).1⟩
theorem vx_isRef {C n d : String} {v : Value} {A : Nat → Prop} {s : State} {args : Array Value} (h : va_Z C n d v A s s.heap) (hv : v.isRef = true) : (Cond.isRef (.static C n d)).before args s = true := by
  obtain ⟨cf, kf, fi, f, a, cell, h1, h2, h3, h4, h5, h6, h7, -⟩ := h
  have he : (Term.static C n d).eval args s none [] s = some v := by
    simp [Term.eval, State.fieldNamed?, h1, h2, h4, h5, h6, h7]
  simp only [Cond.before, Cond.holds, Cond.value, he]
  cases v <;> simp_all [Value.isRef]
theorem vx_isRefq {C n d : String} {A : Nat → Prop} {s : State} {args : Array Value} (h : va_Zq C n d A s s.heap) : (Cond.isRef (.static C n d)).before args s = true := by
  rcases h with h | ⟨t, h⟩
  · exact vx_isRef h rfl
  · exact vx_isRef h rfl
/-- the same frame, seen from here: as if the method were called anew in this heap -/
theorem vx_rebase {T : State} (X : Stand p l e R s m args below meth c T locs cells slots) {R' : Room} (hf : R'.frames ≤ R.frames) (hl : R'.locals ≤ R.locals) (hc : cells + R'.cells ≤ R.cells) (hs : slots + R'.slots ≤ R.slots) :
    Stand p l e R' ((T.setVm s.vm).setFrames (.invoking m args :: below)) m args below meth c T [] 0 0 := by
  have htop : (T.setVm s.vm).topJava?.isSome := X.here.top
  have hF : ((T.setVm s.vm).setFrames (.invoking m args :: below)).frames = .invoking m args :: below := State.frames_setFrames _ (State.cur_lt_of_top htop)
  obtain ⟨g₀, hg0⟩ := Option.isSome_iff_exists.mp htop
  obtain ⟨r, hr⟩ := State.topJava?_eq_some.mp hg0
  have hl9 : e.platform.stackLimits (T.setVm s.vm).me = e.platform.stackLimits s.me := X.limits
  have hb9 : (T.setVm s.vm).me.stackBytes = s.me.stackBytes := X.bytes
  refine ⟨X.admits, X.cas, X.clock, hF, ?_, X.hears, X.method, X.code, X.here, X.tail, X.warmed, ?_, ?_, ?_⟩
  · have h := X.room
    have hU : ((T.setVm s.vm).setFrames (.invoking m args :: below)).localsInUse = s.localsInUse := by
      rw [State.localsInUse_invoking hF (meth := meth) (c := c) X.method X.code, State.localsInUse_invoking X.frames X.method X.code]
    simp only [State.hasRoom, Bool.and_eq_true, decide_eq_true_eq] at h ⊢
    obtain ⟨⟨⟨⟨h1, h2, h3, h4, h5, h6⟩, h7⟩, h8⟩, h9⟩ := h
    rw [X.frames, List.length_cons] at h2 h3
    have q1 := X.heapSize
    have q2 := X.used
    simp only [hF, hU, List.length_cons, State.stackLimits_setFrames, State.stackBytes_setFrames, hl9, hb9]
    refine ⟨⟨⟨⟨by omega, by omega, by omega, by omega, by omega, h6⟩, ?_⟩, ?_⟩, X.book⟩
    · show T.heap.size + R'.cells ≤ e.platform.maxCells
      omega
    · show T.slotsUsed + R'.slots ≤ e.platform.maxSlots
      omega
  · rw [State.stackLimits_setFrames]; rfl
  · rw [State.stackBytes_setFrames]; rfl
  · refine ⟨?_, Nat.le_refl _, Nat.le_refl _, ?_, ?_, fun a c9 h9 => ⟨c9, h9, rfl, rfl, fun _ _ => rfl⟩⟩
    · obtain ⟨t, ht, -⟩ := State.frames_cons hr
      show T.setVm s.vm = { ((T.setVm s.vm).setFrames (.invoking m args :: below)).setFrames (T.setVm s.vm).frames with heap := T.heap, slotsUsed := T.slotsUsed }
      rw [State.setFrames_setFrames, State.setFrames_self ht]
      rfl
    · show T.slotsUsed = T.slotsUsed + ((T.heap.toList.drop T.heap.size).map (·.slots.size)).sum
      rw [List.drop_eq_nil_of_le (Nat.le_of_eq Array.length_toList)]
      rfl
    · show ((T.heap.toList.drop T.heap.size).map (·.slots.size)).sum ≤ 0
      rw [List.drop_eq_nil_of_le (Nat.le_of_eq Array.length_toList)]
      exact Nat.le_refl _
/-- 'throw new E()': new; dup; invokespecial; athrow -/
theorem vx_throw0 {cc : ByteArray} {pc : Nat} (hexec : p.tables.exec = Jvm.exec) (hb : c.code = cc) (hl : l.stackTraces = false) {own cls : String} {names : List String} {ik ic mc ms : Nat} {A : Nat → Prop}
    (hown : s.vm.findClass own = some m.cls) (hcls : Bundle.fit cls = true) (hnames : ∀ n ∈ names, Bundle.fit n = true)
    (hk : (Cond.classLink own ik cls).before args s = true) (hini : (Cond.initialized cls).before args s = true) (hat : ∀ w ∈ vx_at0 own ic cls names, w.before args s = true)
    (hgood : ∀ w ∈ Cond.classLink own ik cls :: Cond.initialized cls :: vx_at0 own ic cls names, vx_ot w = true)
    (hU : vx_Zq Bundle.tN "UNASSIGNED_STACK" Bundle.steD A s s.heap) (hN : vx_Zq Bundle.tN "SUPPRESSED_SENTINEL" Bundle.listD A s s.heap) (hS : va_S A s.heap H locs) (hsize : ls.size = c.maxLocals)
    (d0 : decode cc pc = .ok (.new ik, 3)) (d3 : decode cc (pc + 3) = .ok (.dup, 1)) (d4 : decode cc (pc + 4) = .ok (.invokespecial ic, 3)) (d7 : decode cc (pc + 7) = .ok (.athrow, 1))
    (hout : ∀ x ∈ c.exceptionTable.toList, covers x (pc + 7) = false)
    (hRframes : names.length + 3 < R.frames) (hRlocals : (rest.map fun v => v.category).sum + (13 * (names.length + 1) + 42) ≤ R.locals) (hRcells : cells + 1 ≤ R.cells) (hRslots : slots + 6 ≤ R.slots) (hlocks : meth.locks = false)
    (hx : ∀ t : State, s.vm.Alike t.vm → H.size ≤ t.heap.size → (∀ q : Nat, q < H.size → t.heap[q]? = H[q]?) → XC cls s t)
    (hf : ∀ z ∈ locs, free z.base) (hc : cells + 1 ≤ mc) (hs : slots + 6 ≤ ms) :
    W p l e R s m args below meth c H locs cells slots (vx_MQ below Qc XC args s mc ms free) (F0 m pc ls rest) := by
  intro T hT X
  have htr : e.platform.stackTraces = false := (show e.platform.stackTraces = l.stackTraces by rw [X.admits.platform]).trans hl
  have Y := vx_rebase X (R' := { frames := R.frames, locals := R.locals, cells := 1, slots := 6 }) (Nat.le_refl _) (Nat.le_refl _) hRcells hRslots
  obtain ⟨s', hA⟩ : ∃ z, z = (T.setVm s.vm).setFrames (.invoking m args :: below) := ⟨_, rfl⟩
  rw [← hA] at Y
  have hvm : s'.vm = s.vm := by rw [hA]; rfl
  have hhp : s'.heap = H := by rw [hA]; exact hT
  have hW0 : s.WarmedH s'.vm := by rw [hvm]; exact State.WarmedH.refl s
  have hat' : ∀ w ∈ vx_at0 own ic cls names, w.before args s' = true := fun w hw => vx_ot_at hW0 hvm.symm (hgood w (List.mem_cons_of_mem _ (List.mem_cons_of_mem _ hw))) (hat w hw)
  have hk' : (Cond.classLink own ik cls).before args s' = true := vx_ot_at hW0 hvm.symm (hgood _ List.mem_cons_self) hk
  have hini' : (Cond.initialized cls).before args s' = true := vx_ot_at hW0 hvm.symm (hgood _ (List.mem_cons_of_mem _ List.mem_cons_self)) hini
  have hU' : vx_Zq Bundle.tN "UNASSIGNED_STACK" Bundle.steD A s' s'.heap := by rw [hhp]; exact vx_Zq.moved hW0.alike (hU.kept hS.2.1)
  have hN' : vx_Zq Bundle.tN "SUPPRESSED_SENTINEL" Bundle.listD A s' s'.heap := by rw [hhp]; exact vx_Zq.moved hW0.alike (hN.kept hS.2.1)
  have h : ∀ w ∈ Bundle.ownAtoms0 own ic cls names, w.before args s' = true := vx_own hat' (vx_isRefq hU'.1) (vx_isRefq hN'.1) hU'.2.word hN'.2.word
  have hown' : s'.vm.findClass own = some m.cls := by rw [hvm]; exact hown
  have hins : (Cond.instantiable cls 6).before args s' = true := h _ (by simp [Bundle.ownAtoms0])
  obtain ⟨vm₁, cX, kX, hfX, hkX, -, -, X₁, st1⟩ := Y.newCold hexec (own := own) (C := cls) (index := ik) (n := 6) hown' hk' hins hini'
    (g := F0 m pc ls rest) rfl (by rw [hb]; exact d0) (Nat.le_refl _) (Nat.le_refl _)
  generalize hT1 : (T.setVm vm₁).pushCell { cls := cX, slots := kX.instanceTypes.map defaultValue, vm := .none } = T1 at X₁ st1
  have hcat : (Value.ref T.heap.size).category = 1 := rfl
  have hcellA : T1.heap[T.heap.size]? = some (freshCell cX kX) := by rw [← hT1]; exact State.heap_pushCell_size _ _
  have d3' : decode c.code (pc + 3) = .ok (.dup, 1) := by rw [hb]; exact d3
  obtain ⟨U, hsteps, hrun, hend, hW, hsame, ce, hce, hO⟩ := X₁.ctorThrow0 hexec htr (own := own) (cls := cls) (names := names) (ic := ic) hown' hcls hnames h (fun x hx => nomatch hx) hfX hkX hcellA (by rw [hhp, hT]; exact Nat.le_refl _)
    (g := { method := m, pc := pc + 4, locals := ls, stack := .ref T.heap.size :: .ref T.heap.size :: rest, locked := none }) rfl hsize rfl rfl (rest := rest) rfl
    (by rw [hb]; exact d4) (by rw [hb]; exact d7) hout hRframes (by simp only [List.map_cons, List.sum_cons, hcat]; omega) hlocks
  obtain ⟨f1, f2⟩ := vx_frame hsame
  rw [hhp] at f1 f2
  have hWs : s.WarmedH U.vm := State.WarmedH.trans hW0 hW
  have hcl : s.vm.findClass cls = some ce.cls := by
    have h9 := hO.cls
    rw [hvm] at h9
    exact h9
  have hall : s.sameButNew ({ U with vm := s.vm } : State) locs mc ms := by
    subst hA
    obtain ⟨e1, e2⟩ := hsame
    rw [State.setFrames_setFrames] at e1
    have h2 : (T.setVm s.vm).sameButNew ({ U with vm := s.vm } : State) [] (0 + 1) (0 + 6) := ⟨e1, e2⟩
    have h3 := X.same.trans h2
    rw [List.append_nil] at h3
    exact h3.mono hc hs
  refine ⟨U, ?_, .threw T.heap.size, hrun, hend, Or.inr ⟨T.heap.size, rfl, cls, ce, locs, hx U hWs.alike f1 (fun q hq => f2 q hq (fun z hz => nomatch hz)), hce, hO.vm, hcl, hWs, hall, hf⟩⟩
  refine st1 _ ?_
  show Steps p.tables e below (T1.setTop { method := m, pc := pc + 3, locals := ls, stack := .ref T.heap.size :: rest, locked := none }) _
  jvm_step X₁.here [X₁.here.top, hexec, d3', Value.category]
  exact hsteps
/-- 'throw new E("text")': new; dup; ldc; invokespecial; athrow -/
theorem vx_throwS {cc : ByteArray} {pc : Nat} (hexec : p.tables.exec = Jvm.exec) (hb : c.code = cc) (hl : l.stackTraces = false) {own cls text : String} {names : List String} {ik is ic mc ms sa : Nat} {A : Nat → Prop}
    (hown : s.vm.findClass own = some m.cls) (hcls : Bundle.fit cls = true) (hnames : ∀ n ∈ names, Bundle.fit n = true)
    (hk : (Cond.classLink own ik cls).before args s = true) (hini : (Cond.initialized cls).before args s = true) (hstr : vk_R own is text sa s) (hat : ∀ w ∈ vx_atS own ic cls names, w.before args s = true)
    (hgood : ∀ w ∈ Cond.classLink own ik cls :: Cond.initialized cls :: vx_atS own ic cls names, vx_ot w = true)
    (hU : vx_Zq Bundle.tN "UNASSIGNED_STACK" Bundle.steD A s s.heap) (hN : vx_Zq Bundle.tN "SUPPRESSED_SENTINEL" Bundle.listD A s s.heap) (hS : va_S A s.heap H locs) (hsize : ls.size = c.maxLocals)
    (d0 : decode cc pc = .ok (.new ik, 3)) (d3 : decode cc (pc + 3) = .ok (.dup, 1)) (d4 : decode cc (pc + 4) = .ok (.ldc is, 2)) (d6 : decode cc (pc + 6) = .ok (.invokespecial ic, 3)) (d9 : decode cc (pc + 9) = .ok (.athrow, 1))
    (hout : ∀ x ∈ c.exceptionTable.toList, covers x (pc + 9) = false)
    (hRframes : names.length + 3 < R.frames) (hRlocals : (rest.map fun v => v.category).sum + (13 * (names.length + 1) + 43) ≤ R.locals) (hRcells : cells + 1 ≤ R.cells) (hRslots : slots + 6 ≤ R.slots) (hlocks : meth.locks = false)
    (hx : ∀ t : State, s.vm.Alike t.vm → H.size ≤ t.heap.size → (∀ q : Nat, q < H.size → t.heap[q]? = H[q]?) → XC cls s t)
    (hf : ∀ z ∈ locs, free z.base) (hc : cells + 1 ≤ mc) (hs : slots + 6 ≤ ms) :
    W p l e R s m args below meth c H locs cells slots (vx_MQ below Qc XC args s mc ms free) (F0 m pc ls rest) := by
  intro T hT X
  have htr : e.platform.stackTraces = false := (show e.platform.stackTraces = l.stackTraces by rw [X.admits.platform]).trans hl
  have Y := vx_rebase X (R' := { frames := R.frames, locals := R.locals, cells := 1, slots := 6 }) (Nat.le_refl _) (Nat.le_refl _) hRcells hRslots
  obtain ⟨s', hA⟩ : ∃ z, z = (T.setVm s.vm).setFrames (.invoking m args :: below) := ⟨_, rfl⟩
  rw [← hA] at Y
  have hvm : s'.vm = s.vm := by rw [hA]; rfl
  have hhp : s'.heap = H := by rw [hA]; exact hT
  have hW0 : s.WarmedH s'.vm := by rw [hvm]; exact State.WarmedH.refl s
  have hat' : ∀ w ∈ vx_atS own ic cls names, w.before args s' = true := fun w hw => vx_ot_at hW0 hvm.symm (hgood w (List.mem_cons_of_mem _ (List.mem_cons_of_mem _ hw))) (hat w hw)
  have hk' : (Cond.classLink own ik cls).before args s' = true := vx_ot_at hW0 hvm.symm (hgood _ List.mem_cons_self) hk
  have hini' : (Cond.initialized cls).before args s' = true := vx_ot_at hW0 hvm.symm (hgood _ (List.mem_cons_of_mem _ List.mem_cons_self)) hini
  have hU' : vx_Zq Bundle.tN "UNASSIGNED_STACK" Bundle.steD A s' s'.heap := by rw [hhp]; exact vx_Zq.moved hW0.alike (hU.kept hS.2.1)
  have hN' : vx_Zq Bundle.tN "SUPPRESSED_SENTINEL" Bundle.listD A s' s'.heap := by rw [hhp]; exact vx_Zq.moved hW0.alike (hN.kept hS.2.1)
  have h : ∀ w ∈ Bundle.ownAtoms own ic cls names, w.before args s' = true := vx_own hat' (vx_isRefq hU'.1) (vx_isRefq hN'.1) hU'.2.word hN'.2.word
  have hown' : s'.vm.findClass own = some m.cls := by rw [hvm]; exact hown
  have hins : (Cond.instantiable cls 6).before args s' = true := h _ (by simp [Bundle.ownAtoms])
  obtain ⟨vm₁, cX, kX, hfX, hkX, -, -, X₁, st1⟩ := Y.newCold hexec (own := own) (C := cls) (index := ik) (n := 6) hown' hk' hins hini'
    (g := F0 m pc ls rest) rfl (by rw [hb]; exact d0) (Nat.le_refl _) (Nat.le_refl _)
  generalize hT1 : (T.setVm vm₁).pushCell { cls := cX, slots := kX.instanceTypes.map defaultValue, vm := .none } = T1 at X₁ st1
  have hcat : (Value.ref T.heap.size).category = 1 := rfl
  have hcellA : T1.heap[T.heap.size]? = some (freshCell cX kX) := by rw [← hT1]; exact State.heap_pushCell_size _ _
  have d3' : decode c.code (pc + 3) = .ok (.dup, 1) := by rw [hb]; exact d3
  have d4' : decode c.code (pc + 4) = .ok (.ldc is, 2) := by rw [hb]; exact d4
  have hstr' : vk_R own is text sa s' := vk_R.warm hW0 hstr
  obtain ⟨U, hsteps, hrun, hend, hW, hsame, ce, hce, hO⟩ := X₁.ctorThrowS hexec htr (own := own) (cls := cls) (names := names) (ic := ic) hown' hcls hnames h (fun x hx => nomatch hx) hfX hkX hcellA (by rw [hhp, hT]; exact Nat.le_refl _) (msg := .ref sa) rfl
    (g := { method := m, pc := pc + 6, locals := ls, stack := .ref sa :: .ref T.heap.size :: .ref T.heap.size :: rest, locked := none }) rfl hsize rfl rfl (rest := rest) rfl
    (by rw [hb]; exact d6) (by rw [hb]; exact d9) hout hRframes (by simp only [List.map_cons, List.sum_cons, hcat]; omega) hlocks
  obtain ⟨f1, f2⟩ := vx_frame hsame
  rw [hhp] at f1 f2
  have hWs : s.WarmedH U.vm := State.WarmedH.trans hW0 hW
  have hcl : s.vm.findClass cls = some ce.cls := by
    have h9 := hO.cls
    rw [hvm] at h9
    exact h9
  have hall : s.sameButNew ({ U with vm := s.vm } : State) locs mc ms := by
    subst hA
    obtain ⟨e1, e2⟩ := hsame
    rw [State.setFrames_setFrames] at e1
    have h2 : (T.setVm s.vm).sameButNew ({ U with vm := s.vm } : State) [] (0 + 1) (0 + 6) := ⟨e1, e2⟩
    have h3 := X.same.trans h2
    rw [List.append_nil] at h3
    exact h3.mono hc hs
  refine ⟨U, ?_, .threw T.heap.size, hrun, hend, Or.inr ⟨T.heap.size, rfl, cls, ce, locs, hx U hWs.alike f1 (fun q hq => f2 q hq (fun z hz => nomatch hz)), hce, hO.vm, hcl, hWs, hall, hf⟩⟩
  refine st1 _ ?_
  show Steps p.tables e below (T1.setTop { method := m, pc := pc + 3, locals := ls, stack := .ref T.heap.size :: rest, locked := none }) _
  jvm_step X₁.here [X₁.here.top, hexec, d3', Value.category]
  exact X₁.ldcString hexec (own := own) (text := text) (index := is) (a := sa) hown' hstr'.1 hstr'.2
    (g := { method := m, pc := pc + 4, locals := ls, stack := .ref T.heap.size :: .ref T.heap.size :: rest, locked := none }) rfl d4' _ hsteps
/-- 'throw new E("text")', the text by a wide index -/
theorem vx_throwSW {cc : ByteArray} {pc : Nat} (hexec : p.tables.exec = Jvm.exec) (hb : c.code = cc) (hl : l.stackTraces = false) {own cls text : String} {names : List String} {ik is ic mc ms sa : Nat} {A : Nat → Prop}
    (hown : s.vm.findClass own = some m.cls) (hcls : Bundle.fit cls = true) (hnames : ∀ n ∈ names, Bundle.fit n = true)
    (hk : (Cond.classLink own ik cls).before args s = true) (hini : (Cond.initialized cls).before args s = true) (hstr : vk_R own is text sa s) (hat : ∀ w ∈ vx_atS own ic cls names, w.before args s = true)
    (hgood : ∀ w ∈ Cond.classLink own ik cls :: Cond.initialized cls :: vx_atS own ic cls names, vx_ot w = true)
    (hU : vx_Zq Bundle.tN "UNASSIGNED_STACK" Bundle.steD A s s.heap) (hN : vx_Zq Bundle.tN "SUPPRESSED_SENTINEL" Bundle.listD A s s.heap) (hS : va_S A s.heap H locs) (hsize : ls.size = c.maxLocals)
    (d0 : decode cc pc = .ok (.new ik, 3)) (d3 : decode cc (pc + 3) = .ok (.dup, 1)) (d4 : decode cc (pc + 4) = .ok (.ldc_w is, 3)) (d7 : decode cc (pc + 7) = .ok (.invokespecial ic, 3)) (d10 : decode cc (pc + 10) = .ok (.athrow, 1))
    (hout : ∀ x ∈ c.exceptionTable.toList, covers x (pc + 10) = false)
    (hRframes : names.length + 3 < R.frames) (hRlocals : (rest.map fun v => v.category).sum + (13 * (names.length + 1) + 43) ≤ R.locals) (hRcells : cells + 1 ≤ R.cells) (hRslots : slots + 6 ≤ R.slots) (hlocks : meth.locks = false)
    (hx : ∀ t : State, s.vm.Alike t.vm → H.size ≤ t.heap.size → (∀ q : Nat, q < H.size → t.heap[q]? = H[q]?) → XC cls s t)
    (hf : ∀ z ∈ locs, free z.base) (hc : cells + 1 ≤ mc) (hs : slots + 6 ≤ ms) :
    W p l e R s m args below meth c H locs cells slots (vx_MQ below Qc XC args s mc ms free) (F0 m pc ls rest) := by
  intro T hT X
  have htr : e.platform.stackTraces = false := (show e.platform.stackTraces = l.stackTraces by rw [X.admits.platform]).trans hl
  have Y := vx_rebase X (R' := { frames := R.frames, locals := R.locals, cells := 1, slots := 6 }) (Nat.le_refl _) (Nat.le_refl _) hRcells hRslots
  obtain ⟨s', hA⟩ : ∃ z, z = (T.setVm s.vm).setFrames (.invoking m args :: below) := ⟨_, rfl⟩
  rw [← hA] at Y
  have hvm : s'.vm = s.vm := by rw [hA]; rfl
  have hhp : s'.heap = H := by rw [hA]; exact hT
  have hW0 : s.WarmedH s'.vm := by rw [hvm]; exact State.WarmedH.refl s
  have hat' : ∀ w ∈ vx_atS own ic cls names, w.before args s' = true := fun w hw => vx_ot_at hW0 hvm.symm (hgood w (List.mem_cons_of_mem _ (List.mem_cons_of_mem _ hw))) (hat w hw)
  have hk' : (Cond.classLink own ik cls).before args s' = true := vx_ot_at hW0 hvm.symm (hgood _ List.mem_cons_self) hk
  have hini' : (Cond.initialized cls).before args s' = true := vx_ot_at hW0 hvm.symm (hgood _ (List.mem_cons_of_mem _ List.mem_cons_self)) hini
  have hU' : vx_Zq Bundle.tN "UNASSIGNED_STACK" Bundle.steD A s' s'.heap := by rw [hhp]; exact vx_Zq.moved hW0.alike (hU.kept hS.2.1)
  have hN' : vx_Zq Bundle.tN "SUPPRESSED_SENTINEL" Bundle.listD A s' s'.heap := by rw [hhp]; exact vx_Zq.moved hW0.alike (hN.kept hS.2.1)
  have h : ∀ w ∈ Bundle.ownAtoms own ic cls names, w.before args s' = true := vx_own hat' (vx_isRefq hU'.1) (vx_isRefq hN'.1) hU'.2.word hN'.2.word
  have hown' : s'.vm.findClass own = some m.cls := by rw [hvm]; exact hown
  have hins : (Cond.instantiable cls 6).before args s' = true := h _ (by simp [Bundle.ownAtoms])
  obtain ⟨vm₁, cX, kX, hfX, hkX, -, -, X₁, st1⟩ := Y.newCold hexec (own := own) (C := cls) (index := ik) (n := 6) hown' hk' hins hini'
    (g := F0 m pc ls rest) rfl (by rw [hb]; exact d0) (Nat.le_refl _) (Nat.le_refl _)
  generalize hT1 : (T.setVm vm₁).pushCell { cls := cX, slots := kX.instanceTypes.map defaultValue, vm := .none } = T1 at X₁ st1
  have hcat : (Value.ref T.heap.size).category = 1 := rfl
  have hcellA : T1.heap[T.heap.size]? = some (freshCell cX kX) := by rw [← hT1]; exact State.heap_pushCell_size _ _
  have d3' : decode c.code (pc + 3) = .ok (.dup, 1) := by rw [hb]; exact d3
  have d4' : decode c.code (pc + 4) = .ok (.ldc_w is, 3) := by rw [hb]; exact d4
  have hstr' : vk_R own is text sa s' := vk_R.warm hW0 hstr
  obtain ⟨U, hsteps, hrun, hend, hW, hsame, ce, hce, hO⟩ := X₁.ctorThrowS hexec htr (own := own) (cls := cls) (names := names) (ic := ic) hown' hcls hnames h (fun x hx => nomatch hx) hfX hkX hcellA (by rw [hhp, hT]; exact Nat.le_refl _) (msg := .ref sa) rfl
    (g := { method := m, pc := pc + 7, locals := ls, stack := .ref sa :: .ref T.heap.size :: .ref T.heap.size :: rest, locked := none }) rfl hsize rfl rfl (rest := rest) rfl
    (by rw [hb]; exact d7) (by rw [hb]; exact d10) hout hRframes (by simp only [List.map_cons, List.sum_cons, hcat]; omega) hlocks
  obtain ⟨f1, f2⟩ := vx_frame hsame
  rw [hhp] at f1 f2
  have hWs : s.WarmedH U.vm := State.WarmedH.trans hW0 hW
  have hcl : s.vm.findClass cls = some ce.cls := by
    have h9 := hO.cls
    rw [hvm] at h9
    exact h9
  have hall : s.sameButNew ({ U with vm := s.vm } : State) locs mc ms := by
    subst hA
    obtain ⟨e1, e2⟩ := hsame
    rw [State.setFrames_setFrames] at e1
    have h2 : (T.setVm s.vm).sameButNew ({ U with vm := s.vm } : State) [] (0 + 1) (0 + 6) := ⟨e1, e2⟩
    have h3 := X.same.trans h2
    rw [List.append_nil] at h3
    exact h3.mono hc hs
  refine ⟨U, ?_, .threw T.heap.size, hrun, hend, Or.inr ⟨T.heap.size, rfl, cls, ce, locs, hx U hWs.alike f1 (fun q hq => f2 q hq (fun z hz => nomatch hz)), hce, hO.vm, hcl, hWs, hall, hf⟩⟩
  refine st1 _ ?_
  show Steps p.tables e below (T1.setTop { method := m, pc := pc + 3, locals := ls, stack := .ref T.heap.size :: rest, locked := none }) _
  jvm_step X₁.here [X₁.here.top, hexec, d3', Value.category]
  exact X₁.ldcStringW hexec (own := own) (text := text) (index := is) (a := sa) hown' hstr'.1 hstr'.2
    (g := { method := m, pc := pc + 4, locals := ls, stack := .ref T.heap.size :: .ref T.heap.size :: rest, locked := none }) rfl d4' _ hsteps
end Ends
section Bodies
variable {l : Launch}
theorem vx_ofW {y : MethodName} {ws ws' : List Cond} {rm : Room} {Pc : Array Value → State → Prop} {Qc : Array Value → State → Outcome → State → Prop} {XC : String → State → State → Prop} {mc ms : Nat} {free : Addr → Prop} {cc : ByteArray} {maxL : Nat} {ret : Option FieldType}
    (hy : plainName y.cls = true) (hw : ws = Cond.code y cc maxL ret :: ws')
    (body : ∀ p e s m args below meth c s₁, BodyLoose p l y (headSpec ws rm) cc maxL ret e s m args below meth c s₁ → c.maxLocals = maxL → (∀ x ∈ c.exceptionTable.toList, False) → Pc args s →
      W p l e (headSpec ws rm).room s m args below meth c s.heap [] 0 0 (vx_MQ below Qc XC args s mc ms free) (entryFrame m args maxL)) : vx_Met l y ws rm Pc Qc XC mc ms free := by
  refine MetFree.of_bodyS (code := cc) (maxLocals := maxL) (ret := ret) hy ?_ ?_
  · intro args s m h hn
    obtain ⟨meth, c, h1, h2, h3, h4, h5, h6, -, -⟩ := Cond.code_spec hn (atoms_spec (ws := ws) h _ (by rw [hw]; exact List.mem_cons_self))
    exact ⟨meth, c, h1, h2, h3, h4, h5, h6⟩
  · intro p e s m args below meth c s₁ B hml hP _
    have hh0 : s₁.heap = s.heap := by rw [B.state]; rfl
    have ht : ∀ x ∈ c.exceptionTable.toList, False := by
      obtain ⟨meth9, c9, h1, h2, -, -, -, -, h7, -⟩ := Cond.code_spec B.named (atoms_spec (ws := ws) B.pre _ (by rw [hw]; exact List.mem_cons_self))
      cases Option.some.inj (h1.symm.trans B.method)
      cases Option.some.inj (h2.symm.trans (Stand.of_body B).code)
      intro x hx
      rw [Array.isEmpty_iff.mp h7] at hx
      cases hx
    obtain ⟨t, a1, o, b1, b2, b3⟩ := body p e s m args below meth c s₁ B hml ht hP s₁ hh0 (Stand.of_body B)
    exact ⟨t, o, a1, b1, b2, b3⟩
/-- the table of a body with handlers -/
theorem vx_table {p : Program} {x y : MethodName} {S : Spec} {cc bytes : ByteArray} {maxL maxL' : Nat} {ret ret' : Option FieldType} {e : Env} {s s₁ : State} {m : MethodId} {args : Array Value} {below : List Frame} {meth : Method} {c : Code} {hh : List (Nat × Nat × Nat × Nat)}
    (B : BodyLoose p l y S cc maxL ret e s m args below meth c s₁) (h : (Cond.codeWith y bytes maxL' ret' hh).before args s = true) : c.exceptionTable.toList = tableOf hh := by
  obtain ⟨m9, meth9, c9, hn9, h1, h2, -, -, h6, -⟩ := Cond.codeWith_spec h
  cases Option.some.inj (hn9.symm.trans B.named)
  cases Option.some.inj (h1.symm.trans B.method)
  cases Option.some.inj (h2.symm.trans (Stand.of_body B).code)
  rw [← h6, table_eq]
end Bodies
end VXA
/-! ===== END ===== -/
/-! ===== BEGIN a static call of a method with an exception table ===== -/
section VXS
variable {p : Program} {l : Launch} {e : Env} {R : Room} {s : State} {m : MethodId} {args : Array Value} {below : List Frame} {meth : Method} {c : Code} {T : State} {H : Heap} {locs : List Loc} {cells slots : Nat}
abbrev vx_CSW (R : Room) (s : State) (args : Array Value) (own : String) (index : Nat) (y : MethodName) (bytes : ByteArray) (maxL : Nat) (ret : Option FieldType) (hh : List (Nat × Nat × Nat × Nat)) (ws : List Cond) (rm : Room) (mc ms n : Nat) : Prop :=
  (rm.cells = mc ∧ rm.slots = ms ∧ rm.frames + 1 ≤ R.frames ∧ 8 + (maxL + 11) + rm.locals ≤ R.locals ∧ (∀ w ∈ ws, ∀ (a' : Array Value) (U : State), s.WarmedH U.vm → w.before a' U = true) ∧ Cond.codeWith y bytes maxL ret hh ∈ ws) ∧
  (Cond.codeWith y bytes maxL ret hh).before args s = true ∧ (Cond.initialized y.cls).before args s = true ∧ (y.cls ≠ "java/lang/invoke/MethodHandle" ∧ y.cls ≠ "java/lang/invoke/VarHandle") ∧
  (∀ sig, parseMethodDescriptor y.desc = some sig → n = sig.parameters.length) ∧ (Cond.methodLink own index y).before args s = true ∧ (Cond.static y).before args s = true
theorem vx_cwSW {own : String} {index maxL mc ms : Nat} {y : MethodName} {bytes : ByteArray} {ret : Option FieldType} {hh : List (Nat × Nat × Nat × Nat)} {Ts ws ws' : List Cond} {rm : Room} (n : Nat) (ht : ∀ w ∈ Ts, w.before args s = true) (hT : GoodIn Ts (va_wsS own index y ws)) (hw : ws = Cond.codeWith y bytes maxL ret hh :: ws') (hrc : rm.cells = mc) (hrs : rm.slots = ms)
    (hd : y.cls ≠ "java/lang/invoke/MethodHandle" ∧ y.cls ≠ "java/lang/invoke/VarHandle" ∧ (parseMethodDescriptor y.desc).map (fun d => d.parameters.length) = some n) (hR : rm.frames + 1 ≤ R.frames ∧ 8 + (maxL + 11) + rm.locals ≤ R.locals) :
    vx_CSW R s args own index y bytes maxL ret hh ws rm mc ms n := by
  have ok : ∀ w ∈ va_wsS own index y ws, w.before args s = true := fun w h => ht w (hT w h).1
  have hG : GoodIn Ts ws := fun w h => hT w (by unfold va_wsS; exact List.mem_append_right _ h)
  have hc : Cond.codeWith y bytes maxL ret hh ∈ ws := by rw [hw]; exact List.mem_cons_self
  refine ⟨⟨hrc, hrs, hR.1, hR.2, pay_in ht hG, hc⟩, ht _ (hG _ hc).1, ok _ (by simp [va_wsS]), ⟨hd.1, hd.2.1⟩, fun sig h => ?_, ok _ (by simp [va_wsS]), ok _ (by simp [va_wsS])⟩
  have h2 := hd.2.2
  rw [h] at h2
  exact (Option.some.inj h2).symm
theorem vx_callSW (X : Stand p l e R s m args below meth c T locs cells slots) (hexec : p.tables.exec = Jvm.exec) {own : String} {index : Nat} {y : MethodName} {bytes : ByteArray} {maxL : Nat} {ret : Option FieldType} {hh : List (Nat × Nat × Nat × Nat)}
    (hown : s.vm.findClass own = some m.cls) (hlink : (Cond.methodLink own index y).before args s = true) (hstat : (Cond.static y).before args s = true) (hinit : (Cond.initialized y.cls).before args s = true)
    (hcode : (Cond.codeWith y bytes maxL ret hh).before args s = true) (hy : y.cls ≠ "java/lang/invoke/MethodHandle" ∧ y.cls ≠ "java/lang/invoke/VarHandle")
    {W9 : Nat} {Pre : Pt → Array Value → Prop} {Post : Pt → Array Value → Option Value → Pt → Prop} (hK : Back l R p e below s args y 3 W9 Pre Post)
    {g : JFrame} (hg : g.method = m) (hsize : g.locals.size = c.maxLocals) {argsL rest : List Value} (hlen : ∀ sig, parseMethodDescriptor y.desc = some sig → argsL.length = sig.parameters.length)
    (hstack : g.stack = argsL.reverse ++ rest) (hW : 2 * g.monitorRoom + (rest.map fun v => v.category).sum ≤ W9) (hdg : decode c.code g.pc = .ok (.invokestatic index, 3))
    (hpre : ∀ vm₁, s.WarmedH vm₁ → Pre ⟨T.setVm vm₁, locs, cells, slots⟩ argsL.toArray) :
    ∃ (v : Option Value) (vm₁ : Vm) (B : Pt), s.WarmedH vm₁ ∧ Stand p l e R s m args below meth c B.U B.locs B.cells B.slots ∧ Post ⟨T.setVm vm₁, locs, cells, slots⟩ argsL.toArray v B ∧
      ∀ target, Steps p.tables e below (B.U.setTop { g with pc := g.pc + 3, stack := v.toList ++ rest }) target → Steps p.tables e below (T.setTop g) target := by
  obtain ⟨mk, methM, cM, hnamed, hmethM, -, -, -, -, -, -, hsigM⟩ := Cond.codeWith_spec hcode
  have hstatic : methM.isStatic = true := Cond.static_spec hnamed hmethM hstat
  obtain ⟨kP, hkP, -⟩ := className_of_methodNamed hnamed
  have hinitP : kP.init = .initialized := Cond.initialized_spec (findClass_of_methodNamed hnamed) hkP hinit
  obtain ⟨vm₁, X₁, hstep₁⟩ := X.invokestatic hexec hown hlink hnamed hmethM hstatic hkP hinitP hy (g := g) hg (argsL := argsL) (rest := rest) (hlen _ hsigM) hstack hdg
  obtain ⟨v, B, X', hpost, hsteps⟩ := hK m meth c ⟨T.setVm vm₁, locs, cells, slots⟩ { g with stack := rest } (.invokestatic index) mk argsL.toArray X₁ hg hsize hdg hW (X₁.named hnamed) (hpre vm₁ X₁.warmed)
  exact ⟨v, vm₁, B, X₁.warmed, X', hpost, fun target h => hstep₁ _ fun acts => by rw [doInvoke_state]; exact hsteps.trans h⟩
theorem vx_runSW {y : MethodName} {bytes cc : ByteArray} {maxL nL mc ms n index : Nat} {ret : Option FieldType} {hh : List (Nat × Nat × Nat × Nat)} {ws : List Cond} {rm : Room} {Pc : Array Value → State → Prop} {Qc : Array Value → State → Outcome → State → Prop} {free : Addr → Prop} {Ts : List Cond} {own : String} {As rest : List Value} {g : JFrame}
    (S : CallFix p m c cc nL s args Ts own) (hM : Met l y ws rm Pc Qc mc ms free) (cw : vx_CSW R s args own index y bytes maxL ret hh ws rm mc ms n) (hp : PreS s H Pc As)
    (hg : g.method = m) (hn : As.length = n) (hsize : g.locals.size = nL) (hstack : g.stack = As.reverse ++ rest) (hW : 2 * g.monitorRoom + (rest.map fun v => v.category).sum ≤ 8) (hdg : decode cc g.pc = .ok (.invokestatic index, 3)) (hf : cells + mc ≤ R.cells ∧ slots + ms ≤ R.slots) :
    va_Run p l e R s m args below meth c H locs cells slots mc ms g rest (Qc As.toArray) (free) := by
  obtain ⟨⟨hrc, hrs, hfr, hlo, hws, hcw⟩, hcode, hini, hy, hlen, hl, hstt⟩ := cw
  have hK : Back l R p e below s args y 3 8 (PreOf R mc ms Pc) (PostOf Qc mc ms free) := va_backW (hh := hh) (bytes := bytes) (maxL := maxL) (ret := ret) hM hp.1 hrc hrs hfr hlo hws hcw (fun a' U hW => word_at hW (Or.inl (by first | rfl | simp [Cond.onTables, Cond.keeps, Cond.steady])) hini)
  obtain ⟨hx, hb, hml, ho, -⟩ := S
  intro T hT X
  obtain ⟨v, vm₁, ⟨U', l2, c2, s2⟩, hW₁, X', ⟨g', mk, t, L, e1, e2, hq, h1, hL, h2, h3⟩, st⟩ := vx_callSW X hx (hh := hh) (bytes := bytes) (maxL := maxL) (ret := ret) ho hl hstt hini hcode hy hK hg (hsize.trans hml.symm) (argsL := As) (rest := rest) (fun sig h => hn.trans (hlen sig h)) hstack hW (by rw [hb]; exact hdg)
    (fun vm₁ hW₁ => ⟨hf.1, hf.2, hp.2 (T.setVm vm₁) hT hW₁⟩)
  dsimp only [Pt.U, Pt.locs, Pt.cells, Pt.slots] at X' e1 e2 h1 h2 h3 st
  subst h1; subst h2; subst h3
  exact ⟨v, (T.setVm vm₁).calling g' mk As.toArray, t, U', L, hT, X', hL, e1, e2, hq, st⟩
/-- not caught here, past rows that name other classes: it goes on to the caller -/
theorem vx_outP {p : Program} {l : Launch} {e : Env} {R : Room} {s : State} {m : MethodId} {args : Array Value} {below : List Frame} {meth : Method} {c : Code} {H : Heap} {locs : List Loc} {cells slots : Nat} {free : Addr → Prop} {ls : Array Slot} {rest : List Value} {Qc : Array Value → State → Outcome → State → Prop} {XC : String → State → State → Prop}
    {pc : Nat} {own E : String} {ce : Cell} {q : Addr} {mc ms : Nat} (hown : s.vm.findClass own = some m.cls) (hlocks : meth.locks = false)
    (hpass : ∀ z ∈ c.exceptionTable.toList, covers z pc = false ∨ (z.catchType ≠ 0 ∧ ∃ nm : String, (Cond.classLink own z.catchType nm).before args s = true ∧ va_Nc E nm s)) (hcell : H[q]? = some ce) (hv : ce.vm = .none) (hcl : s.vm.findClass E = some ce.cls)
    (hx : ∀ t : State, t.heap = H → s.vm.Alike t.vm → XC E s t) (hf : ∀ z ∈ locs, free z.base) (hc : cells ≤ mc) (hs : slots ≤ ms) :
    vx_W p l e R s m args below meth c H locs cells slots (vx_MQ below Qc XC args s mc ms free) (F0 m pc ls rest) q := by
  intro T hT X
  have hpl : e.platform.magicAccessors = ({} : Platform).magicAccessors := by rw [X.admits.platform]
  obtain ⟨vm', hW', X', st⟩ := X.outThrough hlocks q (g := F0 m pc ls rest) rfl rfl rfl (cell := ce) (by rw [hT]; exact hcell) (by rw [hv]; rfl)
    (by obtain ⟨k9, h9, -⟩ := Vm.findClass_spec hcl; exact ⟨k9, h9⟩) (fun z hz => by
      rcases hpass z hz with h | ⟨hz0, nm, hl1, hn1⟩
      · exact Or.inl h
      · obtain ⟨c6, hc6, hcl6⟩ := Cond.classLink_spec hown hl1 e.platform hpl
        obtain ⟨a8, b8, h1, h2, h3⟩ := hn1
        cases Option.some.inj (h1.symm.trans hcl)
        cases Option.some.inj (h2.symm.trans hc6)
        exact Or.inr ⟨hz0, _, hcl6, h3⟩)
  obtain ⟨g₀, hfr⟩ := X'.frames_eq
  have hcell9 : ((T.setVm vm').setFrames (.throwing q :: below)).heap[q]? = some ce := by
    show T.heap[q]? = some ce
    rw [hT]; exact hcell
  have hend : Ended ((T.setVm vm').setFrames (.throwing q :: below)) below (.threw q) := State.frames_setFrames _ (State.cur_lt_of_frames hfr)
  refine ⟨(T.setVm vm').setFrames (.throwing q :: below), ?_, .threw q, X'.here.running, hend, Or.inr ⟨q, rfl, E, ce, locs, hx _ hT (X'.ends _).1.alike, hcell9, hv, hcl, (X'.ends _).1, (X'.ends _).2.mono hc hs, hf⟩⟩
  rw [X.pushThrowing_eq]
  exact st
/-- a thing of a world lies in the heap -/
theorem vx_lt {D : va_G} {cl : List vw_C} {ws : va_W} {H1 : Heap} (h : va_P D cl ws H1) {k : Nat} {q : Nat × va_E} (hk : ws[k]? = some q) : q.1 < H1.size := (h k q hk).lt
end VXS
/-! ===== END ===== -/
/-! ===== BEGIN methods with a table of their own: called by a name, returning or throwing ===== -/
section VXH
/-! vx_backW, vx_callVX, vx_callSX, vx_callVW, vx_runVW, vx_runVX, vx_runSX, vx_ofWH follow the same proofs as their sisters above (Free/Laws.lean, Shelf42/LK1.lean); vx_outP calls Shelf42/NT130.lean (outThrough). -/
section
variable {l : Launch} {R : Room} {p : Program} {e : Env} {below : List Frame} {s : State} {sargs : Array Value} {y : MethodName} {len W9 : Nat}
theorem vx_backW {ws : List Cond} {rm : Room} {Pc : Array Value → State → Prop} {Qc : Array Value → State → Outcome → State → Prop} {XC : String → State → State → Prop} {mc ms : Nat} {free : Addr → Prop} {bytes : ByteArray} {maxL : Nat} {ret : Option FieldType} {hh : List (Nat × Nat × Nat × Nat)}
    (hM : vx_Met l y ws rm Pc Qc XC mc ms free) (hblind : FrameBlind Pc) (hrc : rm.cells = mc) (hrs : rm.slots = ms)
    (hframes : rm.frames + 1 ≤ R.frames) (hlocals : W9 + (maxL + 11) + rm.locals ≤ R.locals)
    (hws : ∀ w ∈ ws, ∀ a' U, s.WarmedH U.vm → w.before a' U = true) (hcode : Cond.codeWith y bytes maxL ret hh ∈ ws) (hinit : ∀ a' U, s.WarmedH U.vm → (Cond.initialized y.cls).before a' U = true) :
    vx_Back l R p e below s sargs y len W9 (PreOf R mc ms Pc) (PostOf Qc mc ms free) (vx_Post XC mc ms free) := by
  intro m meth c A g ig mk a X hg hsize hdg hW hn hp
  have h1 : (headSpec ws rm).pre.before a A.U = true := atoms_intro fun w hw => hws w hw _ _ X.warmed
  have h2 : (Cond.codeWith y bytes maxL ret hh).before a A.U = true := hws _ hcode _ _ X.warmed
  have h3 : (Cond.initialized y.cls).before a A.U = true := hinit _ _ X.warmed
  have h4 : A.cells + (headSpec ws rm).room.cells ≤ R.cells := by rw [show (headSpec ws rm).room.cells = mc from hrc]; exact hp.1
  have h5 : A.slots + (headSpec ws rm).room.slots ≤ R.slots := by rw [show (headSpec ws rm).room.slots = ms from hrs]; exact hp.2.1
  have hPc : Pc a (A.U.calling g mk a) := hblind _ _ _ _ hp.2.2
  obtain ⟨U, Ls, c0, s0⟩ := A
  dsimp only [Pt.U, Pt.locs, Pt.cells, Pt.slots] at h1 h2 h3 h4 h5 X hn hPc ⊢
  obtain ⟨m9, methY, cY, hn9, hmY, hcY, -, hlY, -⟩ := Cond.codeWith_spec h2
  cases Option.some.inj (hn9.symm.trans hn)
  obtain ⟨kY, hkY, -⟩ := className_of_methodNamed hn
  have hinitY : kY.init = .initialized := Cond.initialized_spec (findClass_of_methodNamed hn) hkY h3
  have h : At U g.method c below := by rw [hg]; exact X.here
  have hlocals9 : W9 + (maxL + 11) + (headSpec ws rm).room.locals ≤ R.locals := hlocals
  have happ : (headSpec ws rm).appliesLoose y e.platform (U.calling g mk a) = true :=
    Spec.appliesLoose_calling (g := g) h hdg hn hkY hinitY
      (X.room_calling (g := g) (R' := (headSpec ws rm).room) hsize hmY hcY hframes (by rw [hlY]; omega) h4 h5) h1
  obtain ⟨mid, hmid⟩ := h.above
  have hfr : (U.setTop g).frames = (.java g :: mid) ++ below := by rw [State.frames_setTop' g h.top, hmid]; rfl
  obtain ⟨o, s₂, hsteps, -, hend, hq⟩ := Steps.callFree hM p X.admits X.cas X.clock (acts := []) hfr happ hPc trivial
  have hq' : vx_Q Qc XC mc ms free a (U.calling g mk a) o s₂ := hq
  rw [State.frames_setTop' g h.top] at hend
  obtain ⟨g₀, hg0⟩ := Option.isSome_iff_exists.mp h.top
  obtain ⟨r, hr⟩ := State.topJava?_eq_some.mp hg0
  have hr' : (({ U with heap := s₂.heap, slotsUsed := s₂.slotsUsed } : State).setVm s₂.vm).frames = .java g₀ :: r := hr
  rcases hq' with ⟨hqc, L, hfe, hL⟩ | ⟨q, rfl, E, ce, L, hx, hce, hcv, hcl, hW₂, hsm, hL⟩
  · obtain ⟨⟨v, rfl⟩, hW₂, e2, q2, q3, q4, q5, q6⟩ := id hfe
    have e3 : s₂ = ({ (U.calling g mk a).setFrames s₂.frames with heap := s₂.heap, slotsUsed := s₂.slotsUsed } : State).setVm s₂.vm := by
      have : s₂ = ({ s₂ with vm := (U.calling g mk a).vm } : State).setVm s₂.vm := rfl
      rw [e2] at this
      exact this
    obtain ⟨c₂, i₂, len₂, hc₂, hd₂, hf₂⟩ := hend
    have hW' : U.WarmedH s₂.vm := hW₂
    have hcc : c₂ = c := by
      have h1 : s₂.code? g.method = U.code? g.method := by
        rw [State.code?_eq, State.code?_eq, hW'.alike.method?]
      exact Option.some.inj (hc₂.symm.trans (h1.trans h.code))
    subst hcc
    have hlen : len₂ = len := by rw [hdg] at hd₂; cases hd₂; rfl
    subst hlen
    have hs₂ : s₂ = (({ U with heap := s₂.heap, slotsUsed := s₂.slotsUsed } : State).setVm s₂.vm).setTop { g with pc := g.pc + len₂, stack := v.toList ++ g.stack } := by
      refine e3.trans ?_
      rw [hf₂, State.calling_eq h.top, State.setFrames_setFrames, State.setTop_of_frames _ hr', hr]
      rfl
    have hsame : U.sameButNew ({ U with heap := s₂.heap, slotsUsed := s₂.slotsUsed } : State) L mc ms := by
      refine ⟨?_, q2, q3, q4, q5, q6⟩
      obtain ⟨t, ht, -⟩ := State.frames_cons hr
      show ({ U with heap := s₂.heap, slotsUsed := s₂.slotsUsed } : State) = { U.setFrames U.frames with heap := s₂.heap, slotsUsed := s₂.slotsUsed }
      rw [State.setFrames_self ht]
    subst hg
    refine Or.inl ⟨v, ⟨(({ U with heap := s₂.heap, slotsUsed := s₂.slotsUsed } : State).setVm s₂.vm), Ls ++ L, c0 + mc, s0 + ms⟩,
      ⟨X.admits, X.cas, X.clock, X.frames, X.room, X.hears, X.method, X.code, (X.here.setHeapUsed s₂.heap s₂.slotsUsed).setVm hW'.alike, X.tail, State.WarmedH.trans X.warmed hW', X.limits, X.bytes, X.same.trans (hsame.setVm s.vm)⟩,
      ⟨g, mk, s₂, L, rfl, rfl, hqc, rfl, hL, rfl, rfl⟩, ?_⟩
    show Steps p.tables e below _ ((({ U with heap := s₂.heap, slotsUsed := s₂.slotsUsed } : State).setVm s₂.vm).setTop { g with pc := g.pc + len₂, stack := v.toList ++ g.stack })
    rw [← hs₂]
    exact hsteps
  · obtain ⟨e2, q2, q3, q4, q5, q6⟩ := id hsm
    have e3 : s₂ = ({ (U.calling g mk a).setFrames s₂.frames with heap := s₂.heap, slotsUsed := s₂.slotsUsed } : State).setVm s₂.vm := by
      have : s₂ = ({ s₂ with vm := (U.calling g mk a).vm } : State).setVm s₂.vm := rfl
      rw [e2] at this
      exact this
    have hf₂ : s₂.frames = .throwing q :: .java g :: U.frames.tail := hend
    have hW' : U.WarmedH s₂.vm := hW₂
    have hs₂ : s₂ = ((({ U with heap := s₂.heap, slotsUsed := s₂.slotsUsed } : State).setVm s₂.vm).setTop g).pushFrame (.throwing q) := by
      refine e3.trans ?_
      rw [hf₂, State.calling_eq h.top, State.setFrames_setFrames, State.pushFrame, State.frames_setTop _ hr', State.setTop_of_frames _ hr', State.setFrames_setFrames, hr]
      rfl
    have hsame : U.sameButNew ({ U with heap := s₂.heap, slotsUsed := s₂.slotsUsed } : State) L mc ms := by
      refine ⟨?_, q2, q3, q4, q5, q6⟩
      obtain ⟨t, ht, -⟩ := State.frames_cons hr
      show ({ U with heap := s₂.heap, slotsUsed := s₂.slotsUsed } : State) = { U.setFrames U.frames with heap := s₂.heap, slotsUsed := s₂.slotsUsed }
      rw [State.setFrames_self ht]
    subst hg
    refine Or.inr ⟨q, ⟨(({ U with heap := s₂.heap, slotsUsed := s₂.slotsUsed } : State).setVm s₂.vm), Ls ++ L, c0 + mc, s0 + ms⟩,
      ⟨X.admits, X.cas, X.clock, X.frames, X.room, X.hears, X.method, X.code, (X.here.setHeapUsed s₂.heap s₂.slotsUsed).setVm hW'.alike, X.tail, State.WarmedH.trans X.warmed hW', X.limits, X.bytes, X.same.trans (hsame.setVm s.vm)⟩,
      ⟨g, mk, s₂, L, E, ce, rfl, rfl, hx, hce, hcv, hcl, rfl, hL, rfl, rfl⟩, ?_⟩
    show Steps p.tables e below _ (((({ U with heap := s₂.heap, slotsUsed := s₂.slotsUsed } : State).setVm s₂.vm).setTop g).pushFrame (.throwing q))
    rw [← hs₂]
    exact hsteps
end
variable {p : Program} {l : Launch} {e : Env} {R : Room} {s : State} {m : MethodId} {args : Array Value} {below : List Frame} {meth : Method} {c : Code} {T : State} {H : Heap} {locs : List Loc} {cells slots : Nat}
theorem vx_callVX (X : Stand p l e R s m args below meth c T locs cells slots) (hexec : p.tables.exec = Jvm.exec) {own C : String} {index : Nat} {y : MethodName} {bytes : ByteArray} {maxL : Nat} {ret : Option FieldType} {hh : List (Nat × Nat × Nat × Nat)}
    (hown : s.vm.findClass own = some m.cls) (hlink : (Cond.methodLink own index y).before args s = true) (hinst : (Cond.instanceMethod y).before args s = true) (hsel : (Cond.selects C y y).before args s = true)
    (hcode : (Cond.codeWith y bytes maxL ret hh).before args s = true) (hy : y.cls ≠ "java/lang/invoke/MethodHandle" ∧ y.cls ≠ "java/lang/invoke/VarHandle")
    {W9 : Nat} {Pre : Pt → Array Value → Prop} {Post : Pt → Array Value → Option Value → Pt → Prop} {PostX : Pt → Array Value → Addr → Pt → Prop} (hK : vx_Back l R p e below s args y 3 W9 Pre Post PostX)
    {b : Addr} {cellB : Cell} (hcell : T.heap[b]? = some cellB) (hobj : cellB.vm.isStatics = false) (hcls : s.vm.findClass C = some cellB.cls)
    {g : JFrame} (hg : g.method = m) (hsize : g.locals.size = c.maxLocals) {argsL rest : List Value} (hlen : ∀ sig, parseMethodDescriptor y.desc = some sig → argsL.length = sig.parameters.length)
    (hstack : g.stack = argsL.reverse ++ .ref b :: rest) (hW : 2 * g.monitorRoom + (rest.map fun v => v.category).sum ≤ W9) (hdg : decode c.code g.pc = .ok (.invokevirtual index, 3))
    (hpre : ∀ vm₁, s.WarmedH vm₁ → Pre ⟨T.setVm vm₁, locs, cells, slots⟩ (Value.ref b :: argsL).toArray) :
    (∃ (v : Option Value) (vm₁ : Vm) (B : Pt), s.WarmedH vm₁ ∧ Stand p l e R s m args below meth c B.U B.locs B.cells B.slots ∧ Post ⟨T.setVm vm₁, locs, cells, slots⟩ (Value.ref b :: argsL).toArray v B ∧
      ∀ target, Steps p.tables e below (B.U.setTop { g with pc := g.pc + 3, stack := v.toList ++ rest }) target → Steps p.tables e below (T.setTop g) target) ∨
    (∃ (q : Addr) (vm₁ : Vm) (B : Pt), s.WarmedH vm₁ ∧ Stand p l e R s m args below meth c B.U B.locs B.cells B.slots ∧ PostX ⟨T.setVm vm₁, locs, cells, slots⟩ (Value.ref b :: argsL).toArray q B ∧
      Steps p.tables e below (T.setTop g) ((B.U.setTop { g with stack := rest }).pushFrame (.throwing q))) := by
  obtain ⟨mk, methM, hnamed, hmethM, hstM, habM⟩ := Cond.instanceMethod_spec hinst
  obtain ⟨m8, methM', cM, hn8, hmethM', -, -, -, -, -, -, hsigM⟩ := Cond.codeWith_spec hcode
  cases Option.some.inj (hn8.symm.trans hnamed)
  cases hmethM.symm.trans hmethM'
  obtain ⟨c2, r2, m2, q1, q2, q3, q4, kP, hkP, hkPi⟩ := Cond.selects_spec hsel
  cases hcls.symm.trans q1
  cases (State.methodFound?_of_named hnamed hy).symm.trans q2
  cases hnamed.symm.trans q3
  have hselP : selectMethod e.platform s.vm cellB.cls mk = .method mk := by rw [Launch.admits_selectMethod X.admits]; exact q4
  obtain ⟨vm₁, X₁, hstep₁⟩ := X.invokevirtual hexec hown hlink hnamed hmethM hstM hkP hkPi hy (a := b) (cell := cellB) hcell
    (fun z h => by rw [h] at hobj; cases hobj) hselP hmethM habM hkP hkPi (g := g) hg (argsL := argsL) (rest := rest) (hlen _ hsigM) hstack hdg
  rcases hK m meth c ⟨T.setVm vm₁, locs, cells, slots⟩ { g with stack := rest } (.invokevirtual index) mk (Value.ref b :: argsL).toArray X₁ hg hsize hdg hW (X₁.named hnamed) (hpre vm₁ X₁.warmed) with ⟨v, B, X', hpost, hsteps⟩ | ⟨q, B, X', hpost, hsteps⟩
  · exact Or.inl ⟨v, vm₁, B, X₁.warmed, X', hpost, fun target h => hstep₁ _ fun acts => by rw [doInvoke_state]; exact hsteps.trans h⟩
  · exact Or.inr ⟨q, vm₁, B, X₁.warmed, X', hpost, hstep₁ _ fun acts => by rw [doInvoke_state]; exact hsteps⟩
theorem vx_callSX (X : Stand p l e R s m args below meth c T locs cells slots) (hexec : p.tables.exec = Jvm.exec) {own : String} {index : Nat} {y : MethodName} {bytes : ByteArray} {maxL : Nat} {ret : Option FieldType} {hh : List (Nat × Nat × Nat × Nat)}
    (hown : s.vm.findClass own = some m.cls) (hlink : (Cond.methodLink own index y).before args s = true) (hstat : (Cond.static y).before args s = true) (hinit : (Cond.initialized y.cls).before args s = true)
    (hcode : (Cond.codeWith y bytes maxL ret hh).before args s = true) (hy : y.cls ≠ "java/lang/invoke/MethodHandle" ∧ y.cls ≠ "java/lang/invoke/VarHandle")
    {W9 : Nat} {Pre : Pt → Array Value → Prop} {Post : Pt → Array Value → Option Value → Pt → Prop} {PostX : Pt → Array Value → Addr → Pt → Prop} (hK : vx_Back l R p e below s args y 3 W9 Pre Post PostX)
    {g : JFrame} (hg : g.method = m) (hsize : g.locals.size = c.maxLocals) {argsL rest : List Value} (hlen : ∀ sig, parseMethodDescriptor y.desc = some sig → argsL.length = sig.parameters.length)
    (hstack : g.stack = argsL.reverse ++ rest) (hW : 2 * g.monitorRoom + (rest.map fun v => v.category).sum ≤ W9) (hdg : decode c.code g.pc = .ok (.invokestatic index, 3))
    (hpre : ∀ vm₁, s.WarmedH vm₁ → Pre ⟨T.setVm vm₁, locs, cells, slots⟩ argsL.toArray) :
    (∃ (v : Option Value) (vm₁ : Vm) (B : Pt), s.WarmedH vm₁ ∧ Stand p l e R s m args below meth c B.U B.locs B.cells B.slots ∧ Post ⟨T.setVm vm₁, locs, cells, slots⟩ argsL.toArray v B ∧
      ∀ target, Steps p.tables e below (B.U.setTop { g with pc := g.pc + 3, stack := v.toList ++ rest }) target → Steps p.tables e below (T.setTop g) target) ∨
    (∃ (q : Addr) (vm₁ : Vm) (B : Pt), s.WarmedH vm₁ ∧ Stand p l e R s m args below meth c B.U B.locs B.cells B.slots ∧ PostX ⟨T.setVm vm₁, locs, cells, slots⟩ argsL.toArray q B ∧
      Steps p.tables e below (T.setTop g) ((B.U.setTop { g with stack := rest }).pushFrame (.throwing q))) := by
  obtain ⟨mk, methM, cM, hnamed, hmethM, -, -, -, -, -, -, hsigM⟩ := Cond.codeWith_spec hcode
  have hstatic : methM.isStatic = true := Cond.static_spec hnamed hmethM hstat
  obtain ⟨kP, hkP, -⟩ := className_of_methodNamed hnamed
  have hinitP : kP.init = .initialized := Cond.initialized_spec (findClass_of_methodNamed hnamed) hkP hinit
  obtain ⟨vm₁, X₁, hstep₁⟩ := X.invokestatic hexec hown hlink hnamed hmethM hstatic hkP hinitP hy (g := g) hg (argsL := argsL) (rest := rest) (hlen _ hsigM) hstack hdg
  rcases hK m meth c ⟨T.setVm vm₁, locs, cells, slots⟩ { g with stack := rest } (.invokestatic index) mk argsL.toArray X₁ hg hsize hdg hW (X₁.named hnamed) (hpre vm₁ X₁.warmed) with ⟨v, B, X', hpost, hsteps⟩ | ⟨q, B, X', hpost, hsteps⟩
  · exact Or.inl ⟨v, vm₁, B, X₁.warmed, X', hpost, fun target h => hstep₁ _ fun acts => by rw [doInvoke_state]; exact hsteps.trans h⟩
  · exact Or.inr ⟨q, vm₁, B, X₁.warmed, X', hpost, hstep₁ _ fun acts => by rw [doInvoke_state]; exact hsteps⟩
theorem vx_callVW (X : Stand p l e R s m args below meth c T locs cells slots) (hexec : p.tables.exec = Jvm.exec) {own C : String} {index : Nat} {y : MethodName} {bytes : ByteArray} {maxL : Nat} {ret : Option FieldType} {hh : List (Nat × Nat × Nat × Nat)}
    (hown : s.vm.findClass own = some m.cls) (hlink : (Cond.methodLink own index y).before args s = true) (hinst : (Cond.instanceMethod y).before args s = true) (hsel : (Cond.selects C y y).before args s = true)
    (hcode : (Cond.codeWith y bytes maxL ret hh).before args s = true) (hy : y.cls ≠ "java/lang/invoke/MethodHandle" ∧ y.cls ≠ "java/lang/invoke/VarHandle")
    {W9 : Nat} {Pre : Pt → Array Value → Prop} {Post : Pt → Array Value → Option Value → Pt → Prop} (hK : Back l R p e below s args y 3 W9 Pre Post)
    {b : Addr} {cellB : Cell} (hcell : T.heap[b]? = some cellB) (hobj : cellB.vm.isStatics = false) (hcls : s.vm.findClass C = some cellB.cls)
    {g : JFrame} (hg : g.method = m) (hsize : g.locals.size = c.maxLocals) {argsL rest : List Value} (hlen : ∀ sig, parseMethodDescriptor y.desc = some sig → argsL.length = sig.parameters.length)
    (hstack : g.stack = argsL.reverse ++ .ref b :: rest) (hW : 2 * g.monitorRoom + (rest.map fun v => v.category).sum ≤ W9) (hdg : decode c.code g.pc = .ok (.invokevirtual index, 3))
    (hpre : ∀ vm₁, s.WarmedH vm₁ → Pre ⟨T.setVm vm₁, locs, cells, slots⟩ (Value.ref b :: argsL).toArray) :
    ∃ (v : Option Value) (vm₁ : Vm) (B : Pt), s.WarmedH vm₁ ∧ Stand p l e R s m args below meth c B.U B.locs B.cells B.slots ∧ Post ⟨T.setVm vm₁, locs, cells, slots⟩ (Value.ref b :: argsL).toArray v B ∧
      ∀ target, Steps p.tables e below (B.U.setTop { g with pc := g.pc + 3, stack := v.toList ++ rest }) target → Steps p.tables e below (T.setTop g) target := by
  obtain ⟨mk, methM, hnamed, hmethM, hstM, habM⟩ := Cond.instanceMethod_spec hinst
  obtain ⟨m8, methM', cM, hn8, hmethM', -, -, -, -, -, -, hsigM⟩ := Cond.codeWith_spec hcode
  cases Option.some.inj (hn8.symm.trans hnamed)
  cases hmethM.symm.trans hmethM'
  obtain ⟨c2, r2, m2, q1, q2, q3, q4, kP, hkP, hkPi⟩ := Cond.selects_spec hsel
  cases hcls.symm.trans q1
  cases (State.methodFound?_of_named hnamed hy).symm.trans q2
  cases hnamed.symm.trans q3
  have hselP : selectMethod e.platform s.vm cellB.cls mk = .method mk := by rw [Launch.admits_selectMethod X.admits]; exact q4
  obtain ⟨vm₁, X₁, hstep₁⟩ := X.invokevirtual hexec hown hlink hnamed hmethM hstM hkP hkPi hy (a := b) (cell := cellB) hcell
    (fun z h => by rw [h] at hobj; cases hobj) hselP hmethM habM hkP hkPi (g := g) hg (argsL := argsL) (rest := rest) (hlen _ hsigM) hstack hdg
  obtain ⟨v, B, X', hpost, hsteps⟩ := hK m meth c ⟨T.setVm vm₁, locs, cells, slots⟩ { g with stack := rest } (.invokevirtual index) mk (Value.ref b :: argsL).toArray X₁ hg hsize hdg hW (X₁.named hnamed) (hpre vm₁ X₁.warmed)
  exact ⟨v, vm₁, B, X₁.warmed, X', hpost, fun target h => hstep₁ _ fun acts => by rw [doInvoke_state]; exact hsteps.trans h⟩
abbrev vx_CVW (R : Room) (s : State) (args : Array Value) (own C : String) (index : Nat) (y : MethodName) (bytes : ByteArray) (maxL : Nat) (ret : Option FieldType) (hh : List (Nat × Nat × Nat × Nat)) (ws : List Cond) (rm : Room) (mc ms n : Nat) : Prop :=
  (rm.cells = mc ∧ rm.slots = ms ∧ rm.frames + 1 ≤ R.frames ∧ 8 + (maxL + 11) + rm.locals ≤ R.locals ∧ (∀ w ∈ ws, ∀ (a' : Array Value) (U : State), s.WarmedH U.vm → w.before a' U = true) ∧ Cond.codeWith y bytes maxL ret hh ∈ ws) ∧
  (Cond.codeWith y bytes maxL ret hh).before args s = true ∧ (Cond.initialized y.cls).before args s = true ∧ (y.cls ≠ "java/lang/invoke/MethodHandle" ∧ y.cls ≠ "java/lang/invoke/VarHandle") ∧
  (∀ sig, parseMethodDescriptor y.desc = some sig → n = sig.parameters.length) ∧ (Cond.methodLink own index y).before args s = true ∧ (Cond.instanceMethod y).before args s = true ∧ (Cond.selects C y y).before args s = true
theorem vx_cwVW {own C : String} {index maxL mc ms : Nat} {y : MethodName} {bytes : ByteArray} {ret : Option FieldType} {hh : List (Nat × Nat × Nat × Nat)} {Ts ws ws' : List Cond} {rm : Room} (n : Nat) (ht : ∀ w ∈ Ts, w.before args s = true) (hT : GoodIn Ts (wsV own index C y ws)) (hw : ws = Cond.codeWith y bytes maxL ret hh :: ws') (hrc : rm.cells = mc) (hrs : rm.slots = ms)
    (hd : y.cls = C ∧ y.cls ≠ "java/lang/invoke/MethodHandle" ∧ y.cls ≠ "java/lang/invoke/VarHandle" ∧ (parseMethodDescriptor y.desc).map (fun d => d.parameters.length) = some n) (hR : rm.frames + 1 ≤ R.frames ∧ 8 + (maxL + 11) + rm.locals ≤ R.locals) :
    vx_CVW R s args own C index y bytes maxL ret hh ws rm mc ms n := by
  obtain ⟨hC, hd⟩ := hd
  subst hC
  have ok : ∀ w ∈ wsV own index y.cls y ws, w.before args s = true := fun w h => ht w (hT w h).1
  have hG : GoodIn Ts ws := fun w h => hT w (by unfold wsV; exact List.mem_append_right _ h)
  have hc : Cond.codeWith y bytes maxL ret hh ∈ ws := by rw [hw]; exact List.mem_cons_self
  refine ⟨⟨hrc, hrs, hR.1, hR.2, pay_in ht hG, hc⟩, ht _ (hG _ hc).1, ok _ (by simp [wsV]), ⟨hd.1, hd.2.1⟩, fun sig h => ?_, ok _ (by simp [wsV]), ok _ (by simp [wsV]), ok _ (by simp [wsV])⟩
  have h2 := hd.2.2
  rw [h] at h2
  exact (Option.some.inj h2).symm
theorem vx_runVW {y : MethodName} {bytes cc : ByteArray} {maxL nL mc ms n index : Nat} {ret : Option FieldType} {hh : List (Nat × Nat × Nat × Nat)} {ws : List Cond} {rm : Room} {Pc : Array Value → State → Prop} {Qc : Array Value → State → Outcome → State → Prop} {free : Addr → Prop} {Ts : List Cond} {own C : String} {b : Addr} {As rest : List Value} {g : JFrame}
    (S : CallFix p m c cc nL s args Ts own) (hM : Met l y ws rm Pc Qc mc ms free) (cw : vx_CVW R s args own C index y bytes maxL ret hh ws rm mc ms n) (hp : PreV s H C b Pc As)
    (hg : g.method = m) (hn : As.length = n) (hsize : g.locals.size = nL) (hstack : g.stack = As.reverse ++ .ref b :: rest) (hW : 2 * g.monitorRoom + (rest.map fun v => v.category).sum ≤ 8) (hdg : decode cc g.pc = .ok (.invokevirtual index, 3)) (hf : cells + mc ≤ R.cells ∧ slots + ms ≤ R.slots) :
    va_Run p l e R s m args below meth c H locs cells slots mc ms g rest (Qc (Value.ref b :: As).toArray) free := by
  obtain ⟨⟨hrc, hrs, hfr, hlo, hws, hcw⟩, hcode, hini, hy, hlen, hl, hin, hse⟩ := cw
  have hK : Back l R p e below s args y 3 8 (PreOf R mc ms Pc) (PostOf Qc mc ms free) := va_backW (hh := hh) (bytes := bytes) (maxL := maxL) (ret := ret) hM hp.1 hrc hrs hfr hlo hws hcw (fun a' U hW => word_at hW (Or.inl (by first | rfl | simp [Cond.onTables, Cond.keeps, Cond.steady])) hini)
  obtain ⟨hx, hb, hml, ho, -⟩ := S
  obtain ⟨-, ⟨cellB, hcB, hoB, hclB⟩, hPc⟩ := hp
  intro T hT X
  obtain ⟨v, vm₁, ⟨U', l2, c2, s2⟩, hW₁, X', ⟨g', mk, t, L, e1, e2, hq, h1, hL, h2, h3⟩, st⟩ := vx_callVW X hx (C := C) (hh := hh) (bytes := bytes) (maxL := maxL) (ret := ret) ho hl hin hse hcode hy hK (by rw [hT]; exact hcB) hoB hclB hg (hsize.trans hml.symm) (argsL := As) (rest := rest) (fun sig h => hn.trans (hlen sig h)) hstack hW (by rw [hb]; exact hdg)
    (fun vm₁ hW₁ => ⟨hf.1, hf.2, hPc (T.setVm vm₁) hT hW₁⟩)
  dsimp only [Pt.U, Pt.locs, Pt.cells, Pt.slots] at X' e1 e2 h1 h2 h3 st
  subst h1; subst h2; subst h3
  exact ⟨v, (T.setVm vm₁).calling g' mk (Value.ref b :: As).toArray, t, U', L, hT, X', hL, e1, e2, hq, st⟩
section
variable {y : MethodName} {bytes cc : ByteArray} {maxL nL mc ms n index : Nat} {ret : Option FieldType} {ws : List Cond} {rm : Room} {Pc : Array Value → State → Prop} {Qc : Array Value → State → Outcome → State → Prop} {XC : String → State → State → Prop} {free : Addr → Prop} {Ts : List Cond} {own C : String} {b : Addr} {As rest : List Value} {g : JFrame}
theorem vx_runVX {hh : List (Nat × Nat × Nat × Nat)} (S : CallFix p m c cc nL s args Ts own) (hM : vx_Met l y ws rm Pc Qc XC mc ms free) (cw : vx_CVW R s args own C index y bytes maxL ret hh ws rm mc ms n) (hp : PreV s H C b Pc As)
    (hg : g.method = m) (hn : As.length = n) (hsize : g.locals.size = nL) (hstack : g.stack = As.reverse ++ .ref b :: rest) (hW : 2 * g.monitorRoom + (rest.map fun v => v.category).sum ≤ 8) (hdg : decode cc g.pc = .ok (.invokevirtual index, 3)) (hf : cells + mc ≤ R.cells ∧ slots + ms ≤ R.slots) :
    vx_Run p l e R s m args below meth c H locs cells slots mc ms g rest (Qc (Value.ref b :: As).toArray) XC free := by
  obtain ⟨⟨hrc, hrs, hfr, hlo, hws, hcw⟩, hcode, hini, hy, hlen, hl, hin, hse⟩ := cw
  have hK : vx_Back l R p e below s args y 3 8 (PreOf R mc ms Pc) (PostOf Qc mc ms free) (vx_Post XC mc ms free) := vx_backW (hh := hh) (bytes := bytes) (maxL := maxL) (ret := ret) hM hp.1 hrc hrs hfr hlo hws hcw (fun a' U hW => word_at hW (Or.inl (by first | rfl | simp [Cond.onTables, Cond.keeps, Cond.steady])) hini)
  obtain ⟨hx, hb, hml, ho, -⟩ := S
  obtain ⟨-, ⟨cellB, hcB, hoB, hclB⟩, hPc⟩ := hp
  intro T hT X
  rcases vx_callVX X hx (C := C) (hh := hh) (bytes := bytes) (maxL := maxL) (ret := ret) ho hl hin hse hcode hy hK (by rw [hT]; exact hcB) hoB hclB hg (hsize.trans hml.symm) (argsL := As) (rest := rest) (fun sig h => hn.trans (hlen sig h)) hstack hW (by rw [hb]; exact hdg)
    (fun vm₁ hW₁ => ⟨hf.1, hf.2, hPc (T.setVm vm₁) hT hW₁⟩) with ⟨v, vm₁, ⟨U', l2, c2, s2⟩, hW₁, X', ⟨g', mk, t, L, e1, e2, hq, h1, hL, h2, h3⟩, st⟩ | ⟨q, vm₁, ⟨U', l2, c2, s2⟩, hW₁, X', ⟨g', mk, t, L, E, ce, e1, e2, hq, hce, hcv, hcl, h1, hL, h2, h3⟩, st⟩
  · dsimp only [Pt.U, Pt.locs, Pt.cells, Pt.slots] at X' e1 e2 h1 h2 h3 st
    subst h1; subst h2; subst h3
    exact Or.inl ⟨v, (T.setVm vm₁).calling g' mk (Value.ref b :: As).toArray, t, U', L, hT, X', hL, e1, e2, hq, st⟩
  · dsimp only [Pt.U, Pt.locs, Pt.cells, Pt.slots] at X' e1 e2 h1 h2 h3 st hcl
    subst h1; subst h2; subst h3
    exact Or.inr ⟨q, (T.setVm vm₁).calling g' mk (Value.ref b :: As).toArray, t, U', L, E, ce, hT, X', hL, e1, e2, hq, hce, hcv, vx_cls hW₁ hcl, st⟩
theorem vx_runSX {hh : List (Nat × Nat × Nat × Nat)} (S : CallFix p m c cc nL s args Ts own) (hM : vx_Met l y ws rm Pc Qc XC mc ms free) (cw : vx_CSW R s args own index y bytes maxL ret hh ws rm mc ms n) (hp : PreS s H Pc As)
    (hg : g.method = m) (hn : As.length = n) (hsize : g.locals.size = nL) (hstack : g.stack = As.reverse ++ rest) (hW : 2 * g.monitorRoom + (rest.map fun v => v.category).sum ≤ 8) (hdg : decode cc g.pc = .ok (.invokestatic index, 3)) (hf : cells + mc ≤ R.cells ∧ slots + ms ≤ R.slots) :
    vx_Run p l e R s m args below meth c H locs cells slots mc ms g rest (Qc As.toArray) XC free := by
  obtain ⟨⟨hrc, hrs, hfr, hlo, hws, hcw⟩, hcode, hini, hy, hlen, hl, hstt⟩ := cw
  have hK : vx_Back l R p e below s args y 3 8 (PreOf R mc ms Pc) (PostOf Qc mc ms free) (vx_Post XC mc ms free) := vx_backW (hh := hh) (bytes := bytes) (maxL := maxL) (ret := ret) hM hp.1 hrc hrs hfr hlo hws hcw (fun a' U hW => word_at hW (Or.inl (by first | rfl | simp [Cond.onTables, Cond.keeps, Cond.steady])) hini)
  obtain ⟨hx, hb, hml, ho, -⟩ := S
  intro T hT X
  rcases vx_callSX X hx (hh := hh) (bytes := bytes) (maxL := maxL) (ret := ret) ho hl hstt hini hcode hy hK hg (hsize.trans hml.symm) (argsL := As) (rest := rest) (fun sig h => hn.trans (hlen sig h)) hstack hW (by rw [hb]; exact hdg)
    (fun vm₁ hW₁ => ⟨hf.1, hf.2, hp.2 (T.setVm vm₁) hT hW₁⟩) with ⟨v, vm₁, ⟨U', l2, c2, s2⟩, hW₁, X', ⟨g', mk, t, L, e1, e2, hq, h1, hL, h2, h3⟩, st⟩ | ⟨q, vm₁, ⟨U', l2, c2, s2⟩, hW₁, X', ⟨g', mk, t, L, E, ce, e1, e2, hq, hce, hcv, hcl, h1, hL, h2, h3⟩, st⟩
  · dsimp only [Pt.U, Pt.locs, Pt.cells, Pt.slots] at X' e1 e2 h1 h2 h3 st
    subst h1; subst h2; subst h3
    exact Or.inl ⟨v, (T.setVm vm₁).calling g' mk As.toArray, t, U', L, hT, X', hL, e1, e2, hq, st⟩
  · dsimp only [Pt.U, Pt.locs, Pt.cells, Pt.slots] at X' e1 e2 h1 h2 h3 st hcl
    subst h1; subst h2; subst h3
    exact Or.inr ⟨q, (T.setVm vm₁).calling g' mk As.toArray, t, U', L, E, ce, hT, X', hL, e1, e2, hq, hce, hcv, vx_cls hW₁ hcl, st⟩
end
end VXH
theorem vx_ofWH {l : Launch} {y : MethodName} {ws ws' : List Cond} {rm : Room} {Pc : Array Value → State → Prop} {Qc : Array Value → State → Outcome → State → Prop} {XC : String → State → State → Prop} {mc ms : Nat} {free : Addr → Prop} {cc : ByteArray} {maxL : Nat} {ret : Option FieldType} {hh : List (Nat × Nat × Nat × Nat)}
    (hy : plainName y.cls = true) (hw : ws = Cond.codeWith y cc maxL ret hh :: ws')
    (body : ∀ p e s m args below meth c s₁, BodyLoose p l y (headSpec ws rm) cc maxL ret e s m args below meth c s₁ → c.maxLocals = maxL → Pc args s →
      W p l e (headSpec ws rm).room s m args below meth c s.heap [] 0 0 (vx_MQ below Qc XC args s mc ms free) (entryFrame m args maxL)) : vx_Met l y ws rm Pc Qc XC mc ms free := by
  refine MetFree.of_bodyS (code := cc) (maxLocals := maxL) (ret := ret) hy ?_ ?_
  · intro args s m h hn
    obtain ⟨m9, meth, c, hn9, h1, h2, h3, h4, -, h5, h6, -⟩ := Cond.codeWith_spec (atoms_spec (ws := ws) h _ (by rw [hw]; exact List.mem_cons_self))
    cases hn.symm.trans hn9
    exact ⟨meth, c, h1, h2, h3, h4, h5, h6⟩
  · intro p e s m args below meth c s₁ B hml hP _
    have hh0 : s₁.heap = s.heap := by rw [B.state]; rfl
    obtain ⟨t, a1, o, b1, b2, b3⟩ := body p e s m args below meth c s₁ B hml hP s₁ hh0 (Stand.of_body B)
    exact ⟨t, o, a1, b1, b2, b3⟩
/-! ===== END ===== -/
end
section
def RX0 : String := "NetlistBench$Element"
def TX0 : u_T := fun k => match k with
  | 0 => ("NetlistBench$Element", "isSource", "Z", true)
  | 1 => ("NetlistBench$Element", "a", "I", true)
  | 2 => ("NetlistBench$Element", "b", "I", true)
  | 3 => ("NetlistBench$Element", "size", "I", false)
  | 4 => ("NetlistBench$Element", "startsOn", "Z", false)
  | 5 => ("NetlistBench$Element", "toggles", "I", false)
  | _ => ("NetlistBench$Element", "times", "[I", true)
def tyX0 : Nat → FieldType := fun k => match k with
  | 0 => .boolean
  | 1 => .int
  | 2 => .int
  | 3 => .int
  | 4 => .boolean
  | 5 => .int
  | _ => .array .int
abbrev wsX00 : List Cond := u_ws RX0 TX0 7
theorem nmX0 : ∀ a, a < 7 → ∀ b, b < 7 → a ≠ b → (TX0 a).2.1 ≠ (TX0 b).2.1 := by decide +kernel
theorem tyX0_ok : ∀ k, k < 7 → parseFieldDescriptor (TX0 k).2.2.1 = some (tyX0 k) := by decide +kernel
abbrev cX0_init : ByteArray := prog_2_method_1_code
def yX0_init : MethodName := ⟨RX0, "<init>", "(ZIII)V"⟩
abbrev cX0_runsAt : ByteArray := prog_2_method_2_code
def yX0_runsAt : MethodName := ⟨RX0, "runsAt", "(I)Z"⟩
abbrev cX0_hasToggle : ByteArray := prog_2_method_3_code
def yX0_hasToggle : MethodName := ⟨RX0, "hasToggle", "(I)Z"⟩
abbrev cX0_toggleTime : ByteArray := prog_2_method_4_code
def yX0_toggleTime : MethodName := ⟨RX0, "toggleTime", "(I)I"⟩
abbrev cX0_toggleBehind : ByteArray := prog_2_method_5_code
def yX0_toggleBehind : MethodName := ⟨RX0, "toggleBehind", "(I)I"⟩
abbrev cX0_putToggle : ByteArray := prog_2_method_6_code
def yX0_putToggle : MethodName := ⟨RX0, "putToggle", "(I)V"⟩
abbrev cX0_dropToggle : ByteArray := prog_2_method_7_code
def yX0_dropToggle : MethodName := ⟨RX0, "dropToggle", "(I)V"⟩
abbrev cX0_trait : ByteArray := prog_2_method_8_code
def yX0_trait : MethodName := ⟨RX0, "trait", "(I)I"⟩
abbrev cX0_togglesBefore : ByteArray := prog_2_method_9_code
def yX0_togglesBefore : MethodName := ⟨RX0, "togglesBefore", "(I)I"⟩
def RX1 : String := "NetlistBench$Equations"
def TX1 : u_T := fun k => match k with
  | 0 => ("NetlistBench$Equations", "places", "[I", true)
  | 1 => ("NetlistBench$Equations", "known", "[J", true)
  | 2 => ("NetlistBench$Equations", "rows", "[[J", true)
  | 3 => ("NetlistBench$Equations", "minors", "[J", true)
  | _ => ("NetlistBench$Equations", "unknowns", "I", false)
def tyX1 : Nat → FieldType := fun k => match k with
  | 0 => .array .int
  | 1 => .array .long
  | 2 => .array (.array .long)
  | 3 => .array .long
  | _ => .int
abbrev wsX10 : List Cond := u_ws RX1 TX1 5
theorem nmX1 : ∀ a, a < 5 → ∀ b, b < 5 → a ≠ b → (TX1 a).2.1 ≠ (TX1 b).2.1 := by decide +kernel
theorem tyX1_ok : ∀ k, k < 5 → parseFieldDescriptor (TX1 k).2.2.1 = some (tyX1 k) := by decide +kernel
abbrev cX1_init : ByteArray := prog_3_method_1_code
def yX1_init : MethodName := ⟨RX1, "<init>", "()V"⟩
abbrev cX1_clear : ByteArray := prog_3_method_2_code
def yX1_clear : MethodName := ⟨RX1, "clear", "()V"⟩
abbrev cX1_fix : ByteArray := prog_3_method_3_code
def yX1_fix : MethodName := ⟨RX1, "fix", "(IJ)V"⟩
abbrev cX1_seek : ByteArray := prog_3_method_4_code
def yX1_seek : MethodName := ⟨RX1, "seek", "(I)V"⟩
abbrev cX1_bring : ByteArray := prog_3_method_5_code
def yX1_bring : MethodName := ⟨RX1, "bring", "(IJ)V"⟩
abbrev cX1_link : ByteArray := prog_3_method_6_code
def yX1_link : MethodName := ⟨RX1, "link", "(IIJ)V"⟩
abbrev cX1_linkOneWay : ByteArray := prog_3_method_7_code
def yX1_linkOneWay : MethodName := ⟨RX1, "linkOneWay", "(IIJ)V"⟩
abbrev cX1_solve : ByteArray := prog_3_method_8_code
def yX1_solve : MethodName := ⟨RX1, "solve", "()V"⟩
abbrev cX1_expand : ByteArray := prog_3_method_9_code
def yX1_expand : MethodName := ⟨RX1, "expand", "(I)J"⟩
abbrev cX1_lower : ByteArray := prog_3_method_10_code
def yX1_lower : MethodName := ⟨RX1, "lower", "()J"⟩
abbrev cX1_upper : ByteArray := prog_3_method_11_code
def yX1_upper : MethodName := ⟨RX1, "upper", "(I)J"⟩
abbrev cX1_allColumns : ByteArray := prog_3_method_12_code
def yX1_allColumns : MethodName := ⟨RX1, "allColumns", "()I"⟩
def RX2 : String := "NetlistBench$Node"
def TX2 : u_T := fun k => match k with
  | 0 => ("NetlistBench$Node", "isRail", "Z", false)
  | _ => ("NetlistBench$Node", "railPotential", "I", false)
def tyX2 : Nat → FieldType := fun k => match k with
  | 0 => .boolean
  | _ => .int
abbrev wsX20 : List Cond := u_ws RX2 TX2 2
theorem nmX2 : ∀ a, a < 2 → ∀ b, b < 2 → a ≠ b → (TX2 a).2.1 ≠ (TX2 b).2.1 := by decide +kernel
theorem tyX2_ok : ∀ k, k < 2 → parseFieldDescriptor (TX2 k).2.2.1 = some (tyX2 k) := by decide +kernel
abbrev cX2_init : ByteArray := prog_4_method_1_code
def yX2_init : MethodName := ⟨RX2, "<init>", "()V"⟩
def RX3 : String := "NetlistBench"
def TX3 : u_T := fun k => match k with
  | 0 => ("NetlistBench", "nodes", "Ljava/util/ArrayList;", true)
  | 1 => ("NetlistBench", "elements", "Ljava/util/ArrayList;", true)
  | 2 => ("NetlistBench", "groups", "[I", true)
  | _ => ("NetlistBench", "equations", "LNetlistBench$Equations;", true)
def tyX3 : Nat → FieldType := fun k => match k with
  | 0 => .object "java/util/ArrayList"
  | 1 => .object "java/util/ArrayList"
  | 2 => .array .int
  | _ => .object "NetlistBench$Equations"
abbrev wsX30 : List Cond := u_ws RX3 TX3 4
theorem nmX3 : ∀ a, a < 4 → ∀ b, b < 4 → a ≠ b → (TX3 a).2.1 ≠ (TX3 b).2.1 := by decide +kernel
theorem tyX3_ok : ∀ k, k < 4 → parseFieldDescriptor (TX3 k).2.2.1 = some (tyX3 k) := by decide +kernel
abbrev cX3_init : ByteArray := prog_1_method_1_code
def yX3_init : MethodName := ⟨RX3, "<init>", "()V"⟩
abbrev cX3_addNode : ByteArray := prog_1_method_2_code
def yX3_addNode : MethodName := ⟨RX3, "addNode", "()I"⟩
abbrev cX3_rail : ByteArray := prog_1_method_3_code
def yX3_rail : MethodName := ⟨RX3, "rail", "(IZI)Z"⟩
abbrev cX3_addElement : ByteArray := prog_1_method_4_code
def yX3_addElement : MethodName := ⟨RX3, "addElement", "(ZIII)I"⟩
abbrev cX3_resize : ByteArray := prog_1_method_5_code
def yX3_resize : MethodName := ⟨RX3, "resize", "(II)I"⟩
abbrev cX3_begin : ByteArray := prog_1_method_6_code
def yX3_begin : MethodName := ⟨RX3, "begin", "(IZ)Z"⟩
abbrev cX3_toggle : ByteArray := prog_1_method_7_code
def yX3_toggle : MethodName := ⟨RX3, "toggle", "(II)I"⟩
abbrev cX3_count : ByteArray := prog_1_method_8_code
def yX3_count : MethodName := ⟨RX3, "count", "(I)I"⟩
abbrev cX3_element : ByteArray := prog_1_method_9_code
def yX3_element : MethodName := ⟨RX3, "element", "(II)I"⟩
abbrev cX3_toggleAt : ByteArray := prog_1_method_10_code
def yX3_toggleAt : MethodName := ⟨RX3, "toggleAt", "(II)I"⟩
abbrev cX3_isOn : ByteArray := prog_1_method_11_code
def yX3_isOn : MethodName := ⟨RX3, "isOn", "(II)Z"⟩
abbrev cX3_together : ByteArray := prog_1_method_12_code
def yX3_together : MethodName := ⟨RX3, "together", "(II)I"⟩
abbrev cX3_floats : ByteArray := prog_1_method_13_code
def yX3_floats : MethodName := ⟨RX3, "floats", "(II)Z"⟩
abbrev cX3_potential : ByteArray := prog_1_method_14_code
def yX3_potential : MethodName := ⟨RX3, "potential", "(IIZ)J"⟩
abbrev cX3_current : ByteArray := prog_1_method_15_code
def yX3_current : MethodName := ⟨RX3, "current", "(IIZ)J"⟩
abbrev cX3_feed : ByteArray := prog_1_method_16_code
def yX3_feed : MethodName := ⟨RX3, "feed", "(IIZ)J"⟩
abbrev cX3_resistance : ByteArray := prog_1_method_17_code
def yX3_resistance : MethodName := ⟨RX3, "resistance", "(IIIZ)J"⟩
abbrev cX3_power : ByteArray := prog_1_method_18_code
def yX3_power : MethodName := ⟨RX3, "power", "(I)D"⟩
abbrev cX3_nextToggle : ByteArray := prog_1_method_19_code
def yX3_nextToggle : MethodName := ⟨RX3, "nextToggle", "(I)I"⟩
abbrev cX3_probe : ByteArray := prog_1_method_20_code
def yX3_probe : MethodName := ⟨RX3, "probe", "(IIIZ)I"⟩
abbrev cX3_compare : ByteArray := prog_1_method_21_code
def yX3_compare : MethodName := ⟨RX3, "compare", "(IIII)I"⟩
abbrev cX3_levels : ByteArray := prog_1_method_22_code
def yX3_levels : MethodName := ⟨RX3, "levels", "(I)I"⟩
abbrev cX3_digest : ByteArray := prog_1_method_23_code
def yX3_digest : MethodName := ⟨RX3, "digest", "()J"⟩
abbrev cX3_checkNode : ByteArray := prog_1_method_24_code
def yX3_checkNode : MethodName := ⟨RX3, "checkNode", "(I)V"⟩
abbrev cX3_checkElement : ByteArray := prog_1_method_25_code
def yX3_checkElement : MethodName := ⟨RX3, "checkElement", "(I)V"⟩
abbrev cX3_checkTime : ByteArray := prog_1_method_26_code
def yX3_checkTime : MethodName := ⟨RX3, "checkTime", "(I)V"⟩
abbrev cX3_checkSize : ByteArray := prog_1_method_27_code
def yX3_checkSize : MethodName := ⟨RX3, "checkSize", "(ZI)V"⟩
abbrev cX3_checkGrounded : ByteArray := prog_1_method_28_code
def yX3_checkGrounded : MethodName := ⟨RX3, "checkGrounded", "(I)V"⟩
abbrev cX3_group : ByteArray := prog_1_method_29_code
def yX3_group : MethodName := ⟨RX3, "group", "(I)V"⟩
abbrev cX3_join : ByteArray := prog_1_method_30_code
def yX3_join : MethodName := ⟨RX3, "join", "(I)V"⟩
abbrev cX3_isAfloat : ByteArray := prog_1_method_31_code
def yX3_isAfloat : MethodName := ⟨RX3, "isAfloat", "(I)Z"⟩
abbrev cX3_contains : ByteArray := prog_1_method_32_code
def yX3_contains : MethodName := ⟨RX3, "contains", "(II)Z"⟩
abbrev cX3_settle : ByteArray := prog_1_method_33_code
def yX3_settle : MethodName := ⟨RX3, "settle", "(I)V"⟩
abbrev cX3_drive : ByteArray := prog_1_method_34_code
def yX3_drive : MethodName := ⟨RX3, "drive", "(III)V"⟩
abbrev cX3_conduct : ByteArray := prog_1_method_35_code
def yX3_conduct : MethodName := ⟨RX3, "conduct", "(I)V"⟩
abbrev cX3_flowOut : ByteArray := prog_1_method_36_code
def yX3_flowOut : MethodName := ⟨RX3, "flowOut", "(LNetlistBench$Element;I)J"⟩
abbrev cX3_quotientAt : ByteArray := prog_1_method_37_code
def yX3_quotientAt : MethodName := ⟨RX3, "quotientAt", "(I)D"⟩
abbrev cX3_isFirstOfLevel : ByteArray := prog_1_method_38_code
def yX3_isFirstOfLevel : MethodName := ⟨RX3, "isFirstOfLevel", "(I)Z"⟩
abbrev cX3_firstToggleBehind : ByteArray := prog_1_method_39_code
def yX3_firstToggleBehind : MethodName := ⟨RX3, "firstToggleBehind", "(I)I"⟩
abbrev cX3_countOf : ByteArray := prog_1_method_40_code
def yX3_countOf : MethodName := ⟨RX3, "countOf", "(I)I"⟩
abbrev cX3_countRails : ByteArray := prog_1_method_41_code
def yX3_countRails : MethodName := ⟨RX3, "countRails", "()I"⟩
abbrev cX3_countToggles : ByteArray := prog_1_method_42_code
def yX3_countToggles : MethodName := ⟨RX3, "countToggles", "()I"⟩
abbrev cX3_digestCircuit : ByteArray := prog_1_method_43_code
def yX3_digestCircuit : MethodName := ⟨RX3, "digestCircuit", "(J)J"⟩
abbrev cX3_digestElement : ByteArray := prog_1_method_44_code
def yX3_digestElement : MethodName := ⟨RX3, "digestElement", "(JLNetlistBench$Element;)J"⟩
abbrev cX3_digestPotentials : ByteArray := prog_1_method_45_code
def yX3_digestPotentials : MethodName := ⟨RX3, "digestPotentials", "(JI)J"⟩
abbrev cX3_digestOf : ByteArray := prog_1_method_46_code
def yX3_digestOf : MethodName := ⟨RX3, "digestOf", "(JJ)J"⟩
abbrev cX3_partOf : ByteArray := prog_1_method_47_code
def yX3_partOf : MethodName := ⟨RX3, "partOf", "(JJZ)J"⟩
abbrev cX3_commonDivisor : ByteArray := prog_1_method_48_code
def yX3_commonDivisor : MethodName := ⟨RX3, "commonDivisor", "(JJ)J"⟩
abbrev cX3_compareFractions : ByteArray := prog_1_method_49_code
def yX3_compareFractions : MethodName := ⟨RX3, "compareFractions", "(JJJJ)I"⟩
def RX4 : String := "NetlistBenchModel"
def TX4 : u_T := fun k => match k with
  | 0 => ("NetlistBenchModel", "thrown", "I", false)
  | 1 => ("NetlistBenchModel", "nodes", "I", false)
  | 2 => ("NetlistBenchModel", "areRails", "[Z", true)
  | 3 => ("NetlistBenchModel", "railPotentials", "[I", true)
  | 4 => ("NetlistBenchModel", "elements", "I", false)
  | 5 => ("NetlistBenchModel", "areSources", "[Z", true)
  | 6 => ("NetlistBenchModel", "as", "[I", true)
  | 7 => ("NetlistBenchModel", "bs", "[I", true)
  | 8 => ("NetlistBenchModel", "sizes", "[I", true)
  | 9 => ("NetlistBenchModel", "areOn", "[Z", true)
  | 10 => ("NetlistBenchModel", "toggles", "[I", true)
  | 11 => ("NetlistBenchModel", "toggleTimes", "[I", true)
  | 12 => ("NetlistBenchModel", "unknown", "I", false)
  | 13 => ("NetlistBenchModel", "places", "[I", true)
  | 14 => ("NetlistBenchModel", "matrix", "[J", true)
  | 15 => ("NetlistBenchModel", "right", "[J", true)
  | 16 => ("NetlistBenchModel", "minors", "[J", true)
  | 17 => ("NetlistBenchModel", "denominator", "J", false)
  | 18 => ("NetlistBenchModel", "numerators", "[J", true)
  | _ => ("NetlistBenchModel", "areFloating", "[Z", true)
def tyX4 : Nat → FieldType := fun k => match k with
  | 0 => .int
  | 1 => .int
  | 2 => .array .boolean
  | 3 => .array .int
  | 4 => .int
  | 5 => .array .boolean
  | 6 => .array .int
  | 7 => .array .int
  | 8 => .array .int
  | 9 => .array .boolean
  | 10 => .array .int
  | 11 => .array .int
  | 12 => .int
  | 13 => .array .int
  | 14 => .array .long
  | 15 => .array .long
  | 16 => .array .long
  | 17 => .long
  | 18 => .array .long
  | _ => .array .boolean
abbrev wsX40 : List Cond := u_ws RX4 TX4 20
theorem nmX4 : ∀ a, a < 20 → ∀ b, b < 20 → a ≠ b → (TX4 a).2.1 ≠ (TX4 b).2.1 := by decide +kernel
theorem tyX4_ok : ∀ k, k < 20 → parseFieldDescriptor (TX4 k).2.2.1 = some (tyX4 k) := by decide +kernel
abbrev cX4_init : ByteArray := prog_6_method_1_code
def yX4_init : MethodName := ⟨RX4, "<init>", "()V"⟩
abbrev cX4_thrown : ByteArray := prog_6_method_2_code
def yX4_thrown : MethodName := ⟨RX4, "thrown", "()I"⟩
abbrev cX4_fail : ByteArray := prog_6_method_3_code
def yX4_fail : MethodName := ⟨RX4, "fail", "(I)I"⟩
abbrev cX4_isIn : ByteArray := prog_6_method_4_code
def yX4_isIn : MethodName := ⟨RX4, "isIn", "(III)Z"⟩
abbrev cX4_isNode : ByteArray := prog_6_method_5_code
def yX4_isNode : MethodName := ⟨RX4, "isNode", "(I)Z"⟩
abbrev cX4_isElement : ByteArray := prog_6_method_6_code
def yX4_isElement : MethodName := ⟨RX4, "isElement", "(I)Z"⟩
abbrev cX4_isTime : ByteArray := prog_6_method_7_code
def yX4_isTime : MethodName := ⟨RX4, "isTime", "(I)Z"⟩
abbrev cX4_isSize : ByteArray := prog_6_method_8_code
def yX4_isSize : MethodName := ⟨RX4, "isSize", "(ZI)Z"⟩
abbrev cX4_addNode : ByteArray := prog_6_method_9_code
def yX4_addNode : MethodName := ⟨RX4, "addNode", "()I"⟩
abbrev cX4_rail : ByteArray := prog_6_method_10_code
def yX4_rail : MethodName := ⟨RX4, "rail", "(IZI)Z"⟩
abbrev cX4_addElement : ByteArray := prog_6_method_11_code
def yX4_addElement : MethodName := ⟨RX4, "addElement", "(ZIII)I"⟩
abbrev cX4_resize : ByteArray := prog_6_method_12_code
def yX4_resize : MethodName := ⟨RX4, "resize", "(II)I"⟩
abbrev cX4_begin : ByteArray := prog_6_method_13_code
def yX4_begin : MethodName := ⟨RX4, "begin", "(IZ)Z"⟩
abbrev cX4_toggle : ByteArray := prog_6_method_14_code
def yX4_toggle : MethodName := ⟨RX4, "toggle", "(II)I"⟩
abbrev cX4_counted : ByteArray := prog_6_method_15_code
def yX4_counted : MethodName := ⟨RX4, "counted", "(I)I"⟩
abbrev cX4_count : ByteArray := prog_6_method_16_code
def yX4_count : MethodName := ⟨RX4, "count", "(I)I"⟩
abbrev cX4_elementTold : ByteArray := prog_6_method_17_code
def yX4_elementTold : MethodName := ⟨RX4, "elementTold", "(II)I"⟩
abbrev cX4_element : ByteArray := prog_6_method_18_code
def yX4_element : MethodName := ⟨RX4, "element", "(II)I"⟩
abbrev cX4_toggleAt : ByteArray := prog_6_method_19_code
def yX4_toggleAt : MethodName := ⟨RX4, "toggleAt", "(II)I"⟩
abbrev cX4_isOnAt : ByteArray := prog_6_method_20_code
def yX4_isOnAt : MethodName := ⟨RX4, "isOnAt", "(II)Z"⟩
abbrev cX4_conducts : ByteArray := prog_6_method_21_code
def yX4_conducts : MethodName := ⟨RX4, "conducts", "(II)Z"⟩
abbrev cX4_isOn : ByteArray := prog_6_method_22_code
def yX4_isOn : MethodName := ⟨RX4, "isOn", "(II)Z"⟩
abbrev cX4_group : ByteArray := prog_6_method_23_code
def yX4_group : MethodName := ⟨RX4, "group", "(II)I"⟩
abbrev cX4_together : ByteArray := prog_6_method_24_code
def yX4_together : MethodName := ⟨RX4, "together", "(II)I"⟩
abbrev cX4_floatsAt : ByteArray := prog_6_method_25_code
def yX4_floatsAt : MethodName := ⟨RX4, "floatsAt", "(II)Z"⟩
abbrev cX4_floats : ByteArray := prog_6_method_26_code
def yX4_floats : MethodName := ⟨RX4, "floats", "(II)Z"⟩
abbrev cX4_determinant : ByteArray := prog_6_method_27_code
def yX4_determinant : MethodName := ⟨RX4, "determinant", "(I)J"⟩
abbrev cX4_clear : ByteArray := prog_6_method_28_code
def yX4_clear : MethodName := ⟨RX4, "clear", "()V"⟩
abbrev cX4_lay : ByteArray := prog_6_method_29_code
def yX4_lay : MethodName := ⟨RX4, "lay", "(III)V"⟩
abbrev cX4_solve : ByteArray := prog_6_method_30_code
def yX4_solve : MethodName := ⟨RX4, "solve", "(I)V"⟩
abbrev cX4_divisor : ByteArray := prog_6_method_31_code
def yX4_divisor : MethodName := ⟨RX4, "divisor", "(JJ)J"⟩
abbrev cX4_part : ByteArray := prog_6_method_32_code
def yX4_part : MethodName := ⟨RX4, "part", "(JJZ)J"⟩
abbrev cX4_potential : ByteArray := prog_6_method_33_code
def yX4_potential : MethodName := ⟨RX4, "potential", "(IIZ)J"⟩
abbrev cX4_current : ByteArray := prog_6_method_34_code
def yX4_current : MethodName := ⟨RX4, "current", "(IIZ)J"⟩
abbrev cX4_feed : ByteArray := prog_6_method_35_code
def yX4_feed : MethodName := ⟨RX4, "feed", "(IIZ)J"⟩
abbrev cX4_resistance : ByteArray := prog_6_method_36_code
def yX4_resistance : MethodName := ⟨RX4, "resistance", "(IIIZ)J"⟩
abbrev cX4_potentialOf : ByteArray := prog_6_method_37_code
def yX4_potentialOf : MethodName := ⟨RX4, "potentialOf", "(I)D"⟩
abbrev cX4_power : ByteArray := prog_6_method_38_code
def yX4_power : MethodName := ⟨RX4, "power", "(I)D"⟩
abbrev cX4_toggleBehind : ByteArray := prog_6_method_39_code
def yX4_toggleBehind : MethodName := ⟨RX4, "toggleBehind", "(I)I"⟩
abbrev cX4_nextToggle : ByteArray := prog_6_method_40_code
def yX4_nextToggle : MethodName := ⟨RX4, "nextToggle", "(I)I"⟩
abbrev cX4_compared : ByteArray := prog_6_method_41_code
def yX4_compared : MethodName := ⟨RX4, "compared", "(JJJJ)I"⟩
abbrev cX4_probe : ByteArray := prog_6_method_42_code
def yX4_probe : MethodName := ⟨RX4, "probe", "(IIIZ)I"⟩
abbrev cX4_compare : ByteArray := prog_6_method_43_code
def yX4_compare : MethodName := ⟨RX4, "compare", "(IIII)I"⟩
abbrev cX4_levels : ByteArray := prog_6_method_44_code
def yX4_levels : MethodName := ⟨RX4, "levels", "(I)I"⟩
abbrev cX4_into : ByteArray := prog_6_method_45_code
def yX4_into : MethodName := ⟨RX4, "into", "(JI)J"⟩
abbrev cX4_digest : ByteArray := prog_6_method_46_code
def yX4_digest : MethodName := ⟨RX4, "digest", "()J"⟩
def RJx145de : String := "java/io/Serializable"
def TJx145de : u_T := fun k => match k with
  | _ => ("", "", "", false)
def tyJx145de : Nat → FieldType := fun k => match k with
  | _ => .int
abbrev wsJx145de0 : List Cond := u_ws RJx145de TJx145de 0
theorem nmJx145de : ∀ a, a < 0 → ∀ b, b < 0 → a ≠ b → (TJx145de a).2.1 ≠ (TJx145de b).2.1 := by decide +kernel
theorem tyJx145de_ok : ∀ k, k < 0 → parseFieldDescriptor (TJx145de k).2.2.1 = some (tyJx145de k) := by decide +kernel
def RJx8e188 : String := "java/lang/Cloneable"
def TJx8e188 : u_T := fun k => match k with
  | _ => ("", "", "", false)
def tyJx8e188 : Nat → FieldType := fun k => match k with
  | _ => .int
abbrev wsJx8e1880 : List Cond := u_ws RJx8e188 TJx8e188 0
theorem nmJx8e188 : ∀ a, a < 0 → ∀ b, b < 0 → a ≠ b → (TJx8e188 a).2.1 ≠ (TJx8e188 b).2.1 := by decide +kernel
theorem tyJx8e188_ok : ∀ k, k < 0 → parseFieldDescriptor (TJx8e188 k).2.2.1 = some (tyJx8e188 k) := by decide +kernel
def RJ6 : String := "java/lang/Integer"
def TJ6 : u_T := fun k => match k with
  | _ => ("", "", "", false)
def tyJ6 : Nat → FieldType := fun k => match k with
  | _ => .int
abbrev wsJ60 : List Cond := u_ws RJ6 TJ6 0
theorem nmJ6 : ∀ a, a < 0 → ∀ b, b < 0 → a ≠ b → (TJ6 a).2.1 ≠ (TJ6 b).2.1 := by decide +kernel
theorem tyJ6_ok : ∀ k, k < 0 → parseFieldDescriptor (TJ6 k).2.2.1 = some (tyJ6 k) := by decide +kernel
abbrev cJ6_bitCount_0f7a4 : ByteArray := prog_13_method_49_code
def yJ6_bitCount_0f7a4 : MethodName := ⟨RJ6, "bitCount", "(I)I"⟩
def RJxab1ab : String := "java/lang/Iterable"
def TJxab1ab : u_T := fun k => match k with
  | _ => ("", "", "", false)
def tyJxab1ab : Nat → FieldType := fun k => match k with
  | _ => .int
abbrev wsJxab1ab0 : List Cond := u_ws RJxab1ab TJxab1ab 0
theorem nmJxab1ab : ∀ a, a < 0 → ∀ b, b < 0 → a ≠ b → (TJxab1ab a).2.1 ≠ (TJxab1ab b).2.1 := by decide +kernel
theorem tyJxab1ab_ok : ∀ k, k < 0 → parseFieldDescriptor (TJxab1ab k).2.2.1 = some (tyJxab1ab k) := by decide +kernel
def RJ13 : String := "java/lang/Long"
def TJ13 : u_T := fun k => match k with
  | _ => ("", "", "", false)
def tyJ13 : Nat → FieldType := fun k => match k with
  | _ => .int
abbrev wsJ130 : List Cond := u_ws RJ13 TJ13 0
theorem nmJ13 : ∀ a, a < 0 → ∀ b, b < 0 → a ≠ b → (TJ13 a).2.1 ≠ (TJ13 b).2.1 := by decide +kernel
theorem tyJ13_ok : ∀ k, k < 0 → parseFieldDescriptor (TJ13 k).2.2.1 = some (tyJ13 k) := by decide +kernel
abbrev cJ13_compare_74951 : ByteArray := prog_15_method_42_code
def yJ13_compare_74951 : MethodName := ⟨RJ13, "compare", "(JJ)I"⟩
def RJ9 : String := "java/lang/Math"
def TJ9 : u_T := fun k => match k with
  | _ => ("", "", "", false)
def tyJ9 : Nat → FieldType := fun k => match k with
  | _ => .int
abbrev wsJ90 : List Cond := u_ws RJ9 TJ9 0
theorem nmJ9 : ∀ a, a < 0 → ∀ b, b < 0 → a ≠ b → (TJ9 a).2.1 ≠ (TJ9 b).2.1 := by decide +kernel
theorem tyJ9_ok : ∀ k, k < 0 → parseFieldDescriptor (TJ9 k).2.2.1 = some (tyJ9 k) := by decide +kernel
abbrev cJ9_floorDiv_f86c9 : ByteArray := prog_16_method_49_code
def yJ9_floorDiv_f86c9 : MethodName := ⟨RJ9, "floorDiv", "(JJ)J"⟩
abbrev cJ9_floorMod_f86c9 : ByteArray := prog_16_method_52_code
def yJ9_floorMod_f86c9 : MethodName := ⟨RJ9, "floorMod", "(JJ)J"⟩
abbrev cJ9_abs_067f4 : ByteArray := prog_16_method_61_code
def yJ9_abs_067f4 : MethodName := ⟨RJ9, "abs", "(J)J"⟩
abbrev cJ9_max_7cf53 : ByteArray := prog_16_method_65_code
def yJ9_max_7cf53 : MethodName := ⟨RJ9, "max", "(II)I"⟩
abbrev cJ9_min_7cf53 : ByteArray := prog_16_method_69_code
def yJ9_min_7cf53 : MethodName := ⟨RJ9, "min", "(II)I"⟩
def RJ0 : String := "java/lang/String"
def TJ0 : u_T := fun k => match k with
  | _ => ("", "", "", false)
def tyJ0 : Nat → FieldType := fun k => match k with
  | _ => .int
abbrev wsJ00 : List Cond := u_ws RJ0 TJ0 0
theorem nmJ0 : ∀ a, a < 0 → ∀ b, b < 0 → a ≠ b → (TJ0 a).2.1 ≠ (TJ0 b).2.1 := by decide +kernel
theorem tyJ0_ok : ∀ k, k < 0 → parseFieldDescriptor (TJ0 k).2.2.1 = some (tyJ0 k) := by decide +kernel
def RJ10 : String := "java/lang/System"
def TJ10 : u_T := fun k => match k with
  | _ => ("", "", "", false)
def tyJ10 : Nat → FieldType := fun k => match k with
  | _ => .int
abbrev wsJ100 : List Cond := u_ws RJ10 TJ10 0
theorem nmJ10 : ∀ a, a < 0 → ∀ b, b < 0 → a ≠ b → (TJ10 a).2.1 ≠ (TJ10 b).2.1 := by decide +kernel
theorem tyJ10_ok : ∀ k, k < 0 → parseFieldDescriptor (TJ10 k).2.2.1 = some (tyJ10 k) := by decide +kernel
def RJxa1e45 : String := "java/util/AbstractCollection"
def TJxa1e45 : u_T := fun k => match k with
  | _ => ("", "", "", false)
def tyJxa1e45 : Nat → FieldType := fun k => match k with
  | _ => .int
abbrev wsJxa1e450 : List Cond := u_ws RJxa1e45 TJxa1e45 0
theorem nmJxa1e45 : ∀ a, a < 0 → ∀ b, b < 0 → a ≠ b → (TJxa1e45 a).2.1 ≠ (TJxa1e45 b).2.1 := by decide +kernel
theorem tyJxa1e45_ok : ∀ k, k < 0 → parseFieldDescriptor (TJxa1e45 k).2.2.1 = some (tyJxa1e45 k) := by decide +kernel
abbrev cJxa1e45_init_da8c8 : ByteArray := prog_21_method_1_code
def yJxa1e45_init_da8c8 : MethodName := ⟨RJxa1e45, "<init>", "()V"⟩
def RJxc12de : String := "java/util/AbstractList"
def TJxc12de : u_T := fun k => match k with
  | _ => ("", "", "", false)
def tyJxc12de : Nat → FieldType := fun k => match k with
  | _ => .int
abbrev wsJxc12de0 : List Cond := u_ws RJxc12de TJxc12de 0
theorem nmJxc12de : ∀ a, a < 0 → ∀ b, b < 0 → a ≠ b → (TJxc12de a).2.1 ≠ (TJxc12de b).2.1 := by decide +kernel
theorem tyJxc12de_ok : ∀ k, k < 0 → parseFieldDescriptor (TJxc12de k).2.2.1 = some (tyJxc12de k) := by decide +kernel
abbrev cJxc12de_init_da8c8 : ByteArray := prog_22_method_1_code
def yJxc12de_init_da8c8 : MethodName := ⟨RJxc12de, "<init>", "()V"⟩
def RJx4a65c : String := "java/util/ArrayList"
def TJx4a65c : u_T := fun k => match k with
  | 0 => ("java/util/AbstractList", "modCount", "I", false)
  | 1 => ("java/util/ArrayList", "elementData", "[Ljava/lang/Object;", false)
  | _ => ("java/util/ArrayList", "size", "I", false)
def tyJx4a65c : Nat → FieldType := fun k => match k with
  | 0 => .int
  | 1 => .array (.object "java/lang/Object")
  | _ => .int
abbrev wsJx4a65c0 : List Cond := u_ws RJx4a65c TJx4a65c 3
theorem nmJx4a65c : ∀ a, a < 3 → ∀ b, b < 3 → a ≠ b → (TJx4a65c a).2.1 ≠ (TJx4a65c b).2.1 := by decide +kernel
theorem tyJx4a65c_ok : ∀ k, k < 3 → parseFieldDescriptor (TJx4a65c k).2.2.1 = some (tyJx4a65c k) := by decide +kernel
abbrev cJx4a65c_init_da8c8 : ByteArray := prog_23_method_2_code
def yJx4a65c_init_da8c8 : MethodName := ⟨RJx4a65c, "<init>", "()V"⟩
abbrev cJx4a65c_grow_92f84 : ByteArray := prog_23_method_6_code
def yJx4a65c_grow_92f84 : MethodName := ⟨RJx4a65c, "grow", "(I)[Ljava/lang/Object;"⟩
abbrev cJx4a65c_grow_d5877 : ByteArray := prog_23_method_7_code
def yJx4a65c_grow_d5877 : MethodName := ⟨RJx4a65c, "grow", "()[Ljava/lang/Object;"⟩
abbrev cJx4a65c_size_8abf5 : ByteArray := prog_23_method_8_code
def yJx4a65c_size_8abf5 : MethodName := ⟨RJx4a65c, "size", "()I"⟩
abbrev cJx4a65c_elementData_915e3 : ByteArray := prog_23_method_18_code
def yJx4a65c_elementData_915e3 : MethodName := ⟨RJx4a65c, "elementData", "(I)Ljava/lang/Object;"⟩
abbrev cJx4a65c_get_915e3 : ByteArray := prog_23_method_20_code
def yJx4a65c_get_915e3 : MethodName := ⟨RJx4a65c, "get", "(I)Ljava/lang/Object;"⟩
abbrev cJx4a65c_add_72be8 : ByteArray := prog_23_method_24_code
def yJx4a65c_add_72be8 : MethodName := ⟨RJx4a65c, "add", "(Ljava/lang/Object;[Ljava/lang/Object;I)V"⟩
abbrev cJx4a65c_add_9ea2d : ByteArray := prog_23_method_25_code
def yJx4a65c_add_9ea2d : MethodName := ⟨RJx4a65c, "add", "(Ljava/lang/Object;)Z"⟩
def RJ7 : String := "java/util/Arrays"
def TJ7 : u_T := fun k => match k with
  | _ => ("", "", "", false)
def tyJ7 : Nat → FieldType := fun k => match k with
  | _ => .int
abbrev wsJ70 : List Cond := u_ws RJ7 TJ7 0
theorem nmJ7 : ∀ a, a < 0 → ∀ b, b < 0 → a ≠ b → (TJ7 a).2.1 ≠ (TJ7 b).2.1 := by decide +kernel
theorem tyJ7_ok : ∀ k, k < 0 → parseFieldDescriptor (TJ7 k).2.2.1 = some (tyJ7 k) := by decide +kernel
abbrev cJ7_copyOf_1904c : ByteArray := prog_24_method_119_code
def yJ7_copyOf_1904c : MethodName := ⟨RJ7, "copyOf", "([Ljava/lang/Object;I)[Ljava/lang/Object;"⟩
abbrev cJ7_copyOf_6403c : ByteArray := prog_24_method_120_code
def yJ7_copyOf_6403c : MethodName := ⟨RJ7, "copyOf", "([Ljava/lang/Object;ILjava/lang/Class;)[Ljava/lang/Object;"⟩
def RJx5ef63 : String := "java/util/Collection"
def TJx5ef63 : u_T := fun k => match k with
  | _ => ("", "", "", false)
def tyJx5ef63 : Nat → FieldType := fun k => match k with
  | _ => .int
abbrev wsJx5ef630 : List Cond := u_ws RJx5ef63 TJx5ef63 0
theorem nmJx5ef63 : ∀ a, a < 0 → ∀ b, b < 0 → a ≠ b → (TJx5ef63 a).2.1 ≠ (TJx5ef63 b).2.1 := by decide +kernel
theorem tyJx5ef63_ok : ∀ k, k < 0 → parseFieldDescriptor (TJx5ef63 k).2.2.1 = some (tyJx5ef63 k) := by decide +kernel
def RJxbd725 : String := "java/util/List"
def TJxbd725 : u_T := fun k => match k with
  | _ => ("", "", "", false)
def tyJxbd725 : Nat → FieldType := fun k => match k with
  | _ => .int
abbrev wsJxbd7250 : List Cond := u_ws RJxbd725 TJxbd725 0
theorem nmJxbd725 : ∀ a, a < 0 → ∀ b, b < 0 → a ≠ b → (TJxbd725 a).2.1 ≠ (TJxbd725 b).2.1 := by decide +kernel
theorem tyJxbd725_ok : ∀ k, k < 0 → parseFieldDescriptor (TJxbd725 k).2.2.1 = some (tyJxbd725 k) := by decide +kernel
def RJ15 : String := "java/util/Objects"
def TJ15 : u_T := fun k => match k with
  | _ => ("", "", "", false)
def tyJ15 : Nat → FieldType := fun k => match k with
  | _ => .int
abbrev wsJ150 : List Cond := u_ws RJ15 TJ15 0
theorem nmJ15 : ∀ a, a < 0 → ∀ b, b < 0 → a ≠ b → (TJ15 a).2.1 ≠ (TJ15 b).2.1 := by decide +kernel
theorem tyJ15_ok : ∀ k, k < 0 → parseFieldDescriptor (TJ15 k).2.2.1 = some (tyJ15 k) := by decide +kernel
abbrev cJ15_checkIndex_7cf53 : ByteArray := prog_27_method_17_code
def yJ15_checkIndex_7cf53 : MethodName := ⟨RJ15, "checkIndex", "(II)I"⟩
def RJxf0a74 : String := "java/util/RandomAccess"
def TJxf0a74 : u_T := fun k => match k with
  | _ => ("", "", "", false)
def tyJxf0a74 : Nat → FieldType := fun k => match k with
  | _ => .int
abbrev wsJxf0a740 : List Cond := u_ws RJxf0a74 TJxf0a74 0
theorem nmJxf0a74 : ∀ a, a < 0 → ∀ b, b < 0 → a ≠ b → (TJxf0a74 a).2.1 ≠ (TJxf0a74 b).2.1 := by decide +kernel
theorem tyJxf0a74_ok : ∀ k, k < 0 → parseFieldDescriptor (TJxf0a74 k).2.2.1 = some (tyJxf0a74 k) := by decide +kernel
def RJxa66e6 : String := "java/util/SequencedCollection"
def TJxa66e6 : u_T := fun k => match k with
  | _ => ("", "", "", false)
def tyJxa66e6 : Nat → FieldType := fun k => match k with
  | _ => .int
abbrev wsJxa66e60 : List Cond := u_ws RJxa66e6 TJxa66e6 0
theorem nmJxa66e6 : ∀ a, a < 0 → ∀ b, b < 0 → a ≠ b → (TJxa66e6 a).2.1 ≠ (TJxa66e6 b).2.1 := by decide +kernel
theorem tyJxa66e6_ok : ∀ k, k < 0 → parseFieldDescriptor (TJxa66e6 k).2.2.1 = some (tyJxa66e6 k) := by decide +kernel
def RJ8 : String := "jdk/internal/util/ArraysSupport"
def TJ8 : u_T := fun k => match k with
  | _ => ("", "", "", false)
def tyJ8 : Nat → FieldType := fun k => match k with
  | _ => .int
abbrev wsJ80 : List Cond := u_ws RJ8 TJ8 0
theorem nmJ8 : ∀ a, a < 0 → ∀ b, b < 0 → a ≠ b → (TJ8 a).2.1 ≠ (TJ8 b).2.1 := by decide +kernel
theorem tyJ8_ok : ∀ k, k < 0 → parseFieldDescriptor (TJ8 k).2.2.1 = some (tyJ8 k) := by decide +kernel
abbrev cJ8_newLength_cabcc : ByteArray := prog_30_method_27_code
def yJ8_newLength_cabcc : MethodName := ⟨RJ8, "newLength", "(III)I"⟩
abbrev cJ8_hugeLength_7cf53 : ByteArray := prog_30_method_28_code
def yJ8_hugeLength_7cf53 : MethodName := ⟨RJ8, "hugeLength", "(II)I"⟩
def RJ3 : String := "jdk/internal/util/Preconditions"
def TJ3 : u_T := fun k => match k with
  | _ => ("", "", "", false)
def tyJ3 : Nat → FieldType := fun k => match k with
  | _ => .int
abbrev wsJ30 : List Cond := u_ws RJ3 TJ3 0
theorem nmJ3 : ∀ a, a < 0 → ∀ b, b < 0 → a ≠ b → (TJ3 a).2.1 ≠ (TJ3 b).2.1 := by decide +kernel
theorem tyJ3_ok : ∀ k, k < 0 → parseFieldDescriptor (TJ3 k).2.2.1 = some (tyJ3 k) := by decide +kernel
abbrev cJ3_checkIndex_8e157 : ByteArray := prog_31_method_11_code
def yJ3_checkIndex_8e157 : MethodName := ⟨RJ3, "checkIndex", "(IILjava/util/function/BiFunction;)I"⟩
def RL : String := "NetlistBenchLaw"
abbrev cL_addNode : ByteArray := method_3_code
def yL_addNode : MethodName := ⟨RL, "addNode", "(LNetlistBench;[J)I"⟩
abbrev cL_rail : ByteArray := method_4_code
def yL_rail : MethodName := ⟨RL, "rail", "(LNetlistBench;IZI[J)I"⟩
abbrev cL_addElement : ByteArray := method_5_code
def yL_addElement : MethodName := ⟨RL, "addElement", "(LNetlistBench;ZIII[J)I"⟩
abbrev cL_resize : ByteArray := method_6_code
def yL_resize : MethodName := ⟨RL, "resize", "(LNetlistBench;II[J)I"⟩
abbrev cL_begin : ByteArray := method_7_code
def yL_begin : MethodName := ⟨RL, "begin", "(LNetlistBench;IZ[J)I"⟩
abbrev cL_toggle : ByteArray := method_8_code
def yL_toggle : MethodName := ⟨RL, "toggle", "(LNetlistBench;II[J)I"⟩
abbrev cL_count : ByteArray := method_9_code
def yL_count : MethodName := ⟨RL, "count", "(LNetlistBench;I[J)I"⟩
abbrev cL_element : ByteArray := method_10_code
def yL_element : MethodName := ⟨RL, "element", "(LNetlistBench;II[J)I"⟩
abbrev cL_toggleAt : ByteArray := method_11_code
def yL_toggleAt : MethodName := ⟨RL, "toggleAt", "(LNetlistBench;II[J)I"⟩
abbrev cL_isOn : ByteArray := method_12_code
def yL_isOn : MethodName := ⟨RL, "isOn", "(LNetlistBench;II[J)I"⟩
abbrev cL_together : ByteArray := method_13_code
def yL_together : MethodName := ⟨RL, "together", "(LNetlistBench;II[J)I"⟩
abbrev cL_floats : ByteArray := method_14_code
def yL_floats : MethodName := ⟨RL, "floats", "(LNetlistBench;II[J)I"⟩
abbrev cL_potential : ByteArray := method_15_code
def yL_potential : MethodName := ⟨RL, "potential", "(LNetlistBench;IIZ[J)I"⟩
abbrev cL_current : ByteArray := method_16_code
def yL_current : MethodName := ⟨RL, "current", "(LNetlistBench;IIZ[J)I"⟩
abbrev cL_feed : ByteArray := method_17_code
def yL_feed : MethodName := ⟨RL, "feed", "(LNetlistBench;IIZ[J)I"⟩
abbrev cL_resistance : ByteArray := method_18_code
def yL_resistance : MethodName := ⟨RL, "resistance", "(LNetlistBench;IIIZ[J)I"⟩
abbrev cL_power : ByteArray := method_19_code
def yL_power : MethodName := ⟨RL, "power", "(LNetlistBench;I[D)I"⟩
abbrev cL_nextToggle : ByteArray := method_20_code
def yL_nextToggle : MethodName := ⟨RL, "nextToggle", "(LNetlistBench;I[J)I"⟩
abbrev cL_probe : ByteArray := method_21_code
def yL_probe : MethodName := ⟨RL, "probe", "(LNetlistBench;IIIZ[J)I"⟩
abbrev cL_compare : ByteArray := method_22_code
def yL_compare : MethodName := ⟨RL, "compare", "(LNetlistBench;IIII[J)I"⟩
abbrev cL_levels : ByteArray := method_23_code
def yL_levels : MethodName := ⟨RL, "levels", "(LNetlistBench;I[J)I"⟩
abbrev cL_law : ByteArray := code
def yL_law : MethodName := ⟨RL, "law", "([I)Z"⟩
abbrev vwCl : List vw_C := [(RJx4a65c, TJx4a65c, 3), (RX0, TX0, 7), (RX1, TX1, 5), (RX2, TX2, 2), (RX3, TX3, 4), (RX4, TX4, 20)]
end
section
/-- the words that stay, of all that the tables say: every contract has them behind its own code -/
def WG : List Cond := lw_tbl.filter goodWord
theorem WG_at (i : Nat) {w : Cond} (h : lw_tbl[i]? = some w) (g : goodWord w = true) : w ∈ WG := List.mem_filter.mpr ⟨List.mem_of_getElem? h, g⟩
theorem WG_good {w : Cond} (h : w ∈ WG) : goodWord w = true := (List.mem_filter.mp h).2
theorem WG_tbl {w : Cond} (h : w ∈ WG) : w ∈ lw_tbl := (List.mem_filter.mp h).1
/-- a callee's words among the caller's: only its own code is asked for -/
theorem WG_in {big : List Cond} {k : Cond} (hb : ∀ w ∈ WG, w ∈ big) (hk : k ∈ WG) : GoodIn big (k :: WG) := by
  intro w hw
  rcases List.mem_cons.mp hw with h | h
  · subst h; exact ⟨hb _ hk, good_of_word (WG_good hk)⟩
  · exact ⟨hb _ h, good_of_word (WG_good h)⟩
theorem lw_bad (i : Nat) {w : Cond} (h : lw_tbl[i]? = some w) : w ∈ lw_tbl := List.mem_of_getElem? h
theorem q_0 : (Jvm.Cond.selects "NetlistBench" ({ cls := "NetlistBench", name := "digestCircuit", desc := "(J)J" } : Jvm.MethodName) ({ cls := "NetlistBench", name := "digestCircuit", desc := "(J)J" } : Jvm.MethodName)) ∈ WG := WG_at 0 (by decide +kernel) (by decide +kernel)
theorem q_1 : (Jvm.Cond.selects "NetlistBench" ({ cls := "NetlistBench", name := "countOf", desc := "(I)I" } : Jvm.MethodName) ({ cls := "NetlistBench", name := "countOf", desc := "(I)I" } : Jvm.MethodName)) ∈ WG := WG_at 1 (by decide +kernel) (by decide +kernel)
theorem q_2 : (Jvm.Cond.selects "NetlistBench" ({ cls := "NetlistBench", name := "countRails", desc := "()I" } : Jvm.MethodName) ({ cls := "NetlistBench", name := "countRails", desc := "()I" } : Jvm.MethodName)) ∈ WG := WG_at 2 (by decide +kernel) (by decide +kernel)
theorem q_3 : (Jvm.Cond.selects "NetlistBench" ({ cls := "NetlistBench", name := "countToggles", desc := "()I" } : Jvm.MethodName) ({ cls := "NetlistBench", name := "countToggles", desc := "()I" } : Jvm.MethodName)) ∈ WG := WG_at 3 (by decide +kernel) (by decide +kernel)
theorem q_4 : (Jvm.Cond.selects "NetlistBench" ({ cls := "NetlistBench", name := "digestPotentials", desc := "(JI)J" } : Jvm.MethodName) ({ cls := "NetlistBench", name := "digestPotentials", desc := "(JI)J" } : Jvm.MethodName)) ∈ WG := WG_at 4 (by decide +kernel) (by decide +kernel)
theorem q_5 : (Jvm.Cond.selects "NetlistBench" ({ cls := "NetlistBench", name := "settle", desc := "(I)V" } : Jvm.MethodName) ({ cls := "NetlistBench", name := "settle", desc := "(I)V" } : Jvm.MethodName)) ∈ WG := WG_at 5 (by decide +kernel) (by decide +kernel)
theorem q_6 : (Jvm.Cond.selects "NetlistBench" ({ cls := "NetlistBench", name := "group", desc := "(I)V" } : Jvm.MethodName) ({ cls := "NetlistBench", name := "group", desc := "(I)V" } : Jvm.MethodName)) ∈ WG := WG_at 6 (by decide +kernel) (by decide +kernel)
theorem q_7 : (Jvm.Cond.selects "NetlistBench$Element" ({ cls := "NetlistBench$Element", name := "togglesBefore", desc := "(I)I" } : Jvm.MethodName) ({ cls := "NetlistBench$Element", name := "togglesBefore", desc := "(I)I" } : Jvm.MethodName)) ∈ WG := WG_at 7 (by decide +kernel) (by decide +kernel)
theorem q_8 : (Jvm.Cond.selects "NetlistBench" ({ cls := "NetlistBench", name := "join", desc := "(I)V" } : Jvm.MethodName) ({ cls := "NetlistBench", name := "join", desc := "(I)V" } : Jvm.MethodName)) ∈ WG := WG_at 8 (by decide +kernel) (by decide +kernel)
theorem q_9 : (Jvm.Cond.selects "NetlistBench" ({ cls := "NetlistBench", name := "isAfloat", desc := "(I)Z" } : Jvm.MethodName) ({ cls := "NetlistBench", name := "isAfloat", desc := "(I)Z" } : Jvm.MethodName)) ∈ WG := WG_at 9 (by decide +kernel) (by decide +kernel)
theorem q_10 : (Jvm.Cond.selects "NetlistBench" ({ cls := "NetlistBench", name := "conduct", desc := "(I)V" } : Jvm.MethodName) ({ cls := "NetlistBench", name := "conduct", desc := "(I)V" } : Jvm.MethodName)) ∈ WG := WG_at 10 (by decide +kernel) (by decide +kernel)
theorem q_11 : (Jvm.Cond.selects "NetlistBench$Equations" ({ cls := "NetlistBench$Equations", name := "linkOneWay", desc := "(IIJ)V" } : Jvm.MethodName) ({ cls := "NetlistBench$Equations", name := "linkOneWay", desc := "(IIJ)V" } : Jvm.MethodName)) ∈ WG := WG_at 11 (by decide +kernel) (by decide +kernel)
theorem q_12 : (Jvm.Cond.selects "NetlistBench$Equations" ({ cls := "NetlistBench$Equations", name := "allColumns", desc := "()I" } : Jvm.MethodName) ({ cls := "NetlistBench$Equations", name := "allColumns", desc := "()I" } : Jvm.MethodName)) ∈ WG := WG_at 12 (by decide +kernel) (by decide +kernel)
theorem q_13 : (Jvm.Cond.selects "NetlistBench$Equations" ({ cls := "NetlistBench$Equations", name := "expand", desc := "(I)J" } : Jvm.MethodName) ({ cls := "NetlistBench$Equations", name := "expand", desc := "(I)J" } : Jvm.MethodName)) ∈ WG := WG_at 13 (by decide +kernel) (by decide +kernel)
theorem q_14 : (Jvm.Cond.selects "NetlistBench" ({ cls := "NetlistBench", name := "firstToggleBehind", desc := "(I)I" } : Jvm.MethodName) ({ cls := "NetlistBench", name := "firstToggleBehind", desc := "(I)I" } : Jvm.MethodName)) ∈ WG := WG_at 14 (by decide +kernel) (by decide +kernel)
theorem q_15 : (Jvm.Cond.selects "java/lang/Throwable" ({ cls := "java/lang/Throwable", name := "fillInStackTrace", desc := "(I)Ljava/lang/Throwable;" } : Jvm.MethodName) ({ cls := "java/lang/Throwable", name := "fillInStackTrace", desc := "(I)Ljava/lang/Throwable;" } : Jvm.MethodName)) ∈ WG := WG_at 15 (by decide +kernel) (by decide +kernel)
theorem q_16 : (Jvm.Cond.selects "java/util/ArrayList" ({ cls := "java/util/ArrayList", name := "add", desc := "(Ljava/lang/Object;[Ljava/lang/Object;I)V" } : Jvm.MethodName) ({ cls := "java/util/ArrayList", name := "add", desc := "(Ljava/lang/Object;[Ljava/lang/Object;I)V" } : Jvm.MethodName)) ∈ WG := WG_at 16 (by decide +kernel) (by decide +kernel)
theorem q_17 : (Jvm.Cond.selects "java/util/ArrayList" ({ cls := "java/util/ArrayList", name := "grow", desc := "()[Ljava/lang/Object;" } : Jvm.MethodName) ({ cls := "java/util/ArrayList", name := "grow", desc := "()[Ljava/lang/Object;" } : Jvm.MethodName)) ∈ WG := WG_at 17 (by decide +kernel) (by decide +kernel)
theorem q_18 : (Jvm.Cond.selects "java/util/ArrayList" ({ cls := "java/util/ArrayList", name := "grow", desc := "(I)[Ljava/lang/Object;" } : Jvm.MethodName) ({ cls := "java/util/ArrayList", name := "grow", desc := "(I)[Ljava/lang/Object;" } : Jvm.MethodName)) ∈ WG := WG_at 18 (by decide +kernel) (by decide +kernel)
theorem q_19 : (Jvm.Cond.selects "NetlistBench" ({ cls := "NetlistBench", name := "checkNode", desc := "(I)V" } : Jvm.MethodName) ({ cls := "NetlistBench", name := "checkNode", desc := "(I)V" } : Jvm.MethodName)) ∈ WG := WG_at 19 (by decide +kernel) (by decide +kernel)
theorem q_20 : (Jvm.Cond.selects "NetlistBench" ({ cls := "NetlistBench", name := "checkElement", desc := "(I)V" } : Jvm.MethodName) ({ cls := "NetlistBench", name := "checkElement", desc := "(I)V" } : Jvm.MethodName)) ∈ WG := WG_at 20 (by decide +kernel) (by decide +kernel)
theorem q_21 : (Jvm.Cond.selects "NetlistBench" ({ cls := "NetlistBench", name := "checkGrounded", desc := "(I)V" } : Jvm.MethodName) ({ cls := "NetlistBench", name := "checkGrounded", desc := "(I)V" } : Jvm.MethodName)) ∈ WG := WG_at 21 (by decide +kernel) (by decide +kernel)
theorem q_22 : (Jvm.Cond.selects "NetlistBench" ({ cls := "NetlistBench", name := "flowOut", desc := "(LNetlistBench$Element;I)J" } : Jvm.MethodName) ({ cls := "NetlistBench", name := "flowOut", desc := "(LNetlistBench$Element;I)J" } : Jvm.MethodName)) ∈ WG := WG_at 22 (by decide +kernel) (by decide +kernel)
theorem q_23 : (Jvm.Cond.selects "NetlistBench" ({ cls := "NetlistBench", name := "drive", desc := "(III)V" } : Jvm.MethodName) ({ cls := "NetlistBench", name := "drive", desc := "(III)V" } : Jvm.MethodName)) ∈ WG := WG_at 23 (by decide +kernel) (by decide +kernel)
theorem q_24 : (Jvm.Cond.selects "NetlistBench" ({ cls := "NetlistBench", name := "quotientAt", desc := "(I)D" } : Jvm.MethodName) ({ cls := "NetlistBench", name := "quotientAt", desc := "(I)D" } : Jvm.MethodName)) ∈ WG := WG_at 24 (by decide +kernel) (by decide +kernel)
theorem q_25 : (Jvm.Cond.selects "NetlistBench" ({ cls := "NetlistBench", name := "isFirstOfLevel", desc := "(I)Z" } : Jvm.MethodName) ({ cls := "NetlistBench", name := "isFirstOfLevel", desc := "(I)Z" } : Jvm.MethodName)) ∈ WG := WG_at 25 (by decide +kernel) (by decide +kernel)
theorem q_26 : (Jvm.Cond.selects "NetlistBenchModel" ({ cls := "NetlistBenchModel", name := "fail", desc := "(I)I" } : Jvm.MethodName) ({ cls := "NetlistBenchModel", name := "fail", desc := "(I)I" } : Jvm.MethodName)) ∈ WG := WG_at 26 (by decide +kernel) (by decide +kernel)
theorem q_27 : (Jvm.Cond.selects "NetlistBenchModel" ({ cls := "NetlistBenchModel", name := "isNode", desc := "(I)Z" } : Jvm.MethodName) ({ cls := "NetlistBenchModel", name := "isNode", desc := "(I)Z" } : Jvm.MethodName)) ∈ WG := WG_at 27 (by decide +kernel) (by decide +kernel)
theorem q_28 : (Jvm.Cond.selects "NetlistBenchModel" ({ cls := "NetlistBenchModel", name := "isElement", desc := "(I)Z" } : Jvm.MethodName) ({ cls := "NetlistBenchModel", name := "isElement", desc := "(I)Z" } : Jvm.MethodName)) ∈ WG := WG_at 28 (by decide +kernel) (by decide +kernel)
theorem q_29 : (Jvm.Cond.selects "NetlistBenchModel" ({ cls := "NetlistBenchModel", name := "counted", desc := "(I)I" } : Jvm.MethodName) ({ cls := "NetlistBenchModel", name := "counted", desc := "(I)I" } : Jvm.MethodName)) ∈ WG := WG_at 29 (by decide +kernel) (by decide +kernel)
theorem q_30 : (Jvm.Cond.selects "NetlistBenchModel" ({ cls := "NetlistBenchModel", name := "elementTold", desc := "(II)I" } : Jvm.MethodName) ({ cls := "NetlistBenchModel", name := "elementTold", desc := "(II)I" } : Jvm.MethodName)) ∈ WG := WG_at 30 (by decide +kernel) (by decide +kernel)
theorem q_31 : (Jvm.Cond.selects "NetlistBenchModel" ({ cls := "NetlistBenchModel", name := "isOnAt", desc := "(II)Z" } : Jvm.MethodName) ({ cls := "NetlistBenchModel", name := "isOnAt", desc := "(II)Z" } : Jvm.MethodName)) ∈ WG := WG_at 31 (by decide +kernel) (by decide +kernel)
theorem q_32 : (Jvm.Cond.selects "NetlistBenchModel" ({ cls := "NetlistBenchModel", name := "group", desc := "(II)I" } : Jvm.MethodName) ({ cls := "NetlistBenchModel", name := "group", desc := "(II)I" } : Jvm.MethodName)) ∈ WG := WG_at 32 (by decide +kernel) (by decide +kernel)
theorem q_33 : (Jvm.Cond.selects "NetlistBenchModel" ({ cls := "NetlistBenchModel", name := "conducts", desc := "(II)Z" } : Jvm.MethodName) ({ cls := "NetlistBenchModel", name := "conducts", desc := "(II)Z" } : Jvm.MethodName)) ∈ WG := WG_at 33 (by decide +kernel) (by decide +kernel)
theorem q_34 : (Jvm.Cond.selects "NetlistBenchModel" ({ cls := "NetlistBenchModel", name := "floatsAt", desc := "(II)Z" } : Jvm.MethodName) ({ cls := "NetlistBenchModel", name := "floatsAt", desc := "(II)Z" } : Jvm.MethodName)) ∈ WG := WG_at 34 (by decide +kernel) (by decide +kernel)
theorem q_35 : (Jvm.Cond.selects "NetlistBenchModel" ({ cls := "NetlistBenchModel", name := "solve", desc := "(I)V" } : Jvm.MethodName) ({ cls := "NetlistBenchModel", name := "solve", desc := "(I)V" } : Jvm.MethodName)) ∈ WG := WG_at 35 (by decide +kernel) (by decide +kernel)
theorem q_36 : (Jvm.Cond.selects "NetlistBenchModel" ({ cls := "NetlistBenchModel", name := "clear", desc := "()V" } : Jvm.MethodName) ({ cls := "NetlistBenchModel", name := "clear", desc := "()V" } : Jvm.MethodName)) ∈ WG := WG_at 36 (by decide +kernel) (by decide +kernel)
theorem q_37 : (Jvm.Cond.selects "NetlistBenchModel" ({ cls := "NetlistBenchModel", name := "lay", desc := "(III)V" } : Jvm.MethodName) ({ cls := "NetlistBenchModel", name := "lay", desc := "(III)V" } : Jvm.MethodName)) ∈ WG := WG_at 37 (by decide +kernel) (by decide +kernel)
theorem q_38 : (Jvm.Cond.selects "NetlistBenchModel" ({ cls := "NetlistBenchModel", name := "determinant", desc := "(I)J" } : Jvm.MethodName) ({ cls := "NetlistBenchModel", name := "determinant", desc := "(I)J" } : Jvm.MethodName)) ∈ WG := WG_at 38 (by decide +kernel) (by decide +kernel)
theorem q_39 : (Jvm.Cond.selects "NetlistBenchModel" ({ cls := "NetlistBenchModel", name := "potentialOf", desc := "(I)D" } : Jvm.MethodName) ({ cls := "NetlistBenchModel", name := "potentialOf", desc := "(I)D" } : Jvm.MethodName)) ∈ WG := WG_at 39 (by decide +kernel) (by decide +kernel)
theorem q_40 : (Jvm.Cond.selects "NetlistBenchModel" ({ cls := "NetlistBenchModel", name := "toggleBehind", desc := "(I)I" } : Jvm.MethodName) ({ cls := "NetlistBenchModel", name := "toggleBehind", desc := "(I)I" } : Jvm.MethodName)) ∈ WG := WG_at 40 (by decide +kernel) (by decide +kernel)
theorem q_41 : (Jvm.Cond.selects "NetlistBenchModel" ({ cls := "NetlistBenchModel", name := "into", desc := "(JI)J" } : Jvm.MethodName) ({ cls := "NetlistBenchModel", name := "into", desc := "(JI)J" } : Jvm.MethodName)) ∈ WG := WG_at 41 (by decide +kernel) (by decide +kernel)
theorem q_42 : (Jvm.Cond.initialized "NetlistBenchLaw") ∈ WG := WG_at 42 (by decide +kernel) (by decide +kernel)
theorem q_43 : (Jvm.Cond.initialized "NetlistBench") ∈ WG := WG_at 43 (by decide +kernel) (by decide +kernel)
theorem q_44 : (Jvm.Cond.initialized "java/util/AbstractCollection") ∈ WG := WG_at 44 (by decide +kernel) (by decide +kernel)
theorem q_45 : (Jvm.Cond.initialized "java/util/AbstractList") ∈ WG := WG_at 45 (by decide +kernel) (by decide +kernel)
theorem q_46 : (Jvm.Cond.initialized "java/util/ArrayList") ∈ WG := WG_at 46 (by decide +kernel) (by decide +kernel)
theorem q_47 : (Jvm.Cond.initialized "NetlistBench$Equations") ∈ WG := WG_at 47 (by decide +kernel) (by decide +kernel)
theorem q_48 : (Jvm.Cond.initialized "NetlistBenchModel") ∈ WG := WG_at 48 (by decide +kernel) (by decide +kernel)
theorem q_49 : (Jvm.Cond.initialized "java/lang/Throwable") ∈ WG := WG_at 49 (by decide +kernel) (by decide +kernel)
theorem q_50 : (Jvm.Cond.initialized "java/lang/Exception") ∈ WG := WG_at 50 (by decide +kernel) (by decide +kernel)
theorem q_51 : (Jvm.Cond.initialized "java/lang/RuntimeException") ∈ WG := WG_at 51 (by decide +kernel) (by decide +kernel)
theorem q_52 : (Jvm.Cond.initialized "java/lang/IllegalStateException") ∈ WG := WG_at 52 (by decide +kernel) (by decide +kernel)
theorem q_53 : (Jvm.Cond.initialized "NetlistBench$Node") ∈ WG := WG_at 53 (by decide +kernel) (by decide +kernel)
theorem q_54 : (Jvm.Cond.initialized "jdk/internal/util/ArraysSupport") ∈ WG := WG_at 54 (by decide +kernel) (by decide +kernel)
theorem q_55 : (Jvm.Cond.initialized "java/lang/Math") ∈ WG := WG_at 55 (by decide +kernel) (by decide +kernel)
theorem q_56 : (Jvm.Cond.initialized "java/util/Arrays") ∈ WG := WG_at 56 (by decide +kernel) (by decide +kernel)
theorem q_57 : (Jvm.Cond.initialized "java/lang/System") ∈ WG := WG_at 57 (by decide +kernel) (by decide +kernel)
theorem q_58 : (Jvm.Cond.initialized "java/lang/IndexOutOfBoundsException") ∈ WG := WG_at 58 (by decide +kernel) (by decide +kernel)
theorem q_59 : (Jvm.Cond.initialized "java/lang/IllegalArgumentException") ∈ WG := WG_at 59 (by decide +kernel) (by decide +kernel)
theorem q_60 : (Jvm.Cond.initialized "java/util/Objects") ∈ WG := WG_at 60 (by decide +kernel) (by decide +kernel)
theorem q_61 : (Jvm.Cond.initialized "jdk/internal/util/Preconditions") ∈ WG := WG_at 61 (by decide +kernel) (by decide +kernel)
theorem q_62 : (Jvm.Cond.initialized "NetlistBench$Element") ∈ WG := WG_at 62 (by decide +kernel) (by decide +kernel)
theorem q_63 : (Jvm.Cond.initialized "java/lang/Integer") ∈ WG := WG_at 63 (by decide +kernel) (by decide +kernel)
theorem q_64 : (Jvm.Cond.initialized "java/lang/Long") ∈ WG := WG_at 64 (by decide +kernel) (by decide +kernel)
theorem q_65 : (Jvm.Cond.classLink "NetlistBenchLaw" (8 : Nat) "NetlistBench") ∈ WG := WG_at 65 (by decide +kernel) (by decide +kernel)
theorem q_66 : (Jvm.Cond.instantiable "NetlistBench" (4 : Nat)) ∈ WG := WG_at 66 (by decide +kernel) (by decide +kernel)
theorem q_67 : (Jvm.Cond.methodLink "NetlistBenchLaw" (90 : Nat) ({ cls := "NetlistBench", name := "<init>", desc := "()V" } : Jvm.MethodName)) ∈ WG := WG_at 67 (by decide +kernel) (by decide +kernel)
theorem q_68 : (Jvm.Cond.instanceMethod ({ cls := "NetlistBench", name := "<init>", desc := "()V" } : Jvm.MethodName)) ∈ WG := WG_at 68 (by decide +kernel) (by decide +kernel)
theorem q_69 : (Jvm.Cond.code ({ cls := "NetlistBench", name := "<init>", desc := "()V" } : Jvm.MethodName) prog_1_method_1_code (1 : Nat) (Option.none : Option Jvm.ClassFile.FieldType)) ∈ WG := WG_at 69 (by decide +kernel) (by decide +kernel)
theorem q_70 : (Jvm.Cond.methodLink "NetlistBench" (3 : Nat) ({ cls := "java/lang/Object", name := "<init>", desc := "()V" } : Jvm.MethodName)) ∈ WG := WG_at 70 (by decide +kernel) (by decide +kernel)
theorem q_71 : (Jvm.Cond.instanceMethod ({ cls := "java/lang/Object", name := "<init>", desc := "()V" } : Jvm.MethodName)) ∈ WG := WG_at 71 (by decide +kernel) (by decide +kernel)
theorem q_72 : (Jvm.Cond.code ({ cls := "java/lang/Object", name := "<init>", desc := "()V" } : Jvm.MethodName) object_method_1_code (1 : Nat) (Option.none : Option Jvm.ClassFile.FieldType)) ∈ WG := WG_at 72 (by decide +kernel) (by decide +kernel)
theorem q_73 : (Jvm.Cond.classLink "NetlistBench" (9 : Nat) "java/util/ArrayList") ∈ WG := WG_at 73 (by decide +kernel) (by decide +kernel)
theorem q_74 : (Jvm.Cond.instantiable "java/util/ArrayList" (3 : Nat)) ∈ WG := WG_at 74 (by decide +kernel) (by decide +kernel)
theorem q_75 : (Jvm.Cond.methodLink "NetlistBench" (11 : Nat) ({ cls := "java/util/ArrayList", name := "<init>", desc := "()V" } : Jvm.MethodName)) ∈ WG := WG_at 75 (by decide +kernel) (by decide +kernel)
theorem q_76 : (Jvm.Cond.instanceMethod ({ cls := "java/util/ArrayList", name := "<init>", desc := "()V" } : Jvm.MethodName)) ∈ WG := WG_at 76 (by decide +kernel) (by decide +kernel)
theorem q_77 : (Jvm.Cond.code ({ cls := "java/util/ArrayList", name := "<init>", desc := "()V" } : Jvm.MethodName) prog_23_method_2_code (1 : Nat) (Option.none : Option Jvm.ClassFile.FieldType)) ∈ WG := WG_at 77 (by decide +kernel) (by decide +kernel)
theorem q_78 : (Jvm.Cond.methodLink "java/util/ArrayList" (1 : Nat) ({ cls := "java/util/AbstractList", name := "<init>", desc := "()V" } : Jvm.MethodName)) ∈ WG := WG_at 78 (by decide +kernel) (by decide +kernel)
theorem q_79 : (Jvm.Cond.instanceMethod ({ cls := "java/util/AbstractList", name := "<init>", desc := "()V" } : Jvm.MethodName)) ∈ WG := WG_at 79 (by decide +kernel) (by decide +kernel)
theorem q_80 : (Jvm.Cond.code ({ cls := "java/util/AbstractList", name := "<init>", desc := "()V" } : Jvm.MethodName) prog_22_method_1_code (1 : Nat) (Option.none : Option Jvm.ClassFile.FieldType)) ∈ WG := WG_at 80 (by decide +kernel) (by decide +kernel)
theorem q_81 : (Jvm.Cond.methodLink "java/util/AbstractList" (1 : Nat) ({ cls := "java/util/AbstractCollection", name := "<init>", desc := "()V" } : Jvm.MethodName)) ∈ WG := WG_at 81 (by decide +kernel) (by decide +kernel)
theorem q_82 : (Jvm.Cond.instanceMethod ({ cls := "java/util/AbstractCollection", name := "<init>", desc := "()V" } : Jvm.MethodName)) ∈ WG := WG_at 82 (by decide +kernel) (by decide +kernel)
theorem q_83 : (Jvm.Cond.code ({ cls := "java/util/AbstractCollection", name := "<init>", desc := "()V" } : Jvm.MethodName) prog_21_method_1_code (1 : Nat) (Option.none : Option Jvm.ClassFile.FieldType)) ∈ WG := WG_at 83 (by decide +kernel) (by decide +kernel)
theorem q_84 : (Jvm.Cond.methodLink "java/util/AbstractCollection" (1 : Nat) ({ cls := "java/lang/Object", name := "<init>", desc := "()V" } : Jvm.MethodName)) ∈ WG := WG_at 84 (by decide +kernel) (by decide +kernel)
theorem q_85 : (Jvm.Cond.fieldLink "java/util/ArrayList" (39 : Nat) "java/util/ArrayList" "DEFAULTCAPACITY_EMPTY_ELEMENTDATA" "[Ljava/lang/Object;") ∈ WG := WG_at 85 (by decide +kernel) (by decide +kernel)
theorem q_86 : (Jvm.Cond.laysStatic "java/util/ArrayList" "DEFAULTCAPACITY_EMPTY_ELEMENTDATA" "[Ljava/lang/Object;") ∈ lw_tbl := lw_bad 86 (by decide +kernel)
theorem q_87 : (Jvm.Cond.fieldLink "java/util/ArrayList" (9 : Nat) "java/util/ArrayList" "elementData" "[Ljava/lang/Object;") ∈ WG := WG_at 87 (by decide +kernel) (by decide +kernel)
theorem q_88 : (Jvm.Cond.fieldLink "java/util/ArrayList" (48 : Nat) "java/util/ArrayList" "size" "I") ∈ WG := WG_at 88 (by decide +kernel) (by decide +kernel)
theorem q_89 : (Jvm.Cond.fieldLink "java/util/AbstractList" (7 : Nat) "java/util/AbstractList" "modCount" "I") ∈ WG := WG_at 89 (by decide +kernel) (by decide +kernel)
theorem q_90 : (Jvm.Cond.fieldLink "java/util/ArrayList" (63 : Nat) "java/util/ArrayList" "modCount" "I") ∈ WG := WG_at 90 (by decide +kernel) (by decide +kernel)
theorem q_91 : (Jvm.Cond.sameField "java/util/ArrayList" "java/util/AbstractList" "modCount" "I") ∈ WG := WG_at 91 (by decide +kernel) (by decide +kernel)
theorem q_92 : (Jvm.Cond.lays "java/util/ArrayList" "java/util/ArrayList" "elementData" "[Ljava/lang/Object;") ∈ WG := WG_at 92 (by decide +kernel) (by decide +kernel)
theorem q_93 : (Jvm.Cond.soleField "java/util/ArrayList" "elementData") ∈ WG := WG_at 93 (by decide +kernel) (by decide +kernel)
theorem q_94 : (Jvm.Cond.lays "java/util/ArrayList" "java/util/ArrayList" "size" "I") ∈ WG := WG_at 94 (by decide +kernel) (by decide +kernel)
theorem q_95 : (Jvm.Cond.soleField "java/util/ArrayList" "size") ∈ WG := WG_at 95 (by decide +kernel) (by decide +kernel)
theorem q_96 : (Jvm.Cond.lays "java/util/ArrayList" "java/util/AbstractList" "modCount" "I") ∈ WG := WG_at 96 (by decide +kernel) (by decide +kernel)
theorem q_97 : (Jvm.Cond.soleField "java/util/AbstractList" "modCount") ∈ WG := WG_at 97 (by decide +kernel) (by decide +kernel)
theorem q_98 : (Jvm.Cond.superclass "java/util/ArrayList" "java/util/AbstractList") ∈ WG := WG_at 98 (by decide +kernel) (by decide +kernel)
theorem q_99 : (Jvm.Cond.classLink "NetlistBench" (23 : Nat) "NetlistBench$Equations") ∈ WG := WG_at 99 (by decide +kernel) (by decide +kernel)
theorem q_100 : (Jvm.Cond.instantiable "NetlistBench$Equations" (5 : Nat)) ∈ WG := WG_at 100 (by decide +kernel) (by decide +kernel)
theorem q_101 : (Jvm.Cond.methodLinkNest "NetlistBench" (25 : Nat) ({ cls := "NetlistBench$Equations", name := "<init>", desc := "()V" } : Jvm.MethodName) "NetlistBench") ∈ lw_tbl := lw_bad 101 (by decide +kernel)
theorem q_102 : (Jvm.Cond.instanceMethod ({ cls := "NetlistBench$Equations", name := "<init>", desc := "()V" } : Jvm.MethodName)) ∈ WG := WG_at 102 (by decide +kernel) (by decide +kernel)
theorem q_103 : (Jvm.Cond.code ({ cls := "NetlistBench$Equations", name := "<init>", desc := "()V" } : Jvm.MethodName) prog_3_method_1_code (1 : Nat) (Option.none : Option Jvm.ClassFile.FieldType)) ∈ WG := WG_at 103 (by decide +kernel) (by decide +kernel)
theorem q_104 : (Jvm.Cond.methodLink "NetlistBench$Equations" (3 : Nat) ({ cls := "java/lang/Object", name := "<init>", desc := "()V" } : Jvm.MethodName)) ∈ WG := WG_at 104 (by decide +kernel) (by decide +kernel)
theorem q_105 : (Jvm.Cond.classLink "NetlistBench$Equations" (19 : Nat) "[[J") ∈ WG := WG_at 105 (by decide +kernel) (by decide +kernel)
theorem q_106 : (Jvm.Cond.arrayOver (Jvm.ClassFile.FieldType.array Jvm.ClassFile.FieldType.long)) ∈ lw_tbl := lw_bad 106 (by decide +kernel)
theorem q_107 : (Jvm.Cond.fieldLink "NetlistBench$Equations" (9 : Nat) "NetlistBench$Equations" "places" "[I") ∈ WG := WG_at 107 (by decide +kernel) (by decide +kernel)
theorem q_108 : (Jvm.Cond.fieldLink "NetlistBench$Equations" (15 : Nat) "NetlistBench$Equations" "known" "[J") ∈ WG := WG_at 108 (by decide +kernel) (by decide +kernel)
theorem q_109 : (Jvm.Cond.fieldLink "NetlistBench$Equations" (21 : Nat) "NetlistBench$Equations" "rows" "[[J") ∈ WG := WG_at 109 (by decide +kernel) (by decide +kernel)
theorem q_110 : (Jvm.Cond.fieldLink "NetlistBench$Equations" (24 : Nat) "NetlistBench$Equations" "minors" "[J") ∈ WG := WG_at 110 (by decide +kernel) (by decide +kernel)
theorem q_111 : (Jvm.Cond.fieldLink "NetlistBench$Equations" (27 : Nat) "NetlistBench$Equations" "unknowns" "I") ∈ WG := WG_at 111 (by decide +kernel) (by decide +kernel)
theorem q_112 : (Jvm.Cond.laysFinal "NetlistBench$Equations" "NetlistBench$Equations" "places" "[I") ∈ WG := WG_at 112 (by decide +kernel) (by decide +kernel)
theorem q_113 : (Jvm.Cond.soleField "NetlistBench$Equations" "places") ∈ WG := WG_at 113 (by decide +kernel) (by decide +kernel)
theorem q_114 : (Jvm.Cond.laysFinal "NetlistBench$Equations" "NetlistBench$Equations" "known" "[J") ∈ WG := WG_at 114 (by decide +kernel) (by decide +kernel)
theorem q_115 : (Jvm.Cond.soleField "NetlistBench$Equations" "known") ∈ WG := WG_at 115 (by decide +kernel) (by decide +kernel)
theorem q_116 : (Jvm.Cond.laysFinal "NetlistBench$Equations" "NetlistBench$Equations" "rows" "[[J") ∈ WG := WG_at 116 (by decide +kernel) (by decide +kernel)
theorem q_117 : (Jvm.Cond.soleField "NetlistBench$Equations" "rows") ∈ WG := WG_at 117 (by decide +kernel) (by decide +kernel)
theorem q_118 : (Jvm.Cond.laysFinal "NetlistBench$Equations" "NetlistBench$Equations" "minors" "[J") ∈ WG := WG_at 118 (by decide +kernel) (by decide +kernel)
theorem q_119 : (Jvm.Cond.soleField "NetlistBench$Equations" "minors") ∈ WG := WG_at 119 (by decide +kernel) (by decide +kernel)
theorem q_120 : (Jvm.Cond.lays "NetlistBench$Equations" "NetlistBench$Equations" "unknowns" "I") ∈ WG := WG_at 120 (by decide +kernel) (by decide +kernel)
theorem q_121 : (Jvm.Cond.soleField "NetlistBench$Equations" "unknowns") ∈ WG := WG_at 121 (by decide +kernel) (by decide +kernel)
theorem q_122 : (Jvm.Cond.superclass "NetlistBench$Equations" "java/lang/Object") ∈ WG := WG_at 122 (by decide +kernel) (by decide +kernel)
theorem q_123 : (Jvm.Cond.arrayClass Jvm.ClassFile.FieldType.int) ∈ WG := WG_at 123 (by decide +kernel) (by decide +kernel)
theorem q_124 : (Jvm.Cond.arrayClass Jvm.ClassFile.FieldType.long) ∈ WG := WG_at 124 (by decide +kernel) (by decide +kernel)
theorem q_125 : (Jvm.Cond.fieldLink "NetlistBench" (12 : Nat) "NetlistBench" "nodes" "Ljava/util/ArrayList;") ∈ WG := WG_at 125 (by decide +kernel) (by decide +kernel)
theorem q_126 : (Jvm.Cond.fieldLink "NetlistBench" (16 : Nat) "NetlistBench" "elements" "Ljava/util/ArrayList;") ∈ WG := WG_at 126 (by decide +kernel) (by decide +kernel)
theorem q_127 : (Jvm.Cond.fieldLink "NetlistBench" (19 : Nat) "NetlistBench" "groups" "[I") ∈ WG := WG_at 127 (by decide +kernel) (by decide +kernel)
theorem q_128 : (Jvm.Cond.fieldLink "NetlistBench" (26 : Nat) "NetlistBench" "equations" "LNetlistBench$Equations;") ∈ WG := WG_at 128 (by decide +kernel) (by decide +kernel)
theorem q_129 : (Jvm.Cond.laysFinal "NetlistBench" "NetlistBench" "nodes" "Ljava/util/ArrayList;") ∈ WG := WG_at 129 (by decide +kernel) (by decide +kernel)
theorem q_130 : (Jvm.Cond.soleField "NetlistBench" "nodes") ∈ WG := WG_at 130 (by decide +kernel) (by decide +kernel)
theorem q_131 : (Jvm.Cond.laysFinal "NetlistBench" "NetlistBench" "elements" "Ljava/util/ArrayList;") ∈ WG := WG_at 131 (by decide +kernel) (by decide +kernel)
theorem q_132 : (Jvm.Cond.soleField "NetlistBench" "elements") ∈ WG := WG_at 132 (by decide +kernel) (by decide +kernel)
theorem q_133 : (Jvm.Cond.laysFinal "NetlistBench" "NetlistBench" "groups" "[I") ∈ WG := WG_at 133 (by decide +kernel) (by decide +kernel)
theorem q_134 : (Jvm.Cond.soleField "NetlistBench" "groups") ∈ WG := WG_at 134 (by decide +kernel) (by decide +kernel)
theorem q_135 : (Jvm.Cond.laysFinal "NetlistBench" "NetlistBench" "equations" "LNetlistBench$Equations;") ∈ WG := WG_at 135 (by decide +kernel) (by decide +kernel)
theorem q_136 : (Jvm.Cond.soleField "NetlistBench" "equations") ∈ WG := WG_at 136 (by decide +kernel) (by decide +kernel)
theorem q_137 : (Jvm.Cond.superclass "NetlistBench" "java/lang/Object") ∈ WG := WG_at 137 (by decide +kernel) (by decide +kernel)
theorem q_138 : (Jvm.Cond.methodLink "NetlistBenchLaw" (172 : Nat) ({ cls := "NetlistBench", name := "digest", desc := "()J" } : Jvm.MethodName)) ∈ WG := WG_at 138 (by decide +kernel) (by decide +kernel)
theorem q_139 : (Jvm.Cond.instanceMethod ({ cls := "NetlistBench", name := "digest", desc := "()J" } : Jvm.MethodName)) ∈ WG := WG_at 139 (by decide +kernel) (by decide +kernel)
theorem q_140 : (Jvm.Cond.selects "NetlistBench" ({ cls := "NetlistBench", name := "digest", desc := "()J" } : Jvm.MethodName) ({ cls := "NetlistBench", name := "digest", desc := "()J" } : Jvm.MethodName)) ∈ WG := WG_at 140 (by decide +kernel) (by decide +kernel)
theorem q_141 : (Jvm.Cond.code ({ cls := "NetlistBench", name := "digest", desc := "()J" } : Jvm.MethodName) prog_1_method_23_code (4 : Nat) (Option.some Jvm.ClassFile.FieldType.long)) ∈ WG := WG_at 141 (by decide +kernel) (by decide +kernel)
theorem q_142 : (Jvm.Cond.constantLong "NetlistBench" (199 : Nat) (409 : Int64)) ∈ WG := WG_at 142 (by decide +kernel) (by decide +kernel)
theorem q_143 : (Jvm.Cond.methodLink "NetlistBench" (201 : Nat) ({ cls := "NetlistBench", name := "digestCircuit", desc := "(J)J" } : Jvm.MethodName)) ∈ WG := WG_at 143 (by decide +kernel) (by decide +kernel)
theorem q_144 : (Jvm.Cond.privateMethod ({ cls := "NetlistBench", name := "digestCircuit", desc := "(J)J" } : Jvm.MethodName)) ∈ lw_tbl := lw_bad 144 (by decide +kernel)
theorem q_145 : (Jvm.Cond.instanceMethod ({ cls := "NetlistBench", name := "digestCircuit", desc := "(J)J" } : Jvm.MethodName)) ∈ WG := WG_at 145 (by decide +kernel) (by decide +kernel)
theorem q_146 : (Jvm.Cond.code ({ cls := "NetlistBench", name := "digestCircuit", desc := "(J)J" } : Jvm.MethodName) prog_1_method_43_code (6 : Nat) (Option.some Jvm.ClassFile.FieldType.long)) ∈ WG := WG_at 146 (by decide +kernel) (by decide +kernel)
theorem q_147 : (Jvm.Cond.methodLink "NetlistBench" (115 : Nat) ({ cls := "NetlistBench", name := "countOf", desc := "(I)I" } : Jvm.MethodName)) ∈ WG := WG_at 147 (by decide +kernel) (by decide +kernel)
theorem q_148 : (Jvm.Cond.privateMethod ({ cls := "NetlistBench", name := "countOf", desc := "(I)I" } : Jvm.MethodName)) ∈ lw_tbl := lw_bad 148 (by decide +kernel)
theorem q_149 : (Jvm.Cond.instanceMethod ({ cls := "NetlistBench", name := "countOf", desc := "(I)I" } : Jvm.MethodName)) ∈ WG := WG_at 149 (by decide +kernel) (by decide +kernel)
theorem q_150 : (Jvm.Cond.code ({ cls := "NetlistBench", name := "countOf", desc := "(I)I" } : Jvm.MethodName) prog_1_method_40_code (2 : Nat) (Option.some Jvm.ClassFile.FieldType.int)) ∈ WG := WG_at 150 (by decide +kernel) (by decide +kernel)
theorem q_151 : (Jvm.Cond.methodLink "NetlistBench" (30 : Nat) ({ cls := "java/util/ArrayList", name := "size", desc := "()I" } : Jvm.MethodName)) ∈ WG := WG_at 151 (by decide +kernel) (by decide +kernel)
theorem q_152 : (Jvm.Cond.instanceMethod ({ cls := "java/util/ArrayList", name := "size", desc := "()I" } : Jvm.MethodName)) ∈ WG := WG_at 152 (by decide +kernel) (by decide +kernel)
theorem q_153 : (Jvm.Cond.selects "java/util/ArrayList" ({ cls := "java/util/ArrayList", name := "size", desc := "()I" } : Jvm.MethodName) ({ cls := "java/util/ArrayList", name := "size", desc := "()I" } : Jvm.MethodName)) ∈ WG := WG_at 153 (by decide +kernel) (by decide +kernel)
theorem q_154 : (Jvm.Cond.code ({ cls := "java/util/ArrayList", name := "size", desc := "()I" } : Jvm.MethodName) prog_23_method_8_code (1 : Nat) (Option.some Jvm.ClassFile.FieldType.int)) ∈ WG := WG_at 154 (by decide +kernel) (by decide +kernel)
theorem q_155 : (Jvm.Cond.methodLink "NetlistBench" (248 : Nat) ({ cls := "NetlistBench", name := "countRails", desc := "()I" } : Jvm.MethodName)) ∈ WG := WG_at 155 (by decide +kernel) (by decide +kernel)
theorem q_156 : (Jvm.Cond.privateMethod ({ cls := "NetlistBench", name := "countRails", desc := "()I" } : Jvm.MethodName)) ∈ lw_tbl := lw_bad 156 (by decide +kernel)
theorem q_157 : (Jvm.Cond.instanceMethod ({ cls := "NetlistBench", name := "countRails", desc := "()I" } : Jvm.MethodName)) ∈ WG := WG_at 157 (by decide +kernel) (by decide +kernel)
theorem q_158 : (Jvm.Cond.code ({ cls := "NetlistBench", name := "countRails", desc := "()I" } : Jvm.MethodName) prog_1_method_41_code (3 : Nat) (Option.some Jvm.ClassFile.FieldType.int)) ∈ WG := WG_at 158 (by decide +kernel) (by decide +kernel)
theorem q_159 : (Jvm.Cond.methodLink "NetlistBench" (57 : Nat) ({ cls := "java/util/ArrayList", name := "get", desc := "(I)Ljava/lang/Object;" } : Jvm.MethodName)) ∈ WG := WG_at 159 (by decide +kernel) (by decide +kernel)
theorem q_160 : (Jvm.Cond.instanceMethod ({ cls := "java/util/ArrayList", name := "get", desc := "(I)Ljava/lang/Object;" } : Jvm.MethodName)) ∈ WG := WG_at 160 (by decide +kernel) (by decide +kernel)
theorem q_161 : (Jvm.Cond.selects "java/util/ArrayList" ({ cls := "java/util/ArrayList", name := "get", desc := "(I)Ljava/lang/Object;" } : Jvm.MethodName) ({ cls := "java/util/ArrayList", name := "get", desc := "(I)Ljava/lang/Object;" } : Jvm.MethodName)) ∈ WG := WG_at 161 (by decide +kernel) (by decide +kernel)
theorem q_162 : (Jvm.Cond.code ({ cls := "java/util/ArrayList", name := "get", desc := "(I)Ljava/lang/Object;" } : Jvm.MethodName) prog_23_method_20_code (2 : Nat) (Option.some (Jvm.ClassFile.FieldType.object "java/lang/Object"))) ∈ WG := WG_at 162 (by decide +kernel) (by decide +kernel)
theorem q_163 : (Jvm.Cond.methodLink "java/util/ArrayList" (118 : Nat) ({ cls := "java/util/Objects", name := "checkIndex", desc := "(II)I" } : Jvm.MethodName)) ∈ WG := WG_at 163 (by decide +kernel) (by decide +kernel)
theorem q_164 : (Jvm.Cond.static ({ cls := "java/util/Objects", name := "checkIndex", desc := "(II)I" } : Jvm.MethodName)) ∈ WG := WG_at 164 (by decide +kernel) (by decide +kernel)
theorem q_165 : (Jvm.Cond.code ({ cls := "java/util/Objects", name := "checkIndex", desc := "(II)I" } : Jvm.MethodName) prog_27_method_17_code (2 : Nat) (Option.some Jvm.ClassFile.FieldType.int)) ∈ WG := WG_at 165 (by decide +kernel) (by decide +kernel)
theorem q_166 : (Jvm.Cond.methodLink "java/util/Objects" (105 : Nat) ({ cls := "jdk/internal/util/Preconditions", name := "checkIndex", desc := "(IILjava/util/function/BiFunction;)I" } : Jvm.MethodName)) ∈ WG := WG_at 166 (by decide +kernel) (by decide +kernel)
theorem q_167 : (Jvm.Cond.static ({ cls := "jdk/internal/util/Preconditions", name := "checkIndex", desc := "(IILjava/util/function/BiFunction;)I" } : Jvm.MethodName)) ∈ WG := WG_at 167 (by decide +kernel) (by decide +kernel)
theorem q_168 : (Jvm.Cond.code ({ cls := "jdk/internal/util/Preconditions", name := "checkIndex", desc := "(IILjava/util/function/BiFunction;)I" } : Jvm.MethodName) prog_31_method_11_code (3 : Nat) (Option.some Jvm.ClassFile.FieldType.int)) ∈ WG := WG_at 168 (by decide +kernel) (by decide +kernel)
theorem q_169 : (Jvm.Cond.methodLink "java/util/ArrayList" (123 : Nat) ({ cls := "java/util/ArrayList", name := "elementData", desc := "(I)Ljava/lang/Object;" } : Jvm.MethodName)) ∈ WG := WG_at 169 (by decide +kernel) (by decide +kernel)
theorem q_170 : (Jvm.Cond.instanceMethod ({ cls := "java/util/ArrayList", name := "elementData", desc := "(I)Ljava/lang/Object;" } : Jvm.MethodName)) ∈ WG := WG_at 170 (by decide +kernel) (by decide +kernel)
theorem q_171 : (Jvm.Cond.selects "java/util/ArrayList" ({ cls := "java/util/ArrayList", name := "elementData", desc := "(I)Ljava/lang/Object;" } : Jvm.MethodName) ({ cls := "java/util/ArrayList", name := "elementData", desc := "(I)Ljava/lang/Object;" } : Jvm.MethodName)) ∈ WG := WG_at 171 (by decide +kernel) (by decide +kernel)
theorem q_172 : (Jvm.Cond.code ({ cls := "java/util/ArrayList", name := "elementData", desc := "(I)Ljava/lang/Object;" } : Jvm.MethodName) prog_23_method_18_code (2 : Nat) (Option.some (Jvm.ClassFile.FieldType.object "java/lang/Object"))) ∈ WG := WG_at 172 (by decide +kernel) (by decide +kernel)
theorem q_173 : (Jvm.Cond.classLink "NetlistBench" (41 : Nat) "NetlistBench$Node") ∈ WG := WG_at 173 (by decide +kernel) (by decide +kernel)
theorem q_174 : (Jvm.Cond.methodLink "NetlistBench" (251 : Nat) ({ cls := "NetlistBench", name := "countToggles", desc := "()I" } : Jvm.MethodName)) ∈ WG := WG_at 174 (by decide +kernel) (by decide +kernel)
theorem q_175 : (Jvm.Cond.privateMethod ({ cls := "NetlistBench", name := "countToggles", desc := "()I" } : Jvm.MethodName)) ∈ lw_tbl := lw_bad 175 (by decide +kernel)
theorem q_176 : (Jvm.Cond.instanceMethod ({ cls := "NetlistBench", name := "countToggles", desc := "()I" } : Jvm.MethodName)) ∈ WG := WG_at 176 (by decide +kernel) (by decide +kernel)
theorem q_177 : (Jvm.Cond.code ({ cls := "NetlistBench", name := "countToggles", desc := "()I" } : Jvm.MethodName) prog_1_method_42_code (3 : Nat) (Option.some Jvm.ClassFile.FieldType.int)) ∈ WG := WG_at 177 (by decide +kernel) (by decide +kernel)
theorem q_178 : (Jvm.Cond.classLink "NetlistBench" (77 : Nat) "NetlistBench$Element") ∈ WG := WG_at 178 (by decide +kernel) (by decide +kernel)
theorem q_179 : (Jvm.Cond.methodLink "NetlistBench" (254 : Nat) ({ cls := "NetlistBench", name := "digestOf", desc := "(JJ)J" } : Jvm.MethodName)) ∈ WG := WG_at 179 (by decide +kernel) (by decide +kernel)
theorem q_180 : (Jvm.Cond.static ({ cls := "NetlistBench", name := "digestOf", desc := "(JJ)J" } : Jvm.MethodName)) ∈ WG := WG_at 180 (by decide +kernel) (by decide +kernel)
theorem q_181 : (Jvm.Cond.code ({ cls := "NetlistBench", name := "digestOf", desc := "(JJ)J" } : Jvm.MethodName) prog_1_method_46_code (4 : Nat) (Option.some Jvm.ClassFile.FieldType.long)) ∈ WG := WG_at 181 (by decide +kernel) (by decide +kernel)
theorem q_182 : (Jvm.Cond.constantLong "NetlistBench" (264 : Nat) (31 : Int64)) ∈ WG := WG_at 182 (by decide +kernel) (by decide +kernel)
theorem q_183 : (Jvm.Cond.methodLink "NetlistBench" (258 : Nat) ({ cls := "NetlistBench", name := "digestElement", desc := "(JLNetlistBench$Element;)J" } : Jvm.MethodName)) ∈ WG := WG_at 183 (by decide +kernel) (by decide +kernel)
theorem q_184 : (Jvm.Cond.static ({ cls := "NetlistBench", name := "digestElement", desc := "(JLNetlistBench$Element;)J" } : Jvm.MethodName)) ∈ WG := WG_at 184 (by decide +kernel) (by decide +kernel)
theorem q_185 : (Jvm.Cond.code ({ cls := "NetlistBench", name := "digestElement", desc := "(JLNetlistBench$Element;)J" } : Jvm.MethodName) prog_1_method_44_code (6 : Nat) (Option.some Jvm.ClassFile.FieldType.long)) ∈ WG := WG_at 185 (by decide +kernel) (by decide +kernel)
theorem q_186 : (Jvm.Cond.methodLink "NetlistBench" (121 : Nat) ({ cls := "NetlistBench$Element", name := "trait", desc := "(I)I" } : Jvm.MethodName)) ∈ WG := WG_at 186 (by decide +kernel) (by decide +kernel)
theorem q_187 : (Jvm.Cond.instanceMethod ({ cls := "NetlistBench$Element", name := "trait", desc := "(I)I" } : Jvm.MethodName)) ∈ WG := WG_at 187 (by decide +kernel) (by decide +kernel)
theorem q_188 : (Jvm.Cond.selects "NetlistBench$Element" ({ cls := "NetlistBench$Element", name := "trait", desc := "(I)I" } : Jvm.MethodName) ({ cls := "NetlistBench$Element", name := "trait", desc := "(I)I" } : Jvm.MethodName)) ∈ WG := WG_at 188 (by decide +kernel) (by decide +kernel)
theorem q_189 : (Jvm.Cond.code ({ cls := "NetlistBench$Element", name := "trait", desc := "(I)I" } : Jvm.MethodName) prog_2_method_8_code (2 : Nat) (Option.some Jvm.ClassFile.FieldType.int)) ∈ WG := WG_at 189 (by decide +kernel) (by decide +kernel)
theorem q_190 : (Jvm.Cond.methodLink "NetlistBench" (126 : Nat) ({ cls := "NetlistBench$Element", name := "toggleTime", desc := "(I)I" } : Jvm.MethodName)) ∈ WG := WG_at 190 (by decide +kernel) (by decide +kernel)
theorem q_191 : (Jvm.Cond.instanceMethod ({ cls := "NetlistBench$Element", name := "toggleTime", desc := "(I)I" } : Jvm.MethodName)) ∈ WG := WG_at 191 (by decide +kernel) (by decide +kernel)
theorem q_192 : (Jvm.Cond.selects "NetlistBench$Element" ({ cls := "NetlistBench$Element", name := "toggleTime", desc := "(I)I" } : Jvm.MethodName) ({ cls := "NetlistBench$Element", name := "toggleTime", desc := "(I)I" } : Jvm.MethodName)) ∈ WG := WG_at 192 (by decide +kernel) (by decide +kernel)
theorem q_193 : (Jvm.Cond.code ({ cls := "NetlistBench$Element", name := "toggleTime", desc := "(I)I" } : Jvm.MethodName) prog_2_method_4_code (2 : Nat) (Option.some Jvm.ClassFile.FieldType.int)) ∈ WG := WG_at 193 (by decide +kernel) (by decide +kernel)
theorem q_194 : (Jvm.Cond.methodLink "NetlistBench" (205 : Nat) ({ cls := "NetlistBench", name := "digestPotentials", desc := "(JI)J" } : Jvm.MethodName)) ∈ WG := WG_at 194 (by decide +kernel) (by decide +kernel)
theorem q_195 : (Jvm.Cond.privateMethod ({ cls := "NetlistBench", name := "digestPotentials", desc := "(JI)J" } : Jvm.MethodName)) ∈ lw_tbl := lw_bad 195 (by decide +kernel)
theorem q_196 : (Jvm.Cond.instanceMethod ({ cls := "NetlistBench", name := "digestPotentials", desc := "(JI)J" } : Jvm.MethodName)) ∈ WG := WG_at 196 (by decide +kernel) (by decide +kernel)
theorem q_197 : (Jvm.Cond.code ({ cls := "NetlistBench", name := "digestPotentials", desc := "(JI)J" } : Jvm.MethodName) prog_1_method_45_code (7 : Nat) (Option.some Jvm.ClassFile.FieldType.long)) ∈ WG := WG_at 197 (by decide +kernel) (by decide +kernel)
theorem q_198 : (Jvm.Cond.methodLink "NetlistBench" (141 : Nat) ({ cls := "NetlistBench", name := "settle", desc := "(I)V" } : Jvm.MethodName)) ∈ WG := WG_at 198 (by decide +kernel) (by decide +kernel)
theorem q_199 : (Jvm.Cond.privateMethod ({ cls := "NetlistBench", name := "settle", desc := "(I)V" } : Jvm.MethodName)) ∈ lw_tbl := lw_bad 199 (by decide +kernel)
theorem q_200 : (Jvm.Cond.instanceMethod ({ cls := "NetlistBench", name := "settle", desc := "(I)V" } : Jvm.MethodName)) ∈ WG := WG_at 200 (by decide +kernel) (by decide +kernel)
theorem q_201 : (Jvm.Cond.code ({ cls := "NetlistBench", name := "settle", desc := "(I)V" } : Jvm.MethodName) prog_1_method_33_code (4 : Nat) (Option.none : Option Jvm.ClassFile.FieldType)) ∈ WG := WG_at 201 (by decide +kernel) (by decide +kernel)
theorem q_202 : (Jvm.Cond.methodLink "NetlistBench" (135 : Nat) ({ cls := "NetlistBench", name := "group", desc := "(I)V" } : Jvm.MethodName)) ∈ WG := WG_at 202 (by decide +kernel) (by decide +kernel)
theorem q_203 : (Jvm.Cond.privateMethod ({ cls := "NetlistBench", name := "group", desc := "(I)V" } : Jvm.MethodName)) ∈ lw_tbl := lw_bad 203 (by decide +kernel)
theorem q_204 : (Jvm.Cond.instanceMethod ({ cls := "NetlistBench", name := "group", desc := "(I)V" } : Jvm.MethodName)) ∈ WG := WG_at 204 (by decide +kernel) (by decide +kernel)
theorem q_205 : (Jvm.Cond.code ({ cls := "NetlistBench", name := "group", desc := "(I)V" } : Jvm.MethodName) prog_1_method_29_code (4 : Nat) (Option.none : Option Jvm.ClassFile.FieldType)) ∈ WG := WG_at 205 (by decide +kernel) (by decide +kernel)
theorem q_206 : (Jvm.Cond.methodLink "NetlistBench" (132 : Nat) ({ cls := "NetlistBench$Element", name := "runsAt", desc := "(I)Z" } : Jvm.MethodName)) ∈ WG := WG_at 206 (by decide +kernel) (by decide +kernel)
theorem q_207 : (Jvm.Cond.instanceMethod ({ cls := "NetlistBench$Element", name := "runsAt", desc := "(I)Z" } : Jvm.MethodName)) ∈ WG := WG_at 207 (by decide +kernel) (by decide +kernel)
theorem q_208 : (Jvm.Cond.selects "NetlistBench$Element" ({ cls := "NetlistBench$Element", name := "runsAt", desc := "(I)Z" } : Jvm.MethodName) ({ cls := "NetlistBench$Element", name := "runsAt", desc := "(I)Z" } : Jvm.MethodName)) ∈ WG := WG_at 208 (by decide +kernel) (by decide +kernel)
theorem q_209 : (Jvm.Cond.code ({ cls := "NetlistBench$Element", name := "runsAt", desc := "(I)Z" } : Jvm.MethodName) prog_2_method_2_code (2 : Nat) (Option.some Jvm.ClassFile.FieldType.boolean)) ∈ WG := WG_at 209 (by decide +kernel) (by decide +kernel)
theorem q_210 : (Jvm.Cond.methodLink "NetlistBench$Element" (35 : Nat) ({ cls := "NetlistBench$Element", name := "togglesBefore", desc := "(I)I" } : Jvm.MethodName)) ∈ WG := WG_at 210 (by decide +kernel) (by decide +kernel)
theorem q_211 : (Jvm.Cond.privateMethod ({ cls := "NetlistBench$Element", name := "togglesBefore", desc := "(I)I" } : Jvm.MethodName)) ∈ lw_tbl := lw_bad 211 (by decide +kernel)
theorem q_212 : (Jvm.Cond.instanceMethod ({ cls := "NetlistBench$Element", name := "togglesBefore", desc := "(I)I" } : Jvm.MethodName)) ∈ WG := WG_at 212 (by decide +kernel) (by decide +kernel)
theorem q_213 : (Jvm.Cond.instantiable "NetlistBench$Element" (7 : Nat)) ∈ WG := WG_at 213 (by decide +kernel) (by decide +kernel)
theorem q_214 : (Jvm.Cond.code ({ cls := "NetlistBench$Element", name := "togglesBefore", desc := "(I)I" } : Jvm.MethodName) prog_2_method_9_code (4 : Nat) (Option.some Jvm.ClassFile.FieldType.int)) ∈ WG := WG_at 214 (by decide +kernel) (by decide +kernel)
theorem q_215 : (Jvm.Cond.methodLink "NetlistBench" (219 : Nat) ({ cls := "NetlistBench", name := "join", desc := "(I)V" } : Jvm.MethodName)) ∈ WG := WG_at 215 (by decide +kernel) (by decide +kernel)
theorem q_216 : (Jvm.Cond.privateMethod ({ cls := "NetlistBench", name := "join", desc := "(I)V" } : Jvm.MethodName)) ∈ lw_tbl := lw_bad 216 (by decide +kernel)
theorem q_217 : (Jvm.Cond.instanceMethod ({ cls := "NetlistBench", name := "join", desc := "(I)V" } : Jvm.MethodName)) ∈ WG := WG_at 217 (by decide +kernel) (by decide +kernel)
theorem q_218 : (Jvm.Cond.code ({ cls := "NetlistBench", name := "join", desc := "(I)V" } : Jvm.MethodName) prog_1_method_30_code (3 : Nat) (Option.none : Option Jvm.ClassFile.FieldType)) ∈ WG := WG_at 218 (by decide +kernel) (by decide +kernel)
theorem q_219 : (Jvm.Cond.methodLink "NetlistBench" (168 : Nat) ({ cls := "NetlistBench", name := "contains", desc := "(II)Z" } : Jvm.MethodName)) ∈ WG := WG_at 219 (by decide +kernel) (by decide +kernel)
theorem q_220 : (Jvm.Cond.static ({ cls := "NetlistBench", name := "contains", desc := "(II)Z" } : Jvm.MethodName)) ∈ WG := WG_at 220 (by decide +kernel) (by decide +kernel)
theorem q_221 : (Jvm.Cond.code ({ cls := "NetlistBench", name := "contains", desc := "(II)Z" } : Jvm.MethodName) prog_1_method_32_code (2 : Nat) (Option.some Jvm.ClassFile.FieldType.boolean)) ∈ WG := WG_at 221 (by decide +kernel) (by decide +kernel)
theorem q_222 : (Jvm.Cond.methodLink "NetlistBench" (222 : Nat) ({ cls := "NetlistBench$Equations", name := "clear", desc := "()V" } : Jvm.MethodName)) ∈ WG := WG_at 222 (by decide +kernel) (by decide +kernel)
theorem q_223 : (Jvm.Cond.instanceMethod ({ cls := "NetlistBench$Equations", name := "clear", desc := "()V" } : Jvm.MethodName)) ∈ WG := WG_at 223 (by decide +kernel) (by decide +kernel)
theorem q_224 : (Jvm.Cond.selects "NetlistBench$Equations" ({ cls := "NetlistBench$Equations", name := "clear", desc := "()V" } : Jvm.MethodName) ({ cls := "NetlistBench$Equations", name := "clear", desc := "()V" } : Jvm.MethodName)) ∈ WG := WG_at 224 (by decide +kernel) (by decide +kernel)
theorem q_225 : (Jvm.Cond.code ({ cls := "NetlistBench$Equations", name := "clear", desc := "()V" } : Jvm.MethodName) prog_3_method_2_code (3 : Nat) (Option.none : Option Jvm.ClassFile.FieldType)) ∈ WG := WG_at 225 (by decide +kernel) (by decide +kernel)
theorem q_226 : (Jvm.Cond.methodLink "NetlistBench" (225 : Nat) ({ cls := "NetlistBench$Equations", name := "fix", desc := "(IJ)V" } : Jvm.MethodName)) ∈ WG := WG_at 226 (by decide +kernel) (by decide +kernel)
theorem q_227 : (Jvm.Cond.instanceMethod ({ cls := "NetlistBench$Equations", name := "fix", desc := "(IJ)V" } : Jvm.MethodName)) ∈ WG := WG_at 227 (by decide +kernel) (by decide +kernel)
theorem q_228 : (Jvm.Cond.selects "NetlistBench$Equations" ({ cls := "NetlistBench$Equations", name := "fix", desc := "(IJ)V" } : Jvm.MethodName) ({ cls := "NetlistBench$Equations", name := "fix", desc := "(IJ)V" } : Jvm.MethodName)) ∈ WG := WG_at 228 (by decide +kernel) (by decide +kernel)
theorem q_229 : (Jvm.Cond.code ({ cls := "NetlistBench$Equations", name := "fix", desc := "(IJ)V" } : Jvm.MethodName) prog_3_method_3_code (4 : Nat) (Option.none : Option Jvm.ClassFile.FieldType)) ∈ WG := WG_at 229 (by decide +kernel) (by decide +kernel)
theorem q_230 : (Jvm.Cond.methodLink "NetlistBench" (138 : Nat) ({ cls := "NetlistBench", name := "isAfloat", desc := "(I)Z" } : Jvm.MethodName)) ∈ WG := WG_at 230 (by decide +kernel) (by decide +kernel)
theorem q_231 : (Jvm.Cond.privateMethod ({ cls := "NetlistBench", name := "isAfloat", desc := "(I)Z" } : Jvm.MethodName)) ∈ lw_tbl := lw_bad 231 (by decide +kernel)
theorem q_232 : (Jvm.Cond.instanceMethod ({ cls := "NetlistBench", name := "isAfloat", desc := "(I)Z" } : Jvm.MethodName)) ∈ WG := WG_at 232 (by decide +kernel) (by decide +kernel)
theorem q_233 : (Jvm.Cond.code ({ cls := "NetlistBench", name := "isAfloat", desc := "(I)Z" } : Jvm.MethodName) prog_1_method_31_code (3 : Nat) (Option.some Jvm.ClassFile.FieldType.boolean)) ∈ WG := WG_at 233 (by decide +kernel) (by decide +kernel)
theorem q_234 : (Jvm.Cond.methodLink "NetlistBench" (229 : Nat) ({ cls := "NetlistBench$Equations", name := "seek", desc := "(I)V" } : Jvm.MethodName)) ∈ WG := WG_at 234 (by decide +kernel) (by decide +kernel)
theorem q_235 : (Jvm.Cond.instanceMethod ({ cls := "NetlistBench$Equations", name := "seek", desc := "(I)V" } : Jvm.MethodName)) ∈ WG := WG_at 235 (by decide +kernel) (by decide +kernel)
theorem q_236 : (Jvm.Cond.selects "NetlistBench$Equations" ({ cls := "NetlistBench$Equations", name := "seek", desc := "(I)V" } : Jvm.MethodName) ({ cls := "NetlistBench$Equations", name := "seek", desc := "(I)V" } : Jvm.MethodName)) ∈ WG := WG_at 236 (by decide +kernel) (by decide +kernel)
theorem q_237 : (Jvm.Cond.code ({ cls := "NetlistBench$Equations", name := "seek", desc := "(I)V" } : Jvm.MethodName) prog_3_method_4_code (2 : Nat) (Option.none : Option Jvm.ClassFile.FieldType)) ∈ WG := WG_at 237 (by decide +kernel) (by decide +kernel)
theorem q_238 : (Jvm.Cond.methodLink "NetlistBench" (232 : Nat) ({ cls := "NetlistBench$Equations", name := "bring", desc := "(IJ)V" } : Jvm.MethodName)) ∈ WG := WG_at 238 (by decide +kernel) (by decide +kernel)
theorem q_239 : (Jvm.Cond.instanceMethod ({ cls := "NetlistBench$Equations", name := "bring", desc := "(IJ)V" } : Jvm.MethodName)) ∈ WG := WG_at 239 (by decide +kernel) (by decide +kernel)
theorem q_240 : (Jvm.Cond.selects "NetlistBench$Equations" ({ cls := "NetlistBench$Equations", name := "bring", desc := "(IJ)V" } : Jvm.MethodName) ({ cls := "NetlistBench$Equations", name := "bring", desc := "(IJ)V" } : Jvm.MethodName)) ∈ WG := WG_at 240 (by decide +kernel) (by decide +kernel)
theorem q_241 : (Jvm.Cond.code ({ cls := "NetlistBench$Equations", name := "bring", desc := "(IJ)V" } : Jvm.MethodName) prog_3_method_5_code (5 : Nat) (Option.none : Option Jvm.ClassFile.FieldType)) ∈ WG := WG_at 241 (by decide +kernel) (by decide +kernel)
theorem q_242 : (Jvm.Cond.methodLink "NetlistBench" (235 : Nat) ({ cls := "NetlistBench", name := "conduct", desc := "(I)V" } : Jvm.MethodName)) ∈ WG := WG_at 242 (by decide +kernel) (by decide +kernel)
theorem q_243 : (Jvm.Cond.privateMethod ({ cls := "NetlistBench", name := "conduct", desc := "(I)V" } : Jvm.MethodName)) ∈ lw_tbl := lw_bad 243 (by decide +kernel)
theorem q_244 : (Jvm.Cond.instanceMethod ({ cls := "NetlistBench", name := "conduct", desc := "(I)V" } : Jvm.MethodName)) ∈ WG := WG_at 244 (by decide +kernel) (by decide +kernel)
theorem q_245 : (Jvm.Cond.code ({ cls := "NetlistBench", name := "conduct", desc := "(I)V" } : Jvm.MethodName) prog_1_method_35_code (4 : Nat) (Option.none : Option Jvm.ClassFile.FieldType)) ∈ WG := WG_at 245 (by decide +kernel) (by decide +kernel)
theorem q_246 : (Jvm.Cond.methodLink "NetlistBench" (241 : Nat) ({ cls := "NetlistBench$Equations", name := "link", desc := "(IIJ)V" } : Jvm.MethodName)) ∈ WG := WG_at 246 (by decide +kernel) (by decide +kernel)
theorem q_247 : (Jvm.Cond.instanceMethod ({ cls := "NetlistBench$Equations", name := "link", desc := "(IIJ)V" } : Jvm.MethodName)) ∈ WG := WG_at 247 (by decide +kernel) (by decide +kernel)
theorem q_248 : (Jvm.Cond.selects "NetlistBench$Equations" ({ cls := "NetlistBench$Equations", name := "link", desc := "(IIJ)V" } : Jvm.MethodName) ({ cls := "NetlistBench$Equations", name := "link", desc := "(IIJ)V" } : Jvm.MethodName)) ∈ WG := WG_at 248 (by decide +kernel) (by decide +kernel)
theorem q_249 : (Jvm.Cond.code ({ cls := "NetlistBench$Equations", name := "link", desc := "(IIJ)V" } : Jvm.MethodName) prog_3_method_6_code (5 : Nat) (Option.none : Option Jvm.ClassFile.FieldType)) ∈ WG := WG_at 249 (by decide +kernel) (by decide +kernel)
theorem q_250 : (Jvm.Cond.methodLink "NetlistBench$Equations" (31 : Nat) ({ cls := "NetlistBench$Equations", name := "linkOneWay", desc := "(IIJ)V" } : Jvm.MethodName)) ∈ WG := WG_at 250 (by decide +kernel) (by decide +kernel)
theorem q_251 : (Jvm.Cond.privateMethod ({ cls := "NetlistBench$Equations", name := "linkOneWay", desc := "(IIJ)V" } : Jvm.MethodName)) ∈ lw_tbl := lw_bad 251 (by decide +kernel)
theorem q_252 : (Jvm.Cond.instanceMethod ({ cls := "NetlistBench$Equations", name := "linkOneWay", desc := "(IIJ)V" } : Jvm.MethodName)) ∈ WG := WG_at 252 (by decide +kernel) (by decide +kernel)
theorem q_253 : (Jvm.Cond.code ({ cls := "NetlistBench$Equations", name := "linkOneWay", desc := "(IIJ)V" } : Jvm.MethodName) prog_3_method_7_code (7 : Nat) (Option.none : Option Jvm.ClassFile.FieldType)) ∈ WG := WG_at 253 (by decide +kernel) (by decide +kernel)
theorem q_254 : (Jvm.Cond.methodLink "NetlistBench" (238 : Nat) ({ cls := "NetlistBench$Equations", name := "solve", desc := "()V" } : Jvm.MethodName)) ∈ WG := WG_at 254 (by decide +kernel) (by decide +kernel)
theorem q_255 : (Jvm.Cond.instanceMethod ({ cls := "NetlistBench$Equations", name := "solve", desc := "()V" } : Jvm.MethodName)) ∈ WG := WG_at 255 (by decide +kernel) (by decide +kernel)
theorem q_256 : (Jvm.Cond.selects "NetlistBench$Equations" ({ cls := "NetlistBench$Equations", name := "solve", desc := "()V" } : Jvm.MethodName) ({ cls := "NetlistBench$Equations", name := "solve", desc := "()V" } : Jvm.MethodName)) ∈ WG := WG_at 256 (by decide +kernel) (by decide +kernel)
theorem q_257 : (Jvm.Cond.code ({ cls := "NetlistBench$Equations", name := "solve", desc := "()V" } : Jvm.MethodName) prog_3_method_8_code (2 : Nat) (Option.none : Option Jvm.ClassFile.FieldType)) ∈ WG := WG_at 257 (by decide +kernel) (by decide +kernel)
theorem q_258 : (Jvm.Cond.methodLink "NetlistBench$Equations" (35 : Nat) ({ cls := "NetlistBench$Equations", name := "allColumns", desc := "()I" } : Jvm.MethodName)) ∈ WG := WG_at 258 (by decide +kernel) (by decide +kernel)
theorem q_259 : (Jvm.Cond.privateMethod ({ cls := "NetlistBench$Equations", name := "allColumns", desc := "()I" } : Jvm.MethodName)) ∈ lw_tbl := lw_bad 259 (by decide +kernel)
theorem q_260 : (Jvm.Cond.instanceMethod ({ cls := "NetlistBench$Equations", name := "allColumns", desc := "()I" } : Jvm.MethodName)) ∈ WG := WG_at 260 (by decide +kernel) (by decide +kernel)
theorem q_261 : (Jvm.Cond.code ({ cls := "NetlistBench$Equations", name := "allColumns", desc := "()I" } : Jvm.MethodName) prog_3_method_12_code (1 : Nat) (Option.some Jvm.ClassFile.FieldType.int)) ∈ WG := WG_at 261 (by decide +kernel) (by decide +kernel)
theorem q_262 : (Jvm.Cond.methodLink "NetlistBench$Equations" (39 : Nat) ({ cls := "NetlistBench$Equations", name := "expand", desc := "(I)J" } : Jvm.MethodName)) ∈ WG := WG_at 262 (by decide +kernel) (by decide +kernel)
theorem q_263 : (Jvm.Cond.privateMethod ({ cls := "NetlistBench$Equations", name := "expand", desc := "(I)J" } : Jvm.MethodName)) ∈ lw_tbl := lw_bad 263 (by decide +kernel)
theorem q_264 : (Jvm.Cond.instanceMethod ({ cls := "NetlistBench$Equations", name := "expand", desc := "(I)J" } : Jvm.MethodName)) ∈ WG := WG_at 264 (by decide +kernel) (by decide +kernel)
theorem q_265 : (Jvm.Cond.code ({ cls := "NetlistBench$Equations", name := "expand", desc := "(I)J" } : Jvm.MethodName) prog_3_method_9_code (7 : Nat) (Option.some Jvm.ClassFile.FieldType.long)) ∈ WG := WG_at 265 (by decide +kernel) (by decide +kernel)
theorem q_266 : (Jvm.Cond.methodLink "NetlistBench$Equations" (43 : Nat) ({ cls := "java/lang/Integer", name := "bitCount", desc := "(I)I" } : Jvm.MethodName)) ∈ WG := WG_at 266 (by decide +kernel) (by decide +kernel)
theorem q_267 : (Jvm.Cond.static ({ cls := "java/lang/Integer", name := "bitCount", desc := "(I)I" } : Jvm.MethodName)) ∈ WG := WG_at 267 (by decide +kernel) (by decide +kernel)
theorem q_268 : (Jvm.Cond.code ({ cls := "java/lang/Integer", name := "bitCount", desc := "(I)I" } : Jvm.MethodName) prog_13_method_49_code (1 : Nat) (Option.some Jvm.ClassFile.FieldType.int)) ∈ WG := WG_at 268 (by decide +kernel) (by decide +kernel)
theorem q_269 : (Jvm.Cond.constant "java/lang/Integer" (265 : Nat) (1431655765 : Int32)) ∈ WG := WG_at 269 (by decide +kernel) (by decide +kernel)
theorem q_270 : (Jvm.Cond.constant "java/lang/Integer" (266 : Nat) (858993459 : Int32)) ∈ WG := WG_at 270 (by decide +kernel) (by decide +kernel)
theorem q_271 : (Jvm.Cond.constant "java/lang/Integer" (267 : Nat) (252645135 : Int32)) ∈ WG := WG_at 271 (by decide +kernel) (by decide +kernel)
theorem q_272 : (Jvm.Cond.methodLinkNest "NetlistBench$Equations" (49 : Nat) ({ cls := "NetlistBench", name := "contains", desc := "(II)Z" } : Jvm.MethodName) "NetlistBench") ∈ lw_tbl := lw_bad 272 (by decide +kernel)
theorem q_273 : (Jvm.Cond.constantLong "NetlistBench" (262 : Nat) (-1 : Int64)) ∈ WG := WG_at 273 (by decide +kernel) (by decide +kernel)
theorem q_274 : (Jvm.Cond.methodLink "NetlistBench" (147 : Nat) ({ cls := "NetlistBench$Equations", name := "upper", desc := "(I)J" } : Jvm.MethodName)) ∈ WG := WG_at 274 (by decide +kernel) (by decide +kernel)
theorem q_275 : (Jvm.Cond.instanceMethod ({ cls := "NetlistBench$Equations", name := "upper", desc := "(I)J" } : Jvm.MethodName)) ∈ WG := WG_at 275 (by decide +kernel) (by decide +kernel)
theorem q_276 : (Jvm.Cond.selects "NetlistBench$Equations" ({ cls := "NetlistBench$Equations", name := "upper", desc := "(I)J" } : Jvm.MethodName) ({ cls := "NetlistBench$Equations", name := "upper", desc := "(I)J" } : Jvm.MethodName)) ∈ WG := WG_at 276 (by decide +kernel) (by decide +kernel)
theorem q_277 : (Jvm.Cond.code ({ cls := "NetlistBench$Equations", name := "upper", desc := "(I)J" } : Jvm.MethodName) prog_3_method_11_code (5 : Nat) (Option.some Jvm.ClassFile.FieldType.long)) ∈ WG := WG_at 277 (by decide +kernel) (by decide +kernel)
theorem q_278 : (Jvm.Cond.methodLink "NetlistBench$Equations" (53 : Nat) ({ cls := "NetlistBench$Equations", name := "lower", desc := "()J" } : Jvm.MethodName)) ∈ WG := WG_at 278 (by decide +kernel) (by decide +kernel)
theorem q_279 : (Jvm.Cond.instanceMethod ({ cls := "NetlistBench$Equations", name := "lower", desc := "()J" } : Jvm.MethodName)) ∈ WG := WG_at 279 (by decide +kernel) (by decide +kernel)
theorem q_280 : (Jvm.Cond.selects "NetlistBench$Equations" ({ cls := "NetlistBench$Equations", name := "lower", desc := "()J" } : Jvm.MethodName) ({ cls := "NetlistBench$Equations", name := "lower", desc := "()J" } : Jvm.MethodName)) ∈ WG := WG_at 280 (by decide +kernel) (by decide +kernel)
theorem q_281 : (Jvm.Cond.code ({ cls := "NetlistBench$Equations", name := "lower", desc := "()J" } : Jvm.MethodName) prog_3_method_10_code (1 : Nat) (Option.some Jvm.ClassFile.FieldType.long)) ∈ WG := WG_at 281 (by decide +kernel) (by decide +kernel)
theorem q_282 : (Jvm.Cond.methodLink "NetlistBench" (151 : Nat) ({ cls := "NetlistBench$Equations", name := "lower", desc := "()J" } : Jvm.MethodName)) ∈ WG := WG_at 282 (by decide +kernel) (by decide +kernel)
theorem q_283 : (Jvm.Cond.methodLink "NetlistBench" (155 : Nat) ({ cls := "NetlistBench", name := "partOf", desc := "(JJZ)J" } : Jvm.MethodName)) ∈ WG := WG_at 283 (by decide +kernel) (by decide +kernel)
theorem q_284 : (Jvm.Cond.static ({ cls := "NetlistBench", name := "partOf", desc := "(JJZ)J" } : Jvm.MethodName)) ∈ WG := WG_at 284 (by decide +kernel) (by decide +kernel)
theorem q_285 : (Jvm.Cond.code ({ cls := "NetlistBench", name := "partOf", desc := "(JJZ)J" } : Jvm.MethodName) prog_1_method_47_code (9 : Nat) (Option.some Jvm.ClassFile.FieldType.long)) ∈ WG := WG_at 285 (by decide +kernel) (by decide +kernel)
theorem q_286 : (Jvm.Cond.methodLink "NetlistBench" (266 : Nat) ({ cls := "java/lang/Math", name := "abs", desc := "(J)J" } : Jvm.MethodName)) ∈ WG := WG_at 286 (by decide +kernel) (by decide +kernel)
theorem q_287 : (Jvm.Cond.static ({ cls := "java/lang/Math", name := "abs", desc := "(J)J" } : Jvm.MethodName)) ∈ WG := WG_at 287 (by decide +kernel) (by decide +kernel)
theorem q_288 : (Jvm.Cond.code ({ cls := "java/lang/Math", name := "abs", desc := "(J)J" } : Jvm.MethodName) prog_16_method_61_code (2 : Nat) (Option.some Jvm.ClassFile.FieldType.long)) ∈ WG := WG_at 288 (by decide +kernel) (by decide +kernel)
theorem q_289 : (Jvm.Cond.methodLink "NetlistBench" (271 : Nat) ({ cls := "NetlistBench", name := "commonDivisor", desc := "(JJ)J" } : Jvm.MethodName)) ∈ WG := WG_at 289 (by decide +kernel) (by decide +kernel)
theorem q_290 : (Jvm.Cond.static ({ cls := "NetlistBench", name := "commonDivisor", desc := "(JJ)J" } : Jvm.MethodName)) ∈ WG := WG_at 290 (by decide +kernel) (by decide +kernel)
theorem q_291 : (Jvm.Cond.code ({ cls := "NetlistBench", name := "commonDivisor", desc := "(JJ)J" } : Jvm.MethodName) prog_1_method_48_code (11 : Nat) (Option.some Jvm.ClassFile.FieldType.long)) ∈ WG := WG_at 291 (by decide +kernel) (by decide +kernel)
theorem q_292 : (Jvm.Cond.methodLink "NetlistBench" (185 : Nat) ({ cls := "NetlistBench", name := "firstToggleBehind", desc := "(I)I" } : Jvm.MethodName)) ∈ WG := WG_at 292 (by decide +kernel) (by decide +kernel)
theorem q_293 : (Jvm.Cond.privateMethod ({ cls := "NetlistBench", name := "firstToggleBehind", desc := "(I)I" } : Jvm.MethodName)) ∈ lw_tbl := lw_bad 293 (by decide +kernel)
theorem q_294 : (Jvm.Cond.instanceMethod ({ cls := "NetlistBench", name := "firstToggleBehind", desc := "(I)I" } : Jvm.MethodName)) ∈ WG := WG_at 294 (by decide +kernel) (by decide +kernel)
theorem q_295 : (Jvm.Cond.code ({ cls := "NetlistBench", name := "firstToggleBehind", desc := "(I)I" } : Jvm.MethodName) prog_1_method_39_code (5 : Nat) (Option.some Jvm.ClassFile.FieldType.int)) ∈ WG := WG_at 295 (by decide +kernel) (by decide +kernel)
theorem q_296 : (Jvm.Cond.methodLink "NetlistBench" (245 : Nat) ({ cls := "NetlistBench$Element", name := "toggleBehind", desc := "(I)I" } : Jvm.MethodName)) ∈ WG := WG_at 296 (by decide +kernel) (by decide +kernel)
theorem q_297 : (Jvm.Cond.instanceMethod ({ cls := "NetlistBench$Element", name := "toggleBehind", desc := "(I)I" } : Jvm.MethodName)) ∈ WG := WG_at 297 (by decide +kernel) (by decide +kernel)
theorem q_298 : (Jvm.Cond.selects "NetlistBench$Element" ({ cls := "NetlistBench$Element", name := "toggleBehind", desc := "(I)I" } : Jvm.MethodName) ({ cls := "NetlistBench$Element", name := "toggleBehind", desc := "(I)I" } : Jvm.MethodName)) ∈ WG := WG_at 298 (by decide +kernel) (by decide +kernel)
theorem q_299 : (Jvm.Cond.code ({ cls := "NetlistBench$Element", name := "toggleBehind", desc := "(I)I" } : Jvm.MethodName) prog_2_method_5_code (2 : Nat) (Option.some Jvm.ClassFile.FieldType.int)) ∈ WG := WG_at 299 (by decide +kernel) (by decide +kernel)
theorem q_300 : (Jvm.Cond.methodLink "NetlistBench$Element" (39 : Nat) ({ cls := "NetlistBench$Element", name := "toggleTime", desc := "(I)I" } : Jvm.MethodName)) ∈ WG := WG_at 300 (by decide +kernel) (by decide +kernel)
theorem q_301 : (Jvm.Cond.methodLink "NetlistBenchLaw" (94 : Nat) ({ cls := "NetlistBenchLaw", name := "addNode", desc := "(LNetlistBench;[J)I" } : Jvm.MethodName)) ∈ WG := WG_at 301 (by decide +kernel) (by decide +kernel)
theorem q_302 : (Jvm.Cond.static ({ cls := "NetlistBenchLaw", name := "addNode", desc := "(LNetlistBench;[J)I" } : Jvm.MethodName)) ∈ WG := WG_at 302 (by decide +kernel) (by decide +kernel)
theorem q_303 : (Jvm.Cond.codeWith ({ cls := "NetlistBenchLaw", name := "addNode", desc := "(LNetlistBench;[J)I" } : Jvm.MethodName) method_3_code (3 : Nat) (Option.some Jvm.ClassFile.FieldType.int) [((0 : Nat), (8 : Nat), (11 : Nat), (13 : Nat))]) ∈ WG := WG_at 303 (by decide +kernel) (by decide +kernel)
theorem q_304 : (Jvm.Cond.classLink "NetlistBenchLaw" (13 : Nat) "java/lang/IllegalStateException") ∈ WG := WG_at 304 (by decide +kernel) (by decide +kernel)
theorem q_305 : (Jvm.Cond.methodLink "NetlistBenchLaw" (7 : Nat) ({ cls := "NetlistBench", name := "addNode", desc := "()I" } : Jvm.MethodName)) ∈ WG := WG_at 305 (by decide +kernel) (by decide +kernel)
theorem q_306 : (Jvm.Cond.instanceMethod ({ cls := "NetlistBench", name := "addNode", desc := "()I" } : Jvm.MethodName)) ∈ WG := WG_at 306 (by decide +kernel) (by decide +kernel)
theorem q_307 : (Jvm.Cond.selects "NetlistBench" ({ cls := "NetlistBench", name := "addNode", desc := "()I" } : Jvm.MethodName) ({ cls := "NetlistBench", name := "addNode", desc := "()I" } : Jvm.MethodName)) ∈ WG := WG_at 307 (by decide +kernel) (by decide +kernel)
theorem q_308 : (Jvm.Cond.code ({ cls := "NetlistBench", name := "addNode", desc := "()I" } : Jvm.MethodName) prog_1_method_2_code (2 : Nat) (Option.some Jvm.ClassFile.FieldType.int)) ∈ WG := WG_at 308 (by decide +kernel) (by decide +kernel)
theorem q_309 : (Jvm.Cond.classLink "NetlistBench" (34 : Nat) "java/lang/IllegalStateException") ∈ WG := WG_at 309 (by decide +kernel) (by decide +kernel)
theorem q_310 : (Jvm.Cond.instantiable "java/lang/IllegalStateException" (6 : Nat)) ∈ WG := WG_at 310 (by decide +kernel) (by decide +kernel)
theorem q_311 : (Jvm.Cond.castable "java/lang/IllegalStateException" "java/lang/IllegalStateException") ∈ lw_tbl := lw_bad 311 (by decide +kernel)
theorem q_312 : (Jvm.Cond.declares ({ cls := "java/lang/RuntimeException", name := "<init>", desc := "()V" } : Jvm.MethodName)) ∈ lw_tbl := lw_bad 312 (by decide +kernel)
theorem q_313 : (Jvm.Cond.declares ({ cls := "java/lang/RuntimeException", name := "<init>", desc := "(Ljava/lang/String;)V" } : Jvm.MethodName)) ∈ lw_tbl := lw_bad 313 (by decide +kernel)
theorem q_314 : (Jvm.Cond.declares ({ cls := "java/lang/Exception", name := "<init>", desc := "()V" } : Jvm.MethodName)) ∈ lw_tbl := lw_bad 314 (by decide +kernel)
theorem q_315 : (Jvm.Cond.declares ({ cls := "java/lang/Exception", name := "<init>", desc := "(Ljava/lang/String;)V" } : Jvm.MethodName)) ∈ lw_tbl := lw_bad 315 (by decide +kernel)
theorem q_316 : (Jvm.Cond.declares ({ cls := "java/lang/Throwable", name := "<init>", desc := "()V" } : Jvm.MethodName)) ∈ lw_tbl := lw_bad 316 (by decide +kernel)
theorem q_317 : (Jvm.Cond.declares ({ cls := "java/lang/Throwable", name := "<init>", desc := "(Ljava/lang/String;)V" } : Jvm.MethodName)) ∈ lw_tbl := lw_bad 317 (by decide +kernel)
theorem q_318 : (Jvm.Cond.selects "java/lang/IllegalStateException" ({ cls := "java/lang/Throwable", name := "fillInStackTrace", desc := "(I)Ljava/lang/Throwable;" } : Jvm.MethodName) ({ cls := "java/lang/Throwable", name := "fillInStackTrace", desc := "(I)Ljava/lang/Throwable;" } : Jvm.MethodName)) ∈ WG := WG_at 318 (by decide +kernel) (by decide +kernel)
theorem q_319 : (Jvm.Cond.selects "java/lang/IllegalStateException" ({ cls := "java/lang/Throwable", name := "fillInStackTrace", desc := "()Ljava/lang/Throwable;" } : Jvm.MethodName) ({ cls := "java/lang/Throwable", name := "fillInStackTrace", desc := "()Ljava/lang/Throwable;" } : Jvm.MethodName)) ∈ WG := WG_at 319 (by decide +kernel) (by decide +kernel)
theorem q_320 : (Jvm.Cond.lays "java/lang/IllegalStateException" "java/lang/Throwable" "cause" "Ljava/lang/Throwable;") ∈ WG := WG_at 320 (by decide +kernel) (by decide +kernel)
theorem q_321 : (Jvm.Cond.lays "java/lang/Throwable" "java/lang/Throwable" "cause" "Ljava/lang/Throwable;") ∈ WG := WG_at 321 (by decide +kernel) (by decide +kernel)
theorem q_322 : (Jvm.Cond.lays "java/lang/IllegalStateException" "java/lang/Throwable" "stackTrace" "[Ljava/lang/StackTraceElement;") ∈ WG := WG_at 322 (by decide +kernel) (by decide +kernel)
theorem q_323 : (Jvm.Cond.lays "java/lang/Throwable" "java/lang/Throwable" "stackTrace" "[Ljava/lang/StackTraceElement;") ∈ WG := WG_at 323 (by decide +kernel) (by decide +kernel)
theorem q_324 : (Jvm.Cond.lays "java/lang/IllegalStateException" "java/lang/Throwable" "suppressedExceptions" "Ljava/util/List;") ∈ WG := WG_at 324 (by decide +kernel) (by decide +kernel)
theorem q_325 : (Jvm.Cond.lays "java/lang/Throwable" "java/lang/Throwable" "suppressedExceptions" "Ljava/util/List;") ∈ WG := WG_at 325 (by decide +kernel) (by decide +kernel)
theorem q_326 : (Jvm.Cond.lays "java/lang/IllegalStateException" "java/lang/Throwable" "detailMessage" "Ljava/lang/String;") ∈ WG := WG_at 326 (by decide +kernel) (by decide +kernel)
theorem q_327 : (Jvm.Cond.lays "java/lang/Throwable" "java/lang/Throwable" "detailMessage" "Ljava/lang/String;") ∈ WG := WG_at 327 (by decide +kernel) (by decide +kernel)
theorem q_328 : (Jvm.Cond.lays "java/lang/IllegalStateException" "java/lang/Throwable" "backtrace" "Ljava/lang/Object;") ∈ WG := WG_at 328 (by decide +kernel) (by decide +kernel)
theorem q_329 : (Jvm.Cond.lays "java/lang/Throwable" "java/lang/Throwable" "backtrace" "Ljava/lang/Object;") ∈ WG := WG_at 329 (by decide +kernel) (by decide +kernel)
theorem q_330 : (Jvm.Cond.fieldLink "java/lang/Throwable" (198 : Nat) "java/lang/Throwable" "backtrace" "Ljava/lang/Object;") ∈ WG := WG_at 330 (by decide +kernel) (by decide +kernel)
theorem q_331 : (Jvm.Cond.superclass "java/lang/Throwable" "java/lang/Object") ∈ WG := WG_at 331 (by decide +kernel) (by decide +kernel)
theorem q_332 : (Jvm.Cond.instanceMethod ({ cls := "java/lang/Throwable", name := "<init>", desc := "()V" } : Jvm.MethodName)) ∈ WG := WG_at 332 (by decide +kernel) (by decide +kernel)
theorem q_333 : (Jvm.Cond.code ({ cls := "java/lang/Throwable", name := "<init>", desc := "()V" } : Jvm.MethodName) prog_20_method_1_code (1 : Nat) (Option.none : Option Jvm.ClassFile.FieldType)) ∈ WG := WG_at 333 (by decide +kernel) (by decide +kernel)
theorem q_334 : (Jvm.Cond.methodLink "java/lang/Throwable" (1 : Nat) ({ cls := "java/lang/Object", name := "<init>", desc := "()V" } : Jvm.MethodName)) ∈ WG := WG_at 334 (by decide +kernel) (by decide +kernel)
theorem q_335 : (Jvm.Cond.fieldLink "java/lang/Throwable" (13 : Nat) "java/lang/Throwable" "UNASSIGNED_STACK" "[Ljava/lang/StackTraceElement;") ∈ WG := WG_at 335 (by decide +kernel) (by decide +kernel)
theorem q_336 : (Jvm.Cond.laysStatic "java/lang/Throwable" "UNASSIGNED_STACK" "[Ljava/lang/StackTraceElement;") ∈ lw_tbl := lw_bad 336 (by decide +kernel)
theorem q_337 : (Jvm.Cond.fieldLink "java/lang/Throwable" (20 : Nat) "java/lang/Throwable" "SUPPRESSED_SENTINEL" "Ljava/util/List;") ∈ WG := WG_at 337 (by decide +kernel) (by decide +kernel)
theorem q_338 : (Jvm.Cond.laysStatic "java/lang/Throwable" "SUPPRESSED_SENTINEL" "Ljava/util/List;") ∈ lw_tbl := lw_bad 338 (by decide +kernel)
theorem q_339 : (Jvm.Cond.methodLink "java/lang/Throwable" (27 : Nat) ({ cls := "java/lang/Throwable", name := "fillInStackTrace", desc := "()Ljava/lang/Throwable;" } : Jvm.MethodName)) ∈ WG := WG_at 339 (by decide +kernel) (by decide +kernel)
theorem q_340 : (Jvm.Cond.instanceMethod ({ cls := "java/lang/Throwable", name := "fillInStackTrace", desc := "()Ljava/lang/Throwable;" } : Jvm.MethodName)) ∈ WG := WG_at 340 (by decide +kernel) (by decide +kernel)
theorem q_341 : (Jvm.Cond.sameMethod "java/lang/Throwable" "java/lang/Throwable" "fillInStackTrace" "()Ljava/lang/Throwable;") ∈ WG := WG_at 341 (by decide +kernel) (by decide +kernel)
theorem q_342 : (Jvm.Cond.selects "java/lang/IllegalArgumentException" ({ cls := "java/lang/Throwable", name := "fillInStackTrace", desc := "()Ljava/lang/Throwable;" } : Jvm.MethodName) ({ cls := "java/lang/Throwable", name := "fillInStackTrace", desc := "()Ljava/lang/Throwable;" } : Jvm.MethodName)) ∈ WG := WG_at 342 (by decide +kernel) (by decide +kernel)
theorem q_343 : (Jvm.Cond.selects "java/lang/IndexOutOfBoundsException" ({ cls := "java/lang/Throwable", name := "fillInStackTrace", desc := "()Ljava/lang/Throwable;" } : Jvm.MethodName) ({ cls := "java/lang/Throwable", name := "fillInStackTrace", desc := "()Ljava/lang/Throwable;" } : Jvm.MethodName)) ∈ WG := WG_at 343 (by decide +kernel) (by decide +kernel)
theorem q_344 : (Jvm.Cond.codeSync ({ cls := "java/lang/Throwable", name := "fillInStackTrace", desc := "()Ljava/lang/Throwable;" } : Jvm.MethodName) prog_20_method_18_code (1 : Nat) (Option.some (Jvm.ClassFile.FieldType.object "java/lang/Throwable"))) ∈ WG := WG_at 344 (by decide +kernel) (by decide +kernel)
theorem q_345 : (Jvm.Cond.methodLink "java/lang/Throwable" (202 : Nat) ({ cls := "java/lang/Throwable", name := "fillInStackTrace", desc := "(I)Ljava/lang/Throwable;" } : Jvm.MethodName)) ∈ WG := WG_at 345 (by decide +kernel) (by decide +kernel)
theorem q_346 : (Jvm.Cond.privateMethod ({ cls := "java/lang/Throwable", name := "fillInStackTrace", desc := "(I)Ljava/lang/Throwable;" } : Jvm.MethodName)) ∈ lw_tbl := lw_bad 346 (by decide +kernel)
theorem q_347 : (Jvm.Cond.instanceMethod ({ cls := "java/lang/Throwable", name := "fillInStackTrace", desc := "(I)Ljava/lang/Throwable;" } : Jvm.MethodName)) ∈ WG := WG_at 347 (by decide +kernel) (by decide +kernel)
theorem q_348 : (Jvm.Cond.instantiable "java/lang/Throwable" (6 : Nat)) ∈ WG := WG_at 348 (by decide +kernel) (by decide +kernel)
theorem q_349 : (Jvm.Cond.native ({ cls := "java/lang/Throwable", name := "fillInStackTrace", desc := "(I)Ljava/lang/Throwable;" } : Jvm.MethodName)) ∈ WG := WG_at 349 (by decide +kernel) (by decide +kernel)
theorem q_350 : (Jvm.Cond.stringRef "NetlistBench" (36 : Nat) "there are 8 nodes") ∈ lw_tbl := lw_bad 350 (by decide +kernel)
theorem q_351 : (Jvm.Cond.methodLink "NetlistBench" (38 : Nat) ({ cls := "java/lang/IllegalStateException", name := "<init>", desc := "(Ljava/lang/String;)V" } : Jvm.MethodName)) ∈ WG := WG_at 351 (by decide +kernel) (by decide +kernel)
theorem q_352 : (Jvm.Cond.instanceMethod ({ cls := "java/lang/IllegalStateException", name := "<init>", desc := "(Ljava/lang/String;)V" } : Jvm.MethodName)) ∈ WG := WG_at 352 (by decide +kernel) (by decide +kernel)
theorem q_353 : (Jvm.Cond.code ({ cls := "java/lang/IllegalStateException", name := "<init>", desc := "(Ljava/lang/String;)V" } : Jvm.MethodName) prog_11_method_2_code (2 : Nat) (Option.none : Option Jvm.ClassFile.FieldType)) ∈ WG := WG_at 353 (by decide +kernel) (by decide +kernel)
theorem q_354 : (Jvm.Cond.methodLink "java/lang/IllegalStateException" (7 : Nat) ({ cls := "java/lang/RuntimeException", name := "<init>", desc := "(Ljava/lang/String;)V" } : Jvm.MethodName)) ∈ WG := WG_at 354 (by decide +kernel) (by decide +kernel)
theorem q_355 : (Jvm.Cond.instanceMethod ({ cls := "java/lang/RuntimeException", name := "<init>", desc := "(Ljava/lang/String;)V" } : Jvm.MethodName)) ∈ WG := WG_at 355 (by decide +kernel) (by decide +kernel)
theorem q_356 : (Jvm.Cond.code ({ cls := "java/lang/RuntimeException", name := "<init>", desc := "(Ljava/lang/String;)V" } : Jvm.MethodName) prog_17_method_2_code (2 : Nat) (Option.none : Option Jvm.ClassFile.FieldType)) ∈ WG := WG_at 356 (by decide +kernel) (by decide +kernel)
theorem q_357 : (Jvm.Cond.methodLink "java/lang/RuntimeException" (7 : Nat) ({ cls := "java/lang/Exception", name := "<init>", desc := "(Ljava/lang/String;)V" } : Jvm.MethodName)) ∈ WG := WG_at 357 (by decide +kernel) (by decide +kernel)
theorem q_358 : (Jvm.Cond.instanceMethod ({ cls := "java/lang/Exception", name := "<init>", desc := "(Ljava/lang/String;)V" } : Jvm.MethodName)) ∈ WG := WG_at 358 (by decide +kernel) (by decide +kernel)
theorem q_359 : (Jvm.Cond.code ({ cls := "java/lang/Exception", name := "<init>", desc := "(Ljava/lang/String;)V" } : Jvm.MethodName) prog_9_method_2_code (2 : Nat) (Option.none : Option Jvm.ClassFile.FieldType)) ∈ WG := WG_at 359 (by decide +kernel) (by decide +kernel)
theorem q_360 : (Jvm.Cond.methodLink "java/lang/Exception" (7 : Nat) ({ cls := "java/lang/Throwable", name := "<init>", desc := "(Ljava/lang/String;)V" } : Jvm.MethodName)) ∈ WG := WG_at 360 (by decide +kernel) (by decide +kernel)
theorem q_361 : (Jvm.Cond.instanceMethod ({ cls := "java/lang/Throwable", name := "<init>", desc := "(Ljava/lang/String;)V" } : Jvm.MethodName)) ∈ WG := WG_at 361 (by decide +kernel) (by decide +kernel)
theorem q_362 : (Jvm.Cond.code ({ cls := "java/lang/Throwable", name := "<init>", desc := "(Ljava/lang/String;)V" } : Jvm.MethodName) prog_20_method_2_code (2 : Nat) (Option.none : Option Jvm.ClassFile.FieldType)) ∈ WG := WG_at 362 (by decide +kernel) (by decide +kernel)
theorem q_364 : (Jvm.Cond.fieldLink "java/lang/Throwable" (31 : Nat) "java/lang/Throwable" "detailMessage" "Ljava/lang/String;") ∈ WG := WG_at 364 (by decide +kernel) (by decide +kernel)
theorem q_365 : (Jvm.Cond.fieldLink "java/lang/Throwable" (7 : Nat) "java/lang/Throwable" "cause" "Ljava/lang/Throwable;") ∈ WG := WG_at 365 (by decide +kernel) (by decide +kernel)
theorem q_366 : (Jvm.Cond.fieldLink "java/lang/Throwable" (17 : Nat) "java/lang/Throwable" "stackTrace" "[Ljava/lang/StackTraceElement;") ∈ WG := WG_at 366 (by decide +kernel) (by decide +kernel)
theorem q_367 : (Jvm.Cond.fieldLink "java/lang/Throwable" (24 : Nat) "java/lang/Throwable" "suppressedExceptions" "Ljava/util/List;") ∈ WG := WG_at 367 (by decide +kernel) (by decide +kernel)
theorem q_368 : (Jvm.Cond.soleField "java/lang/Throwable" "backtrace") ∈ WG := WG_at 368 (by decide +kernel) (by decide +kernel)
theorem q_369 : (Jvm.Cond.soleField "java/lang/Throwable" "detailMessage") ∈ WG := WG_at 369 (by decide +kernel) (by decide +kernel)
theorem q_370 : (Jvm.Cond.soleField "java/lang/Throwable" "cause") ∈ WG := WG_at 370 (by decide +kernel) (by decide +kernel)
theorem q_371 : (Jvm.Cond.soleField "java/lang/Throwable" "stackTrace") ∈ WG := WG_at 371 (by decide +kernel) (by decide +kernel)
theorem q_372 : (Jvm.Cond.lays "java/lang/IllegalStateException" "java/lang/Throwable" "depth" "I") ∈ WG := WG_at 372 (by decide +kernel) (by decide +kernel)
theorem q_373 : (Jvm.Cond.soleField "java/lang/Throwable" "depth") ∈ WG := WG_at 373 (by decide +kernel) (by decide +kernel)
theorem q_374 : (Jvm.Cond.soleField "java/lang/Throwable" "suppressedExceptions") ∈ WG := WG_at 374 (by decide +kernel) (by decide +kernel)
theorem q_375 : (Jvm.Cond.superclass "java/lang/IllegalStateException" "java/lang/RuntimeException") ∈ WG := WG_at 375 (by decide +kernel) (by decide +kernel)
theorem q_376 : (Jvm.Cond.arrayClass Jvm.ClassFile.FieldType.byte) ∈ WG := WG_at 376 (by decide +kernel) (by decide +kernel)
theorem q_377 : (Jvm.Cond.instantiable "NetlistBench$Node" (2 : Nat)) ∈ WG := WG_at 377 (by decide +kernel) (by decide +kernel)
theorem q_378 : (Jvm.Cond.methodLinkNest "NetlistBench" (43 : Nat) ({ cls := "NetlistBench$Node", name := "<init>", desc := "()V" } : Jvm.MethodName) "NetlistBench") ∈ lw_tbl := lw_bad 378 (by decide +kernel)
theorem q_379 : (Jvm.Cond.instanceMethod ({ cls := "NetlistBench$Node", name := "<init>", desc := "()V" } : Jvm.MethodName)) ∈ WG := WG_at 379 (by decide +kernel) (by decide +kernel)
theorem q_380 : (Jvm.Cond.code ({ cls := "NetlistBench$Node", name := "<init>", desc := "()V" } : Jvm.MethodName) prog_4_method_1_code (1 : Nat) (Option.none : Option Jvm.ClassFile.FieldType)) ∈ WG := WG_at 380 (by decide +kernel) (by decide +kernel)
theorem q_381 : (Jvm.Cond.methodLink "NetlistBench$Node" (1 : Nat) ({ cls := "java/lang/Object", name := "<init>", desc := "()V" } : Jvm.MethodName)) ∈ WG := WG_at 381 (by decide +kernel) (by decide +kernel)
theorem q_382 : (Jvm.Cond.fieldLink "NetlistBench$Node" (7 : Nat) "NetlistBench$Node" "isRail" "Z") ∈ WG := WG_at 382 (by decide +kernel) (by decide +kernel)
theorem q_383 : (Jvm.Cond.fieldLink "NetlistBench" (61 : Nat) "NetlistBench$Node" "isRail" "Z") ∈ WG := WG_at 383 (by decide +kernel) (by decide +kernel)
theorem q_384 : (Jvm.Cond.fieldLink "NetlistBench$Node" (13 : Nat) "NetlistBench$Node" "railPotential" "I") ∈ WG := WG_at 384 (by decide +kernel) (by decide +kernel)
theorem q_385 : (Jvm.Cond.fieldLink "NetlistBench" (65 : Nat) "NetlistBench$Node" "railPotential" "I") ∈ WG := WG_at 385 (by decide +kernel) (by decide +kernel)
theorem q_386 : (Jvm.Cond.lays "NetlistBench$Node" "NetlistBench$Node" "isRail" "Z") ∈ WG := WG_at 386 (by decide +kernel) (by decide +kernel)
theorem q_387 : (Jvm.Cond.soleField "NetlistBench$Node" "isRail") ∈ WG := WG_at 387 (by decide +kernel) (by decide +kernel)
theorem q_388 : (Jvm.Cond.lays "NetlistBench$Node" "NetlistBench$Node" "railPotential" "I") ∈ WG := WG_at 388 (by decide +kernel) (by decide +kernel)
theorem q_389 : (Jvm.Cond.soleField "NetlistBench$Node" "railPotential") ∈ WG := WG_at 389 (by decide +kernel) (by decide +kernel)
theorem q_390 : (Jvm.Cond.superclass "NetlistBench$Node" "java/lang/Object") ∈ WG := WG_at 390 (by decide +kernel) (by decide +kernel)
theorem q_391 : (Jvm.Cond.methodLink "NetlistBench" (44 : Nat) ({ cls := "java/util/ArrayList", name := "add", desc := "(Ljava/lang/Object;)Z" } : Jvm.MethodName)) ∈ WG := WG_at 391 (by decide +kernel) (by decide +kernel)
theorem q_392 : (Jvm.Cond.instanceMethod ({ cls := "java/util/ArrayList", name := "add", desc := "(Ljava/lang/Object;)Z" } : Jvm.MethodName)) ∈ WG := WG_at 392 (by decide +kernel) (by decide +kernel)
theorem q_393 : (Jvm.Cond.selects "java/util/ArrayList" ({ cls := "java/util/ArrayList", name := "add", desc := "(Ljava/lang/Object;)Z" } : Jvm.MethodName) ({ cls := "java/util/ArrayList", name := "add", desc := "(Ljava/lang/Object;)Z" } : Jvm.MethodName)) ∈ WG := WG_at 393 (by decide +kernel) (by decide +kernel)
theorem q_394 : (Jvm.Cond.code ({ cls := "java/util/ArrayList", name := "add", desc := "(Ljava/lang/Object;)Z" } : Jvm.MethodName) prog_23_method_25_code (2 : Nat) (Option.some Jvm.ClassFile.FieldType.boolean)) ∈ WG := WG_at 394 (by decide +kernel) (by decide +kernel)
theorem q_395 : (Jvm.Cond.methodLink "java/util/ArrayList" (131 : Nat) ({ cls := "java/util/ArrayList", name := "add", desc := "(Ljava/lang/Object;[Ljava/lang/Object;I)V" } : Jvm.MethodName)) ∈ WG := WG_at 395 (by decide +kernel) (by decide +kernel)
theorem q_396 : (Jvm.Cond.privateMethod ({ cls := "java/util/ArrayList", name := "add", desc := "(Ljava/lang/Object;[Ljava/lang/Object;I)V" } : Jvm.MethodName)) ∈ lw_tbl := lw_bad 396 (by decide +kernel)
theorem q_397 : (Jvm.Cond.instanceMethod ({ cls := "java/util/ArrayList", name := "add", desc := "(Ljava/lang/Object;[Ljava/lang/Object;I)V" } : Jvm.MethodName)) ∈ WG := WG_at 397 (by decide +kernel) (by decide +kernel)
theorem q_398 : (Jvm.Cond.code ({ cls := "java/util/ArrayList", name := "add", desc := "(Ljava/lang/Object;[Ljava/lang/Object;I)V" } : Jvm.MethodName) prog_23_method_24_code (4 : Nat) (Option.none : Option Jvm.ClassFile.FieldType)) ∈ WG := WG_at 398 (by decide +kernel) (by decide +kernel)
theorem q_399 : (Jvm.Cond.methodLink "java/util/ArrayList" (129 : Nat) ({ cls := "java/util/ArrayList", name := "grow", desc := "()[Ljava/lang/Object;" } : Jvm.MethodName)) ∈ WG := WG_at 399 (by decide +kernel) (by decide +kernel)
theorem q_400 : (Jvm.Cond.privateMethod ({ cls := "java/util/ArrayList", name := "grow", desc := "()[Ljava/lang/Object;" } : Jvm.MethodName)) ∈ lw_tbl := lw_bad 400 (by decide +kernel)
theorem q_401 : (Jvm.Cond.instanceMethod ({ cls := "java/util/ArrayList", name := "grow", desc := "()[Ljava/lang/Object;" } : Jvm.MethodName)) ∈ WG := WG_at 401 (by decide +kernel) (by decide +kernel)
theorem q_402 : (Jvm.Cond.code ({ cls := "java/util/ArrayList", name := "grow", desc := "()[Ljava/lang/Object;" } : Jvm.MethodName) prog_23_method_7_code (1 : Nat) (Option.some (Jvm.ClassFile.FieldType.array (Jvm.ClassFile.FieldType.object "java/lang/Object")))) ∈ WG := WG_at 402 (by decide +kernel) (by decide +kernel)
theorem q_403 : (Jvm.Cond.methodLink "java/util/ArrayList" (69 : Nat) ({ cls := "java/util/ArrayList", name := "grow", desc := "(I)[Ljava/lang/Object;" } : Jvm.MethodName)) ∈ WG := WG_at 403 (by decide +kernel) (by decide +kernel)
theorem q_404 : (Jvm.Cond.privateMethod ({ cls := "java/util/ArrayList", name := "grow", desc := "(I)[Ljava/lang/Object;" } : Jvm.MethodName)) ∈ lw_tbl := lw_bad 404 (by decide +kernel)
theorem q_405 : (Jvm.Cond.instanceMethod ({ cls := "java/util/ArrayList", name := "grow", desc := "(I)[Ljava/lang/Object;" } : Jvm.MethodName)) ∈ WG := WG_at 405 (by decide +kernel) (by decide +kernel)
theorem q_406 : (Jvm.Cond.code ({ cls := "java/util/ArrayList", name := "grow", desc := "(I)[Ljava/lang/Object;" } : Jvm.MethodName) prog_23_method_6_code (4 : Nat) (Option.some (Jvm.ClassFile.FieldType.array (Jvm.ClassFile.FieldType.object "java/lang/Object")))) ∈ WG := WG_at 406 (by decide +kernel) (by decide +kernel)
theorem q_407 : (Jvm.Cond.methodLink "java/util/ArrayList" (73 : Nat) ({ cls := "jdk/internal/util/ArraysSupport", name := "newLength", desc := "(III)I" } : Jvm.MethodName)) ∈ WG := WG_at 407 (by decide +kernel) (by decide +kernel)
theorem q_408 : (Jvm.Cond.static ({ cls := "jdk/internal/util/ArraysSupport", name := "newLength", desc := "(III)I" } : Jvm.MethodName)) ∈ WG := WG_at 408 (by decide +kernel) (by decide +kernel)
theorem q_409 : (Jvm.Cond.code ({ cls := "jdk/internal/util/ArraysSupport", name := "newLength", desc := "(III)I" } : Jvm.MethodName) prog_30_method_27_code (4 : Nat) (Option.some Jvm.ClassFile.FieldType.int)) ∈ WG := WG_at 409 (by decide +kernel) (by decide +kernel)
theorem q_410 : (Jvm.Cond.methodLink "jdk/internal/util/ArraysSupport" (194 : Nat) ({ cls := "java/lang/Math", name := "max", desc := "(II)I" } : Jvm.MethodName)) ∈ WG := WG_at 410 (by decide +kernel) (by decide +kernel)
theorem q_411 : (Jvm.Cond.static ({ cls := "java/lang/Math", name := "max", desc := "(II)I" } : Jvm.MethodName)) ∈ WG := WG_at 411 (by decide +kernel) (by decide +kernel)
theorem q_412 : (Jvm.Cond.code ({ cls := "java/lang/Math", name := "max", desc := "(II)I" } : Jvm.MethodName) prog_16_method_65_code (2 : Nat) (Option.some Jvm.ClassFile.FieldType.int)) ∈ WG := WG_at 412 (by decide +kernel) (by decide +kernel)
theorem q_413 : (Jvm.Cond.constant "jdk/internal/util/ArraysSupport" (200 : Nat) (2147483639 : Int32)) ∈ WG := WG_at 413 (by decide +kernel) (by decide +kernel)
theorem q_414 : (Jvm.Cond.methodLink "jdk/internal/util/ArraysSupport" (201 : Nat) ({ cls := "jdk/internal/util/ArraysSupport", name := "hugeLength", desc := "(II)I" } : Jvm.MethodName)) ∈ WG := WG_at 414 (by decide +kernel) (by decide +kernel)
theorem q_415 : (Jvm.Cond.static ({ cls := "jdk/internal/util/ArraysSupport", name := "hugeLength", desc := "(II)I" } : Jvm.MethodName)) ∈ WG := WG_at 415 (by decide +kernel) (by decide +kernel)
theorem q_416 : (Jvm.Cond.code ({ cls := "jdk/internal/util/ArraysSupport", name := "hugeLength", desc := "(II)I" } : Jvm.MethodName) prog_30_method_28_code (3 : Nat) (Option.some Jvm.ClassFile.FieldType.int)) ∈ WG := WG_at 416 (by decide +kernel) (by decide +kernel)
theorem q_417 : (Jvm.Cond.methodLink "java/util/ArrayList" (66 : Nat) ({ cls := "java/util/Arrays", name := "copyOf", desc := "([Ljava/lang/Object;I)[Ljava/lang/Object;" } : Jvm.MethodName)) ∈ WG := WG_at 417 (by decide +kernel) (by decide +kernel)
theorem q_418 : (Jvm.Cond.static ({ cls := "java/util/Arrays", name := "copyOf", desc := "([Ljava/lang/Object;I)[Ljava/lang/Object;" } : Jvm.MethodName)) ∈ WG := WG_at 418 (by decide +kernel) (by decide +kernel)
theorem q_419 : (Jvm.Cond.code ({ cls := "java/util/Arrays", name := "copyOf", desc := "([Ljava/lang/Object;I)[Ljava/lang/Object;" } : Jvm.MethodName) prog_24_method_119_code (2 : Nat) (Option.some (Jvm.ClassFile.FieldType.array (Jvm.ClassFile.FieldType.object "java/lang/Object")))) ∈ WG := WG_at 419 (by decide +kernel) (by decide +kernel)
theorem q_420 : (Jvm.Cond.methodLink "java/util/Arrays" (86 : Nat) ({ cls := "java/lang/Object", name := "getClass", desc := "()Ljava/lang/Class;" } : Jvm.MethodName)) ∈ WG := WG_at 420 (by decide +kernel) (by decide +kernel)
theorem q_421 : (Jvm.Cond.instanceMethod ({ cls := "java/lang/Object", name := "getClass", desc := "()Ljava/lang/Class;" } : Jvm.MethodName)) ∈ WG := WG_at 421 (by decide +kernel) (by decide +kernel)
theorem q_422 : (Jvm.Cond.sameMethod "java/lang/Object" "java/lang/Object" "getClass" "()Ljava/lang/Class;") ∈ WG := WG_at 422 (by decide +kernel) (by decide +kernel)
theorem q_423 : (Jvm.Cond.selects "NetlistBench" ({ cls := "java/lang/Object", name := "getClass", desc := "()Ljava/lang/Class;" } : Jvm.MethodName) ({ cls := "java/lang/Object", name := "getClass", desc := "()Ljava/lang/Class;" } : Jvm.MethodName)) ∈ WG := WG_at 423 (by decide +kernel) (by decide +kernel)
theorem q_424 : (Jvm.Cond.selects "NetlistBench$Element" ({ cls := "java/lang/Object", name := "getClass", desc := "()Ljava/lang/Class;" } : Jvm.MethodName) ({ cls := "java/lang/Object", name := "getClass", desc := "()Ljava/lang/Class;" } : Jvm.MethodName)) ∈ WG := WG_at 424 (by decide +kernel) (by decide +kernel)
theorem q_425 : (Jvm.Cond.selects "NetlistBench$Equations" ({ cls := "java/lang/Object", name := "getClass", desc := "()Ljava/lang/Class;" } : Jvm.MethodName) ({ cls := "java/lang/Object", name := "getClass", desc := "()Ljava/lang/Class;" } : Jvm.MethodName)) ∈ WG := WG_at 425 (by decide +kernel) (by decide +kernel)
theorem q_426 : (Jvm.Cond.selects "NetlistBench$Node" ({ cls := "java/lang/Object", name := "getClass", desc := "()Ljava/lang/Class;" } : Jvm.MethodName) ({ cls := "java/lang/Object", name := "getClass", desc := "()Ljava/lang/Class;" } : Jvm.MethodName)) ∈ WG := WG_at 426 (by decide +kernel) (by decide +kernel)
theorem q_427 : (Jvm.Cond.selects "NetlistBenchModel" ({ cls := "java/lang/Object", name := "getClass", desc := "()Ljava/lang/Class;" } : Jvm.MethodName) ({ cls := "java/lang/Object", name := "getClass", desc := "()Ljava/lang/Class;" } : Jvm.MethodName)) ∈ WG := WG_at 427 (by decide +kernel) (by decide +kernel)
theorem q_428 : (Jvm.Cond.selects "java/lang/IllegalArgumentException" ({ cls := "java/lang/Object", name := "getClass", desc := "()Ljava/lang/Class;" } : Jvm.MethodName) ({ cls := "java/lang/Object", name := "getClass", desc := "()Ljava/lang/Class;" } : Jvm.MethodName)) ∈ WG := WG_at 428 (by decide +kernel) (by decide +kernel)
theorem q_429 : (Jvm.Cond.selects "java/lang/IllegalStateException" ({ cls := "java/lang/Object", name := "getClass", desc := "()Ljava/lang/Class;" } : Jvm.MethodName) ({ cls := "java/lang/Object", name := "getClass", desc := "()Ljava/lang/Class;" } : Jvm.MethodName)) ∈ WG := WG_at 429 (by decide +kernel) (by decide +kernel)
theorem q_430 : (Jvm.Cond.selects "java/lang/IndexOutOfBoundsException" ({ cls := "java/lang/Object", name := "getClass", desc := "()Ljava/lang/Class;" } : Jvm.MethodName) ({ cls := "java/lang/Object", name := "getClass", desc := "()Ljava/lang/Class;" } : Jvm.MethodName)) ∈ WG := WG_at 430 (by decide +kernel) (by decide +kernel)
theorem q_431 : (Jvm.Cond.selects "java/util/ArrayList" ({ cls := "java/lang/Object", name := "getClass", desc := "()Ljava/lang/Class;" } : Jvm.MethodName) ({ cls := "java/lang/Object", name := "getClass", desc := "()Ljava/lang/Class;" } : Jvm.MethodName)) ∈ WG := WG_at 431 (by decide +kernel) (by decide +kernel)
theorem q_432 : (Jvm.Cond.native ({ cls := "java/lang/Object", name := "getClass", desc := "()Ljava/lang/Class;" } : Jvm.MethodName)) ∈ WG := WG_at 432 (by decide +kernel) (by decide +kernel)
theorem q_433 : (Jvm.Cond.methodLink "java/util/Arrays" (300 : Nat) ({ cls := "java/util/Arrays", name := "copyOf", desc := "([Ljava/lang/Object;ILjava/lang/Class;)[Ljava/lang/Object;" } : Jvm.MethodName)) ∈ WG := WG_at 433 (by decide +kernel) (by decide +kernel)
theorem q_434 : (Jvm.Cond.static ({ cls := "java/util/Arrays", name := "copyOf", desc := "([Ljava/lang/Object;ILjava/lang/Class;)[Ljava/lang/Object;" } : Jvm.MethodName)) ∈ WG := WG_at 434 (by decide +kernel) (by decide +kernel)
theorem q_435 : (Jvm.Cond.code ({ cls := "java/util/Arrays", name := "copyOf", desc := "([Ljava/lang/Object;ILjava/lang/Class;)[Ljava/lang/Object;" } : Jvm.MethodName) prog_24_method_120_code (4 : Nat) (Option.some (Jvm.ClassFile.FieldType.array (Jvm.ClassFile.FieldType.object "java/lang/Object")))) ∈ WG := WG_at 435 (by decide +kernel) (by decide +kernel)
theorem q_436 : (Jvm.Cond.classLink "java/util/Arrays" (110 : Nat) "[Ljava/lang/Object;") ∈ WG := WG_at 436 (by decide +kernel) (by decide +kernel)
theorem q_437 : (Jvm.Cond.arrayOver (Jvm.ClassFile.FieldType.object "java/lang/Object")) ∈ lw_tbl := lw_bad 437 (by decide +kernel)
theorem q_438 : (Jvm.Cond.classLink "java/util/Arrays" (2 : Nat) "java/lang/Object") ∈ WG := WG_at 438 (by decide +kernel) (by decide +kernel)
theorem q_439 : (Jvm.Cond.methodLink "java/util/Arrays" (304 : Nat) ({ cls := "java/lang/Math", name := "min", desc := "(II)I" } : Jvm.MethodName)) ∈ WG := WG_at 439 (by decide +kernel) (by decide +kernel)
theorem q_440 : (Jvm.Cond.static ({ cls := "java/lang/Math", name := "min", desc := "(II)I" } : Jvm.MethodName)) ∈ WG := WG_at 440 (by decide +kernel) (by decide +kernel)
theorem q_441 : (Jvm.Cond.code ({ cls := "java/lang/Math", name := "min", desc := "(II)I" } : Jvm.MethodName) prog_16_method_69_code (2 : Nat) (Option.some Jvm.ClassFile.FieldType.int)) ∈ WG := WG_at 441 (by decide +kernel) (by decide +kernel)
theorem q_442 : (Jvm.Cond.methodLink "java/util/Arrays" (150 : Nat) ({ cls := "java/lang/System", name := "arraycopy", desc := "(Ljava/lang/Object;ILjava/lang/Object;II)V" } : Jvm.MethodName)) ∈ WG := WG_at 442 (by decide +kernel) (by decide +kernel)
theorem q_443 : (Jvm.Cond.static ({ cls := "java/lang/System", name := "arraycopy", desc := "(Ljava/lang/Object;ILjava/lang/Object;II)V" } : Jvm.MethodName)) ∈ WG := WG_at 443 (by decide +kernel) (by decide +kernel)
theorem q_444 : (Jvm.Cond.native ({ cls := "java/lang/System", name := "arraycopy", desc := "(Ljava/lang/Object;ILjava/lang/Object;II)V" } : Jvm.MethodName)) ∈ WG := WG_at 444 (by decide +kernel) (by decide +kernel)
theorem q_445 : (Jvm.Cond.methodLink "java/util/ArrayList" (79 : Nat) ({ cls := "java/lang/Math", name := "max", desc := "(II)I" } : Jvm.MethodName)) ∈ WG := WG_at 445 (by decide +kernel) (by decide +kernel)
theorem q_446 : (Jvm.Cond.classLink "java/util/ArrayList" (7 : Nat) "java/lang/Object") ∈ WG := WG_at 446 (by decide +kernel) (by decide +kernel)
theorem q_447 : (Jvm.Cond.methodLink "NetlistBenchLaw" (103 : Nat) ({ cls := "NetlistBenchLaw", name := "rail", desc := "(LNetlistBench;IZI[J)I" } : Jvm.MethodName)) ∈ WG := WG_at 447 (by decide +kernel) (by decide +kernel)
theorem q_448 : (Jvm.Cond.static ({ cls := "NetlistBenchLaw", name := "rail", desc := "(LNetlistBench;IZI[J)I" } : Jvm.MethodName)) ∈ WG := WG_at 448 (by decide +kernel) (by decide +kernel)
theorem q_449 : (Jvm.Cond.codeWith ({ cls := "NetlistBenchLaw", name := "rail", desc := "(LNetlistBench;IZI[J)I" } : Jvm.MethodName) method_4_code (6 : Nat) (Option.some Jvm.ClassFile.FieldType.int) [((0 : Nat), (19 : Nat), (22 : Nat), (19 : Nat)), ((0 : Nat), (19 : Nat), (26 : Nat), (21 : Nat))]) ∈ WG := WG_at 449 (by decide +kernel) (by decide +kernel)
theorem q_450 : (Jvm.Cond.classLink "NetlistBenchLaw" (19 : Nat) "java/lang/IndexOutOfBoundsException") ∈ WG := WG_at 450 (by decide +kernel) (by decide +kernel)
theorem q_451 : (Jvm.Cond.classLink "NetlistBenchLaw" (21 : Nat) "java/lang/IllegalArgumentException") ∈ WG := WG_at 451 (by decide +kernel) (by decide +kernel)
theorem q_452 : (Jvm.Cond.methodLink "NetlistBenchLaw" (15 : Nat) ({ cls := "NetlistBench", name := "rail", desc := "(IZI)Z" } : Jvm.MethodName)) ∈ WG := WG_at 452 (by decide +kernel) (by decide +kernel)
theorem q_453 : (Jvm.Cond.instanceMethod ({ cls := "NetlistBench", name := "rail", desc := "(IZI)Z" } : Jvm.MethodName)) ∈ WG := WG_at 453 (by decide +kernel) (by decide +kernel)
theorem q_454 : (Jvm.Cond.selects "NetlistBench" ({ cls := "NetlistBench", name := "rail", desc := "(IZI)Z" } : Jvm.MethodName) ({ cls := "NetlistBench", name := "rail", desc := "(IZI)Z" } : Jvm.MethodName)) ∈ WG := WG_at 454 (by decide +kernel) (by decide +kernel)
theorem q_455 : (Jvm.Cond.code ({ cls := "NetlistBench", name := "rail", desc := "(IZI)Z" } : Jvm.MethodName) prog_1_method_3_code (6 : Nat) (Option.some Jvm.ClassFile.FieldType.boolean)) ∈ WG := WG_at 455 (by decide +kernel) (by decide +kernel)
theorem q_456 : (Jvm.Cond.methodLink "NetlistBench" (48 : Nat) ({ cls := "NetlistBench", name := "checkNode", desc := "(I)V" } : Jvm.MethodName)) ∈ WG := WG_at 456 (by decide +kernel) (by decide +kernel)
theorem q_457 : (Jvm.Cond.privateMethod ({ cls := "NetlistBench", name := "checkNode", desc := "(I)V" } : Jvm.MethodName)) ∈ lw_tbl := lw_bad 457 (by decide +kernel)
theorem q_458 : (Jvm.Cond.instanceMethod ({ cls := "NetlistBench", name := "checkNode", desc := "(I)V" } : Jvm.MethodName)) ∈ WG := WG_at 458 (by decide +kernel) (by decide +kernel)
theorem q_459 : (Jvm.Cond.code ({ cls := "NetlistBench", name := "checkNode", desc := "(I)V" } : Jvm.MethodName) prog_1_method_24_code (2 : Nat) (Option.none : Option Jvm.ClassFile.FieldType)) ∈ WG := WG_at 459 (by decide +kernel) (by decide +kernel)
theorem q_460 : (Jvm.Cond.classLink "NetlistBench" (110 : Nat) "java/lang/IndexOutOfBoundsException") ∈ WG := WG_at 460 (by decide +kernel) (by decide +kernel)
theorem q_461 : (Jvm.Cond.instantiable "java/lang/IndexOutOfBoundsException" (6 : Nat)) ∈ WG := WG_at 461 (by decide +kernel) (by decide +kernel)
theorem q_462 : (Jvm.Cond.castable "java/lang/IndexOutOfBoundsException" "java/lang/IndexOutOfBoundsException") ∈ lw_tbl := lw_bad 462 (by decide +kernel)
theorem q_463 : (Jvm.Cond.selects "java/lang/IndexOutOfBoundsException" ({ cls := "java/lang/Throwable", name := "fillInStackTrace", desc := "(I)Ljava/lang/Throwable;" } : Jvm.MethodName) ({ cls := "java/lang/Throwable", name := "fillInStackTrace", desc := "(I)Ljava/lang/Throwable;" } : Jvm.MethodName)) ∈ WG := WG_at 463 (by decide +kernel) (by decide +kernel)
theorem q_464 : (Jvm.Cond.lays "java/lang/IndexOutOfBoundsException" "java/lang/Throwable" "cause" "Ljava/lang/Throwable;") ∈ WG := WG_at 464 (by decide +kernel) (by decide +kernel)
theorem q_465 : (Jvm.Cond.lays "java/lang/IndexOutOfBoundsException" "java/lang/Throwable" "stackTrace" "[Ljava/lang/StackTraceElement;") ∈ WG := WG_at 465 (by decide +kernel) (by decide +kernel)
theorem q_466 : (Jvm.Cond.lays "java/lang/IndexOutOfBoundsException" "java/lang/Throwable" "suppressedExceptions" "Ljava/util/List;") ∈ WG := WG_at 466 (by decide +kernel) (by decide +kernel)
theorem q_467 : (Jvm.Cond.lays "java/lang/IndexOutOfBoundsException" "java/lang/Throwable" "detailMessage" "Ljava/lang/String;") ∈ WG := WG_at 467 (by decide +kernel) (by decide +kernel)
theorem q_468 : (Jvm.Cond.lays "java/lang/IndexOutOfBoundsException" "java/lang/Throwable" "backtrace" "Ljava/lang/Object;") ∈ WG := WG_at 468 (by decide +kernel) (by decide +kernel)
theorem q_469 : (Jvm.Cond.stringRef "NetlistBench" (209 : Nat) "there is no such node") ∈ lw_tbl := lw_bad 469 (by decide +kernel)
theorem q_470 : (Jvm.Cond.methodLink "NetlistBench" (114 : Nat) ({ cls := "java/lang/IndexOutOfBoundsException", name := "<init>", desc := "(Ljava/lang/String;)V" } : Jvm.MethodName)) ∈ WG := WG_at 470 (by decide +kernel) (by decide +kernel)
theorem q_471 : (Jvm.Cond.instanceMethod ({ cls := "java/lang/IndexOutOfBoundsException", name := "<init>", desc := "(Ljava/lang/String;)V" } : Jvm.MethodName)) ∈ WG := WG_at 471 (by decide +kernel) (by decide +kernel)
theorem q_472 : (Jvm.Cond.code ({ cls := "java/lang/IndexOutOfBoundsException", name := "<init>", desc := "(Ljava/lang/String;)V" } : Jvm.MethodName) prog_12_method_2_code (2 : Nat) (Option.none : Option Jvm.ClassFile.FieldType)) ∈ WG := WG_at 472 (by decide +kernel) (by decide +kernel)
theorem q_473 : (Jvm.Cond.methodLink "java/lang/IndexOutOfBoundsException" (7 : Nat) ({ cls := "java/lang/RuntimeException", name := "<init>", desc := "(Ljava/lang/String;)V" } : Jvm.MethodName)) ∈ WG := WG_at 473 (by decide +kernel) (by decide +kernel)
theorem q_474 : (Jvm.Cond.lays "java/lang/IndexOutOfBoundsException" "java/lang/Throwable" "depth" "I") ∈ WG := WG_at 474 (by decide +kernel) (by decide +kernel)
theorem q_475 : (Jvm.Cond.superclass "java/lang/IndexOutOfBoundsException" "java/lang/RuntimeException") ∈ WG := WG_at 475 (by decide +kernel) (by decide +kernel)
theorem q_476 : (Jvm.Cond.classLink "NetlistBench" (52 : Nat) "java/lang/IllegalArgumentException") ∈ WG := WG_at 476 (by decide +kernel) (by decide +kernel)
theorem q_477 : (Jvm.Cond.instantiable "java/lang/IllegalArgumentException" (6 : Nat)) ∈ WG := WG_at 477 (by decide +kernel) (by decide +kernel)
theorem q_478 : (Jvm.Cond.castable "java/lang/IllegalArgumentException" "java/lang/IllegalArgumentException") ∈ lw_tbl := lw_bad 478 (by decide +kernel)
theorem q_479 : (Jvm.Cond.selects "java/lang/IllegalArgumentException" ({ cls := "java/lang/Throwable", name := "fillInStackTrace", desc := "(I)Ljava/lang/Throwable;" } : Jvm.MethodName) ({ cls := "java/lang/Throwable", name := "fillInStackTrace", desc := "(I)Ljava/lang/Throwable;" } : Jvm.MethodName)) ∈ WG := WG_at 479 (by decide +kernel) (by decide +kernel)
theorem q_480 : (Jvm.Cond.lays "java/lang/IllegalArgumentException" "java/lang/Throwable" "cause" "Ljava/lang/Throwable;") ∈ WG := WG_at 480 (by decide +kernel) (by decide +kernel)
theorem q_481 : (Jvm.Cond.lays "java/lang/IllegalArgumentException" "java/lang/Throwable" "stackTrace" "[Ljava/lang/StackTraceElement;") ∈ WG := WG_at 481 (by decide +kernel) (by decide +kernel)
theorem q_482 : (Jvm.Cond.lays "java/lang/IllegalArgumentException" "java/lang/Throwable" "suppressedExceptions" "Ljava/util/List;") ∈ WG := WG_at 482 (by decide +kernel) (by decide +kernel)
theorem q_483 : (Jvm.Cond.lays "java/lang/IllegalArgumentException" "java/lang/Throwable" "detailMessage" "Ljava/lang/String;") ∈ WG := WG_at 483 (by decide +kernel) (by decide +kernel)
theorem q_484 : (Jvm.Cond.lays "java/lang/IllegalArgumentException" "java/lang/Throwable" "backtrace" "Ljava/lang/Object;") ∈ WG := WG_at 484 (by decide +kernel) (by decide +kernel)
theorem q_485 : (Jvm.Cond.stringRef "NetlistBench" (54 : Nat) "the potential of a rail is -99 to 99") ∈ lw_tbl := lw_bad 485 (by decide +kernel)
theorem q_486 : (Jvm.Cond.methodLink "NetlistBench" (56 : Nat) ({ cls := "java/lang/IllegalArgumentException", name := "<init>", desc := "(Ljava/lang/String;)V" } : Jvm.MethodName)) ∈ WG := WG_at 486 (by decide +kernel) (by decide +kernel)
theorem q_487 : (Jvm.Cond.instanceMethod ({ cls := "java/lang/IllegalArgumentException", name := "<init>", desc := "(Ljava/lang/String;)V" } : Jvm.MethodName)) ∈ WG := WG_at 487 (by decide +kernel) (by decide +kernel)
theorem q_488 : (Jvm.Cond.code ({ cls := "java/lang/IllegalArgumentException", name := "<init>", desc := "(Ljava/lang/String;)V" } : Jvm.MethodName) prog_10_method_2_code (2 : Nat) (Option.none : Option Jvm.ClassFile.FieldType)) ∈ WG := WG_at 488 (by decide +kernel) (by decide +kernel)
theorem q_489 : (Jvm.Cond.methodLink "java/lang/IllegalArgumentException" (7 : Nat) ({ cls := "java/lang/RuntimeException", name := "<init>", desc := "(Ljava/lang/String;)V" } : Jvm.MethodName)) ∈ WG := WG_at 489 (by decide +kernel) (by decide +kernel)
theorem q_490 : (Jvm.Cond.lays "java/lang/IllegalArgumentException" "java/lang/Throwable" "depth" "I") ∈ WG := WG_at 490 (by decide +kernel) (by decide +kernel)
theorem q_491 : (Jvm.Cond.superclass "java/lang/IllegalArgumentException" "java/lang/RuntimeException") ∈ WG := WG_at 491 (by decide +kernel) (by decide +kernel)
theorem q_492 : (Jvm.Cond.methodLink "NetlistBenchLaw" (107 : Nat) ({ cls := "NetlistBenchLaw", name := "addElement", desc := "(LNetlistBench;ZIII[J)I" } : Jvm.MethodName)) ∈ WG := WG_at 492 (by decide +kernel) (by decide +kernel)
end
section
theorem q_493 : (Jvm.Cond.static ({ cls := "NetlistBenchLaw", name := "addElement", desc := "(LNetlistBench;ZIII[J)I" } : Jvm.MethodName)) ∈ WG := WG_at 493 (by decide +kernel) (by decide +kernel)
theorem q_494 : (Jvm.Cond.codeWith ({ cls := "NetlistBenchLaw", name := "addElement", desc := "(LNetlistBench;ZIII[J)I" } : Jvm.MethodName) method_5_code (7 : Nat) (Option.some Jvm.ClassFile.FieldType.int) [((0 : Nat), (14 : Nat), (17 : Nat), (19 : Nat)), ((0 : Nat), (14 : Nat), (21 : Nat), (21 : Nat)), ((0 : Nat), (14 : Nat), (25 : Nat), (13 : Nat))]) ∈ WG := WG_at 494 (by decide +kernel) (by decide +kernel)
theorem q_495 : (Jvm.Cond.methodLink "NetlistBenchLaw" (23 : Nat) ({ cls := "NetlistBench", name := "addElement", desc := "(ZIII)I" } : Jvm.MethodName)) ∈ WG := WG_at 495 (by decide +kernel) (by decide +kernel)
theorem q_496 : (Jvm.Cond.instanceMethod ({ cls := "NetlistBench", name := "addElement", desc := "(ZIII)I" } : Jvm.MethodName)) ∈ WG := WG_at 496 (by decide +kernel) (by decide +kernel)
theorem q_497 : (Jvm.Cond.selects "NetlistBench" ({ cls := "NetlistBench", name := "addElement", desc := "(ZIII)I" } : Jvm.MethodName) ({ cls := "NetlistBench", name := "addElement", desc := "(ZIII)I" } : Jvm.MethodName)) ∈ WG := WG_at 497 (by decide +kernel) (by decide +kernel)
theorem q_498 : (Jvm.Cond.code ({ cls := "NetlistBench", name := "addElement", desc := "(ZIII)I" } : Jvm.MethodName) prog_1_method_4_code (6 : Nat) (Option.some Jvm.ClassFile.FieldType.int)) ∈ WG := WG_at 498 (by decide +kernel) (by decide +kernel)
theorem q_499 : (Jvm.Cond.stringRef "NetlistBench" (69 : Nat) "an element goes to another node") ∈ lw_tbl := lw_bad 499 (by decide +kernel)
theorem q_500 : (Jvm.Cond.methodLink "NetlistBench" (71 : Nat) ({ cls := "NetlistBench", name := "checkSize", desc := "(ZI)V" } : Jvm.MethodName)) ∈ WG := WG_at 500 (by decide +kernel) (by decide +kernel)
theorem q_501 : (Jvm.Cond.static ({ cls := "NetlistBench", name := "checkSize", desc := "(ZI)V" } : Jvm.MethodName)) ∈ WG := WG_at 501 (by decide +kernel) (by decide +kernel)
theorem q_502 : (Jvm.Cond.code ({ cls := "NetlistBench", name := "checkSize", desc := "(ZI)V" } : Jvm.MethodName) prog_1_method_27_code (4 : Nat) (Option.none : Option Jvm.ClassFile.FieldType)) ∈ WG := WG_at 502 (by decide +kernel) (by decide +kernel)
theorem q_503 : (Jvm.Cond.stringRef "NetlistBench" (215 : Nat) "the size is not one of such an element") ∈ lw_tbl := lw_bad 503 (by decide +kernel)
theorem q_504 : (Jvm.Cond.stringRef "NetlistBench" (75 : Nat) "there are 20 elements") ∈ lw_tbl := lw_bad 504 (by decide +kernel)
theorem q_505 : (Jvm.Cond.methodLink "NetlistBench" (79 : Nat) ({ cls := "NetlistBench$Element", name := "<init>", desc := "(ZIII)V" } : Jvm.MethodName)) ∈ WG := WG_at 505 (by decide +kernel) (by decide +kernel)
theorem q_506 : (Jvm.Cond.instanceMethod ({ cls := "NetlistBench$Element", name := "<init>", desc := "(ZIII)V" } : Jvm.MethodName)) ∈ WG := WG_at 506 (by decide +kernel) (by decide +kernel)
theorem q_507 : (Jvm.Cond.code ({ cls := "NetlistBench$Element", name := "<init>", desc := "(ZIII)V" } : Jvm.MethodName) prog_2_method_1_code (5 : Nat) (Option.none : Option Jvm.ClassFile.FieldType)) ∈ WG := WG_at 507 (by decide +kernel) (by decide +kernel)
theorem q_508 : (Jvm.Cond.methodLink "NetlistBench$Element" (3 : Nat) ({ cls := "java/lang/Object", name := "<init>", desc := "()V" } : Jvm.MethodName)) ∈ WG := WG_at 508 (by decide +kernel) (by decide +kernel)
theorem q_509 : (Jvm.Cond.fieldLink "NetlistBench$Element" (23 : Nat) "NetlistBench$Element" "isSource" "Z") ∈ WG := WG_at 509 (by decide +kernel) (by decide +kernel)
theorem q_510 : (Jvm.Cond.fieldLink "NetlistBench" (85 : Nat) "NetlistBench$Element" "isSource" "Z") ∈ WG := WG_at 510 (by decide +kernel) (by decide +kernel)
theorem q_511 : (Jvm.Cond.fieldLink "NetlistBench$Element" (26 : Nat) "NetlistBench$Element" "a" "I") ∈ WG := WG_at 511 (by decide +kernel) (by decide +kernel)
theorem q_512 : (Jvm.Cond.fieldLink "NetlistBench" (159 : Nat) "NetlistBench$Element" "a" "I") ∈ WG := WG_at 512 (by decide +kernel) (by decide +kernel)
theorem q_513 : (Jvm.Cond.fieldLink "NetlistBench$Element" (29 : Nat) "NetlistBench$Element" "b" "I") ∈ WG := WG_at 513 (by decide +kernel) (by decide +kernel)
theorem q_514 : (Jvm.Cond.fieldLink "NetlistBench" (182 : Nat) "NetlistBench$Element" "b" "I") ∈ WG := WG_at 514 (by decide +kernel) (by decide +kernel)
theorem q_515 : (Jvm.Cond.fieldLink "NetlistBench$Element" (32 : Nat) "NetlistBench$Element" "size" "I") ∈ WG := WG_at 515 (by decide +kernel) (by decide +kernel)
theorem q_516 : (Jvm.Cond.fieldLink "NetlistBench" (88 : Nat) "NetlistBench$Element" "size" "I") ∈ WG := WG_at 516 (by decide +kernel) (by decide +kernel)
theorem q_517 : (Jvm.Cond.fieldLink "NetlistBench$Element" (9 : Nat) "NetlistBench$Element" "startsOn" "Z") ∈ WG := WG_at 517 (by decide +kernel) (by decide +kernel)
theorem q_518 : (Jvm.Cond.fieldLink "NetlistBench" (90 : Nat) "NetlistBench$Element" "startsOn" "Z") ∈ WG := WG_at 518 (by decide +kernel) (by decide +kernel)
theorem q_519 : (Jvm.Cond.fieldLink "NetlistBench$Element" (15 : Nat) "NetlistBench$Element" "toggles" "I") ∈ WG := WG_at 519 (by decide +kernel) (by decide +kernel)
theorem q_520 : (Jvm.Cond.fieldLink "NetlistBench" (102 : Nat) "NetlistBench$Element" "toggles" "I") ∈ WG := WG_at 520 (by decide +kernel) (by decide +kernel)
theorem q_521 : (Jvm.Cond.fieldLink "NetlistBench$Element" (19 : Nat) "NetlistBench$Element" "times" "[I") ∈ WG := WG_at 521 (by decide +kernel) (by decide +kernel)
theorem q_522 : (Jvm.Cond.laysFinal "NetlistBench$Element" "NetlistBench$Element" "isSource" "Z") ∈ WG := WG_at 522 (by decide +kernel) (by decide +kernel)
theorem q_523 : (Jvm.Cond.soleField "NetlistBench$Element" "isSource") ∈ WG := WG_at 523 (by decide +kernel) (by decide +kernel)
theorem q_524 : (Jvm.Cond.laysFinal "NetlistBench$Element" "NetlistBench$Element" "a" "I") ∈ WG := WG_at 524 (by decide +kernel) (by decide +kernel)
theorem q_525 : (Jvm.Cond.soleField "NetlistBench$Element" "a") ∈ WG := WG_at 525 (by decide +kernel) (by decide +kernel)
theorem q_526 : (Jvm.Cond.laysFinal "NetlistBench$Element" "NetlistBench$Element" "b" "I") ∈ WG := WG_at 526 (by decide +kernel) (by decide +kernel)
theorem q_527 : (Jvm.Cond.soleField "NetlistBench$Element" "b") ∈ WG := WG_at 527 (by decide +kernel) (by decide +kernel)
theorem q_528 : (Jvm.Cond.lays "NetlistBench$Element" "NetlistBench$Element" "size" "I") ∈ WG := WG_at 528 (by decide +kernel) (by decide +kernel)
theorem q_529 : (Jvm.Cond.soleField "NetlistBench$Element" "size") ∈ WG := WG_at 529 (by decide +kernel) (by decide +kernel)
theorem q_530 : (Jvm.Cond.lays "NetlistBench$Element" "NetlistBench$Element" "startsOn" "Z") ∈ WG := WG_at 530 (by decide +kernel) (by decide +kernel)
theorem q_531 : (Jvm.Cond.soleField "NetlistBench$Element" "startsOn") ∈ WG := WG_at 531 (by decide +kernel) (by decide +kernel)
theorem q_532 : (Jvm.Cond.lays "NetlistBench$Element" "NetlistBench$Element" "toggles" "I") ∈ WG := WG_at 532 (by decide +kernel) (by decide +kernel)
theorem q_533 : (Jvm.Cond.soleField "NetlistBench$Element" "toggles") ∈ WG := WG_at 533 (by decide +kernel) (by decide +kernel)
theorem q_534 : (Jvm.Cond.laysFinal "NetlistBench$Element" "NetlistBench$Element" "times" "[I") ∈ WG := WG_at 534 (by decide +kernel) (by decide +kernel)
theorem q_535 : (Jvm.Cond.soleField "NetlistBench$Element" "times") ∈ WG := WG_at 535 (by decide +kernel) (by decide +kernel)
theorem q_536 : (Jvm.Cond.superclass "NetlistBench$Element" "java/lang/Object") ∈ WG := WG_at 536 (by decide +kernel) (by decide +kernel)
theorem q_537 : (Jvm.Cond.methodLink "NetlistBenchLaw" (111 : Nat) ({ cls := "NetlistBenchLaw", name := "resize", desc := "(LNetlistBench;II[J)I" } : Jvm.MethodName)) ∈ WG := WG_at 537 (by decide +kernel) (by decide +kernel)
theorem q_538 : (Jvm.Cond.static ({ cls := "NetlistBenchLaw", name := "resize", desc := "(LNetlistBench;II[J)I" } : Jvm.MethodName)) ∈ WG := WG_at 538 (by decide +kernel) (by decide +kernel)
theorem q_539 : (Jvm.Cond.codeWith ({ cls := "NetlistBenchLaw", name := "resize", desc := "(LNetlistBench;II[J)I" } : Jvm.MethodName) method_6_code (5 : Nat) (Option.some Jvm.ClassFile.FieldType.int) [((0 : Nat), (10 : Nat), (13 : Nat), (19 : Nat)), ((0 : Nat), (10 : Nat), (17 : Nat), (21 : Nat))]) ∈ WG := WG_at 539 (by decide +kernel) (by decide +kernel)
theorem q_540 : (Jvm.Cond.methodLink "NetlistBenchLaw" (27 : Nat) ({ cls := "NetlistBench", name := "resize", desc := "(II)I" } : Jvm.MethodName)) ∈ WG := WG_at 540 (by decide +kernel) (by decide +kernel)
theorem q_541 : (Jvm.Cond.instanceMethod ({ cls := "NetlistBench", name := "resize", desc := "(II)I" } : Jvm.MethodName)) ∈ WG := WG_at 541 (by decide +kernel) (by decide +kernel)
theorem q_542 : (Jvm.Cond.selects "NetlistBench" ({ cls := "NetlistBench", name := "resize", desc := "(II)I" } : Jvm.MethodName) ({ cls := "NetlistBench", name := "resize", desc := "(II)I" } : Jvm.MethodName)) ∈ WG := WG_at 542 (by decide +kernel) (by decide +kernel)
theorem q_543 : (Jvm.Cond.code ({ cls := "NetlistBench", name := "resize", desc := "(II)I" } : Jvm.MethodName) prog_1_method_5_code (5 : Nat) (Option.some Jvm.ClassFile.FieldType.int)) ∈ WG := WG_at 543 (by decide +kernel) (by decide +kernel)
theorem q_544 : (Jvm.Cond.methodLink "NetlistBench" (82 : Nat) ({ cls := "NetlistBench", name := "checkElement", desc := "(I)V" } : Jvm.MethodName)) ∈ WG := WG_at 544 (by decide +kernel) (by decide +kernel)
theorem q_545 : (Jvm.Cond.privateMethod ({ cls := "NetlistBench", name := "checkElement", desc := "(I)V" } : Jvm.MethodName)) ∈ lw_tbl := lw_bad 545 (by decide +kernel)
theorem q_546 : (Jvm.Cond.instanceMethod ({ cls := "NetlistBench", name := "checkElement", desc := "(I)V" } : Jvm.MethodName)) ∈ WG := WG_at 546 (by decide +kernel) (by decide +kernel)
theorem q_547 : (Jvm.Cond.code ({ cls := "NetlistBench", name := "checkElement", desc := "(I)V" } : Jvm.MethodName) prog_1_method_25_code (2 : Nat) (Option.none : Option Jvm.ClassFile.FieldType)) ∈ WG := WG_at 547 (by decide +kernel) (by decide +kernel)
theorem q_548 : (Jvm.Cond.stringRef "NetlistBench" (211 : Nat) "there is no such element") ∈ lw_tbl := lw_bad 548 (by decide +kernel)
theorem q_549 : (Jvm.Cond.methodLink "NetlistBenchLaw" (115 : Nat) ({ cls := "NetlistBenchLaw", name := "begin", desc := "(LNetlistBench;IZ[J)I" } : Jvm.MethodName)) ∈ WG := WG_at 549 (by decide +kernel) (by decide +kernel)
theorem q_550 : (Jvm.Cond.static ({ cls := "NetlistBenchLaw", name := "begin", desc := "(LNetlistBench;IZ[J)I" } : Jvm.MethodName)) ∈ WG := WG_at 550 (by decide +kernel) (by decide +kernel)
theorem q_551 : (Jvm.Cond.codeWith ({ cls := "NetlistBenchLaw", name := "begin", desc := "(LNetlistBench;IZ[J)I" } : Jvm.MethodName) method_7_code (5 : Nat) (Option.some Jvm.ClassFile.FieldType.int) [((0 : Nat), (17 : Nat), (20 : Nat), (19 : Nat))]) ∈ WG := WG_at 551 (by decide +kernel) (by decide +kernel)
theorem q_552 : (Jvm.Cond.methodLink "NetlistBenchLaw" (31 : Nat) ({ cls := "NetlistBench", name := "begin", desc := "(IZ)Z" } : Jvm.MethodName)) ∈ WG := WG_at 552 (by decide +kernel) (by decide +kernel)
theorem q_553 : (Jvm.Cond.instanceMethod ({ cls := "NetlistBench", name := "begin", desc := "(IZ)Z" } : Jvm.MethodName)) ∈ WG := WG_at 553 (by decide +kernel) (by decide +kernel)
theorem q_554 : (Jvm.Cond.selects "NetlistBench" ({ cls := "NetlistBench", name := "begin", desc := "(IZ)Z" } : Jvm.MethodName) ({ cls := "NetlistBench", name := "begin", desc := "(IZ)Z" } : Jvm.MethodName)) ∈ WG := WG_at 554 (by decide +kernel) (by decide +kernel)
theorem q_555 : (Jvm.Cond.code ({ cls := "NetlistBench", name := "begin", desc := "(IZ)Z" } : Jvm.MethodName) prog_1_method_6_code (5 : Nat) (Option.some Jvm.ClassFile.FieldType.boolean)) ∈ WG := WG_at 555 (by decide +kernel) (by decide +kernel)
theorem q_556 : (Jvm.Cond.methodLink "NetlistBenchLaw" (119 : Nat) ({ cls := "NetlistBenchLaw", name := "toggle", desc := "(LNetlistBench;II[J)I" } : Jvm.MethodName)) ∈ WG := WG_at 556 (by decide +kernel) (by decide +kernel)
theorem q_557 : (Jvm.Cond.static ({ cls := "NetlistBenchLaw", name := "toggle", desc := "(LNetlistBench;II[J)I" } : Jvm.MethodName)) ∈ WG := WG_at 557 (by decide +kernel) (by decide +kernel)
theorem q_558 : (Jvm.Cond.codeWith ({ cls := "NetlistBenchLaw", name := "toggle", desc := "(LNetlistBench;II[J)I" } : Jvm.MethodName) method_8_code (5 : Nat) (Option.some Jvm.ClassFile.FieldType.int) [((0 : Nat), (10 : Nat), (13 : Nat), (19 : Nat)), ((0 : Nat), (10 : Nat), (17 : Nat), (21 : Nat)), ((0 : Nat), (10 : Nat), (21 : Nat), (13 : Nat))]) ∈ WG := WG_at 558 (by decide +kernel) (by decide +kernel)
theorem q_559 : (Jvm.Cond.methodLink "NetlistBenchLaw" (35 : Nat) ({ cls := "NetlistBench", name := "toggle", desc := "(II)I" } : Jvm.MethodName)) ∈ WG := WG_at 559 (by decide +kernel) (by decide +kernel)
theorem q_560 : (Jvm.Cond.instanceMethod ({ cls := "NetlistBench", name := "toggle", desc := "(II)I" } : Jvm.MethodName)) ∈ WG := WG_at 560 (by decide +kernel) (by decide +kernel)
theorem q_561 : (Jvm.Cond.selects "NetlistBench" ({ cls := "NetlistBench", name := "toggle", desc := "(II)I" } : Jvm.MethodName) ({ cls := "NetlistBench", name := "toggle", desc := "(II)I" } : Jvm.MethodName)) ∈ WG := WG_at 561 (by decide +kernel) (by decide +kernel)
theorem q_562 : (Jvm.Cond.code ({ cls := "NetlistBench", name := "toggle", desc := "(II)I" } : Jvm.MethodName) prog_1_method_7_code (4 : Nat) (Option.some Jvm.ClassFile.FieldType.int)) ∈ WG := WG_at 562 (by decide +kernel) (by decide +kernel)
theorem q_563 : (Jvm.Cond.stringRef "NetlistBench" (93 : Nat) "the time of a toggle is 1 to 999") ∈ lw_tbl := lw_bad 563 (by decide +kernel)
theorem q_564 : (Jvm.Cond.methodLink "NetlistBench" (95 : Nat) ({ cls := "NetlistBench$Element", name := "hasToggle", desc := "(I)Z" } : Jvm.MethodName)) ∈ WG := WG_at 564 (by decide +kernel) (by decide +kernel)
theorem q_565 : (Jvm.Cond.instanceMethod ({ cls := "NetlistBench$Element", name := "hasToggle", desc := "(I)Z" } : Jvm.MethodName)) ∈ WG := WG_at 565 (by decide +kernel) (by decide +kernel)
theorem q_566 : (Jvm.Cond.selects "NetlistBench$Element" ({ cls := "NetlistBench$Element", name := "hasToggle", desc := "(I)Z" } : Jvm.MethodName) ({ cls := "NetlistBench$Element", name := "hasToggle", desc := "(I)Z" } : Jvm.MethodName)) ∈ WG := WG_at 566 (by decide +kernel) (by decide +kernel)
theorem q_567 : (Jvm.Cond.code ({ cls := "NetlistBench$Element", name := "hasToggle", desc := "(I)Z" } : Jvm.MethodName) prog_2_method_3_code (2 : Nat) (Option.some Jvm.ClassFile.FieldType.boolean)) ∈ WG := WG_at 567 (by decide +kernel) (by decide +kernel)
theorem q_568 : (Jvm.Cond.methodLink "NetlistBench" (99 : Nat) ({ cls := "NetlistBench$Element", name := "dropToggle", desc := "(I)V" } : Jvm.MethodName)) ∈ WG := WG_at 568 (by decide +kernel) (by decide +kernel)
theorem q_569 : (Jvm.Cond.instanceMethod ({ cls := "NetlistBench$Element", name := "dropToggle", desc := "(I)V" } : Jvm.MethodName)) ∈ WG := WG_at 569 (by decide +kernel) (by decide +kernel)
theorem q_570 : (Jvm.Cond.selects "NetlistBench$Element" ({ cls := "NetlistBench$Element", name := "dropToggle", desc := "(I)V" } : Jvm.MethodName) ({ cls := "NetlistBench$Element", name := "dropToggle", desc := "(I)V" } : Jvm.MethodName)) ∈ WG := WG_at 570 (by decide +kernel) (by decide +kernel)
theorem q_571 : (Jvm.Cond.code ({ cls := "NetlistBench$Element", name := "dropToggle", desc := "(I)V" } : Jvm.MethodName) prog_2_method_7_code (3 : Nat) (Option.none : Option Jvm.ClassFile.FieldType)) ∈ WG := WG_at 571 (by decide +kernel) (by decide +kernel)
theorem q_572 : (Jvm.Cond.methodLink "NetlistBench" (105 : Nat) ({ cls := "NetlistBench$Element", name := "putToggle", desc := "(I)V" } : Jvm.MethodName)) ∈ WG := WG_at 572 (by decide +kernel) (by decide +kernel)
theorem q_573 : (Jvm.Cond.instanceMethod ({ cls := "NetlistBench$Element", name := "putToggle", desc := "(I)V" } : Jvm.MethodName)) ∈ WG := WG_at 573 (by decide +kernel) (by decide +kernel)
theorem q_574 : (Jvm.Cond.selects "NetlistBench$Element" ({ cls := "NetlistBench$Element", name := "putToggle", desc := "(I)V" } : Jvm.MethodName) ({ cls := "NetlistBench$Element", name := "putToggle", desc := "(I)V" } : Jvm.MethodName)) ∈ WG := WG_at 574 (by decide +kernel) (by decide +kernel)
theorem q_575 : (Jvm.Cond.code ({ cls := "NetlistBench$Element", name := "putToggle", desc := "(I)V" } : Jvm.MethodName) prog_2_method_6_code (4 : Nat) (Option.none : Option Jvm.ClassFile.FieldType)) ∈ WG := WG_at 575 (by decide +kernel) (by decide +kernel)
theorem q_576 : (Jvm.Cond.stringRef "NetlistBench" (108 : Nat) "the element has 6 toggles") ∈ lw_tbl := lw_bad 576 (by decide +kernel)
theorem q_577 : (Jvm.Cond.methodLink "NetlistBenchLaw" (122 : Nat) ({ cls := "NetlistBenchLaw", name := "count", desc := "(LNetlistBench;I[J)I" } : Jvm.MethodName)) ∈ WG := WG_at 577 (by decide +kernel) (by decide +kernel)
theorem q_578 : (Jvm.Cond.static ({ cls := "NetlistBenchLaw", name := "count", desc := "(LNetlistBench;I[J)I" } : Jvm.MethodName)) ∈ WG := WG_at 578 (by decide +kernel) (by decide +kernel)
theorem q_579 : (Jvm.Cond.codeWith ({ cls := "NetlistBenchLaw", name := "count", desc := "(LNetlistBench;I[J)I" } : Jvm.MethodName) method_9_code (4 : Nat) (Option.some Jvm.ClassFile.FieldType.int) [((0 : Nat), (9 : Nat), (12 : Nat), (19 : Nat))]) ∈ WG := WG_at 579 (by decide +kernel) (by decide +kernel)
theorem q_580 : (Jvm.Cond.methodLink "NetlistBenchLaw" (38 : Nat) ({ cls := "NetlistBench", name := "count", desc := "(I)I" } : Jvm.MethodName)) ∈ WG := WG_at 580 (by decide +kernel) (by decide +kernel)
theorem q_581 : (Jvm.Cond.instanceMethod ({ cls := "NetlistBench", name := "count", desc := "(I)I" } : Jvm.MethodName)) ∈ WG := WG_at 581 (by decide +kernel) (by decide +kernel)
theorem q_582 : (Jvm.Cond.selects "NetlistBench" ({ cls := "NetlistBench", name := "count", desc := "(I)I" } : Jvm.MethodName) ({ cls := "NetlistBench", name := "count", desc := "(I)I" } : Jvm.MethodName)) ∈ WG := WG_at 582 (by decide +kernel) (by decide +kernel)
theorem q_583 : (Jvm.Cond.code ({ cls := "NetlistBench", name := "count", desc := "(I)I" } : Jvm.MethodName) prog_1_method_8_code (2 : Nat) (Option.some Jvm.ClassFile.FieldType.int)) ∈ WG := WG_at 583 (by decide +kernel) (by decide +kernel)
theorem q_584 : (Jvm.Cond.stringRef "NetlistBench" (112 : Nat) "what is counted is 0 to 3") ∈ lw_tbl := lw_bad 584 (by decide +kernel)
theorem q_585 : (Jvm.Cond.methodLink "NetlistBenchLaw" (126 : Nat) ({ cls := "NetlistBenchLaw", name := "element", desc := "(LNetlistBench;II[J)I" } : Jvm.MethodName)) ∈ WG := WG_at 585 (by decide +kernel) (by decide +kernel)
theorem q_586 : (Jvm.Cond.static ({ cls := "NetlistBenchLaw", name := "element", desc := "(LNetlistBench;II[J)I" } : Jvm.MethodName)) ∈ WG := WG_at 586 (by decide +kernel) (by decide +kernel)
theorem q_587 : (Jvm.Cond.codeWith ({ cls := "NetlistBenchLaw", name := "element", desc := "(LNetlistBench;II[J)I" } : Jvm.MethodName) method_10_code (5 : Nat) (Option.some Jvm.ClassFile.FieldType.int) [((0 : Nat), (10 : Nat), (13 : Nat), (19 : Nat))]) ∈ WG := WG_at 587 (by decide +kernel) (by decide +kernel)
theorem q_588 : (Jvm.Cond.methodLink "NetlistBenchLaw" (42 : Nat) ({ cls := "NetlistBench", name := "element", desc := "(II)I" } : Jvm.MethodName)) ∈ WG := WG_at 588 (by decide +kernel) (by decide +kernel)
theorem q_589 : (Jvm.Cond.instanceMethod ({ cls := "NetlistBench", name := "element", desc := "(II)I" } : Jvm.MethodName)) ∈ WG := WG_at 589 (by decide +kernel) (by decide +kernel)
theorem q_590 : (Jvm.Cond.selects "NetlistBench" ({ cls := "NetlistBench", name := "element", desc := "(II)I" } : Jvm.MethodName) ({ cls := "NetlistBench", name := "element", desc := "(II)I" } : Jvm.MethodName)) ∈ WG := WG_at 590 (by decide +kernel) (by decide +kernel)
theorem q_591 : (Jvm.Cond.code ({ cls := "NetlistBench", name := "element", desc := "(II)I" } : Jvm.MethodName) prog_1_method_9_code (3 : Nat) (Option.some Jvm.ClassFile.FieldType.int)) ∈ WG := WG_at 591 (by decide +kernel) (by decide +kernel)
theorem q_592 : (Jvm.Cond.stringRef "NetlistBench" (119 : Nat) "what is told of an element is 0 to 5") ∈ lw_tbl := lw_bad 592 (by decide +kernel)
theorem q_593 : (Jvm.Cond.methodLink "NetlistBenchLaw" (129 : Nat) ({ cls := "NetlistBenchLaw", name := "toggleAt", desc := "(LNetlistBench;II[J)I" } : Jvm.MethodName)) ∈ WG := WG_at 593 (by decide +kernel) (by decide +kernel)
theorem q_594 : (Jvm.Cond.static ({ cls := "NetlistBenchLaw", name := "toggleAt", desc := "(LNetlistBench;II[J)I" } : Jvm.MethodName)) ∈ WG := WG_at 594 (by decide +kernel) (by decide +kernel)
theorem q_595 : (Jvm.Cond.codeWith ({ cls := "NetlistBenchLaw", name := "toggleAt", desc := "(LNetlistBench;II[J)I" } : Jvm.MethodName) method_11_code (5 : Nat) (Option.some Jvm.ClassFile.FieldType.int) [((0 : Nat), (10 : Nat), (13 : Nat), (19 : Nat))]) ∈ WG := WG_at 595 (by decide +kernel) (by decide +kernel)
theorem q_596 : (Jvm.Cond.methodLink "NetlistBenchLaw" (45 : Nat) ({ cls := "NetlistBench", name := "toggleAt", desc := "(II)I" } : Jvm.MethodName)) ∈ WG := WG_at 596 (by decide +kernel) (by decide +kernel)
theorem q_597 : (Jvm.Cond.instanceMethod ({ cls := "NetlistBench", name := "toggleAt", desc := "(II)I" } : Jvm.MethodName)) ∈ WG := WG_at 597 (by decide +kernel) (by decide +kernel)
theorem q_598 : (Jvm.Cond.selects "NetlistBench" ({ cls := "NetlistBench", name := "toggleAt", desc := "(II)I" } : Jvm.MethodName) ({ cls := "NetlistBench", name := "toggleAt", desc := "(II)I" } : Jvm.MethodName)) ∈ WG := WG_at 598 (by decide +kernel) (by decide +kernel)
theorem q_599 : (Jvm.Cond.code ({ cls := "NetlistBench", name := "toggleAt", desc := "(II)I" } : Jvm.MethodName) prog_1_method_10_code (4 : Nat) (Option.some Jvm.ClassFile.FieldType.int)) ∈ WG := WG_at 599 (by decide +kernel) (by decide +kernel)
theorem q_600 : (Jvm.Cond.stringRef "NetlistBench" (124 : Nat) "there is no such toggle") ∈ lw_tbl := lw_bad 600 (by decide +kernel)
theorem q_601 : (Jvm.Cond.methodLink "NetlistBenchLaw" (132 : Nat) ({ cls := "NetlistBenchLaw", name := "isOn", desc := "(LNetlistBench;II[J)I" } : Jvm.MethodName)) ∈ WG := WG_at 601 (by decide +kernel) (by decide +kernel)
theorem q_602 : (Jvm.Cond.static ({ cls := "NetlistBenchLaw", name := "isOn", desc := "(LNetlistBench;II[J)I" } : Jvm.MethodName)) ∈ WG := WG_at 602 (by decide +kernel) (by decide +kernel)
theorem q_603 : (Jvm.Cond.codeWith ({ cls := "NetlistBenchLaw", name := "isOn", desc := "(LNetlistBench;II[J)I" } : Jvm.MethodName) method_12_code (5 : Nat) (Option.some Jvm.ClassFile.FieldType.int) [((0 : Nat), (17 : Nat), (20 : Nat), (19 : Nat)), ((0 : Nat), (17 : Nat), (24 : Nat), (21 : Nat))]) ∈ WG := WG_at 603 (by decide +kernel) (by decide +kernel)
theorem q_604 : (Jvm.Cond.methodLink "NetlistBenchLaw" (48 : Nat) ({ cls := "NetlistBench", name := "isOn", desc := "(II)Z" } : Jvm.MethodName)) ∈ WG := WG_at 604 (by decide +kernel) (by decide +kernel)
theorem q_605 : (Jvm.Cond.instanceMethod ({ cls := "NetlistBench", name := "isOn", desc := "(II)Z" } : Jvm.MethodName)) ∈ WG := WG_at 605 (by decide +kernel) (by decide +kernel)
theorem q_606 : (Jvm.Cond.selects "NetlistBench" ({ cls := "NetlistBench", name := "isOn", desc := "(II)Z" } : Jvm.MethodName) ({ cls := "NetlistBench", name := "isOn", desc := "(II)Z" } : Jvm.MethodName)) ∈ WG := WG_at 606 (by decide +kernel) (by decide +kernel)
theorem q_607 : (Jvm.Cond.code ({ cls := "NetlistBench", name := "isOn", desc := "(II)Z" } : Jvm.MethodName) prog_1_method_11_code (3 : Nat) (Option.some Jvm.ClassFile.FieldType.boolean)) ∈ WG := WG_at 607 (by decide +kernel) (by decide +kernel)
theorem q_608 : (Jvm.Cond.methodLink "NetlistBench" (129 : Nat) ({ cls := "NetlistBench", name := "checkTime", desc := "(I)V" } : Jvm.MethodName)) ∈ WG := WG_at 608 (by decide +kernel) (by decide +kernel)
theorem q_609 : (Jvm.Cond.static ({ cls := "NetlistBench", name := "checkTime", desc := "(I)V" } : Jvm.MethodName)) ∈ WG := WG_at 609 (by decide +kernel) (by decide +kernel)
theorem q_610 : (Jvm.Cond.code ({ cls := "NetlistBench", name := "checkTime", desc := "(I)V" } : Jvm.MethodName) prog_1_method_26_code (1 : Nat) (Option.none : Option Jvm.ClassFile.FieldType)) ∈ WG := WG_at 610 (by decide +kernel) (by decide +kernel)
theorem q_611 : (Jvm.Cond.stringRef "NetlistBench" (213 : Nat) "a time is 0 to 999") ∈ lw_tbl := lw_bad 611 (by decide +kernel)
theorem q_612 : (Jvm.Cond.methodLink "NetlistBenchLaw" (135 : Nat) ({ cls := "NetlistBenchLaw", name := "together", desc := "(LNetlistBench;II[J)I" } : Jvm.MethodName)) ∈ WG := WG_at 612 (by decide +kernel) (by decide +kernel)
theorem q_613 : (Jvm.Cond.static ({ cls := "NetlistBenchLaw", name := "together", desc := "(LNetlistBench;II[J)I" } : Jvm.MethodName)) ∈ WG := WG_at 613 (by decide +kernel) (by decide +kernel)
theorem q_614 : (Jvm.Cond.codeWith ({ cls := "NetlistBenchLaw", name := "together", desc := "(LNetlistBench;II[J)I" } : Jvm.MethodName) method_13_code (5 : Nat) (Option.some Jvm.ClassFile.FieldType.int) [((0 : Nat), (10 : Nat), (13 : Nat), (19 : Nat)), ((0 : Nat), (10 : Nat), (17 : Nat), (21 : Nat))]) ∈ WG := WG_at 614 (by decide +kernel) (by decide +kernel)
theorem q_615 : (Jvm.Cond.methodLink "NetlistBenchLaw" (52 : Nat) ({ cls := "NetlistBench", name := "together", desc := "(II)I" } : Jvm.MethodName)) ∈ WG := WG_at 615 (by decide +kernel) (by decide +kernel)
theorem q_616 : (Jvm.Cond.instanceMethod ({ cls := "NetlistBench", name := "together", desc := "(II)I" } : Jvm.MethodName)) ∈ WG := WG_at 616 (by decide +kernel) (by decide +kernel)
theorem q_617 : (Jvm.Cond.selects "NetlistBench" ({ cls := "NetlistBench", name := "together", desc := "(II)I" } : Jvm.MethodName) ({ cls := "NetlistBench", name := "together", desc := "(II)I" } : Jvm.MethodName)) ∈ WG := WG_at 617 (by decide +kernel) (by decide +kernel)
theorem q_618 : (Jvm.Cond.code ({ cls := "NetlistBench", name := "together", desc := "(II)I" } : Jvm.MethodName) prog_1_method_12_code (3 : Nat) (Option.some Jvm.ClassFile.FieldType.int)) ∈ WG := WG_at 618 (by decide +kernel) (by decide +kernel)
theorem q_619 : (Jvm.Cond.methodLink "NetlistBenchLaw" (138 : Nat) ({ cls := "NetlistBenchLaw", name := "floats", desc := "(LNetlistBench;II[J)I" } : Jvm.MethodName)) ∈ WG := WG_at 619 (by decide +kernel) (by decide +kernel)
theorem q_620 : (Jvm.Cond.static ({ cls := "NetlistBenchLaw", name := "floats", desc := "(LNetlistBench;II[J)I" } : Jvm.MethodName)) ∈ WG := WG_at 620 (by decide +kernel) (by decide +kernel)
theorem q_621 : (Jvm.Cond.codeWith ({ cls := "NetlistBenchLaw", name := "floats", desc := "(LNetlistBench;II[J)I" } : Jvm.MethodName) method_14_code (5 : Nat) (Option.some Jvm.ClassFile.FieldType.int) [((0 : Nat), (17 : Nat), (20 : Nat), (19 : Nat)), ((0 : Nat), (17 : Nat), (24 : Nat), (21 : Nat))]) ∈ WG := WG_at 621 (by decide +kernel) (by decide +kernel)
theorem q_622 : (Jvm.Cond.methodLink "NetlistBenchLaw" (55 : Nat) ({ cls := "NetlistBench", name := "floats", desc := "(II)Z" } : Jvm.MethodName)) ∈ WG := WG_at 622 (by decide +kernel) (by decide +kernel)
theorem q_623 : (Jvm.Cond.instanceMethod ({ cls := "NetlistBench", name := "floats", desc := "(II)Z" } : Jvm.MethodName)) ∈ WG := WG_at 623 (by decide +kernel) (by decide +kernel)
theorem q_624 : (Jvm.Cond.selects "NetlistBench" ({ cls := "NetlistBench", name := "floats", desc := "(II)Z" } : Jvm.MethodName) ({ cls := "NetlistBench", name := "floats", desc := "(II)Z" } : Jvm.MethodName)) ∈ WG := WG_at 624 (by decide +kernel) (by decide +kernel)
theorem q_625 : (Jvm.Cond.code ({ cls := "NetlistBench", name := "floats", desc := "(II)Z" } : Jvm.MethodName) prog_1_method_13_code (3 : Nat) (Option.some Jvm.ClassFile.FieldType.boolean)) ∈ WG := WG_at 625 (by decide +kernel) (by decide +kernel)
theorem q_626 : (Jvm.Cond.methodLink "NetlistBenchLaw" (141 : Nat) ({ cls := "NetlistBenchLaw", name := "potential", desc := "(LNetlistBench;IIZ[J)I" } : Jvm.MethodName)) ∈ WG := WG_at 626 (by decide +kernel) (by decide +kernel)
theorem q_627 : (Jvm.Cond.static ({ cls := "NetlistBenchLaw", name := "potential", desc := "(LNetlistBench;IIZ[J)I" } : Jvm.MethodName)) ∈ WG := WG_at 627 (by decide +kernel) (by decide +kernel)
theorem q_628 : (Jvm.Cond.codeWith ({ cls := "NetlistBenchLaw", name := "potential", desc := "(LNetlistBench;IIZ[J)I" } : Jvm.MethodName) method_15_code (6 : Nat) (Option.some Jvm.ClassFile.FieldType.int) [((0 : Nat), (11 : Nat), (14 : Nat), (19 : Nat)), ((0 : Nat), (11 : Nat), (18 : Nat), (21 : Nat)), ((0 : Nat), (11 : Nat), (22 : Nat), (13 : Nat))]) ∈ WG := WG_at 628 (by decide +kernel) (by decide +kernel)
theorem q_629 : (Jvm.Cond.methodLink "NetlistBenchLaw" (58 : Nat) ({ cls := "NetlistBench", name := "potential", desc := "(IIZ)J" } : Jvm.MethodName)) ∈ WG := WG_at 629 (by decide +kernel) (by decide +kernel)
theorem q_630 : (Jvm.Cond.instanceMethod ({ cls := "NetlistBench", name := "potential", desc := "(IIZ)J" } : Jvm.MethodName)) ∈ WG := WG_at 630 (by decide +kernel) (by decide +kernel)
theorem q_631 : (Jvm.Cond.selects "NetlistBench" ({ cls := "NetlistBench", name := "potential", desc := "(IIZ)J" } : Jvm.MethodName) ({ cls := "NetlistBench", name := "potential", desc := "(IIZ)J" } : Jvm.MethodName)) ∈ WG := WG_at 631 (by decide +kernel) (by decide +kernel)
theorem q_632 : (Jvm.Cond.code ({ cls := "NetlistBench", name := "potential", desc := "(IIZ)J" } : Jvm.MethodName) prog_1_method_14_code (4 : Nat) (Option.some Jvm.ClassFile.FieldType.long)) ∈ WG := WG_at 632 (by decide +kernel) (by decide +kernel)
theorem q_633 : (Jvm.Cond.methodLink "NetlistBench" (144 : Nat) ({ cls := "NetlistBench", name := "checkGrounded", desc := "(I)V" } : Jvm.MethodName)) ∈ WG := WG_at 633 (by decide +kernel) (by decide +kernel)
theorem q_634 : (Jvm.Cond.privateMethod ({ cls := "NetlistBench", name := "checkGrounded", desc := "(I)V" } : Jvm.MethodName)) ∈ lw_tbl := lw_bad 634 (by decide +kernel)
theorem q_635 : (Jvm.Cond.instanceMethod ({ cls := "NetlistBench", name := "checkGrounded", desc := "(I)V" } : Jvm.MethodName)) ∈ WG := WG_at 635 (by decide +kernel) (by decide +kernel)
theorem q_636 : (Jvm.Cond.code ({ cls := "NetlistBench", name := "checkGrounded", desc := "(I)V" } : Jvm.MethodName) prog_1_method_28_code (2 : Nat) (Option.none : Option Jvm.ClassFile.FieldType)) ∈ WG := WG_at 636 (by decide +kernel) (by decide +kernel)
theorem q_637 : (Jvm.Cond.stringRef "NetlistBench" (217 : Nat) "the node floats") ∈ lw_tbl := lw_bad 637 (by decide +kernel)
theorem q_638 : (Jvm.Cond.methodLink "NetlistBenchLaw" (145 : Nat) ({ cls := "NetlistBenchLaw", name := "current", desc := "(LNetlistBench;IIZ[J)I" } : Jvm.MethodName)) ∈ WG := WG_at 638 (by decide +kernel) (by decide +kernel)
theorem q_639 : (Jvm.Cond.static ({ cls := "NetlistBenchLaw", name := "current", desc := "(LNetlistBench;IIZ[J)I" } : Jvm.MethodName)) ∈ WG := WG_at 639 (by decide +kernel) (by decide +kernel)
theorem q_640 : (Jvm.Cond.codeWith ({ cls := "NetlistBenchLaw", name := "current", desc := "(LNetlistBench;IIZ[J)I" } : Jvm.MethodName) method_16_code (6 : Nat) (Option.some Jvm.ClassFile.FieldType.int) [((0 : Nat), (11 : Nat), (14 : Nat), (19 : Nat)), ((0 : Nat), (11 : Nat), (18 : Nat), (21 : Nat)), ((0 : Nat), (11 : Nat), (22 : Nat), (13 : Nat))]) ∈ WG := WG_at 640 (by decide +kernel) (by decide +kernel)
theorem q_641 : (Jvm.Cond.methodLink "NetlistBenchLaw" (62 : Nat) ({ cls := "NetlistBench", name := "current", desc := "(IIZ)J" } : Jvm.MethodName)) ∈ WG := WG_at 641 (by decide +kernel) (by decide +kernel)
theorem q_642 : (Jvm.Cond.instanceMethod ({ cls := "NetlistBench", name := "current", desc := "(IIZ)J" } : Jvm.MethodName)) ∈ WG := WG_at 642 (by decide +kernel) (by decide +kernel)
theorem q_643 : (Jvm.Cond.selects "NetlistBench" ({ cls := "NetlistBench", name := "current", desc := "(IIZ)J" } : Jvm.MethodName) ({ cls := "NetlistBench", name := "current", desc := "(IIZ)J" } : Jvm.MethodName)) ∈ WG := WG_at 643 (by decide +kernel) (by decide +kernel)
theorem q_644 : (Jvm.Cond.code ({ cls := "NetlistBench", name := "current", desc := "(IIZ)J" } : Jvm.MethodName) prog_1_method_15_code (5 : Nat) (Option.some Jvm.ClassFile.FieldType.long)) ∈ WG := WG_at 644 (by decide +kernel) (by decide +kernel)
theorem q_645 : (Jvm.Cond.methodLink "NetlistBench" (162 : Nat) ({ cls := "NetlistBench", name := "flowOut", desc := "(LNetlistBench$Element;I)J" } : Jvm.MethodName)) ∈ WG := WG_at 645 (by decide +kernel) (by decide +kernel)
theorem q_646 : (Jvm.Cond.privateMethod ({ cls := "NetlistBench", name := "flowOut", desc := "(LNetlistBench$Element;I)J" } : Jvm.MethodName)) ∈ lw_tbl := lw_bad 646 (by decide +kernel)
theorem q_647 : (Jvm.Cond.instanceMethod ({ cls := "NetlistBench", name := "flowOut", desc := "(LNetlistBench$Element;I)J" } : Jvm.MethodName)) ∈ WG := WG_at 647 (by decide +kernel) (by decide +kernel)
theorem q_648 : (Jvm.Cond.code ({ cls := "NetlistBench", name := "flowOut", desc := "(LNetlistBench$Element;I)J" } : Jvm.MethodName) prog_1_method_36_code (5 : Nat) (Option.some Jvm.ClassFile.FieldType.long)) ∈ WG := WG_at 648 (by decide +kernel) (by decide +kernel)
theorem q_649 : (Jvm.Cond.methodLink "NetlistBenchLaw" (148 : Nat) ({ cls := "NetlistBenchLaw", name := "feed", desc := "(LNetlistBench;IIZ[J)I" } : Jvm.MethodName)) ∈ WG := WG_at 649 (by decide +kernel) (by decide +kernel)
theorem q_650 : (Jvm.Cond.static ({ cls := "NetlistBenchLaw", name := "feed", desc := "(LNetlistBench;IIZ[J)I" } : Jvm.MethodName)) ∈ WG := WG_at 650 (by decide +kernel) (by decide +kernel)
theorem q_651 : (Jvm.Cond.codeWith ({ cls := "NetlistBenchLaw", name := "feed", desc := "(LNetlistBench;IIZ[J)I" } : Jvm.MethodName) method_17_code (6 : Nat) (Option.some Jvm.ClassFile.FieldType.int) [((0 : Nat), (11 : Nat), (14 : Nat), (19 : Nat)), ((0 : Nat), (11 : Nat), (18 : Nat), (21 : Nat)), ((0 : Nat), (11 : Nat), (22 : Nat), (13 : Nat))]) ∈ WG := WG_at 651 (by decide +kernel) (by decide +kernel)
theorem q_652 : (Jvm.Cond.methodLink "NetlistBenchLaw" (65 : Nat) ({ cls := "NetlistBench", name := "feed", desc := "(IIZ)J" } : Jvm.MethodName)) ∈ WG := WG_at 652 (by decide +kernel) (by decide +kernel)
theorem q_653 : (Jvm.Cond.instanceMethod ({ cls := "NetlistBench", name := "feed", desc := "(IIZ)J" } : Jvm.MethodName)) ∈ WG := WG_at 653 (by decide +kernel) (by decide +kernel)
theorem q_654 : (Jvm.Cond.selects "NetlistBench" ({ cls := "NetlistBench", name := "feed", desc := "(IIZ)J" } : Jvm.MethodName) ({ cls := "NetlistBench", name := "feed", desc := "(IIZ)J" } : Jvm.MethodName)) ∈ WG := WG_at 654 (by decide +kernel) (by decide +kernel)
theorem q_655 : (Jvm.Cond.code ({ cls := "NetlistBench", name := "feed", desc := "(IIZ)J" } : Jvm.MethodName) prog_1_method_16_code (8 : Nat) (Option.some Jvm.ClassFile.FieldType.long)) ∈ WG := WG_at 655 (by decide +kernel) (by decide +kernel)
theorem q_656 : (Jvm.Cond.stringRef "NetlistBench" (166 : Nat) "the node is no rail") ∈ lw_tbl := lw_bad 656 (by decide +kernel)
theorem q_657 : (Jvm.Cond.methodLink "NetlistBenchLaw" (151 : Nat) ({ cls := "NetlistBenchLaw", name := "resistance", desc := "(LNetlistBench;IIIZ[J)I" } : Jvm.MethodName)) ∈ WG := WG_at 657 (by decide +kernel) (by decide +kernel)
theorem q_658 : (Jvm.Cond.static ({ cls := "NetlistBenchLaw", name := "resistance", desc := "(LNetlistBench;IIIZ[J)I" } : Jvm.MethodName)) ∈ WG := WG_at 658 (by decide +kernel) (by decide +kernel)
theorem q_659 : (Jvm.Cond.codeWith ({ cls := "NetlistBenchLaw", name := "resistance", desc := "(LNetlistBench;IIIZ[J)I" } : Jvm.MethodName) method_18_code (7 : Nat) (Option.some Jvm.ClassFile.FieldType.int) [((0 : Nat), (13 : Nat), (16 : Nat), (19 : Nat)), ((0 : Nat), (13 : Nat), (20 : Nat), (21 : Nat)), ((0 : Nat), (13 : Nat), (24 : Nat), (13 : Nat))]) ∈ WG := WG_at 659 (by decide +kernel) (by decide +kernel)
theorem q_660 : (Jvm.Cond.methodLink "NetlistBenchLaw" (68 : Nat) ({ cls := "NetlistBench", name := "resistance", desc := "(IIIZ)J" } : Jvm.MethodName)) ∈ WG := WG_at 660 (by decide +kernel) (by decide +kernel)
theorem q_661 : (Jvm.Cond.instanceMethod ({ cls := "NetlistBench", name := "resistance", desc := "(IIIZ)J" } : Jvm.MethodName)) ∈ WG := WG_at 661 (by decide +kernel) (by decide +kernel)
theorem q_662 : (Jvm.Cond.selects "NetlistBench" ({ cls := "NetlistBench", name := "resistance", desc := "(IIIZ)J" } : Jvm.MethodName) ({ cls := "NetlistBench", name := "resistance", desc := "(IIIZ)J" } : Jvm.MethodName)) ∈ WG := WG_at 662 (by decide +kernel) (by decide +kernel)
theorem q_663 : (Jvm.Cond.code ({ cls := "NetlistBench", name := "resistance", desc := "(IIIZ)J" } : Jvm.MethodName) prog_1_method_17_code (5 : Nat) (Option.some Jvm.ClassFile.FieldType.long)) ∈ WG := WG_at 663 (by decide +kernel) (by decide +kernel)
theorem q_664 : (Jvm.Cond.stringRef "NetlistBench" (172 : Nat) "the nodes do not hang together") ∈ lw_tbl := lw_bad 664 (by decide +kernel)
theorem q_665 : (Jvm.Cond.methodLink "NetlistBench" (174 : Nat) ({ cls := "NetlistBench", name := "drive", desc := "(III)V" } : Jvm.MethodName)) ∈ WG := WG_at 665 (by decide +kernel) (by decide +kernel)
theorem q_666 : (Jvm.Cond.privateMethod ({ cls := "NetlistBench", name := "drive", desc := "(III)V" } : Jvm.MethodName)) ∈ lw_tbl := lw_bad 666 (by decide +kernel)
theorem q_667 : (Jvm.Cond.instanceMethod ({ cls := "NetlistBench", name := "drive", desc := "(III)V" } : Jvm.MethodName)) ∈ WG := WG_at 667 (by decide +kernel) (by decide +kernel)
theorem q_668 : (Jvm.Cond.code ({ cls := "NetlistBench", name := "drive", desc := "(III)V" } : Jvm.MethodName) prog_1_method_34_code (5 : Nat) (Option.none : Option Jvm.ClassFile.FieldType)) ∈ WG := WG_at 668 (by decide +kernel) (by decide +kernel)
theorem q_669 : (Jvm.Cond.methodLink "NetlistBenchLaw" (155 : Nat) ({ cls := "NetlistBenchLaw", name := "power", desc := "(LNetlistBench;I[D)I" } : Jvm.MethodName)) ∈ WG := WG_at 669 (by decide +kernel) (by decide +kernel)
theorem q_670 : (Jvm.Cond.static ({ cls := "NetlistBenchLaw", name := "power", desc := "(LNetlistBench;I[D)I" } : Jvm.MethodName)) ∈ WG := WG_at 670 (by decide +kernel) (by decide +kernel)
theorem q_671 : (Jvm.Cond.codeWith ({ cls := "NetlistBenchLaw", name := "power", desc := "(LNetlistBench;I[D)I" } : Jvm.MethodName) method_19_code (4 : Nat) (Option.some Jvm.ClassFile.FieldType.int) [((0 : Nat), (8 : Nat), (11 : Nat), (21 : Nat))]) ∈ WG := WG_at 671 (by decide +kernel) (by decide +kernel)
theorem q_672 : (Jvm.Cond.methodLink "NetlistBenchLaw" (72 : Nat) ({ cls := "NetlistBench", name := "power", desc := "(I)D" } : Jvm.MethodName)) ∈ WG := WG_at 672 (by decide +kernel) (by decide +kernel)
theorem q_673 : (Jvm.Cond.instanceMethod ({ cls := "NetlistBench", name := "power", desc := "(I)D" } : Jvm.MethodName)) ∈ WG := WG_at 673 (by decide +kernel) (by decide +kernel)
theorem q_674 : (Jvm.Cond.selects "NetlistBench" ({ cls := "NetlistBench", name := "power", desc := "(I)D" } : Jvm.MethodName) ({ cls := "NetlistBench", name := "power", desc := "(I)D" } : Jvm.MethodName)) ∈ WG := WG_at 674 (by decide +kernel) (by decide +kernel)
theorem q_675 : (Jvm.Cond.code ({ cls := "NetlistBench", name := "power", desc := "(I)D" } : Jvm.MethodName) prog_1_method_18_code (8 : Nat) (Option.some Jvm.ClassFile.FieldType.double)) ∈ WG := WG_at 675 (by decide +kernel) (by decide +kernel)
theorem q_676 : (Jvm.Cond.methodLink "NetlistBench" (178 : Nat) ({ cls := "NetlistBench", name := "quotientAt", desc := "(I)D" } : Jvm.MethodName)) ∈ WG := WG_at 676 (by decide +kernel) (by decide +kernel)
theorem q_677 : (Jvm.Cond.privateMethod ({ cls := "NetlistBench", name := "quotientAt", desc := "(I)D" } : Jvm.MethodName)) ∈ lw_tbl := lw_bad 677 (by decide +kernel)
theorem q_678 : (Jvm.Cond.instanceMethod ({ cls := "NetlistBench", name := "quotientAt", desc := "(I)D" } : Jvm.MethodName)) ∈ WG := WG_at 678 (by decide +kernel) (by decide +kernel)
theorem q_679 : (Jvm.Cond.code ({ cls := "NetlistBench", name := "quotientAt", desc := "(I)D" } : Jvm.MethodName) prog_1_method_37_code (6 : Nat) (Option.some Jvm.ClassFile.FieldType.double)) ∈ WG := WG_at 679 (by decide +kernel) (by decide +kernel)
theorem q_680 : (Jvm.Cond.methodLink "NetlistBenchLaw" (159 : Nat) ({ cls := "NetlistBenchLaw", name := "nextToggle", desc := "(LNetlistBench;I[J)I" } : Jvm.MethodName)) ∈ WG := WG_at 680 (by decide +kernel) (by decide +kernel)
theorem q_681 : (Jvm.Cond.static ({ cls := "NetlistBenchLaw", name := "nextToggle", desc := "(LNetlistBench;I[J)I" } : Jvm.MethodName)) ∈ WG := WG_at 681 (by decide +kernel) (by decide +kernel)
theorem q_682 : (Jvm.Cond.codeWith ({ cls := "NetlistBenchLaw", name := "nextToggle", desc := "(LNetlistBench;I[J)I" } : Jvm.MethodName) method_20_code (4 : Nat) (Option.some Jvm.ClassFile.FieldType.int) [((0 : Nat), (9 : Nat), (12 : Nat), (21 : Nat))]) ∈ WG := WG_at 682 (by decide +kernel) (by decide +kernel)
theorem q_683 : (Jvm.Cond.methodLink "NetlistBenchLaw" (76 : Nat) ({ cls := "NetlistBench", name := "nextToggle", desc := "(I)I" } : Jvm.MethodName)) ∈ WG := WG_at 683 (by decide +kernel) (by decide +kernel)
theorem q_684 : (Jvm.Cond.instanceMethod ({ cls := "NetlistBench", name := "nextToggle", desc := "(I)I" } : Jvm.MethodName)) ∈ WG := WG_at 684 (by decide +kernel) (by decide +kernel)
theorem q_685 : (Jvm.Cond.selects "NetlistBench" ({ cls := "NetlistBench", name := "nextToggle", desc := "(I)I" } : Jvm.MethodName) ({ cls := "NetlistBench", name := "nextToggle", desc := "(I)I" } : Jvm.MethodName)) ∈ WG := WG_at 685 (by decide +kernel) (by decide +kernel)
theorem q_686 : (Jvm.Cond.code ({ cls := "NetlistBench", name := "nextToggle", desc := "(I)I" } : Jvm.MethodName) prog_1_method_19_code (2 : Nat) (Option.some Jvm.ClassFile.FieldType.int)) ∈ WG := WG_at 686 (by decide +kernel) (by decide +kernel)
theorem q_687 : (Jvm.Cond.methodLink "NetlistBenchLaw" (162 : Nat) ({ cls := "NetlistBenchLaw", name := "probe", desc := "(LNetlistBench;IIIZ[J)I" } : Jvm.MethodName)) ∈ WG := WG_at 687 (by decide +kernel) (by decide +kernel)
theorem q_688 : (Jvm.Cond.static ({ cls := "NetlistBenchLaw", name := "probe", desc := "(LNetlistBench;IIIZ[J)I" } : Jvm.MethodName)) ∈ WG := WG_at 688 (by decide +kernel) (by decide +kernel)
theorem q_689 : (Jvm.Cond.codeWith ({ cls := "NetlistBenchLaw", name := "probe", desc := "(LNetlistBench;IIIZ[J)I" } : Jvm.MethodName) method_21_code (7 : Nat) (Option.some Jvm.ClassFile.FieldType.int) [((0 : Nat), (14 : Nat), (17 : Nat), (19 : Nat)), ((0 : Nat), (14 : Nat), (21 : Nat), (21 : Nat))]) ∈ WG := WG_at 689 (by decide +kernel) (by decide +kernel)
theorem q_690 : (Jvm.Cond.methodLink "NetlistBenchLaw" (79 : Nat) ({ cls := "NetlistBench", name := "probe", desc := "(IIIZ)I" } : Jvm.MethodName)) ∈ WG := WG_at 690 (by decide +kernel) (by decide +kernel)
theorem q_691 : (Jvm.Cond.instanceMethod ({ cls := "NetlistBench", name := "probe", desc := "(IIIZ)I" } : Jvm.MethodName)) ∈ WG := WG_at 691 (by decide +kernel) (by decide +kernel)
theorem q_692 : (Jvm.Cond.selects "NetlistBench" ({ cls := "NetlistBench", name := "probe", desc := "(IIIZ)I" } : Jvm.MethodName) ({ cls := "NetlistBench", name := "probe", desc := "(IIIZ)I" } : Jvm.MethodName)) ∈ WG := WG_at 692 (by decide +kernel) (by decide +kernel)
theorem q_693 : (Jvm.Cond.code ({ cls := "NetlistBench", name := "probe", desc := "(IIIZ)I" } : Jvm.MethodName) prog_1_method_20_code (17 : Nat) (Option.some Jvm.ClassFile.FieldType.int)) ∈ WG := WG_at 693 (by decide +kernel) (by decide +kernel)
theorem q_694 : (Jvm.Cond.stringRef "NetlistBench" (188 : Nat) "the last time is before the first one") ∈ lw_tbl := lw_bad 694 (by decide +kernel)
theorem q_695 : (Jvm.Cond.methodLink "NetlistBench" (190 : Nat) ({ cls := "NetlistBench", name := "compareFractions", desc := "(JJJJ)I" } : Jvm.MethodName)) ∈ WG := WG_at 695 (by decide +kernel) (by decide +kernel)
theorem q_696 : (Jvm.Cond.static ({ cls := "NetlistBench", name := "compareFractions", desc := "(JJJJ)I" } : Jvm.MethodName)) ∈ WG := WG_at 696 (by decide +kernel) (by decide +kernel)
theorem q_697 : (Jvm.Cond.code ({ cls := "NetlistBench", name := "compareFractions", desc := "(JJJJ)I" } : Jvm.MethodName) prog_1_method_49_code (23 : Nat) (Option.some Jvm.ClassFile.FieldType.int)) ∈ WG := WG_at 697 (by decide +kernel) (by decide +kernel)
theorem q_698 : (Jvm.Cond.methodLink "NetlistBench" (274 : Nat) ({ cls := "java/lang/Math", name := "floorDiv", desc := "(JJ)J" } : Jvm.MethodName)) ∈ WG := WG_at 698 (by decide +kernel) (by decide +kernel)
theorem q_699 : (Jvm.Cond.static ({ cls := "java/lang/Math", name := "floorDiv", desc := "(JJ)J" } : Jvm.MethodName)) ∈ WG := WG_at 699 (by decide +kernel) (by decide +kernel)
theorem q_700 : (Jvm.Cond.code ({ cls := "java/lang/Math", name := "floorDiv", desc := "(JJ)J" } : Jvm.MethodName) prog_16_method_49_code (6 : Nat) (Option.some Jvm.ClassFile.FieldType.long)) ∈ WG := WG_at 700 (by decide +kernel) (by decide +kernel)
theorem q_701 : (Jvm.Cond.methodLink "NetlistBench" (277 : Nat) ({ cls := "java/lang/Long", name := "compare", desc := "(JJ)I" } : Jvm.MethodName)) ∈ WG := WG_at 701 (by decide +kernel) (by decide +kernel)
theorem q_702 : (Jvm.Cond.static ({ cls := "java/lang/Long", name := "compare", desc := "(JJ)I" } : Jvm.MethodName)) ∈ WG := WG_at 702 (by decide +kernel) (by decide +kernel)
theorem q_703 : (Jvm.Cond.code ({ cls := "java/lang/Long", name := "compare", desc := "(JJ)I" } : Jvm.MethodName) prog_15_method_42_code (4 : Nat) (Option.some Jvm.ClassFile.FieldType.int)) ∈ WG := WG_at 703 (by decide +kernel) (by decide +kernel)
theorem q_704 : (Jvm.Cond.methodLink "NetlistBench" (283 : Nat) ({ cls := "java/lang/Math", name := "floorMod", desc := "(JJ)J" } : Jvm.MethodName)) ∈ WG := WG_at 704 (by decide +kernel) (by decide +kernel)
theorem q_705 : (Jvm.Cond.static ({ cls := "java/lang/Math", name := "floorMod", desc := "(JJ)J" } : Jvm.MethodName)) ∈ WG := WG_at 705 (by decide +kernel) (by decide +kernel)
theorem q_706 : (Jvm.Cond.code ({ cls := "java/lang/Math", name := "floorMod", desc := "(JJ)J" } : Jvm.MethodName) prog_16_method_52_code (6 : Nat) (Option.some Jvm.ClassFile.FieldType.long)) ∈ WG := WG_at 706 (by decide +kernel) (by decide +kernel)
theorem q_707 : (Jvm.Cond.methodLink "NetlistBenchLaw" (165 : Nat) ({ cls := "NetlistBenchLaw", name := "compare", desc := "(LNetlistBench;IIII[J)I" } : Jvm.MethodName)) ∈ WG := WG_at 707 (by decide +kernel) (by decide +kernel)
theorem q_708 : (Jvm.Cond.static ({ cls := "NetlistBenchLaw", name := "compare", desc := "(LNetlistBench;IIII[J)I" } : Jvm.MethodName)) ∈ WG := WG_at 708 (by decide +kernel) (by decide +kernel)
theorem q_709 : (Jvm.Cond.codeWith ({ cls := "NetlistBenchLaw", name := "compare", desc := "(LNetlistBench;IIII[J)I" } : Jvm.MethodName) method_22_code (7 : Nat) (Option.some Jvm.ClassFile.FieldType.int) [((0 : Nat), (14 : Nat), (17 : Nat), (19 : Nat)), ((0 : Nat), (14 : Nat), (21 : Nat), (21 : Nat)), ((0 : Nat), (14 : Nat), (25 : Nat), (13 : Nat))]) ∈ WG := WG_at 709 (by decide +kernel) (by decide +kernel)
theorem q_710 : (Jvm.Cond.methodLink "NetlistBenchLaw" (83 : Nat) ({ cls := "NetlistBench", name := "compare", desc := "(IIII)I" } : Jvm.MethodName)) ∈ WG := WG_at 710 (by decide +kernel) (by decide +kernel)
theorem q_711 : (Jvm.Cond.instanceMethod ({ cls := "NetlistBench", name := "compare", desc := "(IIII)I" } : Jvm.MethodName)) ∈ WG := WG_at 711 (by decide +kernel) (by decide +kernel)
theorem q_712 : (Jvm.Cond.selects "NetlistBench" ({ cls := "NetlistBench", name := "compare", desc := "(IIII)I" } : Jvm.MethodName) ({ cls := "NetlistBench", name := "compare", desc := "(IIII)I" } : Jvm.MethodName)) ∈ WG := WG_at 712 (by decide +kernel) (by decide +kernel)
theorem q_713 : (Jvm.Cond.code ({ cls := "NetlistBench", name := "compare", desc := "(IIII)I" } : Jvm.MethodName) prog_1_method_21_code (5 : Nat) (Option.some Jvm.ClassFile.FieldType.int)) ∈ WG := WG_at 713 (by decide +kernel) (by decide +kernel)
theorem q_714 : (Jvm.Cond.stringRef "NetlistBench" (194 : Nat) "the fraction is -500 to 500 by 1 to 500") ∈ lw_tbl := lw_bad 714 (by decide +kernel)
theorem q_715 : (Jvm.Cond.methodLink "NetlistBenchLaw" (169 : Nat) ({ cls := "NetlistBenchLaw", name := "levels", desc := "(LNetlistBench;I[J)I" } : Jvm.MethodName)) ∈ WG := WG_at 715 (by decide +kernel) (by decide +kernel)
theorem q_716 : (Jvm.Cond.static ({ cls := "NetlistBenchLaw", name := "levels", desc := "(LNetlistBench;I[J)I" } : Jvm.MethodName)) ∈ WG := WG_at 716 (by decide +kernel) (by decide +kernel)
theorem q_717 : (Jvm.Cond.codeWith ({ cls := "NetlistBenchLaw", name := "levels", desc := "(LNetlistBench;I[J)I" } : Jvm.MethodName) method_23_code (4 : Nat) (Option.some Jvm.ClassFile.FieldType.int) [((0 : Nat), (9 : Nat), (12 : Nat), (21 : Nat))]) ∈ WG := WG_at 717 (by decide +kernel) (by decide +kernel)
theorem q_718 : (Jvm.Cond.methodLink "NetlistBenchLaw" (87 : Nat) ({ cls := "NetlistBench", name := "levels", desc := "(I)I" } : Jvm.MethodName)) ∈ WG := WG_at 718 (by decide +kernel) (by decide +kernel)
theorem q_719 : (Jvm.Cond.instanceMethod ({ cls := "NetlistBench", name := "levels", desc := "(I)I" } : Jvm.MethodName)) ∈ WG := WG_at 719 (by decide +kernel) (by decide +kernel)
theorem q_720 : (Jvm.Cond.selects "NetlistBench" ({ cls := "NetlistBench", name := "levels", desc := "(I)I" } : Jvm.MethodName) ({ cls := "NetlistBench", name := "levels", desc := "(I)I" } : Jvm.MethodName)) ∈ WG := WG_at 720 (by decide +kernel) (by decide +kernel)
theorem q_721 : (Jvm.Cond.code ({ cls := "NetlistBench", name := "levels", desc := "(I)I" } : Jvm.MethodName) prog_1_method_22_code (4 : Nat) (Option.some Jvm.ClassFile.FieldType.int)) ∈ WG := WG_at 721 (by decide +kernel) (by decide +kernel)
theorem q_722 : (Jvm.Cond.methodLink "NetlistBench" (196 : Nat) ({ cls := "NetlistBench", name := "isFirstOfLevel", desc := "(I)Z" } : Jvm.MethodName)) ∈ WG := WG_at 722 (by decide +kernel) (by decide +kernel)
theorem q_723 : (Jvm.Cond.privateMethod ({ cls := "NetlistBench", name := "isFirstOfLevel", desc := "(I)Z" } : Jvm.MethodName)) ∈ lw_tbl := lw_bad 723 (by decide +kernel)
theorem q_724 : (Jvm.Cond.instanceMethod ({ cls := "NetlistBench", name := "isFirstOfLevel", desc := "(I)Z" } : Jvm.MethodName)) ∈ WG := WG_at 724 (by decide +kernel) (by decide +kernel)
theorem q_725 : (Jvm.Cond.code ({ cls := "NetlistBench", name := "isFirstOfLevel", desc := "(I)Z" } : Jvm.MethodName) prog_1_method_38_code (3 : Nat) (Option.some Jvm.ClassFile.FieldType.boolean)) ∈ WG := WG_at 725 (by decide +kernel) (by decide +kernel)
theorem q_726 : (Jvm.Cond.classLink "NetlistBenchLaw" (91 : Nat) "NetlistBenchModel") ∈ WG := WG_at 726 (by decide +kernel) (by decide +kernel)
theorem q_727 : (Jvm.Cond.instantiable "NetlistBenchModel" (20 : Nat)) ∈ WG := WG_at 727 (by decide +kernel) (by decide +kernel)
theorem q_728 : (Jvm.Cond.methodLink "NetlistBenchLaw" (93 : Nat) ({ cls := "NetlistBenchModel", name := "<init>", desc := "()V" } : Jvm.MethodName)) ∈ WG := WG_at 728 (by decide +kernel) (by decide +kernel)
theorem q_729 : (Jvm.Cond.instanceMethod ({ cls := "NetlistBenchModel", name := "<init>", desc := "()V" } : Jvm.MethodName)) ∈ WG := WG_at 729 (by decide +kernel) (by decide +kernel)
theorem q_730 : (Jvm.Cond.code ({ cls := "NetlistBenchModel", name := "<init>", desc := "()V" } : Jvm.MethodName) prog_6_method_1_code (1 : Nat) (Option.none : Option Jvm.ClassFile.FieldType)) ∈ WG := WG_at 730 (by decide +kernel) (by decide +kernel)
theorem q_731 : (Jvm.Cond.methodLink "NetlistBenchModel" (1 : Nat) ({ cls := "java/lang/Object", name := "<init>", desc := "()V" } : Jvm.MethodName)) ∈ WG := WG_at 731 (by decide +kernel) (by decide +kernel)
theorem q_732 : (Jvm.Cond.fieldLink "NetlistBenchModel" (57 : Nat) "NetlistBenchModel" "thrown" "I") ∈ WG := WG_at 732 (by decide +kernel) (by decide +kernel)
theorem q_733 : (Jvm.Cond.fieldLink "NetlistBenchModel" (61 : Nat) "NetlistBenchModel" "nodes" "I") ∈ WG := WG_at 733 (by decide +kernel) (by decide +kernel)
theorem q_734 : (Jvm.Cond.fieldLink "NetlistBenchModel" (9 : Nat) "NetlistBenchModel" "areRails" "[Z") ∈ WG := WG_at 734 (by decide +kernel) (by decide +kernel)
theorem q_735 : (Jvm.Cond.fieldLink "NetlistBenchModel" (13 : Nat) "NetlistBenchModel" "railPotentials" "[I") ∈ WG := WG_at 735 (by decide +kernel) (by decide +kernel)
theorem q_736 : (Jvm.Cond.fieldLink "NetlistBenchModel" (68 : Nat) "NetlistBenchModel" "elements" "I") ∈ WG := WG_at 736 (by decide +kernel) (by decide +kernel)
theorem q_737 : (Jvm.Cond.fieldLink "NetlistBenchModel" (17 : Nat) "NetlistBenchModel" "areSources" "[Z") ∈ WG := WG_at 737 (by decide +kernel) (by decide +kernel)
theorem q_738 : (Jvm.Cond.fieldLink "NetlistBenchModel" (20 : Nat) "NetlistBenchModel" "as" "[I") ∈ WG := WG_at 738 (by decide +kernel) (by decide +kernel)
theorem q_739 : (Jvm.Cond.fieldLink "NetlistBenchModel" (23 : Nat) "NetlistBenchModel" "bs" "[I") ∈ WG := WG_at 739 (by decide +kernel) (by decide +kernel)
theorem q_740 : (Jvm.Cond.fieldLink "NetlistBenchModel" (26 : Nat) "NetlistBenchModel" "sizes" "[I") ∈ WG := WG_at 740 (by decide +kernel) (by decide +kernel)
theorem q_741 : (Jvm.Cond.fieldLink "NetlistBenchModel" (29 : Nat) "NetlistBenchModel" "areOn" "[Z") ∈ WG := WG_at 741 (by decide +kernel) (by decide +kernel)
theorem q_742 : (Jvm.Cond.fieldLink "NetlistBenchModel" (32 : Nat) "NetlistBenchModel" "toggles" "[I") ∈ WG := WG_at 742 (by decide +kernel) (by decide +kernel)
theorem q_743 : (Jvm.Cond.fieldLink "NetlistBenchModel" (35 : Nat) "NetlistBenchModel" "toggleTimes" "[I") ∈ WG := WG_at 743 (by decide +kernel) (by decide +kernel)
theorem q_744 : (Jvm.Cond.fieldLink "NetlistBenchModel" (115 : Nat) "NetlistBenchModel" "unknown" "I") ∈ WG := WG_at 744 (by decide +kernel) (by decide +kernel)
theorem q_745 : (Jvm.Cond.fieldLink "NetlistBenchModel" (38 : Nat) "NetlistBenchModel" "places" "[I") ∈ WG := WG_at 745 (by decide +kernel) (by decide +kernel)
theorem q_746 : (Jvm.Cond.fieldLink "NetlistBenchModel" (41 : Nat) "NetlistBenchModel" "matrix" "[J") ∈ WG := WG_at 746 (by decide +kernel) (by decide +kernel)
theorem q_747 : (Jvm.Cond.fieldLink "NetlistBenchModel" (45 : Nat) "NetlistBenchModel" "right" "[J") ∈ WG := WG_at 747 (by decide +kernel) (by decide +kernel)
theorem q_748 : (Jvm.Cond.fieldLink "NetlistBenchModel" (48 : Nat) "NetlistBenchModel" "minors" "[J") ∈ WG := WG_at 748 (by decide +kernel) (by decide +kernel)
theorem q_749 : (Jvm.Cond.fieldLink "NetlistBenchModel" (134 : Nat) "NetlistBenchModel" "denominator" "J") ∈ WG := WG_at 749 (by decide +kernel) (by decide +kernel)
theorem q_750 : (Jvm.Cond.fieldLink "NetlistBenchModel" (51 : Nat) "NetlistBenchModel" "numerators" "[J") ∈ WG := WG_at 750 (by decide +kernel) (by decide +kernel)
theorem q_751 : (Jvm.Cond.fieldLink "NetlistBenchModel" (54 : Nat) "NetlistBenchModel" "areFloating" "[Z") ∈ WG := WG_at 751 (by decide +kernel) (by decide +kernel)
theorem q_752 : (Jvm.Cond.lays "NetlistBenchModel" "NetlistBenchModel" "thrown" "I") ∈ WG := WG_at 752 (by decide +kernel) (by decide +kernel)
theorem q_753 : (Jvm.Cond.soleField "NetlistBenchModel" "thrown") ∈ WG := WG_at 753 (by decide +kernel) (by decide +kernel)
theorem q_754 : (Jvm.Cond.lays "NetlistBenchModel" "NetlistBenchModel" "nodes" "I") ∈ WG := WG_at 754 (by decide +kernel) (by decide +kernel)
theorem q_755 : (Jvm.Cond.soleField "NetlistBenchModel" "nodes") ∈ WG := WG_at 755 (by decide +kernel) (by decide +kernel)
theorem q_756 : (Jvm.Cond.laysFinal "NetlistBenchModel" "NetlistBenchModel" "areRails" "[Z") ∈ WG := WG_at 756 (by decide +kernel) (by decide +kernel)
theorem q_757 : (Jvm.Cond.soleField "NetlistBenchModel" "areRails") ∈ WG := WG_at 757 (by decide +kernel) (by decide +kernel)
theorem q_758 : (Jvm.Cond.laysFinal "NetlistBenchModel" "NetlistBenchModel" "railPotentials" "[I") ∈ WG := WG_at 758 (by decide +kernel) (by decide +kernel)
theorem q_759 : (Jvm.Cond.soleField "NetlistBenchModel" "railPotentials") ∈ WG := WG_at 759 (by decide +kernel) (by decide +kernel)
theorem q_760 : (Jvm.Cond.lays "NetlistBenchModel" "NetlistBenchModel" "elements" "I") ∈ WG := WG_at 760 (by decide +kernel) (by decide +kernel)
theorem q_761 : (Jvm.Cond.soleField "NetlistBenchModel" "elements") ∈ WG := WG_at 761 (by decide +kernel) (by decide +kernel)
theorem q_762 : (Jvm.Cond.laysFinal "NetlistBenchModel" "NetlistBenchModel" "areSources" "[Z") ∈ WG := WG_at 762 (by decide +kernel) (by decide +kernel)
theorem q_763 : (Jvm.Cond.soleField "NetlistBenchModel" "areSources") ∈ WG := WG_at 763 (by decide +kernel) (by decide +kernel)
theorem q_764 : (Jvm.Cond.laysFinal "NetlistBenchModel" "NetlistBenchModel" "as" "[I") ∈ WG := WG_at 764 (by decide +kernel) (by decide +kernel)
theorem q_765 : (Jvm.Cond.soleField "NetlistBenchModel" "as") ∈ WG := WG_at 765 (by decide +kernel) (by decide +kernel)
theorem q_766 : (Jvm.Cond.laysFinal "NetlistBenchModel" "NetlistBenchModel" "bs" "[I") ∈ WG := WG_at 766 (by decide +kernel) (by decide +kernel)
theorem q_767 : (Jvm.Cond.soleField "NetlistBenchModel" "bs") ∈ WG := WG_at 767 (by decide +kernel) (by decide +kernel)
theorem q_768 : (Jvm.Cond.laysFinal "NetlistBenchModel" "NetlistBenchModel" "sizes" "[I") ∈ WG := WG_at 768 (by decide +kernel) (by decide +kernel)
theorem q_769 : (Jvm.Cond.soleField "NetlistBenchModel" "sizes") ∈ WG := WG_at 769 (by decide +kernel) (by decide +kernel)
theorem q_770 : (Jvm.Cond.laysFinal "NetlistBenchModel" "NetlistBenchModel" "areOn" "[Z") ∈ WG := WG_at 770 (by decide +kernel) (by decide +kernel)
theorem q_771 : (Jvm.Cond.soleField "NetlistBenchModel" "areOn") ∈ WG := WG_at 771 (by decide +kernel) (by decide +kernel)
theorem q_772 : (Jvm.Cond.laysFinal "NetlistBenchModel" "NetlistBenchModel" "toggles" "[I") ∈ WG := WG_at 772 (by decide +kernel) (by decide +kernel)
theorem q_773 : (Jvm.Cond.soleField "NetlistBenchModel" "toggles") ∈ WG := WG_at 773 (by decide +kernel) (by decide +kernel)
theorem q_774 : (Jvm.Cond.laysFinal "NetlistBenchModel" "NetlistBenchModel" "toggleTimes" "[I") ∈ WG := WG_at 774 (by decide +kernel) (by decide +kernel)
theorem q_775 : (Jvm.Cond.soleField "NetlistBenchModel" "toggleTimes") ∈ WG := WG_at 775 (by decide +kernel) (by decide +kernel)
theorem q_776 : (Jvm.Cond.lays "NetlistBenchModel" "NetlistBenchModel" "unknown" "I") ∈ WG := WG_at 776 (by decide +kernel) (by decide +kernel)
theorem q_777 : (Jvm.Cond.soleField "NetlistBenchModel" "unknown") ∈ WG := WG_at 777 (by decide +kernel) (by decide +kernel)
theorem q_778 : (Jvm.Cond.laysFinal "NetlistBenchModel" "NetlistBenchModel" "places" "[I") ∈ WG := WG_at 778 (by decide +kernel) (by decide +kernel)
theorem q_779 : (Jvm.Cond.soleField "NetlistBenchModel" "places") ∈ WG := WG_at 779 (by decide +kernel) (by decide +kernel)
theorem q_780 : (Jvm.Cond.laysFinal "NetlistBenchModel" "NetlistBenchModel" "matrix" "[J") ∈ WG := WG_at 780 (by decide +kernel) (by decide +kernel)
theorem q_781 : (Jvm.Cond.soleField "NetlistBenchModel" "matrix") ∈ WG := WG_at 781 (by decide +kernel) (by decide +kernel)
theorem q_782 : (Jvm.Cond.laysFinal "NetlistBenchModel" "NetlistBenchModel" "right" "[J") ∈ WG := WG_at 782 (by decide +kernel) (by decide +kernel)
theorem q_783 : (Jvm.Cond.soleField "NetlistBenchModel" "right") ∈ WG := WG_at 783 (by decide +kernel) (by decide +kernel)
theorem q_784 : (Jvm.Cond.laysFinal "NetlistBenchModel" "NetlistBenchModel" "minors" "[J") ∈ WG := WG_at 784 (by decide +kernel) (by decide +kernel)
theorem q_785 : (Jvm.Cond.soleField "NetlistBenchModel" "minors") ∈ WG := WG_at 785 (by decide +kernel) (by decide +kernel)
theorem q_786 : (Jvm.Cond.lays "NetlistBenchModel" "NetlistBenchModel" "denominator" "J") ∈ WG := WG_at 786 (by decide +kernel) (by decide +kernel)
theorem q_787 : (Jvm.Cond.soleField "NetlistBenchModel" "denominator") ∈ WG := WG_at 787 (by decide +kernel) (by decide +kernel)
theorem q_788 : (Jvm.Cond.laysFinal "NetlistBenchModel" "NetlistBenchModel" "numerators" "[J") ∈ WG := WG_at 788 (by decide +kernel) (by decide +kernel)
theorem q_789 : (Jvm.Cond.soleField "NetlistBenchModel" "numerators") ∈ WG := WG_at 789 (by decide +kernel) (by decide +kernel)
theorem q_790 : (Jvm.Cond.laysFinal "NetlistBenchModel" "NetlistBenchModel" "areFloating" "[Z") ∈ WG := WG_at 790 (by decide +kernel) (by decide +kernel)
theorem q_791 : (Jvm.Cond.soleField "NetlistBenchModel" "areFloating") ∈ WG := WG_at 791 (by decide +kernel) (by decide +kernel)
theorem q_792 : (Jvm.Cond.superclass "NetlistBenchModel" "java/lang/Object") ∈ WG := WG_at 792 (by decide +kernel) (by decide +kernel)
theorem q_793 : (Jvm.Cond.arrayClass Jvm.ClassFile.FieldType.boolean) ∈ WG := WG_at 793 (by decide +kernel) (by decide +kernel)
theorem q_794 : (Jvm.Cond.methodLink "NetlistBenchLaw" (100 : Nat) ({ cls := "NetlistBenchModel", name := "thrown", desc := "()I" } : Jvm.MethodName)) ∈ WG := WG_at 794 (by decide +kernel) (by decide +kernel)
theorem q_795 : (Jvm.Cond.instanceMethod ({ cls := "NetlistBenchModel", name := "thrown", desc := "()I" } : Jvm.MethodName)) ∈ WG := WG_at 795 (by decide +kernel) (by decide +kernel)
theorem q_796 : (Jvm.Cond.selects "NetlistBenchModel" ({ cls := "NetlistBenchModel", name := "thrown", desc := "()I" } : Jvm.MethodName) ({ cls := "NetlistBenchModel", name := "thrown", desc := "()I" } : Jvm.MethodName)) ∈ WG := WG_at 796 (by decide +kernel) (by decide +kernel)
theorem q_797 : (Jvm.Cond.code ({ cls := "NetlistBenchModel", name := "thrown", desc := "()I" } : Jvm.MethodName) prog_6_method_2_code (1 : Nat) (Option.some Jvm.ClassFile.FieldType.int)) ∈ WG := WG_at 797 (by decide +kernel) (by decide +kernel)
theorem q_798 : (Jvm.Cond.methodLink "NetlistBenchLaw" (99 : Nat) ({ cls := "NetlistBenchModel", name := "addNode", desc := "()I" } : Jvm.MethodName)) ∈ WG := WG_at 798 (by decide +kernel) (by decide +kernel)
theorem q_799 : (Jvm.Cond.instanceMethod ({ cls := "NetlistBenchModel", name := "addNode", desc := "()I" } : Jvm.MethodName)) ∈ WG := WG_at 799 (by decide +kernel) (by decide +kernel)
theorem q_800 : (Jvm.Cond.selects "NetlistBenchModel" ({ cls := "NetlistBenchModel", name := "addNode", desc := "()I" } : Jvm.MethodName) ({ cls := "NetlistBenchModel", name := "addNode", desc := "()I" } : Jvm.MethodName)) ∈ WG := WG_at 800 (by decide +kernel) (by decide +kernel)
theorem q_801 : (Jvm.Cond.code ({ cls := "NetlistBenchModel", name := "addNode", desc := "()I" } : Jvm.MethodName) prog_6_method_9_code (1 : Nat) (Option.some Jvm.ClassFile.FieldType.int)) ∈ WG := WG_at 801 (by decide +kernel) (by decide +kernel)
theorem q_802 : (Jvm.Cond.methodLink "NetlistBenchModel" (71 : Nat) ({ cls := "NetlistBenchModel", name := "fail", desc := "(I)I" } : Jvm.MethodName)) ∈ WG := WG_at 802 (by decide +kernel) (by decide +kernel)
theorem q_803 : (Jvm.Cond.privateMethod ({ cls := "NetlistBenchModel", name := "fail", desc := "(I)I" } : Jvm.MethodName)) ∈ lw_tbl := lw_bad 803 (by decide +kernel)
theorem q_804 : (Jvm.Cond.instanceMethod ({ cls := "NetlistBenchModel", name := "fail", desc := "(I)I" } : Jvm.MethodName)) ∈ WG := WG_at 804 (by decide +kernel) (by decide +kernel)
theorem q_805 : (Jvm.Cond.code ({ cls := "NetlistBenchModel", name := "fail", desc := "(I)I" } : Jvm.MethodName) prog_6_method_3_code (2 : Nat) (Option.some Jvm.ClassFile.FieldType.int)) ∈ WG := WG_at 805 (by decide +kernel) (by decide +kernel)
theorem q_806 : (Jvm.Cond.methodLink "NetlistBenchLaw" (106 : Nat) ({ cls := "NetlistBenchModel", name := "rail", desc := "(IZI)Z" } : Jvm.MethodName)) ∈ WG := WG_at 806 (by decide +kernel) (by decide +kernel)
theorem q_807 : (Jvm.Cond.instanceMethod ({ cls := "NetlistBenchModel", name := "rail", desc := "(IZI)Z" } : Jvm.MethodName)) ∈ WG := WG_at 807 (by decide +kernel) (by decide +kernel)
theorem q_808 : (Jvm.Cond.selects "NetlistBenchModel" ({ cls := "NetlistBenchModel", name := "rail", desc := "(IZI)Z" } : Jvm.MethodName) ({ cls := "NetlistBenchModel", name := "rail", desc := "(IZI)Z" } : Jvm.MethodName)) ∈ WG := WG_at 808 (by decide +kernel) (by decide +kernel)
theorem q_809 : (Jvm.Cond.code ({ cls := "NetlistBenchModel", name := "rail", desc := "(IZI)Z" } : Jvm.MethodName) prog_6_method_10_code (5 : Nat) (Option.some Jvm.ClassFile.FieldType.boolean)) ∈ WG := WG_at 809 (by decide +kernel) (by decide +kernel)
theorem q_810 : (Jvm.Cond.methodLink "NetlistBenchModel" (75 : Nat) ({ cls := "NetlistBenchModel", name := "isNode", desc := "(I)Z" } : Jvm.MethodName)) ∈ WG := WG_at 810 (by decide +kernel) (by decide +kernel)
theorem q_811 : (Jvm.Cond.privateMethod ({ cls := "NetlistBenchModel", name := "isNode", desc := "(I)Z" } : Jvm.MethodName)) ∈ lw_tbl := lw_bad 811 (by decide +kernel)
theorem q_812 : (Jvm.Cond.instanceMethod ({ cls := "NetlistBenchModel", name := "isNode", desc := "(I)Z" } : Jvm.MethodName)) ∈ WG := WG_at 812 (by decide +kernel) (by decide +kernel)
theorem q_813 : (Jvm.Cond.code ({ cls := "NetlistBenchModel", name := "isNode", desc := "(I)Z" } : Jvm.MethodName) prog_6_method_5_code (2 : Nat) (Option.some Jvm.ClassFile.FieldType.boolean)) ∈ WG := WG_at 813 (by decide +kernel) (by decide +kernel)
theorem q_814 : (Jvm.Cond.methodLink "NetlistBenchModel" (64 : Nat) ({ cls := "NetlistBenchModel", name := "isIn", desc := "(III)Z" } : Jvm.MethodName)) ∈ WG := WG_at 814 (by decide +kernel) (by decide +kernel)
theorem q_815 : (Jvm.Cond.static ({ cls := "NetlistBenchModel", name := "isIn", desc := "(III)Z" } : Jvm.MethodName)) ∈ WG := WG_at 815 (by decide +kernel) (by decide +kernel)
theorem q_816 : (Jvm.Cond.code ({ cls := "NetlistBenchModel", name := "isIn", desc := "(III)Z" } : Jvm.MethodName) prog_6_method_4_code (3 : Nat) (Option.some Jvm.ClassFile.FieldType.boolean)) ∈ WG := WG_at 816 (by decide +kernel) (by decide +kernel)
theorem q_817 : (Jvm.Cond.methodLink "NetlistBenchLaw" (110 : Nat) ({ cls := "NetlistBenchModel", name := "addElement", desc := "(ZIII)I" } : Jvm.MethodName)) ∈ WG := WG_at 817 (by decide +kernel) (by decide +kernel)
theorem q_818 : (Jvm.Cond.instanceMethod ({ cls := "NetlistBenchModel", name := "addElement", desc := "(ZIII)I" } : Jvm.MethodName)) ∈ WG := WG_at 818 (by decide +kernel) (by decide +kernel)
theorem q_819 : (Jvm.Cond.selects "NetlistBenchModel" ({ cls := "NetlistBenchModel", name := "addElement", desc := "(ZIII)I" } : Jvm.MethodName) ({ cls := "NetlistBenchModel", name := "addElement", desc := "(ZIII)I" } : Jvm.MethodName)) ∈ WG := WG_at 819 (by decide +kernel) (by decide +kernel)
theorem q_820 : (Jvm.Cond.code ({ cls := "NetlistBenchModel", name := "addElement", desc := "(ZIII)I" } : Jvm.MethodName) prog_6_method_11_code (5 : Nat) (Option.some Jvm.ClassFile.FieldType.int)) ∈ WG := WG_at 820 (by decide +kernel) (by decide +kernel)
theorem q_821 : (Jvm.Cond.methodLink "NetlistBenchModel" (79 : Nat) ({ cls := "NetlistBenchModel", name := "isSize", desc := "(ZI)Z" } : Jvm.MethodName)) ∈ WG := WG_at 821 (by decide +kernel) (by decide +kernel)
theorem q_822 : (Jvm.Cond.static ({ cls := "NetlistBenchModel", name := "isSize", desc := "(ZI)Z" } : Jvm.MethodName)) ∈ WG := WG_at 822 (by decide +kernel) (by decide +kernel)
theorem q_823 : (Jvm.Cond.code ({ cls := "NetlistBenchModel", name := "isSize", desc := "(ZI)Z" } : Jvm.MethodName) prog_6_method_8_code (2 : Nat) (Option.some Jvm.ClassFile.FieldType.boolean)) ∈ WG := WG_at 823 (by decide +kernel) (by decide +kernel)
theorem q_824 : (Jvm.Cond.methodLink "NetlistBenchLaw" (114 : Nat) ({ cls := "NetlistBenchModel", name := "resize", desc := "(II)I" } : Jvm.MethodName)) ∈ WG := WG_at 824 (by decide +kernel) (by decide +kernel)
theorem q_825 : (Jvm.Cond.instanceMethod ({ cls := "NetlistBenchModel", name := "resize", desc := "(II)I" } : Jvm.MethodName)) ∈ WG := WG_at 825 (by decide +kernel) (by decide +kernel)
theorem q_826 : (Jvm.Cond.selects "NetlistBenchModel" ({ cls := "NetlistBenchModel", name := "resize", desc := "(II)I" } : Jvm.MethodName) ({ cls := "NetlistBenchModel", name := "resize", desc := "(II)I" } : Jvm.MethodName)) ∈ WG := WG_at 826 (by decide +kernel) (by decide +kernel)
theorem q_827 : (Jvm.Cond.code ({ cls := "NetlistBenchModel", name := "resize", desc := "(II)I" } : Jvm.MethodName) prog_6_method_12_code (4 : Nat) (Option.some Jvm.ClassFile.FieldType.int)) ∈ WG := WG_at 827 (by decide +kernel) (by decide +kernel)
theorem q_828 : (Jvm.Cond.methodLink "NetlistBenchModel" (83 : Nat) ({ cls := "NetlistBenchModel", name := "isElement", desc := "(I)Z" } : Jvm.MethodName)) ∈ WG := WG_at 828 (by decide +kernel) (by decide +kernel)
theorem q_829 : (Jvm.Cond.privateMethod ({ cls := "NetlistBenchModel", name := "isElement", desc := "(I)Z" } : Jvm.MethodName)) ∈ lw_tbl := lw_bad 829 (by decide +kernel)
theorem q_830 : (Jvm.Cond.instanceMethod ({ cls := "NetlistBenchModel", name := "isElement", desc := "(I)Z" } : Jvm.MethodName)) ∈ WG := WG_at 830 (by decide +kernel) (by decide +kernel)
theorem q_831 : (Jvm.Cond.code ({ cls := "NetlistBenchModel", name := "isElement", desc := "(I)Z" } : Jvm.MethodName) prog_6_method_6_code (2 : Nat) (Option.some Jvm.ClassFile.FieldType.boolean)) ∈ WG := WG_at 831 (by decide +kernel) (by decide +kernel)
theorem q_832 : (Jvm.Cond.methodLink "NetlistBenchLaw" (118 : Nat) ({ cls := "NetlistBenchModel", name := "begin", desc := "(IZ)Z" } : Jvm.MethodName)) ∈ WG := WG_at 832 (by decide +kernel) (by decide +kernel)
theorem q_833 : (Jvm.Cond.instanceMethod ({ cls := "NetlistBenchModel", name := "begin", desc := "(IZ)Z" } : Jvm.MethodName)) ∈ WG := WG_at 833 (by decide +kernel) (by decide +kernel)
theorem q_834 : (Jvm.Cond.selects "NetlistBenchModel" ({ cls := "NetlistBenchModel", name := "begin", desc := "(IZ)Z" } : Jvm.MethodName) ({ cls := "NetlistBenchModel", name := "begin", desc := "(IZ)Z" } : Jvm.MethodName)) ∈ WG := WG_at 834 (by decide +kernel) (by decide +kernel)
theorem q_835 : (Jvm.Cond.code ({ cls := "NetlistBenchModel", name := "begin", desc := "(IZ)Z" } : Jvm.MethodName) prog_6_method_13_code (4 : Nat) (Option.some Jvm.ClassFile.FieldType.boolean)) ∈ WG := WG_at 835 (by decide +kernel) (by decide +kernel)
theorem q_836 : (Jvm.Cond.methodLink "NetlistBenchLaw" (121 : Nat) ({ cls := "NetlistBenchModel", name := "toggle", desc := "(II)I" } : Jvm.MethodName)) ∈ WG := WG_at 836 (by decide +kernel) (by decide +kernel)
theorem q_837 : (Jvm.Cond.instanceMethod ({ cls := "NetlistBenchModel", name := "toggle", desc := "(II)I" } : Jvm.MethodName)) ∈ WG := WG_at 837 (by decide +kernel) (by decide +kernel)
theorem q_838 : (Jvm.Cond.selects "NetlistBenchModel" ({ cls := "NetlistBenchModel", name := "toggle", desc := "(II)I" } : Jvm.MethodName) ({ cls := "NetlistBenchModel", name := "toggle", desc := "(II)I" } : Jvm.MethodName)) ∈ WG := WG_at 838 (by decide +kernel) (by decide +kernel)
theorem q_839 : (Jvm.Cond.code ({ cls := "NetlistBenchModel", name := "toggle", desc := "(II)I" } : Jvm.MethodName) prog_6_method_14_code (7 : Nat) (Option.some Jvm.ClassFile.FieldType.int)) ∈ WG := WG_at 839 (by decide +kernel) (by decide +kernel)
theorem q_840 : (Jvm.Cond.methodLink "NetlistBenchModel" (86 : Nat) ({ cls := "java/lang/System", name := "arraycopy", desc := "(Ljava/lang/Object;ILjava/lang/Object;II)V" } : Jvm.MethodName)) ∈ WG := WG_at 840 (by decide +kernel) (by decide +kernel)
theorem q_841 : (Jvm.Cond.methodLink "NetlistBenchLaw" (125 : Nat) ({ cls := "NetlistBenchModel", name := "count", desc := "(I)I" } : Jvm.MethodName)) ∈ WG := WG_at 841 (by decide +kernel) (by decide +kernel)
theorem q_842 : (Jvm.Cond.instanceMethod ({ cls := "NetlistBenchModel", name := "count", desc := "(I)I" } : Jvm.MethodName)) ∈ WG := WG_at 842 (by decide +kernel) (by decide +kernel)
theorem q_843 : (Jvm.Cond.selects "NetlistBenchModel" ({ cls := "NetlistBenchModel", name := "count", desc := "(I)I" } : Jvm.MethodName) ({ cls := "NetlistBenchModel", name := "count", desc := "(I)I" } : Jvm.MethodName)) ∈ WG := WG_at 843 (by decide +kernel) (by decide +kernel)
theorem q_844 : (Jvm.Cond.code ({ cls := "NetlistBenchModel", name := "count", desc := "(I)I" } : Jvm.MethodName) prog_6_method_16_code (2 : Nat) (Option.some Jvm.ClassFile.FieldType.int)) ∈ WG := WG_at 844 (by decide +kernel) (by decide +kernel)
theorem q_845 : (Jvm.Cond.methodLink "NetlistBenchModel" (92 : Nat) ({ cls := "NetlistBenchModel", name := "counted", desc := "(I)I" } : Jvm.MethodName)) ∈ WG := WG_at 845 (by decide +kernel) (by decide +kernel)
theorem q_846 : (Jvm.Cond.privateMethod ({ cls := "NetlistBenchModel", name := "counted", desc := "(I)I" } : Jvm.MethodName)) ∈ lw_tbl := lw_bad 846 (by decide +kernel)
theorem q_847 : (Jvm.Cond.instanceMethod ({ cls := "NetlistBenchModel", name := "counted", desc := "(I)I" } : Jvm.MethodName)) ∈ WG := WG_at 847 (by decide +kernel) (by decide +kernel)
theorem q_848 : (Jvm.Cond.code ({ cls := "NetlistBenchModel", name := "counted", desc := "(I)I" } : Jvm.MethodName) prog_6_method_15_code (4 : Nat) (Option.some Jvm.ClassFile.FieldType.int)) ∈ WG := WG_at 848 (by decide +kernel) (by decide +kernel)
theorem q_849 : (Jvm.Cond.methodLink "NetlistBenchLaw" (128 : Nat) ({ cls := "NetlistBenchModel", name := "element", desc := "(II)I" } : Jvm.MethodName)) ∈ WG := WG_at 849 (by decide +kernel) (by decide +kernel)
theorem q_850 : (Jvm.Cond.instanceMethod ({ cls := "NetlistBenchModel", name := "element", desc := "(II)I" } : Jvm.MethodName)) ∈ WG := WG_at 850 (by decide +kernel) (by decide +kernel)
theorem q_851 : (Jvm.Cond.selects "NetlistBenchModel" ({ cls := "NetlistBenchModel", name := "element", desc := "(II)I" } : Jvm.MethodName) ({ cls := "NetlistBenchModel", name := "element", desc := "(II)I" } : Jvm.MethodName)) ∈ WG := WG_at 851 (by decide +kernel) (by decide +kernel)
theorem q_852 : (Jvm.Cond.code ({ cls := "NetlistBenchModel", name := "element", desc := "(II)I" } : Jvm.MethodName) prog_6_method_18_code (3 : Nat) (Option.some Jvm.ClassFile.FieldType.int)) ∈ WG := WG_at 852 (by decide +kernel) (by decide +kernel)
theorem q_853 : (Jvm.Cond.methodLink "NetlistBenchModel" (95 : Nat) ({ cls := "NetlistBenchModel", name := "elementTold", desc := "(II)I" } : Jvm.MethodName)) ∈ WG := WG_at 853 (by decide +kernel) (by decide +kernel)
theorem q_854 : (Jvm.Cond.privateMethod ({ cls := "NetlistBenchModel", name := "elementTold", desc := "(II)I" } : Jvm.MethodName)) ∈ lw_tbl := lw_bad 854 (by decide +kernel)
theorem q_855 : (Jvm.Cond.instanceMethod ({ cls := "NetlistBenchModel", name := "elementTold", desc := "(II)I" } : Jvm.MethodName)) ∈ WG := WG_at 855 (by decide +kernel) (by decide +kernel)
theorem q_856 : (Jvm.Cond.code ({ cls := "NetlistBenchModel", name := "elementTold", desc := "(II)I" } : Jvm.MethodName) prog_6_method_17_code (3 : Nat) (Option.some Jvm.ClassFile.FieldType.int)) ∈ WG := WG_at 856 (by decide +kernel) (by decide +kernel)
theorem q_857 : (Jvm.Cond.methodLink "NetlistBenchLaw" (131 : Nat) ({ cls := "NetlistBenchModel", name := "toggleAt", desc := "(II)I" } : Jvm.MethodName)) ∈ WG := WG_at 857 (by decide +kernel) (by decide +kernel)
theorem q_858 : (Jvm.Cond.instanceMethod ({ cls := "NetlistBenchModel", name := "toggleAt", desc := "(II)I" } : Jvm.MethodName)) ∈ WG := WG_at 858 (by decide +kernel) (by decide +kernel)
theorem q_859 : (Jvm.Cond.selects "NetlistBenchModel" ({ cls := "NetlistBenchModel", name := "toggleAt", desc := "(II)I" } : Jvm.MethodName) ({ cls := "NetlistBenchModel", name := "toggleAt", desc := "(II)I" } : Jvm.MethodName)) ∈ WG := WG_at 859 (by decide +kernel) (by decide +kernel)
theorem q_860 : (Jvm.Cond.code ({ cls := "NetlistBenchModel", name := "toggleAt", desc := "(II)I" } : Jvm.MethodName) prog_6_method_19_code (3 : Nat) (Option.some Jvm.ClassFile.FieldType.int)) ∈ WG := WG_at 860 (by decide +kernel) (by decide +kernel)
theorem q_861 : (Jvm.Cond.methodLink "NetlistBenchLaw" (134 : Nat) ({ cls := "NetlistBenchModel", name := "isOn", desc := "(II)Z" } : Jvm.MethodName)) ∈ WG := WG_at 861 (by decide +kernel) (by decide +kernel)
theorem q_862 : (Jvm.Cond.instanceMethod ({ cls := "NetlistBenchModel", name := "isOn", desc := "(II)Z" } : Jvm.MethodName)) ∈ WG := WG_at 862 (by decide +kernel) (by decide +kernel)
theorem q_863 : (Jvm.Cond.selects "NetlistBenchModel" ({ cls := "NetlistBenchModel", name := "isOn", desc := "(II)Z" } : Jvm.MethodName) ({ cls := "NetlistBenchModel", name := "isOn", desc := "(II)Z" } : Jvm.MethodName)) ∈ WG := WG_at 863 (by decide +kernel) (by decide +kernel)
theorem q_864 : (Jvm.Cond.code ({ cls := "NetlistBenchModel", name := "isOn", desc := "(II)Z" } : Jvm.MethodName) prog_6_method_22_code (3 : Nat) (Option.some Jvm.ClassFile.FieldType.boolean)) ∈ WG := WG_at 864 (by decide +kernel) (by decide +kernel)
theorem q_865 : (Jvm.Cond.methodLink "NetlistBenchModel" (103 : Nat) ({ cls := "NetlistBenchModel", name := "isTime", desc := "(I)Z" } : Jvm.MethodName)) ∈ WG := WG_at 865 (by decide +kernel) (by decide +kernel)
theorem q_866 : (Jvm.Cond.static ({ cls := "NetlistBenchModel", name := "isTime", desc := "(I)Z" } : Jvm.MethodName)) ∈ WG := WG_at 866 (by decide +kernel) (by decide +kernel)
theorem q_867 : (Jvm.Cond.code ({ cls := "NetlistBenchModel", name := "isTime", desc := "(I)Z" } : Jvm.MethodName) prog_6_method_7_code (1 : Nat) (Option.some Jvm.ClassFile.FieldType.boolean)) ∈ WG := WG_at 867 (by decide +kernel) (by decide +kernel)
theorem q_868 : (Jvm.Cond.methodLink "NetlistBenchModel" (99 : Nat) ({ cls := "NetlistBenchModel", name := "isOnAt", desc := "(II)Z" } : Jvm.MethodName)) ∈ WG := WG_at 868 (by decide +kernel) (by decide +kernel)
theorem q_869 : (Jvm.Cond.privateMethod ({ cls := "NetlistBenchModel", name := "isOnAt", desc := "(II)Z" } : Jvm.MethodName)) ∈ lw_tbl := lw_bad 869 (by decide +kernel)
theorem q_870 : (Jvm.Cond.instanceMethod ({ cls := "NetlistBenchModel", name := "isOnAt", desc := "(II)Z" } : Jvm.MethodName)) ∈ WG := WG_at 870 (by decide +kernel) (by decide +kernel)
theorem q_871 : (Jvm.Cond.code ({ cls := "NetlistBenchModel", name := "isOnAt", desc := "(II)Z" } : Jvm.MethodName) prog_6_method_20_code (5 : Nat) (Option.some Jvm.ClassFile.FieldType.boolean)) ∈ WG := WG_at 871 (by decide +kernel) (by decide +kernel)
theorem q_872 : (Jvm.Cond.methodLink "NetlistBenchLaw" (137 : Nat) ({ cls := "NetlistBenchModel", name := "together", desc := "(II)I" } : Jvm.MethodName)) ∈ WG := WG_at 872 (by decide +kernel) (by decide +kernel)
theorem q_873 : (Jvm.Cond.instanceMethod ({ cls := "NetlistBenchModel", name := "together", desc := "(II)I" } : Jvm.MethodName)) ∈ WG := WG_at 873 (by decide +kernel) (by decide +kernel)
theorem q_874 : (Jvm.Cond.selects "NetlistBenchModel" ({ cls := "NetlistBenchModel", name := "together", desc := "(II)I" } : Jvm.MethodName) ({ cls := "NetlistBenchModel", name := "together", desc := "(II)I" } : Jvm.MethodName)) ∈ WG := WG_at 874 (by decide +kernel) (by decide +kernel)
theorem q_875 : (Jvm.Cond.code ({ cls := "NetlistBenchModel", name := "together", desc := "(II)I" } : Jvm.MethodName) prog_6_method_24_code (3 : Nat) (Option.some Jvm.ClassFile.FieldType.int)) ∈ WG := WG_at 875 (by decide +kernel) (by decide +kernel)
theorem q_876 : (Jvm.Cond.methodLink "NetlistBenchModel" (109 : Nat) ({ cls := "NetlistBenchModel", name := "group", desc := "(II)I" } : Jvm.MethodName)) ∈ WG := WG_at 876 (by decide +kernel) (by decide +kernel)
theorem q_877 : (Jvm.Cond.privateMethod ({ cls := "NetlistBenchModel", name := "group", desc := "(II)I" } : Jvm.MethodName)) ∈ lw_tbl := lw_bad 877 (by decide +kernel)
theorem q_878 : (Jvm.Cond.instanceMethod ({ cls := "NetlistBenchModel", name := "group", desc := "(II)I" } : Jvm.MethodName)) ∈ WG := WG_at 878 (by decide +kernel) (by decide +kernel)
theorem q_879 : (Jvm.Cond.code ({ cls := "NetlistBenchModel", name := "group", desc := "(II)I" } : Jvm.MethodName) prog_6_method_23_code (6 : Nat) (Option.some Jvm.ClassFile.FieldType.int)) ∈ WG := WG_at 879 (by decide +kernel) (by decide +kernel)
theorem q_880 : (Jvm.Cond.methodLink "NetlistBenchModel" (106 : Nat) ({ cls := "NetlistBenchModel", name := "conducts", desc := "(II)Z" } : Jvm.MethodName)) ∈ WG := WG_at 880 (by decide +kernel) (by decide +kernel)
theorem q_881 : (Jvm.Cond.privateMethod ({ cls := "NetlistBenchModel", name := "conducts", desc := "(II)Z" } : Jvm.MethodName)) ∈ lw_tbl := lw_bad 881 (by decide +kernel)
theorem q_882 : (Jvm.Cond.instanceMethod ({ cls := "NetlistBenchModel", name := "conducts", desc := "(II)Z" } : Jvm.MethodName)) ∈ WG := WG_at 882 (by decide +kernel) (by decide +kernel)
theorem q_883 : (Jvm.Cond.code ({ cls := "NetlistBenchModel", name := "conducts", desc := "(II)Z" } : Jvm.MethodName) prog_6_method_21_code (3 : Nat) (Option.some Jvm.ClassFile.FieldType.boolean)) ∈ WG := WG_at 883 (by decide +kernel) (by decide +kernel)
theorem q_884 : (Jvm.Cond.methodLink "NetlistBenchLaw" (140 : Nat) ({ cls := "NetlistBenchModel", name := "floats", desc := "(II)Z" } : Jvm.MethodName)) ∈ WG := WG_at 884 (by decide +kernel) (by decide +kernel)
theorem q_885 : (Jvm.Cond.instanceMethod ({ cls := "NetlistBenchModel", name := "floats", desc := "(II)Z" } : Jvm.MethodName)) ∈ WG := WG_at 885 (by decide +kernel) (by decide +kernel)
theorem q_886 : (Jvm.Cond.selects "NetlistBenchModel" ({ cls := "NetlistBenchModel", name := "floats", desc := "(II)Z" } : Jvm.MethodName) ({ cls := "NetlistBenchModel", name := "floats", desc := "(II)Z" } : Jvm.MethodName)) ∈ WG := WG_at 886 (by decide +kernel) (by decide +kernel)
theorem q_887 : (Jvm.Cond.code ({ cls := "NetlistBenchModel", name := "floats", desc := "(II)Z" } : Jvm.MethodName) prog_6_method_26_code (3 : Nat) (Option.some Jvm.ClassFile.FieldType.boolean)) ∈ WG := WG_at 887 (by decide +kernel) (by decide +kernel)
theorem q_888 : (Jvm.Cond.methodLink "NetlistBenchModel" (112 : Nat) ({ cls := "NetlistBenchModel", name := "floatsAt", desc := "(II)Z" } : Jvm.MethodName)) ∈ WG := WG_at 888 (by decide +kernel) (by decide +kernel)
theorem q_889 : (Jvm.Cond.privateMethod ({ cls := "NetlistBenchModel", name := "floatsAt", desc := "(II)Z" } : Jvm.MethodName)) ∈ lw_tbl := lw_bad 889 (by decide +kernel)
theorem q_890 : (Jvm.Cond.instanceMethod ({ cls := "NetlistBenchModel", name := "floatsAt", desc := "(II)Z" } : Jvm.MethodName)) ∈ WG := WG_at 890 (by decide +kernel) (by decide +kernel)
theorem q_891 : (Jvm.Cond.code ({ cls := "NetlistBenchModel", name := "floatsAt", desc := "(II)Z" } : Jvm.MethodName) prog_6_method_25_code (5 : Nat) (Option.some Jvm.ClassFile.FieldType.boolean)) ∈ WG := WG_at 891 (by decide +kernel) (by decide +kernel)
theorem q_892 : (Jvm.Cond.methodLink "NetlistBenchLaw" (144 : Nat) ({ cls := "NetlistBenchModel", name := "potential", desc := "(IIZ)J" } : Jvm.MethodName)) ∈ WG := WG_at 892 (by decide +kernel) (by decide +kernel)
theorem q_893 : (Jvm.Cond.instanceMethod ({ cls := "NetlistBenchModel", name := "potential", desc := "(IIZ)J" } : Jvm.MethodName)) ∈ WG := WG_at 893 (by decide +kernel) (by decide +kernel)
theorem q_894 : (Jvm.Cond.selects "NetlistBenchModel" ({ cls := "NetlistBenchModel", name := "potential", desc := "(IIZ)J" } : Jvm.MethodName) ({ cls := "NetlistBenchModel", name := "potential", desc := "(IIZ)J" } : Jvm.MethodName)) ∈ WG := WG_at 894 (by decide +kernel) (by decide +kernel)
theorem q_895 : (Jvm.Cond.code ({ cls := "NetlistBenchModel", name := "potential", desc := "(IIZ)J" } : Jvm.MethodName) prog_6_method_33_code (4 : Nat) (Option.some Jvm.ClassFile.FieldType.long)) ∈ WG := WG_at 895 (by decide +kernel) (by decide +kernel)
theorem q_896 : (Jvm.Cond.methodLink "NetlistBenchModel" (148 : Nat) ({ cls := "NetlistBenchModel", name := "solve", desc := "(I)V" } : Jvm.MethodName)) ∈ WG := WG_at 896 (by decide +kernel) (by decide +kernel)
theorem q_897 : (Jvm.Cond.privateMethod ({ cls := "NetlistBenchModel", name := "solve", desc := "(I)V" } : Jvm.MethodName)) ∈ lw_tbl := lw_bad 897 (by decide +kernel)
theorem q_898 : (Jvm.Cond.instanceMethod ({ cls := "NetlistBenchModel", name := "solve", desc := "(I)V" } : Jvm.MethodName)) ∈ WG := WG_at 898 (by decide +kernel) (by decide +kernel)
theorem q_899 : (Jvm.Cond.code ({ cls := "NetlistBenchModel", name := "solve", desc := "(I)V" } : Jvm.MethodName) prog_6_method_30_code (3 : Nat) (Option.none : Option Jvm.ClassFile.FieldType)) ∈ WG := WG_at 899 (by decide +kernel) (by decide +kernel)
theorem q_900 : (Jvm.Cond.methodLink "NetlistBenchModel" (123 : Nat) ({ cls := "NetlistBenchModel", name := "clear", desc := "()V" } : Jvm.MethodName)) ∈ WG := WG_at 900 (by decide +kernel) (by decide +kernel)
theorem q_901 : (Jvm.Cond.privateMethod ({ cls := "NetlistBenchModel", name := "clear", desc := "()V" } : Jvm.MethodName)) ∈ lw_tbl := lw_bad 901 (by decide +kernel)
theorem q_902 : (Jvm.Cond.instanceMethod ({ cls := "NetlistBenchModel", name := "clear", desc := "()V" } : Jvm.MethodName)) ∈ WG := WG_at 902 (by decide +kernel) (by decide +kernel)
theorem q_903 : (Jvm.Cond.code ({ cls := "NetlistBenchModel", name := "clear", desc := "()V" } : Jvm.MethodName) prog_6_method_28_code (2 : Nat) (Option.none : Option Jvm.ClassFile.FieldType)) ∈ WG := WG_at 903 (by decide +kernel) (by decide +kernel)
theorem q_904 : (Jvm.Cond.methodLink "NetlistBenchModel" (126 : Nat) ({ cls := "NetlistBenchModel", name := "lay", desc := "(III)V" } : Jvm.MethodName)) ∈ WG := WG_at 904 (by decide +kernel) (by decide +kernel)
theorem q_905 : (Jvm.Cond.privateMethod ({ cls := "NetlistBenchModel", name := "lay", desc := "(III)V" } : Jvm.MethodName)) ∈ lw_tbl := lw_bad 905 (by decide +kernel)
theorem q_906 : (Jvm.Cond.instanceMethod ({ cls := "NetlistBenchModel", name := "lay", desc := "(III)V" } : Jvm.MethodName)) ∈ WG := WG_at 906 (by decide +kernel) (by decide +kernel)
theorem q_907 : (Jvm.Cond.code ({ cls := "NetlistBenchModel", name := "lay", desc := "(III)V" } : Jvm.MethodName) prog_6_method_29_code (5 : Nat) (Option.none : Option Jvm.ClassFile.FieldType)) ∈ WG := WG_at 907 (by decide +kernel) (by decide +kernel)
theorem q_908 : (Jvm.Cond.methodLink "NetlistBenchModel" (130 : Nat) ({ cls := "NetlistBenchModel", name := "determinant", desc := "(I)J" } : Jvm.MethodName)) ∈ WG := WG_at 908 (by decide +kernel) (by decide +kernel)
theorem q_909 : (Jvm.Cond.privateMethod ({ cls := "NetlistBenchModel", name := "determinant", desc := "(I)J" } : Jvm.MethodName)) ∈ lw_tbl := lw_bad 909 (by decide +kernel)
theorem q_910 : (Jvm.Cond.instanceMethod ({ cls := "NetlistBenchModel", name := "determinant", desc := "(I)J" } : Jvm.MethodName)) ∈ WG := WG_at 910 (by decide +kernel) (by decide +kernel)
theorem q_911 : (Jvm.Cond.code ({ cls := "NetlistBenchModel", name := "determinant", desc := "(I)J" } : Jvm.MethodName) prog_6_method_27_code (11 : Nat) (Option.some Jvm.ClassFile.FieldType.long)) ∈ WG := WG_at 911 (by decide +kernel) (by decide +kernel)
theorem q_912 : (Jvm.Cond.methodLink "NetlistBenchModel" (118 : Nat) ({ cls := "java/lang/Integer", name := "bitCount", desc := "(I)I" } : Jvm.MethodName)) ∈ WG := WG_at 912 (by decide +kernel) (by decide +kernel)
theorem q_913 : (Jvm.Cond.methodLink "NetlistBenchModel" (152 : Nat) ({ cls := "NetlistBenchModel", name := "part", desc := "(JJZ)J" } : Jvm.MethodName)) ∈ WG := WG_at 913 (by decide +kernel) (by decide +kernel)
theorem q_914 : (Jvm.Cond.static ({ cls := "NetlistBenchModel", name := "part", desc := "(JJZ)J" } : Jvm.MethodName)) ∈ WG := WG_at 914 (by decide +kernel) (by decide +kernel)
theorem q_915 : (Jvm.Cond.code ({ cls := "NetlistBenchModel", name := "part", desc := "(JJZ)J" } : Jvm.MethodName) prog_6_method_32_code (7 : Nat) (Option.some Jvm.ClassFile.FieldType.long)) ∈ WG := WG_at 915 (by decide +kernel) (by decide +kernel)
theorem q_916 : (Jvm.Cond.methodLink "NetlistBenchModel" (144 : Nat) ({ cls := "NetlistBenchModel", name := "divisor", desc := "(JJ)J" } : Jvm.MethodName)) ∈ WG := WG_at 916 (by decide +kernel) (by decide +kernel)
theorem q_917 : (Jvm.Cond.static ({ cls := "NetlistBenchModel", name := "divisor", desc := "(JJ)J" } : Jvm.MethodName)) ∈ WG := WG_at 917 (by decide +kernel) (by decide +kernel)
theorem q_918 : (Jvm.Cond.code ({ cls := "NetlistBenchModel", name := "divisor", desc := "(JJ)J" } : Jvm.MethodName) prog_6_method_31_code (10 : Nat) (Option.some Jvm.ClassFile.FieldType.long)) ∈ WG := WG_at 918 (by decide +kernel) (by decide +kernel)
theorem q_919 : (Jvm.Cond.methodLink "NetlistBenchModel" (138 : Nat) ({ cls := "java/lang/Math", name := "abs", desc := "(J)J" } : Jvm.MethodName)) ∈ WG := WG_at 919 (by decide +kernel) (by decide +kernel)
theorem q_920 : (Jvm.Cond.methodLink "NetlistBenchLaw" (147 : Nat) ({ cls := "NetlistBenchModel", name := "current", desc := "(IIZ)J" } : Jvm.MethodName)) ∈ WG := WG_at 920 (by decide +kernel) (by decide +kernel)
theorem q_921 : (Jvm.Cond.instanceMethod ({ cls := "NetlistBenchModel", name := "current", desc := "(IIZ)J" } : Jvm.MethodName)) ∈ WG := WG_at 921 (by decide +kernel) (by decide +kernel)
theorem q_922 : (Jvm.Cond.selects "NetlistBenchModel" ({ cls := "NetlistBenchModel", name := "current", desc := "(IIZ)J" } : Jvm.MethodName) ({ cls := "NetlistBenchModel", name := "current", desc := "(IIZ)J" } : Jvm.MethodName)) ∈ WG := WG_at 922 (by decide +kernel) (by decide +kernel)
theorem q_923 : (Jvm.Cond.code ({ cls := "NetlistBenchModel", name := "current", desc := "(IIZ)J" } : Jvm.MethodName) prog_6_method_34_code (4 : Nat) (Option.some Jvm.ClassFile.FieldType.long)) ∈ WG := WG_at 923 (by decide +kernel) (by decide +kernel)
theorem q_924 : (Jvm.Cond.methodLink "NetlistBenchLaw" (150 : Nat) ({ cls := "NetlistBenchModel", name := "feed", desc := "(IIZ)J" } : Jvm.MethodName)) ∈ WG := WG_at 924 (by decide +kernel) (by decide +kernel)
theorem q_925 : (Jvm.Cond.instanceMethod ({ cls := "NetlistBenchModel", name := "feed", desc := "(IIZ)J" } : Jvm.MethodName)) ∈ WG := WG_at 925 (by decide +kernel) (by decide +kernel)
theorem q_926 : (Jvm.Cond.selects "NetlistBenchModel" ({ cls := "NetlistBenchModel", name := "feed", desc := "(IIZ)J" } : Jvm.MethodName) ({ cls := "NetlistBenchModel", name := "feed", desc := "(IIZ)J" } : Jvm.MethodName)) ∈ WG := WG_at 926 (by decide +kernel) (by decide +kernel)
theorem q_927 : (Jvm.Cond.code ({ cls := "NetlistBenchModel", name := "feed", desc := "(IIZ)J" } : Jvm.MethodName) prog_6_method_35_code (9 : Nat) (Option.some Jvm.ClassFile.FieldType.long)) ∈ WG := WG_at 927 (by decide +kernel) (by decide +kernel)
theorem q_928 : (Jvm.Cond.methodLink "NetlistBenchLaw" (154 : Nat) ({ cls := "NetlistBenchModel", name := "resistance", desc := "(IIIZ)J" } : Jvm.MethodName)) ∈ WG := WG_at 928 (by decide +kernel) (by decide +kernel)
theorem q_929 : (Jvm.Cond.instanceMethod ({ cls := "NetlistBenchModel", name := "resistance", desc := "(IIIZ)J" } : Jvm.MethodName)) ∈ WG := WG_at 929 (by decide +kernel) (by decide +kernel)
theorem q_930 : (Jvm.Cond.selects "NetlistBenchModel" ({ cls := "NetlistBenchModel", name := "resistance", desc := "(IIIZ)J" } : Jvm.MethodName) ({ cls := "NetlistBenchModel", name := "resistance", desc := "(IIIZ)J" } : Jvm.MethodName)) ∈ WG := WG_at 930 (by decide +kernel) (by decide +kernel)
theorem q_931 : (Jvm.Cond.code ({ cls := "NetlistBenchModel", name := "resistance", desc := "(IIIZ)J" } : Jvm.MethodName) prog_6_method_36_code (8 : Nat) (Option.some Jvm.ClassFile.FieldType.long)) ∈ WG := WG_at 931 (by decide +kernel) (by decide +kernel)
theorem q_932 : (Jvm.Cond.methodLink "NetlistBenchLaw" (158 : Nat) ({ cls := "NetlistBenchModel", name := "power", desc := "(I)D" } : Jvm.MethodName)) ∈ WG := WG_at 932 (by decide +kernel) (by decide +kernel)
theorem q_933 : (Jvm.Cond.instanceMethod ({ cls := "NetlistBenchModel", name := "power", desc := "(I)D" } : Jvm.MethodName)) ∈ WG := WG_at 933 (by decide +kernel) (by decide +kernel)
theorem q_934 : (Jvm.Cond.selects "NetlistBenchModel" ({ cls := "NetlistBenchModel", name := "power", desc := "(I)D" } : Jvm.MethodName) ({ cls := "NetlistBenchModel", name := "power", desc := "(I)D" } : Jvm.MethodName)) ∈ WG := WG_at 934 (by decide +kernel) (by decide +kernel)
theorem q_935 : (Jvm.Cond.code ({ cls := "NetlistBenchModel", name := "power", desc := "(I)D" } : Jvm.MethodName) prog_6_method_38_code (7 : Nat) (Option.some Jvm.ClassFile.FieldType.double)) ∈ WG := WG_at 935 (by decide +kernel) (by decide +kernel)
theorem q_936 : (Jvm.Cond.methodLink "NetlistBenchModel" (156 : Nat) ({ cls := "NetlistBenchModel", name := "potentialOf", desc := "(I)D" } : Jvm.MethodName)) ∈ WG := WG_at 936 (by decide +kernel) (by decide +kernel)
theorem q_937 : (Jvm.Cond.privateMethod ({ cls := "NetlistBenchModel", name := "potentialOf", desc := "(I)D" } : Jvm.MethodName)) ∈ lw_tbl := lw_bad 937 (by decide +kernel)
theorem q_938 : (Jvm.Cond.instanceMethod ({ cls := "NetlistBenchModel", name := "potentialOf", desc := "(I)D" } : Jvm.MethodName)) ∈ WG := WG_at 938 (by decide +kernel) (by decide +kernel)
theorem q_939 : (Jvm.Cond.code ({ cls := "NetlistBenchModel", name := "potentialOf", desc := "(I)D" } : Jvm.MethodName) prog_6_method_37_code (2 : Nat) (Option.some Jvm.ClassFile.FieldType.double)) ∈ WG := WG_at 939 (by decide +kernel) (by decide +kernel)
theorem q_940 : (Jvm.Cond.methodLink "NetlistBenchLaw" (161 : Nat) ({ cls := "NetlistBenchModel", name := "nextToggle", desc := "(I)I" } : Jvm.MethodName)) ∈ WG := WG_at 940 (by decide +kernel) (by decide +kernel)
theorem q_941 : (Jvm.Cond.instanceMethod ({ cls := "NetlistBenchModel", name := "nextToggle", desc := "(I)I" } : Jvm.MethodName)) ∈ WG := WG_at 941 (by decide +kernel) (by decide +kernel)
theorem q_942 : (Jvm.Cond.selects "NetlistBenchModel" ({ cls := "NetlistBenchModel", name := "nextToggle", desc := "(I)I" } : Jvm.MethodName) ({ cls := "NetlistBenchModel", name := "nextToggle", desc := "(I)I" } : Jvm.MethodName)) ∈ WG := WG_at 942 (by decide +kernel) (by decide +kernel)
theorem q_943 : (Jvm.Cond.code ({ cls := "NetlistBenchModel", name := "nextToggle", desc := "(I)I" } : Jvm.MethodName) prog_6_method_40_code (2 : Nat) (Option.some Jvm.ClassFile.FieldType.int)) ∈ WG := WG_at 943 (by decide +kernel) (by decide +kernel)
theorem q_944 : (Jvm.Cond.methodLink "NetlistBenchModel" (160 : Nat) ({ cls := "NetlistBenchModel", name := "toggleBehind", desc := "(I)I" } : Jvm.MethodName)) ∈ WG := WG_at 944 (by decide +kernel) (by decide +kernel)
theorem q_945 : (Jvm.Cond.privateMethod ({ cls := "NetlistBenchModel", name := "toggleBehind", desc := "(I)I" } : Jvm.MethodName)) ∈ lw_tbl := lw_bad 945 (by decide +kernel)
theorem q_946 : (Jvm.Cond.instanceMethod ({ cls := "NetlistBenchModel", name := "toggleBehind", desc := "(I)I" } : Jvm.MethodName)) ∈ WG := WG_at 946 (by decide +kernel) (by decide +kernel)
theorem q_947 : (Jvm.Cond.code ({ cls := "NetlistBenchModel", name := "toggleBehind", desc := "(I)I" } : Jvm.MethodName) prog_6_method_39_code (6 : Nat) (Option.some Jvm.ClassFile.FieldType.int)) ∈ WG := WG_at 947 (by decide +kernel) (by decide +kernel)
theorem q_948 : (Jvm.Cond.methodLink "NetlistBenchLaw" (164 : Nat) ({ cls := "NetlistBenchModel", name := "probe", desc := "(IIIZ)I" } : Jvm.MethodName)) ∈ WG := WG_at 948 (by decide +kernel) (by decide +kernel)
theorem q_949 : (Jvm.Cond.instanceMethod ({ cls := "NetlistBenchModel", name := "probe", desc := "(IIIZ)I" } : Jvm.MethodName)) ∈ WG := WG_at 949 (by decide +kernel) (by decide +kernel)
theorem q_950 : (Jvm.Cond.selects "NetlistBenchModel" ({ cls := "NetlistBenchModel", name := "probe", desc := "(IIIZ)I" } : Jvm.MethodName) ({ cls := "NetlistBenchModel", name := "probe", desc := "(IIIZ)I" } : Jvm.MethodName)) ∈ WG := WG_at 950 (by decide +kernel) (by decide +kernel)
theorem q_951 : (Jvm.Cond.code ({ cls := "NetlistBenchModel", name := "probe", desc := "(IIIZ)I" } : Jvm.MethodName) prog_6_method_42_code (12 : Nat) (Option.some Jvm.ClassFile.FieldType.int)) ∈ WG := WG_at 951 (by decide +kernel) (by decide +kernel)
theorem q_952 : (Jvm.Cond.methodLink "NetlistBenchModel" (166 : Nat) ({ cls := "NetlistBenchModel", name := "compared", desc := "(JJJJ)I" } : Jvm.MethodName)) ∈ WG := WG_at 952 (by decide +kernel) (by decide +kernel)
theorem q_953 : (Jvm.Cond.static ({ cls := "NetlistBenchModel", name := "compared", desc := "(JJJJ)I" } : Jvm.MethodName)) ∈ WG := WG_at 953 (by decide +kernel) (by decide +kernel)
theorem q_954 : (Jvm.Cond.code ({ cls := "NetlistBenchModel", name := "compared", desc := "(JJJJ)I" } : Jvm.MethodName) prog_6_method_41_code (16 : Nat) (Option.some Jvm.ClassFile.FieldType.int)) ∈ WG := WG_at 954 (by decide +kernel) (by decide +kernel)
theorem q_955 : (Jvm.Cond.methodLink "NetlistBenchModel" (163 : Nat) ({ cls := "java/lang/Math", name := "floorDiv", desc := "(JJ)J" } : Jvm.MethodName)) ∈ WG := WG_at 955 (by decide +kernel) (by decide +kernel)
theorem q_956 : (Jvm.Cond.methodLink "NetlistBenchLaw" (168 : Nat) ({ cls := "NetlistBenchModel", name := "compare", desc := "(IIII)I" } : Jvm.MethodName)) ∈ WG := WG_at 956 (by decide +kernel) (by decide +kernel)
theorem q_957 : (Jvm.Cond.instanceMethod ({ cls := "NetlistBenchModel", name := "compare", desc := "(IIII)I" } : Jvm.MethodName)) ∈ WG := WG_at 957 (by decide +kernel) (by decide +kernel)
theorem q_958 : (Jvm.Cond.selects "NetlistBenchModel" ({ cls := "NetlistBenchModel", name := "compare", desc := "(IIII)I" } : Jvm.MethodName) ({ cls := "NetlistBenchModel", name := "compare", desc := "(IIII)I" } : Jvm.MethodName)) ∈ WG := WG_at 958 (by decide +kernel) (by decide +kernel)
theorem q_959 : (Jvm.Cond.code ({ cls := "NetlistBenchModel", name := "compare", desc := "(IIII)I" } : Jvm.MethodName) prog_6_method_43_code (5 : Nat) (Option.some Jvm.ClassFile.FieldType.int)) ∈ WG := WG_at 959 (by decide +kernel) (by decide +kernel)
theorem q_960 : (Jvm.Cond.methodLink "NetlistBenchLaw" (171 : Nat) ({ cls := "NetlistBenchModel", name := "levels", desc := "(I)I" } : Jvm.MethodName)) ∈ WG := WG_at 960 (by decide +kernel) (by decide +kernel)
theorem q_961 : (Jvm.Cond.instanceMethod ({ cls := "NetlistBenchModel", name := "levels", desc := "(I)I" } : Jvm.MethodName)) ∈ WG := WG_at 961 (by decide +kernel) (by decide +kernel)
theorem q_962 : (Jvm.Cond.selects "NetlistBenchModel" ({ cls := "NetlistBenchModel", name := "levels", desc := "(I)I" } : Jvm.MethodName) ({ cls := "NetlistBenchModel", name := "levels", desc := "(I)I" } : Jvm.MethodName)) ∈ WG := WG_at 962 (by decide +kernel) (by decide +kernel)
theorem q_963 : (Jvm.Cond.code ({ cls := "NetlistBenchModel", name := "levels", desc := "(I)I" } : Jvm.MethodName) prog_6_method_44_code (6 : Nat) (Option.some Jvm.ClassFile.FieldType.int)) ∈ WG := WG_at 963 (by decide +kernel) (by decide +kernel)
theorem q_964 : (Jvm.Cond.methodLink "NetlistBenchLaw" (176 : Nat) ({ cls := "NetlistBenchModel", name := "digest", desc := "()J" } : Jvm.MethodName)) ∈ WG := WG_at 964 (by decide +kernel) (by decide +kernel)
theorem q_965 : (Jvm.Cond.instanceMethod ({ cls := "NetlistBenchModel", name := "digest", desc := "()J" } : Jvm.MethodName)) ∈ WG := WG_at 965 (by decide +kernel) (by decide +kernel)
theorem q_966 : (Jvm.Cond.selects "NetlistBenchModel" ({ cls := "NetlistBenchModel", name := "digest", desc := "()J" } : Jvm.MethodName) ({ cls := "NetlistBenchModel", name := "digest", desc := "()J" } : Jvm.MethodName)) ∈ WG := WG_at 966 (by decide +kernel) (by decide +kernel)
theorem q_967 : (Jvm.Cond.code ({ cls := "NetlistBenchModel", name := "digest", desc := "()J" } : Jvm.MethodName) prog_6_method_46_code (5 : Nat) (Option.some Jvm.ClassFile.FieldType.long)) ∈ WG := WG_at 967 (by decide +kernel) (by decide +kernel)
theorem q_968 : (Jvm.Cond.constantLong "NetlistBenchModel" (174 : Nat) (409 : Int64)) ∈ WG := WG_at 968 (by decide +kernel) (by decide +kernel)
theorem q_969 : (Jvm.Cond.constantLong "NetlistBenchModel" (170 : Nat) (31 : Int64)) ∈ WG := WG_at 969 (by decide +kernel) (by decide +kernel)
theorem q_970 : (Jvm.Cond.methodLink "NetlistBenchModel" (176 : Nat) ({ cls := "NetlistBenchModel", name := "into", desc := "(JI)J" } : Jvm.MethodName)) ∈ WG := WG_at 970 (by decide +kernel) (by decide +kernel)
theorem q_971 : (Jvm.Cond.privateMethod ({ cls := "NetlistBenchModel", name := "into", desc := "(JI)J" } : Jvm.MethodName)) ∈ lw_tbl := lw_bad 971 (by decide +kernel)
theorem q_972 : (Jvm.Cond.instanceMethod ({ cls := "NetlistBenchModel", name := "into", desc := "(JI)J" } : Jvm.MethodName)) ∈ WG := WG_at 972 (by decide +kernel) (by decide +kernel)
theorem q_973 : (Jvm.Cond.code ({ cls := "NetlistBenchModel", name := "into", desc := "(JI)J" } : Jvm.MethodName) prog_6_method_45_code (7 : Nat) (Option.some Jvm.ClassFile.FieldType.long)) ∈ WG := WG_at 973 (by decide +kernel) (by decide +kernel)
theorem q_974 : (Jvm.Cond.constantLong "NetlistBenchModel" (172 : Nat) (-1 : Int64)) ∈ WG := WG_at 974 (by decide +kernel) (by decide +kernel)
theorem q_975 : (Jvm.Cond.arrayClass Jvm.ClassFile.FieldType.double) ∈ WG := WG_at 975 (by decide +kernel) (by decide +kernel)
theorem q_976 : (Jvm.Cond.sameMethod "java/lang/Throwable" "java/lang/Throwable" "fillInStackTrace" "(I)Ljava/lang/Throwable;") ∈ WG := WG_at 976 (by decide +kernel) (by decide +kernel)
theorem q_977 : (Jvm.Cond.castable "NetlistBench" "java/lang/Object") ∈ lw_tbl := lw_bad 977 (by decide +kernel)
theorem q_978 : (Jvm.Cond.castable "java/util/ArrayList" "java/lang/Object") ∈ lw_tbl := lw_bad 978 (by decide +kernel)
theorem q_979 : (Jvm.Cond.castable "NetlistBench$Equations" "java/lang/Object") ∈ lw_tbl := lw_bad 979 (by decide +kernel)
theorem q_980 : (Jvm.Cond.castable "NetlistBenchModel" "java/lang/Object") ∈ lw_tbl := lw_bad 980 (by decide +kernel)
theorem q_981 : (Jvm.Cond.castable "java/lang/IllegalStateException" "java/lang/Object") ∈ lw_tbl := lw_bad 981 (by decide +kernel)
theorem q_982 : (Jvm.Cond.castable "NetlistBench$Node" "java/lang/Object") ∈ lw_tbl := lw_bad 982 (by decide +kernel)
theorem q_983 : (Jvm.Cond.castable "java/lang/IndexOutOfBoundsException" "java/lang/Object") ∈ lw_tbl := lw_bad 983 (by decide +kernel)
theorem q_984 : (Jvm.Cond.castable "java/lang/IllegalArgumentException" "java/lang/Object") ∈ lw_tbl := lw_bad 984 (by decide +kernel)
theorem q_985 : (Jvm.Cond.castable "NetlistBench$Element" "java/lang/Object") ∈ lw_tbl := lw_bad 985 (by decide +kernel)
theorem q_986 : (Jvm.Cond.castable "java/lang/Throwable" "java/lang/Object") ∈ lw_tbl := lw_bad 986 (by decide +kernel)
theorem q_987 : (Jvm.Cond.castable "java/lang/String" "java/lang/Object") ∈ lw_tbl := lw_bad 987 (by decide +kernel)
theorem q_988 : (Jvm.Cond.sameMethod "[Ljava/lang/Object;" "java/lang/Object" "getClass" "()Ljava/lang/Class;") ∈ WG := WG_at 988 (by decide +kernel) (by decide +kernel)
theorem q_989 : (Jvm.Cond.selects "[Ljava/lang/Object;" ({ cls := "java/lang/Object", name := "getClass", desc := "()Ljava/lang/Class;" } : Jvm.MethodName) ({ cls := "java/lang/Object", name := "getClass", desc := "()Ljava/lang/Class;" } : Jvm.MethodName)) ∈ WG := WG_at 989 (by decide +kernel) (by decide +kernel)
theorem q_990 : (Jvm.Cond.declares ({ cls := "java/lang/Object", name := "getClass", desc := "()Ljava/lang/Class;" } : Jvm.MethodName)) ∈ lw_tbl := lw_bad 990 (by decide +kernel)
theorem q_991 : (Jvm.Cond.castable "[[J" "java/lang/Object") ∈ lw_tbl := lw_bad 991 (by decide +kernel)
theorem q_992 : (Jvm.Cond.castable "[I" "java/lang/Object") ∈ lw_tbl := lw_bad 992 (by decide +kernel)
theorem q_993 : (Jvm.Cond.castable "[J" "java/lang/Object") ∈ lw_tbl := lw_bad 993 (by decide +kernel)
theorem q_994 : (Jvm.Cond.castable "[B" "java/lang/Object") ∈ lw_tbl := lw_bad 994 (by decide +kernel)
theorem q_995 : (Jvm.Cond.castable "[Ljava/lang/Object;" "java/lang/Object") ∈ lw_tbl := lw_bad 995 (by decide +kernel)
theorem q_996 : (Jvm.Cond.castable "[Z" "java/lang/Object") ∈ lw_tbl := lw_bad 996 (by decide +kernel)
theorem q_997 : (Jvm.Cond.castable "[D" "java/lang/Object") ∈ lw_tbl := lw_bad 997 (by decide +kernel)
end
section
theorem dX0_init_0 : decode cX0_init 0 = .ok (.aload_n 0, 1) := by decide +kernel
theorem dX0_init_1 : decode cX0_init 1 = .ok (.invokespecial 3, 3) := by decide +kernel
theorem dX0_init_4 : decode cX0_init 4 = .ok (.aload_n 0, 1) := by decide +kernel
theorem dX0_init_5 : decode cX0_init 5 = .ok (.iconst 1, 1) := by decide +kernel
theorem dX0_init_6 : decode cX0_init 6 = .ok (.putfield 9, 3) := by decide +kernel
theorem dX0_init_9 : decode cX0_init 9 = .ok (.aload_n 0, 1) := by decide +kernel
theorem dX0_init_10 : decode cX0_init 10 = .ok (.iconst 0, 1) := by decide +kernel
theorem dX0_init_11 : decode cX0_init 11 = .ok (.putfield 15, 3) := by decide +kernel
theorem dX0_init_14 : decode cX0_init 14 = .ok (.aload_n 0, 1) := by decide +kernel
theorem dX0_init_15 : decode cX0_init 15 = .ok (.bipush 6, 2) := by decide +kernel
theorem dX0_init_17 : decode cX0_init 17 = .ok (.newarray .int, 2) := by decide +kernel
theorem dX0_init_19 : decode cX0_init 19 = .ok (.putfield 19, 3) := by decide +kernel
theorem dX0_init_22 : decode cX0_init 22 = .ok (.aload_n 0, 1) := by decide +kernel
theorem dX0_init_23 : decode cX0_init 23 = .ok (.iload_n 1, 1) := by decide +kernel
theorem dX0_init_24 : decode cX0_init 24 = .ok (.putfield 23, 3) := by decide +kernel
theorem dX0_init_27 : decode cX0_init 27 = .ok (.aload_n 0, 1) := by decide +kernel
theorem dX0_init_28 : decode cX0_init 28 = .ok (.iload_n 2, 1) := by decide +kernel
theorem dX0_init_29 : decode cX0_init 29 = .ok (.putfield 26, 3) := by decide +kernel
theorem dX0_init_32 : decode cX0_init 32 = .ok (.aload_n 0, 1) := by decide +kernel
theorem dX0_init_33 : decode cX0_init 33 = .ok (.iload_n 3, 1) := by decide +kernel
theorem dX0_init_34 : decode cX0_init 34 = .ok (.putfield 29, 3) := by decide +kernel
theorem dX0_init_37 : decode cX0_init 37 = .ok (.aload_n 0, 1) := by decide +kernel
theorem dX0_init_38 : decode cX0_init 38 = .ok (.iload 4, 2) := by decide +kernel
theorem dX0_init_40 : decode cX0_init 40 = .ok (.putfield 32, 3) := by decide +kernel
theorem dX0_init_43 : decode cX0_init 43 = .ok (.return_, 1) := by decide +kernel
theorem dX0_runsAt_0 : decode cX0_runsAt 0 = .ok (.aload_n 0, 1) := by decide +kernel
theorem dX0_runsAt_1 : decode cX0_runsAt 1 = .ok (.getfield 9, 3) := by decide +kernel
theorem dX0_runsAt_4 : decode cX0_runsAt 4 = .ok (.aload_n 0, 1) := by decide +kernel
theorem dX0_runsAt_5 : decode cX0_runsAt 5 = .ok (.iload_n 1, 1) := by decide +kernel
theorem dX0_runsAt_6 : decode cX0_runsAt 6 = .ok (.iconst 1, 1) := by decide +kernel
theorem dX0_runsAt_7 : decode cX0_runsAt 7 = .ok (.iadd, 1) := by decide +kernel
theorem dX0_runsAt_8 : decode cX0_runsAt 8 = .ok (.invokevirtual 35, 3) := by decide +kernel
theorem dX0_runsAt_11 : decode cX0_runsAt 11 = .ok (.iconst 2, 1) := by decide +kernel
theorem dX0_runsAt_12 : decode cX0_runsAt 12 = .ok (.irem, 1) := by decide +kernel
theorem dX0_runsAt_13 : decode cX0_runsAt 13 = .ok (.ifCond .ne 7, 3) := by decide +kernel
theorem dX0_runsAt_16 : decode cX0_runsAt 16 = .ok (.iconst 1, 1) := by decide +kernel
theorem dX0_runsAt_17 : decode cX0_runsAt 17 = .ok (.goto 4, 3) := by decide +kernel
theorem dX0_runsAt_20 : decode cX0_runsAt 20 = .ok (.iconst 0, 1) := by decide +kernel
theorem dX0_runsAt_21 : decode cX0_runsAt 21 = .ok (.if_icmp .ne 7, 3) := by decide +kernel
theorem dX0_runsAt_24 : decode cX0_runsAt 24 = .ok (.iconst 1, 1) := by decide +kernel
theorem dX0_runsAt_25 : decode cX0_runsAt 25 = .ok (.goto 4, 3) := by decide +kernel
theorem dX0_runsAt_28 : decode cX0_runsAt 28 = .ok (.iconst 0, 1) := by decide +kernel
theorem dX0_runsAt_29 : decode cX0_runsAt 29 = .ok (.ireturn, 1) := by decide +kernel
theorem dX0_hasToggle_0 : decode cX0_hasToggle 0 = .ok (.aload_n 0, 1) := by decide +kernel
theorem dX0_hasToggle_1 : decode cX0_hasToggle 1 = .ok (.iload_n 1, 1) := by decide +kernel
theorem dX0_hasToggle_2 : decode cX0_hasToggle 2 = .ok (.invokevirtual 35, 3) := by decide +kernel
theorem dX0_hasToggle_5 : decode cX0_hasToggle 5 = .ok (.aload_n 0, 1) := by decide +kernel
theorem dX0_hasToggle_6 : decode cX0_hasToggle 6 = .ok (.iload_n 1, 1) := by decide +kernel
theorem dX0_hasToggle_7 : decode cX0_hasToggle 7 = .ok (.iconst 1, 1) := by decide +kernel
theorem dX0_hasToggle_8 : decode cX0_hasToggle 8 = .ok (.iadd, 1) := by decide +kernel
theorem dX0_hasToggle_9 : decode cX0_hasToggle 9 = .ok (.invokevirtual 35, 3) := by decide +kernel
theorem dX0_hasToggle_12 : decode cX0_hasToggle 12 = .ok (.if_icmp .ge 7, 3) := by decide +kernel
theorem dX0_hasToggle_15 : decode cX0_hasToggle 15 = .ok (.iconst 1, 1) := by decide +kernel
theorem dX0_hasToggle_16 : decode cX0_hasToggle 16 = .ok (.goto 4, 3) := by decide +kernel
theorem dX0_hasToggle_19 : decode cX0_hasToggle 19 = .ok (.iconst 0, 1) := by decide +kernel
theorem dX0_hasToggle_20 : decode cX0_hasToggle 20 = .ok (.ireturn, 1) := by decide +kernel
theorem dX0_toggleTime_0 : decode cX0_toggleTime 0 = .ok (.iload_n 1, 1) := by decide +kernel
theorem dX0_toggleTime_1 : decode cX0_toggleTime 1 = .ok (.ifCond .lt 20, 3) := by decide +kernel
theorem dX0_toggleTime_4 : decode cX0_toggleTime 4 = .ok (.iload_n 1, 1) := by decide +kernel
theorem dX0_toggleTime_5 : decode cX0_toggleTime 5 = .ok (.aload_n 0, 1) := by decide +kernel
theorem dX0_toggleTime_6 : decode cX0_toggleTime 6 = .ok (.getfield 15, 3) := by decide +kernel
theorem dX0_toggleTime_9 : decode cX0_toggleTime 9 = .ok (.if_icmp .ge 12, 3) := by decide +kernel
theorem dX0_toggleTime_12 : decode cX0_toggleTime 12 = .ok (.aload_n 0, 1) := by decide +kernel
theorem dX0_toggleTime_13 : decode cX0_toggleTime 13 = .ok (.getfield 19, 3) := by decide +kernel
theorem dX0_toggleTime_16 : decode cX0_toggleTime 16 = .ok (.iload_n 1, 1) := by decide +kernel
theorem dX0_toggleTime_17 : decode cX0_toggleTime 17 = .ok (.iaload, 1) := by decide +kernel
theorem dX0_toggleTime_18 : decode cX0_toggleTime 18 = .ok (.goto 4, 3) := by decide +kernel
theorem dX0_toggleTime_21 : decode cX0_toggleTime 21 = .ok (.iconst (-1), 1) := by decide +kernel
theorem dX0_toggleTime_22 : decode cX0_toggleTime 22 = .ok (.ireturn, 1) := by decide +kernel
theorem dX0_toggleBehind_0 : decode cX0_toggleBehind 0 = .ok (.aload_n 0, 1) := by decide +kernel
theorem dX0_toggleBehind_1 : decode cX0_toggleBehind 1 = .ok (.aload_n 0, 1) := by decide +kernel
theorem dX0_toggleBehind_2 : decode cX0_toggleBehind 2 = .ok (.iload_n 1, 1) := by decide +kernel
theorem dX0_toggleBehind_3 : decode cX0_toggleBehind 3 = .ok (.iconst 1, 1) := by decide +kernel
theorem dX0_toggleBehind_4 : decode cX0_toggleBehind 4 = .ok (.iadd, 1) := by decide +kernel
theorem dX0_toggleBehind_5 : decode cX0_toggleBehind 5 = .ok (.invokevirtual 35, 3) := by decide +kernel
theorem dX0_toggleBehind_8 : decode cX0_toggleBehind 8 = .ok (.invokevirtual 39, 3) := by decide +kernel
theorem dX0_toggleBehind_11 : decode cX0_toggleBehind 11 = .ok (.ireturn, 1) := by decide +kernel
theorem dX0_putToggle_0 : decode cX0_putToggle 0 = .ok (.aload_n 0, 1) := by decide +kernel
theorem dX0_putToggle_1 : decode cX0_putToggle 1 = .ok (.getfield 15, 3) := by decide +kernel
theorem dX0_putToggle_4 : decode cX0_putToggle 4 = .ok (.bipush 6, 2) := by decide +kernel
theorem dX0_putToggle_6 : decode cX0_putToggle 6 = .ok (.if_icmp .lt 4, 3) := by decide +kernel
theorem dX0_putToggle_9 : decode cX0_putToggle 9 = .ok (.return_, 1) := by decide +kernel
theorem dX0_putToggle_10 : decode cX0_putToggle 10 = .ok (.aload_n 0, 1) := by decide +kernel
theorem dX0_putToggle_11 : decode cX0_putToggle 11 = .ok (.iload_n 1, 1) := by decide +kernel
theorem dX0_putToggle_12 : decode cX0_putToggle 12 = .ok (.invokevirtual 35, 3) := by decide +kernel
theorem dX0_putToggle_15 : decode cX0_putToggle 15 = .ok (.istore_n 2, 1) := by decide +kernel
theorem dX0_putToggle_16 : decode cX0_putToggle 16 = .ok (.aload_n 0, 1) := by decide +kernel
theorem dX0_putToggle_17 : decode cX0_putToggle 17 = .ok (.getfield 15, 3) := by decide +kernel
theorem dX0_putToggle_20 : decode cX0_putToggle 20 = .ok (.istore_n 3, 1) := by decide +kernel
theorem dX0_putToggle_21 : decode cX0_putToggle 21 = .ok (.iload_n 3, 1) := by decide +kernel
theorem dX0_putToggle_22 : decode cX0_putToggle 22 = .ok (.iload_n 2, 1) := by decide +kernel
theorem dX0_putToggle_23 : decode cX0_putToggle 23 = .ok (.if_icmp .le 23, 3) := by decide +kernel
theorem dX0_putToggle_26 : decode cX0_putToggle 26 = .ok (.aload_n 0, 1) := by decide +kernel
theorem dX0_putToggle_27 : decode cX0_putToggle 27 = .ok (.getfield 19, 3) := by decide +kernel
theorem dX0_putToggle_30 : decode cX0_putToggle 30 = .ok (.iload_n 3, 1) := by decide +kernel
theorem dX0_putToggle_31 : decode cX0_putToggle 31 = .ok (.aload_n 0, 1) := by decide +kernel
theorem dX0_putToggle_32 : decode cX0_putToggle 32 = .ok (.getfield 19, 3) := by decide +kernel
theorem dX0_putToggle_35 : decode cX0_putToggle 35 = .ok (.iload_n 3, 1) := by decide +kernel
theorem dX0_putToggle_36 : decode cX0_putToggle 36 = .ok (.iconst 1, 1) := by decide +kernel
theorem dX0_putToggle_37 : decode cX0_putToggle 37 = .ok (.isub, 1) := by decide +kernel
theorem dX0_putToggle_38 : decode cX0_putToggle 38 = .ok (.iaload, 1) := by decide +kernel
theorem dX0_putToggle_39 : decode cX0_putToggle 39 = .ok (.iastore, 1) := by decide +kernel
theorem dX0_putToggle_40 : decode cX0_putToggle 40 = .ok (.iinc 3 (-1), 3) := by decide +kernel
theorem dX0_putToggle_43 : decode cX0_putToggle 43 = .ok (.goto (-22), 3) := by decide +kernel
theorem dX0_putToggle_46 : decode cX0_putToggle 46 = .ok (.aload_n 0, 1) := by decide +kernel
theorem dX0_putToggle_47 : decode cX0_putToggle 47 = .ok (.getfield 19, 3) := by decide +kernel
theorem dX0_putToggle_50 : decode cX0_putToggle 50 = .ok (.iload_n 2, 1) := by decide +kernel
theorem dX0_putToggle_51 : decode cX0_putToggle 51 = .ok (.iload_n 1, 1) := by decide +kernel
theorem dX0_putToggle_52 : decode cX0_putToggle 52 = .ok (.iastore, 1) := by decide +kernel
theorem dX0_putToggle_53 : decode cX0_putToggle 53 = .ok (.aload_n 0, 1) := by decide +kernel
theorem dX0_putToggle_54 : decode cX0_putToggle 54 = .ok (.dup, 1) := by decide +kernel
theorem dX0_putToggle_55 : decode cX0_putToggle 55 = .ok (.getfield 15, 3) := by decide +kernel
theorem dX0_putToggle_58 : decode cX0_putToggle 58 = .ok (.iconst 1, 1) := by decide +kernel
theorem dX0_putToggle_59 : decode cX0_putToggle 59 = .ok (.iadd, 1) := by decide +kernel
theorem dX0_putToggle_60 : decode cX0_putToggle 60 = .ok (.putfield 15, 3) := by decide +kernel
theorem dX0_putToggle_63 : decode cX0_putToggle 63 = .ok (.return_, 1) := by decide +kernel
theorem dX0_dropToggle_0 : decode cX0_dropToggle 0 = .ok (.aload_n 0, 1) := by decide +kernel
theorem dX0_dropToggle_1 : decode cX0_dropToggle 1 = .ok (.iload_n 1, 1) := by decide +kernel
theorem dX0_dropToggle_2 : decode cX0_dropToggle 2 = .ok (.invokevirtual 35, 3) := by decide +kernel
theorem dX0_dropToggle_5 : decode cX0_dropToggle 5 = .ok (.iconst 1, 1) := by decide +kernel
theorem dX0_dropToggle_6 : decode cX0_dropToggle 6 = .ok (.iadd, 1) := by decide +kernel
theorem dX0_dropToggle_7 : decode cX0_dropToggle 7 = .ok (.istore_n 2, 1) := by decide +kernel
theorem dX0_dropToggle_8 : decode cX0_dropToggle 8 = .ok (.iload_n 2, 1) := by decide +kernel
theorem dX0_dropToggle_9 : decode cX0_dropToggle 9 = .ok (.aload_n 0, 1) := by decide +kernel
theorem dX0_dropToggle_10 : decode cX0_dropToggle 10 = .ok (.getfield 15, 3) := by decide +kernel
theorem dX0_dropToggle_13 : decode cX0_dropToggle 13 = .ok (.if_icmp .ge 23, 3) := by decide +kernel
theorem dX0_dropToggle_16 : decode cX0_dropToggle 16 = .ok (.aload_n 0, 1) := by decide +kernel
theorem dX0_dropToggle_17 : decode cX0_dropToggle 17 = .ok (.getfield 19, 3) := by decide +kernel
theorem dX0_dropToggle_20 : decode cX0_dropToggle 20 = .ok (.iload_n 2, 1) := by decide +kernel
theorem dX0_dropToggle_21 : decode cX0_dropToggle 21 = .ok (.iconst 1, 1) := by decide +kernel
theorem dX0_dropToggle_22 : decode cX0_dropToggle 22 = .ok (.isub, 1) := by decide +kernel
theorem dX0_dropToggle_23 : decode cX0_dropToggle 23 = .ok (.aload_n 0, 1) := by decide +kernel
theorem dX0_dropToggle_24 : decode cX0_dropToggle 24 = .ok (.getfield 19, 3) := by decide +kernel
theorem dX0_dropToggle_27 : decode cX0_dropToggle 27 = .ok (.iload_n 2, 1) := by decide +kernel
theorem dX0_dropToggle_28 : decode cX0_dropToggle 28 = .ok (.iaload, 1) := by decide +kernel
theorem dX0_dropToggle_29 : decode cX0_dropToggle 29 = .ok (.iastore, 1) := by decide +kernel
theorem dX0_dropToggle_30 : decode cX0_dropToggle 30 = .ok (.iinc 2 1, 3) := by decide +kernel
theorem dX0_dropToggle_33 : decode cX0_dropToggle 33 = .ok (.goto (-25), 3) := by decide +kernel
theorem dX0_dropToggle_36 : decode cX0_dropToggle 36 = .ok (.aload_n 0, 1) := by decide +kernel
theorem dX0_dropToggle_37 : decode cX0_dropToggle 37 = .ok (.dup, 1) := by decide +kernel
theorem dX0_dropToggle_38 : decode cX0_dropToggle 38 = .ok (.getfield 15, 3) := by decide +kernel
theorem dX0_dropToggle_41 : decode cX0_dropToggle 41 = .ok (.iconst 1, 1) := by decide +kernel
theorem dX0_dropToggle_42 : decode cX0_dropToggle 42 = .ok (.isub, 1) := by decide +kernel
theorem dX0_dropToggle_43 : decode cX0_dropToggle 43 = .ok (.putfield 15, 3) := by decide +kernel
theorem dX0_dropToggle_46 : decode cX0_dropToggle 46 = .ok (.return_, 1) := by decide +kernel
theorem dX0_trait_0 : decode cX0_trait 0 = .ok (.iload_n 1, 1) := by decide +kernel
theorem dX0_trait_1 : decode cX0_trait 1 = .ok (.tableswitch 76 0 4 #[35, 48, 53, 58, 63], 35) := by decide +kernel
theorem dX0_trait_36 : decode cX0_trait 36 = .ok (.aload_n 0, 1) := by decide +kernel
theorem dX0_trait_37 : decode cX0_trait 37 = .ok (.getfield 23, 3) := by decide +kernel
theorem dX0_trait_40 : decode cX0_trait 40 = .ok (.ifCond .eq 7, 3) := by decide +kernel
theorem dX0_trait_43 : decode cX0_trait 43 = .ok (.iconst 1, 1) := by decide +kernel
theorem dX0_trait_44 : decode cX0_trait 44 = .ok (.goto 4, 3) := by decide +kernel
theorem dX0_trait_47 : decode cX0_trait 47 = .ok (.iconst 0, 1) := by decide +kernel
theorem dX0_trait_48 : decode cX0_trait 48 = .ok (.ireturn, 1) := by decide +kernel
theorem dX0_trait_49 : decode cX0_trait 49 = .ok (.aload_n 0, 1) := by decide +kernel
theorem dX0_trait_50 : decode cX0_trait 50 = .ok (.getfield 26, 3) := by decide +kernel
theorem dX0_trait_53 : decode cX0_trait 53 = .ok (.ireturn, 1) := by decide +kernel
theorem dX0_trait_54 : decode cX0_trait 54 = .ok (.aload_n 0, 1) := by decide +kernel
theorem dX0_trait_55 : decode cX0_trait 55 = .ok (.getfield 29, 3) := by decide +kernel
theorem dX0_trait_58 : decode cX0_trait 58 = .ok (.ireturn, 1) := by decide +kernel
theorem dX0_trait_59 : decode cX0_trait 59 = .ok (.aload_n 0, 1) := by decide +kernel
theorem dX0_trait_60 : decode cX0_trait 60 = .ok (.getfield 32, 3) := by decide +kernel
theorem dX0_trait_63 : decode cX0_trait 63 = .ok (.ireturn, 1) := by decide +kernel
theorem dX0_trait_64 : decode cX0_trait 64 = .ok (.aload_n 0, 1) := by decide +kernel
theorem dX0_trait_65 : decode cX0_trait 65 = .ok (.getfield 9, 3) := by decide +kernel
theorem dX0_trait_68 : decode cX0_trait 68 = .ok (.ifCond .eq 7, 3) := by decide +kernel
theorem dX0_trait_71 : decode cX0_trait 71 = .ok (.iconst 1, 1) := by decide +kernel
theorem dX0_trait_72 : decode cX0_trait 72 = .ok (.goto 4, 3) := by decide +kernel
theorem dX0_trait_75 : decode cX0_trait 75 = .ok (.iconst 0, 1) := by decide +kernel
theorem dX0_trait_76 : decode cX0_trait 76 = .ok (.ireturn, 1) := by decide +kernel
theorem dX0_trait_77 : decode cX0_trait 77 = .ok (.aload_n 0, 1) := by decide +kernel
theorem dX0_trait_78 : decode cX0_trait 78 = .ok (.getfield 15, 3) := by decide +kernel
theorem dX0_trait_81 : decode cX0_trait 81 = .ok (.ireturn, 1) := by decide +kernel
theorem dX0_togglesBefore_0 : decode cX0_togglesBefore 0 = .ok (.iconst 0, 1) := by decide +kernel
theorem dX0_togglesBefore_1 : decode cX0_togglesBefore 1 = .ok (.istore_n 2, 1) := by decide +kernel
theorem dX0_togglesBefore_2 : decode cX0_togglesBefore 2 = .ok (.iconst 0, 1) := by decide +kernel
theorem dX0_togglesBefore_3 : decode cX0_togglesBefore 3 = .ok (.istore_n 3, 1) := by decide +kernel
theorem dX0_togglesBefore_4 : decode cX0_togglesBefore 4 = .ok (.iload_n 3, 1) := by decide +kernel
theorem dX0_togglesBefore_5 : decode cX0_togglesBefore 5 = .ok (.aload_n 0, 1) := by decide +kernel
theorem dX0_togglesBefore_6 : decode cX0_togglesBefore 6 = .ok (.getfield 15, 3) := by decide +kernel
theorem dX0_togglesBefore_9 : decode cX0_togglesBefore 9 = .ok (.if_icmp .ge 22, 3) := by decide +kernel
theorem dX0_togglesBefore_12 : decode cX0_togglesBefore 12 = .ok (.aload_n 0, 1) := by decide +kernel
theorem dX0_togglesBefore_13 : decode cX0_togglesBefore 13 = .ok (.getfield 19, 3) := by decide +kernel
theorem dX0_togglesBefore_16 : decode cX0_togglesBefore 16 = .ok (.iload_n 3, 1) := by decide +kernel
theorem dX0_togglesBefore_17 : decode cX0_togglesBefore 17 = .ok (.iaload, 1) := by decide +kernel
theorem dX0_togglesBefore_18 : decode cX0_togglesBefore 18 = .ok (.iload_n 1, 1) := by decide +kernel
theorem dX0_togglesBefore_19 : decode cX0_togglesBefore 19 = .ok (.if_icmp .ge 6, 3) := by decide +kernel
theorem dX0_togglesBefore_22 : decode cX0_togglesBefore 22 = .ok (.iinc 2 1, 3) := by decide +kernel
theorem dX0_togglesBefore_25 : decode cX0_togglesBefore 25 = .ok (.iinc 3 1, 3) := by decide +kernel
theorem dX0_togglesBefore_28 : decode cX0_togglesBefore 28 = .ok (.goto (-24), 3) := by decide +kernel
theorem dX0_togglesBefore_31 : decode cX0_togglesBefore 31 = .ok (.iload_n 2, 1) := by decide +kernel
theorem dX0_togglesBefore_32 : decode cX0_togglesBefore 32 = .ok (.ireturn, 1) := by decide +kernel
theorem dX1_init_0 : decode cX1_init 0 = .ok (.aload_n 0, 1) := by decide +kernel
theorem dX1_init_1 : decode cX1_init 1 = .ok (.invokespecial 3, 3) := by decide +kernel
theorem dX1_init_4 : decode cX1_init 4 = .ok (.aload_n 0, 1) := by decide +kernel
theorem dX1_init_5 : decode cX1_init 5 = .ok (.bipush 8, 2) := by decide +kernel
theorem dX1_init_7 : decode cX1_init 7 = .ok (.newarray .int, 2) := by decide +kernel
theorem dX1_init_9 : decode cX1_init 9 = .ok (.putfield 9, 3) := by decide +kernel
theorem dX1_init_12 : decode cX1_init 12 = .ok (.aload_n 0, 1) := by decide +kernel
theorem dX1_init_13 : decode cX1_init 13 = .ok (.bipush 8, 2) := by decide +kernel
theorem dX1_init_15 : decode cX1_init 15 = .ok (.newarray .long, 2) := by decide +kernel
theorem dX1_init_17 : decode cX1_init 17 = .ok (.putfield 15, 3) := by decide +kernel
theorem dX1_init_20 : decode cX1_init 20 = .ok (.aload_n 0, 1) := by decide +kernel
theorem dX1_init_21 : decode cX1_init 21 = .ok (.bipush 7, 2) := by decide +kernel
theorem dX1_init_23 : decode cX1_init 23 = .ok (.bipush 8, 2) := by decide +kernel
theorem dX1_init_25 : decode cX1_init 25 = .ok (.multianewarray 19 2, 4) := by decide +kernel
theorem dX1_init_29 : decode cX1_init 29 = .ok (.putfield 21, 3) := by decide +kernel
theorem dX1_init_32 : decode cX1_init 32 = .ok (.aload_n 0, 1) := by decide +kernel
theorem dX1_init_33 : decode cX1_init 33 = .ok (.sipush 256, 3) := by decide +kernel
theorem dX1_init_36 : decode cX1_init 36 = .ok (.newarray .long, 2) := by decide +kernel
theorem dX1_init_38 : decode cX1_init 38 = .ok (.putfield 24, 3) := by decide +kernel
theorem dX1_init_41 : decode cX1_init 41 = .ok (.aload_n 0, 1) := by decide +kernel
theorem dX1_init_42 : decode cX1_init 42 = .ok (.iconst 0, 1) := by decide +kernel
theorem dX1_init_43 : decode cX1_init 43 = .ok (.putfield 27, 3) := by decide +kernel
theorem dX1_init_46 : decode cX1_init 46 = .ok (.return_, 1) := by decide +kernel
theorem dX1_clear_0 : decode cX1_clear 0 = .ok (.aload_n 0, 1) := by decide +kernel
theorem dX1_clear_1 : decode cX1_clear 1 = .ok (.iconst 0, 1) := by decide +kernel
theorem dX1_clear_2 : decode cX1_clear 2 = .ok (.putfield 27, 3) := by decide +kernel
theorem dX1_clear_5 : decode cX1_clear 5 = .ok (.iconst 0, 1) := by decide +kernel
theorem dX1_clear_6 : decode cX1_clear 6 = .ok (.istore_n 1, 1) := by decide +kernel
theorem dX1_clear_7 : decode cX1_clear 7 = .ok (.iload_n 1, 1) := by decide +kernel
theorem dX1_clear_8 : decode cX1_clear 8 = .ok (.bipush 8, 2) := by decide +kernel
theorem dX1_clear_10 : decode cX1_clear 10 = .ok (.if_icmp .ge 23, 3) := by decide +kernel
theorem dX1_clear_13 : decode cX1_clear 13 = .ok (.aload_n 0, 1) := by decide +kernel
theorem dX1_clear_14 : decode cX1_clear 14 = .ok (.getfield 9, 3) := by decide +kernel
theorem dX1_clear_17 : decode cX1_clear 17 = .ok (.iload_n 1, 1) := by decide +kernel
theorem dX1_clear_18 : decode cX1_clear 18 = .ok (.iconst (-1), 1) := by decide +kernel
theorem dX1_clear_19 : decode cX1_clear 19 = .ok (.iastore, 1) := by decide +kernel
theorem dX1_clear_20 : decode cX1_clear 20 = .ok (.aload_n 0, 1) := by decide +kernel
theorem dX1_clear_21 : decode cX1_clear 21 = .ok (.getfield 15, 3) := by decide +kernel
theorem dX1_clear_24 : decode cX1_clear 24 = .ok (.iload_n 1, 1) := by decide +kernel
theorem dX1_clear_25 : decode cX1_clear 25 = .ok (.lconst 0, 1) := by decide +kernel
theorem dX1_clear_26 : decode cX1_clear 26 = .ok (.lastore, 1) := by decide +kernel
theorem dX1_clear_27 : decode cX1_clear 27 = .ok (.iinc 1 1, 3) := by decide +kernel
theorem dX1_clear_30 : decode cX1_clear 30 = .ok (.goto (-23), 3) := by decide +kernel
theorem dX1_clear_33 : decode cX1_clear 33 = .ok (.iconst 0, 1) := by decide +kernel
theorem dX1_clear_34 : decode cX1_clear 34 = .ok (.istore_n 1, 1) := by decide +kernel
theorem dX1_clear_35 : decode cX1_clear 35 = .ok (.iload_n 1, 1) := by decide +kernel
theorem dX1_clear_36 : decode cX1_clear 36 = .ok (.bipush 7, 2) := by decide +kernel
theorem dX1_clear_38 : decode cX1_clear 38 = .ok (.if_icmp .ge 32, 3) := by decide +kernel
theorem dX1_clear_41 : decode cX1_clear 41 = .ok (.iconst 0, 1) := by decide +kernel
theorem dX1_clear_42 : decode cX1_clear 42 = .ok (.istore_n 2, 1) := by decide +kernel
theorem dX1_clear_43 : decode cX1_clear 43 = .ok (.iload_n 2, 1) := by decide +kernel
theorem dX1_clear_44 : decode cX1_clear 44 = .ok (.bipush 7, 2) := by decide +kernel
theorem dX1_clear_46 : decode cX1_clear 46 = .ok (.if_icmp .gt 18, 3) := by decide +kernel
theorem dX1_clear_49 : decode cX1_clear 49 = .ok (.aload_n 0, 1) := by decide +kernel
theorem dX1_clear_50 : decode cX1_clear 50 = .ok (.getfield 21, 3) := by decide +kernel
theorem dX1_clear_53 : decode cX1_clear 53 = .ok (.iload_n 1, 1) := by decide +kernel
theorem dX1_clear_54 : decode cX1_clear 54 = .ok (.aaload, 1) := by decide +kernel
theorem dX1_clear_55 : decode cX1_clear 55 = .ok (.iload_n 2, 1) := by decide +kernel
theorem dX1_clear_56 : decode cX1_clear 56 = .ok (.lconst 0, 1) := by decide +kernel
theorem dX1_clear_57 : decode cX1_clear 57 = .ok (.lastore, 1) := by decide +kernel
theorem dX1_clear_58 : decode cX1_clear 58 = .ok (.iinc 2 1, 3) := by decide +kernel
theorem dX1_clear_61 : decode cX1_clear 61 = .ok (.goto (-18), 3) := by decide +kernel
theorem dX1_clear_64 : decode cX1_clear 64 = .ok (.iinc 1 1, 3) := by decide +kernel
theorem dX1_clear_67 : decode cX1_clear 67 = .ok (.goto (-32), 3) := by decide +kernel
theorem dX1_clear_70 : decode cX1_clear 70 = .ok (.return_, 1) := by decide +kernel
theorem dX1_fix_0 : decode cX1_fix 0 = .ok (.aload_n 0, 1) := by decide +kernel
theorem dX1_fix_1 : decode cX1_fix 1 = .ok (.getfield 15, 3) := by decide +kernel
theorem dX1_fix_4 : decode cX1_fix 4 = .ok (.iload_n 1, 1) := by decide +kernel
theorem dX1_fix_5 : decode cX1_fix 5 = .ok (.lload_n 2, 1) := by decide +kernel
theorem dX1_fix_6 : decode cX1_fix 6 = .ok (.lastore, 1) := by decide +kernel
theorem dX1_fix_7 : decode cX1_fix 7 = .ok (.return_, 1) := by decide +kernel
theorem dX1_seek_0 : decode cX1_seek 0 = .ok (.aload_n 0, 1) := by decide +kernel
theorem dX1_seek_1 : decode cX1_seek 1 = .ok (.getfield 27, 3) := by decide +kernel
theorem dX1_seek_4 : decode cX1_seek 4 = .ok (.bipush 7, 2) := by decide +kernel
theorem dX1_seek_6 : decode cX1_seek 6 = .ok (.if_icmp .ge 23, 3) := by decide +kernel
theorem dX1_seek_9 : decode cX1_seek 9 = .ok (.aload_n 0, 1) := by decide +kernel
theorem dX1_seek_10 : decode cX1_seek 10 = .ok (.getfield 9, 3) := by decide +kernel
theorem dX1_seek_13 : decode cX1_seek 13 = .ok (.iload_n 1, 1) := by decide +kernel
theorem dX1_seek_14 : decode cX1_seek 14 = .ok (.aload_n 0, 1) := by decide +kernel
theorem dX1_seek_15 : decode cX1_seek 15 = .ok (.getfield 27, 3) := by decide +kernel
theorem dX1_seek_18 : decode cX1_seek 18 = .ok (.iastore, 1) := by decide +kernel
theorem dX1_seek_19 : decode cX1_seek 19 = .ok (.aload_n 0, 1) := by decide +kernel
theorem dX1_seek_20 : decode cX1_seek 20 = .ok (.dup, 1) := by decide +kernel
theorem dX1_seek_21 : decode cX1_seek 21 = .ok (.getfield 27, 3) := by decide +kernel
theorem dX1_seek_24 : decode cX1_seek 24 = .ok (.iconst 1, 1) := by decide +kernel
theorem dX1_seek_25 : decode cX1_seek 25 = .ok (.iadd, 1) := by decide +kernel
theorem dX1_seek_26 : decode cX1_seek 26 = .ok (.putfield 27, 3) := by decide +kernel
theorem dX1_seek_29 : decode cX1_seek 29 = .ok (.return_, 1) := by decide +kernel
theorem dX1_bring_0 : decode cX1_bring 0 = .ok (.aload_n 0, 1) := by decide +kernel
theorem dX1_bring_1 : decode cX1_bring 1 = .ok (.getfield 9, 3) := by decide +kernel
theorem dX1_bring_4 : decode cX1_bring 4 = .ok (.iload_n 1, 1) := by decide +kernel
theorem dX1_bring_5 : decode cX1_bring 5 = .ok (.iaload, 1) := by decide +kernel
theorem dX1_bring_6 : decode cX1_bring 6 = .ok (.istore 4, 2) := by decide +kernel
theorem dX1_bring_8 : decode cX1_bring 8 = .ok (.iload 4, 2) := by decide +kernel
theorem dX1_bring_10 : decode cX1_bring 10 = .ok (.ifCond .lt 19, 3) := by decide +kernel
theorem dX1_bring_13 : decode cX1_bring 13 = .ok (.aload_n 0, 1) := by decide +kernel
theorem dX1_bring_14 : decode cX1_bring 14 = .ok (.getfield 21, 3) := by decide +kernel
theorem dX1_bring_17 : decode cX1_bring 17 = .ok (.iload 4, 2) := by decide +kernel
theorem dX1_bring_19 : decode cX1_bring 19 = .ok (.aaload, 1) := by decide +kernel
theorem dX1_bring_20 : decode cX1_bring 20 = .ok (.aload_n 0, 1) := by decide +kernel
theorem dX1_bring_21 : decode cX1_bring 21 = .ok (.getfield 27, 3) := by decide +kernel
theorem dX1_bring_24 : decode cX1_bring 24 = .ok (.dup2, 1) := by decide +kernel
theorem dX1_bring_25 : decode cX1_bring 25 = .ok (.laload, 1) := by decide +kernel
theorem dX1_bring_26 : decode cX1_bring 26 = .ok (.lload_n 2, 1) := by decide +kernel
theorem dX1_bring_27 : decode cX1_bring 27 = .ok (.ladd, 1) := by decide +kernel
theorem dX1_bring_28 : decode cX1_bring 28 = .ok (.lastore, 1) := by decide +kernel
theorem dX1_bring_29 : decode cX1_bring 29 = .ok (.return_, 1) := by decide +kernel
theorem dX1_link_0 : decode cX1_link 0 = .ok (.aload_n 0, 1) := by decide +kernel
theorem dX1_link_1 : decode cX1_link 1 = .ok (.iload_n 1, 1) := by decide +kernel
theorem dX1_link_2 : decode cX1_link 2 = .ok (.iload_n 2, 1) := by decide +kernel
theorem dX1_link_3 : decode cX1_link 3 = .ok (.lload_n 3, 1) := by decide +kernel
theorem dX1_link_4 : decode cX1_link 4 = .ok (.invokevirtual 31, 3) := by decide +kernel
theorem dX1_link_7 : decode cX1_link 7 = .ok (.aload_n 0, 1) := by decide +kernel
theorem dX1_link_8 : decode cX1_link 8 = .ok (.iload_n 2, 1) := by decide +kernel
theorem dX1_link_9 : decode cX1_link 9 = .ok (.iload_n 1, 1) := by decide +kernel
theorem dX1_link_10 : decode cX1_link 10 = .ok (.lload_n 3, 1) := by decide +kernel
theorem dX1_link_11 : decode cX1_link 11 = .ok (.invokevirtual 31, 3) := by decide +kernel
theorem dX1_link_14 : decode cX1_link 14 = .ok (.return_, 1) := by decide +kernel
theorem dX1_linkOneWay_0 : decode cX1_linkOneWay 0 = .ok (.aload_n 0, 1) := by decide +kernel
theorem dX1_linkOneWay_1 : decode cX1_linkOneWay 1 = .ok (.getfield 9, 3) := by decide +kernel
theorem dX1_linkOneWay_4 : decode cX1_linkOneWay 4 = .ok (.iload_n 1, 1) := by decide +kernel
theorem dX1_linkOneWay_5 : decode cX1_linkOneWay 5 = .ok (.iaload, 1) := by decide +kernel
theorem dX1_linkOneWay_6 : decode cX1_linkOneWay 6 = .ok (.istore 5, 2) := by decide +kernel
theorem dX1_linkOneWay_8 : decode cX1_linkOneWay 8 = .ok (.iload 5, 2) := by decide +kernel
theorem dX1_linkOneWay_10 : decode cX1_linkOneWay 10 = .ok (.ifCond .ge 4, 3) := by decide +kernel
theorem dX1_linkOneWay_13 : decode cX1_linkOneWay 13 = .ok (.return_, 1) := by decide +kernel
theorem dX1_linkOneWay_14 : decode cX1_linkOneWay 14 = .ok (.aload_n 0, 1) := by decide +kernel
theorem dX1_linkOneWay_15 : decode cX1_linkOneWay 15 = .ok (.getfield 21, 3) := by decide +kernel
theorem dX1_linkOneWay_18 : decode cX1_linkOneWay 18 = .ok (.iload 5, 2) := by decide +kernel
theorem dX1_linkOneWay_20 : decode cX1_linkOneWay 20 = .ok (.aaload, 1) := by decide +kernel
theorem dX1_linkOneWay_21 : decode cX1_linkOneWay 21 = .ok (.iload 5, 2) := by decide +kernel
theorem dX1_linkOneWay_23 : decode cX1_linkOneWay 23 = .ok (.dup2, 1) := by decide +kernel
theorem dX1_linkOneWay_24 : decode cX1_linkOneWay 24 = .ok (.laload, 1) := by decide +kernel
theorem dX1_linkOneWay_25 : decode cX1_linkOneWay 25 = .ok (.lload_n 3, 1) := by decide +kernel
theorem dX1_linkOneWay_26 : decode cX1_linkOneWay 26 = .ok (.ladd, 1) := by decide +kernel
theorem dX1_linkOneWay_27 : decode cX1_linkOneWay 27 = .ok (.lastore, 1) := by decide +kernel
theorem dX1_linkOneWay_28 : decode cX1_linkOneWay 28 = .ok (.aload_n 0, 1) := by decide +kernel
theorem dX1_linkOneWay_29 : decode cX1_linkOneWay 29 = .ok (.getfield 9, 3) := by decide +kernel
theorem dX1_linkOneWay_32 : decode cX1_linkOneWay 32 = .ok (.iload_n 2, 1) := by decide +kernel
theorem dX1_linkOneWay_33 : decode cX1_linkOneWay 33 = .ok (.iaload, 1) := by decide +kernel
theorem dX1_linkOneWay_34 : decode cX1_linkOneWay 34 = .ok (.istore 6, 2) := by decide +kernel
theorem dX1_linkOneWay_36 : decode cX1_linkOneWay 36 = .ok (.iload 6, 2) := by decide +kernel
theorem dX1_linkOneWay_38 : decode cX1_linkOneWay 38 = .ok (.ifCond .lt 20, 3) := by decide +kernel
theorem dX1_linkOneWay_41 : decode cX1_linkOneWay 41 = .ok (.aload_n 0, 1) := by decide +kernel
theorem dX1_linkOneWay_42 : decode cX1_linkOneWay 42 = .ok (.getfield 21, 3) := by decide +kernel
theorem dX1_linkOneWay_45 : decode cX1_linkOneWay 45 = .ok (.iload 5, 2) := by decide +kernel
theorem dX1_linkOneWay_47 : decode cX1_linkOneWay 47 = .ok (.aaload, 1) := by decide +kernel
theorem dX1_linkOneWay_48 : decode cX1_linkOneWay 48 = .ok (.iload 6, 2) := by decide +kernel
theorem dX1_linkOneWay_50 : decode cX1_linkOneWay 50 = .ok (.dup2, 1) := by decide +kernel
theorem dX1_linkOneWay_51 : decode cX1_linkOneWay 51 = .ok (.laload, 1) := by decide +kernel
theorem dX1_linkOneWay_52 : decode cX1_linkOneWay 52 = .ok (.lload_n 3, 1) := by decide +kernel
theorem dX1_linkOneWay_53 : decode cX1_linkOneWay 53 = .ok (.lsub, 1) := by decide +kernel
theorem dX1_linkOneWay_54 : decode cX1_linkOneWay 54 = .ok (.lastore, 1) := by decide +kernel
theorem dX1_linkOneWay_55 : decode cX1_linkOneWay 55 = .ok (.goto 26, 3) := by decide +kernel
theorem dX1_linkOneWay_58 : decode cX1_linkOneWay 58 = .ok (.aload_n 0, 1) := by decide +kernel
theorem dX1_linkOneWay_59 : decode cX1_linkOneWay 59 = .ok (.getfield 21, 3) := by decide +kernel
theorem dX1_linkOneWay_62 : decode cX1_linkOneWay 62 = .ok (.iload 5, 2) := by decide +kernel
theorem dX1_linkOneWay_64 : decode cX1_linkOneWay 64 = .ok (.aaload, 1) := by decide +kernel
theorem dX1_linkOneWay_65 : decode cX1_linkOneWay 65 = .ok (.aload_n 0, 1) := by decide +kernel
theorem dX1_linkOneWay_66 : decode cX1_linkOneWay 66 = .ok (.getfield 27, 3) := by decide +kernel
theorem dX1_linkOneWay_69 : decode cX1_linkOneWay 69 = .ok (.dup2, 1) := by decide +kernel
theorem dX1_linkOneWay_70 : decode cX1_linkOneWay 70 = .ok (.laload, 1) := by decide +kernel
theorem dX1_linkOneWay_71 : decode cX1_linkOneWay 71 = .ok (.lload_n 3, 1) := by decide +kernel
theorem dX1_linkOneWay_72 : decode cX1_linkOneWay 72 = .ok (.aload_n 0, 1) := by decide +kernel
theorem dX1_linkOneWay_73 : decode cX1_linkOneWay 73 = .ok (.getfield 15, 3) := by decide +kernel
theorem dX1_linkOneWay_76 : decode cX1_linkOneWay 76 = .ok (.iload_n 2, 1) := by decide +kernel
theorem dX1_linkOneWay_77 : decode cX1_linkOneWay 77 = .ok (.laload, 1) := by decide +kernel
theorem dX1_linkOneWay_78 : decode cX1_linkOneWay 78 = .ok (.lmul, 1) := by decide +kernel
theorem dX1_linkOneWay_79 : decode cX1_linkOneWay 79 = .ok (.ladd, 1) := by decide +kernel
theorem dX1_linkOneWay_80 : decode cX1_linkOneWay 80 = .ok (.lastore, 1) := by decide +kernel
theorem dX1_linkOneWay_81 : decode cX1_linkOneWay 81 = .ok (.return_, 1) := by decide +kernel
theorem dX1_solve_0 : decode cX1_solve 0 = .ok (.aload_n 0, 1) := by decide +kernel
theorem dX1_solve_1 : decode cX1_solve 1 = .ok (.getfield 24, 3) := by decide +kernel
theorem dX1_solve_4 : decode cX1_solve 4 = .ok (.iconst 0, 1) := by decide +kernel
theorem dX1_solve_5 : decode cX1_solve 5 = .ok (.lconst 1, 1) := by decide +kernel
theorem dX1_solve_6 : decode cX1_solve 6 = .ok (.lastore, 1) := by decide +kernel
theorem dX1_solve_7 : decode cX1_solve 7 = .ok (.iconst 1, 1) := by decide +kernel
theorem dX1_solve_8 : decode cX1_solve 8 = .ok (.istore_n 1, 1) := by decide +kernel
theorem dX1_solve_9 : decode cX1_solve 9 = .ok (.iload_n 1, 1) := by decide +kernel
theorem dX1_solve_10 : decode cX1_solve 10 = .ok (.aload_n 0, 1) := by decide +kernel
theorem dX1_solve_11 : decode cX1_solve 11 = .ok (.invokevirtual 35, 3) := by decide +kernel
theorem dX1_solve_14 : decode cX1_solve 14 = .ok (.if_icmp .ge 20, 3) := by decide +kernel
theorem dX1_solve_17 : decode cX1_solve 17 = .ok (.aload_n 0, 1) := by decide +kernel
theorem dX1_solve_18 : decode cX1_solve 18 = .ok (.getfield 24, 3) := by decide +kernel
theorem dX1_solve_21 : decode cX1_solve 21 = .ok (.iload_n 1, 1) := by decide +kernel
theorem dX1_solve_22 : decode cX1_solve 22 = .ok (.aload_n 0, 1) := by decide +kernel
theorem dX1_solve_23 : decode cX1_solve 23 = .ok (.iload_n 1, 1) := by decide +kernel
theorem dX1_solve_24 : decode cX1_solve 24 = .ok (.invokevirtual 39, 3) := by decide +kernel
theorem dX1_solve_27 : decode cX1_solve 27 = .ok (.lastore, 1) := by decide +kernel
theorem dX1_solve_28 : decode cX1_solve 28 = .ok (.iinc 1 1, 3) := by decide +kernel
theorem dX1_solve_31 : decode cX1_solve 31 = .ok (.goto (-22), 3) := by decide +kernel
theorem dX1_solve_34 : decode cX1_solve 34 = .ok (.return_, 1) := by decide +kernel
theorem dX1_expand_0 : decode cX1_expand 0 = .ok (.iload_n 1, 1) := by decide +kernel
theorem dX1_expand_1 : decode cX1_expand 1 = .ok (.invokestatic 43, 3) := by decide +kernel
theorem dX1_expand_4 : decode cX1_expand 4 = .ok (.iconst 1, 1) := by decide +kernel
theorem dX1_expand_5 : decode cX1_expand 5 = .ok (.isub, 1) := by decide +kernel
theorem dX1_expand_6 : decode cX1_expand 6 = .ok (.istore_n 2, 1) := by decide +kernel
theorem dX1_expand_7 : decode cX1_expand 7 = .ok (.lconst 0, 1) := by decide +kernel
theorem dX1_expand_8 : decode cX1_expand 8 = .ok (.lstore_n 3, 1) := by decide +kernel
theorem dX1_expand_9 : decode cX1_expand 9 = .ok (.iconst 1, 1) := by decide +kernel
theorem dX1_expand_10 : decode cX1_expand 10 = .ok (.istore 5, 2) := by decide +kernel
theorem dX1_expand_12 : decode cX1_expand 12 = .ok (.aload_n 0, 1) := by decide +kernel
theorem dX1_expand_13 : decode cX1_expand 13 = .ok (.getfield 27, 3) := by decide +kernel
theorem dX1_expand_16 : decode cX1_expand 16 = .ok (.istore 6, 2) := by decide +kernel
theorem dX1_expand_18 : decode cX1_expand 18 = .ok (.iload 6, 2) := by decide +kernel
theorem dX1_expand_20 : decode cX1_expand 20 = .ok (.ifCond .lt 51, 3) := by decide +kernel
theorem dX1_expand_23 : decode cX1_expand 23 = .ok (.iload_n 1, 1) := by decide +kernel
theorem dX1_expand_24 : decode cX1_expand 24 = .ok (.iload 6, 2) := by decide +kernel
theorem dX1_expand_26 : decode cX1_expand 26 = .ok (.invokestatic 49, 3) := by decide +kernel
theorem dX1_expand_29 : decode cX1_expand 29 = .ok (.ifCond .eq 36, 3) := by decide +kernel
theorem dX1_expand_32 : decode cX1_expand 32 = .ok (.lload_n 3, 1) := by decide +kernel
theorem dX1_expand_33 : decode cX1_expand 33 = .ok (.iload 5, 2) := by decide +kernel
theorem dX1_expand_35 : decode cX1_expand 35 = .ok (.i2l, 1) := by decide +kernel
theorem dX1_expand_36 : decode cX1_expand 36 = .ok (.aload_n 0, 1) := by decide +kernel
theorem dX1_expand_37 : decode cX1_expand 37 = .ok (.getfield 21, 3) := by decide +kernel
theorem dX1_expand_40 : decode cX1_expand 40 = .ok (.iload_n 2, 1) := by decide +kernel
theorem dX1_expand_41 : decode cX1_expand 41 = .ok (.aaload, 1) := by decide +kernel
theorem dX1_expand_42 : decode cX1_expand 42 = .ok (.iload 6, 2) := by decide +kernel
theorem dX1_expand_44 : decode cX1_expand 44 = .ok (.laload, 1) := by decide +kernel
theorem dX1_expand_45 : decode cX1_expand 45 = .ok (.lmul, 1) := by decide +kernel
theorem dX1_expand_46 : decode cX1_expand 46 = .ok (.aload_n 0, 1) := by decide +kernel
theorem dX1_expand_47 : decode cX1_expand 47 = .ok (.getfield 24, 3) := by decide +kernel
theorem dX1_expand_50 : decode cX1_expand 50 = .ok (.iload_n 1, 1) := by decide +kernel
theorem dX1_expand_51 : decode cX1_expand 51 = .ok (.iconst 1, 1) := by decide +kernel
theorem dX1_expand_52 : decode cX1_expand 52 = .ok (.iload 6, 2) := by decide +kernel
theorem dX1_expand_54 : decode cX1_expand 54 = .ok (.ishl, 1) := by decide +kernel
theorem dX1_expand_55 : decode cX1_expand 55 = .ok (.ixor, 1) := by decide +kernel
theorem dX1_expand_56 : decode cX1_expand 56 = .ok (.laload, 1) := by decide +kernel
theorem dX1_expand_57 : decode cX1_expand 57 = .ok (.lmul, 1) := by decide +kernel
theorem dX1_expand_58 : decode cX1_expand 58 = .ok (.ladd, 1) := by decide +kernel
theorem dX1_expand_59 : decode cX1_expand 59 = .ok (.lstore_n 3, 1) := by decide +kernel
theorem dX1_expand_60 : decode cX1_expand 60 = .ok (.iload 5, 2) := by decide +kernel
theorem dX1_expand_62 : decode cX1_expand 62 = .ok (.ineg, 1) := by decide +kernel
theorem dX1_expand_63 : decode cX1_expand 63 = .ok (.istore 5, 2) := by decide +kernel
theorem dX1_expand_65 : decode cX1_expand 65 = .ok (.iinc 6 (-1), 3) := by decide +kernel
theorem dX1_expand_68 : decode cX1_expand 68 = .ok (.goto (-50), 3) := by decide +kernel
theorem dX1_expand_71 : decode cX1_expand 71 = .ok (.lload_n 3, 1) := by decide +kernel
theorem dX1_expand_72 : decode cX1_expand 72 = .ok (.lreturn, 1) := by decide +kernel
theorem dX1_lower_0 : decode cX1_lower 0 = .ok (.aload_n 0, 1) := by decide +kernel
theorem dX1_lower_1 : decode cX1_lower 1 = .ok (.getfield 24, 3) := by decide +kernel
theorem dX1_lower_4 : decode cX1_lower 4 = .ok (.aload_n 0, 1) := by decide +kernel
theorem dX1_lower_5 : decode cX1_lower 5 = .ok (.invokevirtual 35, 3) := by decide +kernel
theorem dX1_lower_8 : decode cX1_lower 8 = .ok (.iconst 1, 1) := by decide +kernel
theorem dX1_lower_9 : decode cX1_lower 9 = .ok (.aload_n 0, 1) := by decide +kernel
theorem dX1_lower_10 : decode cX1_lower 10 = .ok (.getfield 27, 3) := by decide +kernel
theorem dX1_lower_13 : decode cX1_lower 13 = .ok (.ishl, 1) := by decide +kernel
theorem dX1_lower_14 : decode cX1_lower 14 = .ok (.ixor, 1) := by decide +kernel
theorem dX1_lower_15 : decode cX1_lower 15 = .ok (.laload, 1) := by decide +kernel
theorem dX1_lower_16 : decode cX1_lower 16 = .ok (.lreturn, 1) := by decide +kernel
theorem dX1_upper_0 : decode cX1_upper 0 = .ok (.aload_n 0, 1) := by decide +kernel
theorem dX1_upper_1 : decode cX1_upper 1 = .ok (.getfield 9, 3) := by decide +kernel
theorem dX1_upper_4 : decode cX1_upper 4 = .ok (.iload_n 1, 1) := by decide +kernel
theorem dX1_upper_5 : decode cX1_upper 5 = .ok (.iaload, 1) := by decide +kernel
theorem dX1_upper_6 : decode cX1_upper 6 = .ok (.istore_n 2, 1) := by decide +kernel
theorem dX1_upper_7 : decode cX1_upper 7 = .ok (.iload_n 2, 1) := by decide +kernel
theorem dX1_upper_8 : decode cX1_upper 8 = .ok (.ifCond .ge 15, 3) := by decide +kernel
theorem dX1_upper_11 : decode cX1_upper 11 = .ok (.aload_n 0, 1) := by decide +kernel
theorem dX1_upper_12 : decode cX1_upper 12 = .ok (.getfield 15, 3) := by decide +kernel
theorem dX1_upper_15 : decode cX1_upper 15 = .ok (.iload_n 1, 1) := by decide +kernel
theorem dX1_upper_16 : decode cX1_upper 16 = .ok (.laload, 1) := by decide +kernel
theorem dX1_upper_17 : decode cX1_upper 17 = .ok (.aload_n 0, 1) := by decide +kernel
theorem dX1_upper_18 : decode cX1_upper 18 = .ok (.invokevirtual 53, 3) := by decide +kernel
theorem dX1_upper_21 : decode cX1_upper 21 = .ok (.lmul, 1) := by decide +kernel
theorem dX1_upper_22 : decode cX1_upper 22 = .ok (.lreturn, 1) := by decide +kernel
theorem dX1_upper_23 : decode cX1_upper 23 = .ok (.aload_n 0, 1) := by decide +kernel
theorem dX1_upper_24 : decode cX1_upper 24 = .ok (.getfield 24, 3) := by decide +kernel
theorem dX1_upper_27 : decode cX1_upper 27 = .ok (.aload_n 0, 1) := by decide +kernel
theorem dX1_upper_28 : decode cX1_upper 28 = .ok (.invokevirtual 35, 3) := by decide +kernel
theorem dX1_upper_31 : decode cX1_upper 31 = .ok (.iconst 1, 1) := by decide +kernel
theorem dX1_upper_32 : decode cX1_upper 32 = .ok (.iload_n 2, 1) := by decide +kernel
theorem dX1_upper_33 : decode cX1_upper 33 = .ok (.ishl, 1) := by decide +kernel
theorem dX1_upper_34 : decode cX1_upper 34 = .ok (.ixor, 1) := by decide +kernel
theorem dX1_upper_35 : decode cX1_upper 35 = .ok (.laload, 1) := by decide +kernel
theorem dX1_upper_36 : decode cX1_upper 36 = .ok (.lstore_n 3, 1) := by decide +kernel
theorem dX1_upper_37 : decode cX1_upper 37 = .ok (.aload_n 0, 1) := by decide +kernel
theorem dX1_upper_38 : decode cX1_upper 38 = .ok (.getfield 27, 3) := by decide +kernel
theorem dX1_upper_41 : decode cX1_upper 41 = .ok (.iconst 1, 1) := by decide +kernel
theorem dX1_upper_42 : decode cX1_upper 42 = .ok (.isub, 1) := by decide +kernel
theorem dX1_upper_43 : decode cX1_upper 43 = .ok (.iload_n 2, 1) := by decide +kernel
theorem dX1_upper_44 : decode cX1_upper 44 = .ok (.isub, 1) := by decide +kernel
theorem dX1_upper_45 : decode cX1_upper 45 = .ok (.iconst 2, 1) := by decide +kernel
theorem dX1_upper_46 : decode cX1_upper 46 = .ok (.irem, 1) := by decide +kernel
theorem dX1_upper_47 : decode cX1_upper 47 = .ok (.ifCond .ne 7, 3) := by decide +kernel
theorem dX1_upper_50 : decode cX1_upper 50 = .ok (.lload_n 3, 1) := by decide +kernel
theorem dX1_upper_51 : decode cX1_upper 51 = .ok (.goto 5, 3) := by decide +kernel
theorem dX1_upper_54 : decode cX1_upper 54 = .ok (.lload_n 3, 1) := by decide +kernel
theorem dX1_upper_55 : decode cX1_upper 55 = .ok (.lneg, 1) := by decide +kernel
theorem dX1_upper_56 : decode cX1_upper 56 = .ok (.lreturn, 1) := by decide +kernel
theorem dX1_allColumns_0 : decode cX1_allColumns 0 = .ok (.iconst 1, 1) := by decide +kernel
theorem dX1_allColumns_1 : decode cX1_allColumns 1 = .ok (.aload_n 0, 1) := by decide +kernel
theorem dX1_allColumns_2 : decode cX1_allColumns 2 = .ok (.getfield 27, 3) := by decide +kernel
theorem dX1_allColumns_5 : decode cX1_allColumns 5 = .ok (.iconst 1, 1) := by decide +kernel
theorem dX1_allColumns_6 : decode cX1_allColumns 6 = .ok (.iadd, 1) := by decide +kernel
theorem dX1_allColumns_7 : decode cX1_allColumns 7 = .ok (.ishl, 1) := by decide +kernel
theorem dX1_allColumns_8 : decode cX1_allColumns 8 = .ok (.iconst 1, 1) := by decide +kernel
theorem dX1_allColumns_9 : decode cX1_allColumns 9 = .ok (.isub, 1) := by decide +kernel
theorem dX1_allColumns_10 : decode cX1_allColumns 10 = .ok (.ireturn, 1) := by decide +kernel
theorem dX2_init_0 : decode cX2_init 0 = .ok (.aload_n 0, 1) := by decide +kernel
theorem dX2_init_1 : decode cX2_init 1 = .ok (.invokespecial 1, 3) := by decide +kernel
theorem dX2_init_4 : decode cX2_init 4 = .ok (.aload_n 0, 1) := by decide +kernel
theorem dX2_init_5 : decode cX2_init 5 = .ok (.iconst 0, 1) := by decide +kernel
theorem dX2_init_6 : decode cX2_init 6 = .ok (.putfield 7, 3) := by decide +kernel
theorem dX2_init_9 : decode cX2_init 9 = .ok (.aload_n 0, 1) := by decide +kernel
theorem dX2_init_10 : decode cX2_init 10 = .ok (.iconst 0, 1) := by decide +kernel
theorem dX2_init_11 : decode cX2_init 11 = .ok (.putfield 13, 3) := by decide +kernel
theorem dX2_init_14 : decode cX2_init 14 = .ok (.return_, 1) := by decide +kernel
theorem dX3_init_0 : decode cX3_init 0 = .ok (.aload_n 0, 1) := by decide +kernel
theorem dX3_init_1 : decode cX3_init 1 = .ok (.invokespecial 3, 3) := by decide +kernel
theorem dX3_init_4 : decode cX3_init 4 = .ok (.aload_n 0, 1) := by decide +kernel
theorem dX3_init_5 : decode cX3_init 5 = .ok (.new 9, 3) := by decide +kernel
theorem dX3_init_8 : decode cX3_init 8 = .ok (.dup, 1) := by decide +kernel
theorem dX3_init_9 : decode cX3_init 9 = .ok (.invokespecial 11, 3) := by decide +kernel
theorem dX3_init_12 : decode cX3_init 12 = .ok (.putfield 12, 3) := by decide +kernel
theorem dX3_init_15 : decode cX3_init 15 = .ok (.aload_n 0, 1) := by decide +kernel
theorem dX3_init_16 : decode cX3_init 16 = .ok (.new 9, 3) := by decide +kernel
theorem dX3_init_19 : decode cX3_init 19 = .ok (.dup, 1) := by decide +kernel
theorem dX3_init_20 : decode cX3_init 20 = .ok (.invokespecial 11, 3) := by decide +kernel
theorem dX3_init_23 : decode cX3_init 23 = .ok (.putfield 16, 3) := by decide +kernel
theorem dX3_init_26 : decode cX3_init 26 = .ok (.aload_n 0, 1) := by decide +kernel
theorem dX3_init_27 : decode cX3_init 27 = .ok (.bipush 8, 2) := by decide +kernel
theorem dX3_init_29 : decode cX3_init 29 = .ok (.newarray .int, 2) := by decide +kernel
theorem dX3_init_31 : decode cX3_init 31 = .ok (.putfield 19, 3) := by decide +kernel
theorem dX3_init_34 : decode cX3_init 34 = .ok (.aload_n 0, 1) := by decide +kernel
theorem dX3_init_35 : decode cX3_init 35 = .ok (.new 23, 3) := by decide +kernel
theorem dX3_init_38 : decode cX3_init 38 = .ok (.dup, 1) := by decide +kernel
theorem dX3_init_39 : decode cX3_init 39 = .ok (.invokespecial 25, 3) := by decide +kernel
theorem dX3_init_42 : decode cX3_init 42 = .ok (.putfield 26, 3) := by decide +kernel
theorem dX3_init_45 : decode cX3_init 45 = .ok (.return_, 1) := by decide +kernel
theorem dX3_addNode_0 : decode cX3_addNode 0 = .ok (.aload_n 0, 1) := by decide +kernel
theorem dX3_addNode_1 : decode cX3_addNode 1 = .ok (.getfield 12, 3) := by decide +kernel
theorem dX3_addNode_4 : decode cX3_addNode 4 = .ok (.invokevirtual 30, 3) := by decide +kernel
theorem dX3_addNode_7 : decode cX3_addNode 7 = .ok (.istore_n 1, 1) := by decide +kernel
theorem dX3_addNode_8 : decode cX3_addNode 8 = .ok (.iload_n 1, 1) := by decide +kernel
theorem dX3_addNode_9 : decode cX3_addNode 9 = .ok (.bipush 8, 2) := by decide +kernel
theorem dX3_addNode_11 : decode cX3_addNode 11 = .ok (.if_icmp .lt 13, 3) := by decide +kernel
theorem dX3_addNode_14 : decode cX3_addNode 14 = .ok (.new 34, 3) := by decide +kernel
theorem dX3_addNode_17 : decode cX3_addNode 17 = .ok (.dup, 1) := by decide +kernel
theorem dX3_addNode_18 : decode cX3_addNode 18 = .ok (.ldc 36, 2) := by decide +kernel
theorem dX3_addNode_20 : decode cX3_addNode 20 = .ok (.invokespecial 38, 3) := by decide +kernel
theorem dX3_addNode_23 : decode cX3_addNode 23 = .ok (.athrow, 1) := by decide +kernel
theorem dX3_addNode_24 : decode cX3_addNode 24 = .ok (.aload_n 0, 1) := by decide +kernel
theorem dX3_addNode_25 : decode cX3_addNode 25 = .ok (.getfield 12, 3) := by decide +kernel
theorem dX3_addNode_28 : decode cX3_addNode 28 = .ok (.new 41, 3) := by decide +kernel
theorem dX3_addNode_31 : decode cX3_addNode 31 = .ok (.dup, 1) := by decide +kernel
theorem dX3_addNode_32 : decode cX3_addNode 32 = .ok (.invokespecial 43, 3) := by decide +kernel
theorem dX3_addNode_35 : decode cX3_addNode 35 = .ok (.invokevirtual 44, 3) := by decide +kernel
theorem dX3_addNode_38 : decode cX3_addNode 38 = .ok (.pop, 1) := by decide +kernel
theorem dX3_addNode_39 : decode cX3_addNode 39 = .ok (.iload_n 1, 1) := by decide +kernel
theorem dX3_addNode_40 : decode cX3_addNode 40 = .ok (.ireturn, 1) := by decide +kernel
theorem dX3_rail_0 : decode cX3_rail 0 = .ok (.aload_n 0, 1) := by decide +kernel
theorem dX3_rail_1 : decode cX3_rail 1 = .ok (.iload_n 1, 1) := by decide +kernel
theorem dX3_rail_2 : decode cX3_rail 2 = .ok (.invokevirtual 48, 3) := by decide +kernel
theorem dX3_rail_5 : decode cX3_rail 5 = .ok (.iload_n 2, 1) := by decide +kernel
theorem dX3_rail_6 : decode cX3_rail 6 = .ok (.ifCond .eq 25, 3) := by decide +kernel
theorem dX3_rail_9 : decode cX3_rail 9 = .ok (.iload_n 3, 1) := by decide +kernel
theorem dX3_rail_10 : decode cX3_rail 10 = .ok (.bipush (-99), 2) := by decide +kernel
theorem dX3_rail_12 : decode cX3_rail 12 = .ok (.if_icmp .lt 9, 3) := by decide +kernel
theorem dX3_rail_15 : decode cX3_rail 15 = .ok (.iload_n 3, 1) := by decide +kernel
theorem dX3_rail_16 : decode cX3_rail 16 = .ok (.bipush 99, 2) := by decide +kernel
theorem dX3_rail_18 : decode cX3_rail 18 = .ok (.if_icmp .le 13, 3) := by decide +kernel
theorem dX3_rail_21 : decode cX3_rail 21 = .ok (.new 52, 3) := by decide +kernel
theorem dX3_rail_24 : decode cX3_rail 24 = .ok (.dup, 1) := by decide +kernel
theorem dX3_rail_25 : decode cX3_rail 25 = .ok (.ldc 54, 2) := by decide +kernel
theorem dX3_rail_27 : decode cX3_rail 27 = .ok (.invokespecial 56, 3) := by decide +kernel
theorem dX3_rail_30 : decode cX3_rail 30 = .ok (.athrow, 1) := by decide +kernel
theorem dX3_rail_31 : decode cX3_rail 31 = .ok (.aload_n 0, 1) := by decide +kernel
theorem dX3_rail_32 : decode cX3_rail 32 = .ok (.getfield 12, 3) := by decide +kernel
theorem dX3_rail_35 : decode cX3_rail 35 = .ok (.iload_n 1, 1) := by decide +kernel
theorem dX3_rail_36 : decode cX3_rail 36 = .ok (.invokevirtual 57, 3) := by decide +kernel
theorem dX3_rail_39 : decode cX3_rail 39 = .ok (.checkcast 41, 3) := by decide +kernel
theorem dX3_rail_42 : decode cX3_rail 42 = .ok (.astore 4, 2) := by decide +kernel
theorem dX3_rail_44 : decode cX3_rail 44 = .ok (.aload 4, 2) := by decide +kernel
theorem dX3_rail_46 : decode cX3_rail 46 = .ok (.getfield 61, 3) := by decide +kernel
theorem dX3_rail_49 : decode cX3_rail 49 = .ok (.istore 5, 2) := by decide +kernel
theorem dX3_rail_51 : decode cX3_rail 51 = .ok (.aload 4, 2) := by decide +kernel
theorem dX3_rail_53 : decode cX3_rail 53 = .ok (.iload_n 2, 1) := by decide +kernel
theorem dX3_rail_54 : decode cX3_rail 54 = .ok (.putfield 61, 3) := by decide +kernel
theorem dX3_rail_57 : decode cX3_rail 57 = .ok (.aload 4, 2) := by decide +kernel
theorem dX3_rail_59 : decode cX3_rail 59 = .ok (.iload_n 2, 1) := by decide +kernel
theorem dX3_rail_60 : decode cX3_rail 60 = .ok (.ifCond .eq 7, 3) := by decide +kernel
theorem dX3_rail_63 : decode cX3_rail 63 = .ok (.iload_n 3, 1) := by decide +kernel
theorem dX3_rail_64 : decode cX3_rail 64 = .ok (.goto 4, 3) := by decide +kernel
theorem dX3_rail_67 : decode cX3_rail 67 = .ok (.iconst 0, 1) := by decide +kernel
theorem dX3_rail_68 : decode cX3_rail 68 = .ok (.putfield 65, 3) := by decide +kernel
theorem dX3_rail_71 : decode cX3_rail 71 = .ok (.iload 5, 2) := by decide +kernel
theorem dX3_rail_73 : decode cX3_rail 73 = .ok (.ireturn, 1) := by decide +kernel
theorem dX3_addElement_0 : decode cX3_addElement 0 = .ok (.aload_n 0, 1) := by decide +kernel
theorem dX3_addElement_1 : decode cX3_addElement 1 = .ok (.iload_n 2, 1) := by decide +kernel
theorem dX3_addElement_2 : decode cX3_addElement 2 = .ok (.invokevirtual 48, 3) := by decide +kernel
theorem dX3_addElement_5 : decode cX3_addElement 5 = .ok (.aload_n 0, 1) := by decide +kernel
theorem dX3_addElement_6 : decode cX3_addElement 6 = .ok (.iload_n 3, 1) := by decide +kernel
theorem dX3_addElement_7 : decode cX3_addElement 7 = .ok (.invokevirtual 48, 3) := by decide +kernel
theorem dX3_addElement_10 : decode cX3_addElement 10 = .ok (.iload_n 2, 1) := by decide +kernel
theorem dX3_addElement_11 : decode cX3_addElement 11 = .ok (.iload_n 3, 1) := by decide +kernel
theorem dX3_addElement_12 : decode cX3_addElement 12 = .ok (.if_icmp .ne 13, 3) := by decide +kernel
theorem dX3_addElement_15 : decode cX3_addElement 15 = .ok (.new 52, 3) := by decide +kernel
theorem dX3_addElement_18 : decode cX3_addElement 18 = .ok (.dup, 1) := by decide +kernel
theorem dX3_addElement_19 : decode cX3_addElement 19 = .ok (.ldc 69, 2) := by decide +kernel
theorem dX3_addElement_21 : decode cX3_addElement 21 = .ok (.invokespecial 56, 3) := by decide +kernel
theorem dX3_addElement_24 : decode cX3_addElement 24 = .ok (.athrow, 1) := by decide +kernel
theorem dX3_addElement_25 : decode cX3_addElement 25 = .ok (.iload_n 1, 1) := by decide +kernel
theorem dX3_addElement_26 : decode cX3_addElement 26 = .ok (.iload 4, 2) := by decide +kernel
theorem dX3_addElement_28 : decode cX3_addElement 28 = .ok (.invokestatic 71, 3) := by decide +kernel
theorem dX3_addElement_31 : decode cX3_addElement 31 = .ok (.aload_n 0, 1) := by decide +kernel
theorem dX3_addElement_32 : decode cX3_addElement 32 = .ok (.getfield 16, 3) := by decide +kernel
theorem dX3_addElement_35 : decode cX3_addElement 35 = .ok (.invokevirtual 30, 3) := by decide +kernel
theorem dX3_addElement_38 : decode cX3_addElement 38 = .ok (.istore 5, 2) := by decide +kernel
theorem dX3_addElement_40 : decode cX3_addElement 40 = .ok (.iload 5, 2) := by decide +kernel
theorem dX3_addElement_42 : decode cX3_addElement 42 = .ok (.bipush 20, 2) := by decide +kernel
theorem dX3_addElement_44 : decode cX3_addElement 44 = .ok (.if_icmp .lt 13, 3) := by decide +kernel
theorem dX3_addElement_47 : decode cX3_addElement 47 = .ok (.new 34, 3) := by decide +kernel
theorem dX3_addElement_50 : decode cX3_addElement 50 = .ok (.dup, 1) := by decide +kernel
theorem dX3_addElement_51 : decode cX3_addElement 51 = .ok (.ldc 75, 2) := by decide +kernel
theorem dX3_addElement_53 : decode cX3_addElement 53 = .ok (.invokespecial 38, 3) := by decide +kernel
theorem dX3_addElement_56 : decode cX3_addElement 56 = .ok (.athrow, 1) := by decide +kernel
theorem dX3_addElement_57 : decode cX3_addElement 57 = .ok (.aload_n 0, 1) := by decide +kernel
theorem dX3_addElement_58 : decode cX3_addElement 58 = .ok (.getfield 16, 3) := by decide +kernel
theorem dX3_addElement_61 : decode cX3_addElement 61 = .ok (.new 77, 3) := by decide +kernel
theorem dX3_addElement_64 : decode cX3_addElement 64 = .ok (.dup, 1) := by decide +kernel
theorem dX3_addElement_65 : decode cX3_addElement 65 = .ok (.iload_n 1, 1) := by decide +kernel
theorem dX3_addElement_66 : decode cX3_addElement 66 = .ok (.iload_n 2, 1) := by decide +kernel
theorem dX3_addElement_67 : decode cX3_addElement 67 = .ok (.iload_n 3, 1) := by decide +kernel
theorem dX3_addElement_68 : decode cX3_addElement 68 = .ok (.iload 4, 2) := by decide +kernel
theorem dX3_addElement_70 : decode cX3_addElement 70 = .ok (.invokespecial 79, 3) := by decide +kernel
theorem dX3_addElement_73 : decode cX3_addElement 73 = .ok (.invokevirtual 44, 3) := by decide +kernel
theorem dX3_addElement_76 : decode cX3_addElement 76 = .ok (.pop, 1) := by decide +kernel
theorem dX3_addElement_77 : decode cX3_addElement 77 = .ok (.iload 5, 2) := by decide +kernel
theorem dX3_addElement_79 : decode cX3_addElement 79 = .ok (.ireturn, 1) := by decide +kernel
theorem dX3_resize_0 : decode cX3_resize 0 = .ok (.aload_n 0, 1) := by decide +kernel
theorem dX3_resize_1 : decode cX3_resize 1 = .ok (.iload_n 1, 1) := by decide +kernel
theorem dX3_resize_2 : decode cX3_resize 2 = .ok (.invokevirtual 82, 3) := by decide +kernel
theorem dX3_resize_5 : decode cX3_resize 5 = .ok (.aload_n 0, 1) := by decide +kernel
theorem dX3_resize_6 : decode cX3_resize 6 = .ok (.getfield 16, 3) := by decide +kernel
theorem dX3_resize_9 : decode cX3_resize 9 = .ok (.iload_n 1, 1) := by decide +kernel
theorem dX3_resize_10 : decode cX3_resize 10 = .ok (.invokevirtual 57, 3) := by decide +kernel
theorem dX3_resize_13 : decode cX3_resize 13 = .ok (.checkcast 77, 3) := by decide +kernel
theorem dX3_resize_16 : decode cX3_resize 16 = .ok (.astore_n 3, 1) := by decide +kernel
theorem dX3_resize_17 : decode cX3_resize 17 = .ok (.aload_n 3, 1) := by decide +kernel
theorem dX3_resize_18 : decode cX3_resize 18 = .ok (.getfield 85, 3) := by decide +kernel
theorem dX3_resize_21 : decode cX3_resize 21 = .ok (.iload_n 2, 1) := by decide +kernel
theorem dX3_resize_22 : decode cX3_resize 22 = .ok (.invokestatic 71, 3) := by decide +kernel
theorem dX3_resize_25 : decode cX3_resize 25 = .ok (.aload_n 3, 1) := by decide +kernel
theorem dX3_resize_26 : decode cX3_resize 26 = .ok (.getfield 88, 3) := by decide +kernel
theorem dX3_resize_29 : decode cX3_resize 29 = .ok (.istore 4, 2) := by decide +kernel
theorem dX3_resize_31 : decode cX3_resize 31 = .ok (.aload_n 3, 1) := by decide +kernel
theorem dX3_resize_32 : decode cX3_resize 32 = .ok (.iload_n 2, 1) := by decide +kernel
theorem dX3_resize_33 : decode cX3_resize 33 = .ok (.putfield 88, 3) := by decide +kernel
theorem dX3_resize_36 : decode cX3_resize 36 = .ok (.iload 4, 2) := by decide +kernel
theorem dX3_resize_38 : decode cX3_resize 38 = .ok (.ireturn, 1) := by decide +kernel
theorem dX3_begin_0 : decode cX3_begin 0 = .ok (.aload_n 0, 1) := by decide +kernel
theorem dX3_begin_1 : decode cX3_begin 1 = .ok (.iload_n 1, 1) := by decide +kernel
theorem dX3_begin_2 : decode cX3_begin 2 = .ok (.invokevirtual 82, 3) := by decide +kernel
theorem dX3_begin_5 : decode cX3_begin 5 = .ok (.aload_n 0, 1) := by decide +kernel
theorem dX3_begin_6 : decode cX3_begin 6 = .ok (.getfield 16, 3) := by decide +kernel
theorem dX3_begin_9 : decode cX3_begin 9 = .ok (.iload_n 1, 1) := by decide +kernel
theorem dX3_begin_10 : decode cX3_begin 10 = .ok (.invokevirtual 57, 3) := by decide +kernel
theorem dX3_begin_13 : decode cX3_begin 13 = .ok (.checkcast 77, 3) := by decide +kernel
theorem dX3_begin_16 : decode cX3_begin 16 = .ok (.astore_n 3, 1) := by decide +kernel
theorem dX3_begin_17 : decode cX3_begin 17 = .ok (.aload_n 3, 1) := by decide +kernel
theorem dX3_begin_18 : decode cX3_begin 18 = .ok (.getfield 90, 3) := by decide +kernel
theorem dX3_begin_21 : decode cX3_begin 21 = .ok (.istore 4, 2) := by decide +kernel
theorem dX3_begin_23 : decode cX3_begin 23 = .ok (.aload_n 3, 1) := by decide +kernel
theorem dX3_begin_24 : decode cX3_begin 24 = .ok (.iload_n 2, 1) := by decide +kernel
theorem dX3_begin_25 : decode cX3_begin 25 = .ok (.putfield 90, 3) := by decide +kernel
theorem dX3_begin_28 : decode cX3_begin 28 = .ok (.iload 4, 2) := by decide +kernel
theorem dX3_begin_30 : decode cX3_begin 30 = .ok (.ireturn, 1) := by decide +kernel
theorem dX3_toggle_0 : decode cX3_toggle 0 = .ok (.aload_n 0, 1) := by decide +kernel
theorem dX3_toggle_1 : decode cX3_toggle 1 = .ok (.iload_n 1, 1) := by decide +kernel
theorem dX3_toggle_2 : decode cX3_toggle 2 = .ok (.invokevirtual 82, 3) := by decide +kernel
theorem dX3_toggle_5 : decode cX3_toggle 5 = .ok (.iload_n 2, 1) := by decide +kernel
theorem dX3_toggle_6 : decode cX3_toggle 6 = .ok (.iconst 1, 1) := by decide +kernel
theorem dX3_toggle_7 : decode cX3_toggle 7 = .ok (.if_icmp .lt 10, 3) := by decide +kernel
theorem dX3_toggle_10 : decode cX3_toggle 10 = .ok (.iload_n 2, 1) := by decide +kernel
theorem dX3_toggle_11 : decode cX3_toggle 11 = .ok (.sipush 999, 3) := by decide +kernel
theorem dX3_toggle_14 : decode cX3_toggle 14 = .ok (.if_icmp .le 13, 3) := by decide +kernel
theorem dX3_toggle_17 : decode cX3_toggle 17 = .ok (.new 52, 3) := by decide +kernel
theorem dX3_toggle_20 : decode cX3_toggle 20 = .ok (.dup, 1) := by decide +kernel
theorem dX3_toggle_21 : decode cX3_toggle 21 = .ok (.ldc 93, 2) := by decide +kernel
theorem dX3_toggle_23 : decode cX3_toggle 23 = .ok (.invokespecial 56, 3) := by decide +kernel
theorem dX3_toggle_26 : decode cX3_toggle 26 = .ok (.athrow, 1) := by decide +kernel
theorem dX3_toggle_27 : decode cX3_toggle 27 = .ok (.aload_n 0, 1) := by decide +kernel
theorem dX3_toggle_28 : decode cX3_toggle 28 = .ok (.getfield 16, 3) := by decide +kernel
theorem dX3_toggle_31 : decode cX3_toggle 31 = .ok (.iload_n 1, 1) := by decide +kernel
theorem dX3_toggle_32 : decode cX3_toggle 32 = .ok (.invokevirtual 57, 3) := by decide +kernel
theorem dX3_toggle_35 : decode cX3_toggle 35 = .ok (.checkcast 77, 3) := by decide +kernel
theorem dX3_toggle_38 : decode cX3_toggle 38 = .ok (.astore_n 3, 1) := by decide +kernel
theorem dX3_toggle_39 : decode cX3_toggle 39 = .ok (.aload_n 3, 1) := by decide +kernel
theorem dX3_toggle_40 : decode cX3_toggle 40 = .ok (.iload_n 2, 1) := by decide +kernel
theorem dX3_toggle_41 : decode cX3_toggle 41 = .ok (.invokevirtual 95, 3) := by decide +kernel
theorem dX3_toggle_44 : decode cX3_toggle 44 = .ok (.ifCond .eq 11, 3) := by decide +kernel
theorem dX3_toggle_47 : decode cX3_toggle 47 = .ok (.aload_n 3, 1) := by decide +kernel
theorem dX3_toggle_48 : decode cX3_toggle 48 = .ok (.iload_n 2, 1) := by decide +kernel
theorem dX3_toggle_49 : decode cX3_toggle 49 = .ok (.invokevirtual 99, 3) := by decide +kernel
theorem dX3_toggle_52 : decode cX3_toggle 52 = .ok (.goto 30, 3) := by decide +kernel
theorem dX3_toggle_55 : decode cX3_toggle 55 = .ok (.aload_n 3, 1) := by decide +kernel
theorem dX3_toggle_56 : decode cX3_toggle 56 = .ok (.getfield 102, 3) := by decide +kernel
theorem dX3_toggle_59 : decode cX3_toggle 59 = .ok (.bipush 6, 2) := by decide +kernel
theorem dX3_toggle_61 : decode cX3_toggle 61 = .ok (.if_icmp .ge 11, 3) := by decide +kernel
theorem dX3_toggle_64 : decode cX3_toggle 64 = .ok (.aload_n 3, 1) := by decide +kernel
theorem dX3_toggle_65 : decode cX3_toggle 65 = .ok (.iload_n 2, 1) := by decide +kernel
theorem dX3_toggle_66 : decode cX3_toggle 66 = .ok (.invokevirtual 105, 3) := by decide +kernel
theorem dX3_toggle_69 : decode cX3_toggle 69 = .ok (.goto 13, 3) := by decide +kernel
theorem dX3_toggle_72 : decode cX3_toggle 72 = .ok (.new 34, 3) := by decide +kernel
theorem dX3_toggle_75 : decode cX3_toggle 75 = .ok (.dup, 1) := by decide +kernel
theorem dX3_toggle_76 : decode cX3_toggle 76 = .ok (.ldc 108, 2) := by decide +kernel
theorem dX3_toggle_78 : decode cX3_toggle 78 = .ok (.invokespecial 38, 3) := by decide +kernel
theorem dX3_toggle_81 : decode cX3_toggle 81 = .ok (.athrow, 1) := by decide +kernel
theorem dX3_toggle_82 : decode cX3_toggle 82 = .ok (.aload_n 3, 1) := by decide +kernel
theorem dX3_toggle_83 : decode cX3_toggle 83 = .ok (.getfield 102, 3) := by decide +kernel
theorem dX3_toggle_86 : decode cX3_toggle 86 = .ok (.ireturn, 1) := by decide +kernel
theorem dX3_count_0 : decode cX3_count 0 = .ok (.iload_n 1, 1) := by decide +kernel
theorem dX3_count_1 : decode cX3_count 1 = .ok (.ifCond .lt 8, 3) := by decide +kernel
theorem dX3_count_4 : decode cX3_count 4 = .ok (.iload_n 1, 1) := by decide +kernel
theorem dX3_count_5 : decode cX3_count 5 = .ok (.iconst 4, 1) := by decide +kernel
theorem dX3_count_6 : decode cX3_count 6 = .ok (.if_icmp .lt 13, 3) := by decide +kernel
theorem dX3_count_9 : decode cX3_count 9 = .ok (.new 110, 3) := by decide +kernel
theorem dX3_count_12 : decode cX3_count 12 = .ok (.dup, 1) := by decide +kernel
theorem dX3_count_13 : decode cX3_count 13 = .ok (.ldc 112, 2) := by decide +kernel
theorem dX3_count_15 : decode cX3_count 15 = .ok (.invokespecial 114, 3) := by decide +kernel
theorem dX3_count_18 : decode cX3_count 18 = .ok (.athrow, 1) := by decide +kernel
theorem dX3_count_19 : decode cX3_count 19 = .ok (.aload_n 0, 1) := by decide +kernel
theorem dX3_count_20 : decode cX3_count 20 = .ok (.iload_n 1, 1) := by decide +kernel
theorem dX3_count_21 : decode cX3_count 21 = .ok (.invokevirtual 115, 3) := by decide +kernel
theorem dX3_count_24 : decode cX3_count 24 = .ok (.ireturn, 1) := by decide +kernel
theorem dX3_element_0 : decode cX3_element 0 = .ok (.aload_n 0, 1) := by decide +kernel
theorem dX3_element_1 : decode cX3_element 1 = .ok (.iload_n 1, 1) := by decide +kernel
theorem dX3_element_2 : decode cX3_element 2 = .ok (.invokevirtual 82, 3) := by decide +kernel
theorem dX3_element_5 : decode cX3_element 5 = .ok (.iload_n 2, 1) := by decide +kernel
theorem dX3_element_6 : decode cX3_element 6 = .ok (.ifCond .lt 9, 3) := by decide +kernel
theorem dX3_element_9 : decode cX3_element 9 = .ok (.iload_n 2, 1) := by decide +kernel
theorem dX3_element_10 : decode cX3_element 10 = .ok (.bipush 6, 2) := by decide +kernel
theorem dX3_element_12 : decode cX3_element 12 = .ok (.if_icmp .lt 13, 3) := by decide +kernel
theorem dX3_element_15 : decode cX3_element 15 = .ok (.new 110, 3) := by decide +kernel
theorem dX3_element_18 : decode cX3_element 18 = .ok (.dup, 1) := by decide +kernel
theorem dX3_element_19 : decode cX3_element 19 = .ok (.ldc 119, 2) := by decide +kernel
theorem dX3_element_21 : decode cX3_element 21 = .ok (.invokespecial 114, 3) := by decide +kernel
theorem dX3_element_24 : decode cX3_element 24 = .ok (.athrow, 1) := by decide +kernel
theorem dX3_element_25 : decode cX3_element 25 = .ok (.aload_n 0, 1) := by decide +kernel
theorem dX3_element_26 : decode cX3_element 26 = .ok (.getfield 16, 3) := by decide +kernel
theorem dX3_element_29 : decode cX3_element 29 = .ok (.iload_n 1, 1) := by decide +kernel
theorem dX3_element_30 : decode cX3_element 30 = .ok (.invokevirtual 57, 3) := by decide +kernel
theorem dX3_element_33 : decode cX3_element 33 = .ok (.checkcast 77, 3) := by decide +kernel
theorem dX3_element_36 : decode cX3_element 36 = .ok (.iload_n 2, 1) := by decide +kernel
theorem dX3_element_37 : decode cX3_element 37 = .ok (.invokevirtual 121, 3) := by decide +kernel
theorem dX3_element_40 : decode cX3_element 40 = .ok (.ireturn, 1) := by decide +kernel
theorem dX3_toggleAt_0 : decode cX3_toggleAt 0 = .ok (.aload_n 0, 1) := by decide +kernel
theorem dX3_toggleAt_1 : decode cX3_toggleAt 1 = .ok (.iload_n 1, 1) := by decide +kernel
theorem dX3_toggleAt_2 : decode cX3_toggleAt 2 = .ok (.invokevirtual 82, 3) := by decide +kernel
theorem dX3_toggleAt_5 : decode cX3_toggleAt 5 = .ok (.aload_n 0, 1) := by decide +kernel
theorem dX3_toggleAt_6 : decode cX3_toggleAt 6 = .ok (.getfield 16, 3) := by decide +kernel
theorem dX3_toggleAt_9 : decode cX3_toggleAt 9 = .ok (.iload_n 1, 1) := by decide +kernel
theorem dX3_toggleAt_10 : decode cX3_toggleAt 10 = .ok (.invokevirtual 57, 3) := by decide +kernel
theorem dX3_toggleAt_13 : decode cX3_toggleAt 13 = .ok (.checkcast 77, 3) := by decide +kernel
theorem dX3_toggleAt_16 : decode cX3_toggleAt 16 = .ok (.astore_n 3, 1) := by decide +kernel
theorem dX3_toggleAt_17 : decode cX3_toggleAt 17 = .ok (.iload_n 2, 1) := by decide +kernel
theorem dX3_toggleAt_18 : decode cX3_toggleAt 18 = .ok (.ifCond .lt 11, 3) := by decide +kernel
theorem dX3_toggleAt_21 : decode cX3_toggleAt 21 = .ok (.iload_n 2, 1) := by decide +kernel
theorem dX3_toggleAt_22 : decode cX3_toggleAt 22 = .ok (.aload_n 3, 1) := by decide +kernel
theorem dX3_toggleAt_23 : decode cX3_toggleAt 23 = .ok (.getfield 102, 3) := by decide +kernel
theorem dX3_toggleAt_26 : decode cX3_toggleAt 26 = .ok (.if_icmp .lt 13, 3) := by decide +kernel
theorem dX3_toggleAt_29 : decode cX3_toggleAt 29 = .ok (.new 110, 3) := by decide +kernel
theorem dX3_toggleAt_32 : decode cX3_toggleAt 32 = .ok (.dup, 1) := by decide +kernel
theorem dX3_toggleAt_33 : decode cX3_toggleAt 33 = .ok (.ldc 124, 2) := by decide +kernel
theorem dX3_toggleAt_35 : decode cX3_toggleAt 35 = .ok (.invokespecial 114, 3) := by decide +kernel
theorem dX3_toggleAt_38 : decode cX3_toggleAt 38 = .ok (.athrow, 1) := by decide +kernel
theorem dX3_toggleAt_39 : decode cX3_toggleAt 39 = .ok (.aload_n 3, 1) := by decide +kernel
theorem dX3_toggleAt_40 : decode cX3_toggleAt 40 = .ok (.iload_n 2, 1) := by decide +kernel
theorem dX3_toggleAt_41 : decode cX3_toggleAt 41 = .ok (.invokevirtual 126, 3) := by decide +kernel
theorem dX3_toggleAt_44 : decode cX3_toggleAt 44 = .ok (.ireturn, 1) := by decide +kernel
theorem dX3_isOn_0 : decode cX3_isOn 0 = .ok (.aload_n 0, 1) := by decide +kernel
theorem dX3_isOn_1 : decode cX3_isOn 1 = .ok (.iload_n 1, 1) := by decide +kernel
theorem dX3_isOn_2 : decode cX3_isOn 2 = .ok (.invokevirtual 82, 3) := by decide +kernel
theorem dX3_isOn_5 : decode cX3_isOn 5 = .ok (.iload_n 2, 1) := by decide +kernel
theorem dX3_isOn_6 : decode cX3_isOn 6 = .ok (.invokestatic 129, 3) := by decide +kernel
theorem dX3_isOn_9 : decode cX3_isOn 9 = .ok (.aload_n 0, 1) := by decide +kernel
theorem dX3_isOn_10 : decode cX3_isOn 10 = .ok (.getfield 16, 3) := by decide +kernel
theorem dX3_isOn_13 : decode cX3_isOn 13 = .ok (.iload_n 1, 1) := by decide +kernel
theorem dX3_isOn_14 : decode cX3_isOn 14 = .ok (.invokevirtual 57, 3) := by decide +kernel
theorem dX3_isOn_17 : decode cX3_isOn 17 = .ok (.checkcast 77, 3) := by decide +kernel
theorem dX3_isOn_20 : decode cX3_isOn 20 = .ok (.iload_n 2, 1) := by decide +kernel
theorem dX3_isOn_21 : decode cX3_isOn 21 = .ok (.invokevirtual 132, 3) := by decide +kernel
theorem dX3_isOn_24 : decode cX3_isOn 24 = .ok (.ireturn, 1) := by decide +kernel
theorem dX3_together_0 : decode cX3_together 0 = .ok (.aload_n 0, 1) := by decide +kernel
theorem dX3_together_1 : decode cX3_together 1 = .ok (.iload_n 1, 1) := by decide +kernel
theorem dX3_together_2 : decode cX3_together 2 = .ok (.invokevirtual 48, 3) := by decide +kernel
theorem dX3_together_5 : decode cX3_together 5 = .ok (.iload_n 2, 1) := by decide +kernel
theorem dX3_together_6 : decode cX3_together 6 = .ok (.invokestatic 129, 3) := by decide +kernel
theorem dX3_together_9 : decode cX3_together 9 = .ok (.aload_n 0, 1) := by decide +kernel
theorem dX3_together_10 : decode cX3_together 10 = .ok (.iload_n 2, 1) := by decide +kernel
theorem dX3_together_11 : decode cX3_together 11 = .ok (.invokevirtual 135, 3) := by decide +kernel
theorem dX3_together_14 : decode cX3_together 14 = .ok (.aload_n 0, 1) := by decide +kernel
theorem dX3_together_15 : decode cX3_together 15 = .ok (.getfield 19, 3) := by decide +kernel
theorem dX3_together_18 : decode cX3_together 18 = .ok (.iload_n 1, 1) := by decide +kernel
theorem dX3_together_19 : decode cX3_together 19 = .ok (.iaload, 1) := by decide +kernel
theorem dX3_together_20 : decode cX3_together 20 = .ok (.ireturn, 1) := by decide +kernel
theorem dX3_floats_0 : decode cX3_floats 0 = .ok (.aload_n 0, 1) := by decide +kernel
theorem dX3_floats_1 : decode cX3_floats 1 = .ok (.iload_n 1, 1) := by decide +kernel
theorem dX3_floats_2 : decode cX3_floats 2 = .ok (.invokevirtual 48, 3) := by decide +kernel
theorem dX3_floats_5 : decode cX3_floats 5 = .ok (.iload_n 2, 1) := by decide +kernel
theorem dX3_floats_6 : decode cX3_floats 6 = .ok (.invokestatic 129, 3) := by decide +kernel
theorem dX3_floats_9 : decode cX3_floats 9 = .ok (.aload_n 0, 1) := by decide +kernel
theorem dX3_floats_10 : decode cX3_floats 10 = .ok (.iload_n 2, 1) := by decide +kernel
theorem dX3_floats_11 : decode cX3_floats 11 = .ok (.invokevirtual 135, 3) := by decide +kernel
theorem dX3_floats_14 : decode cX3_floats 14 = .ok (.aload_n 0, 1) := by decide +kernel
theorem dX3_floats_15 : decode cX3_floats 15 = .ok (.iload_n 1, 1) := by decide +kernel
theorem dX3_floats_16 : decode cX3_floats 16 = .ok (.invokevirtual 138, 3) := by decide +kernel
theorem dX3_floats_19 : decode cX3_floats 19 = .ok (.ireturn, 1) := by decide +kernel
theorem dX3_potential_0 : decode cX3_potential 0 = .ok (.aload_n 0, 1) := by decide +kernel
theorem dX3_potential_1 : decode cX3_potential 1 = .ok (.iload_n 1, 1) := by decide +kernel
theorem dX3_potential_2 : decode cX3_potential 2 = .ok (.invokevirtual 48, 3) := by decide +kernel
theorem dX3_potential_5 : decode cX3_potential 5 = .ok (.iload_n 2, 1) := by decide +kernel
theorem dX3_potential_6 : decode cX3_potential 6 = .ok (.invokestatic 129, 3) := by decide +kernel
theorem dX3_potential_9 : decode cX3_potential 9 = .ok (.aload_n 0, 1) := by decide +kernel
theorem dX3_potential_10 : decode cX3_potential 10 = .ok (.iload_n 2, 1) := by decide +kernel
theorem dX3_potential_11 : decode cX3_potential 11 = .ok (.invokevirtual 141, 3) := by decide +kernel
theorem dX3_potential_14 : decode cX3_potential 14 = .ok (.aload_n 0, 1) := by decide +kernel
theorem dX3_potential_15 : decode cX3_potential 15 = .ok (.iload_n 1, 1) := by decide +kernel
theorem dX3_potential_16 : decode cX3_potential 16 = .ok (.invokevirtual 144, 3) := by decide +kernel
theorem dX3_potential_19 : decode cX3_potential 19 = .ok (.aload_n 0, 1) := by decide +kernel
theorem dX3_potential_20 : decode cX3_potential 20 = .ok (.getfield 26, 3) := by decide +kernel
theorem dX3_potential_23 : decode cX3_potential 23 = .ok (.iload_n 1, 1) := by decide +kernel
theorem dX3_potential_24 : decode cX3_potential 24 = .ok (.invokevirtual 147, 3) := by decide +kernel
theorem dX3_potential_27 : decode cX3_potential 27 = .ok (.aload_n 0, 1) := by decide +kernel
theorem dX3_potential_28 : decode cX3_potential 28 = .ok (.getfield 26, 3) := by decide +kernel
theorem dX3_potential_31 : decode cX3_potential 31 = .ok (.invokevirtual 151, 3) := by decide +kernel
theorem dX3_potential_34 : decode cX3_potential 34 = .ok (.iload_n 3, 1) := by decide +kernel
theorem dX3_potential_35 : decode cX3_potential 35 = .ok (.invokestatic 155, 3) := by decide +kernel
theorem dX3_potential_38 : decode cX3_potential 38 = .ok (.lreturn, 1) := by decide +kernel
theorem dX3_current_0 : decode cX3_current 0 = .ok (.aload_n 0, 1) := by decide +kernel
theorem dX3_current_1 : decode cX3_current 1 = .ok (.iload_n 1, 1) := by decide +kernel
theorem dX3_current_2 : decode cX3_current 2 = .ok (.invokevirtual 82, 3) := by decide +kernel
theorem dX3_current_5 : decode cX3_current 5 = .ok (.iload_n 2, 1) := by decide +kernel
theorem dX3_current_6 : decode cX3_current 6 = .ok (.invokestatic 129, 3) := by decide +kernel
theorem dX3_current_9 : decode cX3_current 9 = .ok (.aload_n 0, 1) := by decide +kernel
theorem dX3_current_10 : decode cX3_current 10 = .ok (.getfield 16, 3) := by decide +kernel
theorem dX3_current_13 : decode cX3_current 13 = .ok (.iload_n 1, 1) := by decide +kernel
theorem dX3_current_14 : decode cX3_current 14 = .ok (.invokevirtual 57, 3) := by decide +kernel
theorem dX3_current_17 : decode cX3_current 17 = .ok (.checkcast 77, 3) := by decide +kernel
theorem dX3_current_20 : decode cX3_current 20 = .ok (.astore 4, 2) := by decide +kernel
theorem dX3_current_22 : decode cX3_current 22 = .ok (.aload 4, 2) := by decide +kernel
theorem dX3_current_24 : decode cX3_current 24 = .ok (.iload_n 2, 1) := by decide +kernel
theorem dX3_current_25 : decode cX3_current 25 = .ok (.invokevirtual 132, 3) := by decide +kernel
theorem dX3_current_28 : decode cX3_current 28 = .ok (.ifCond .ne 10, 3) := by decide +kernel
theorem dX3_current_31 : decode cX3_current 31 = .ok (.lconst 0, 1) := by decide +kernel
theorem dX3_current_32 : decode cX3_current 32 = .ok (.lconst 1, 1) := by decide +kernel
theorem dX3_current_33 : decode cX3_current 33 = .ok (.iload_n 3, 1) := by decide +kernel
theorem dX3_current_34 : decode cX3_current 34 = .ok (.invokestatic 155, 3) := by decide +kernel
theorem dX3_current_37 : decode cX3_current 37 = .ok (.lreturn, 1) := by decide +kernel
theorem dX3_current_38 : decode cX3_current 38 = .ok (.aload 4, 2) := by decide +kernel
theorem dX3_current_40 : decode cX3_current 40 = .ok (.getfield 85, 3) := by decide +kernel
theorem dX3_current_43 : decode cX3_current 43 = .ok (.ifCond .eq 15, 3) := by decide +kernel
theorem dX3_current_46 : decode cX3_current 46 = .ok (.aload 4, 2) := by decide +kernel
theorem dX3_current_48 : decode cX3_current 48 = .ok (.getfield 88, 3) := by decide +kernel
theorem dX3_current_51 : decode cX3_current 51 = .ok (.i2l, 1) := by decide +kernel
theorem dX3_current_52 : decode cX3_current 52 = .ok (.lconst 1, 1) := by decide +kernel
theorem dX3_current_53 : decode cX3_current 53 = .ok (.iload_n 3, 1) := by decide +kernel
theorem dX3_current_54 : decode cX3_current 54 = .ok (.invokestatic 155, 3) := by decide +kernel
theorem dX3_current_57 : decode cX3_current 57 = .ok (.lreturn, 1) := by decide +kernel
theorem dX3_current_58 : decode cX3_current 58 = .ok (.aload_n 0, 1) := by decide +kernel
theorem dX3_current_59 : decode cX3_current 59 = .ok (.iload_n 2, 1) := by decide +kernel
theorem dX3_current_60 : decode cX3_current 60 = .ok (.invokevirtual 141, 3) := by decide +kernel
theorem dX3_current_63 : decode cX3_current 63 = .ok (.aload_n 0, 1) := by decide +kernel
theorem dX3_current_64 : decode cX3_current 64 = .ok (.aload 4, 2) := by decide +kernel
theorem dX3_current_66 : decode cX3_current 66 = .ok (.getfield 159, 3) := by decide +kernel
theorem dX3_current_69 : decode cX3_current 69 = .ok (.invokevirtual 144, 3) := by decide +kernel
theorem dX3_current_72 : decode cX3_current 72 = .ok (.aload_n 0, 1) := by decide +kernel
theorem dX3_current_73 : decode cX3_current 73 = .ok (.aload 4, 2) := by decide +kernel
theorem dX3_current_75 : decode cX3_current 75 = .ok (.aload 4, 2) := by decide +kernel
theorem dX3_current_77 : decode cX3_current 77 = .ok (.getfield 159, 3) := by decide +kernel
theorem dX3_current_80 : decode cX3_current 80 = .ok (.invokevirtual 162, 3) := by decide +kernel
theorem dX3_current_83 : decode cX3_current 83 = .ok (.aload_n 0, 1) := by decide +kernel
theorem dX3_current_84 : decode cX3_current 84 = .ok (.getfield 26, 3) := by decide +kernel
theorem dX3_current_87 : decode cX3_current 87 = .ok (.invokevirtual 151, 3) := by decide +kernel
theorem dX3_current_90 : decode cX3_current 90 = .ok (.iload_n 3, 1) := by decide +kernel
theorem dX3_current_91 : decode cX3_current 91 = .ok (.invokestatic 155, 3) := by decide +kernel
theorem dX3_current_94 : decode cX3_current 94 = .ok (.lreturn, 1) := by decide +kernel
theorem dX3_feed_0 : decode cX3_feed 0 = .ok (.aload_n 0, 1) := by decide +kernel
theorem dX3_feed_1 : decode cX3_feed 1 = .ok (.iload_n 1, 1) := by decide +kernel
theorem dX3_feed_2 : decode cX3_feed 2 = .ok (.invokevirtual 48, 3) := by decide +kernel
theorem dX3_feed_5 : decode cX3_feed 5 = .ok (.iload_n 2, 1) := by decide +kernel
theorem dX3_feed_6 : decode cX3_feed 6 = .ok (.invokestatic 129, 3) := by decide +kernel
theorem dX3_feed_9 : decode cX3_feed 9 = .ok (.aload_n 0, 1) := by decide +kernel
theorem dX3_feed_10 : decode cX3_feed 10 = .ok (.getfield 12, 3) := by decide +kernel
theorem dX3_feed_13 : decode cX3_feed 13 = .ok (.iload_n 1, 1) := by decide +kernel
theorem dX3_feed_14 : decode cX3_feed 14 = .ok (.invokevirtual 57, 3) := by decide +kernel
theorem dX3_feed_17 : decode cX3_feed 17 = .ok (.checkcast 41, 3) := by decide +kernel
theorem dX3_feed_20 : decode cX3_feed 20 = .ok (.getfield 61, 3) := by decide +kernel
theorem dX3_feed_23 : decode cX3_feed 23 = .ok (.ifCond .ne 13, 3) := by decide +kernel
theorem dX3_feed_26 : decode cX3_feed 26 = .ok (.new 34, 3) := by decide +kernel
theorem dX3_feed_29 : decode cX3_feed 29 = .ok (.dup, 1) := by decide +kernel
theorem dX3_feed_30 : decode cX3_feed 30 = .ok (.ldc 166, 2) := by decide +kernel
theorem dX3_feed_32 : decode cX3_feed 32 = .ok (.invokespecial 38, 3) := by decide +kernel
theorem dX3_feed_35 : decode cX3_feed 35 = .ok (.athrow, 1) := by decide +kernel
theorem dX3_feed_36 : decode cX3_feed 36 = .ok (.aload_n 0, 1) := by decide +kernel
theorem dX3_feed_37 : decode cX3_feed 37 = .ok (.iload_n 2, 1) := by decide +kernel
theorem dX3_feed_38 : decode cX3_feed 38 = .ok (.invokevirtual 141, 3) := by decide +kernel
theorem dX3_feed_41 : decode cX3_feed 41 = .ok (.lconst 0, 1) := by decide +kernel
theorem dX3_feed_42 : decode cX3_feed 42 = .ok (.lstore 4, 2) := by decide +kernel
theorem dX3_feed_44 : decode cX3_feed 44 = .ok (.iconst 0, 1) := by decide +kernel
theorem dX3_feed_45 : decode cX3_feed 45 = .ok (.istore 6, 2) := by decide +kernel
theorem dX3_feed_47 : decode cX3_feed 47 = .ok (.iload 6, 2) := by decide +kernel
theorem dX3_feed_49 : decode cX3_feed 49 = .ok (.aload_n 0, 1) := by decide +kernel
theorem dX3_feed_50 : decode cX3_feed 50 = .ok (.getfield 16, 3) := by decide +kernel
theorem dX3_feed_53 : decode cX3_feed 53 = .ok (.invokevirtual 30, 3) := by decide +kernel
theorem dX3_feed_56 : decode cX3_feed 56 = .ok (.if_icmp .ge 44, 3) := by decide +kernel
theorem dX3_feed_59 : decode cX3_feed 59 = .ok (.aload_n 0, 1) := by decide +kernel
theorem dX3_feed_60 : decode cX3_feed 60 = .ok (.getfield 16, 3) := by decide +kernel
theorem dX3_feed_63 : decode cX3_feed 63 = .ok (.iload 6, 2) := by decide +kernel
end
section
theorem dX3_feed_65 : decode cX3_feed 65 = .ok (.invokevirtual 57, 3) := by decide +kernel
theorem dX3_feed_68 : decode cX3_feed 68 = .ok (.checkcast 77, 3) := by decide +kernel
theorem dX3_feed_71 : decode cX3_feed 71 = .ok (.astore 7, 2) := by decide +kernel
theorem dX3_feed_73 : decode cX3_feed 73 = .ok (.aload 7, 2) := by decide +kernel
theorem dX3_feed_75 : decode cX3_feed 75 = .ok (.iload_n 2, 1) := by decide +kernel
theorem dX3_feed_76 : decode cX3_feed 76 = .ok (.invokevirtual 132, 3) := by decide +kernel
theorem dX3_feed_79 : decode cX3_feed 79 = .ok (.ifCond .eq 15, 3) := by decide +kernel
theorem dX3_feed_82 : decode cX3_feed 82 = .ok (.lload 4, 2) := by decide +kernel
theorem dX3_feed_84 : decode cX3_feed 84 = .ok (.aload_n 0, 1) := by decide +kernel
theorem dX3_feed_85 : decode cX3_feed 85 = .ok (.aload 7, 2) := by decide +kernel
theorem dX3_feed_87 : decode cX3_feed 87 = .ok (.iload_n 1, 1) := by decide +kernel
theorem dX3_feed_88 : decode cX3_feed 88 = .ok (.invokevirtual 162, 3) := by decide +kernel
theorem dX3_feed_91 : decode cX3_feed 91 = .ok (.ladd, 1) := by decide +kernel
theorem dX3_feed_92 : decode cX3_feed 92 = .ok (.lstore 4, 2) := by decide +kernel
theorem dX3_feed_94 : decode cX3_feed 94 = .ok (.iinc 6 1, 3) := by decide +kernel
theorem dX3_feed_97 : decode cX3_feed 97 = .ok (.goto (-50), 3) := by decide +kernel
theorem dX3_feed_100 : decode cX3_feed 100 = .ok (.lload 4, 2) := by decide +kernel
theorem dX3_feed_102 : decode cX3_feed 102 = .ok (.aload_n 0, 1) := by decide +kernel
theorem dX3_feed_103 : decode cX3_feed 103 = .ok (.getfield 26, 3) := by decide +kernel
theorem dX3_feed_106 : decode cX3_feed 106 = .ok (.invokevirtual 151, 3) := by decide +kernel
theorem dX3_feed_109 : decode cX3_feed 109 = .ok (.iload_n 3, 1) := by decide +kernel
theorem dX3_feed_110 : decode cX3_feed 110 = .ok (.invokestatic 155, 3) := by decide +kernel
theorem dX3_feed_113 : decode cX3_feed 113 = .ok (.lreturn, 1) := by decide +kernel
theorem dX3_resistance_0 : decode cX3_resistance 0 = .ok (.aload_n 0, 1) := by decide +kernel
theorem dX3_resistance_1 : decode cX3_resistance 1 = .ok (.iload_n 1, 1) := by decide +kernel
theorem dX3_resistance_2 : decode cX3_resistance 2 = .ok (.invokevirtual 48, 3) := by decide +kernel
theorem dX3_resistance_5 : decode cX3_resistance 5 = .ok (.aload_n 0, 1) := by decide +kernel
theorem dX3_resistance_6 : decode cX3_resistance 6 = .ok (.iload_n 2, 1) := by decide +kernel
theorem dX3_resistance_7 : decode cX3_resistance 7 = .ok (.invokevirtual 48, 3) := by decide +kernel
theorem dX3_resistance_10 : decode cX3_resistance 10 = .ok (.iload_n 3, 1) := by decide +kernel
theorem dX3_resistance_11 : decode cX3_resistance 11 = .ok (.invokestatic 129, 3) := by decide +kernel
theorem dX3_resistance_14 : decode cX3_resistance 14 = .ok (.aload_n 0, 1) := by decide +kernel
theorem dX3_resistance_15 : decode cX3_resistance 15 = .ok (.iload_n 3, 1) := by decide +kernel
theorem dX3_resistance_16 : decode cX3_resistance 16 = .ok (.invokevirtual 135, 3) := by decide +kernel
theorem dX3_resistance_19 : decode cX3_resistance 19 = .ok (.aload_n 0, 1) := by decide +kernel
theorem dX3_resistance_20 : decode cX3_resistance 20 = .ok (.getfield 19, 3) := by decide +kernel
theorem dX3_resistance_23 : decode cX3_resistance 23 = .ok (.iload_n 1, 1) := by decide +kernel
theorem dX3_resistance_24 : decode cX3_resistance 24 = .ok (.iaload, 1) := by decide +kernel
theorem dX3_resistance_25 : decode cX3_resistance 25 = .ok (.iload_n 2, 1) := by decide +kernel
theorem dX3_resistance_26 : decode cX3_resistance 26 = .ok (.invokestatic 168, 3) := by decide +kernel
theorem dX3_resistance_29 : decode cX3_resistance 29 = .ok (.ifCond .ne 13, 3) := by decide +kernel
theorem dX3_resistance_32 : decode cX3_resistance 32 = .ok (.new 34, 3) := by decide +kernel
theorem dX3_resistance_35 : decode cX3_resistance 35 = .ok (.dup, 1) := by decide +kernel
theorem dX3_resistance_36 : decode cX3_resistance 36 = .ok (.ldc 172, 2) := by decide +kernel
theorem dX3_resistance_38 : decode cX3_resistance 38 = .ok (.invokespecial 38, 3) := by decide +kernel
theorem dX3_resistance_41 : decode cX3_resistance 41 = .ok (.athrow, 1) := by decide +kernel
theorem dX3_resistance_42 : decode cX3_resistance 42 = .ok (.aload_n 0, 1) := by decide +kernel
theorem dX3_resistance_43 : decode cX3_resistance 43 = .ok (.iload_n 1, 1) := by decide +kernel
theorem dX3_resistance_44 : decode cX3_resistance 44 = .ok (.iload_n 2, 1) := by decide +kernel
theorem dX3_resistance_45 : decode cX3_resistance 45 = .ok (.iload_n 3, 1) := by decide +kernel
theorem dX3_resistance_46 : decode cX3_resistance 46 = .ok (.invokevirtual 174, 3) := by decide +kernel
theorem dX3_resistance_49 : decode cX3_resistance 49 = .ok (.aload_n 0, 1) := by decide +kernel
theorem dX3_resistance_50 : decode cX3_resistance 50 = .ok (.getfield 26, 3) := by decide +kernel
theorem dX3_resistance_53 : decode cX3_resistance 53 = .ok (.iload_n 1, 1) := by decide +kernel
theorem dX3_resistance_54 : decode cX3_resistance 54 = .ok (.invokevirtual 147, 3) := by decide +kernel
theorem dX3_resistance_57 : decode cX3_resistance 57 = .ok (.aload_n 0, 1) := by decide +kernel
theorem dX3_resistance_58 : decode cX3_resistance 58 = .ok (.getfield 26, 3) := by decide +kernel
theorem dX3_resistance_61 : decode cX3_resistance 61 = .ok (.invokevirtual 151, 3) := by decide +kernel
theorem dX3_resistance_64 : decode cX3_resistance 64 = .ok (.iload 4, 2) := by decide +kernel
theorem dX3_resistance_66 : decode cX3_resistance 66 = .ok (.invokestatic 155, 3) := by decide +kernel
theorem dX3_resistance_69 : decode cX3_resistance 69 = .ok (.lreturn, 1) := by decide +kernel
theorem dX3_power_0 : decode cX3_power 0 = .ok (.iload_n 1, 1) := by decide +kernel
theorem dX3_power_1 : decode cX3_power 1 = .ok (.invokestatic 129, 3) := by decide +kernel
theorem dX3_power_4 : decode cX3_power 4 = .ok (.aload_n 0, 1) := by decide +kernel
theorem dX3_power_5 : decode cX3_power 5 = .ok (.iload_n 1, 1) := by decide +kernel
theorem dX3_power_6 : decode cX3_power 6 = .ok (.invokevirtual 141, 3) := by decide +kernel
theorem dX3_power_9 : decode cX3_power 9 = .ok (.dconst 0, 1) := by decide +kernel
theorem dX3_power_10 : decode cX3_power 10 = .ok (.dstore_n 2, 1) := by decide +kernel
theorem dX3_power_11 : decode cX3_power 11 = .ok (.iconst 0, 1) := by decide +kernel
theorem dX3_power_12 : decode cX3_power 12 = .ok (.istore 4, 2) := by decide +kernel
theorem dX3_power_14 : decode cX3_power 14 = .ok (.iload 4, 2) := by decide +kernel
theorem dX3_power_16 : decode cX3_power 16 = .ok (.aload_n 0, 1) := by decide +kernel
theorem dX3_power_17 : decode cX3_power 17 = .ok (.getfield 16, 3) := by decide +kernel
theorem dX3_power_20 : decode cX3_power 20 = .ok (.invokevirtual 30, 3) := by decide +kernel
theorem dX3_power_23 : decode cX3_power 23 = .ok (.if_icmp .ge 88, 3) := by decide +kernel
theorem dX3_power_26 : decode cX3_power 26 = .ok (.aload_n 0, 1) := by decide +kernel
theorem dX3_power_27 : decode cX3_power 27 = .ok (.getfield 16, 3) := by decide +kernel
theorem dX3_power_30 : decode cX3_power 30 = .ok (.iload 4, 2) := by decide +kernel
theorem dX3_power_32 : decode cX3_power 32 = .ok (.invokevirtual 57, 3) := by decide +kernel
theorem dX3_power_35 : decode cX3_power 35 = .ok (.checkcast 77, 3) := by decide +kernel
theorem dX3_power_38 : decode cX3_power 38 = .ok (.astore 5, 2) := by decide +kernel
theorem dX3_power_40 : decode cX3_power 40 = .ok (.aload 5, 2) := by decide +kernel
theorem dX3_power_42 : decode cX3_power 42 = .ok (.getfield 85, 3) := by decide +kernel
theorem dX3_power_45 : decode cX3_power 45 = .ok (.ifCond .ne 60, 3) := by decide +kernel
theorem dX3_power_48 : decode cX3_power 48 = .ok (.aload 5, 2) := by decide +kernel
theorem dX3_power_50 : decode cX3_power 50 = .ok (.iload_n 1, 1) := by decide +kernel
theorem dX3_power_51 : decode cX3_power 51 = .ok (.invokevirtual 132, 3) := by decide +kernel
theorem dX3_power_54 : decode cX3_power 54 = .ok (.ifCond .eq 51, 3) := by decide +kernel
theorem dX3_power_57 : decode cX3_power 57 = .ok (.aload_n 0, 1) := by decide +kernel
theorem dX3_power_58 : decode cX3_power 58 = .ok (.aload 5, 2) := by decide +kernel
theorem dX3_power_60 : decode cX3_power 60 = .ok (.getfield 159, 3) := by decide +kernel
theorem dX3_power_63 : decode cX3_power 63 = .ok (.invokevirtual 138, 3) := by decide +kernel
theorem dX3_power_66 : decode cX3_power 66 = .ok (.ifCond .ne 39, 3) := by decide +kernel
theorem dX3_power_69 : decode cX3_power 69 = .ok (.aload_n 0, 1) := by decide +kernel
theorem dX3_power_70 : decode cX3_power 70 = .ok (.aload 5, 2) := by decide +kernel
theorem dX3_power_72 : decode cX3_power 72 = .ok (.getfield 159, 3) := by decide +kernel
theorem dX3_power_75 : decode cX3_power 75 = .ok (.invokevirtual 178, 3) := by decide +kernel
theorem dX3_power_78 : decode cX3_power 78 = .ok (.aload_n 0, 1) := by decide +kernel
theorem dX3_power_79 : decode cX3_power 79 = .ok (.aload 5, 2) := by decide +kernel
theorem dX3_power_81 : decode cX3_power 81 = .ok (.getfield 182, 3) := by decide +kernel
theorem dX3_power_84 : decode cX3_power 84 = .ok (.invokevirtual 178, 3) := by decide +kernel
theorem dX3_power_87 : decode cX3_power 87 = .ok (.dsub, 1) := by decide +kernel
theorem dX3_power_88 : decode cX3_power 88 = .ok (.dstore 6, 2) := by decide +kernel
theorem dX3_power_90 : decode cX3_power 90 = .ok (.dload_n 2, 1) := by decide +kernel
theorem dX3_power_91 : decode cX3_power 91 = .ok (.aload 5, 2) := by decide +kernel
theorem dX3_power_93 : decode cX3_power 93 = .ok (.getfield 88, 3) := by decide +kernel
theorem dX3_power_96 : decode cX3_power 96 = .ok (.i2d, 1) := by decide +kernel
theorem dX3_power_97 : decode cX3_power 97 = .ok (.dload 6, 2) := by decide +kernel
theorem dX3_power_99 : decode cX3_power 99 = .ok (.dmul, 1) := by decide +kernel
theorem dX3_power_100 : decode cX3_power 100 = .ok (.dload 6, 2) := by decide +kernel
theorem dX3_power_102 : decode cX3_power 102 = .ok (.dmul, 1) := by decide +kernel
theorem dX3_power_103 : decode cX3_power 103 = .ok (.dadd, 1) := by decide +kernel
theorem dX3_power_104 : decode cX3_power 104 = .ok (.dstore_n 2, 1) := by decide +kernel
theorem dX3_power_105 : decode cX3_power 105 = .ok (.iinc 4 1, 3) := by decide +kernel
theorem dX3_power_108 : decode cX3_power 108 = .ok (.goto (-94), 3) := by decide +kernel
theorem dX3_power_111 : decode cX3_power 111 = .ok (.dload_n 2, 1) := by decide +kernel
theorem dX3_power_112 : decode cX3_power 112 = .ok (.dreturn, 1) := by decide +kernel
theorem dX3_nextToggle_0 : decode cX3_nextToggle 0 = .ok (.iload_n 1, 1) := by decide +kernel
theorem dX3_nextToggle_1 : decode cX3_nextToggle 1 = .ok (.invokestatic 129, 3) := by decide +kernel
theorem dX3_nextToggle_4 : decode cX3_nextToggle 4 = .ok (.aload_n 0, 1) := by decide +kernel
theorem dX3_nextToggle_5 : decode cX3_nextToggle 5 = .ok (.iload_n 1, 1) := by decide +kernel
theorem dX3_nextToggle_6 : decode cX3_nextToggle 6 = .ok (.invokevirtual 185, 3) := by decide +kernel
theorem dX3_nextToggle_9 : decode cX3_nextToggle 9 = .ok (.ireturn, 1) := by decide +kernel
theorem dX3_probe_0 : decode cX3_probe 0 = .ok (.aload_n 0, 1) := by decide +kernel
theorem dX3_probe_1 : decode cX3_probe 1 = .ok (.iload_n 1, 1) := by decide +kernel
theorem dX3_probe_2 : decode cX3_probe 2 = .ok (.invokevirtual 48, 3) := by decide +kernel
theorem dX3_probe_5 : decode cX3_probe 5 = .ok (.iload_n 2, 1) := by decide +kernel
theorem dX3_probe_6 : decode cX3_probe 6 = .ok (.invokestatic 129, 3) := by decide +kernel
theorem dX3_probe_9 : decode cX3_probe 9 = .ok (.iload_n 3, 1) := by decide +kernel
theorem dX3_probe_10 : decode cX3_probe 10 = .ok (.invokestatic 129, 3) := by decide +kernel
theorem dX3_probe_13 : decode cX3_probe 13 = .ok (.iload_n 3, 1) := by decide +kernel
theorem dX3_probe_14 : decode cX3_probe 14 = .ok (.iload_n 2, 1) := by decide +kernel
theorem dX3_probe_15 : decode cX3_probe 15 = .ok (.if_icmp .ge 13, 3) := by decide +kernel
theorem dX3_probe_18 : decode cX3_probe 18 = .ok (.new 52, 3) := by decide +kernel
theorem dX3_probe_21 : decode cX3_probe 21 = .ok (.dup, 1) := by decide +kernel
theorem dX3_probe_22 : decode cX3_probe 22 = .ok (.ldc 188, 2) := by decide +kernel
theorem dX3_probe_24 : decode cX3_probe 24 = .ok (.invokespecial 56, 3) := by decide +kernel
theorem dX3_probe_27 : decode cX3_probe 27 = .ok (.athrow, 1) := by decide +kernel
theorem dX3_probe_28 : decode cX3_probe 28 = .ok (.iconst (-1), 1) := by decide +kernel
theorem dX3_probe_29 : decode cX3_probe 29 = .ok (.istore 5, 2) := by decide +kernel
theorem dX3_probe_31 : decode cX3_probe 31 = .ok (.lconst 0, 1) := by decide +kernel
theorem dX3_probe_32 : decode cX3_probe 32 = .ok (.lstore 6, 2) := by decide +kernel
theorem dX3_probe_34 : decode cX3_probe 34 = .ok (.lconst 1, 1) := by decide +kernel
theorem dX3_probe_35 : decode cX3_probe 35 = .ok (.lstore 8, 2) := by decide +kernel
theorem dX3_probe_37 : decode cX3_probe 37 = .ok (.iload_n 2, 1) := by decide +kernel
theorem dX3_probe_38 : decode cX3_probe 38 = .ok (.istore 10, 2) := by decide +kernel
theorem dX3_probe_40 : decode cX3_probe 40 = .ok (.iconst 0, 1) := by decide +kernel
theorem dX3_probe_41 : decode cX3_probe 41 = .ok (.istore 11, 2) := by decide +kernel
theorem dX3_probe_43 : decode cX3_probe 43 = .ok (.iload 11, 2) := by decide +kernel
theorem dX3_probe_45 : decode cX3_probe 45 = .ok (.sipush 999, 3) := by decide +kernel
theorem dX3_probe_48 : decode cX3_probe 48 = .ok (.if_icmp .gt 109, 3) := by decide +kernel
theorem dX3_probe_51 : decode cX3_probe 51 = .ok (.iload 10, 2) := by decide +kernel
theorem dX3_probe_53 : decode cX3_probe 53 = .ok (.ifCond .lt 104, 3) := by decide +kernel
theorem dX3_probe_56 : decode cX3_probe 56 = .ok (.iload 10, 2) := by decide +kernel
theorem dX3_probe_58 : decode cX3_probe 58 = .ok (.iload_n 3, 1) := by decide +kernel
theorem dX3_probe_59 : decode cX3_probe 59 = .ok (.if_icmp .gt 98, 3) := by decide +kernel
theorem dX3_probe_62 : decode cX3_probe 62 = .ok (.aload_n 0, 1) := by decide +kernel
theorem dX3_probe_63 : decode cX3_probe 63 = .ok (.iload 10, 2) := by decide +kernel
theorem dX3_probe_65 : decode cX3_probe 65 = .ok (.invokevirtual 141, 3) := by decide +kernel
theorem dX3_probe_68 : decode cX3_probe 68 = .ok (.aload_n 0, 1) := by decide +kernel
theorem dX3_probe_69 : decode cX3_probe 69 = .ok (.iload_n 1, 1) := by decide +kernel
theorem dX3_probe_70 : decode cX3_probe 70 = .ok (.invokevirtual 138, 3) := by decide +kernel
theorem dX3_probe_73 : decode cX3_probe 73 = .ok (.ifCond .ne 70, 3) := by decide +kernel
theorem dX3_probe_76 : decode cX3_probe 76 = .ok (.aload_n 0, 1) := by decide +kernel
theorem dX3_probe_77 : decode cX3_probe 77 = .ok (.getfield 26, 3) := by decide +kernel
theorem dX3_probe_80 : decode cX3_probe 80 = .ok (.iload_n 1, 1) := by decide +kernel
theorem dX3_probe_81 : decode cX3_probe 81 = .ok (.invokevirtual 147, 3) := by decide +kernel
theorem dX3_probe_84 : decode cX3_probe 84 = .ok (.lstore 12, 2) := by decide +kernel
theorem dX3_probe_86 : decode cX3_probe 86 = .ok (.aload_n 0, 1) := by decide +kernel
theorem dX3_probe_87 : decode cX3_probe 87 = .ok (.getfield 26, 3) := by decide +kernel
theorem dX3_probe_90 : decode cX3_probe 90 = .ok (.invokevirtual 151, 3) := by decide +kernel
theorem dX3_probe_93 : decode cX3_probe 93 = .ok (.lstore 14, 2) := by decide +kernel
theorem dX3_probe_95 : decode cX3_probe 95 = .ok (.lload 12, 2) := by decide +kernel
theorem dX3_probe_97 : decode cX3_probe 97 = .ok (.lload 14, 2) := by decide +kernel
theorem dX3_probe_99 : decode cX3_probe 99 = .ok (.lload 6, 2) := by decide +kernel
theorem dX3_probe_101 : decode cX3_probe 101 = .ok (.lload 8, 2) := by decide +kernel
theorem dX3_probe_103 : decode cX3_probe 103 = .ok (.invokestatic 190, 3) := by decide +kernel
theorem dX3_probe_106 : decode cX3_probe 106 = .ok (.istore 16, 2) := by decide +kernel
theorem dX3_probe_108 : decode cX3_probe 108 = .ok (.iload 5, 2) := by decide +kernel
theorem dX3_probe_110 : decode cX3_probe 110 = .ok (.ifCond .lt 21, 3) := by decide +kernel
theorem dX3_probe_113 : decode cX3_probe 113 = .ok (.iload 4, 2) := by decide +kernel
theorem dX3_probe_115 : decode cX3_probe 115 = .ok (.ifCond .eq 11, 3) := by decide +kernel
theorem dX3_probe_118 : decode cX3_probe 118 = .ok (.iload 16, 2) := by decide +kernel
theorem dX3_probe_120 : decode cX3_probe 120 = .ok (.ifCond .le 23, 3) := by decide +kernel
theorem dX3_probe_123 : decode cX3_probe 123 = .ok (.goto 8, 3) := by decide +kernel
theorem dX3_probe_126 : decode cX3_probe 126 = .ok (.iload 16, 2) := by decide +kernel
theorem dX3_probe_128 : decode cX3_probe 128 = .ok (.ifCond .ge 15, 3) := by decide +kernel
theorem dX3_probe_131 : decode cX3_probe 131 = .ok (.iload 10, 2) := by decide +kernel
theorem dX3_probe_133 : decode cX3_probe 133 = .ok (.istore 5, 2) := by decide +kernel
theorem dX3_probe_135 : decode cX3_probe 135 = .ok (.lload 12, 2) := by decide +kernel
theorem dX3_probe_137 : decode cX3_probe 137 = .ok (.lstore 6, 2) := by decide +kernel
theorem dX3_probe_139 : decode cX3_probe 139 = .ok (.lload 14, 2) := by decide +kernel
theorem dX3_probe_141 : decode cX3_probe 141 = .ok (.lstore 8, 2) := by decide +kernel
theorem dX3_probe_143 : decode cX3_probe 143 = .ok (.aload_n 0, 1) := by decide +kernel
theorem dX3_probe_144 : decode cX3_probe 144 = .ok (.iload 10, 2) := by decide +kernel
theorem dX3_probe_146 : decode cX3_probe 146 = .ok (.invokevirtual 185, 3) := by decide +kernel
theorem dX3_probe_149 : decode cX3_probe 149 = .ok (.istore 10, 2) := by decide +kernel
theorem dX3_probe_151 : decode cX3_probe 151 = .ok (.iinc 11 1, 3) := by decide +kernel
theorem dX3_probe_154 : decode cX3_probe 154 = .ok (.goto (-111), 3) := by decide +kernel
theorem dX3_probe_157 : decode cX3_probe 157 = .ok (.iload 5, 2) := by decide +kernel
theorem dX3_probe_159 : decode cX3_probe 159 = .ok (.ireturn, 1) := by decide +kernel
theorem dX3_compare_0 : decode cX3_compare 0 = .ok (.aload_n 0, 1) := by decide +kernel
theorem dX3_compare_1 : decode cX3_compare 1 = .ok (.iload_n 1, 1) := by decide +kernel
theorem dX3_compare_2 : decode cX3_compare 2 = .ok (.invokevirtual 48, 3) := by decide +kernel
theorem dX3_compare_5 : decode cX3_compare 5 = .ok (.iload_n 2, 1) := by decide +kernel
theorem dX3_compare_6 : decode cX3_compare 6 = .ok (.invokestatic 129, 3) := by decide +kernel
theorem dX3_compare_9 : decode cX3_compare 9 = .ok (.iload_n 3, 1) := by decide +kernel
theorem dX3_compare_10 : decode cX3_compare 10 = .ok (.sipush (-500), 3) := by decide +kernel
theorem dX3_compare_13 : decode cX3_compare 13 = .ok (.if_icmp .lt 24, 3) := by decide +kernel
theorem dX3_compare_16 : decode cX3_compare 16 = .ok (.iload_n 3, 1) := by decide +kernel
theorem dX3_compare_17 : decode cX3_compare 17 = .ok (.sipush 500, 3) := by decide +kernel
theorem dX3_compare_20 : decode cX3_compare 20 = .ok (.if_icmp .gt 17, 3) := by decide +kernel
theorem dX3_compare_23 : decode cX3_compare 23 = .ok (.iload 4, 2) := by decide +kernel
theorem dX3_compare_25 : decode cX3_compare 25 = .ok (.iconst 1, 1) := by decide +kernel
theorem dX3_compare_26 : decode cX3_compare 26 = .ok (.if_icmp .lt 11, 3) := by decide +kernel
theorem dX3_compare_29 : decode cX3_compare 29 = .ok (.iload 4, 2) := by decide +kernel
theorem dX3_compare_31 : decode cX3_compare 31 = .ok (.sipush 500, 3) := by decide +kernel
theorem dX3_compare_34 : decode cX3_compare 34 = .ok (.if_icmp .le 13, 3) := by decide +kernel
theorem dX3_compare_37 : decode cX3_compare 37 = .ok (.new 52, 3) := by decide +kernel
theorem dX3_compare_40 : decode cX3_compare 40 = .ok (.dup, 1) := by decide +kernel
theorem dX3_compare_41 : decode cX3_compare 41 = .ok (.ldc 194, 2) := by decide +kernel
theorem dX3_compare_43 : decode cX3_compare 43 = .ok (.invokespecial 56, 3) := by decide +kernel
theorem dX3_compare_46 : decode cX3_compare 46 = .ok (.athrow, 1) := by decide +kernel
theorem dX3_compare_47 : decode cX3_compare 47 = .ok (.aload_n 0, 1) := by decide +kernel
theorem dX3_compare_48 : decode cX3_compare 48 = .ok (.iload_n 2, 1) := by decide +kernel
theorem dX3_compare_49 : decode cX3_compare 49 = .ok (.invokevirtual 141, 3) := by decide +kernel
theorem dX3_compare_52 : decode cX3_compare 52 = .ok (.aload_n 0, 1) := by decide +kernel
theorem dX3_compare_53 : decode cX3_compare 53 = .ok (.iload_n 1, 1) := by decide +kernel
theorem dX3_compare_54 : decode cX3_compare 54 = .ok (.invokevirtual 144, 3) := by decide +kernel
theorem dX3_compare_57 : decode cX3_compare 57 = .ok (.aload_n 0, 1) := by decide +kernel
theorem dX3_compare_58 : decode cX3_compare 58 = .ok (.getfield 26, 3) := by decide +kernel
theorem dX3_compare_61 : decode cX3_compare 61 = .ok (.iload_n 1, 1) := by decide +kernel
theorem dX3_compare_62 : decode cX3_compare 62 = .ok (.invokevirtual 147, 3) := by decide +kernel
theorem dX3_compare_65 : decode cX3_compare 65 = .ok (.aload_n 0, 1) := by decide +kernel
theorem dX3_compare_66 : decode cX3_compare 66 = .ok (.getfield 26, 3) := by decide +kernel
theorem dX3_compare_69 : decode cX3_compare 69 = .ok (.invokevirtual 151, 3) := by decide +kernel
theorem dX3_compare_72 : decode cX3_compare 72 = .ok (.iload_n 3, 1) := by decide +kernel
theorem dX3_compare_73 : decode cX3_compare 73 = .ok (.i2l, 1) := by decide +kernel
theorem dX3_compare_74 : decode cX3_compare 74 = .ok (.iload 4, 2) := by decide +kernel
theorem dX3_compare_76 : decode cX3_compare 76 = .ok (.i2l, 1) := by decide +kernel
theorem dX3_compare_77 : decode cX3_compare 77 = .ok (.invokestatic 190, 3) := by decide +kernel
theorem dX3_compare_80 : decode cX3_compare 80 = .ok (.ireturn, 1) := by decide +kernel
theorem dX3_levels_0 : decode cX3_levels 0 = .ok (.iload_n 1, 1) := by decide +kernel
theorem dX3_levels_1 : decode cX3_levels 1 = .ok (.invokestatic 129, 3) := by decide +kernel
theorem dX3_levels_4 : decode cX3_levels 4 = .ok (.aload_n 0, 1) := by decide +kernel
theorem dX3_levels_5 : decode cX3_levels 5 = .ok (.iload_n 1, 1) := by decide +kernel
theorem dX3_levels_6 : decode cX3_levels 6 = .ok (.invokevirtual 141, 3) := by decide +kernel
theorem dX3_levels_9 : decode cX3_levels 9 = .ok (.iconst 0, 1) := by decide +kernel
theorem dX3_levels_10 : decode cX3_levels 10 = .ok (.istore_n 2, 1) := by decide +kernel
theorem dX3_levels_11 : decode cX3_levels 11 = .ok (.iconst 0, 1) := by decide +kernel
theorem dX3_levels_12 : decode cX3_levels 12 = .ok (.istore_n 3, 1) := by decide +kernel
theorem dX3_levels_13 : decode cX3_levels 13 = .ok (.iload_n 3, 1) := by decide +kernel
theorem dX3_levels_14 : decode cX3_levels 14 = .ok (.aload_n 0, 1) := by decide +kernel
theorem dX3_levels_15 : decode cX3_levels 15 = .ok (.getfield 12, 3) := by decide +kernel
theorem dX3_levels_18 : decode cX3_levels 18 = .ok (.invokevirtual 30, 3) := by decide +kernel
theorem dX3_levels_21 : decode cX3_levels 21 = .ok (.if_icmp .ge 28, 3) := by decide +kernel
theorem dX3_levels_24 : decode cX3_levels 24 = .ok (.aload_n 0, 1) := by decide +kernel
theorem dX3_levels_25 : decode cX3_levels 25 = .ok (.iload_n 3, 1) := by decide +kernel
theorem dX3_levels_26 : decode cX3_levels 26 = .ok (.invokevirtual 138, 3) := by decide +kernel
theorem dX3_levels_29 : decode cX3_levels 29 = .ok (.ifCond .ne 14, 3) := by decide +kernel
theorem dX3_levels_32 : decode cX3_levels 32 = .ok (.aload_n 0, 1) := by decide +kernel
theorem dX3_levels_33 : decode cX3_levels 33 = .ok (.iload_n 3, 1) := by decide +kernel
theorem dX3_levels_34 : decode cX3_levels 34 = .ok (.invokevirtual 196, 3) := by decide +kernel
theorem dX3_levels_37 : decode cX3_levels 37 = .ok (.ifCond .eq 6, 3) := by decide +kernel
theorem dX3_levels_40 : decode cX3_levels 40 = .ok (.iinc 2 1, 3) := by decide +kernel
theorem dX3_levels_43 : decode cX3_levels 43 = .ok (.iinc 3 1, 3) := by decide +kernel
theorem dX3_levels_46 : decode cX3_levels 46 = .ok (.goto (-33), 3) := by decide +kernel
theorem dX3_levels_49 : decode cX3_levels 49 = .ok (.iload_n 2, 1) := by decide +kernel
theorem dX3_levels_50 : decode cX3_levels 50 = .ok (.ireturn, 1) := by decide +kernel
theorem dX3_digest_0 : decode cX3_digest 0 = .ok (.aload_n 0, 1) := by decide +kernel
theorem dX3_digest_1 : decode cX3_digest 1 = .ok (.ldc2_w 199, 3) := by decide +kernel
theorem dX3_digest_4 : decode cX3_digest 4 = .ok (.invokevirtual 201, 3) := by decide +kernel
theorem dX3_digest_7 : decode cX3_digest 7 = .ok (.lstore_n 1, 1) := by decide +kernel
theorem dX3_digest_8 : decode cX3_digest 8 = .ok (.aload_n 0, 1) := by decide +kernel
theorem dX3_digest_9 : decode cX3_digest 9 = .ok (.lload_n 1, 1) := by decide +kernel
theorem dX3_digest_10 : decode cX3_digest 10 = .ok (.iconst 0, 1) := by decide +kernel
theorem dX3_digest_11 : decode cX3_digest 11 = .ok (.invokevirtual 205, 3) := by decide +kernel
theorem dX3_digest_14 : decode cX3_digest 14 = .ok (.lstore_n 1, 1) := by decide +kernel
theorem dX3_digest_15 : decode cX3_digest 15 = .ok (.aload_n 0, 1) := by decide +kernel
theorem dX3_digest_16 : decode cX3_digest 16 = .ok (.iconst 0, 1) := by decide +kernel
theorem dX3_digest_17 : decode cX3_digest 17 = .ok (.invokevirtual 185, 3) := by decide +kernel
theorem dX3_digest_20 : decode cX3_digest 20 = .ok (.istore_n 3, 1) := by decide +kernel
theorem dX3_digest_21 : decode cX3_digest 21 = .ok (.iload_n 3, 1) := by decide +kernel
theorem dX3_digest_22 : decode cX3_digest 22 = .ok (.ifCond .ge 7, 3) := by decide +kernel
theorem dX3_digest_25 : decode cX3_digest 25 = .ok (.lload_n 1, 1) := by decide +kernel
theorem dX3_digest_26 : decode cX3_digest 26 = .ok (.goto 9, 3) := by decide +kernel
theorem dX3_digest_29 : decode cX3_digest 29 = .ok (.aload_n 0, 1) := by decide +kernel
theorem dX3_digest_30 : decode cX3_digest 30 = .ok (.lload_n 1, 1) := by decide +kernel
theorem dX3_digest_31 : decode cX3_digest 31 = .ok (.iload_n 3, 1) := by decide +kernel
theorem dX3_digest_32 : decode cX3_digest 32 = .ok (.invokevirtual 205, 3) := by decide +kernel
theorem dX3_digest_35 : decode cX3_digest 35 = .ok (.lreturn, 1) := by decide +kernel
theorem dX3_checkNode_0 : decode cX3_checkNode 0 = .ok (.iload_n 1, 1) := by decide +kernel
theorem dX3_checkNode_1 : decode cX3_checkNode 1 = .ok (.ifCond .lt 14, 3) := by decide +kernel
theorem dX3_checkNode_4 : decode cX3_checkNode 4 = .ok (.iload_n 1, 1) := by decide +kernel
theorem dX3_checkNode_5 : decode cX3_checkNode 5 = .ok (.aload_n 0, 1) := by decide +kernel
theorem dX3_checkNode_6 : decode cX3_checkNode 6 = .ok (.getfield 12, 3) := by decide +kernel
theorem dX3_checkNode_9 : decode cX3_checkNode 9 = .ok (.invokevirtual 30, 3) := by decide +kernel
theorem dX3_checkNode_12 : decode cX3_checkNode 12 = .ok (.if_icmp .lt 13, 3) := by decide +kernel
theorem dX3_checkNode_15 : decode cX3_checkNode 15 = .ok (.new 110, 3) := by decide +kernel
theorem dX3_checkNode_18 : decode cX3_checkNode 18 = .ok (.dup, 1) := by decide +kernel
theorem dX3_checkNode_19 : decode cX3_checkNode 19 = .ok (.ldc 209, 2) := by decide +kernel
theorem dX3_checkNode_21 : decode cX3_checkNode 21 = .ok (.invokespecial 114, 3) := by decide +kernel
theorem dX3_checkNode_24 : decode cX3_checkNode 24 = .ok (.athrow, 1) := by decide +kernel
theorem dX3_checkNode_25 : decode cX3_checkNode 25 = .ok (.return_, 1) := by decide +kernel
theorem dX3_checkElement_0 : decode cX3_checkElement 0 = .ok (.iload_n 1, 1) := by decide +kernel
theorem dX3_checkElement_1 : decode cX3_checkElement 1 = .ok (.ifCond .lt 14, 3) := by decide +kernel
theorem dX3_checkElement_4 : decode cX3_checkElement 4 = .ok (.iload_n 1, 1) := by decide +kernel
theorem dX3_checkElement_5 : decode cX3_checkElement 5 = .ok (.aload_n 0, 1) := by decide +kernel
theorem dX3_checkElement_6 : decode cX3_checkElement 6 = .ok (.getfield 16, 3) := by decide +kernel
theorem dX3_checkElement_9 : decode cX3_checkElement 9 = .ok (.invokevirtual 30, 3) := by decide +kernel
theorem dX3_checkElement_12 : decode cX3_checkElement 12 = .ok (.if_icmp .lt 13, 3) := by decide +kernel
theorem dX3_checkElement_15 : decode cX3_checkElement 15 = .ok (.new 110, 3) := by decide +kernel
theorem dX3_checkElement_18 : decode cX3_checkElement 18 = .ok (.dup, 1) := by decide +kernel
theorem dX3_checkElement_19 : decode cX3_checkElement 19 = .ok (.ldc 211, 2) := by decide +kernel
theorem dX3_checkElement_21 : decode cX3_checkElement 21 = .ok (.invokespecial 114, 3) := by decide +kernel
theorem dX3_checkElement_24 : decode cX3_checkElement 24 = .ok (.athrow, 1) := by decide +kernel
theorem dX3_checkElement_25 : decode cX3_checkElement 25 = .ok (.return_, 1) := by decide +kernel
theorem dX3_checkTime_0 : decode cX3_checkTime 0 = .ok (.iload_n 0, 1) := by decide +kernel
theorem dX3_checkTime_1 : decode cX3_checkTime 1 = .ok (.ifCond .lt 10, 3) := by decide +kernel
theorem dX3_checkTime_4 : decode cX3_checkTime 4 = .ok (.iload_n 0, 1) := by decide +kernel
theorem dX3_checkTime_5 : decode cX3_checkTime 5 = .ok (.sipush 999, 3) := by decide +kernel
theorem dX3_checkTime_8 : decode cX3_checkTime 8 = .ok (.if_icmp .le 13, 3) := by decide +kernel
theorem dX3_checkTime_11 : decode cX3_checkTime 11 = .ok (.new 52, 3) := by decide +kernel
theorem dX3_checkTime_14 : decode cX3_checkTime 14 = .ok (.dup, 1) := by decide +kernel
theorem dX3_checkTime_15 : decode cX3_checkTime 15 = .ok (.ldc 213, 2) := by decide +kernel
theorem dX3_checkTime_17 : decode cX3_checkTime 17 = .ok (.invokespecial 56, 3) := by decide +kernel
theorem dX3_checkTime_20 : decode cX3_checkTime 20 = .ok (.athrow, 1) := by decide +kernel
theorem dX3_checkTime_21 : decode cX3_checkTime 21 = .ok (.return_, 1) := by decide +kernel
theorem dX3_checkSize_0 : decode cX3_checkSize 0 = .ok (.iload_n 0, 1) := by decide +kernel
theorem dX3_checkSize_1 : decode cX3_checkSize 1 = .ok (.ifCond .eq 8, 3) := by decide +kernel
theorem dX3_checkSize_4 : decode cX3_checkSize 4 = .ok (.bipush (-99), 2) := by decide +kernel
theorem dX3_checkSize_6 : decode cX3_checkSize 6 = .ok (.goto 4, 3) := by decide +kernel
theorem dX3_checkSize_9 : decode cX3_checkSize 9 = .ok (.iconst 1, 1) := by decide +kernel
theorem dX3_checkSize_10 : decode cX3_checkSize 10 = .ok (.istore_n 2, 1) := by decide +kernel
theorem dX3_checkSize_11 : decode cX3_checkSize 11 = .ok (.iload_n 0, 1) := by decide +kernel
theorem dX3_checkSize_12 : decode cX3_checkSize 12 = .ok (.ifCond .eq 8, 3) := by decide +kernel
theorem dX3_checkSize_15 : decode cX3_checkSize 15 = .ok (.bipush 99, 2) := by decide +kernel
theorem dX3_checkSize_17 : decode cX3_checkSize 17 = .ok (.goto 5, 3) := by decide +kernel
theorem dX3_checkSize_20 : decode cX3_checkSize 20 = .ok (.bipush 9, 2) := by decide +kernel
theorem dX3_checkSize_22 : decode cX3_checkSize 22 = .ok (.istore_n 3, 1) := by decide +kernel
theorem dX3_checkSize_23 : decode cX3_checkSize 23 = .ok (.iload_n 1, 1) := by decide +kernel
theorem dX3_checkSize_24 : decode cX3_checkSize 24 = .ok (.iload_n 2, 1) := by decide +kernel
theorem dX3_checkSize_25 : decode cX3_checkSize 25 = .ok (.if_icmp .lt 8, 3) := by decide +kernel
theorem dX3_checkSize_28 : decode cX3_checkSize 28 = .ok (.iload_n 1, 1) := by decide +kernel
theorem dX3_checkSize_29 : decode cX3_checkSize 29 = .ok (.iload_n 3, 1) := by decide +kernel
theorem dX3_checkSize_30 : decode cX3_checkSize 30 = .ok (.if_icmp .le 13, 3) := by decide +kernel
theorem dX3_checkSize_33 : decode cX3_checkSize 33 = .ok (.new 52, 3) := by decide +kernel
theorem dX3_checkSize_36 : decode cX3_checkSize 36 = .ok (.dup, 1) := by decide +kernel
theorem dX3_checkSize_37 : decode cX3_checkSize 37 = .ok (.ldc 215, 2) := by decide +kernel
theorem dX3_checkSize_39 : decode cX3_checkSize 39 = .ok (.invokespecial 56, 3) := by decide +kernel
theorem dX3_checkSize_42 : decode cX3_checkSize 42 = .ok (.athrow, 1) := by decide +kernel
theorem dX3_checkSize_43 : decode cX3_checkSize 43 = .ok (.return_, 1) := by decide +kernel
theorem dX3_checkGrounded_0 : decode cX3_checkGrounded 0 = .ok (.aload_n 0, 1) := by decide +kernel
theorem dX3_checkGrounded_1 : decode cX3_checkGrounded 1 = .ok (.iload_n 1, 1) := by decide +kernel
theorem dX3_checkGrounded_2 : decode cX3_checkGrounded 2 = .ok (.invokevirtual 138, 3) := by decide +kernel
theorem dX3_checkGrounded_5 : decode cX3_checkGrounded 5 = .ok (.ifCond .eq 13, 3) := by decide +kernel
theorem dX3_checkGrounded_8 : decode cX3_checkGrounded 8 = .ok (.new 34, 3) := by decide +kernel
theorem dX3_checkGrounded_11 : decode cX3_checkGrounded 11 = .ok (.dup, 1) := by decide +kernel
theorem dX3_checkGrounded_12 : decode cX3_checkGrounded 12 = .ok (.ldc 217, 2) := by decide +kernel
theorem dX3_checkGrounded_14 : decode cX3_checkGrounded 14 = .ok (.invokespecial 38, 3) := by decide +kernel
theorem dX3_checkGrounded_17 : decode cX3_checkGrounded 17 = .ok (.athrow, 1) := by decide +kernel
theorem dX3_checkGrounded_18 : decode cX3_checkGrounded 18 = .ok (.return_, 1) := by decide +kernel
theorem dX3_group_0 : decode cX3_group 0 = .ok (.iconst 0, 1) := by decide +kernel
theorem dX3_group_1 : decode cX3_group 1 = .ok (.istore_n 2, 1) := by decide +kernel
theorem dX3_group_2 : decode cX3_group 2 = .ok (.iload_n 2, 1) := by decide +kernel
theorem dX3_group_3 : decode cX3_group 3 = .ok (.bipush 8, 2) := by decide +kernel
theorem dX3_group_5 : decode cX3_group 5 = .ok (.if_icmp .ge 18, 3) := by decide +kernel
theorem dX3_group_8 : decode cX3_group 8 = .ok (.aload_n 0, 1) := by decide +kernel
theorem dX3_group_9 : decode cX3_group 9 = .ok (.getfield 19, 3) := by decide +kernel
theorem dX3_group_12 : decode cX3_group 12 = .ok (.iload_n 2, 1) := by decide +kernel
theorem dX3_group_13 : decode cX3_group 13 = .ok (.iconst 1, 1) := by decide +kernel
theorem dX3_group_14 : decode cX3_group 14 = .ok (.iload_n 2, 1) := by decide +kernel
theorem dX3_group_15 : decode cX3_group 15 = .ok (.ishl, 1) := by decide +kernel
theorem dX3_group_16 : decode cX3_group 16 = .ok (.iastore, 1) := by decide +kernel
theorem dX3_group_17 : decode cX3_group 17 = .ok (.iinc 2 1, 3) := by decide +kernel
theorem dX3_group_20 : decode cX3_group 20 = .ok (.goto (-18), 3) := by decide +kernel
theorem dX3_group_23 : decode cX3_group 23 = .ok (.iconst 0, 1) := by decide +kernel
theorem dX3_group_24 : decode cX3_group 24 = .ok (.istore_n 2, 1) := by decide +kernel
theorem dX3_group_25 : decode cX3_group 25 = .ok (.iload_n 2, 1) := by decide +kernel
theorem dX3_group_26 : decode cX3_group 26 = .ok (.aload_n 0, 1) := by decide +kernel
theorem dX3_group_27 : decode cX3_group 27 = .ok (.getfield 16, 3) := by decide +kernel
theorem dX3_group_30 : decode cX3_group 30 = .ok (.invokevirtual 30, 3) := by decide +kernel
theorem dX3_group_33 : decode cX3_group 33 = .ok (.if_icmp .ge 59, 3) := by decide +kernel
theorem dX3_group_36 : decode cX3_group 36 = .ok (.aload_n 0, 1) := by decide +kernel
theorem dX3_group_37 : decode cX3_group 37 = .ok (.getfield 16, 3) := by decide +kernel
theorem dX3_group_40 : decode cX3_group 40 = .ok (.iload_n 2, 1) := by decide +kernel
theorem dX3_group_41 : decode cX3_group 41 = .ok (.invokevirtual 57, 3) := by decide +kernel
theorem dX3_group_44 : decode cX3_group 44 = .ok (.checkcast 77, 3) := by decide +kernel
theorem dX3_group_47 : decode cX3_group 47 = .ok (.astore_n 3, 1) := by decide +kernel
theorem dX3_group_48 : decode cX3_group 48 = .ok (.aload_n 3, 1) := by decide +kernel
theorem dX3_group_49 : decode cX3_group 49 = .ok (.getfield 85, 3) := by decide +kernel
theorem dX3_group_52 : decode cX3_group 52 = .ok (.ifCond .ne 34, 3) := by decide +kernel
theorem dX3_group_55 : decode cX3_group 55 = .ok (.aload_n 3, 1) := by decide +kernel
theorem dX3_group_56 : decode cX3_group 56 = .ok (.iload_n 1, 1) := by decide +kernel
theorem dX3_group_57 : decode cX3_group 57 = .ok (.invokevirtual 132, 3) := by decide +kernel
theorem dX3_group_60 : decode cX3_group 60 = .ok (.ifCond .eq 26, 3) := by decide +kernel
theorem dX3_group_63 : decode cX3_group 63 = .ok (.aload_n 0, 1) := by decide +kernel
theorem dX3_group_64 : decode cX3_group 64 = .ok (.aload_n 0, 1) := by decide +kernel
theorem dX3_group_65 : decode cX3_group 65 = .ok (.getfield 19, 3) := by decide +kernel
theorem dX3_group_68 : decode cX3_group 68 = .ok (.aload_n 3, 1) := by decide +kernel
theorem dX3_group_69 : decode cX3_group 69 = .ok (.getfield 159, 3) := by decide +kernel
theorem dX3_group_72 : decode cX3_group 72 = .ok (.iaload, 1) := by decide +kernel
theorem dX3_group_73 : decode cX3_group 73 = .ok (.aload_n 0, 1) := by decide +kernel
theorem dX3_group_74 : decode cX3_group 74 = .ok (.getfield 19, 3) := by decide +kernel
theorem dX3_group_77 : decode cX3_group 77 = .ok (.aload_n 3, 1) := by decide +kernel
theorem dX3_group_78 : decode cX3_group 78 = .ok (.getfield 182, 3) := by decide +kernel
theorem dX3_group_81 : decode cX3_group 81 = .ok (.iaload, 1) := by decide +kernel
theorem dX3_group_82 : decode cX3_group 82 = .ok (.ior, 1) := by decide +kernel
theorem dX3_group_83 : decode cX3_group 83 = .ok (.invokevirtual 219, 3) := by decide +kernel
theorem dX3_group_86 : decode cX3_group 86 = .ok (.iinc 2 1, 3) := by decide +kernel
theorem dX3_group_89 : decode cX3_group 89 = .ok (.goto (-64), 3) := by decide +kernel
theorem dX3_group_92 : decode cX3_group 92 = .ok (.return_, 1) := by decide +kernel
theorem dX3_join_0 : decode cX3_join 0 = .ok (.iconst 0, 1) := by decide +kernel
theorem dX3_join_1 : decode cX3_join 1 = .ok (.istore_n 2, 1) := by decide +kernel
theorem dX3_join_2 : decode cX3_join 2 = .ok (.iload_n 2, 1) := by decide +kernel
theorem dX3_join_3 : decode cX3_join 3 = .ok (.bipush 8, 2) := by decide +kernel
theorem dX3_join_5 : decode cX3_join 5 = .ok (.if_icmp .ge 24, 3) := by decide +kernel
theorem dX3_join_8 : decode cX3_join 8 = .ok (.iload_n 1, 1) := by decide +kernel
theorem dX3_join_9 : decode cX3_join 9 = .ok (.iload_n 2, 1) := by decide +kernel
theorem dX3_join_10 : decode cX3_join 10 = .ok (.invokestatic 168, 3) := by decide +kernel
theorem dX3_join_13 : decode cX3_join 13 = .ok (.ifCond .eq 10, 3) := by decide +kernel
theorem dX3_join_16 : decode cX3_join 16 = .ok (.aload_n 0, 1) := by decide +kernel
theorem dX3_join_17 : decode cX3_join 17 = .ok (.getfield 19, 3) := by decide +kernel
theorem dX3_join_20 : decode cX3_join 20 = .ok (.iload_n 2, 1) := by decide +kernel
theorem dX3_join_21 : decode cX3_join 21 = .ok (.iload_n 1, 1) := by decide +kernel
theorem dX3_join_22 : decode cX3_join 22 = .ok (.iastore, 1) := by decide +kernel
theorem dX3_join_23 : decode cX3_join 23 = .ok (.iinc 2 1, 3) := by decide +kernel
theorem dX3_join_26 : decode cX3_join 26 = .ok (.goto (-24), 3) := by decide +kernel
theorem dX3_join_29 : decode cX3_join 29 = .ok (.return_, 1) := by decide +kernel
theorem dX3_isAfloat_0 : decode cX3_isAfloat 0 = .ok (.iconst 0, 1) := by decide +kernel
theorem dX3_isAfloat_1 : decode cX3_isAfloat 1 = .ok (.istore_n 2, 1) := by decide +kernel
theorem dX3_isAfloat_2 : decode cX3_isAfloat 2 = .ok (.iload_n 2, 1) := by decide +kernel
theorem dX3_isAfloat_3 : decode cX3_isAfloat 3 = .ok (.aload_n 0, 1) := by decide +kernel
theorem dX3_isAfloat_4 : decode cX3_isAfloat 4 = .ok (.getfield 12, 3) := by decide +kernel
theorem dX3_isAfloat_7 : decode cX3_isAfloat 7 = .ok (.invokevirtual 30, 3) := by decide +kernel
theorem dX3_isAfloat_10 : decode cX3_isAfloat 10 = .ok (.if_icmp .ge 41, 3) := by decide +kernel
theorem dX3_isAfloat_13 : decode cX3_isAfloat 13 = .ok (.aload_n 0, 1) := by decide +kernel
theorem dX3_isAfloat_14 : decode cX3_isAfloat 14 = .ok (.getfield 12, 3) := by decide +kernel
theorem dX3_isAfloat_17 : decode cX3_isAfloat 17 = .ok (.iload_n 2, 1) := by decide +kernel
theorem dX3_isAfloat_18 : decode cX3_isAfloat 18 = .ok (.invokevirtual 57, 3) := by decide +kernel
theorem dX3_isAfloat_21 : decode cX3_isAfloat 21 = .ok (.checkcast 41, 3) := by decide +kernel
theorem dX3_isAfloat_24 : decode cX3_isAfloat 24 = .ok (.getfield 61, 3) := by decide +kernel
theorem dX3_isAfloat_27 : decode cX3_isAfloat 27 = .ok (.ifCond .eq 18, 3) := by decide +kernel
theorem dX3_isAfloat_30 : decode cX3_isAfloat 30 = .ok (.aload_n 0, 1) := by decide +kernel
theorem dX3_isAfloat_31 : decode cX3_isAfloat 31 = .ok (.getfield 19, 3) := by decide +kernel
theorem dX3_isAfloat_34 : decode cX3_isAfloat 34 = .ok (.iload_n 1, 1) := by decide +kernel
theorem dX3_isAfloat_35 : decode cX3_isAfloat 35 = .ok (.iaload, 1) := by decide +kernel
theorem dX3_isAfloat_36 : decode cX3_isAfloat 36 = .ok (.iload_n 2, 1) := by decide +kernel
theorem dX3_isAfloat_37 : decode cX3_isAfloat 37 = .ok (.invokestatic 168, 3) := by decide +kernel
theorem dX3_isAfloat_40 : decode cX3_isAfloat 40 = .ok (.ifCond .eq 5, 3) := by decide +kernel
theorem dX3_isAfloat_43 : decode cX3_isAfloat 43 = .ok (.iconst 0, 1) := by decide +kernel
theorem dX3_isAfloat_44 : decode cX3_isAfloat 44 = .ok (.ireturn, 1) := by decide +kernel
theorem dX3_isAfloat_45 : decode cX3_isAfloat 45 = .ok (.iinc 2 1, 3) := by decide +kernel
theorem dX3_isAfloat_48 : decode cX3_isAfloat 48 = .ok (.goto (-46), 3) := by decide +kernel
theorem dX3_isAfloat_51 : decode cX3_isAfloat 51 = .ok (.iconst 1, 1) := by decide +kernel
theorem dX3_isAfloat_52 : decode cX3_isAfloat 52 = .ok (.ireturn, 1) := by decide +kernel
theorem dX3_contains_0 : decode cX3_contains 0 = .ok (.iload_n 0, 1) := by decide +kernel
theorem dX3_contains_1 : decode cX3_contains 1 = .ok (.iload_n 1, 1) := by decide +kernel
theorem dX3_contains_2 : decode cX3_contains 2 = .ok (.ishr, 1) := by decide +kernel
theorem dX3_contains_3 : decode cX3_contains 3 = .ok (.iconst 1, 1) := by decide +kernel
theorem dX3_contains_4 : decode cX3_contains 4 = .ok (.iand, 1) := by decide +kernel
theorem dX3_contains_5 : decode cX3_contains 5 = .ok (.ifCond .eq 7, 3) := by decide +kernel
theorem dX3_contains_8 : decode cX3_contains 8 = .ok (.iconst 1, 1) := by decide +kernel
theorem dX3_contains_9 : decode cX3_contains 9 = .ok (.goto 4, 3) := by decide +kernel
theorem dX3_contains_12 : decode cX3_contains 12 = .ok (.iconst 0, 1) := by decide +kernel
theorem dX3_contains_13 : decode cX3_contains 13 = .ok (.ireturn, 1) := by decide +kernel
theorem dX3_settle_0 : decode cX3_settle 0 = .ok (.aload_n 0, 1) := by decide +kernel
theorem dX3_settle_1 : decode cX3_settle 1 = .ok (.iload_n 1, 1) := by decide +kernel
theorem dX3_settle_2 : decode cX3_settle 2 = .ok (.invokevirtual 135, 3) := by decide +kernel
theorem dX3_settle_5 : decode cX3_settle 5 = .ok (.aload_n 0, 1) := by decide +kernel
theorem dX3_settle_6 : decode cX3_settle 6 = .ok (.getfield 26, 3) := by decide +kernel
theorem dX3_settle_9 : decode cX3_settle 9 = .ok (.invokevirtual 222, 3) := by decide +kernel
theorem dX3_settle_12 : decode cX3_settle 12 = .ok (.iconst 0, 1) := by decide +kernel
theorem dX3_settle_13 : decode cX3_settle 13 = .ok (.istore_n 2, 1) := by decide +kernel
theorem dX3_settle_14 : decode cX3_settle 14 = .ok (.iload_n 2, 1) := by decide +kernel
theorem dX3_settle_15 : decode cX3_settle 15 = .ok (.aload_n 0, 1) := by decide +kernel
theorem dX3_settle_16 : decode cX3_settle 16 = .ok (.getfield 12, 3) := by decide +kernel
theorem dX3_settle_19 : decode cX3_settle 19 = .ok (.invokevirtual 30, 3) := by decide +kernel
theorem dX3_settle_22 : decode cX3_settle 22 = .ok (.if_icmp .ge 60, 3) := by decide +kernel
theorem dX3_settle_25 : decode cX3_settle 25 = .ok (.aload_n 0, 1) := by decide +kernel
theorem dX3_settle_26 : decode cX3_settle 26 = .ok (.getfield 12, 3) := by decide +kernel
theorem dX3_settle_29 : decode cX3_settle 29 = .ok (.iload_n 2, 1) := by decide +kernel
theorem dX3_settle_30 : decode cX3_settle 30 = .ok (.invokevirtual 57, 3) := by decide +kernel
theorem dX3_settle_33 : decode cX3_settle 33 = .ok (.checkcast 41, 3) := by decide +kernel
theorem dX3_settle_36 : decode cX3_settle 36 = .ok (.astore_n 3, 1) := by decide +kernel
theorem dX3_settle_37 : decode cX3_settle 37 = .ok (.aload_n 3, 1) := by decide +kernel
theorem dX3_settle_38 : decode cX3_settle 38 = .ok (.getfield 61, 3) := by decide +kernel
theorem dX3_settle_41 : decode cX3_settle 41 = .ok (.ifCond .eq 19, 3) := by decide +kernel
theorem dX3_settle_44 : decode cX3_settle 44 = .ok (.aload_n 0, 1) := by decide +kernel
theorem dX3_settle_45 : decode cX3_settle 45 = .ok (.getfield 26, 3) := by decide +kernel
theorem dX3_settle_48 : decode cX3_settle 48 = .ok (.iload_n 2, 1) := by decide +kernel
theorem dX3_settle_49 : decode cX3_settle 49 = .ok (.aload_n 3, 1) := by decide +kernel
theorem dX3_settle_50 : decode cX3_settle 50 = .ok (.getfield 65, 3) := by decide +kernel
theorem dX3_settle_53 : decode cX3_settle 53 = .ok (.i2l, 1) := by decide +kernel
theorem dX3_settle_54 : decode cX3_settle 54 = .ok (.invokevirtual 225, 3) := by decide +kernel
theorem dX3_settle_57 : decode cX3_settle 57 = .ok (.goto 19, 3) := by decide +kernel
theorem dX3_settle_60 : decode cX3_settle 60 = .ok (.aload_n 0, 1) := by decide +kernel
theorem dX3_settle_61 : decode cX3_settle 61 = .ok (.iload_n 2, 1) := by decide +kernel
theorem dX3_settle_62 : decode cX3_settle 62 = .ok (.invokevirtual 138, 3) := by decide +kernel
theorem dX3_settle_65 : decode cX3_settle 65 = .ok (.ifCond .ne 11, 3) := by decide +kernel
theorem dX3_settle_68 : decode cX3_settle 68 = .ok (.aload_n 0, 1) := by decide +kernel
theorem dX3_settle_69 : decode cX3_settle 69 = .ok (.getfield 26, 3) := by decide +kernel
theorem dX3_settle_72 : decode cX3_settle 72 = .ok (.iload_n 2, 1) := by decide +kernel
theorem dX3_settle_73 : decode cX3_settle 73 = .ok (.invokevirtual 229, 3) := by decide +kernel
theorem dX3_settle_76 : decode cX3_settle 76 = .ok (.iinc 2 1, 3) := by decide +kernel
theorem dX3_settle_79 : decode cX3_settle 79 = .ok (.goto (-65), 3) := by decide +kernel
theorem dX3_settle_82 : decode cX3_settle 82 = .ok (.iconst 0, 1) := by decide +kernel
theorem dX3_settle_83 : decode cX3_settle 83 = .ok (.istore_n 2, 1) := by decide +kernel
theorem dX3_settle_84 : decode cX3_settle 84 = .ok (.iload_n 2, 1) := by decide +kernel
theorem dX3_settle_85 : decode cX3_settle 85 = .ok (.aload_n 0, 1) := by decide +kernel
theorem dX3_settle_86 : decode cX3_settle 86 = .ok (.getfield 16, 3) := by decide +kernel
theorem dX3_settle_89 : decode cX3_settle 89 = .ok (.invokevirtual 30, 3) := by decide +kernel
theorem dX3_settle_92 : decode cX3_settle 92 = .ok (.if_icmp .ge 69, 3) := by decide +kernel
theorem dX3_settle_95 : decode cX3_settle 95 = .ok (.aload_n 0, 1) := by decide +kernel
theorem dX3_settle_96 : decode cX3_settle 96 = .ok (.getfield 16, 3) := by decide +kernel
theorem dX3_settle_99 : decode cX3_settle 99 = .ok (.iload_n 2, 1) := by decide +kernel
theorem dX3_settle_100 : decode cX3_settle 100 = .ok (.invokevirtual 57, 3) := by decide +kernel
theorem dX3_settle_103 : decode cX3_settle 103 = .ok (.checkcast 77, 3) := by decide +kernel
theorem dX3_settle_106 : decode cX3_settle 106 = .ok (.astore_n 3, 1) := by decide +kernel
theorem dX3_settle_107 : decode cX3_settle 107 = .ok (.aload_n 3, 1) := by decide +kernel
theorem dX3_settle_108 : decode cX3_settle 108 = .ok (.getfield 85, 3) := by decide +kernel
theorem dX3_settle_111 : decode cX3_settle 111 = .ok (.ifCond .eq 44, 3) := by decide +kernel
theorem dX3_settle_114 : decode cX3_settle 114 = .ok (.aload_n 3, 1) := by decide +kernel
theorem dX3_settle_115 : decode cX3_settle 115 = .ok (.iload_n 1, 1) := by decide +kernel
theorem dX3_settle_116 : decode cX3_settle 116 = .ok (.invokevirtual 132, 3) := by decide +kernel
theorem dX3_settle_119 : decode cX3_settle 119 = .ok (.ifCond .eq 36, 3) := by decide +kernel
theorem dX3_settle_122 : decode cX3_settle 122 = .ok (.aload_n 0, 1) := by decide +kernel
theorem dX3_settle_123 : decode cX3_settle 123 = .ok (.getfield 26, 3) := by decide +kernel
theorem dX3_settle_126 : decode cX3_settle 126 = .ok (.aload_n 3, 1) := by decide +kernel
theorem dX3_settle_127 : decode cX3_settle 127 = .ok (.getfield 159, 3) := by decide +kernel
theorem dX3_settle_130 : decode cX3_settle 130 = .ok (.aload_n 3, 1) := by decide +kernel
theorem dX3_settle_131 : decode cX3_settle 131 = .ok (.getfield 88, 3) := by decide +kernel
theorem dX3_settle_134 : decode cX3_settle 134 = .ok (.ineg, 1) := by decide +kernel
theorem dX3_settle_135 : decode cX3_settle 135 = .ok (.i2l, 1) := by decide +kernel
theorem dX3_settle_136 : decode cX3_settle 136 = .ok (.invokevirtual 232, 3) := by decide +kernel
theorem dX3_settle_139 : decode cX3_settle 139 = .ok (.aload_n 0, 1) := by decide +kernel
theorem dX3_settle_140 : decode cX3_settle 140 = .ok (.getfield 26, 3) := by decide +kernel
theorem dX3_settle_143 : decode cX3_settle 143 = .ok (.aload_n 3, 1) := by decide +kernel
theorem dX3_settle_144 : decode cX3_settle 144 = .ok (.getfield 182, 3) := by decide +kernel
theorem dX3_settle_147 : decode cX3_settle 147 = .ok (.aload_n 3, 1) := by decide +kernel
theorem dX3_settle_148 : decode cX3_settle 148 = .ok (.getfield 88, 3) := by decide +kernel
theorem dX3_settle_151 : decode cX3_settle 151 = .ok (.i2l, 1) := by decide +kernel
theorem dX3_settle_152 : decode cX3_settle 152 = .ok (.invokevirtual 232, 3) := by decide +kernel
theorem dX3_settle_155 : decode cX3_settle 155 = .ok (.iinc 2 1, 3) := by decide +kernel
theorem dX3_settle_158 : decode cX3_settle 158 = .ok (.goto (-74), 3) := by decide +kernel
theorem dX3_settle_161 : decode cX3_settle 161 = .ok (.aload_n 0, 1) := by decide +kernel
theorem dX3_settle_162 : decode cX3_settle 162 = .ok (.iload_n 1, 1) := by decide +kernel
theorem dX3_settle_163 : decode cX3_settle 163 = .ok (.invokevirtual 235, 3) := by decide +kernel
theorem dX3_settle_166 : decode cX3_settle 166 = .ok (.aload_n 0, 1) := by decide +kernel
theorem dX3_settle_167 : decode cX3_settle 167 = .ok (.getfield 26, 3) := by decide +kernel
theorem dX3_settle_170 : decode cX3_settle 170 = .ok (.invokevirtual 238, 3) := by decide +kernel
theorem dX3_settle_173 : decode cX3_settle 173 = .ok (.return_, 1) := by decide +kernel
theorem dX3_drive_0 : decode cX3_drive 0 = .ok (.aload_n 0, 1) := by decide +kernel
theorem dX3_drive_1 : decode cX3_drive 1 = .ok (.getfield 26, 3) := by decide +kernel
theorem dX3_drive_4 : decode cX3_drive 4 = .ok (.invokevirtual 222, 3) := by decide +kernel
theorem dX3_drive_7 : decode cX3_drive 7 = .ok (.iconst 0, 1) := by decide +kernel
theorem dX3_drive_8 : decode cX3_drive 8 = .ok (.istore 4, 2) := by decide +kernel
theorem dX3_drive_10 : decode cX3_drive 10 = .ok (.iload 4, 2) := by decide +kernel
theorem dX3_drive_12 : decode cX3_drive 12 = .ok (.aload_n 0, 1) := by decide +kernel
theorem dX3_drive_13 : decode cX3_drive 13 = .ok (.getfield 12, 3) := by decide +kernel
theorem dX3_drive_16 : decode cX3_drive 16 = .ok (.invokevirtual 30, 3) := by decide +kernel
theorem dX3_drive_19 : decode cX3_drive 19 = .ok (.if_icmp .ge 38, 3) := by decide +kernel
theorem dX3_drive_22 : decode cX3_drive 22 = .ok (.iload 4, 2) := by decide +kernel
theorem dX3_drive_24 : decode cX3_drive 24 = .ok (.iload_n 2, 1) := by decide +kernel
theorem dX3_drive_25 : decode cX3_drive 25 = .ok (.if_icmp .eq 26, 3) := by decide +kernel
theorem dX3_drive_28 : decode cX3_drive 28 = .ok (.aload_n 0, 1) := by decide +kernel
theorem dX3_drive_29 : decode cX3_drive 29 = .ok (.getfield 19, 3) := by decide +kernel
theorem dX3_drive_32 : decode cX3_drive 32 = .ok (.iload_n 2, 1) := by decide +kernel
theorem dX3_drive_33 : decode cX3_drive 33 = .ok (.iaload, 1) := by decide +kernel
theorem dX3_drive_34 : decode cX3_drive 34 = .ok (.iload 4, 2) := by decide +kernel
theorem dX3_drive_36 : decode cX3_drive 36 = .ok (.invokestatic 168, 3) := by decide +kernel
theorem dX3_drive_39 : decode cX3_drive 39 = .ok (.ifCond .eq 12, 3) := by decide +kernel
theorem dX3_drive_42 : decode cX3_drive 42 = .ok (.aload_n 0, 1) := by decide +kernel
theorem dX3_drive_43 : decode cX3_drive 43 = .ok (.getfield 26, 3) := by decide +kernel
theorem dX3_drive_46 : decode cX3_drive 46 = .ok (.iload 4, 2) := by decide +kernel
theorem dX3_drive_48 : decode cX3_drive 48 = .ok (.invokevirtual 229, 3) := by decide +kernel
theorem dX3_drive_51 : decode cX3_drive 51 = .ok (.iinc 4 1, 3) := by decide +kernel
theorem dX3_drive_54 : decode cX3_drive 54 = .ok (.goto (-44), 3) := by decide +kernel
theorem dX3_drive_57 : decode cX3_drive 57 = .ok (.aload_n 0, 1) := by decide +kernel
theorem dX3_drive_58 : decode cX3_drive 58 = .ok (.getfield 26, 3) := by decide +kernel
theorem dX3_drive_61 : decode cX3_drive 61 = .ok (.iload_n 1, 1) := by decide +kernel
theorem dX3_drive_62 : decode cX3_drive 62 = .ok (.lconst 1, 1) := by decide +kernel
theorem dX3_drive_63 : decode cX3_drive 63 = .ok (.invokevirtual 232, 3) := by decide +kernel
theorem dX3_drive_66 : decode cX3_drive 66 = .ok (.aload_n 0, 1) := by decide +kernel
theorem dX3_drive_67 : decode cX3_drive 67 = .ok (.iload_n 3, 1) := by decide +kernel
theorem dX3_drive_68 : decode cX3_drive 68 = .ok (.invokevirtual 235, 3) := by decide +kernel
theorem dX3_drive_71 : decode cX3_drive 71 = .ok (.aload_n 0, 1) := by decide +kernel
theorem dX3_drive_72 : decode cX3_drive 72 = .ok (.getfield 26, 3) := by decide +kernel
theorem dX3_drive_75 : decode cX3_drive 75 = .ok (.invokevirtual 238, 3) := by decide +kernel
theorem dX3_drive_78 : decode cX3_drive 78 = .ok (.return_, 1) := by decide +kernel
theorem dX3_conduct_0 : decode cX3_conduct 0 = .ok (.iconst 0, 1) := by decide +kernel
theorem dX3_conduct_1 : decode cX3_conduct 1 = .ok (.istore_n 2, 1) := by decide +kernel
theorem dX3_conduct_2 : decode cX3_conduct 2 = .ok (.iload_n 2, 1) := by decide +kernel
theorem dX3_conduct_3 : decode cX3_conduct 3 = .ok (.aload_n 0, 1) := by decide +kernel
theorem dX3_conduct_4 : decode cX3_conduct 4 = .ok (.getfield 16, 3) := by decide +kernel
theorem dX3_conduct_7 : decode cX3_conduct 7 = .ok (.invokevirtual 30, 3) := by decide +kernel
theorem dX3_conduct_10 : decode cX3_conduct 10 = .ok (.if_icmp .ge 56, 3) := by decide +kernel
theorem dX3_conduct_13 : decode cX3_conduct 13 = .ok (.aload_n 0, 1) := by decide +kernel
theorem dX3_conduct_14 : decode cX3_conduct 14 = .ok (.getfield 16, 3) := by decide +kernel
theorem dX3_conduct_17 : decode cX3_conduct 17 = .ok (.iload_n 2, 1) := by decide +kernel
theorem dX3_conduct_18 : decode cX3_conduct 18 = .ok (.invokevirtual 57, 3) := by decide +kernel
theorem dX3_conduct_21 : decode cX3_conduct 21 = .ok (.checkcast 77, 3) := by decide +kernel
theorem dX3_conduct_24 : decode cX3_conduct 24 = .ok (.astore_n 3, 1) := by decide +kernel
theorem dX3_conduct_25 : decode cX3_conduct 25 = .ok (.aload_n 3, 1) := by decide +kernel
theorem dX3_conduct_26 : decode cX3_conduct 26 = .ok (.getfield 85, 3) := by decide +kernel
theorem dX3_conduct_29 : decode cX3_conduct 29 = .ok (.ifCond .ne 31, 3) := by decide +kernel
theorem dX3_conduct_32 : decode cX3_conduct 32 = .ok (.aload_n 3, 1) := by decide +kernel
theorem dX3_conduct_33 : decode cX3_conduct 33 = .ok (.iload_n 1, 1) := by decide +kernel
theorem dX3_conduct_34 : decode cX3_conduct 34 = .ok (.invokevirtual 132, 3) := by decide +kernel
theorem dX3_conduct_37 : decode cX3_conduct 37 = .ok (.ifCond .eq 23, 3) := by decide +kernel
theorem dX3_conduct_40 : decode cX3_conduct 40 = .ok (.aload_n 0, 1) := by decide +kernel
theorem dX3_conduct_41 : decode cX3_conduct 41 = .ok (.getfield 26, 3) := by decide +kernel
theorem dX3_conduct_44 : decode cX3_conduct 44 = .ok (.aload_n 3, 1) := by decide +kernel
theorem dX3_conduct_45 : decode cX3_conduct 45 = .ok (.getfield 159, 3) := by decide +kernel
theorem dX3_conduct_48 : decode cX3_conduct 48 = .ok (.aload_n 3, 1) := by decide +kernel
theorem dX3_conduct_49 : decode cX3_conduct 49 = .ok (.getfield 182, 3) := by decide +kernel
theorem dX3_conduct_52 : decode cX3_conduct 52 = .ok (.aload_n 3, 1) := by decide +kernel
theorem dX3_conduct_53 : decode cX3_conduct 53 = .ok (.getfield 88, 3) := by decide +kernel
theorem dX3_conduct_56 : decode cX3_conduct 56 = .ok (.i2l, 1) := by decide +kernel
theorem dX3_conduct_57 : decode cX3_conduct 57 = .ok (.invokevirtual 241, 3) := by decide +kernel
theorem dX3_conduct_60 : decode cX3_conduct 60 = .ok (.iinc 2 1, 3) := by decide +kernel
theorem dX3_conduct_63 : decode cX3_conduct 63 = .ok (.goto (-61), 3) := by decide +kernel
theorem dX3_conduct_66 : decode cX3_conduct 66 = .ok (.return_, 1) := by decide +kernel
theorem dX3_flowOut_0 : decode cX3_flowOut 0 = .ok (.iload_n 2, 1) := by decide +kernel
theorem dX3_flowOut_1 : decode cX3_flowOut 1 = .ok (.aload_n 1, 1) := by decide +kernel
theorem dX3_flowOut_2 : decode cX3_flowOut 2 = .ok (.getfield 159, 3) := by decide +kernel
theorem dX3_flowOut_5 : decode cX3_flowOut 5 = .ok (.if_icmp .eq 13, 3) := by decide +kernel
theorem dX3_flowOut_8 : decode cX3_flowOut 8 = .ok (.iload_n 2, 1) := by decide +kernel
theorem dX3_flowOut_9 : decode cX3_flowOut 9 = .ok (.aload_n 1, 1) := by decide +kernel
theorem dX3_flowOut_10 : decode cX3_flowOut 10 = .ok (.getfield 182, 3) := by decide +kernel
theorem dX3_flowOut_13 : decode cX3_flowOut 13 = .ok (.if_icmp .eq 5, 3) := by decide +kernel
theorem dX3_flowOut_16 : decode cX3_flowOut 16 = .ok (.lconst 0, 1) := by decide +kernel
theorem dX3_flowOut_17 : decode cX3_flowOut 17 = .ok (.lreturn, 1) := by decide +kernel
theorem dX3_flowOut_18 : decode cX3_flowOut 18 = .ok (.aload_n 1, 1) := by decide +kernel
theorem dX3_flowOut_19 : decode cX3_flowOut 19 = .ok (.getfield 85, 3) := by decide +kernel
theorem dX3_flowOut_22 : decode cX3_flowOut 22 = .ok (.ifCond .eq 19, 3) := by decide +kernel
theorem dX3_flowOut_25 : decode cX3_flowOut 25 = .ok (.aload_n 1, 1) := by decide +kernel
theorem dX3_flowOut_26 : decode cX3_flowOut 26 = .ok (.getfield 88, 3) := by decide +kernel
theorem dX3_flowOut_29 : decode cX3_flowOut 29 = .ok (.i2l, 1) := by decide +kernel
theorem dX3_flowOut_30 : decode cX3_flowOut 30 = .ok (.aload_n 0, 1) := by decide +kernel
theorem dX3_flowOut_31 : decode cX3_flowOut 31 = .ok (.getfield 26, 3) := by decide +kernel
theorem dX3_flowOut_34 : decode cX3_flowOut 34 = .ok (.invokevirtual 151, 3) := by decide +kernel
theorem dX3_flowOut_37 : decode cX3_flowOut 37 = .ok (.lmul, 1) := by decide +kernel
theorem dX3_flowOut_38 : decode cX3_flowOut 38 = .ok (.goto 32, 3) := by decide +kernel
theorem dX3_flowOut_41 : decode cX3_flowOut 41 = .ok (.aload_n 1, 1) := by decide +kernel
theorem dX3_flowOut_42 : decode cX3_flowOut 42 = .ok (.getfield 88, 3) := by decide +kernel
theorem dX3_flowOut_45 : decode cX3_flowOut 45 = .ok (.i2l, 1) := by decide +kernel
theorem dX3_flowOut_46 : decode cX3_flowOut 46 = .ok (.aload_n 0, 1) := by decide +kernel
theorem dX3_flowOut_47 : decode cX3_flowOut 47 = .ok (.getfield 26, 3) := by decide +kernel
theorem dX3_flowOut_50 : decode cX3_flowOut 50 = .ok (.aload_n 1, 1) := by decide +kernel
theorem dX3_flowOut_51 : decode cX3_flowOut 51 = .ok (.getfield 159, 3) := by decide +kernel
theorem dX3_flowOut_54 : decode cX3_flowOut 54 = .ok (.invokevirtual 147, 3) := by decide +kernel
theorem dX3_flowOut_57 : decode cX3_flowOut 57 = .ok (.aload_n 0, 1) := by decide +kernel
theorem dX3_flowOut_58 : decode cX3_flowOut 58 = .ok (.getfield 26, 3) := by decide +kernel
theorem dX3_flowOut_61 : decode cX3_flowOut 61 = .ok (.aload_n 1, 1) := by decide +kernel
theorem dX3_flowOut_62 : decode cX3_flowOut 62 = .ok (.getfield 182, 3) := by decide +kernel
theorem dX3_flowOut_65 : decode cX3_flowOut 65 = .ok (.invokevirtual 147, 3) := by decide +kernel
theorem dX3_flowOut_68 : decode cX3_flowOut 68 = .ok (.lsub, 1) := by decide +kernel
theorem dX3_flowOut_69 : decode cX3_flowOut 69 = .ok (.lmul, 1) := by decide +kernel
theorem dX3_flowOut_70 : decode cX3_flowOut 70 = .ok (.lstore_n 3, 1) := by decide +kernel
theorem dX3_flowOut_71 : decode cX3_flowOut 71 = .ok (.iload_n 2, 1) := by decide +kernel
theorem dX3_flowOut_72 : decode cX3_flowOut 72 = .ok (.aload_n 1, 1) := by decide +kernel
theorem dX3_flowOut_73 : decode cX3_flowOut 73 = .ok (.getfield 159, 3) := by decide +kernel
theorem dX3_flowOut_76 : decode cX3_flowOut 76 = .ok (.if_icmp .ne 7, 3) := by decide +kernel
theorem dX3_flowOut_79 : decode cX3_flowOut 79 = .ok (.lload_n 3, 1) := by decide +kernel
theorem dX3_flowOut_80 : decode cX3_flowOut 80 = .ok (.goto 5, 3) := by decide +kernel
theorem dX3_flowOut_83 : decode cX3_flowOut 83 = .ok (.lload_n 3, 1) := by decide +kernel
theorem dX3_flowOut_84 : decode cX3_flowOut 84 = .ok (.lneg, 1) := by decide +kernel
theorem dX3_flowOut_85 : decode cX3_flowOut 85 = .ok (.lreturn, 1) := by decide +kernel
theorem dX3_quotientAt_0 : decode cX3_quotientAt 0 = .ok (.aload_n 0, 1) := by decide +kernel
theorem dX3_quotientAt_1 : decode cX3_quotientAt 1 = .ok (.getfield 26, 3) := by decide +kernel
theorem dX3_quotientAt_4 : decode cX3_quotientAt 4 = .ok (.iload_n 1, 1) := by decide +kernel
theorem dX3_quotientAt_5 : decode cX3_quotientAt 5 = .ok (.invokevirtual 147, 3) := by decide +kernel
theorem dX3_quotientAt_8 : decode cX3_quotientAt 8 = .ok (.aload_n 0, 1) := by decide +kernel
theorem dX3_quotientAt_9 : decode cX3_quotientAt 9 = .ok (.getfield 26, 3) := by decide +kernel
theorem dX3_quotientAt_12 : decode cX3_quotientAt 12 = .ok (.invokevirtual 151, 3) := by decide +kernel
theorem dX3_quotientAt_15 : decode cX3_quotientAt 15 = .ok (.iconst 1, 1) := by decide +kernel
theorem dX3_quotientAt_16 : decode cX3_quotientAt 16 = .ok (.invokestatic 155, 3) := by decide +kernel
theorem dX3_quotientAt_19 : decode cX3_quotientAt 19 = .ok (.l2d, 1) := by decide +kernel
theorem dX3_quotientAt_20 : decode cX3_quotientAt 20 = .ok (.dstore_n 2, 1) := by decide +kernel
theorem dX3_quotientAt_21 : decode cX3_quotientAt 21 = .ok (.aload_n 0, 1) := by decide +kernel
theorem dX3_quotientAt_22 : decode cX3_quotientAt 22 = .ok (.getfield 26, 3) := by decide +kernel
theorem dX3_quotientAt_25 : decode cX3_quotientAt 25 = .ok (.iload_n 1, 1) := by decide +kernel
theorem dX3_quotientAt_26 : decode cX3_quotientAt 26 = .ok (.invokevirtual 147, 3) := by decide +kernel
theorem dX3_quotientAt_29 : decode cX3_quotientAt 29 = .ok (.aload_n 0, 1) := by decide +kernel
theorem dX3_quotientAt_30 : decode cX3_quotientAt 30 = .ok (.getfield 26, 3) := by decide +kernel
theorem dX3_quotientAt_33 : decode cX3_quotientAt 33 = .ok (.invokevirtual 151, 3) := by decide +kernel
theorem dX3_quotientAt_36 : decode cX3_quotientAt 36 = .ok (.iconst 0, 1) := by decide +kernel
theorem dX3_quotientAt_37 : decode cX3_quotientAt 37 = .ok (.invokestatic 155, 3) := by decide +kernel
theorem dX3_quotientAt_40 : decode cX3_quotientAt 40 = .ok (.l2d, 1) := by decide +kernel
theorem dX3_quotientAt_41 : decode cX3_quotientAt 41 = .ok (.dstore 4, 2) := by decide +kernel
theorem dX3_quotientAt_43 : decode cX3_quotientAt 43 = .ok (.dload 4, 2) := by decide +kernel
theorem dX3_quotientAt_45 : decode cX3_quotientAt 45 = .ok (.dconst 0, 1) := by decide +kernel
theorem dX3_quotientAt_46 : decode cX3_quotientAt 46 = .ok (.dcmp .l, 1) := by decide +kernel
theorem dX3_quotientAt_47 : decode cX3_quotientAt 47 = .ok (.ifCond .le 10, 3) := by decide +kernel
theorem dX3_quotientAt_50 : decode cX3_quotientAt 50 = .ok (.dload_n 2, 1) := by decide +kernel
theorem dX3_quotientAt_51 : decode cX3_quotientAt 51 = .ok (.dload 4, 2) := by decide +kernel
theorem dX3_quotientAt_53 : decode cX3_quotientAt 53 = .ok (.ddiv, 1) := by decide +kernel
theorem dX3_quotientAt_54 : decode cX3_quotientAt 54 = .ok (.goto 4, 3) := by decide +kernel
theorem dX3_quotientAt_57 : decode cX3_quotientAt 57 = .ok (.dconst 0, 1) := by decide +kernel
theorem dX3_quotientAt_58 : decode cX3_quotientAt 58 = .ok (.dreturn, 1) := by decide +kernel
theorem dX3_isFirstOfLevel_0 : decode cX3_isFirstOfLevel 0 = .ok (.iconst 0, 1) := by decide +kernel
theorem dX3_isFirstOfLevel_1 : decode cX3_isFirstOfLevel 1 = .ok (.istore_n 2, 1) := by decide +kernel
theorem dX3_isFirstOfLevel_2 : decode cX3_isFirstOfLevel 2 = .ok (.iload_n 2, 1) := by decide +kernel
theorem dX3_isFirstOfLevel_3 : decode cX3_isFirstOfLevel 3 = .ok (.iload_n 1, 1) := by decide +kernel
theorem dX3_isFirstOfLevel_4 : decode cX3_isFirstOfLevel 4 = .ok (.if_icmp .ge 39, 3) := by decide +kernel
theorem dX3_isFirstOfLevel_7 : decode cX3_isFirstOfLevel 7 = .ok (.aload_n 0, 1) := by decide +kernel
theorem dX3_isFirstOfLevel_8 : decode cX3_isFirstOfLevel 8 = .ok (.iload_n 2, 1) := by decide +kernel
theorem dX3_isFirstOfLevel_9 : decode cX3_isFirstOfLevel 9 = .ok (.invokevirtual 138, 3) := by decide +kernel
theorem dX3_isFirstOfLevel_12 : decode cX3_isFirstOfLevel 12 = .ok (.ifCond .ne 25, 3) := by decide +kernel
theorem dX3_isFirstOfLevel_15 : decode cX3_isFirstOfLevel 15 = .ok (.aload_n 0, 1) := by decide +kernel
theorem dX3_isFirstOfLevel_16 : decode cX3_isFirstOfLevel 16 = .ok (.getfield 26, 3) := by decide +kernel
theorem dX3_isFirstOfLevel_19 : decode cX3_isFirstOfLevel 19 = .ok (.iload_n 2, 1) := by decide +kernel
theorem dX3_isFirstOfLevel_20 : decode cX3_isFirstOfLevel 20 = .ok (.invokevirtual 147, 3) := by decide +kernel
theorem dX3_isFirstOfLevel_23 : decode cX3_isFirstOfLevel 23 = .ok (.aload_n 0, 1) := by decide +kernel
theorem dX3_isFirstOfLevel_24 : decode cX3_isFirstOfLevel 24 = .ok (.getfield 26, 3) := by decide +kernel
theorem dX3_isFirstOfLevel_27 : decode cX3_isFirstOfLevel 27 = .ok (.iload_n 1, 1) := by decide +kernel
theorem dX3_isFirstOfLevel_28 : decode cX3_isFirstOfLevel 28 = .ok (.invokevirtual 147, 3) := by decide +kernel
theorem dX3_isFirstOfLevel_31 : decode cX3_isFirstOfLevel 31 = .ok (.lcmp, 1) := by decide +kernel
theorem dX3_isFirstOfLevel_32 : decode cX3_isFirstOfLevel 32 = .ok (.ifCond .ne 5, 3) := by decide +kernel
theorem dX3_isFirstOfLevel_35 : decode cX3_isFirstOfLevel 35 = .ok (.iconst 0, 1) := by decide +kernel
theorem dX3_isFirstOfLevel_36 : decode cX3_isFirstOfLevel 36 = .ok (.ireturn, 1) := by decide +kernel
theorem dX3_isFirstOfLevel_37 : decode cX3_isFirstOfLevel 37 = .ok (.iinc 2 1, 3) := by decide +kernel
theorem dX3_isFirstOfLevel_40 : decode cX3_isFirstOfLevel 40 = .ok (.goto (-38), 3) := by decide +kernel
theorem dX3_isFirstOfLevel_43 : decode cX3_isFirstOfLevel 43 = .ok (.iconst 1, 1) := by decide +kernel
theorem dX3_isFirstOfLevel_44 : decode cX3_isFirstOfLevel 44 = .ok (.ireturn, 1) := by decide +kernel
theorem dX3_firstToggleBehind_0 : decode cX3_firstToggleBehind 0 = .ok (.iconst (-1), 1) := by decide +kernel
theorem dX3_firstToggleBehind_1 : decode cX3_firstToggleBehind 1 = .ok (.istore_n 2, 1) := by decide +kernel
theorem dX3_firstToggleBehind_2 : decode cX3_firstToggleBehind 2 = .ok (.iconst 0, 1) := by decide +kernel
theorem dX3_firstToggleBehind_3 : decode cX3_firstToggleBehind 3 = .ok (.istore_n 3, 1) := by decide +kernel
theorem dX3_firstToggleBehind_4 : decode cX3_firstToggleBehind 4 = .ok (.iload_n 3, 1) := by decide +kernel
theorem dX3_firstToggleBehind_5 : decode cX3_firstToggleBehind 5 = .ok (.aload_n 0, 1) := by decide +kernel
theorem dX3_firstToggleBehind_6 : decode cX3_firstToggleBehind 6 = .ok (.getfield 16, 3) := by decide +kernel
theorem dX3_firstToggleBehind_9 : decode cX3_firstToggleBehind 9 = .ok (.invokevirtual 30, 3) := by decide +kernel
theorem dX3_firstToggleBehind_12 : decode cX3_firstToggleBehind 12 = .ok (.if_icmp .ge 44, 3) := by decide +kernel
theorem dX3_firstToggleBehind_15 : decode cX3_firstToggleBehind 15 = .ok (.aload_n 0, 1) := by decide +kernel
theorem dX3_firstToggleBehind_16 : decode cX3_firstToggleBehind 16 = .ok (.getfield 16, 3) := by decide +kernel
theorem dX3_firstToggleBehind_19 : decode cX3_firstToggleBehind 19 = .ok (.iload_n 3, 1) := by decide +kernel
theorem dX3_firstToggleBehind_20 : decode cX3_firstToggleBehind 20 = .ok (.invokevirtual 57, 3) := by decide +kernel
theorem dX3_firstToggleBehind_23 : decode cX3_firstToggleBehind 23 = .ok (.checkcast 77, 3) := by decide +kernel
theorem dX3_firstToggleBehind_26 : decode cX3_firstToggleBehind 26 = .ok (.iload_n 1, 1) := by decide +kernel
theorem dX3_firstToggleBehind_27 : decode cX3_firstToggleBehind 27 = .ok (.invokevirtual 245, 3) := by decide +kernel
theorem dX3_firstToggleBehind_30 : decode cX3_firstToggleBehind 30 = .ok (.istore 4, 2) := by decide +kernel
theorem dX3_firstToggleBehind_32 : decode cX3_firstToggleBehind 32 = .ok (.iload 4, 2) := by decide +kernel
theorem dX3_firstToggleBehind_34 : decode cX3_firstToggleBehind 34 = .ok (.ifCond .lt 16, 3) := by decide +kernel
theorem dX3_firstToggleBehind_37 : decode cX3_firstToggleBehind 37 = .ok (.iload_n 2, 1) := by decide +kernel
theorem dX3_firstToggleBehind_38 : decode cX3_firstToggleBehind 38 = .ok (.ifCond .lt 9, 3) := by decide +kernel
theorem dX3_firstToggleBehind_41 : decode cX3_firstToggleBehind 41 = .ok (.iload 4, 2) := by decide +kernel
theorem dX3_firstToggleBehind_43 : decode cX3_firstToggleBehind 43 = .ok (.iload_n 2, 1) := by decide +kernel
theorem dX3_firstToggleBehind_44 : decode cX3_firstToggleBehind 44 = .ok (.if_icmp .ge 6, 3) := by decide +kernel
theorem dX3_firstToggleBehind_47 : decode cX3_firstToggleBehind 47 = .ok (.iload 4, 2) := by decide +kernel
theorem dX3_firstToggleBehind_49 : decode cX3_firstToggleBehind 49 = .ok (.istore_n 2, 1) := by decide +kernel
theorem dX3_firstToggleBehind_50 : decode cX3_firstToggleBehind 50 = .ok (.iinc 3 1, 3) := by decide +kernel
theorem dX3_firstToggleBehind_53 : decode cX3_firstToggleBehind 53 = .ok (.goto (-49), 3) := by decide +kernel
theorem dX3_firstToggleBehind_56 : decode cX3_firstToggleBehind 56 = .ok (.iload_n 2, 1) := by decide +kernel
theorem dX3_firstToggleBehind_57 : decode cX3_firstToggleBehind 57 = .ok (.ireturn, 1) := by decide +kernel
theorem dX3_countOf_0 : decode cX3_countOf 0 = .ok (.iload_n 1, 1) := by decide +kernel
theorem dX3_countOf_1 : decode cX3_countOf 1 = .ok (.tableswitch 48 0 2 #[27, 35, 43], 27) := by decide +kernel
theorem dX3_countOf_28 : decode cX3_countOf 28 = .ok (.aload_n 0, 1) := by decide +kernel
theorem dX3_countOf_29 : decode cX3_countOf 29 = .ok (.getfield 12, 3) := by decide +kernel
theorem dX3_countOf_32 : decode cX3_countOf 32 = .ok (.invokevirtual 30, 3) := by decide +kernel
theorem dX3_countOf_35 : decode cX3_countOf 35 = .ok (.ireturn, 1) := by decide +kernel
theorem dX3_countOf_36 : decode cX3_countOf 36 = .ok (.aload_n 0, 1) := by decide +kernel
theorem dX3_countOf_37 : decode cX3_countOf 37 = .ok (.getfield 16, 3) := by decide +kernel
theorem dX3_countOf_40 : decode cX3_countOf 40 = .ok (.invokevirtual 30, 3) := by decide +kernel
theorem dX3_countOf_43 : decode cX3_countOf 43 = .ok (.ireturn, 1) := by decide +kernel
theorem dX3_countOf_44 : decode cX3_countOf 44 = .ok (.aload_n 0, 1) := by decide +kernel
theorem dX3_countOf_45 : decode cX3_countOf 45 = .ok (.invokevirtual 248, 3) := by decide +kernel
theorem dX3_countOf_48 : decode cX3_countOf 48 = .ok (.ireturn, 1) := by decide +kernel
theorem dX3_countOf_49 : decode cX3_countOf 49 = .ok (.aload_n 0, 1) := by decide +kernel
theorem dX3_countOf_50 : decode cX3_countOf 50 = .ok (.invokevirtual 251, 3) := by decide +kernel
theorem dX3_countOf_53 : decode cX3_countOf 53 = .ok (.ireturn, 1) := by decide +kernel
theorem dX3_countRails_0 : decode cX3_countRails 0 = .ok (.iconst 0, 1) := by decide +kernel
theorem dX3_countRails_1 : decode cX3_countRails 1 = .ok (.istore_n 1, 1) := by decide +kernel
theorem dX3_countRails_2 : decode cX3_countRails 2 = .ok (.iconst 0, 1) := by decide +kernel
theorem dX3_countRails_3 : decode cX3_countRails 3 = .ok (.istore_n 2, 1) := by decide +kernel
theorem dX3_countRails_4 : decode cX3_countRails 4 = .ok (.iload_n 2, 1) := by decide +kernel
theorem dX3_countRails_5 : decode cX3_countRails 5 = .ok (.aload_n 0, 1) := by decide +kernel
theorem dX3_countRails_6 : decode cX3_countRails 6 = .ok (.getfield 12, 3) := by decide +kernel
theorem dX3_countRails_9 : decode cX3_countRails 9 = .ok (.invokevirtual 30, 3) := by decide +kernel
theorem dX3_countRails_12 : decode cX3_countRails 12 = .ok (.if_icmp .ge 29, 3) := by decide +kernel
theorem dX3_countRails_15 : decode cX3_countRails 15 = .ok (.aload_n 0, 1) := by decide +kernel
theorem dX3_countRails_16 : decode cX3_countRails 16 = .ok (.getfield 12, 3) := by decide +kernel
theorem dX3_countRails_19 : decode cX3_countRails 19 = .ok (.iload_n 2, 1) := by decide +kernel
theorem dX3_countRails_20 : decode cX3_countRails 20 = .ok (.invokevirtual 57, 3) := by decide +kernel
theorem dX3_countRails_23 : decode cX3_countRails 23 = .ok (.checkcast 41, 3) := by decide +kernel
theorem dX3_countRails_26 : decode cX3_countRails 26 = .ok (.getfield 61, 3) := by decide +kernel
theorem dX3_countRails_29 : decode cX3_countRails 29 = .ok (.ifCond .eq 6, 3) := by decide +kernel
theorem dX3_countRails_32 : decode cX3_countRails 32 = .ok (.iinc 1 1, 3) := by decide +kernel
theorem dX3_countRails_35 : decode cX3_countRails 35 = .ok (.iinc 2 1, 3) := by decide +kernel
theorem dX3_countRails_38 : decode cX3_countRails 38 = .ok (.goto (-34), 3) := by decide +kernel
theorem dX3_countRails_41 : decode cX3_countRails 41 = .ok (.iload_n 1, 1) := by decide +kernel
theorem dX3_countRails_42 : decode cX3_countRails 42 = .ok (.ireturn, 1) := by decide +kernel
theorem dX3_countToggles_0 : decode cX3_countToggles 0 = .ok (.iconst 0, 1) := by decide +kernel
theorem dX3_countToggles_1 : decode cX3_countToggles 1 = .ok (.istore_n 1, 1) := by decide +kernel
theorem dX3_countToggles_2 : decode cX3_countToggles 2 = .ok (.iconst 0, 1) := by decide +kernel
theorem dX3_countToggles_3 : decode cX3_countToggles 3 = .ok (.istore_n 2, 1) := by decide +kernel
theorem dX3_countToggles_4 : decode cX3_countToggles 4 = .ok (.iload_n 2, 1) := by decide +kernel
theorem dX3_countToggles_5 : decode cX3_countToggles 5 = .ok (.aload_n 0, 1) := by decide +kernel
theorem dX3_countToggles_6 : decode cX3_countToggles 6 = .ok (.getfield 16, 3) := by decide +kernel
theorem dX3_countToggles_9 : decode cX3_countToggles 9 = .ok (.invokevirtual 30, 3) := by decide +kernel
theorem dX3_countToggles_12 : decode cX3_countToggles 12 = .ok (.if_icmp .ge 26, 3) := by decide +kernel
theorem dX3_countToggles_15 : decode cX3_countToggles 15 = .ok (.iload_n 1, 1) := by decide +kernel
theorem dX3_countToggles_16 : decode cX3_countToggles 16 = .ok (.aload_n 0, 1) := by decide +kernel
theorem dX3_countToggles_17 : decode cX3_countToggles 17 = .ok (.getfield 16, 3) := by decide +kernel
theorem dX3_countToggles_20 : decode cX3_countToggles 20 = .ok (.iload_n 2, 1) := by decide +kernel
theorem dX3_countToggles_21 : decode cX3_countToggles 21 = .ok (.invokevirtual 57, 3) := by decide +kernel
theorem dX3_countToggles_24 : decode cX3_countToggles 24 = .ok (.checkcast 77, 3) := by decide +kernel
theorem dX3_countToggles_27 : decode cX3_countToggles 27 = .ok (.getfield 102, 3) := by decide +kernel
theorem dX3_countToggles_30 : decode cX3_countToggles 30 = .ok (.iadd, 1) := by decide +kernel
theorem dX3_countToggles_31 : decode cX3_countToggles 31 = .ok (.istore_n 1, 1) := by decide +kernel
theorem dX3_countToggles_32 : decode cX3_countToggles 32 = .ok (.iinc 2 1, 3) := by decide +kernel
theorem dX3_countToggles_35 : decode cX3_countToggles 35 = .ok (.goto (-31), 3) := by decide +kernel
theorem dX3_countToggles_38 : decode cX3_countToggles 38 = .ok (.iload_n 1, 1) := by decide +kernel
theorem dX3_countToggles_39 : decode cX3_countToggles 39 = .ok (.ireturn, 1) := by decide +kernel
theorem dX3_digestCircuit_0 : decode cX3_digestCircuit 0 = .ok (.lload_n 1, 1) := by decide +kernel
theorem dX3_digestCircuit_1 : decode cX3_digestCircuit 1 = .ok (.lstore_n 3, 1) := by decide +kernel
theorem dX3_digestCircuit_2 : decode cX3_digestCircuit 2 = .ok (.iconst 0, 1) := by decide +kernel
theorem dX3_digestCircuit_3 : decode cX3_digestCircuit 3 = .ok (.istore 5, 2) := by decide +kernel
theorem dX3_digestCircuit_5 : decode cX3_digestCircuit 5 = .ok (.iload 5, 2) := by decide +kernel
theorem dX3_digestCircuit_7 : decode cX3_digestCircuit 7 = .ok (.iconst 4, 1) := by decide +kernel
theorem dX3_digestCircuit_8 : decode cX3_digestCircuit 8 = .ok (.if_icmp .ge 21, 3) := by decide +kernel
theorem dX3_digestCircuit_11 : decode cX3_digestCircuit 11 = .ok (.lload_n 3, 1) := by decide +kernel
theorem dX3_digestCircuit_12 : decode cX3_digestCircuit 12 = .ok (.aload_n 0, 1) := by decide +kernel
theorem dX3_digestCircuit_13 : decode cX3_digestCircuit 13 = .ok (.iload 5, 2) := by decide +kernel
theorem dX3_digestCircuit_15 : decode cX3_digestCircuit 15 = .ok (.invokevirtual 115, 3) := by decide +kernel
theorem dX3_digestCircuit_18 : decode cX3_digestCircuit 18 = .ok (.i2l, 1) := by decide +kernel
theorem dX3_digestCircuit_19 : decode cX3_digestCircuit 19 = .ok (.invokestatic 254, 3) := by decide +kernel
theorem dX3_digestCircuit_22 : decode cX3_digestCircuit 22 = .ok (.lstore_n 3, 1) := by decide +kernel
theorem dX3_digestCircuit_23 : decode cX3_digestCircuit 23 = .ok (.iinc 5 1, 3) := by decide +kernel
theorem dX3_digestCircuit_26 : decode cX3_digestCircuit 26 = .ok (.goto (-21), 3) := by decide +kernel
theorem dX3_digestCircuit_29 : decode cX3_digestCircuit 29 = .ok (.iconst 0, 1) := by decide +kernel
theorem dX3_digestCircuit_30 : decode cX3_digestCircuit 30 = .ok (.istore 5, 2) := by decide +kernel
theorem dX3_digestCircuit_32 : decode cX3_digestCircuit 32 = .ok (.iload 5, 2) := by decide +kernel
theorem dX3_digestCircuit_34 : decode cX3_digestCircuit 34 = .ok (.aload_n 0, 1) := by decide +kernel
theorem dX3_digestCircuit_35 : decode cX3_digestCircuit 35 = .ok (.getfield 12, 3) := by decide +kernel
theorem dX3_digestCircuit_38 : decode cX3_digestCircuit 38 = .ok (.invokevirtual 30, 3) := by decide +kernel
theorem dX3_digestCircuit_41 : decode cX3_digestCircuit 41 = .ok (.if_icmp .ge 37, 3) := by decide +kernel
theorem dX3_digestCircuit_44 : decode cX3_digestCircuit 44 = .ok (.lload_n 3, 1) := by decide +kernel
theorem dX3_digestCircuit_45 : decode cX3_digestCircuit 45 = .ok (.aload_n 0, 1) := by decide +kernel
theorem dX3_digestCircuit_46 : decode cX3_digestCircuit 46 = .ok (.getfield 12, 3) := by decide +kernel
theorem dX3_digestCircuit_49 : decode cX3_digestCircuit 49 = .ok (.iload 5, 2) := by decide +kernel
theorem dX3_digestCircuit_51 : decode cX3_digestCircuit 51 = .ok (.invokevirtual 57, 3) := by decide +kernel
theorem dX3_digestCircuit_54 : decode cX3_digestCircuit 54 = .ok (.checkcast 41, 3) := by decide +kernel
theorem dX3_digestCircuit_57 : decode cX3_digestCircuit 57 = .ok (.getfield 61, 3) := by decide +kernel
theorem dX3_digestCircuit_60 : decode cX3_digestCircuit 60 = .ok (.ifCond .eq 7, 3) := by decide +kernel
theorem dX3_digestCircuit_63 : decode cX3_digestCircuit 63 = .ok (.lconst 1, 1) := by decide +kernel
theorem dX3_digestCircuit_64 : decode cX3_digestCircuit 64 = .ok (.goto 4, 3) := by decide +kernel
theorem dX3_digestCircuit_67 : decode cX3_digestCircuit 67 = .ok (.lconst 0, 1) := by decide +kernel
theorem dX3_digestCircuit_68 : decode cX3_digestCircuit 68 = .ok (.invokestatic 254, 3) := by decide +kernel
theorem dX3_digestCircuit_71 : decode cX3_digestCircuit 71 = .ok (.lstore_n 3, 1) := by decide +kernel
theorem dX3_digestCircuit_72 : decode cX3_digestCircuit 72 = .ok (.iinc 5 1, 3) := by decide +kernel
theorem dX3_digestCircuit_75 : decode cX3_digestCircuit 75 = .ok (.goto (-43), 3) := by decide +kernel
theorem dX3_digestCircuit_78 : decode cX3_digestCircuit 78 = .ok (.iconst 0, 1) := by decide +kernel
theorem dX3_digestCircuit_79 : decode cX3_digestCircuit 79 = .ok (.istore 5, 2) := by decide +kernel
theorem dX3_digestCircuit_81 : decode cX3_digestCircuit 81 = .ok (.iload 5, 2) := by decide +kernel
theorem dX3_digestCircuit_83 : decode cX3_digestCircuit 83 = .ok (.aload_n 0, 1) := by decide +kernel
theorem dX3_digestCircuit_84 : decode cX3_digestCircuit 84 = .ok (.getfield 16, 3) := by decide +kernel
theorem dX3_digestCircuit_87 : decode cX3_digestCircuit 87 = .ok (.invokevirtual 30, 3) := by decide +kernel
theorem dX3_digestCircuit_90 : decode cX3_digestCircuit 90 = .ok (.if_icmp .ge 26, 3) := by decide +kernel
theorem dX3_digestCircuit_93 : decode cX3_digestCircuit 93 = .ok (.lload_n 3, 1) := by decide +kernel
theorem dX3_digestCircuit_94 : decode cX3_digestCircuit 94 = .ok (.aload_n 0, 1) := by decide +kernel
theorem dX3_digestCircuit_95 : decode cX3_digestCircuit 95 = .ok (.getfield 16, 3) := by decide +kernel
theorem dX3_digestCircuit_98 : decode cX3_digestCircuit 98 = .ok (.iload 5, 2) := by decide +kernel
theorem dX3_digestCircuit_100 : decode cX3_digestCircuit 100 = .ok (.invokevirtual 57, 3) := by decide +kernel
theorem dX3_digestCircuit_103 : decode cX3_digestCircuit 103 = .ok (.checkcast 77, 3) := by decide +kernel
theorem dX3_digestCircuit_106 : decode cX3_digestCircuit 106 = .ok (.invokestatic 258, 3) := by decide +kernel
theorem dX3_digestCircuit_109 : decode cX3_digestCircuit 109 = .ok (.lstore_n 3, 1) := by decide +kernel
theorem dX3_digestCircuit_110 : decode cX3_digestCircuit 110 = .ok (.iinc 5 1, 3) := by decide +kernel
theorem dX3_digestCircuit_113 : decode cX3_digestCircuit 113 = .ok (.goto (-32), 3) := by decide +kernel
theorem dX3_digestCircuit_116 : decode cX3_digestCircuit 116 = .ok (.lload_n 3, 1) := by decide +kernel
theorem dX3_digestCircuit_117 : decode cX3_digestCircuit 117 = .ok (.lreturn, 1) := by decide +kernel
theorem dX3_digestElement_0 : decode cX3_digestElement 0 = .ok (.lload_n 0, 1) := by decide +kernel
theorem dX3_digestElement_1 : decode cX3_digestElement 1 = .ok (.lstore_n 3, 1) := by decide +kernel
theorem dX3_digestElement_2 : decode cX3_digestElement 2 = .ok (.iconst 0, 1) := by decide +kernel
theorem dX3_digestElement_3 : decode cX3_digestElement 3 = .ok (.istore 5, 2) := by decide +kernel
theorem dX3_digestElement_5 : decode cX3_digestElement 5 = .ok (.iload 5, 2) := by decide +kernel
theorem dX3_digestElement_7 : decode cX3_digestElement 7 = .ok (.bipush 6, 2) := by decide +kernel
theorem dX3_digestElement_9 : decode cX3_digestElement 9 = .ok (.if_icmp .ge 21, 3) := by decide +kernel
theorem dX3_digestElement_12 : decode cX3_digestElement 12 = .ok (.lload_n 3, 1) := by decide +kernel
theorem dX3_digestElement_13 : decode cX3_digestElement 13 = .ok (.aload_n 2, 1) := by decide +kernel
theorem dX3_digestElement_14 : decode cX3_digestElement 14 = .ok (.iload 5, 2) := by decide +kernel
theorem dX3_digestElement_16 : decode cX3_digestElement 16 = .ok (.invokevirtual 121, 3) := by decide +kernel
theorem dX3_digestElement_19 : decode cX3_digestElement 19 = .ok (.i2l, 1) := by decide +kernel
theorem dX3_digestElement_20 : decode cX3_digestElement 20 = .ok (.invokestatic 254, 3) := by decide +kernel
theorem dX3_digestElement_23 : decode cX3_digestElement 23 = .ok (.lstore_n 3, 1) := by decide +kernel
theorem dX3_digestElement_24 : decode cX3_digestElement 24 = .ok (.iinc 5 1, 3) := by decide +kernel
theorem dX3_digestElement_27 : decode cX3_digestElement 27 = .ok (.goto (-22), 3) := by decide +kernel
theorem dX3_digestElement_30 : decode cX3_digestElement 30 = .ok (.iconst 0, 1) := by decide +kernel
theorem dX3_digestElement_31 : decode cX3_digestElement 31 = .ok (.istore 5, 2) := by decide +kernel
theorem dX3_digestElement_33 : decode cX3_digestElement 33 = .ok (.iload 5, 2) := by decide +kernel
theorem dX3_digestElement_35 : decode cX3_digestElement 35 = .ok (.aload_n 2, 1) := by decide +kernel
theorem dX3_digestElement_36 : decode cX3_digestElement 36 = .ok (.getfield 102, 3) := by decide +kernel
theorem dX3_digestElement_39 : decode cX3_digestElement 39 = .ok (.if_icmp .ge 21, 3) := by decide +kernel
theorem dX3_digestElement_42 : decode cX3_digestElement 42 = .ok (.lload_n 3, 1) := by decide +kernel
theorem dX3_digestElement_43 : decode cX3_digestElement 43 = .ok (.aload_n 2, 1) := by decide +kernel
theorem dX3_digestElement_44 : decode cX3_digestElement 44 = .ok (.iload 5, 2) := by decide +kernel
theorem dX3_digestElement_46 : decode cX3_digestElement 46 = .ok (.invokevirtual 126, 3) := by decide +kernel
theorem dX3_digestElement_49 : decode cX3_digestElement 49 = .ok (.i2l, 1) := by decide +kernel
theorem dX3_digestElement_50 : decode cX3_digestElement 50 = .ok (.invokestatic 254, 3) := by decide +kernel
end
section
theorem dX3_digestElement_53 : decode cX3_digestElement 53 = .ok (.lstore_n 3, 1) := by decide +kernel
theorem dX3_digestElement_54 : decode cX3_digestElement 54 = .ok (.iinc 5 1, 3) := by decide +kernel
theorem dX3_digestElement_57 : decode cX3_digestElement 57 = .ok (.goto (-24), 3) := by decide +kernel
theorem dX3_digestElement_60 : decode cX3_digestElement 60 = .ok (.lload_n 3, 1) := by decide +kernel
theorem dX3_digestElement_61 : decode cX3_digestElement 61 = .ok (.lreturn, 1) := by decide +kernel
theorem dX3_digestPotentials_0 : decode cX3_digestPotentials 0 = .ok (.aload_n 0, 1) := by decide +kernel
theorem dX3_digestPotentials_1 : decode cX3_digestPotentials 1 = .ok (.iload_n 3, 1) := by decide +kernel
theorem dX3_digestPotentials_2 : decode cX3_digestPotentials 2 = .ok (.invokevirtual 141, 3) := by decide +kernel
theorem dX3_digestPotentials_5 : decode cX3_digestPotentials 5 = .ok (.lload_n 1, 1) := by decide +kernel
theorem dX3_digestPotentials_6 : decode cX3_digestPotentials 6 = .ok (.lstore 4, 2) := by decide +kernel
theorem dX3_digestPotentials_8 : decode cX3_digestPotentials 8 = .ok (.iconst 0, 1) := by decide +kernel
theorem dX3_digestPotentials_9 : decode cX3_digestPotentials 9 = .ok (.istore 6, 2) := by decide +kernel
theorem dX3_digestPotentials_11 : decode cX3_digestPotentials 11 = .ok (.iload 6, 2) := by decide +kernel
theorem dX3_digestPotentials_13 : decode cX3_digestPotentials 13 = .ok (.aload_n 0, 1) := by decide +kernel
theorem dX3_digestPotentials_14 : decode cX3_digestPotentials 14 = .ok (.getfield 12, 3) := by decide +kernel
theorem dX3_digestPotentials_17 : decode cX3_digestPotentials 17 = .ok (.invokevirtual 30, 3) := by decide +kernel
theorem dX3_digestPotentials_20 : decode cX3_digestPotentials 20 = .ok (.if_icmp .ge 85, 3) := by decide +kernel
theorem dX3_digestPotentials_23 : decode cX3_digestPotentials 23 = .ok (.aload_n 0, 1) := by decide +kernel
theorem dX3_digestPotentials_24 : decode cX3_digestPotentials 24 = .ok (.iload 6, 2) := by decide +kernel
theorem dX3_digestPotentials_26 : decode cX3_digestPotentials 26 = .ok (.invokevirtual 138, 3) := by decide +kernel
theorem dX3_digestPotentials_29 : decode cX3_digestPotentials 29 = .ok (.ifCond .eq 16, 3) := by decide +kernel
theorem dX3_digestPotentials_32 : decode cX3_digestPotentials 32 = .ok (.lload 4, 2) := by decide +kernel
theorem dX3_digestPotentials_34 : decode cX3_digestPotentials 34 = .ok (.ldc2_w 262, 3) := by decide +kernel
theorem dX3_digestPotentials_37 : decode cX3_digestPotentials 37 = .ok (.invokestatic 254, 3) := by decide +kernel
theorem dX3_digestPotentials_40 : decode cX3_digestPotentials 40 = .ok (.lstore 4, 2) := by decide +kernel
theorem dX3_digestPotentials_42 : decode cX3_digestPotentials 42 = .ok (.goto 57, 3) := by decide +kernel
theorem dX3_digestPotentials_45 : decode cX3_digestPotentials 45 = .ok (.lload 4, 2) := by decide +kernel
theorem dX3_digestPotentials_47 : decode cX3_digestPotentials 47 = .ok (.aload_n 0, 1) := by decide +kernel
theorem dX3_digestPotentials_48 : decode cX3_digestPotentials 48 = .ok (.getfield 26, 3) := by decide +kernel
theorem dX3_digestPotentials_51 : decode cX3_digestPotentials 51 = .ok (.iload 6, 2) := by decide +kernel
theorem dX3_digestPotentials_53 : decode cX3_digestPotentials 53 = .ok (.invokevirtual 147, 3) := by decide +kernel
theorem dX3_digestPotentials_56 : decode cX3_digestPotentials 56 = .ok (.aload_n 0, 1) := by decide +kernel
theorem dX3_digestPotentials_57 : decode cX3_digestPotentials 57 = .ok (.getfield 26, 3) := by decide +kernel
theorem dX3_digestPotentials_60 : decode cX3_digestPotentials 60 = .ok (.invokevirtual 151, 3) := by decide +kernel
theorem dX3_digestPotentials_63 : decode cX3_digestPotentials 63 = .ok (.iconst 1, 1) := by decide +kernel
theorem dX3_digestPotentials_64 : decode cX3_digestPotentials 64 = .ok (.invokestatic 155, 3) := by decide +kernel
theorem dX3_digestPotentials_67 : decode cX3_digestPotentials 67 = .ok (.invokestatic 254, 3) := by decide +kernel
theorem dX3_digestPotentials_70 : decode cX3_digestPotentials 70 = .ok (.lstore 4, 2) := by decide +kernel
theorem dX3_digestPotentials_72 : decode cX3_digestPotentials 72 = .ok (.lload 4, 2) := by decide +kernel
theorem dX3_digestPotentials_74 : decode cX3_digestPotentials 74 = .ok (.aload_n 0, 1) := by decide +kernel
theorem dX3_digestPotentials_75 : decode cX3_digestPotentials 75 = .ok (.getfield 26, 3) := by decide +kernel
theorem dX3_digestPotentials_78 : decode cX3_digestPotentials 78 = .ok (.iload 6, 2) := by decide +kernel
theorem dX3_digestPotentials_80 : decode cX3_digestPotentials 80 = .ok (.invokevirtual 147, 3) := by decide +kernel
theorem dX3_digestPotentials_83 : decode cX3_digestPotentials 83 = .ok (.aload_n 0, 1) := by decide +kernel
theorem dX3_digestPotentials_84 : decode cX3_digestPotentials 84 = .ok (.getfield 26, 3) := by decide +kernel
theorem dX3_digestPotentials_87 : decode cX3_digestPotentials 87 = .ok (.invokevirtual 151, 3) := by decide +kernel
theorem dX3_digestPotentials_90 : decode cX3_digestPotentials 90 = .ok (.iconst 0, 1) := by decide +kernel
theorem dX3_digestPotentials_91 : decode cX3_digestPotentials 91 = .ok (.invokestatic 155, 3) := by decide +kernel
theorem dX3_digestPotentials_94 : decode cX3_digestPotentials 94 = .ok (.invokestatic 254, 3) := by decide +kernel
theorem dX3_digestPotentials_97 : decode cX3_digestPotentials 97 = .ok (.lstore 4, 2) := by decide +kernel
theorem dX3_digestPotentials_99 : decode cX3_digestPotentials 99 = .ok (.iinc 6 1, 3) := by decide +kernel
theorem dX3_digestPotentials_102 : decode cX3_digestPotentials 102 = .ok (.goto (-91), 3) := by decide +kernel
theorem dX3_digestPotentials_105 : decode cX3_digestPotentials 105 = .ok (.lload 4, 2) := by decide +kernel
theorem dX3_digestPotentials_107 : decode cX3_digestPotentials 107 = .ok (.lreturn, 1) := by decide +kernel
theorem dX3_digestOf_0 : decode cX3_digestOf 0 = .ok (.lload_n 0, 1) := by decide +kernel
theorem dX3_digestOf_1 : decode cX3_digestOf 1 = .ok (.ldc2_w 264, 3) := by decide +kernel
theorem dX3_digestOf_4 : decode cX3_digestOf 4 = .ok (.lmul, 1) := by decide +kernel
theorem dX3_digestOf_5 : decode cX3_digestOf 5 = .ok (.lload_n 2, 1) := by decide +kernel
theorem dX3_digestOf_6 : decode cX3_digestOf 6 = .ok (.ladd, 1) := by decide +kernel
theorem dX3_digestOf_7 : decode cX3_digestOf 7 = .ok (.lreturn, 1) := by decide +kernel
theorem dX3_partOf_0 : decode cX3_partOf 0 = .ok (.iload 4, 2) := by decide +kernel
theorem dX3_partOf_2 : decode cX3_partOf 2 = .ok (.ifCond .eq 7, 3) := by decide +kernel
theorem dX3_partOf_5 : decode cX3_partOf 5 = .ok (.lload_n 0, 1) := by decide +kernel
theorem dX3_partOf_6 : decode cX3_partOf 6 = .ok (.goto 4, 3) := by decide +kernel
theorem dX3_partOf_9 : decode cX3_partOf 9 = .ok (.lload_n 2, 1) := by decide +kernel
theorem dX3_partOf_10 : decode cX3_partOf 10 = .ok (.lstore 5, 2) := by decide +kernel
theorem dX3_partOf_12 : decode cX3_partOf 12 = .ok (.lload_n 0, 1) := by decide +kernel
theorem dX3_partOf_13 : decode cX3_partOf 13 = .ok (.invokestatic 266, 3) := by decide +kernel
theorem dX3_partOf_16 : decode cX3_partOf 16 = .ok (.lload_n 2, 1) := by decide +kernel
theorem dX3_partOf_17 : decode cX3_partOf 17 = .ok (.invokestatic 271, 3) := by decide +kernel
theorem dX3_partOf_20 : decode cX3_partOf 20 = .ok (.lstore 7, 2) := by decide +kernel
theorem dX3_partOf_22 : decode cX3_partOf 22 = .ok (.lload 7, 2) := by decide +kernel
theorem dX3_partOf_24 : decode cX3_partOf 24 = .ok (.lconst 1, 1) := by decide +kernel
theorem dX3_partOf_25 : decode cX3_partOf 25 = .ok (.lcmp, 1) := by decide +kernel
theorem dX3_partOf_26 : decode cX3_partOf 26 = .ok (.ifCond .le 11, 3) := by decide +kernel
theorem dX3_partOf_29 : decode cX3_partOf 29 = .ok (.lload 5, 2) := by decide +kernel
theorem dX3_partOf_31 : decode cX3_partOf 31 = .ok (.lload 7, 2) := by decide +kernel
theorem dX3_partOf_33 : decode cX3_partOf 33 = .ok (.ldiv, 1) := by decide +kernel
theorem dX3_partOf_34 : decode cX3_partOf 34 = .ok (.goto 5, 3) := by decide +kernel
theorem dX3_partOf_37 : decode cX3_partOf 37 = .ok (.lload 5, 2) := by decide +kernel
theorem dX3_partOf_39 : decode cX3_partOf 39 = .ok (.lreturn, 1) := by decide +kernel
theorem dX3_commonDivisor_0 : decode cX3_commonDivisor 0 = .ok (.lload_n 0, 1) := by decide +kernel
theorem dX3_commonDivisor_1 : decode cX3_commonDivisor 1 = .ok (.lstore 4, 2) := by decide +kernel
theorem dX3_commonDivisor_3 : decode cX3_commonDivisor 3 = .ok (.lload_n 2, 1) := by decide +kernel
theorem dX3_commonDivisor_4 : decode cX3_commonDivisor 4 = .ok (.lstore 6, 2) := by decide +kernel
theorem dX3_commonDivisor_6 : decode cX3_commonDivisor 6 = .ok (.iconst 0, 1) := by decide +kernel
theorem dX3_commonDivisor_7 : decode cX3_commonDivisor 7 = .ok (.istore 8, 2) := by decide +kernel
theorem dX3_commonDivisor_9 : decode cX3_commonDivisor 9 = .ok (.iload 8, 2) := by decide +kernel
theorem dX3_commonDivisor_11 : decode cX3_commonDivisor 11 = .ok (.sipush 200, 3) := by decide +kernel
theorem dX3_commonDivisor_14 : decode cX3_commonDivisor 14 = .ok (.if_icmp .ge 31, 3) := by decide +kernel
theorem dX3_commonDivisor_17 : decode cX3_commonDivisor 17 = .ok (.lload 6, 2) := by decide +kernel
theorem dX3_commonDivisor_19 : decode cX3_commonDivisor 19 = .ok (.lconst 0, 1) := by decide +kernel
theorem dX3_commonDivisor_20 : decode cX3_commonDivisor 20 = .ok (.lcmp, 1) := by decide +kernel
theorem dX3_commonDivisor_21 : decode cX3_commonDivisor 21 = .ok (.ifCond .eq 24, 3) := by decide +kernel
theorem dX3_commonDivisor_24 : decode cX3_commonDivisor 24 = .ok (.lload 4, 2) := by decide +kernel
theorem dX3_commonDivisor_26 : decode cX3_commonDivisor 26 = .ok (.lload 6, 2) := by decide +kernel
theorem dX3_commonDivisor_28 : decode cX3_commonDivisor 28 = .ok (.lrem, 1) := by decide +kernel
theorem dX3_commonDivisor_29 : decode cX3_commonDivisor 29 = .ok (.lstore 9, 2) := by decide +kernel
theorem dX3_commonDivisor_31 : decode cX3_commonDivisor 31 = .ok (.lload 6, 2) := by decide +kernel
theorem dX3_commonDivisor_33 : decode cX3_commonDivisor 33 = .ok (.lstore 4, 2) := by decide +kernel
theorem dX3_commonDivisor_35 : decode cX3_commonDivisor 35 = .ok (.lload 9, 2) := by decide +kernel
theorem dX3_commonDivisor_37 : decode cX3_commonDivisor 37 = .ok (.lstore 6, 2) := by decide +kernel
theorem dX3_commonDivisor_39 : decode cX3_commonDivisor 39 = .ok (.iinc 8 1, 3) := by decide +kernel
theorem dX3_commonDivisor_42 : decode cX3_commonDivisor 42 = .ok (.goto (-33), 3) := by decide +kernel
theorem dX3_commonDivisor_45 : decode cX3_commonDivisor 45 = .ok (.lload 4, 2) := by decide +kernel
theorem dX3_commonDivisor_47 : decode cX3_commonDivisor 47 = .ok (.lreturn, 1) := by decide +kernel
theorem dX3_compareFractions_0 : decode cX3_compareFractions 0 = .ok (.lload_n 0, 1) := by decide +kernel
theorem dX3_compareFractions_1 : decode cX3_compareFractions 1 = .ok (.lstore 8, 2) := by decide +kernel
theorem dX3_compareFractions_3 : decode cX3_compareFractions 3 = .ok (.lload_n 2, 1) := by decide +kernel
theorem dX3_compareFractions_4 : decode cX3_compareFractions 4 = .ok (.lstore 10, 2) := by decide +kernel
theorem dX3_compareFractions_6 : decode cX3_compareFractions 6 = .ok (.lload 4, 2) := by decide +kernel
theorem dX3_compareFractions_8 : decode cX3_compareFractions 8 = .ok (.lstore 12, 2) := by decide +kernel
theorem dX3_compareFractions_10 : decode cX3_compareFractions 10 = .ok (.lload 6, 2) := by decide +kernel
theorem dX3_compareFractions_12 : decode cX3_compareFractions 12 = .ok (.lstore 14, 2) := by decide +kernel
theorem dX3_compareFractions_14 : decode cX3_compareFractions 14 = .ok (.iconst 1, 1) := by decide +kernel
theorem dX3_compareFractions_15 : decode cX3_compareFractions 15 = .ok (.istore 16, 2) := by decide +kernel
theorem dX3_compareFractions_17 : decode cX3_compareFractions 17 = .ok (.iconst 0, 1) := by decide +kernel
theorem dX3_compareFractions_18 : decode cX3_compareFractions 18 = .ok (.istore 17, 2) := by decide +kernel
theorem dX3_compareFractions_20 : decode cX3_compareFractions 20 = .ok (.iload 17, 2) := by decide +kernel
theorem dX3_compareFractions_22 : decode cX3_compareFractions 22 = .ok (.sipush 200, 3) := by decide +kernel
theorem dX3_compareFractions_25 : decode cX3_compareFractions 25 = .ok (.if_icmp .ge 92, 3) := by decide +kernel
theorem dX3_compareFractions_28 : decode cX3_compareFractions 28 = .ok (.lload 10, 2) := by decide +kernel
theorem dX3_compareFractions_30 : decode cX3_compareFractions 30 = .ok (.lconst 0, 1) := by decide +kernel
theorem dX3_compareFractions_31 : decode cX3_compareFractions 31 = .ok (.lcmp, 1) := by decide +kernel
theorem dX3_compareFractions_32 : decode cX3_compareFractions 32 = .ok (.ifCond .eq 85, 3) := by decide +kernel
theorem dX3_compareFractions_35 : decode cX3_compareFractions 35 = .ok (.lload 14, 2) := by decide +kernel
theorem dX3_compareFractions_37 : decode cX3_compareFractions 37 = .ok (.lconst 0, 1) := by decide +kernel
theorem dX3_compareFractions_38 : decode cX3_compareFractions 38 = .ok (.lcmp, 1) := by decide +kernel
theorem dX3_compareFractions_39 : decode cX3_compareFractions 39 = .ok (.ifCond .eq 78, 3) := by decide +kernel
theorem dX3_compareFractions_42 : decode cX3_compareFractions 42 = .ok (.lload 8, 2) := by decide +kernel
theorem dX3_compareFractions_44 : decode cX3_compareFractions 44 = .ok (.lload 10, 2) := by decide +kernel
theorem dX3_compareFractions_46 : decode cX3_compareFractions 46 = .ok (.invokestatic 274, 3) := by decide +kernel
theorem dX3_compareFractions_49 : decode cX3_compareFractions 49 = .ok (.lload 12, 2) := by decide +kernel
theorem dX3_compareFractions_51 : decode cX3_compareFractions 51 = .ok (.lload 14, 2) := by decide +kernel
theorem dX3_compareFractions_53 : decode cX3_compareFractions 53 = .ok (.invokestatic 274, 3) := by decide +kernel
theorem dX3_compareFractions_56 : decode cX3_compareFractions 56 = .ok (.invokestatic 277, 3) := by decide +kernel
theorem dX3_compareFractions_59 : decode cX3_compareFractions 59 = .ok (.istore 18, 2) := by decide +kernel
theorem dX3_compareFractions_61 : decode cX3_compareFractions 61 = .ok (.iload 18, 2) := by decide +kernel
theorem dX3_compareFractions_63 : decode cX3_compareFractions 63 = .ok (.ifCond .eq 9, 3) := by decide +kernel
theorem dX3_compareFractions_66 : decode cX3_compareFractions 66 = .ok (.iload 16, 2) := by decide +kernel
theorem dX3_compareFractions_68 : decode cX3_compareFractions 68 = .ok (.iload 18, 2) := by decide +kernel
theorem dX3_compareFractions_70 : decode cX3_compareFractions 70 = .ok (.imul, 1) := by decide +kernel
theorem dX3_compareFractions_71 : decode cX3_compareFractions 71 = .ok (.ireturn, 1) := by decide +kernel
theorem dX3_compareFractions_72 : decode cX3_compareFractions 72 = .ok (.lload 8, 2) := by decide +kernel
theorem dX3_compareFractions_74 : decode cX3_compareFractions 74 = .ok (.lload 10, 2) := by decide +kernel
theorem dX3_compareFractions_76 : decode cX3_compareFractions 76 = .ok (.invokestatic 283, 3) := by decide +kernel
theorem dX3_compareFractions_79 : decode cX3_compareFractions 79 = .ok (.lstore 19, 2) := by decide +kernel
theorem dX3_compareFractions_81 : decode cX3_compareFractions 81 = .ok (.lload 12, 2) := by decide +kernel
theorem dX3_compareFractions_83 : decode cX3_compareFractions 83 = .ok (.lload 14, 2) := by decide +kernel
theorem dX3_compareFractions_85 : decode cX3_compareFractions 85 = .ok (.invokestatic 283, 3) := by decide +kernel
theorem dX3_compareFractions_88 : decode cX3_compareFractions 88 = .ok (.lstore 21, 2) := by decide +kernel
theorem dX3_compareFractions_90 : decode cX3_compareFractions 90 = .ok (.lload 10, 2) := by decide +kernel
theorem dX3_compareFractions_92 : decode cX3_compareFractions 92 = .ok (.lstore 8, 2) := by decide +kernel
theorem dX3_compareFractions_94 : decode cX3_compareFractions 94 = .ok (.lload 19, 2) := by decide +kernel
theorem dX3_compareFractions_96 : decode cX3_compareFractions 96 = .ok (.lstore 10, 2) := by decide +kernel
theorem dX3_compareFractions_98 : decode cX3_compareFractions 98 = .ok (.lload 14, 2) := by decide +kernel
theorem dX3_compareFractions_100 : decode cX3_compareFractions 100 = .ok (.lstore 12, 2) := by decide +kernel
theorem dX3_compareFractions_102 : decode cX3_compareFractions 102 = .ok (.lload 21, 2) := by decide +kernel
theorem dX3_compareFractions_104 : decode cX3_compareFractions 104 = .ok (.lstore 14, 2) := by decide +kernel
theorem dX3_compareFractions_106 : decode cX3_compareFractions 106 = .ok (.iload 16, 2) := by decide +kernel
theorem dX3_compareFractions_108 : decode cX3_compareFractions 108 = .ok (.ineg, 1) := by decide +kernel
theorem dX3_compareFractions_109 : decode cX3_compareFractions 109 = .ok (.istore 16, 2) := by decide +kernel
theorem dX3_compareFractions_111 : decode cX3_compareFractions 111 = .ok (.iinc 17 1, 3) := by decide +kernel
theorem dX3_compareFractions_114 : decode cX3_compareFractions 114 = .ok (.goto (-94), 3) := by decide +kernel
theorem dX3_compareFractions_117 : decode cX3_compareFractions 117 = .ok (.lload 10, 2) := by decide +kernel
theorem dX3_compareFractions_119 : decode cX3_compareFractions 119 = .ok (.lload 14, 2) := by decide +kernel
theorem dX3_compareFractions_121 : decode cX3_compareFractions 121 = .ok (.lcmp, 1) := by decide +kernel
theorem dX3_compareFractions_122 : decode cX3_compareFractions 122 = .ok (.ifCond .ne 5, 3) := by decide +kernel
theorem dX3_compareFractions_125 : decode cX3_compareFractions 125 = .ok (.iconst 0, 1) := by decide +kernel
theorem dX3_compareFractions_126 : decode cX3_compareFractions 126 = .ok (.ireturn, 1) := by decide +kernel
theorem dX3_compareFractions_127 : decode cX3_compareFractions 127 = .ok (.lload 10, 2) := by decide +kernel
theorem dX3_compareFractions_129 : decode cX3_compareFractions 129 = .ok (.lconst 0, 1) := by decide +kernel
theorem dX3_compareFractions_130 : decode cX3_compareFractions 130 = .ok (.lcmp, 1) := by decide +kernel
theorem dX3_compareFractions_131 : decode cX3_compareFractions 131 = .ok (.ifCond .ne 8, 3) := by decide +kernel
theorem dX3_compareFractions_134 : decode cX3_compareFractions 134 = .ok (.iload 16, 2) := by decide +kernel
theorem dX3_compareFractions_136 : decode cX3_compareFractions 136 = .ok (.goto 6, 3) := by decide +kernel
theorem dX3_compareFractions_139 : decode cX3_compareFractions 139 = .ok (.iload 16, 2) := by decide +kernel
theorem dX3_compareFractions_141 : decode cX3_compareFractions 141 = .ok (.ineg, 1) := by decide +kernel
theorem dX3_compareFractions_142 : decode cX3_compareFractions 142 = .ok (.ireturn, 1) := by decide +kernel
theorem dX4_init_0 : decode cX4_init 0 = .ok (.aload_n 0, 1) := by decide +kernel
theorem dX4_init_1 : decode cX4_init 1 = .ok (.invokespecial 1, 3) := by decide +kernel
theorem dX4_init_4 : decode cX4_init 4 = .ok (.aload_n 0, 1) := by decide +kernel
theorem dX4_init_5 : decode cX4_init 5 = .ok (.bipush 8, 2) := by decide +kernel
theorem dX4_init_7 : decode cX4_init 7 = .ok (.newarray .boolean, 2) := by decide +kernel
theorem dX4_init_9 : decode cX4_init 9 = .ok (.putfield 9, 3) := by decide +kernel
theorem dX4_init_12 : decode cX4_init 12 = .ok (.aload_n 0, 1) := by decide +kernel
theorem dX4_init_13 : decode cX4_init 13 = .ok (.bipush 8, 2) := by decide +kernel
theorem dX4_init_15 : decode cX4_init 15 = .ok (.newarray .int, 2) := by decide +kernel
theorem dX4_init_17 : decode cX4_init 17 = .ok (.putfield 13, 3) := by decide +kernel
theorem dX4_init_20 : decode cX4_init 20 = .ok (.aload_n 0, 1) := by decide +kernel
theorem dX4_init_21 : decode cX4_init 21 = .ok (.bipush 20, 2) := by decide +kernel
theorem dX4_init_23 : decode cX4_init 23 = .ok (.newarray .boolean, 2) := by decide +kernel
theorem dX4_init_25 : decode cX4_init 25 = .ok (.putfield 17, 3) := by decide +kernel
theorem dX4_init_28 : decode cX4_init 28 = .ok (.aload_n 0, 1) := by decide +kernel
theorem dX4_init_29 : decode cX4_init 29 = .ok (.bipush 20, 2) := by decide +kernel
theorem dX4_init_31 : decode cX4_init 31 = .ok (.newarray .int, 2) := by decide +kernel
theorem dX4_init_33 : decode cX4_init 33 = .ok (.putfield 20, 3) := by decide +kernel
theorem dX4_init_36 : decode cX4_init 36 = .ok (.aload_n 0, 1) := by decide +kernel
theorem dX4_init_37 : decode cX4_init 37 = .ok (.bipush 20, 2) := by decide +kernel
theorem dX4_init_39 : decode cX4_init 39 = .ok (.newarray .int, 2) := by decide +kernel
theorem dX4_init_41 : decode cX4_init 41 = .ok (.putfield 23, 3) := by decide +kernel
theorem dX4_init_44 : decode cX4_init 44 = .ok (.aload_n 0, 1) := by decide +kernel
theorem dX4_init_45 : decode cX4_init 45 = .ok (.bipush 20, 2) := by decide +kernel
theorem dX4_init_47 : decode cX4_init 47 = .ok (.newarray .int, 2) := by decide +kernel
theorem dX4_init_49 : decode cX4_init 49 = .ok (.putfield 26, 3) := by decide +kernel
theorem dX4_init_52 : decode cX4_init 52 = .ok (.aload_n 0, 1) := by decide +kernel
theorem dX4_init_53 : decode cX4_init 53 = .ok (.bipush 20, 2) := by decide +kernel
theorem dX4_init_55 : decode cX4_init 55 = .ok (.newarray .boolean, 2) := by decide +kernel
theorem dX4_init_57 : decode cX4_init 57 = .ok (.putfield 29, 3) := by decide +kernel
theorem dX4_init_60 : decode cX4_init 60 = .ok (.aload_n 0, 1) := by decide +kernel
theorem dX4_init_61 : decode cX4_init 61 = .ok (.bipush 20, 2) := by decide +kernel
theorem dX4_init_63 : decode cX4_init 63 = .ok (.newarray .int, 2) := by decide +kernel
theorem dX4_init_65 : decode cX4_init 65 = .ok (.putfield 32, 3) := by decide +kernel
theorem dX4_init_68 : decode cX4_init 68 = .ok (.aload_n 0, 1) := by decide +kernel
theorem dX4_init_69 : decode cX4_init 69 = .ok (.bipush 120, 2) := by decide +kernel
theorem dX4_init_71 : decode cX4_init 71 = .ok (.newarray .int, 2) := by decide +kernel
theorem dX4_init_73 : decode cX4_init 73 = .ok (.putfield 35, 3) := by decide +kernel
theorem dX4_init_76 : decode cX4_init 76 = .ok (.aload_n 0, 1) := by decide +kernel
theorem dX4_init_77 : decode cX4_init 77 = .ok (.bipush 8, 2) := by decide +kernel
theorem dX4_init_79 : decode cX4_init 79 = .ok (.newarray .int, 2) := by decide +kernel
theorem dX4_init_81 : decode cX4_init 81 = .ok (.putfield 38, 3) := by decide +kernel
theorem dX4_init_84 : decode cX4_init 84 = .ok (.aload_n 0, 1) := by decide +kernel
theorem dX4_init_85 : decode cX4_init 85 = .ok (.bipush 64, 2) := by decide +kernel
theorem dX4_init_87 : decode cX4_init 87 = .ok (.newarray .long, 2) := by decide +kernel
theorem dX4_init_89 : decode cX4_init 89 = .ok (.putfield 41, 3) := by decide +kernel
theorem dX4_init_92 : decode cX4_init 92 = .ok (.aload_n 0, 1) := by decide +kernel
theorem dX4_init_93 : decode cX4_init 93 = .ok (.bipush 8, 2) := by decide +kernel
theorem dX4_init_95 : decode cX4_init 95 = .ok (.newarray .long, 2) := by decide +kernel
theorem dX4_init_97 : decode cX4_init 97 = .ok (.putfield 45, 3) := by decide +kernel
theorem dX4_init_100 : decode cX4_init 100 = .ok (.aload_n 0, 1) := by decide +kernel
theorem dX4_init_101 : decode cX4_init 101 = .ok (.sipush 256, 3) := by decide +kernel
theorem dX4_init_104 : decode cX4_init 104 = .ok (.newarray .long, 2) := by decide +kernel
theorem dX4_init_106 : decode cX4_init 106 = .ok (.putfield 48, 3) := by decide +kernel
theorem dX4_init_109 : decode cX4_init 109 = .ok (.aload_n 0, 1) := by decide +kernel
theorem dX4_init_110 : decode cX4_init 110 = .ok (.bipush 8, 2) := by decide +kernel
theorem dX4_init_112 : decode cX4_init 112 = .ok (.newarray .long, 2) := by decide +kernel
theorem dX4_init_114 : decode cX4_init 114 = .ok (.putfield 51, 3) := by decide +kernel
theorem dX4_init_117 : decode cX4_init 117 = .ok (.aload_n 0, 1) := by decide +kernel
theorem dX4_init_118 : decode cX4_init 118 = .ok (.bipush 8, 2) := by decide +kernel
theorem dX4_init_120 : decode cX4_init 120 = .ok (.newarray .boolean, 2) := by decide +kernel
theorem dX4_init_122 : decode cX4_init 122 = .ok (.putfield 54, 3) := by decide +kernel
theorem dX4_init_125 : decode cX4_init 125 = .ok (.return_, 1) := by decide +kernel
theorem dX4_thrown_0 : decode cX4_thrown 0 = .ok (.aload_n 0, 1) := by decide +kernel
theorem dX4_thrown_1 : decode cX4_thrown 1 = .ok (.getfield 57, 3) := by decide +kernel
theorem dX4_thrown_4 : decode cX4_thrown 4 = .ok (.ireturn, 1) := by decide +kernel
theorem dX4_fail_0 : decode cX4_fail 0 = .ok (.aload_n 0, 1) := by decide +kernel
theorem dX4_fail_1 : decode cX4_fail 1 = .ok (.iload_n 1, 1) := by decide +kernel
theorem dX4_fail_2 : decode cX4_fail 2 = .ok (.putfield 57, 3) := by decide +kernel
theorem dX4_fail_5 : decode cX4_fail 5 = .ok (.iconst 0, 1) := by decide +kernel
theorem dX4_fail_6 : decode cX4_fail 6 = .ok (.ireturn, 1) := by decide +kernel
theorem dX4_isIn_0 : decode cX4_isIn 0 = .ok (.iload_n 0, 1) := by decide +kernel
theorem dX4_isIn_1 : decode cX4_isIn 1 = .ok (.iload_n 1, 1) := by decide +kernel
theorem dX4_isIn_2 : decode cX4_isIn 2 = .ok (.if_icmp .lt 12, 3) := by decide +kernel
theorem dX4_isIn_5 : decode cX4_isIn 5 = .ok (.iload_n 0, 1) := by decide +kernel
theorem dX4_isIn_6 : decode cX4_isIn 6 = .ok (.iload_n 2, 1) := by decide +kernel
theorem dX4_isIn_7 : decode cX4_isIn 7 = .ok (.if_icmp .gt 7, 3) := by decide +kernel
theorem dX4_isIn_10 : decode cX4_isIn 10 = .ok (.iconst 1, 1) := by decide +kernel
theorem dX4_isIn_11 : decode cX4_isIn 11 = .ok (.goto 4, 3) := by decide +kernel
theorem dX4_isIn_14 : decode cX4_isIn 14 = .ok (.iconst 0, 1) := by decide +kernel
theorem dX4_isIn_15 : decode cX4_isIn 15 = .ok (.ireturn, 1) := by decide +kernel
theorem dX4_isNode_0 : decode cX4_isNode 0 = .ok (.iload_n 1, 1) := by decide +kernel
theorem dX4_isNode_1 : decode cX4_isNode 1 = .ok (.iconst 0, 1) := by decide +kernel
theorem dX4_isNode_2 : decode cX4_isNode 2 = .ok (.aload_n 0, 1) := by decide +kernel
theorem dX4_isNode_3 : decode cX4_isNode 3 = .ok (.getfield 61, 3) := by decide +kernel
theorem dX4_isNode_6 : decode cX4_isNode 6 = .ok (.iconst 1, 1) := by decide +kernel
theorem dX4_isNode_7 : decode cX4_isNode 7 = .ok (.isub, 1) := by decide +kernel
theorem dX4_isNode_8 : decode cX4_isNode 8 = .ok (.invokestatic 64, 3) := by decide +kernel
theorem dX4_isNode_11 : decode cX4_isNode 11 = .ok (.ireturn, 1) := by decide +kernel
theorem dX4_isElement_0 : decode cX4_isElement 0 = .ok (.iload_n 1, 1) := by decide +kernel
theorem dX4_isElement_1 : decode cX4_isElement 1 = .ok (.iconst 0, 1) := by decide +kernel
theorem dX4_isElement_2 : decode cX4_isElement 2 = .ok (.aload_n 0, 1) := by decide +kernel
theorem dX4_isElement_3 : decode cX4_isElement 3 = .ok (.getfield 68, 3) := by decide +kernel
theorem dX4_isElement_6 : decode cX4_isElement 6 = .ok (.iconst 1, 1) := by decide +kernel
theorem dX4_isElement_7 : decode cX4_isElement 7 = .ok (.isub, 1) := by decide +kernel
theorem dX4_isElement_8 : decode cX4_isElement 8 = .ok (.invokestatic 64, 3) := by decide +kernel
theorem dX4_isElement_11 : decode cX4_isElement 11 = .ok (.ireturn, 1) := by decide +kernel
theorem dX4_isTime_0 : decode cX4_isTime 0 = .ok (.iload_n 0, 1) := by decide +kernel
theorem dX4_isTime_1 : decode cX4_isTime 1 = .ok (.iconst 0, 1) := by decide +kernel
theorem dX4_isTime_2 : decode cX4_isTime 2 = .ok (.sipush 999, 3) := by decide +kernel
theorem dX4_isTime_5 : decode cX4_isTime 5 = .ok (.invokestatic 64, 3) := by decide +kernel
theorem dX4_isTime_8 : decode cX4_isTime 8 = .ok (.ireturn, 1) := by decide +kernel
theorem dX4_isSize_0 : decode cX4_isSize 0 = .ok (.iload_n 0, 1) := by decide +kernel
theorem dX4_isSize_1 : decode cX4_isSize 1 = .ok (.ifCond .eq 14, 3) := by decide +kernel
theorem dX4_isSize_4 : decode cX4_isSize 4 = .ok (.iload_n 1, 1) := by decide +kernel
theorem dX4_isSize_5 : decode cX4_isSize 5 = .ok (.bipush (-99), 2) := by decide +kernel
theorem dX4_isSize_7 : decode cX4_isSize 7 = .ok (.bipush 99, 2) := by decide +kernel
theorem dX4_isSize_9 : decode cX4_isSize 9 = .ok (.invokestatic 64, 3) := by decide +kernel
theorem dX4_isSize_12 : decode cX4_isSize 12 = .ok (.goto 10, 3) := by decide +kernel
theorem dX4_isSize_15 : decode cX4_isSize 15 = .ok (.iload_n 1, 1) := by decide +kernel
theorem dX4_isSize_16 : decode cX4_isSize 16 = .ok (.iconst 1, 1) := by decide +kernel
theorem dX4_isSize_17 : decode cX4_isSize 17 = .ok (.bipush 9, 2) := by decide +kernel
theorem dX4_isSize_19 : decode cX4_isSize 19 = .ok (.invokestatic 64, 3) := by decide +kernel
theorem dX4_isSize_22 : decode cX4_isSize 22 = .ok (.ireturn, 1) := by decide +kernel
theorem dX4_addNode_0 : decode cX4_addNode 0 = .ok (.aload_n 0, 1) := by decide +kernel
theorem dX4_addNode_1 : decode cX4_addNode 1 = .ok (.iconst 0, 1) := by decide +kernel
theorem dX4_addNode_2 : decode cX4_addNode 2 = .ok (.putfield 57, 3) := by decide +kernel
theorem dX4_addNode_5 : decode cX4_addNode 5 = .ok (.aload_n 0, 1) := by decide +kernel
theorem dX4_addNode_6 : decode cX4_addNode 6 = .ok (.getfield 61, 3) := by decide +kernel
theorem dX4_addNode_9 : decode cX4_addNode 9 = .ok (.bipush 8, 2) := by decide +kernel
theorem dX4_addNode_11 : decode cX4_addNode 11 = .ok (.if_icmp .ne 9, 3) := by decide +kernel
theorem dX4_addNode_14 : decode cX4_addNode 14 = .ok (.aload_n 0, 1) := by decide +kernel
theorem dX4_addNode_15 : decode cX4_addNode 15 = .ok (.iconst 1, 1) := by decide +kernel
theorem dX4_addNode_16 : decode cX4_addNode 16 = .ok (.invokevirtual 71, 3) := by decide +kernel
theorem dX4_addNode_19 : decode cX4_addNode 19 = .ok (.ireturn, 1) := by decide +kernel
theorem dX4_addNode_20 : decode cX4_addNode 20 = .ok (.aload_n 0, 1) := by decide +kernel
theorem dX4_addNode_21 : decode cX4_addNode 21 = .ok (.getfield 9, 3) := by decide +kernel
theorem dX4_addNode_24 : decode cX4_addNode 24 = .ok (.aload_n 0, 1) := by decide +kernel
theorem dX4_addNode_25 : decode cX4_addNode 25 = .ok (.getfield 61, 3) := by decide +kernel
theorem dX4_addNode_28 : decode cX4_addNode 28 = .ok (.iconst 0, 1) := by decide +kernel
theorem dX4_addNode_29 : decode cX4_addNode 29 = .ok (.bastore, 1) := by decide +kernel
theorem dX4_addNode_30 : decode cX4_addNode 30 = .ok (.aload_n 0, 1) := by decide +kernel
theorem dX4_addNode_31 : decode cX4_addNode 31 = .ok (.dup, 1) := by decide +kernel
theorem dX4_addNode_32 : decode cX4_addNode 32 = .ok (.getfield 61, 3) := by decide +kernel
theorem dX4_addNode_35 : decode cX4_addNode 35 = .ok (.iconst 1, 1) := by decide +kernel
theorem dX4_addNode_36 : decode cX4_addNode 36 = .ok (.iadd, 1) := by decide +kernel
theorem dX4_addNode_37 : decode cX4_addNode 37 = .ok (.putfield 61, 3) := by decide +kernel
theorem dX4_addNode_40 : decode cX4_addNode 40 = .ok (.aload_n 0, 1) := by decide +kernel
theorem dX4_addNode_41 : decode cX4_addNode 41 = .ok (.getfield 61, 3) := by decide +kernel
theorem dX4_addNode_44 : decode cX4_addNode 44 = .ok (.iconst 1, 1) := by decide +kernel
theorem dX4_addNode_45 : decode cX4_addNode 45 = .ok (.isub, 1) := by decide +kernel
theorem dX4_addNode_46 : decode cX4_addNode 46 = .ok (.ireturn, 1) := by decide +kernel
theorem dX4_rail_0 : decode cX4_rail 0 = .ok (.aload_n 0, 1) := by decide +kernel
theorem dX4_rail_1 : decode cX4_rail 1 = .ok (.aload_n 0, 1) := by decide +kernel
theorem dX4_rail_2 : decode cX4_rail 2 = .ok (.iload_n 1, 1) := by decide +kernel
theorem dX4_rail_3 : decode cX4_rail 3 = .ok (.invokevirtual 75, 3) := by decide +kernel
theorem dX4_rail_6 : decode cX4_rail 6 = .ok (.ifCond .ne 7, 3) := by decide +kernel
theorem dX4_rail_9 : decode cX4_rail 9 = .ok (.iconst 1, 1) := by decide +kernel
theorem dX4_rail_10 : decode cX4_rail 10 = .ok (.goto 23, 3) := by decide +kernel
theorem dX4_rail_13 : decode cX4_rail 13 = .ok (.iload_n 2, 1) := by decide +kernel
theorem dX4_rail_14 : decode cX4_rail 14 = .ok (.ifCond .eq 18, 3) := by decide +kernel
theorem dX4_rail_17 : decode cX4_rail 17 = .ok (.iload_n 3, 1) := by decide +kernel
theorem dX4_rail_18 : decode cX4_rail 18 = .ok (.bipush (-99), 2) := by decide +kernel
theorem dX4_rail_20 : decode cX4_rail 20 = .ok (.bipush 99, 2) := by decide +kernel
theorem dX4_rail_22 : decode cX4_rail 22 = .ok (.invokestatic 64, 3) := by decide +kernel
theorem dX4_rail_25 : decode cX4_rail 25 = .ok (.ifCond .ne 7, 3) := by decide +kernel
theorem dX4_rail_28 : decode cX4_rail 28 = .ok (.iconst 2, 1) := by decide +kernel
theorem dX4_rail_29 : decode cX4_rail 29 = .ok (.goto 4, 3) := by decide +kernel
theorem dX4_rail_32 : decode cX4_rail 32 = .ok (.iconst 0, 1) := by decide +kernel
theorem dX4_rail_33 : decode cX4_rail 33 = .ok (.putfield 57, 3) := by decide +kernel
theorem dX4_rail_36 : decode cX4_rail 36 = .ok (.aload_n 0, 1) := by decide +kernel
theorem dX4_rail_37 : decode cX4_rail 37 = .ok (.getfield 57, 3) := by decide +kernel
theorem dX4_rail_40 : decode cX4_rail 40 = .ok (.ifCond .eq 5, 3) := by decide +kernel
theorem dX4_rail_43 : decode cX4_rail 43 = .ok (.iconst 0, 1) := by decide +kernel
theorem dX4_rail_44 : decode cX4_rail 44 = .ok (.ireturn, 1) := by decide +kernel
theorem dX4_rail_45 : decode cX4_rail 45 = .ok (.aload_n 0, 1) := by decide +kernel
theorem dX4_rail_46 : decode cX4_rail 46 = .ok (.getfield 9, 3) := by decide +kernel
theorem dX4_rail_49 : decode cX4_rail 49 = .ok (.iload_n 1, 1) := by decide +kernel
theorem dX4_rail_50 : decode cX4_rail 50 = .ok (.baload, 1) := by decide +kernel
theorem dX4_rail_51 : decode cX4_rail 51 = .ok (.istore 4, 2) := by decide +kernel
theorem dX4_rail_53 : decode cX4_rail 53 = .ok (.aload_n 0, 1) := by decide +kernel
theorem dX4_rail_54 : decode cX4_rail 54 = .ok (.getfield 9, 3) := by decide +kernel
theorem dX4_rail_57 : decode cX4_rail 57 = .ok (.iload_n 1, 1) := by decide +kernel
theorem dX4_rail_58 : decode cX4_rail 58 = .ok (.iload_n 2, 1) := by decide +kernel
theorem dX4_rail_59 : decode cX4_rail 59 = .ok (.bastore, 1) := by decide +kernel
theorem dX4_rail_60 : decode cX4_rail 60 = .ok (.aload_n 0, 1) := by decide +kernel
theorem dX4_rail_61 : decode cX4_rail 61 = .ok (.getfield 13, 3) := by decide +kernel
theorem dX4_rail_64 : decode cX4_rail 64 = .ok (.iload_n 1, 1) := by decide +kernel
theorem dX4_rail_65 : decode cX4_rail 65 = .ok (.iload_n 3, 1) := by decide +kernel
theorem dX4_rail_66 : decode cX4_rail 66 = .ok (.iastore, 1) := by decide +kernel
theorem dX4_rail_67 : decode cX4_rail 67 = .ok (.iload 4, 2) := by decide +kernel
theorem dX4_rail_69 : decode cX4_rail 69 = .ok (.ireturn, 1) := by decide +kernel
theorem dX4_addElement_0 : decode cX4_addElement 0 = .ok (.aload_n 0, 1) := by decide +kernel
theorem dX4_addElement_1 : decode cX4_addElement 1 = .ok (.iconst 0, 1) := by decide +kernel
theorem dX4_addElement_2 : decode cX4_addElement 2 = .ok (.putfield 57, 3) := by decide +kernel
theorem dX4_addElement_5 : decode cX4_addElement 5 = .ok (.aload_n 0, 1) := by decide +kernel
theorem dX4_addElement_6 : decode cX4_addElement 6 = .ok (.iload_n 2, 1) := by decide +kernel
theorem dX4_addElement_7 : decode cX4_addElement 7 = .ok (.invokevirtual 75, 3) := by decide +kernel
theorem dX4_addElement_10 : decode cX4_addElement 10 = .ok (.ifCond .eq 11, 3) := by decide +kernel
theorem dX4_addElement_13 : decode cX4_addElement 13 = .ok (.aload_n 0, 1) := by decide +kernel
theorem dX4_addElement_14 : decode cX4_addElement 14 = .ok (.iload_n 3, 1) := by decide +kernel
theorem dX4_addElement_15 : decode cX4_addElement 15 = .ok (.invokevirtual 75, 3) := by decide +kernel
theorem dX4_addElement_18 : decode cX4_addElement 18 = .ok (.ifCond .ne 9, 3) := by decide +kernel
theorem dX4_addElement_21 : decode cX4_addElement 21 = .ok (.aload_n 0, 1) := by decide +kernel
theorem dX4_addElement_22 : decode cX4_addElement 22 = .ok (.iconst 1, 1) := by decide +kernel
theorem dX4_addElement_23 : decode cX4_addElement 23 = .ok (.invokevirtual 71, 3) := by decide +kernel
theorem dX4_addElement_26 : decode cX4_addElement 26 = .ok (.ireturn, 1) := by decide +kernel
theorem dX4_addElement_27 : decode cX4_addElement 27 = .ok (.iload_n 2, 1) := by decide +kernel
theorem dX4_addElement_28 : decode cX4_addElement 28 = .ok (.iload_n 3, 1) := by decide +kernel
theorem dX4_addElement_29 : decode cX4_addElement 29 = .ok (.if_icmp .eq 12, 3) := by decide +kernel
theorem dX4_addElement_32 : decode cX4_addElement 32 = .ok (.iload_n 1, 1) := by decide +kernel
theorem dX4_addElement_33 : decode cX4_addElement 33 = .ok (.iload 4, 2) := by decide +kernel
theorem dX4_addElement_35 : decode cX4_addElement 35 = .ok (.invokestatic 79, 3) := by decide +kernel
theorem dX4_addElement_38 : decode cX4_addElement 38 = .ok (.ifCond .ne 9, 3) := by decide +kernel
theorem dX4_addElement_41 : decode cX4_addElement 41 = .ok (.aload_n 0, 1) := by decide +kernel
theorem dX4_addElement_42 : decode cX4_addElement 42 = .ok (.iconst 2, 1) := by decide +kernel
theorem dX4_addElement_43 : decode cX4_addElement 43 = .ok (.invokevirtual 71, 3) := by decide +kernel
theorem dX4_addElement_46 : decode cX4_addElement 46 = .ok (.ireturn, 1) := by decide +kernel
theorem dX4_addElement_47 : decode cX4_addElement 47 = .ok (.aload_n 0, 1) := by decide +kernel
theorem dX4_addElement_48 : decode cX4_addElement 48 = .ok (.getfield 68, 3) := by decide +kernel
theorem dX4_addElement_51 : decode cX4_addElement 51 = .ok (.bipush 20, 2) := by decide +kernel
theorem dX4_addElement_53 : decode cX4_addElement 53 = .ok (.if_icmp .ne 9, 3) := by decide +kernel
theorem dX4_addElement_56 : decode cX4_addElement 56 = .ok (.aload_n 0, 1) := by decide +kernel
theorem dX4_addElement_57 : decode cX4_addElement 57 = .ok (.iconst 3, 1) := by decide +kernel
theorem dX4_addElement_58 : decode cX4_addElement 58 = .ok (.invokevirtual 71, 3) := by decide +kernel
theorem dX4_addElement_61 : decode cX4_addElement 61 = .ok (.ireturn, 1) := by decide +kernel
theorem dX4_addElement_62 : decode cX4_addElement 62 = .ok (.aload_n 0, 1) := by decide +kernel
theorem dX4_addElement_63 : decode cX4_addElement 63 = .ok (.getfield 17, 3) := by decide +kernel
theorem dX4_addElement_66 : decode cX4_addElement 66 = .ok (.aload_n 0, 1) := by decide +kernel
theorem dX4_addElement_67 : decode cX4_addElement 67 = .ok (.getfield 68, 3) := by decide +kernel
theorem dX4_addElement_70 : decode cX4_addElement 70 = .ok (.iload_n 1, 1) := by decide +kernel
theorem dX4_addElement_71 : decode cX4_addElement 71 = .ok (.bastore, 1) := by decide +kernel
theorem dX4_addElement_72 : decode cX4_addElement 72 = .ok (.aload_n 0, 1) := by decide +kernel
theorem dX4_addElement_73 : decode cX4_addElement 73 = .ok (.getfield 20, 3) := by decide +kernel
theorem dX4_addElement_76 : decode cX4_addElement 76 = .ok (.aload_n 0, 1) := by decide +kernel
theorem dX4_addElement_77 : decode cX4_addElement 77 = .ok (.getfield 68, 3) := by decide +kernel
theorem dX4_addElement_80 : decode cX4_addElement 80 = .ok (.iload_n 2, 1) := by decide +kernel
theorem dX4_addElement_81 : decode cX4_addElement 81 = .ok (.iastore, 1) := by decide +kernel
theorem dX4_addElement_82 : decode cX4_addElement 82 = .ok (.aload_n 0, 1) := by decide +kernel
theorem dX4_addElement_83 : decode cX4_addElement 83 = .ok (.getfield 23, 3) := by decide +kernel
theorem dX4_addElement_86 : decode cX4_addElement 86 = .ok (.aload_n 0, 1) := by decide +kernel
theorem dX4_addElement_87 : decode cX4_addElement 87 = .ok (.getfield 68, 3) := by decide +kernel
theorem dX4_addElement_90 : decode cX4_addElement 90 = .ok (.iload_n 3, 1) := by decide +kernel
theorem dX4_addElement_91 : decode cX4_addElement 91 = .ok (.iastore, 1) := by decide +kernel
theorem dX4_addElement_92 : decode cX4_addElement 92 = .ok (.aload_n 0, 1) := by decide +kernel
theorem dX4_addElement_93 : decode cX4_addElement 93 = .ok (.getfield 26, 3) := by decide +kernel
theorem dX4_addElement_96 : decode cX4_addElement 96 = .ok (.aload_n 0, 1) := by decide +kernel
theorem dX4_addElement_97 : decode cX4_addElement 97 = .ok (.getfield 68, 3) := by decide +kernel
theorem dX4_addElement_100 : decode cX4_addElement 100 = .ok (.iload 4, 2) := by decide +kernel
theorem dX4_addElement_102 : decode cX4_addElement 102 = .ok (.iastore, 1) := by decide +kernel
theorem dX4_addElement_103 : decode cX4_addElement 103 = .ok (.aload_n 0, 1) := by decide +kernel
theorem dX4_addElement_104 : decode cX4_addElement 104 = .ok (.getfield 29, 3) := by decide +kernel
theorem dX4_addElement_107 : decode cX4_addElement 107 = .ok (.aload_n 0, 1) := by decide +kernel
theorem dX4_addElement_108 : decode cX4_addElement 108 = .ok (.getfield 68, 3) := by decide +kernel
theorem dX4_addElement_111 : decode cX4_addElement 111 = .ok (.iconst 1, 1) := by decide +kernel
theorem dX4_addElement_112 : decode cX4_addElement 112 = .ok (.bastore, 1) := by decide +kernel
theorem dX4_addElement_113 : decode cX4_addElement 113 = .ok (.aload_n 0, 1) := by decide +kernel
theorem dX4_addElement_114 : decode cX4_addElement 114 = .ok (.getfield 32, 3) := by decide +kernel
theorem dX4_addElement_117 : decode cX4_addElement 117 = .ok (.aload_n 0, 1) := by decide +kernel
theorem dX4_addElement_118 : decode cX4_addElement 118 = .ok (.getfield 68, 3) := by decide +kernel
theorem dX4_addElement_121 : decode cX4_addElement 121 = .ok (.iconst 0, 1) := by decide +kernel
theorem dX4_addElement_122 : decode cX4_addElement 122 = .ok (.iastore, 1) := by decide +kernel
theorem dX4_addElement_123 : decode cX4_addElement 123 = .ok (.aload_n 0, 1) := by decide +kernel
theorem dX4_addElement_124 : decode cX4_addElement 124 = .ok (.dup, 1) := by decide +kernel
theorem dX4_addElement_125 : decode cX4_addElement 125 = .ok (.getfield 68, 3) := by decide +kernel
theorem dX4_addElement_128 : decode cX4_addElement 128 = .ok (.iconst 1, 1) := by decide +kernel
theorem dX4_addElement_129 : decode cX4_addElement 129 = .ok (.iadd, 1) := by decide +kernel
theorem dX4_addElement_130 : decode cX4_addElement 130 = .ok (.putfield 68, 3) := by decide +kernel
theorem dX4_addElement_133 : decode cX4_addElement 133 = .ok (.aload_n 0, 1) := by decide +kernel
theorem dX4_addElement_134 : decode cX4_addElement 134 = .ok (.getfield 68, 3) := by decide +kernel
theorem dX4_addElement_137 : decode cX4_addElement 137 = .ok (.iconst 1, 1) := by decide +kernel
theorem dX4_addElement_138 : decode cX4_addElement 138 = .ok (.isub, 1) := by decide +kernel
theorem dX4_addElement_139 : decode cX4_addElement 139 = .ok (.ireturn, 1) := by decide +kernel
theorem dX4_resize_0 : decode cX4_resize 0 = .ok (.aload_n 0, 1) := by decide +kernel
theorem dX4_resize_1 : decode cX4_resize 1 = .ok (.iconst 0, 1) := by decide +kernel
theorem dX4_resize_2 : decode cX4_resize 2 = .ok (.putfield 57, 3) := by decide +kernel
theorem dX4_resize_5 : decode cX4_resize 5 = .ok (.aload_n 0, 1) := by decide +kernel
theorem dX4_resize_6 : decode cX4_resize 6 = .ok (.iload_n 1, 1) := by decide +kernel
theorem dX4_resize_7 : decode cX4_resize 7 = .ok (.invokevirtual 83, 3) := by decide +kernel
theorem dX4_resize_10 : decode cX4_resize 10 = .ok (.ifCond .ne 9, 3) := by decide +kernel
theorem dX4_resize_13 : decode cX4_resize 13 = .ok (.aload_n 0, 1) := by decide +kernel
theorem dX4_resize_14 : decode cX4_resize 14 = .ok (.iconst 1, 1) := by decide +kernel
theorem dX4_resize_15 : decode cX4_resize 15 = .ok (.invokevirtual 71, 3) := by decide +kernel
theorem dX4_resize_18 : decode cX4_resize 18 = .ok (.ireturn, 1) := by decide +kernel
theorem dX4_resize_19 : decode cX4_resize 19 = .ok (.aload_n 0, 1) := by decide +kernel
theorem dX4_resize_20 : decode cX4_resize 20 = .ok (.getfield 17, 3) := by decide +kernel
theorem dX4_resize_23 : decode cX4_resize 23 = .ok (.iload_n 1, 1) := by decide +kernel
theorem dX4_resize_24 : decode cX4_resize 24 = .ok (.baload, 1) := by decide +kernel
theorem dX4_resize_25 : decode cX4_resize 25 = .ok (.iload_n 2, 1) := by decide +kernel
theorem dX4_resize_26 : decode cX4_resize 26 = .ok (.invokestatic 79, 3) := by decide +kernel
theorem dX4_resize_29 : decode cX4_resize 29 = .ok (.ifCond .ne 9, 3) := by decide +kernel
theorem dX4_resize_32 : decode cX4_resize 32 = .ok (.aload_n 0, 1) := by decide +kernel
theorem dX4_resize_33 : decode cX4_resize 33 = .ok (.iconst 2, 1) := by decide +kernel
theorem dX4_resize_34 : decode cX4_resize 34 = .ok (.invokevirtual 71, 3) := by decide +kernel
theorem dX4_resize_37 : decode cX4_resize 37 = .ok (.ireturn, 1) := by decide +kernel
theorem dX4_resize_38 : decode cX4_resize 38 = .ok (.aload_n 0, 1) := by decide +kernel
theorem dX4_resize_39 : decode cX4_resize 39 = .ok (.getfield 26, 3) := by decide +kernel
theorem dX4_resize_42 : decode cX4_resize 42 = .ok (.iload_n 1, 1) := by decide +kernel
theorem dX4_resize_43 : decode cX4_resize 43 = .ok (.iaload, 1) := by decide +kernel
theorem dX4_resize_44 : decode cX4_resize 44 = .ok (.istore_n 3, 1) := by decide +kernel
theorem dX4_resize_45 : decode cX4_resize 45 = .ok (.aload_n 0, 1) := by decide +kernel
theorem dX4_resize_46 : decode cX4_resize 46 = .ok (.getfield 26, 3) := by decide +kernel
theorem dX4_resize_49 : decode cX4_resize 49 = .ok (.iload_n 1, 1) := by decide +kernel
theorem dX4_resize_50 : decode cX4_resize 50 = .ok (.iload_n 2, 1) := by decide +kernel
theorem dX4_resize_51 : decode cX4_resize 51 = .ok (.iastore, 1) := by decide +kernel
theorem dX4_resize_52 : decode cX4_resize 52 = .ok (.iload_n 3, 1) := by decide +kernel
theorem dX4_resize_53 : decode cX4_resize 53 = .ok (.ireturn, 1) := by decide +kernel
theorem dX4_begin_0 : decode cX4_begin 0 = .ok (.aload_n 0, 1) := by decide +kernel
theorem dX4_begin_1 : decode cX4_begin 1 = .ok (.aload_n 0, 1) := by decide +kernel
theorem dX4_begin_2 : decode cX4_begin 2 = .ok (.iload_n 1, 1) := by decide +kernel
theorem dX4_begin_3 : decode cX4_begin 3 = .ok (.invokevirtual 83, 3) := by decide +kernel
theorem dX4_begin_6 : decode cX4_begin 6 = .ok (.ifCond .eq 7, 3) := by decide +kernel
theorem dX4_begin_9 : decode cX4_begin 9 = .ok (.iconst 0, 1) := by decide +kernel
theorem dX4_begin_10 : decode cX4_begin 10 = .ok (.goto 4, 3) := by decide +kernel
theorem dX4_begin_13 : decode cX4_begin 13 = .ok (.iconst 1, 1) := by decide +kernel
theorem dX4_begin_14 : decode cX4_begin 14 = .ok (.putfield 57, 3) := by decide +kernel
theorem dX4_begin_17 : decode cX4_begin 17 = .ok (.aload_n 0, 1) := by decide +kernel
theorem dX4_begin_18 : decode cX4_begin 18 = .ok (.getfield 57, 3) := by decide +kernel
theorem dX4_begin_21 : decode cX4_begin 21 = .ok (.ifCond .eq 5, 3) := by decide +kernel
theorem dX4_begin_24 : decode cX4_begin 24 = .ok (.iconst 0, 1) := by decide +kernel
theorem dX4_begin_25 : decode cX4_begin 25 = .ok (.ireturn, 1) := by decide +kernel
theorem dX4_begin_26 : decode cX4_begin 26 = .ok (.aload_n 0, 1) := by decide +kernel
theorem dX4_begin_27 : decode cX4_begin 27 = .ok (.getfield 29, 3) := by decide +kernel
theorem dX4_begin_30 : decode cX4_begin 30 = .ok (.iload_n 1, 1) := by decide +kernel
theorem dX4_begin_31 : decode cX4_begin 31 = .ok (.baload, 1) := by decide +kernel
theorem dX4_begin_32 : decode cX4_begin 32 = .ok (.istore_n 3, 1) := by decide +kernel
theorem dX4_begin_33 : decode cX4_begin 33 = .ok (.aload_n 0, 1) := by decide +kernel
theorem dX4_begin_34 : decode cX4_begin 34 = .ok (.getfield 29, 3) := by decide +kernel
theorem dX4_begin_37 : decode cX4_begin 37 = .ok (.iload_n 1, 1) := by decide +kernel
theorem dX4_begin_38 : decode cX4_begin 38 = .ok (.iload_n 2, 1) := by decide +kernel
theorem dX4_begin_39 : decode cX4_begin 39 = .ok (.bastore, 1) := by decide +kernel
theorem dX4_begin_40 : decode cX4_begin 40 = .ok (.iload_n 3, 1) := by decide +kernel
theorem dX4_begin_41 : decode cX4_begin 41 = .ok (.ireturn, 1) := by decide +kernel
theorem dX4_toggle_0 : decode cX4_toggle 0 = .ok (.aload_n 0, 1) := by decide +kernel
theorem dX4_toggle_1 : decode cX4_toggle 1 = .ok (.iconst 0, 1) := by decide +kernel
theorem dX4_toggle_2 : decode cX4_toggle 2 = .ok (.putfield 57, 3) := by decide +kernel
theorem dX4_toggle_5 : decode cX4_toggle 5 = .ok (.aload_n 0, 1) := by decide +kernel
theorem dX4_toggle_6 : decode cX4_toggle 6 = .ok (.iload_n 1, 1) := by decide +kernel
theorem dX4_toggle_7 : decode cX4_toggle 7 = .ok (.invokevirtual 83, 3) := by decide +kernel
theorem dX4_toggle_10 : decode cX4_toggle 10 = .ok (.ifCond .ne 9, 3) := by decide +kernel
theorem dX4_toggle_13 : decode cX4_toggle 13 = .ok (.aload_n 0, 1) := by decide +kernel
theorem dX4_toggle_14 : decode cX4_toggle 14 = .ok (.iconst 1, 1) := by decide +kernel
theorem dX4_toggle_15 : decode cX4_toggle 15 = .ok (.invokevirtual 71, 3) := by decide +kernel
theorem dX4_toggle_18 : decode cX4_toggle 18 = .ok (.ireturn, 1) := by decide +kernel
theorem dX4_toggle_19 : decode cX4_toggle 19 = .ok (.iload_n 2, 1) := by decide +kernel
theorem dX4_toggle_20 : decode cX4_toggle 20 = .ok (.iconst 1, 1) := by decide +kernel
theorem dX4_toggle_21 : decode cX4_toggle 21 = .ok (.sipush 999, 3) := by decide +kernel
theorem dX4_toggle_24 : decode cX4_toggle 24 = .ok (.invokestatic 64, 3) := by decide +kernel
theorem dX4_toggle_27 : decode cX4_toggle 27 = .ok (.ifCond .ne 9, 3) := by decide +kernel
theorem dX4_toggle_30 : decode cX4_toggle 30 = .ok (.aload_n 0, 1) := by decide +kernel
theorem dX4_toggle_31 : decode cX4_toggle 31 = .ok (.iconst 2, 1) := by decide +kernel
theorem dX4_toggle_32 : decode cX4_toggle 32 = .ok (.invokevirtual 71, 3) := by decide +kernel
theorem dX4_toggle_35 : decode cX4_toggle 35 = .ok (.ireturn, 1) := by decide +kernel
theorem dX4_toggle_36 : decode cX4_toggle 36 = .ok (.bipush 6, 2) := by decide +kernel
theorem dX4_toggle_38 : decode cX4_toggle 38 = .ok (.iload_n 1, 1) := by decide +kernel
theorem dX4_toggle_39 : decode cX4_toggle 39 = .ok (.imul, 1) := by decide +kernel
theorem dX4_toggle_40 : decode cX4_toggle 40 = .ok (.istore_n 3, 1) := by decide +kernel
theorem dX4_toggle_41 : decode cX4_toggle 41 = .ok (.aload_n 0, 1) := by decide +kernel
theorem dX4_toggle_42 : decode cX4_toggle 42 = .ok (.getfield 32, 3) := by decide +kernel
theorem dX4_toggle_45 : decode cX4_toggle 45 = .ok (.iload_n 1, 1) := by decide +kernel
theorem dX4_toggle_46 : decode cX4_toggle 46 = .ok (.iaload, 1) := by decide +kernel
theorem dX4_toggle_47 : decode cX4_toggle 47 = .ok (.istore 4, 2) := by decide +kernel
theorem dX4_toggle_49 : decode cX4_toggle 49 = .ok (.iconst 0, 1) := by decide +kernel
theorem dX4_toggle_50 : decode cX4_toggle 50 = .ok (.istore 5, 2) := by decide +kernel
theorem dX4_toggle_52 : decode cX4_toggle 52 = .ok (.iload 5, 2) := by decide +kernel
theorem dX4_toggle_54 : decode cX4_toggle 54 = .ok (.iload 4, 2) := by decide +kernel
theorem dX4_toggle_56 : decode cX4_toggle 56 = .ok (.if_icmp .ge 22, 3) := by decide +kernel
theorem dX4_toggle_59 : decode cX4_toggle 59 = .ok (.aload_n 0, 1) := by decide +kernel
theorem dX4_toggle_60 : decode cX4_toggle 60 = .ok (.getfield 35, 3) := by decide +kernel
theorem dX4_toggle_63 : decode cX4_toggle 63 = .ok (.iload_n 3, 1) := by decide +kernel
theorem dX4_toggle_64 : decode cX4_toggle 64 = .ok (.iload 5, 2) := by decide +kernel
theorem dX4_toggle_66 : decode cX4_toggle 66 = .ok (.iadd, 1) := by decide +kernel
theorem dX4_toggle_67 : decode cX4_toggle 67 = .ok (.iaload, 1) := by decide +kernel
theorem dX4_toggle_68 : decode cX4_toggle 68 = .ok (.iload_n 2, 1) := by decide +kernel
theorem dX4_toggle_69 : decode cX4_toggle 69 = .ok (.if_icmp .ge 9, 3) := by decide +kernel
theorem dX4_toggle_72 : decode cX4_toggle 72 = .ok (.iinc 5 1, 3) := by decide +kernel
theorem dX4_toggle_75 : decode cX4_toggle 75 = .ok (.goto (-23), 3) := by decide +kernel
theorem dX4_toggle_78 : decode cX4_toggle 78 = .ok (.iload 5, 2) := by decide +kernel
theorem dX4_toggle_80 : decode cX4_toggle 80 = .ok (.iload 4, 2) := by decide +kernel
theorem dX4_toggle_82 : decode cX4_toggle 82 = .ok (.if_icmp .ge 20, 3) := by decide +kernel
theorem dX4_toggle_85 : decode cX4_toggle 85 = .ok (.aload_n 0, 1) := by decide +kernel
theorem dX4_toggle_86 : decode cX4_toggle 86 = .ok (.getfield 35, 3) := by decide +kernel
theorem dX4_toggle_89 : decode cX4_toggle 89 = .ok (.iload_n 3, 1) := by decide +kernel
theorem dX4_toggle_90 : decode cX4_toggle 90 = .ok (.iload 5, 2) := by decide +kernel
theorem dX4_toggle_92 : decode cX4_toggle 92 = .ok (.iadd, 1) := by decide +kernel
theorem dX4_toggle_93 : decode cX4_toggle 93 = .ok (.iaload, 1) := by decide +kernel
theorem dX4_toggle_94 : decode cX4_toggle 94 = .ok (.iload_n 2, 1) := by decide +kernel
theorem dX4_toggle_95 : decode cX4_toggle 95 = .ok (.if_icmp .ne 7, 3) := by decide +kernel
theorem dX4_toggle_98 : decode cX4_toggle 98 = .ok (.iconst 1, 1) := by decide +kernel
theorem dX4_toggle_99 : decode cX4_toggle 99 = .ok (.goto 4, 3) := by decide +kernel
theorem dX4_toggle_102 : decode cX4_toggle 102 = .ok (.iconst 0, 1) := by decide +kernel
theorem dX4_toggle_103 : decode cX4_toggle 103 = .ok (.istore 6, 2) := by decide +kernel
theorem dX4_toggle_105 : decode cX4_toggle 105 = .ok (.iload 6, 2) := by decide +kernel
theorem dX4_toggle_107 : decode cX4_toggle 107 = .ok (.ifCond .ne 16, 3) := by decide +kernel
theorem dX4_toggle_110 : decode cX4_toggle 110 = .ok (.iload 4, 2) := by decide +kernel
theorem dX4_toggle_112 : decode cX4_toggle 112 = .ok (.bipush 6, 2) := by decide +kernel
theorem dX4_toggle_114 : decode cX4_toggle 114 = .ok (.if_icmp .ne 9, 3) := by decide +kernel
theorem dX4_toggle_117 : decode cX4_toggle 117 = .ok (.aload_n 0, 1) := by decide +kernel
theorem dX4_toggle_118 : decode cX4_toggle 118 = .ok (.iconst 3, 1) := by decide +kernel
theorem dX4_toggle_119 : decode cX4_toggle 119 = .ok (.invokevirtual 71, 3) := by decide +kernel
theorem dX4_toggle_122 : decode cX4_toggle 122 = .ok (.ireturn, 1) := by decide +kernel
theorem dX4_toggle_123 : decode cX4_toggle 123 = .ok (.iload 6, 2) := by decide +kernel
theorem dX4_toggle_125 : decode cX4_toggle 125 = .ok (.ifCond .eq 44, 3) := by decide +kernel
theorem dX4_toggle_128 : decode cX4_toggle 128 = .ok (.aload_n 0, 1) := by decide +kernel
theorem dX4_toggle_129 : decode cX4_toggle 129 = .ok (.getfield 35, 3) := by decide +kernel
theorem dX4_toggle_132 : decode cX4_toggle 132 = .ok (.iload_n 3, 1) := by decide +kernel
theorem dX4_toggle_133 : decode cX4_toggle 133 = .ok (.iload 5, 2) := by decide +kernel
theorem dX4_toggle_135 : decode cX4_toggle 135 = .ok (.iadd, 1) := by decide +kernel
theorem dX4_toggle_136 : decode cX4_toggle 136 = .ok (.iconst 1, 1) := by decide +kernel
theorem dX4_toggle_137 : decode cX4_toggle 137 = .ok (.iadd, 1) := by decide +kernel
theorem dX4_toggle_138 : decode cX4_toggle 138 = .ok (.aload_n 0, 1) := by decide +kernel
theorem dX4_toggle_139 : decode cX4_toggle 139 = .ok (.getfield 35, 3) := by decide +kernel
theorem dX4_toggle_142 : decode cX4_toggle 142 = .ok (.iload_n 3, 1) := by decide +kernel
theorem dX4_toggle_143 : decode cX4_toggle 143 = .ok (.iload 5, 2) := by decide +kernel
theorem dX4_toggle_145 : decode cX4_toggle 145 = .ok (.iadd, 1) := by decide +kernel
theorem dX4_toggle_146 : decode cX4_toggle 146 = .ok (.iload 4, 2) := by decide +kernel
theorem dX4_toggle_148 : decode cX4_toggle 148 = .ok (.iconst 1, 1) := by decide +kernel
theorem dX4_toggle_149 : decode cX4_toggle 149 = .ok (.isub, 1) := by decide +kernel
theorem dX4_toggle_150 : decode cX4_toggle 150 = .ok (.iload 5, 2) := by decide +kernel
theorem dX4_toggle_152 : decode cX4_toggle 152 = .ok (.isub, 1) := by decide +kernel
theorem dX4_toggle_153 : decode cX4_toggle 153 = .ok (.invokestatic 86, 3) := by decide +kernel
theorem dX4_toggle_156 : decode cX4_toggle 156 = .ok (.aload_n 0, 1) := by decide +kernel
theorem dX4_toggle_157 : decode cX4_toggle 157 = .ok (.getfield 32, 3) := by decide +kernel
theorem dX4_toggle_160 : decode cX4_toggle 160 = .ok (.iload_n 1, 1) := by decide +kernel
theorem dX4_toggle_161 : decode cX4_toggle 161 = .ok (.dup2, 1) := by decide +kernel
theorem dX4_toggle_162 : decode cX4_toggle 162 = .ok (.iaload, 1) := by decide +kernel
theorem dX4_toggle_163 : decode cX4_toggle 163 = .ok (.iconst 1, 1) := by decide +kernel
theorem dX4_toggle_164 : decode cX4_toggle 164 = .ok (.isub, 1) := by decide +kernel
theorem dX4_toggle_165 : decode cX4_toggle 165 = .ok (.iastore, 1) := by decide +kernel
theorem dX4_toggle_166 : decode cX4_toggle 166 = .ok (.goto 49, 3) := by decide +kernel
theorem dX4_toggle_169 : decode cX4_toggle 169 = .ok (.aload_n 0, 1) := by decide +kernel
theorem dX4_toggle_170 : decode cX4_toggle 170 = .ok (.getfield 35, 3) := by decide +kernel
theorem dX4_toggle_173 : decode cX4_toggle 173 = .ok (.iload_n 3, 1) := by decide +kernel
theorem dX4_toggle_174 : decode cX4_toggle 174 = .ok (.iload 5, 2) := by decide +kernel
theorem dX4_toggle_176 : decode cX4_toggle 176 = .ok (.iadd, 1) := by decide +kernel
theorem dX4_toggle_177 : decode cX4_toggle 177 = .ok (.aload_n 0, 1) := by decide +kernel
theorem dX4_toggle_178 : decode cX4_toggle 178 = .ok (.getfield 35, 3) := by decide +kernel
theorem dX4_toggle_181 : decode cX4_toggle 181 = .ok (.iload_n 3, 1) := by decide +kernel
theorem dX4_toggle_182 : decode cX4_toggle 182 = .ok (.iload 5, 2) := by decide +kernel
theorem dX4_toggle_184 : decode cX4_toggle 184 = .ok (.iadd, 1) := by decide +kernel
theorem dX4_toggle_185 : decode cX4_toggle 185 = .ok (.iconst 1, 1) := by decide +kernel
theorem dX4_toggle_186 : decode cX4_toggle 186 = .ok (.iadd, 1) := by decide +kernel
theorem dX4_toggle_187 : decode cX4_toggle 187 = .ok (.iload 4, 2) := by decide +kernel
theorem dX4_toggle_189 : decode cX4_toggle 189 = .ok (.iload 5, 2) := by decide +kernel
theorem dX4_toggle_191 : decode cX4_toggle 191 = .ok (.isub, 1) := by decide +kernel
theorem dX4_toggle_192 : decode cX4_toggle 192 = .ok (.invokestatic 86, 3) := by decide +kernel
theorem dX4_toggle_195 : decode cX4_toggle 195 = .ok (.aload_n 0, 1) := by decide +kernel
theorem dX4_toggle_196 : decode cX4_toggle 196 = .ok (.getfield 35, 3) := by decide +kernel
theorem dX4_toggle_199 : decode cX4_toggle 199 = .ok (.iload_n 3, 1) := by decide +kernel
theorem dX4_toggle_200 : decode cX4_toggle 200 = .ok (.iload 5, 2) := by decide +kernel
theorem dX4_toggle_202 : decode cX4_toggle 202 = .ok (.iadd, 1) := by decide +kernel
theorem dX4_toggle_203 : decode cX4_toggle 203 = .ok (.iload_n 2, 1) := by decide +kernel
theorem dX4_toggle_204 : decode cX4_toggle 204 = .ok (.iastore, 1) := by decide +kernel
theorem dX4_toggle_205 : decode cX4_toggle 205 = .ok (.aload_n 0, 1) := by decide +kernel
theorem dX4_toggle_206 : decode cX4_toggle 206 = .ok (.getfield 32, 3) := by decide +kernel
theorem dX4_toggle_209 : decode cX4_toggle 209 = .ok (.iload_n 1, 1) := by decide +kernel
theorem dX4_toggle_210 : decode cX4_toggle 210 = .ok (.dup2, 1) := by decide +kernel
theorem dX4_toggle_211 : decode cX4_toggle 211 = .ok (.iaload, 1) := by decide +kernel
theorem dX4_toggle_212 : decode cX4_toggle 212 = .ok (.iconst 1, 1) := by decide +kernel
theorem dX4_toggle_213 : decode cX4_toggle 213 = .ok (.iadd, 1) := by decide +kernel
theorem dX4_toggle_214 : decode cX4_toggle 214 = .ok (.iastore, 1) := by decide +kernel
theorem dX4_toggle_215 : decode cX4_toggle 215 = .ok (.aload_n 0, 1) := by decide +kernel
theorem dX4_toggle_216 : decode cX4_toggle 216 = .ok (.getfield 32, 3) := by decide +kernel
theorem dX4_toggle_219 : decode cX4_toggle 219 = .ok (.iload_n 1, 1) := by decide +kernel
theorem dX4_toggle_220 : decode cX4_toggle 220 = .ok (.iaload, 1) := by decide +kernel
theorem dX4_toggle_221 : decode cX4_toggle 221 = .ok (.ireturn, 1) := by decide +kernel
theorem dX4_counted_0 : decode cX4_counted 0 = .ok (.iconst 0, 1) := by decide +kernel
theorem dX4_counted_1 : decode cX4_counted 1 = .ok (.istore_n 2, 1) := by decide +kernel
theorem dX4_counted_2 : decode cX4_counted 2 = .ok (.iload_n 1, 1) := by decide +kernel
theorem dX4_counted_3 : decode cX4_counted 3 = .ok (.ifCond .ne 8, 3) := by decide +kernel
theorem dX4_counted_6 : decode cX4_counted 6 = .ok (.aload_n 0, 1) := by decide +kernel
theorem dX4_counted_7 : decode cX4_counted 7 = .ok (.getfield 61, 3) := by decide +kernel
theorem dX4_counted_10 : decode cX4_counted 10 = .ok (.ireturn, 1) := by decide +kernel
theorem dX4_counted_11 : decode cX4_counted 11 = .ok (.iload_n 1, 1) := by decide +kernel
theorem dX4_counted_12 : decode cX4_counted 12 = .ok (.iconst 1, 1) := by decide +kernel
theorem dX4_counted_13 : decode cX4_counted 13 = .ok (.if_icmp .ne 8, 3) := by decide +kernel
theorem dX4_counted_16 : decode cX4_counted 16 = .ok (.aload_n 0, 1) := by decide +kernel
theorem dX4_counted_17 : decode cX4_counted 17 = .ok (.getfield 68, 3) := by decide +kernel
theorem dX4_counted_20 : decode cX4_counted 20 = .ok (.ireturn, 1) := by decide +kernel
theorem dX4_counted_21 : decode cX4_counted 21 = .ok (.iload_n 1, 1) := by decide +kernel
theorem dX4_counted_22 : decode cX4_counted 22 = .ok (.iconst 2, 1) := by decide +kernel
theorem dX4_counted_23 : decode cX4_counted 23 = .ok (.if_icmp .ne 39, 3) := by decide +kernel
theorem dX4_counted_26 : decode cX4_counted 26 = .ok (.iconst 0, 1) := by decide +kernel
theorem dX4_counted_27 : decode cX4_counted 27 = .ok (.istore_n 3, 1) := by decide +kernel
theorem dX4_counted_28 : decode cX4_counted 28 = .ok (.iload_n 3, 1) := by decide +kernel
theorem dX4_counted_29 : decode cX4_counted 29 = .ok (.aload_n 0, 1) := by decide +kernel
theorem dX4_counted_30 : decode cX4_counted 30 = .ok (.getfield 61, 3) := by decide +kernel
theorem dX4_counted_33 : decode cX4_counted 33 = .ok (.if_icmp .ge 26, 3) := by decide +kernel
theorem dX4_counted_36 : decode cX4_counted 36 = .ok (.iload_n 2, 1) := by decide +kernel
theorem dX4_counted_37 : decode cX4_counted 37 = .ok (.aload_n 0, 1) := by decide +kernel
theorem dX4_counted_38 : decode cX4_counted 38 = .ok (.getfield 9, 3) := by decide +kernel
theorem dX4_counted_41 : decode cX4_counted 41 = .ok (.iload_n 3, 1) := by decide +kernel
theorem dX4_counted_42 : decode cX4_counted 42 = .ok (.baload, 1) := by decide +kernel
theorem dX4_counted_43 : decode cX4_counted 43 = .ok (.ifCond .eq 7, 3) := by decide +kernel
theorem dX4_counted_46 : decode cX4_counted 46 = .ok (.iconst 1, 1) := by decide +kernel
theorem dX4_counted_47 : decode cX4_counted 47 = .ok (.goto 4, 3) := by decide +kernel
theorem dX4_counted_50 : decode cX4_counted 50 = .ok (.iconst 0, 1) := by decide +kernel
theorem dX4_counted_51 : decode cX4_counted 51 = .ok (.iadd, 1) := by decide +kernel
theorem dX4_counted_52 : decode cX4_counted 52 = .ok (.istore_n 2, 1) := by decide +kernel
theorem dX4_counted_53 : decode cX4_counted 53 = .ok (.iinc 3 1, 3) := by decide +kernel
theorem dX4_counted_56 : decode cX4_counted 56 = .ok (.goto (-28), 3) := by decide +kernel
theorem dX4_counted_59 : decode cX4_counted 59 = .ok (.goto 28, 3) := by decide +kernel
theorem dX4_counted_62 : decode cX4_counted 62 = .ok (.iconst 0, 1) := by decide +kernel
theorem dX4_counted_63 : decode cX4_counted 63 = .ok (.istore_n 3, 1) := by decide +kernel
theorem dX4_counted_64 : decode cX4_counted 64 = .ok (.iload_n 3, 1) := by decide +kernel
theorem dX4_counted_65 : decode cX4_counted 65 = .ok (.aload_n 0, 1) := by decide +kernel
theorem dX4_counted_66 : decode cX4_counted 66 = .ok (.getfield 68, 3) := by decide +kernel
theorem dX4_counted_69 : decode cX4_counted 69 = .ok (.if_icmp .ge 18, 3) := by decide +kernel
theorem dX4_counted_72 : decode cX4_counted 72 = .ok (.iload_n 2, 1) := by decide +kernel
theorem dX4_counted_73 : decode cX4_counted 73 = .ok (.aload_n 0, 1) := by decide +kernel
theorem dX4_counted_74 : decode cX4_counted 74 = .ok (.getfield 32, 3) := by decide +kernel
theorem dX4_counted_77 : decode cX4_counted 77 = .ok (.iload_n 3, 1) := by decide +kernel
theorem dX4_counted_78 : decode cX4_counted 78 = .ok (.iaload, 1) := by decide +kernel
theorem dX4_counted_79 : decode cX4_counted 79 = .ok (.iadd, 1) := by decide +kernel
theorem dX4_counted_80 : decode cX4_counted 80 = .ok (.istore_n 2, 1) := by decide +kernel
theorem dX4_counted_81 : decode cX4_counted 81 = .ok (.iinc 3 1, 3) := by decide +kernel
theorem dX4_counted_84 : decode cX4_counted 84 = .ok (.goto (-20), 3) := by decide +kernel
theorem dX4_counted_87 : decode cX4_counted 87 = .ok (.iload_n 2, 1) := by decide +kernel
theorem dX4_counted_88 : decode cX4_counted 88 = .ok (.ireturn, 1) := by decide +kernel
theorem dX4_count_0 : decode cX4_count 0 = .ok (.aload_n 0, 1) := by decide +kernel
theorem dX4_count_1 : decode cX4_count 1 = .ok (.iconst 0, 1) := by decide +kernel
theorem dX4_count_2 : decode cX4_count 2 = .ok (.putfield 57, 3) := by decide +kernel
theorem dX4_count_5 : decode cX4_count 5 = .ok (.iload_n 1, 1) := by decide +kernel
theorem dX4_count_6 : decode cX4_count 6 = .ok (.iconst 0, 1) := by decide +kernel
theorem dX4_count_7 : decode cX4_count 7 = .ok (.iconst 3, 1) := by decide +kernel
theorem dX4_count_8 : decode cX4_count 8 = .ok (.invokestatic 64, 3) := by decide +kernel
theorem dX4_count_11 : decode cX4_count 11 = .ok (.ifCond .eq 11, 3) := by decide +kernel
theorem dX4_count_14 : decode cX4_count 14 = .ok (.aload_n 0, 1) := by decide +kernel
theorem dX4_count_15 : decode cX4_count 15 = .ok (.iload_n 1, 1) := by decide +kernel
theorem dX4_count_16 : decode cX4_count 16 = .ok (.invokevirtual 92, 3) := by decide +kernel
theorem dX4_count_19 : decode cX4_count 19 = .ok (.goto 8, 3) := by decide +kernel
theorem dX4_count_22 : decode cX4_count 22 = .ok (.aload_n 0, 1) := by decide +kernel
theorem dX4_count_23 : decode cX4_count 23 = .ok (.iconst 1, 1) := by decide +kernel
theorem dX4_count_24 : decode cX4_count 24 = .ok (.invokevirtual 71, 3) := by decide +kernel
theorem dX4_count_27 : decode cX4_count 27 = .ok (.ireturn, 1) := by decide +kernel
theorem dX4_elementTold_0 : decode cX4_elementTold 0 = .ok (.iload_n 2, 1) := by decide +kernel
theorem dX4_elementTold_1 : decode cX4_elementTold 1 = .ok (.tableswitch 86 0 4 #[35, 50, 57, 64, 71], 35) := by decide +kernel
theorem dX4_elementTold_36 : decode cX4_elementTold 36 = .ok (.aload_n 0, 1) := by decide +kernel
theorem dX4_elementTold_37 : decode cX4_elementTold 37 = .ok (.getfield 17, 3) := by decide +kernel
theorem dX4_elementTold_40 : decode cX4_elementTold 40 = .ok (.iload_n 1, 1) := by decide +kernel
theorem dX4_elementTold_41 : decode cX4_elementTold 41 = .ok (.baload, 1) := by decide +kernel
theorem dX4_elementTold_42 : decode cX4_elementTold 42 = .ok (.ifCond .eq 7, 3) := by decide +kernel
theorem dX4_elementTold_45 : decode cX4_elementTold 45 = .ok (.iconst 1, 1) := by decide +kernel
theorem dX4_elementTold_46 : decode cX4_elementTold 46 = .ok (.goto 4, 3) := by decide +kernel
theorem dX4_elementTold_49 : decode cX4_elementTold 49 = .ok (.iconst 0, 1) := by decide +kernel
theorem dX4_elementTold_50 : decode cX4_elementTold 50 = .ok (.ireturn, 1) := by decide +kernel
theorem dX4_elementTold_51 : decode cX4_elementTold 51 = .ok (.aload_n 0, 1) := by decide +kernel
theorem dX4_elementTold_52 : decode cX4_elementTold 52 = .ok (.getfield 20, 3) := by decide +kernel
theorem dX4_elementTold_55 : decode cX4_elementTold 55 = .ok (.iload_n 1, 1) := by decide +kernel
theorem dX4_elementTold_56 : decode cX4_elementTold 56 = .ok (.iaload, 1) := by decide +kernel
theorem dX4_elementTold_57 : decode cX4_elementTold 57 = .ok (.ireturn, 1) := by decide +kernel
theorem dX4_elementTold_58 : decode cX4_elementTold 58 = .ok (.aload_n 0, 1) := by decide +kernel
theorem dX4_elementTold_59 : decode cX4_elementTold 59 = .ok (.getfield 23, 3) := by decide +kernel
theorem dX4_elementTold_62 : decode cX4_elementTold 62 = .ok (.iload_n 1, 1) := by decide +kernel
theorem dX4_elementTold_63 : decode cX4_elementTold 63 = .ok (.iaload, 1) := by decide +kernel
theorem dX4_elementTold_64 : decode cX4_elementTold 64 = .ok (.ireturn, 1) := by decide +kernel
theorem dX4_elementTold_65 : decode cX4_elementTold 65 = .ok (.aload_n 0, 1) := by decide +kernel
theorem dX4_elementTold_66 : decode cX4_elementTold 66 = .ok (.getfield 26, 3) := by decide +kernel
theorem dX4_elementTold_69 : decode cX4_elementTold 69 = .ok (.iload_n 1, 1) := by decide +kernel
theorem dX4_elementTold_70 : decode cX4_elementTold 70 = .ok (.iaload, 1) := by decide +kernel
theorem dX4_elementTold_71 : decode cX4_elementTold 71 = .ok (.ireturn, 1) := by decide +kernel
theorem dX4_elementTold_72 : decode cX4_elementTold 72 = .ok (.aload_n 0, 1) := by decide +kernel
theorem dX4_elementTold_73 : decode cX4_elementTold 73 = .ok (.getfield 29, 3) := by decide +kernel
theorem dX4_elementTold_76 : decode cX4_elementTold 76 = .ok (.iload_n 1, 1) := by decide +kernel
theorem dX4_elementTold_77 : decode cX4_elementTold 77 = .ok (.baload, 1) := by decide +kernel
theorem dX4_elementTold_78 : decode cX4_elementTold 78 = .ok (.ifCond .eq 7, 3) := by decide +kernel
theorem dX4_elementTold_81 : decode cX4_elementTold 81 = .ok (.iconst 1, 1) := by decide +kernel
theorem dX4_elementTold_82 : decode cX4_elementTold 82 = .ok (.goto 4, 3) := by decide +kernel
theorem dX4_elementTold_85 : decode cX4_elementTold 85 = .ok (.iconst 0, 1) := by decide +kernel
theorem dX4_elementTold_86 : decode cX4_elementTold 86 = .ok (.ireturn, 1) := by decide +kernel
theorem dX4_elementTold_87 : decode cX4_elementTold 87 = .ok (.aload_n 0, 1) := by decide +kernel
theorem dX4_elementTold_88 : decode cX4_elementTold 88 = .ok (.getfield 32, 3) := by decide +kernel
theorem dX4_elementTold_91 : decode cX4_elementTold 91 = .ok (.iload_n 1, 1) := by decide +kernel
theorem dX4_elementTold_92 : decode cX4_elementTold 92 = .ok (.iaload, 1) := by decide +kernel
theorem dX4_elementTold_93 : decode cX4_elementTold 93 = .ok (.ireturn, 1) := by decide +kernel
theorem dX4_element_0 : decode cX4_element 0 = .ok (.aload_n 0, 1) := by decide +kernel
theorem dX4_element_1 : decode cX4_element 1 = .ok (.iconst 0, 1) := by decide +kernel
theorem dX4_element_2 : decode cX4_element 2 = .ok (.putfield 57, 3) := by decide +kernel
theorem dX4_element_5 : decode cX4_element 5 = .ok (.aload_n 0, 1) := by decide +kernel
theorem dX4_element_6 : decode cX4_element 6 = .ok (.iload_n 1, 1) := by decide +kernel
theorem dX4_element_7 : decode cX4_element 7 = .ok (.invokevirtual 83, 3) := by decide +kernel
theorem dX4_element_10 : decode cX4_element 10 = .ok (.ifCond .eq 21, 3) := by decide +kernel
theorem dX4_element_13 : decode cX4_element 13 = .ok (.iload_n 2, 1) := by decide +kernel
theorem dX4_element_14 : decode cX4_element 14 = .ok (.iconst 0, 1) := by decide +kernel
theorem dX4_element_15 : decode cX4_element 15 = .ok (.iconst 5, 1) := by decide +kernel
theorem dX4_element_16 : decode cX4_element 16 = .ok (.invokestatic 64, 3) := by decide +kernel
theorem dX4_element_19 : decode cX4_element 19 = .ok (.ifCond .eq 12, 3) := by decide +kernel
theorem dX4_element_22 : decode cX4_element 22 = .ok (.aload_n 0, 1) := by decide +kernel
theorem dX4_element_23 : decode cX4_element 23 = .ok (.iload_n 1, 1) := by decide +kernel
theorem dX4_element_24 : decode cX4_element 24 = .ok (.iload_n 2, 1) := by decide +kernel
theorem dX4_element_25 : decode cX4_element 25 = .ok (.invokevirtual 95, 3) := by decide +kernel
theorem dX4_element_28 : decode cX4_element 28 = .ok (.goto 8, 3) := by decide +kernel
theorem dX4_element_31 : decode cX4_element 31 = .ok (.aload_n 0, 1) := by decide +kernel
theorem dX4_element_32 : decode cX4_element 32 = .ok (.iconst 1, 1) := by decide +kernel
theorem dX4_element_33 : decode cX4_element 33 = .ok (.invokevirtual 71, 3) := by decide +kernel
theorem dX4_element_36 : decode cX4_element 36 = .ok (.ireturn, 1) := by decide +kernel
theorem dX4_toggleAt_0 : decode cX4_toggleAt 0 = .ok (.aload_n 0, 1) := by decide +kernel
theorem dX4_toggleAt_1 : decode cX4_toggleAt 1 = .ok (.iconst 0, 1) := by decide +kernel
theorem dX4_toggleAt_2 : decode cX4_toggleAt 2 = .ok (.putfield 57, 3) := by decide +kernel
theorem dX4_toggleAt_5 : decode cX4_toggleAt 5 = .ok (.aload_n 0, 1) := by decide +kernel
theorem dX4_toggleAt_6 : decode cX4_toggleAt 6 = .ok (.iload_n 1, 1) := by decide +kernel
theorem dX4_toggleAt_7 : decode cX4_toggleAt 7 = .ok (.invokevirtual 83, 3) := by decide +kernel
theorem dX4_toggleAt_10 : decode cX4_toggleAt 10 = .ok (.ifCond .eq 33, 3) := by decide +kernel
theorem dX4_toggleAt_13 : decode cX4_toggleAt 13 = .ok (.iload_n 2, 1) := by decide +kernel
theorem dX4_toggleAt_14 : decode cX4_toggleAt 14 = .ok (.iconst 0, 1) := by decide +kernel
theorem dX4_toggleAt_15 : decode cX4_toggleAt 15 = .ok (.aload_n 0, 1) := by decide +kernel
theorem dX4_toggleAt_16 : decode cX4_toggleAt 16 = .ok (.getfield 32, 3) := by decide +kernel
theorem dX4_toggleAt_19 : decode cX4_toggleAt 19 = .ok (.iload_n 1, 1) := by decide +kernel
theorem dX4_toggleAt_20 : decode cX4_toggleAt 20 = .ok (.iaload, 1) := by decide +kernel
theorem dX4_toggleAt_21 : decode cX4_toggleAt 21 = .ok (.iconst 1, 1) := by decide +kernel
theorem dX4_toggleAt_22 : decode cX4_toggleAt 22 = .ok (.isub, 1) := by decide +kernel
theorem dX4_toggleAt_23 : decode cX4_toggleAt 23 = .ok (.invokestatic 64, 3) := by decide +kernel
theorem dX4_toggleAt_26 : decode cX4_toggleAt 26 = .ok (.ifCond .eq 17, 3) := by decide +kernel
theorem dX4_toggleAt_29 : decode cX4_toggleAt 29 = .ok (.aload_n 0, 1) := by decide +kernel
theorem dX4_toggleAt_30 : decode cX4_toggleAt 30 = .ok (.getfield 35, 3) := by decide +kernel
theorem dX4_toggleAt_33 : decode cX4_toggleAt 33 = .ok (.bipush 6, 2) := by decide +kernel
theorem dX4_toggleAt_35 : decode cX4_toggleAt 35 = .ok (.iload_n 1, 1) := by decide +kernel
theorem dX4_toggleAt_36 : decode cX4_toggleAt 36 = .ok (.imul, 1) := by decide +kernel
theorem dX4_toggleAt_37 : decode cX4_toggleAt 37 = .ok (.iload_n 2, 1) := by decide +kernel
theorem dX4_toggleAt_38 : decode cX4_toggleAt 38 = .ok (.iadd, 1) := by decide +kernel
theorem dX4_toggleAt_39 : decode cX4_toggleAt 39 = .ok (.iaload, 1) := by decide +kernel
theorem dX4_toggleAt_40 : decode cX4_toggleAt 40 = .ok (.goto 8, 3) := by decide +kernel
theorem dX4_toggleAt_43 : decode cX4_toggleAt 43 = .ok (.aload_n 0, 1) := by decide +kernel
theorem dX4_toggleAt_44 : decode cX4_toggleAt 44 = .ok (.iconst 1, 1) := by decide +kernel
theorem dX4_toggleAt_45 : decode cX4_toggleAt 45 = .ok (.invokevirtual 71, 3) := by decide +kernel
theorem dX4_toggleAt_48 : decode cX4_toggleAt 48 = .ok (.ireturn, 1) := by decide +kernel
theorem dX4_isOnAt_0 : decode cX4_isOnAt 0 = .ok (.aload_n 0, 1) := by decide +kernel
theorem dX4_isOnAt_1 : decode cX4_isOnAt 1 = .ok (.getfield 29, 3) := by decide +kernel
theorem dX4_isOnAt_4 : decode cX4_isOnAt 4 = .ok (.iload_n 1, 1) := by decide +kernel
theorem dX4_isOnAt_5 : decode cX4_isOnAt 5 = .ok (.baload, 1) := by decide +kernel
theorem dX4_isOnAt_6 : decode cX4_isOnAt 6 = .ok (.istore_n 3, 1) := by decide +kernel
theorem dX4_isOnAt_7 : decode cX4_isOnAt 7 = .ok (.iconst 0, 1) := by decide +kernel
theorem dX4_isOnAt_8 : decode cX4_isOnAt 8 = .ok (.istore 4, 2) := by decide +kernel
theorem dX4_isOnAt_10 : decode cX4_isOnAt 10 = .ok (.iload 4, 2) := by decide +kernel
theorem dX4_isOnAt_12 : decode cX4_isOnAt 12 = .ok (.aload_n 0, 1) := by decide +kernel
theorem dX4_isOnAt_13 : decode cX4_isOnAt 13 = .ok (.getfield 32, 3) := by decide +kernel
theorem dX4_isOnAt_16 : decode cX4_isOnAt 16 = .ok (.iload_n 1, 1) := by decide +kernel
theorem dX4_isOnAt_17 : decode cX4_isOnAt 17 = .ok (.iaload, 1) := by decide +kernel
theorem dX4_isOnAt_18 : decode cX4_isOnAt 18 = .ok (.if_icmp .ge 40, 3) := by decide +kernel
theorem dX4_isOnAt_21 : decode cX4_isOnAt 21 = .ok (.iload_n 3, 1) := by decide +kernel
theorem dX4_isOnAt_22 : decode cX4_isOnAt 22 = .ok (.aload_n 0, 1) := by decide +kernel
theorem dX4_isOnAt_23 : decode cX4_isOnAt 23 = .ok (.getfield 35, 3) := by decide +kernel
theorem dX4_isOnAt_26 : decode cX4_isOnAt 26 = .ok (.bipush 6, 2) := by decide +kernel
theorem dX4_isOnAt_28 : decode cX4_isOnAt 28 = .ok (.iload_n 1, 1) := by decide +kernel
theorem dX4_isOnAt_29 : decode cX4_isOnAt 29 = .ok (.imul, 1) := by decide +kernel
theorem dX4_isOnAt_30 : decode cX4_isOnAt 30 = .ok (.iload 4, 2) := by decide +kernel
theorem dX4_isOnAt_32 : decode cX4_isOnAt 32 = .ok (.iadd, 1) := by decide +kernel
theorem dX4_isOnAt_33 : decode cX4_isOnAt 33 = .ok (.iaload, 1) := by decide +kernel
theorem dX4_isOnAt_34 : decode cX4_isOnAt 34 = .ok (.iload_n 2, 1) := by decide +kernel
theorem dX4_isOnAt_35 : decode cX4_isOnAt 35 = .ok (.if_icmp .gt 7, 3) := by decide +kernel
theorem dX4_isOnAt_38 : decode cX4_isOnAt 38 = .ok (.iconst 1, 1) := by decide +kernel
theorem dX4_isOnAt_39 : decode cX4_isOnAt 39 = .ok (.goto 4, 3) := by decide +kernel
theorem dX4_isOnAt_42 : decode cX4_isOnAt 42 = .ok (.iconst 0, 1) := by decide +kernel
theorem dX4_isOnAt_43 : decode cX4_isOnAt 43 = .ok (.if_icmp .eq 7, 3) := by decide +kernel
theorem dX4_isOnAt_46 : decode cX4_isOnAt 46 = .ok (.iconst 1, 1) := by decide +kernel
theorem dX4_isOnAt_47 : decode cX4_isOnAt 47 = .ok (.goto 4, 3) := by decide +kernel
theorem dX4_isOnAt_50 : decode cX4_isOnAt 50 = .ok (.iconst 0, 1) := by decide +kernel
theorem dX4_isOnAt_51 : decode cX4_isOnAt 51 = .ok (.istore_n 3, 1) := by decide +kernel
theorem dX4_isOnAt_52 : decode cX4_isOnAt 52 = .ok (.iinc 4 1, 3) := by decide +kernel
theorem dX4_isOnAt_55 : decode cX4_isOnAt 55 = .ok (.goto (-45), 3) := by decide +kernel
theorem dX4_isOnAt_58 : decode cX4_isOnAt 58 = .ok (.iload_n 3, 1) := by decide +kernel
theorem dX4_isOnAt_59 : decode cX4_isOnAt 59 = .ok (.ireturn, 1) := by decide +kernel
theorem dX4_conducts_0 : decode cX4_conducts 0 = .ok (.aload_n 0, 1) := by decide +kernel
theorem dX4_conducts_1 : decode cX4_conducts 1 = .ok (.getfield 17, 3) := by decide +kernel
theorem dX4_conducts_4 : decode cX4_conducts 4 = .ok (.iload_n 1, 1) := by decide +kernel
theorem dX4_conducts_5 : decode cX4_conducts 5 = .ok (.baload, 1) := by decide +kernel
theorem dX4_conducts_6 : decode cX4_conducts 6 = .ok (.ifCond .ne 16, 3) := by decide +kernel
theorem dX4_conducts_9 : decode cX4_conducts 9 = .ok (.aload_n 0, 1) := by decide +kernel
theorem dX4_conducts_10 : decode cX4_conducts 10 = .ok (.iload_n 1, 1) := by decide +kernel
theorem dX4_conducts_11 : decode cX4_conducts 11 = .ok (.iload_n 2, 1) := by decide +kernel
theorem dX4_conducts_12 : decode cX4_conducts 12 = .ok (.invokevirtual 99, 3) := by decide +kernel
theorem dX4_conducts_15 : decode cX4_conducts 15 = .ok (.ifCond .eq 7, 3) := by decide +kernel
theorem dX4_conducts_18 : decode cX4_conducts 18 = .ok (.iconst 1, 1) := by decide +kernel
theorem dX4_conducts_19 : decode cX4_conducts 19 = .ok (.goto 4, 3) := by decide +kernel
theorem dX4_conducts_22 : decode cX4_conducts 22 = .ok (.iconst 0, 1) := by decide +kernel
theorem dX4_conducts_23 : decode cX4_conducts 23 = .ok (.ireturn, 1) := by decide +kernel
theorem dX4_isOn_0 : decode cX4_isOn 0 = .ok (.aload_n 0, 1) := by decide +kernel
theorem dX4_isOn_1 : decode cX4_isOn 1 = .ok (.aload_n 0, 1) := by decide +kernel
theorem dX4_isOn_2 : decode cX4_isOn 2 = .ok (.iload_n 1, 1) := by decide +kernel
theorem dX4_isOn_3 : decode cX4_isOn 3 = .ok (.invokevirtual 83, 3) := by decide +kernel
theorem dX4_isOn_6 : decode cX4_isOn 6 = .ok (.ifCond .ne 7, 3) := by decide +kernel
theorem dX4_isOn_9 : decode cX4_isOn 9 = .ok (.iconst 1, 1) := by decide +kernel
theorem dX4_isOn_10 : decode cX4_isOn 10 = .ok (.goto 15, 3) := by decide +kernel
theorem dX4_isOn_13 : decode cX4_isOn 13 = .ok (.iload_n 2, 1) := by decide +kernel
theorem dX4_isOn_14 : decode cX4_isOn 14 = .ok (.invokestatic 103, 3) := by decide +kernel
theorem dX4_isOn_17 : decode cX4_isOn 17 = .ok (.ifCond .eq 7, 3) := by decide +kernel
theorem dX4_isOn_20 : decode cX4_isOn 20 = .ok (.iconst 0, 1) := by decide +kernel
theorem dX4_isOn_21 : decode cX4_isOn 21 = .ok (.goto 4, 3) := by decide +kernel
theorem dX4_isOn_24 : decode cX4_isOn 24 = .ok (.iconst 2, 1) := by decide +kernel
theorem dX4_isOn_25 : decode cX4_isOn 25 = .ok (.putfield 57, 3) := by decide +kernel
theorem dX4_isOn_28 : decode cX4_isOn 28 = .ok (.aload_n 0, 1) := by decide +kernel
theorem dX4_isOn_29 : decode cX4_isOn 29 = .ok (.getfield 57, 3) := by decide +kernel
theorem dX4_isOn_32 : decode cX4_isOn 32 = .ok (.ifCond .ne 16, 3) := by decide +kernel
theorem dX4_isOn_35 : decode cX4_isOn 35 = .ok (.aload_n 0, 1) := by decide +kernel
theorem dX4_isOn_36 : decode cX4_isOn 36 = .ok (.iload_n 1, 1) := by decide +kernel
theorem dX4_isOn_37 : decode cX4_isOn 37 = .ok (.iload_n 2, 1) := by decide +kernel
theorem dX4_isOn_38 : decode cX4_isOn 38 = .ok (.invokevirtual 99, 3) := by decide +kernel
theorem dX4_isOn_41 : decode cX4_isOn 41 = .ok (.ifCond .eq 7, 3) := by decide +kernel
theorem dX4_isOn_44 : decode cX4_isOn 44 = .ok (.iconst 1, 1) := by decide +kernel
theorem dX4_isOn_45 : decode cX4_isOn 45 = .ok (.goto 4, 3) := by decide +kernel
theorem dX4_isOn_48 : decode cX4_isOn 48 = .ok (.iconst 0, 1) := by decide +kernel
theorem dX4_isOn_49 : decode cX4_isOn 49 = .ok (.ireturn, 1) := by decide +kernel
theorem dX4_group_0 : decode cX4_group 0 = .ok (.iconst 1, 1) := by decide +kernel
theorem dX4_group_1 : decode cX4_group 1 = .ok (.iload_n 1, 1) := by decide +kernel
theorem dX4_group_2 : decode cX4_group 2 = .ok (.ishl, 1) := by decide +kernel
theorem dX4_group_3 : decode cX4_group 3 = .ok (.istore_n 3, 1) := by decide +kernel
theorem dX4_group_4 : decode cX4_group 4 = .ok (.iconst 0, 1) := by decide +kernel
theorem dX4_group_5 : decode cX4_group 5 = .ok (.istore 4, 2) := by decide +kernel
theorem dX4_group_7 : decode cX4_group 7 = .ok (.iload_n 3, 1) := by decide +kernel
theorem dX4_group_8 : decode cX4_group 8 = .ok (.iload 4, 2) := by decide +kernel
theorem dX4_group_10 : decode cX4_group 10 = .ok (.if_icmp .eq 84, 3) := by decide +kernel
theorem dX4_group_13 : decode cX4_group 13 = .ok (.iload_n 3, 1) := by decide +kernel
theorem dX4_group_14 : decode cX4_group 14 = .ok (.istore 4, 2) := by decide +kernel
theorem dX4_group_16 : decode cX4_group 16 = .ok (.iconst 0, 1) := by decide +kernel
theorem dX4_group_17 : decode cX4_group 17 = .ok (.istore 5, 2) := by decide +kernel
theorem dX4_group_19 : decode cX4_group 19 = .ok (.iload 5, 2) := by decide +kernel
theorem dX4_group_21 : decode cX4_group 21 = .ok (.aload_n 0, 1) := by decide +kernel
theorem dX4_group_22 : decode cX4_group 22 = .ok (.getfield 68, 3) := by decide +kernel
theorem dX4_group_25 : decode cX4_group 25 = .ok (.if_icmp .ge 66, 3) := by decide +kernel
theorem dX4_group_28 : decode cX4_group 28 = .ok (.aload_n 0, 1) := by decide +kernel
theorem dX4_group_29 : decode cX4_group 29 = .ok (.iload 5, 2) := by decide +kernel
theorem dX4_group_31 : decode cX4_group 31 = .ok (.iload_n 2, 1) := by decide +kernel
theorem dX4_group_32 : decode cX4_group 32 = .ok (.invokevirtual 106, 3) := by decide +kernel
theorem dX4_group_35 : decode cX4_group 35 = .ok (.ifCond .eq 50, 3) := by decide +kernel
theorem dX4_group_38 : decode cX4_group 38 = .ok (.iload_n 3, 1) := by decide +kernel
theorem dX4_group_39 : decode cX4_group 39 = .ok (.aload_n 0, 1) := by decide +kernel
theorem dX4_group_40 : decode cX4_group 40 = .ok (.getfield 20, 3) := by decide +kernel
theorem dX4_group_43 : decode cX4_group 43 = .ok (.iload 5, 2) := by decide +kernel
theorem dX4_group_45 : decode cX4_group 45 = .ok (.iaload, 1) := by decide +kernel
theorem dX4_group_46 : decode cX4_group 46 = .ok (.ishr, 1) := by decide +kernel
theorem dX4_group_47 : decode cX4_group 47 = .ok (.iload_n 3, 1) := by decide +kernel
end
section
theorem dX4_group_48 : decode cX4_group 48 = .ok (.aload_n 0, 1) := by decide +kernel
theorem dX4_group_49 : decode cX4_group 49 = .ok (.getfield 23, 3) := by decide +kernel
theorem dX4_group_52 : decode cX4_group 52 = .ok (.iload 5, 2) := by decide +kernel
theorem dX4_group_54 : decode cX4_group 54 = .ok (.iaload, 1) := by decide +kernel
theorem dX4_group_55 : decode cX4_group 55 = .ok (.ishr, 1) := by decide +kernel
theorem dX4_group_56 : decode cX4_group 56 = .ok (.ior, 1) := by decide +kernel
theorem dX4_group_57 : decode cX4_group 57 = .ok (.iconst 1, 1) := by decide +kernel
theorem dX4_group_58 : decode cX4_group 58 = .ok (.iand, 1) := by decide +kernel
theorem dX4_group_59 : decode cX4_group 59 = .ok (.iconst 1, 1) := by decide +kernel
theorem dX4_group_60 : decode cX4_group 60 = .ok (.if_icmp .ne 25, 3) := by decide +kernel
theorem dX4_group_63 : decode cX4_group 63 = .ok (.iload_n 3, 1) := by decide +kernel
theorem dX4_group_64 : decode cX4_group 64 = .ok (.iconst 1, 1) := by decide +kernel
theorem dX4_group_65 : decode cX4_group 65 = .ok (.aload_n 0, 1) := by decide +kernel
theorem dX4_group_66 : decode cX4_group 66 = .ok (.getfield 20, 3) := by decide +kernel
theorem dX4_group_69 : decode cX4_group 69 = .ok (.iload 5, 2) := by decide +kernel
theorem dX4_group_71 : decode cX4_group 71 = .ok (.iaload, 1) := by decide +kernel
theorem dX4_group_72 : decode cX4_group 72 = .ok (.ishl, 1) := by decide +kernel
theorem dX4_group_73 : decode cX4_group 73 = .ok (.iconst 1, 1) := by decide +kernel
theorem dX4_group_74 : decode cX4_group 74 = .ok (.aload_n 0, 1) := by decide +kernel
theorem dX4_group_75 : decode cX4_group 75 = .ok (.getfield 23, 3) := by decide +kernel
theorem dX4_group_78 : decode cX4_group 78 = .ok (.iload 5, 2) := by decide +kernel
theorem dX4_group_80 : decode cX4_group 80 = .ok (.iaload, 1) := by decide +kernel
theorem dX4_group_81 : decode cX4_group 81 = .ok (.ishl, 1) := by decide +kernel
theorem dX4_group_82 : decode cX4_group 82 = .ok (.ior, 1) := by decide +kernel
theorem dX4_group_83 : decode cX4_group 83 = .ok (.ior, 1) := by decide +kernel
theorem dX4_group_84 : decode cX4_group 84 = .ok (.istore_n 3, 1) := by decide +kernel
theorem dX4_group_85 : decode cX4_group 85 = .ok (.iinc 5 1, 3) := by decide +kernel
theorem dX4_group_88 : decode cX4_group 88 = .ok (.goto (-69), 3) := by decide +kernel
theorem dX4_group_91 : decode cX4_group 91 = .ok (.goto (-84), 3) := by decide +kernel
theorem dX4_group_94 : decode cX4_group 94 = .ok (.iload_n 3, 1) := by decide +kernel
theorem dX4_group_95 : decode cX4_group 95 = .ok (.ireturn, 1) := by decide +kernel
theorem dX4_together_0 : decode cX4_together 0 = .ok (.aload_n 0, 1) := by decide +kernel
theorem dX4_together_1 : decode cX4_together 1 = .ok (.iconst 0, 1) := by decide +kernel
theorem dX4_together_2 : decode cX4_together 2 = .ok (.putfield 57, 3) := by decide +kernel
theorem dX4_together_5 : decode cX4_together 5 = .ok (.aload_n 0, 1) := by decide +kernel
theorem dX4_together_6 : decode cX4_together 6 = .ok (.iload_n 1, 1) := by decide +kernel
theorem dX4_together_7 : decode cX4_together 7 = .ok (.invokevirtual 75, 3) := by decide +kernel
theorem dX4_together_10 : decode cX4_together 10 = .ok (.ifCond .ne 9, 3) := by decide +kernel
theorem dX4_together_13 : decode cX4_together 13 = .ok (.aload_n 0, 1) := by decide +kernel
theorem dX4_together_14 : decode cX4_together 14 = .ok (.iconst 1, 1) := by decide +kernel
theorem dX4_together_15 : decode cX4_together 15 = .ok (.invokevirtual 71, 3) := by decide +kernel
theorem dX4_together_18 : decode cX4_together 18 = .ok (.ireturn, 1) := by decide +kernel
theorem dX4_together_19 : decode cX4_together 19 = .ok (.iload_n 2, 1) := by decide +kernel
theorem dX4_together_20 : decode cX4_together 20 = .ok (.invokestatic 103, 3) := by decide +kernel
theorem dX4_together_23 : decode cX4_together 23 = .ok (.ifCond .eq 12, 3) := by decide +kernel
theorem dX4_together_26 : decode cX4_together 26 = .ok (.aload_n 0, 1) := by decide +kernel
theorem dX4_together_27 : decode cX4_together 27 = .ok (.iload_n 1, 1) := by decide +kernel
theorem dX4_together_28 : decode cX4_together 28 = .ok (.iload_n 2, 1) := by decide +kernel
theorem dX4_together_29 : decode cX4_together 29 = .ok (.invokevirtual 109, 3) := by decide +kernel
theorem dX4_together_32 : decode cX4_together 32 = .ok (.goto 8, 3) := by decide +kernel
theorem dX4_together_35 : decode cX4_together 35 = .ok (.aload_n 0, 1) := by decide +kernel
theorem dX4_together_36 : decode cX4_together 36 = .ok (.iconst 2, 1) := by decide +kernel
theorem dX4_together_37 : decode cX4_together 37 = .ok (.invokevirtual 71, 3) := by decide +kernel
theorem dX4_together_40 : decode cX4_together 40 = .ok (.ireturn, 1) := by decide +kernel
theorem dX4_floatsAt_0 : decode cX4_floatsAt 0 = .ok (.aload_n 0, 1) := by decide +kernel
theorem dX4_floatsAt_1 : decode cX4_floatsAt 1 = .ok (.iload_n 1, 1) := by decide +kernel
theorem dX4_floatsAt_2 : decode cX4_floatsAt 2 = .ok (.iload_n 2, 1) := by decide +kernel
theorem dX4_floatsAt_3 : decode cX4_floatsAt 3 = .ok (.invokevirtual 109, 3) := by decide +kernel
theorem dX4_floatsAt_6 : decode cX4_floatsAt 6 = .ok (.istore_n 3, 1) := by decide +kernel
theorem dX4_floatsAt_7 : decode cX4_floatsAt 7 = .ok (.iconst 0, 1) := by decide +kernel
theorem dX4_floatsAt_8 : decode cX4_floatsAt 8 = .ok (.istore 4, 2) := by decide +kernel
theorem dX4_floatsAt_10 : decode cX4_floatsAt 10 = .ok (.iload 4, 2) := by decide +kernel
theorem dX4_floatsAt_12 : decode cX4_floatsAt 12 = .ok (.aload_n 0, 1) := by decide +kernel
theorem dX4_floatsAt_13 : decode cX4_floatsAt 13 = .ok (.getfield 61, 3) := by decide +kernel
theorem dX4_floatsAt_16 : decode cX4_floatsAt 16 = .ok (.if_icmp .ge 31, 3) := by decide +kernel
theorem dX4_floatsAt_19 : decode cX4_floatsAt 19 = .ok (.iload_n 3, 1) := by decide +kernel
theorem dX4_floatsAt_20 : decode cX4_floatsAt 20 = .ok (.iload 4, 2) := by decide +kernel
theorem dX4_floatsAt_22 : decode cX4_floatsAt 22 = .ok (.ishr, 1) := by decide +kernel
theorem dX4_floatsAt_23 : decode cX4_floatsAt 23 = .ok (.iconst 1, 1) := by decide +kernel
theorem dX4_floatsAt_24 : decode cX4_floatsAt 24 = .ok (.iand, 1) := by decide +kernel
theorem dX4_floatsAt_25 : decode cX4_floatsAt 25 = .ok (.iconst 1, 1) := by decide +kernel
theorem dX4_floatsAt_26 : decode cX4_floatsAt 26 = .ok (.if_icmp .ne 15, 3) := by decide +kernel
theorem dX4_floatsAt_29 : decode cX4_floatsAt 29 = .ok (.aload_n 0, 1) := by decide +kernel
theorem dX4_floatsAt_30 : decode cX4_floatsAt 30 = .ok (.getfield 9, 3) := by decide +kernel
theorem dX4_floatsAt_33 : decode cX4_floatsAt 33 = .ok (.iload 4, 2) := by decide +kernel
theorem dX4_floatsAt_35 : decode cX4_floatsAt 35 = .ok (.baload, 1) := by decide +kernel
theorem dX4_floatsAt_36 : decode cX4_floatsAt 36 = .ok (.ifCond .eq 5, 3) := by decide +kernel
theorem dX4_floatsAt_39 : decode cX4_floatsAt 39 = .ok (.iconst 0, 1) := by decide +kernel
theorem dX4_floatsAt_40 : decode cX4_floatsAt 40 = .ok (.ireturn, 1) := by decide +kernel
theorem dX4_floatsAt_41 : decode cX4_floatsAt 41 = .ok (.iinc 4 1, 3) := by decide +kernel
theorem dX4_floatsAt_44 : decode cX4_floatsAt 44 = .ok (.goto (-34), 3) := by decide +kernel
theorem dX4_floatsAt_47 : decode cX4_floatsAt 47 = .ok (.iconst 1, 1) := by decide +kernel
theorem dX4_floatsAt_48 : decode cX4_floatsAt 48 = .ok (.ireturn, 1) := by decide +kernel
theorem dX4_floats_0 : decode cX4_floats 0 = .ok (.aload_n 0, 1) := by decide +kernel
theorem dX4_floats_1 : decode cX4_floats 1 = .ok (.aload_n 0, 1) := by decide +kernel
theorem dX4_floats_2 : decode cX4_floats 2 = .ok (.iload_n 1, 1) := by decide +kernel
theorem dX4_floats_3 : decode cX4_floats 3 = .ok (.invokevirtual 75, 3) := by decide +kernel
theorem dX4_floats_6 : decode cX4_floats 6 = .ok (.ifCond .ne 7, 3) := by decide +kernel
theorem dX4_floats_9 : decode cX4_floats 9 = .ok (.iconst 1, 1) := by decide +kernel
theorem dX4_floats_10 : decode cX4_floats 10 = .ok (.goto 15, 3) := by decide +kernel
theorem dX4_floats_13 : decode cX4_floats 13 = .ok (.iload_n 2, 1) := by decide +kernel
theorem dX4_floats_14 : decode cX4_floats 14 = .ok (.invokestatic 103, 3) := by decide +kernel
theorem dX4_floats_17 : decode cX4_floats 17 = .ok (.ifCond .eq 7, 3) := by decide +kernel
theorem dX4_floats_20 : decode cX4_floats 20 = .ok (.iconst 0, 1) := by decide +kernel
theorem dX4_floats_21 : decode cX4_floats 21 = .ok (.goto 4, 3) := by decide +kernel
theorem dX4_floats_24 : decode cX4_floats 24 = .ok (.iconst 2, 1) := by decide +kernel
theorem dX4_floats_25 : decode cX4_floats 25 = .ok (.putfield 57, 3) := by decide +kernel
theorem dX4_floats_28 : decode cX4_floats 28 = .ok (.aload_n 0, 1) := by decide +kernel
theorem dX4_floats_29 : decode cX4_floats 29 = .ok (.getfield 57, 3) := by decide +kernel
theorem dX4_floats_32 : decode cX4_floats 32 = .ok (.ifCond .ne 16, 3) := by decide +kernel
theorem dX4_floats_35 : decode cX4_floats 35 = .ok (.aload_n 0, 1) := by decide +kernel
theorem dX4_floats_36 : decode cX4_floats 36 = .ok (.iload_n 1, 1) := by decide +kernel
theorem dX4_floats_37 : decode cX4_floats 37 = .ok (.iload_n 2, 1) := by decide +kernel
theorem dX4_floats_38 : decode cX4_floats 38 = .ok (.invokevirtual 112, 3) := by decide +kernel
theorem dX4_floats_41 : decode cX4_floats 41 = .ok (.ifCond .eq 7, 3) := by decide +kernel
theorem dX4_floats_44 : decode cX4_floats 44 = .ok (.iconst 1, 1) := by decide +kernel
theorem dX4_floats_45 : decode cX4_floats 45 = .ok (.goto 4, 3) := by decide +kernel
theorem dX4_floats_48 : decode cX4_floats 48 = .ok (.iconst 0, 1) := by decide +kernel
theorem dX4_floats_49 : decode cX4_floats 49 = .ok (.ireturn, 1) := by decide +kernel
theorem dX4_determinant_0 : decode cX4_determinant 0 = .ok (.aload_n 0, 1) := by decide +kernel
theorem dX4_determinant_1 : decode cX4_determinant 1 = .ok (.getfield 48, 3) := by decide +kernel
theorem dX4_determinant_4 : decode cX4_determinant 4 = .ok (.iconst 0, 1) := by decide +kernel
theorem dX4_determinant_5 : decode cX4_determinant 5 = .ok (.lconst 1, 1) := by decide +kernel
theorem dX4_determinant_6 : decode cX4_determinant 6 = .ok (.lastore, 1) := by decide +kernel
theorem dX4_determinant_7 : decode cX4_determinant 7 = .ok (.iconst 1, 1) := by decide +kernel
theorem dX4_determinant_8 : decode cX4_determinant 8 = .ok (.istore_n 2, 1) := by decide +kernel
theorem dX4_determinant_9 : decode cX4_determinant 9 = .ok (.iload_n 2, 1) := by decide +kernel
theorem dX4_determinant_10 : decode cX4_determinant 10 = .ok (.iconst 1, 1) := by decide +kernel
theorem dX4_determinant_11 : decode cX4_determinant 11 = .ok (.aload_n 0, 1) := by decide +kernel
theorem dX4_determinant_12 : decode cX4_determinant 12 = .ok (.getfield 115, 3) := by decide +kernel
theorem dX4_determinant_15 : decode cX4_determinant 15 = .ok (.ishl, 1) := by decide +kernel
theorem dX4_determinant_16 : decode cX4_determinant 16 = .ok (.if_icmp .ge 131, 3) := by decide +kernel
theorem dX4_determinant_19 : decode cX4_determinant 19 = .ok (.iload_n 2, 1) := by decide +kernel
theorem dX4_determinant_20 : decode cX4_determinant 20 = .ok (.invokestatic 118, 3) := by decide +kernel
theorem dX4_determinant_23 : decode cX4_determinant 23 = .ok (.iconst 1, 1) := by decide +kernel
theorem dX4_determinant_24 : decode cX4_determinant 24 = .ok (.isub, 1) := by decide +kernel
theorem dX4_determinant_25 : decode cX4_determinant 25 = .ok (.istore_n 3, 1) := by decide +kernel
theorem dX4_determinant_26 : decode cX4_determinant 26 = .ok (.lconst 0, 1) := by decide +kernel
theorem dX4_determinant_27 : decode cX4_determinant 27 = .ok (.lstore 4, 2) := by decide +kernel
theorem dX4_determinant_29 : decode cX4_determinant 29 = .ok (.iconst 0, 1) := by decide +kernel
theorem dX4_determinant_30 : decode cX4_determinant 30 = .ok (.istore 6, 2) := by decide +kernel
theorem dX4_determinant_32 : decode cX4_determinant 32 = .ok (.iload 6, 2) := by decide +kernel
theorem dX4_determinant_34 : decode cX4_determinant 34 = .ok (.aload_n 0, 1) := by decide +kernel
theorem dX4_determinant_35 : decode cX4_determinant 35 = .ok (.getfield 115, 3) := by decide +kernel
theorem dX4_determinant_38 : decode cX4_determinant 38 = .ok (.if_icmp .ge 95, 3) := by decide +kernel
theorem dX4_determinant_41 : decode cX4_determinant 41 = .ok (.iload_n 2, 1) := by decide +kernel
theorem dX4_determinant_42 : decode cX4_determinant 42 = .ok (.iload 6, 2) := by decide +kernel
theorem dX4_determinant_44 : decode cX4_determinant 44 = .ok (.ishr, 1) := by decide +kernel
theorem dX4_determinant_45 : decode cX4_determinant 45 = .ok (.iconst 1, 1) := by decide +kernel
theorem dX4_determinant_46 : decode cX4_determinant 46 = .ok (.iand, 1) := by decide +kernel
theorem dX4_determinant_47 : decode cX4_determinant 47 = .ok (.ifCond .ne 6, 3) := by decide +kernel
theorem dX4_determinant_50 : decode cX4_determinant 50 = .ok (.goto 77, 3) := by decide +kernel
theorem dX4_determinant_53 : decode cX4_determinant 53 = .ok (.iload 6, 2) := by decide +kernel
theorem dX4_determinant_55 : decode cX4_determinant 55 = .ok (.iload_n 1, 1) := by decide +kernel
theorem dX4_determinant_56 : decode cX4_determinant 56 = .ok (.if_icmp .ne 12, 3) := by decide +kernel
theorem dX4_determinant_59 : decode cX4_determinant 59 = .ok (.aload_n 0, 1) := by decide +kernel
theorem dX4_determinant_60 : decode cX4_determinant 60 = .ok (.getfield 45, 3) := by decide +kernel
theorem dX4_determinant_63 : decode cX4_determinant 63 = .ok (.iload_n 3, 1) := by decide +kernel
theorem dX4_determinant_64 : decode cX4_determinant 64 = .ok (.laload, 1) := by decide +kernel
theorem dX4_determinant_65 : decode cX4_determinant 65 = .ok (.goto 15, 3) := by decide +kernel
theorem dX4_determinant_68 : decode cX4_determinant 68 = .ok (.aload_n 0, 1) := by decide +kernel
theorem dX4_determinant_69 : decode cX4_determinant 69 = .ok (.getfield 41, 3) := by decide +kernel
theorem dX4_determinant_72 : decode cX4_determinant 72 = .ok (.bipush 8, 2) := by decide +kernel
theorem dX4_determinant_74 : decode cX4_determinant 74 = .ok (.iload_n 3, 1) := by decide +kernel
theorem dX4_determinant_75 : decode cX4_determinant 75 = .ok (.imul, 1) := by decide +kernel
theorem dX4_determinant_76 : decode cX4_determinant 76 = .ok (.iload 6, 2) := by decide +kernel
theorem dX4_determinant_78 : decode cX4_determinant 78 = .ok (.iadd, 1) := by decide +kernel
theorem dX4_determinant_79 : decode cX4_determinant 79 = .ok (.laload, 1) := by decide +kernel
theorem dX4_determinant_80 : decode cX4_determinant 80 = .ok (.lstore 7, 2) := by decide +kernel
theorem dX4_determinant_82 : decode cX4_determinant 82 = .ok (.lload 7, 2) := by decide +kernel
theorem dX4_determinant_84 : decode cX4_determinant 84 = .ok (.aload_n 0, 1) := by decide +kernel
theorem dX4_determinant_85 : decode cX4_determinant 85 = .ok (.getfield 48, 3) := by decide +kernel
theorem dX4_determinant_88 : decode cX4_determinant 88 = .ok (.iload_n 2, 1) := by decide +kernel
theorem dX4_determinant_89 : decode cX4_determinant 89 = .ok (.iconst 1, 1) := by decide +kernel
theorem dX4_determinant_90 : decode cX4_determinant 90 = .ok (.iload 6, 2) := by decide +kernel
theorem dX4_determinant_92 : decode cX4_determinant 92 = .ok (.ishl, 1) := by decide +kernel
theorem dX4_determinant_93 : decode cX4_determinant 93 = .ok (.iconst (-1), 1) := by decide +kernel
theorem dX4_determinant_94 : decode cX4_determinant 94 = .ok (.ixor, 1) := by decide +kernel
theorem dX4_determinant_95 : decode cX4_determinant 95 = .ok (.iand, 1) := by decide +kernel
theorem dX4_determinant_96 : decode cX4_determinant 96 = .ok (.laload, 1) := by decide +kernel
theorem dX4_determinant_97 : decode cX4_determinant 97 = .ok (.lmul, 1) := by decide +kernel
theorem dX4_determinant_98 : decode cX4_determinant 98 = .ok (.lstore 9, 2) := by decide +kernel
theorem dX4_determinant_100 : decode cX4_determinant 100 = .ok (.lload 4, 2) := by decide +kernel
theorem dX4_determinant_102 : decode cX4_determinant 102 = .ok (.iload_n 2, 1) := by decide +kernel
theorem dX4_determinant_103 : decode cX4_determinant 103 = .ok (.iload 6, 2) := by decide +kernel
theorem dX4_determinant_105 : decode cX4_determinant 105 = .ok (.iconst 1, 1) := by decide +kernel
theorem dX4_determinant_106 : decode cX4_determinant 106 = .ok (.iadd, 1) := by decide +kernel
theorem dX4_determinant_107 : decode cX4_determinant 107 = .ok (.ishr, 1) := by decide +kernel
theorem dX4_determinant_108 : decode cX4_determinant 108 = .ok (.invokestatic 118, 3) := by decide +kernel
theorem dX4_determinant_111 : decode cX4_determinant 111 = .ok (.iconst 2, 1) := by decide +kernel
theorem dX4_determinant_112 : decode cX4_determinant 112 = .ok (.irem, 1) := by decide +kernel
theorem dX4_determinant_113 : decode cX4_determinant 113 = .ok (.ifCond .ne 8, 3) := by decide +kernel
theorem dX4_determinant_116 : decode cX4_determinant 116 = .ok (.lload 9, 2) := by decide +kernel
theorem dX4_determinant_118 : decode cX4_determinant 118 = .ok (.goto 6, 3) := by decide +kernel
theorem dX4_determinant_121 : decode cX4_determinant 121 = .ok (.lload 9, 2) := by decide +kernel
theorem dX4_determinant_123 : decode cX4_determinant 123 = .ok (.lneg, 1) := by decide +kernel
theorem dX4_determinant_124 : decode cX4_determinant 124 = .ok (.ladd, 1) := by decide +kernel
theorem dX4_determinant_125 : decode cX4_determinant 125 = .ok (.lstore 4, 2) := by decide +kernel
theorem dX4_determinant_127 : decode cX4_determinant 127 = .ok (.iinc 6 1, 3) := by decide +kernel
theorem dX4_determinant_130 : decode cX4_determinant 130 = .ok (.goto (-98), 3) := by decide +kernel
theorem dX4_determinant_133 : decode cX4_determinant 133 = .ok (.aload_n 0, 1) := by decide +kernel
theorem dX4_determinant_134 : decode cX4_determinant 134 = .ok (.getfield 48, 3) := by decide +kernel
theorem dX4_determinant_137 : decode cX4_determinant 137 = .ok (.iload_n 2, 1) := by decide +kernel
theorem dX4_determinant_138 : decode cX4_determinant 138 = .ok (.lload 4, 2) := by decide +kernel
theorem dX4_determinant_140 : decode cX4_determinant 140 = .ok (.lastore, 1) := by decide +kernel
theorem dX4_determinant_141 : decode cX4_determinant 141 = .ok (.iinc 2 1, 3) := by decide +kernel
theorem dX4_determinant_144 : decode cX4_determinant 144 = .ok (.goto (-135), 3) := by decide +kernel
theorem dX4_determinant_147 : decode cX4_determinant 147 = .ok (.aload_n 0, 1) := by decide +kernel
theorem dX4_determinant_148 : decode cX4_determinant 148 = .ok (.getfield 48, 3) := by decide +kernel
theorem dX4_determinant_151 : decode cX4_determinant 151 = .ok (.iconst 1, 1) := by decide +kernel
theorem dX4_determinant_152 : decode cX4_determinant 152 = .ok (.aload_n 0, 1) := by decide +kernel
theorem dX4_determinant_153 : decode cX4_determinant 153 = .ok (.getfield 115, 3) := by decide +kernel
theorem dX4_determinant_156 : decode cX4_determinant 156 = .ok (.ishl, 1) := by decide +kernel
theorem dX4_determinant_157 : decode cX4_determinant 157 = .ok (.iconst 1, 1) := by decide +kernel
theorem dX4_determinant_158 : decode cX4_determinant 158 = .ok (.isub, 1) := by decide +kernel
theorem dX4_determinant_159 : decode cX4_determinant 159 = .ok (.laload, 1) := by decide +kernel
theorem dX4_determinant_160 : decode cX4_determinant 160 = .ok (.lreturn, 1) := by decide +kernel
theorem dX4_clear_0 : decode cX4_clear 0 = .ok (.aload_n 0, 1) := by decide +kernel
theorem dX4_clear_1 : decode cX4_clear 1 = .ok (.iconst 0, 1) := by decide +kernel
theorem dX4_clear_2 : decode cX4_clear 2 = .ok (.putfield 115, 3) := by decide +kernel
theorem dX4_clear_5 : decode cX4_clear 5 = .ok (.iconst 0, 1) := by decide +kernel
theorem dX4_clear_6 : decode cX4_clear 6 = .ok (.istore_n 1, 1) := by decide +kernel
theorem dX4_clear_7 : decode cX4_clear 7 = .ok (.iload_n 1, 1) := by decide +kernel
theorem dX4_clear_8 : decode cX4_clear 8 = .ok (.bipush 8, 2) := by decide +kernel
theorem dX4_clear_10 : decode cX4_clear 10 = .ok (.if_icmp .ge 16, 3) := by decide +kernel
theorem dX4_clear_13 : decode cX4_clear 13 = .ok (.aload_n 0, 1) := by decide +kernel
theorem dX4_clear_14 : decode cX4_clear 14 = .ok (.getfield 38, 3) := by decide +kernel
theorem dX4_clear_17 : decode cX4_clear 17 = .ok (.iload_n 1, 1) := by decide +kernel
theorem dX4_clear_18 : decode cX4_clear 18 = .ok (.iconst (-1), 1) := by decide +kernel
theorem dX4_clear_19 : decode cX4_clear 19 = .ok (.iastore, 1) := by decide +kernel
theorem dX4_clear_20 : decode cX4_clear 20 = .ok (.iinc 1 1, 3) := by decide +kernel
theorem dX4_clear_23 : decode cX4_clear 23 = .ok (.goto (-16), 3) := by decide +kernel
theorem dX4_clear_26 : decode cX4_clear 26 = .ok (.iconst 0, 1) := by decide +kernel
theorem dX4_clear_27 : decode cX4_clear 27 = .ok (.istore_n 1, 1) := by decide +kernel
theorem dX4_clear_28 : decode cX4_clear 28 = .ok (.iload_n 1, 1) := by decide +kernel
theorem dX4_clear_29 : decode cX4_clear 29 = .ok (.aload_n 0, 1) := by decide +kernel
theorem dX4_clear_30 : decode cX4_clear 30 = .ok (.getfield 41, 3) := by decide +kernel
theorem dX4_clear_33 : decode cX4_clear 33 = .ok (.arraylength, 1) := by decide +kernel
theorem dX4_clear_34 : decode cX4_clear 34 = .ok (.if_icmp .ge 16, 3) := by decide +kernel
theorem dX4_clear_37 : decode cX4_clear 37 = .ok (.aload_n 0, 1) := by decide +kernel
theorem dX4_clear_38 : decode cX4_clear 38 = .ok (.getfield 41, 3) := by decide +kernel
theorem dX4_clear_41 : decode cX4_clear 41 = .ok (.iload_n 1, 1) := by decide +kernel
theorem dX4_clear_42 : decode cX4_clear 42 = .ok (.lconst 0, 1) := by decide +kernel
theorem dX4_clear_43 : decode cX4_clear 43 = .ok (.lastore, 1) := by decide +kernel
theorem dX4_clear_44 : decode cX4_clear 44 = .ok (.iinc 1 1, 3) := by decide +kernel
theorem dX4_clear_47 : decode cX4_clear 47 = .ok (.goto (-19), 3) := by decide +kernel
theorem dX4_clear_50 : decode cX4_clear 50 = .ok (.iconst 0, 1) := by decide +kernel
theorem dX4_clear_51 : decode cX4_clear 51 = .ok (.istore_n 1, 1) := by decide +kernel
theorem dX4_clear_52 : decode cX4_clear 52 = .ok (.iload_n 1, 1) := by decide +kernel
theorem dX4_clear_53 : decode cX4_clear 53 = .ok (.bipush 8, 2) := by decide +kernel
theorem dX4_clear_55 : decode cX4_clear 55 = .ok (.if_icmp .ge 16, 3) := by decide +kernel
theorem dX4_clear_58 : decode cX4_clear 58 = .ok (.aload_n 0, 1) := by decide +kernel
theorem dX4_clear_59 : decode cX4_clear 59 = .ok (.getfield 45, 3) := by decide +kernel
theorem dX4_clear_62 : decode cX4_clear 62 = .ok (.iload_n 1, 1) := by decide +kernel
theorem dX4_clear_63 : decode cX4_clear 63 = .ok (.lconst 0, 1) := by decide +kernel
theorem dX4_clear_64 : decode cX4_clear 64 = .ok (.lastore, 1) := by decide +kernel
theorem dX4_clear_65 : decode cX4_clear 65 = .ok (.iinc 1 1, 3) := by decide +kernel
theorem dX4_clear_68 : decode cX4_clear 68 = .ok (.goto (-16), 3) := by decide +kernel
theorem dX4_clear_71 : decode cX4_clear 71 = .ok (.return_, 1) := by decide +kernel
theorem dX4_lay_0 : decode cX4_lay 0 = .ok (.aload_n 0, 1) := by decide +kernel
theorem dX4_lay_1 : decode cX4_lay 1 = .ok (.getfield 38, 3) := by decide +kernel
theorem dX4_lay_4 : decode cX4_lay 4 = .ok (.iload_n 1, 1) := by decide +kernel
theorem dX4_lay_5 : decode cX4_lay 5 = .ok (.iaload, 1) := by decide +kernel
theorem dX4_lay_6 : decode cX4_lay 6 = .ok (.istore 4, 2) := by decide +kernel
theorem dX4_lay_8 : decode cX4_lay 8 = .ok (.iload 4, 2) := by decide +kernel
theorem dX4_lay_10 : decode cX4_lay 10 = .ok (.iconst (-1), 1) := by decide +kernel
theorem dX4_lay_11 : decode cX4_lay 11 = .ok (.if_icmp .ne 4, 3) := by decide +kernel
theorem dX4_lay_14 : decode cX4_lay 14 = .ok (.return_, 1) := by decide +kernel
theorem dX4_lay_15 : decode cX4_lay 15 = .ok (.aload_n 0, 1) := by decide +kernel
theorem dX4_lay_16 : decode cX4_lay 16 = .ok (.getfield 41, 3) := by decide +kernel
theorem dX4_lay_19 : decode cX4_lay 19 = .ok (.bipush 8, 2) := by decide +kernel
theorem dX4_lay_21 : decode cX4_lay 21 = .ok (.iload 4, 2) := by decide +kernel
theorem dX4_lay_23 : decode cX4_lay 23 = .ok (.imul, 1) := by decide +kernel
theorem dX4_lay_24 : decode cX4_lay 24 = .ok (.iload 4, 2) := by decide +kernel
theorem dX4_lay_26 : decode cX4_lay 26 = .ok (.iadd, 1) := by decide +kernel
theorem dX4_lay_27 : decode cX4_lay 27 = .ok (.dup2, 1) := by decide +kernel
theorem dX4_lay_28 : decode cX4_lay 28 = .ok (.laload, 1) := by decide +kernel
theorem dX4_lay_29 : decode cX4_lay 29 = .ok (.iload_n 3, 1) := by decide +kernel
theorem dX4_lay_30 : decode cX4_lay 30 = .ok (.i2l, 1) := by decide +kernel
theorem dX4_lay_31 : decode cX4_lay 31 = .ok (.ladd, 1) := by decide +kernel
theorem dX4_lay_32 : decode cX4_lay 32 = .ok (.lastore, 1) := by decide +kernel
theorem dX4_lay_33 : decode cX4_lay 33 = .ok (.aload_n 0, 1) := by decide +kernel
theorem dX4_lay_34 : decode cX4_lay 34 = .ok (.getfield 38, 3) := by decide +kernel
theorem dX4_lay_37 : decode cX4_lay 37 = .ok (.iload_n 2, 1) := by decide +kernel
theorem dX4_lay_38 : decode cX4_lay 38 = .ok (.iaload, 1) := by decide +kernel
theorem dX4_lay_39 : decode cX4_lay 39 = .ok (.iconst (-1), 1) := by decide +kernel
theorem dX4_lay_40 : decode cX4_lay 40 = .ok (.if_icmp .eq 28, 3) := by decide +kernel
theorem dX4_lay_43 : decode cX4_lay 43 = .ok (.aload_n 0, 1) := by decide +kernel
theorem dX4_lay_44 : decode cX4_lay 44 = .ok (.getfield 41, 3) := by decide +kernel
theorem dX4_lay_47 : decode cX4_lay 47 = .ok (.bipush 8, 2) := by decide +kernel
theorem dX4_lay_49 : decode cX4_lay 49 = .ok (.iload 4, 2) := by decide +kernel
theorem dX4_lay_51 : decode cX4_lay 51 = .ok (.imul, 1) := by decide +kernel
theorem dX4_lay_52 : decode cX4_lay 52 = .ok (.aload_n 0, 1) := by decide +kernel
theorem dX4_lay_53 : decode cX4_lay 53 = .ok (.getfield 38, 3) := by decide +kernel
theorem dX4_lay_56 : decode cX4_lay 56 = .ok (.iload_n 2, 1) := by decide +kernel
theorem dX4_lay_57 : decode cX4_lay 57 = .ok (.iaload, 1) := by decide +kernel
theorem dX4_lay_58 : decode cX4_lay 58 = .ok (.iadd, 1) := by decide +kernel
theorem dX4_lay_59 : decode cX4_lay 59 = .ok (.dup2, 1) := by decide +kernel
theorem dX4_lay_60 : decode cX4_lay 60 = .ok (.laload, 1) := by decide +kernel
theorem dX4_lay_61 : decode cX4_lay 61 = .ok (.iload_n 3, 1) := by decide +kernel
theorem dX4_lay_62 : decode cX4_lay 62 = .ok (.i2l, 1) := by decide +kernel
theorem dX4_lay_63 : decode cX4_lay 63 = .ok (.lsub, 1) := by decide +kernel
theorem dX4_lay_64 : decode cX4_lay 64 = .ok (.lastore, 1) := by decide +kernel
theorem dX4_lay_65 : decode cX4_lay 65 = .ok (.goto 23, 3) := by decide +kernel
theorem dX4_lay_68 : decode cX4_lay 68 = .ok (.aload_n 0, 1) := by decide +kernel
theorem dX4_lay_69 : decode cX4_lay 69 = .ok (.getfield 45, 3) := by decide +kernel
theorem dX4_lay_72 : decode cX4_lay 72 = .ok (.iload 4, 2) := by decide +kernel
theorem dX4_lay_74 : decode cX4_lay 74 = .ok (.dup2, 1) := by decide +kernel
theorem dX4_lay_75 : decode cX4_lay 75 = .ok (.laload, 1) := by decide +kernel
theorem dX4_lay_76 : decode cX4_lay 76 = .ok (.iload_n 3, 1) := by decide +kernel
theorem dX4_lay_77 : decode cX4_lay 77 = .ok (.i2l, 1) := by decide +kernel
theorem dX4_lay_78 : decode cX4_lay 78 = .ok (.aload_n 0, 1) := by decide +kernel
theorem dX4_lay_79 : decode cX4_lay 79 = .ok (.getfield 13, 3) := by decide +kernel
theorem dX4_lay_82 : decode cX4_lay 82 = .ok (.iload_n 2, 1) := by decide +kernel
theorem dX4_lay_83 : decode cX4_lay 83 = .ok (.iaload, 1) := by decide +kernel
theorem dX4_lay_84 : decode cX4_lay 84 = .ok (.i2l, 1) := by decide +kernel
theorem dX4_lay_85 : decode cX4_lay 85 = .ok (.lmul, 1) := by decide +kernel
theorem dX4_lay_86 : decode cX4_lay 86 = .ok (.ladd, 1) := by decide +kernel
theorem dX4_lay_87 : decode cX4_lay 87 = .ok (.lastore, 1) := by decide +kernel
theorem dX4_lay_88 : decode cX4_lay 88 = .ok (.return_, 1) := by decide +kernel
theorem dX4_solve_0 : decode cX4_solve 0 = .ok (.aload_n 0, 1) := by decide +kernel
theorem dX4_solve_1 : decode cX4_solve 1 = .ok (.invokevirtual 123, 3) := by decide +kernel
theorem dX4_solve_4 : decode cX4_solve 4 = .ok (.iconst 0, 1) := by decide +kernel
theorem dX4_solve_5 : decode cX4_solve 5 = .ok (.istore_n 2, 1) := by decide +kernel
theorem dX4_solve_6 : decode cX4_solve 6 = .ok (.iload_n 2, 1) := by decide +kernel
theorem dX4_solve_7 : decode cX4_solve 7 = .ok (.aload_n 0, 1) := by decide +kernel
theorem dX4_solve_8 : decode cX4_solve 8 = .ok (.getfield 61, 3) := by decide +kernel
theorem dX4_solve_11 : decode cX4_solve 11 = .ok (.if_icmp .ge 62, 3) := by decide +kernel
theorem dX4_solve_14 : decode cX4_solve 14 = .ok (.aload_n 0, 1) := by decide +kernel
theorem dX4_solve_15 : decode cX4_solve 15 = .ok (.getfield 54, 3) := by decide +kernel
theorem dX4_solve_18 : decode cX4_solve 18 = .ok (.iload_n 2, 1) := by decide +kernel
theorem dX4_solve_19 : decode cX4_solve 19 = .ok (.aload_n 0, 1) := by decide +kernel
theorem dX4_solve_20 : decode cX4_solve 20 = .ok (.iload_n 2, 1) := by decide +kernel
theorem dX4_solve_21 : decode cX4_solve 21 = .ok (.iload_n 1, 1) := by decide +kernel
theorem dX4_solve_22 : decode cX4_solve 22 = .ok (.invokevirtual 112, 3) := by decide +kernel
theorem dX4_solve_25 : decode cX4_solve 25 = .ok (.bastore, 1) := by decide +kernel
theorem dX4_solve_26 : decode cX4_solve 26 = .ok (.aload_n 0, 1) := by decide +kernel
theorem dX4_solve_27 : decode cX4_solve 27 = .ok (.getfield 54, 3) := by decide +kernel
theorem dX4_solve_30 : decode cX4_solve 30 = .ok (.iload_n 2, 1) := by decide +kernel
theorem dX4_solve_31 : decode cX4_solve 31 = .ok (.baload, 1) := by decide +kernel
theorem dX4_solve_32 : decode cX4_solve 32 = .ok (.ifCond .ne 35, 3) := by decide +kernel
theorem dX4_solve_35 : decode cX4_solve 35 = .ok (.aload_n 0, 1) := by decide +kernel
theorem dX4_solve_36 : decode cX4_solve 36 = .ok (.getfield 9, 3) := by decide +kernel
theorem dX4_solve_39 : decode cX4_solve 39 = .ok (.iload_n 2, 1) := by decide +kernel
theorem dX4_solve_40 : decode cX4_solve 40 = .ok (.baload, 1) := by decide +kernel
theorem dX4_solve_41 : decode cX4_solve 41 = .ok (.ifCond .eq 6, 3) := by decide +kernel
theorem dX4_solve_44 : decode cX4_solve 44 = .ok (.goto 23, 3) := by decide +kernel
theorem dX4_solve_47 : decode cX4_solve 47 = .ok (.aload_n 0, 1) := by decide +kernel
theorem dX4_solve_48 : decode cX4_solve 48 = .ok (.getfield 38, 3) := by decide +kernel
theorem dX4_solve_51 : decode cX4_solve 51 = .ok (.iload_n 2, 1) := by decide +kernel
theorem dX4_solve_52 : decode cX4_solve 52 = .ok (.aload_n 0, 1) := by decide +kernel
theorem dX4_solve_53 : decode cX4_solve 53 = .ok (.getfield 115, 3) := by decide +kernel
theorem dX4_solve_56 : decode cX4_solve 56 = .ok (.iastore, 1) := by decide +kernel
theorem dX4_solve_57 : decode cX4_solve 57 = .ok (.aload_n 0, 1) := by decide +kernel
theorem dX4_solve_58 : decode cX4_solve 58 = .ok (.dup, 1) := by decide +kernel
theorem dX4_solve_59 : decode cX4_solve 59 = .ok (.getfield 115, 3) := by decide +kernel
theorem dX4_solve_62 : decode cX4_solve 62 = .ok (.iconst 1, 1) := by decide +kernel
theorem dX4_solve_63 : decode cX4_solve 63 = .ok (.iadd, 1) := by decide +kernel
theorem dX4_solve_64 : decode cX4_solve 64 = .ok (.putfield 115, 3) := by decide +kernel
theorem dX4_solve_67 : decode cX4_solve 67 = .ok (.iinc 2 1, 3) := by decide +kernel
theorem dX4_solve_70 : decode cX4_solve 70 = .ok (.goto (-64), 3) := by decide +kernel
theorem dX4_solve_73 : decode cX4_solve 73 = .ok (.iconst 0, 1) := by decide +kernel
theorem dX4_solve_74 : decode cX4_solve 74 = .ok (.istore_n 2, 1) := by decide +kernel
theorem dX4_solve_75 : decode cX4_solve 75 = .ok (.iload_n 2, 1) := by decide +kernel
theorem dX4_solve_76 : decode cX4_solve 76 = .ok (.aload_n 0, 1) := by decide +kernel
theorem dX4_solve_77 : decode cX4_solve 77 = .ok (.getfield 68, 3) := by decide +kernel
theorem dX4_solve_80 : decode cX4_solve 80 = .ok (.if_icmp .ge 159, 3) := by decide +kernel
theorem dX4_solve_83 : decode cX4_solve 83 = .ok (.aload_n 0, 1) := by decide +kernel
theorem dX4_solve_84 : decode cX4_solve 84 = .ok (.iload_n 2, 1) := by decide +kernel
theorem dX4_solve_85 : decode cX4_solve 85 = .ok (.iload_n 1, 1) := by decide +kernel
theorem dX4_solve_86 : decode cX4_solve 86 = .ok (.invokevirtual 99, 3) := by decide +kernel
theorem dX4_solve_89 : decode cX4_solve 89 = .ok (.ifCond .ne 6, 3) := by decide +kernel
theorem dX4_solve_92 : decode cX4_solve 92 = .ok (.goto 141, 3) := by decide +kernel
theorem dX4_solve_95 : decode cX4_solve 95 = .ok (.aload_n 0, 1) := by decide +kernel
theorem dX4_solve_96 : decode cX4_solve 96 = .ok (.getfield 17, 3) := by decide +kernel
theorem dX4_solve_99 : decode cX4_solve 99 = .ok (.iload_n 2, 1) := by decide +kernel
theorem dX4_solve_100 : decode cX4_solve 100 = .ok (.baload, 1) := by decide +kernel
theorem dX4_solve_101 : decode cX4_solve 101 = .ok (.ifCond .ne 50, 3) := by decide +kernel
theorem dX4_solve_104 : decode cX4_solve 104 = .ok (.aload_n 0, 1) := by decide +kernel
theorem dX4_solve_105 : decode cX4_solve 105 = .ok (.aload_n 0, 1) := by decide +kernel
theorem dX4_solve_106 : decode cX4_solve 106 = .ok (.getfield 20, 3) := by decide +kernel
theorem dX4_solve_109 : decode cX4_solve 109 = .ok (.iload_n 2, 1) := by decide +kernel
theorem dX4_solve_110 : decode cX4_solve 110 = .ok (.iaload, 1) := by decide +kernel
theorem dX4_solve_111 : decode cX4_solve 111 = .ok (.aload_n 0, 1) := by decide +kernel
theorem dX4_solve_112 : decode cX4_solve 112 = .ok (.getfield 23, 3) := by decide +kernel
theorem dX4_solve_115 : decode cX4_solve 115 = .ok (.iload_n 2, 1) := by decide +kernel
theorem dX4_solve_116 : decode cX4_solve 116 = .ok (.iaload, 1) := by decide +kernel
theorem dX4_solve_117 : decode cX4_solve 117 = .ok (.aload_n 0, 1) := by decide +kernel
theorem dX4_solve_118 : decode cX4_solve 118 = .ok (.getfield 26, 3) := by decide +kernel
theorem dX4_solve_121 : decode cX4_solve 121 = .ok (.iload_n 2, 1) := by decide +kernel
theorem dX4_solve_122 : decode cX4_solve 122 = .ok (.iaload, 1) := by decide +kernel
theorem dX4_solve_123 : decode cX4_solve 123 = .ok (.invokevirtual 126, 3) := by decide +kernel
theorem dX4_solve_126 : decode cX4_solve 126 = .ok (.aload_n 0, 1) := by decide +kernel
theorem dX4_solve_127 : decode cX4_solve 127 = .ok (.aload_n 0, 1) := by decide +kernel
theorem dX4_solve_128 : decode cX4_solve 128 = .ok (.getfield 23, 3) := by decide +kernel
theorem dX4_solve_131 : decode cX4_solve 131 = .ok (.iload_n 2, 1) := by decide +kernel
theorem dX4_solve_132 : decode cX4_solve 132 = .ok (.iaload, 1) := by decide +kernel
theorem dX4_solve_133 : decode cX4_solve 133 = .ok (.aload_n 0, 1) := by decide +kernel
theorem dX4_solve_134 : decode cX4_solve 134 = .ok (.getfield 20, 3) := by decide +kernel
theorem dX4_solve_137 : decode cX4_solve 137 = .ok (.iload_n 2, 1) := by decide +kernel
theorem dX4_solve_138 : decode cX4_solve 138 = .ok (.iaload, 1) := by decide +kernel
theorem dX4_solve_139 : decode cX4_solve 139 = .ok (.aload_n 0, 1) := by decide +kernel
theorem dX4_solve_140 : decode cX4_solve 140 = .ok (.getfield 26, 3) := by decide +kernel
theorem dX4_solve_143 : decode cX4_solve 143 = .ok (.iload_n 2, 1) := by decide +kernel
theorem dX4_solve_144 : decode cX4_solve 144 = .ok (.iaload, 1) := by decide +kernel
theorem dX4_solve_145 : decode cX4_solve 145 = .ok (.invokevirtual 126, 3) := by decide +kernel
theorem dX4_solve_148 : decode cX4_solve 148 = .ok (.goto 85, 3) := by decide +kernel
theorem dX4_solve_151 : decode cX4_solve 151 = .ok (.aload_n 0, 1) := by decide +kernel
theorem dX4_solve_152 : decode cX4_solve 152 = .ok (.getfield 38, 3) := by decide +kernel
theorem dX4_solve_155 : decode cX4_solve 155 = .ok (.aload_n 0, 1) := by decide +kernel
theorem dX4_solve_156 : decode cX4_solve 156 = .ok (.getfield 20, 3) := by decide +kernel
theorem dX4_solve_159 : decode cX4_solve 159 = .ok (.iload_n 2, 1) := by decide +kernel
theorem dX4_solve_160 : decode cX4_solve 160 = .ok (.iaload, 1) := by decide +kernel
theorem dX4_solve_161 : decode cX4_solve 161 = .ok (.iaload, 1) := by decide +kernel
theorem dX4_solve_162 : decode cX4_solve 162 = .ok (.iconst (-1), 1) := by decide +kernel
theorem dX4_solve_163 : decode cX4_solve 163 = .ok (.if_icmp .eq 29, 3) := by decide +kernel
theorem dX4_solve_166 : decode cX4_solve 166 = .ok (.aload_n 0, 1) := by decide +kernel
theorem dX4_solve_167 : decode cX4_solve 167 = .ok (.getfield 45, 3) := by decide +kernel
theorem dX4_solve_170 : decode cX4_solve 170 = .ok (.aload_n 0, 1) := by decide +kernel
theorem dX4_solve_171 : decode cX4_solve 171 = .ok (.getfield 38, 3) := by decide +kernel
theorem dX4_solve_174 : decode cX4_solve 174 = .ok (.aload_n 0, 1) := by decide +kernel
theorem dX4_solve_175 : decode cX4_solve 175 = .ok (.getfield 20, 3) := by decide +kernel
theorem dX4_solve_178 : decode cX4_solve 178 = .ok (.iload_n 2, 1) := by decide +kernel
theorem dX4_solve_179 : decode cX4_solve 179 = .ok (.iaload, 1) := by decide +kernel
theorem dX4_solve_180 : decode cX4_solve 180 = .ok (.iaload, 1) := by decide +kernel
theorem dX4_solve_181 : decode cX4_solve 181 = .ok (.dup2, 1) := by decide +kernel
theorem dX4_solve_182 : decode cX4_solve 182 = .ok (.laload, 1) := by decide +kernel
theorem dX4_solve_183 : decode cX4_solve 183 = .ok (.aload_n 0, 1) := by decide +kernel
theorem dX4_solve_184 : decode cX4_solve 184 = .ok (.getfield 26, 3) := by decide +kernel
theorem dX4_solve_187 : decode cX4_solve 187 = .ok (.iload_n 2, 1) := by decide +kernel
theorem dX4_solve_188 : decode cX4_solve 188 = .ok (.iaload, 1) := by decide +kernel
theorem dX4_solve_189 : decode cX4_solve 189 = .ok (.i2l, 1) := by decide +kernel
theorem dX4_solve_190 : decode cX4_solve 190 = .ok (.lsub, 1) := by decide +kernel
theorem dX4_solve_191 : decode cX4_solve 191 = .ok (.lastore, 1) := by decide +kernel
theorem dX4_solve_192 : decode cX4_solve 192 = .ok (.aload_n 0, 1) := by decide +kernel
theorem dX4_solve_193 : decode cX4_solve 193 = .ok (.getfield 38, 3) := by decide +kernel
theorem dX4_solve_196 : decode cX4_solve 196 = .ok (.aload_n 0, 1) := by decide +kernel
theorem dX4_solve_197 : decode cX4_solve 197 = .ok (.getfield 23, 3) := by decide +kernel
theorem dX4_solve_200 : decode cX4_solve 200 = .ok (.iload_n 2, 1) := by decide +kernel
theorem dX4_solve_201 : decode cX4_solve 201 = .ok (.iaload, 1) := by decide +kernel
theorem dX4_solve_202 : decode cX4_solve 202 = .ok (.iaload, 1) := by decide +kernel
theorem dX4_solve_203 : decode cX4_solve 203 = .ok (.iconst (-1), 1) := by decide +kernel
theorem dX4_solve_204 : decode cX4_solve 204 = .ok (.if_icmp .eq 29, 3) := by decide +kernel
theorem dX4_solve_207 : decode cX4_solve 207 = .ok (.aload_n 0, 1) := by decide +kernel
theorem dX4_solve_208 : decode cX4_solve 208 = .ok (.getfield 45, 3) := by decide +kernel
theorem dX4_solve_211 : decode cX4_solve 211 = .ok (.aload_n 0, 1) := by decide +kernel
theorem dX4_solve_212 : decode cX4_solve 212 = .ok (.getfield 38, 3) := by decide +kernel
theorem dX4_solve_215 : decode cX4_solve 215 = .ok (.aload_n 0, 1) := by decide +kernel
theorem dX4_solve_216 : decode cX4_solve 216 = .ok (.getfield 23, 3) := by decide +kernel
theorem dX4_solve_219 : decode cX4_solve 219 = .ok (.iload_n 2, 1) := by decide +kernel
theorem dX4_solve_220 : decode cX4_solve 220 = .ok (.iaload, 1) := by decide +kernel
theorem dX4_solve_221 : decode cX4_solve 221 = .ok (.iaload, 1) := by decide +kernel
theorem dX4_solve_222 : decode cX4_solve 222 = .ok (.dup2, 1) := by decide +kernel
theorem dX4_solve_223 : decode cX4_solve 223 = .ok (.laload, 1) := by decide +kernel
theorem dX4_solve_224 : decode cX4_solve 224 = .ok (.aload_n 0, 1) := by decide +kernel
theorem dX4_solve_225 : decode cX4_solve 225 = .ok (.getfield 26, 3) := by decide +kernel
theorem dX4_solve_228 : decode cX4_solve 228 = .ok (.iload_n 2, 1) := by decide +kernel
theorem dX4_solve_229 : decode cX4_solve 229 = .ok (.iaload, 1) := by decide +kernel
theorem dX4_solve_230 : decode cX4_solve 230 = .ok (.i2l, 1) := by decide +kernel
theorem dX4_solve_231 : decode cX4_solve 231 = .ok (.ladd, 1) := by decide +kernel
theorem dX4_solve_232 : decode cX4_solve 232 = .ok (.lastore, 1) := by decide +kernel
theorem dX4_solve_233 : decode cX4_solve 233 = .ok (.iinc 2 1, 3) := by decide +kernel
theorem dX4_solve_236 : decode cX4_solve 236 = .ok (.goto (-161), 3) := by decide +kernel
theorem dX4_solve_239 : decode cX4_solve 239 = .ok (.aload_n 0, 1) := by decide +kernel
theorem dX4_solve_240 : decode cX4_solve 240 = .ok (.aload_n 0, 1) := by decide +kernel
theorem dX4_solve_241 : decode cX4_solve 241 = .ok (.iconst (-1), 1) := by decide +kernel
theorem dX4_solve_242 : decode cX4_solve 242 = .ok (.invokevirtual 130, 3) := by decide +kernel
theorem dX4_solve_245 : decode cX4_solve 245 = .ok (.putfield 134, 3) := by decide +kernel
theorem dX4_solve_248 : decode cX4_solve 248 = .ok (.iconst 0, 1) := by decide +kernel
theorem dX4_solve_249 : decode cX4_solve 249 = .ok (.istore_n 2, 1) := by decide +kernel
theorem dX4_solve_250 : decode cX4_solve 250 = .ok (.iload_n 2, 1) := by decide +kernel
theorem dX4_solve_251 : decode cX4_solve 251 = .ok (.aload_n 0, 1) := by decide +kernel
theorem dX4_solve_252 : decode cX4_solve 252 = .ok (.getfield 61, 3) := by decide +kernel
theorem dX4_solve_255 : decode cX4_solve 255 = .ok (.if_icmp .ge 62, 3) := by decide +kernel
theorem dX4_solve_258 : decode cX4_solve 258 = .ok (.aload_n 0, 1) := by decide +kernel
theorem dX4_solve_259 : decode cX4_solve 259 = .ok (.getfield 51, 3) := by decide +kernel
theorem dX4_solve_262 : decode cX4_solve 262 = .ok (.iload_n 2, 1) := by decide +kernel
theorem dX4_solve_263 : decode cX4_solve 263 = .ok (.aload_n 0, 1) := by decide +kernel
theorem dX4_solve_264 : decode cX4_solve 264 = .ok (.getfield 54, 3) := by decide +kernel
theorem dX4_solve_267 : decode cX4_solve 267 = .ok (.iload_n 2, 1) := by decide +kernel
theorem dX4_solve_268 : decode cX4_solve 268 = .ok (.baload, 1) := by decide +kernel
theorem dX4_solve_269 : decode cX4_solve 269 = .ok (.ifCond .eq 7, 3) := by decide +kernel
theorem dX4_solve_272 : decode cX4_solve 272 = .ok (.lconst 0, 1) := by decide +kernel
theorem dX4_solve_273 : decode cX4_solve 273 = .ok (.goto 37, 3) := by decide +kernel
theorem dX4_solve_276 : decode cX4_solve 276 = .ok (.aload_n 0, 1) := by decide +kernel
theorem dX4_solve_277 : decode cX4_solve 277 = .ok (.getfield 9, 3) := by decide +kernel
theorem dX4_solve_280 : decode cX4_solve 280 = .ok (.iload_n 2, 1) := by decide +kernel
theorem dX4_solve_281 : decode cX4_solve 281 = .ok (.baload, 1) := by decide +kernel
theorem dX4_solve_282 : decode cX4_solve 282 = .ok (.ifCond .eq 18, 3) := by decide +kernel
theorem dX4_solve_285 : decode cX4_solve 285 = .ok (.aload_n 0, 1) := by decide +kernel
theorem dX4_solve_286 : decode cX4_solve 286 = .ok (.getfield 13, 3) := by decide +kernel
theorem dX4_solve_289 : decode cX4_solve 289 = .ok (.iload_n 2, 1) := by decide +kernel
theorem dX4_solve_290 : decode cX4_solve 290 = .ok (.iaload, 1) := by decide +kernel
theorem dX4_solve_291 : decode cX4_solve 291 = .ok (.i2l, 1) := by decide +kernel
theorem dX4_solve_292 : decode cX4_solve 292 = .ok (.aload_n 0, 1) := by decide +kernel
theorem dX4_solve_293 : decode cX4_solve 293 = .ok (.getfield 134, 3) := by decide +kernel
theorem dX4_solve_296 : decode cX4_solve 296 = .ok (.lmul, 1) := by decide +kernel
theorem dX4_solve_297 : decode cX4_solve 297 = .ok (.goto 13, 3) := by decide +kernel
theorem dX4_solve_300 : decode cX4_solve 300 = .ok (.aload_n 0, 1) := by decide +kernel
theorem dX4_solve_301 : decode cX4_solve 301 = .ok (.aload_n 0, 1) := by decide +kernel
theorem dX4_solve_302 : decode cX4_solve 302 = .ok (.getfield 38, 3) := by decide +kernel
theorem dX4_solve_305 : decode cX4_solve 305 = .ok (.iload_n 2, 1) := by decide +kernel
theorem dX4_solve_306 : decode cX4_solve 306 = .ok (.iaload, 1) := by decide +kernel
theorem dX4_solve_307 : decode cX4_solve 307 = .ok (.invokevirtual 130, 3) := by decide +kernel
theorem dX4_solve_310 : decode cX4_solve 310 = .ok (.lastore, 1) := by decide +kernel
theorem dX4_solve_311 : decode cX4_solve 311 = .ok (.iinc 2 1, 3) := by decide +kernel
theorem dX4_solve_314 : decode cX4_solve 314 = .ok (.goto (-64), 3) := by decide +kernel
theorem dX4_solve_317 : decode cX4_solve 317 = .ok (.return_, 1) := by decide +kernel
theorem dX4_divisor_0 : decode cX4_divisor 0 = .ok (.lload_n 0, 1) := by decide +kernel
theorem dX4_divisor_1 : decode cX4_divisor 1 = .ok (.invokestatic 138, 3) := by decide +kernel
theorem dX4_divisor_4 : decode cX4_divisor 4 = .ok (.lstore 4, 2) := by decide +kernel
theorem dX4_divisor_6 : decode cX4_divisor 6 = .ok (.lload_n 2, 1) := by decide +kernel
theorem dX4_divisor_7 : decode cX4_divisor 7 = .ok (.invokestatic 138, 3) := by decide +kernel
theorem dX4_divisor_10 : decode cX4_divisor 10 = .ok (.lstore 6, 2) := by decide +kernel
theorem dX4_divisor_12 : decode cX4_divisor 12 = .ok (.lload 6, 2) := by decide +kernel
theorem dX4_divisor_14 : decode cX4_divisor 14 = .ok (.lconst 0, 1) := by decide +kernel
theorem dX4_divisor_15 : decode cX4_divisor 15 = .ok (.lcmp, 1) := by decide +kernel
theorem dX4_divisor_16 : decode cX4_divisor 16 = .ok (.ifCond .eq 21, 3) := by decide +kernel
theorem dX4_divisor_19 : decode cX4_divisor 19 = .ok (.lload 4, 2) := by decide +kernel
theorem dX4_divisor_21 : decode cX4_divisor 21 = .ok (.lload 6, 2) := by decide +kernel
theorem dX4_divisor_23 : decode cX4_divisor 23 = .ok (.lrem, 1) := by decide +kernel
theorem dX4_divisor_24 : decode cX4_divisor 24 = .ok (.lstore 8, 2) := by decide +kernel
theorem dX4_divisor_26 : decode cX4_divisor 26 = .ok (.lload 6, 2) := by decide +kernel
theorem dX4_divisor_28 : decode cX4_divisor 28 = .ok (.lstore 4, 2) := by decide +kernel
theorem dX4_divisor_30 : decode cX4_divisor 30 = .ok (.lload 8, 2) := by decide +kernel
theorem dX4_divisor_32 : decode cX4_divisor 32 = .ok (.lstore 6, 2) := by decide +kernel
theorem dX4_divisor_34 : decode cX4_divisor 34 = .ok (.goto (-22), 3) := by decide +kernel
theorem dX4_divisor_37 : decode cX4_divisor 37 = .ok (.lload 4, 2) := by decide +kernel
theorem dX4_divisor_39 : decode cX4_divisor 39 = .ok (.lreturn, 1) := by decide +kernel
theorem dX4_part_0 : decode cX4_part 0 = .ok (.lload_n 0, 1) := by decide +kernel
theorem dX4_part_1 : decode cX4_part 1 = .ok (.lload_n 2, 1) := by decide +kernel
theorem dX4_part_2 : decode cX4_part 2 = .ok (.invokestatic 144, 3) := by decide +kernel
theorem dX4_part_5 : decode cX4_part 5 = .ok (.lstore 5, 2) := by decide +kernel
theorem dX4_part_7 : decode cX4_part 7 = .ok (.iload 4, 2) := by decide +kernel
theorem dX4_part_9 : decode cX4_part 9 = .ok (.ifCond .eq 7, 3) := by decide +kernel
theorem dX4_part_12 : decode cX4_part 12 = .ok (.lload_n 0, 1) := by decide +kernel
theorem dX4_part_13 : decode cX4_part 13 = .ok (.goto 4, 3) := by decide +kernel
theorem dX4_part_16 : decode cX4_part 16 = .ok (.lload_n 2, 1) := by decide +kernel
theorem dX4_part_17 : decode cX4_part 17 = .ok (.lload 5, 2) := by decide +kernel
theorem dX4_part_19 : decode cX4_part 19 = .ok (.ldiv, 1) := by decide +kernel
theorem dX4_part_20 : decode cX4_part 20 = .ok (.lreturn, 1) := by decide +kernel
theorem dX4_potential_0 : decode cX4_potential 0 = .ok (.aload_n 0, 1) := by decide +kernel
theorem dX4_potential_1 : decode cX4_potential 1 = .ok (.aload_n 0, 1) := by decide +kernel
theorem dX4_potential_2 : decode cX4_potential 2 = .ok (.iload_n 1, 1) := by decide +kernel
theorem dX4_potential_3 : decode cX4_potential 3 = .ok (.invokevirtual 75, 3) := by decide +kernel
theorem dX4_potential_6 : decode cX4_potential 6 = .ok (.ifCond .ne 7, 3) := by decide +kernel
theorem dX4_potential_9 : decode cX4_potential 9 = .ok (.iconst 1, 1) := by decide +kernel
theorem dX4_potential_10 : decode cX4_potential 10 = .ok (.goto 28, 3) := by decide +kernel
theorem dX4_potential_13 : decode cX4_potential 13 = .ok (.iload_n 2, 1) := by decide +kernel
theorem dX4_potential_14 : decode cX4_potential 14 = .ok (.invokestatic 103, 3) := by decide +kernel
theorem dX4_potential_17 : decode cX4_potential 17 = .ok (.ifCond .ne 7, 3) := by decide +kernel
theorem dX4_potential_20 : decode cX4_potential 20 = .ok (.iconst 2, 1) := by decide +kernel
theorem dX4_potential_21 : decode cX4_potential 21 = .ok (.goto 17, 3) := by decide +kernel
theorem dX4_potential_24 : decode cX4_potential 24 = .ok (.aload_n 0, 1) := by decide +kernel
theorem dX4_potential_25 : decode cX4_potential 25 = .ok (.iload_n 1, 1) := by decide +kernel
theorem dX4_potential_26 : decode cX4_potential 26 = .ok (.iload_n 2, 1) := by decide +kernel
theorem dX4_potential_27 : decode cX4_potential 27 = .ok (.invokevirtual 112, 3) := by decide +kernel
theorem dX4_potential_30 : decode cX4_potential 30 = .ok (.ifCond .eq 7, 3) := by decide +kernel
theorem dX4_potential_33 : decode cX4_potential 33 = .ok (.iconst 3, 1) := by decide +kernel
theorem dX4_potential_34 : decode cX4_potential 34 = .ok (.goto 4, 3) := by decide +kernel
theorem dX4_potential_37 : decode cX4_potential 37 = .ok (.iconst 0, 1) := by decide +kernel
theorem dX4_potential_38 : decode cX4_potential 38 = .ok (.putfield 57, 3) := by decide +kernel
theorem dX4_potential_41 : decode cX4_potential 41 = .ok (.aload_n 0, 1) := by decide +kernel
theorem dX4_potential_42 : decode cX4_potential 42 = .ok (.getfield 57, 3) := by decide +kernel
theorem dX4_potential_45 : decode cX4_potential 45 = .ok (.ifCond .eq 5, 3) := by decide +kernel
theorem dX4_potential_48 : decode cX4_potential 48 = .ok (.lconst 0, 1) := by decide +kernel
theorem dX4_potential_49 : decode cX4_potential 49 = .ok (.lreturn, 1) := by decide +kernel
theorem dX4_potential_50 : decode cX4_potential 50 = .ok (.aload_n 0, 1) := by decide +kernel
theorem dX4_potential_51 : decode cX4_potential 51 = .ok (.iload_n 2, 1) := by decide +kernel
theorem dX4_potential_52 : decode cX4_potential 52 = .ok (.invokevirtual 148, 3) := by decide +kernel
theorem dX4_potential_55 : decode cX4_potential 55 = .ok (.aload_n 0, 1) := by decide +kernel
theorem dX4_potential_56 : decode cX4_potential 56 = .ok (.getfield 51, 3) := by decide +kernel
theorem dX4_potential_59 : decode cX4_potential 59 = .ok (.iload_n 1, 1) := by decide +kernel
theorem dX4_potential_60 : decode cX4_potential 60 = .ok (.laload, 1) := by decide +kernel
theorem dX4_potential_61 : decode cX4_potential 61 = .ok (.aload_n 0, 1) := by decide +kernel
theorem dX4_potential_62 : decode cX4_potential 62 = .ok (.getfield 134, 3) := by decide +kernel
theorem dX4_potential_65 : decode cX4_potential 65 = .ok (.iload_n 3, 1) := by decide +kernel
theorem dX4_potential_66 : decode cX4_potential 66 = .ok (.invokestatic 152, 3) := by decide +kernel
theorem dX4_potential_69 : decode cX4_potential 69 = .ok (.lreturn, 1) := by decide +kernel
theorem dX4_current_0 : decode cX4_current 0 = .ok (.aload_n 0, 1) := by decide +kernel
theorem dX4_current_1 : decode cX4_current 1 = .ok (.aload_n 0, 1) := by decide +kernel
theorem dX4_current_2 : decode cX4_current 2 = .ok (.iload_n 1, 1) := by decide +kernel
theorem dX4_current_3 : decode cX4_current 3 = .ok (.invokevirtual 83, 3) := by decide +kernel
theorem dX4_current_6 : decode cX4_current 6 = .ok (.ifCond .ne 7, 3) := by decide +kernel
theorem dX4_current_9 : decode cX4_current 9 = .ok (.iconst 1, 1) := by decide +kernel
theorem dX4_current_10 : decode cX4_current 10 = .ok (.goto 42, 3) := by decide +kernel
theorem dX4_current_13 : decode cX4_current 13 = .ok (.iload_n 2, 1) := by decide +kernel
theorem dX4_current_14 : decode cX4_current 14 = .ok (.invokestatic 103, 3) := by decide +kernel
theorem dX4_current_17 : decode cX4_current 17 = .ok (.ifCond .ne 7, 3) := by decide +kernel
theorem dX4_current_20 : decode cX4_current 20 = .ok (.iconst 2, 1) := by decide +kernel
theorem dX4_current_21 : decode cX4_current 21 = .ok (.goto 31, 3) := by decide +kernel
theorem dX4_current_24 : decode cX4_current 24 = .ok (.aload_n 0, 1) := by decide +kernel
theorem dX4_current_25 : decode cX4_current 25 = .ok (.iload_n 1, 1) := by decide +kernel
theorem dX4_current_26 : decode cX4_current 26 = .ok (.iload_n 2, 1) := by decide +kernel
theorem dX4_current_27 : decode cX4_current 27 = .ok (.invokevirtual 106, 3) := by decide +kernel
theorem dX4_current_30 : decode cX4_current 30 = .ok (.ifCond .eq 21, 3) := by decide +kernel
theorem dX4_current_33 : decode cX4_current 33 = .ok (.aload_n 0, 1) := by decide +kernel
theorem dX4_current_34 : decode cX4_current 34 = .ok (.aload_n 0, 1) := by decide +kernel
theorem dX4_current_35 : decode cX4_current 35 = .ok (.getfield 20, 3) := by decide +kernel
theorem dX4_current_38 : decode cX4_current 38 = .ok (.iload_n 1, 1) := by decide +kernel
theorem dX4_current_39 : decode cX4_current 39 = .ok (.iaload, 1) := by decide +kernel
theorem dX4_current_40 : decode cX4_current 40 = .ok (.iload_n 2, 1) := by decide +kernel
theorem dX4_current_41 : decode cX4_current 41 = .ok (.invokevirtual 112, 3) := by decide +kernel
theorem dX4_current_44 : decode cX4_current 44 = .ok (.ifCond .eq 7, 3) := by decide +kernel
theorem dX4_current_47 : decode cX4_current 47 = .ok (.iconst 3, 1) := by decide +kernel
theorem dX4_current_48 : decode cX4_current 48 = .ok (.goto 4, 3) := by decide +kernel
theorem dX4_current_51 : decode cX4_current 51 = .ok (.iconst 0, 1) := by decide +kernel
theorem dX4_current_52 : decode cX4_current 52 = .ok (.putfield 57, 3) := by decide +kernel
theorem dX4_current_55 : decode cX4_current 55 = .ok (.aload_n 0, 1) := by decide +kernel
theorem dX4_current_56 : decode cX4_current 56 = .ok (.getfield 57, 3) := by decide +kernel
theorem dX4_current_59 : decode cX4_current 59 = .ok (.ifCond .eq 5, 3) := by decide +kernel
theorem dX4_current_62 : decode cX4_current 62 = .ok (.lconst 0, 1) := by decide +kernel
theorem dX4_current_63 : decode cX4_current 63 = .ok (.lreturn, 1) := by decide +kernel
theorem dX4_current_64 : decode cX4_current 64 = .ok (.aload_n 0, 1) := by decide +kernel
theorem dX4_current_65 : decode cX4_current 65 = .ok (.iload_n 1, 1) := by decide +kernel
theorem dX4_current_66 : decode cX4_current 66 = .ok (.iload_n 2, 1) := by decide +kernel
theorem dX4_current_67 : decode cX4_current 67 = .ok (.invokevirtual 99, 3) := by decide +kernel
theorem dX4_current_70 : decode cX4_current 70 = .ok (.ifCond .ne 13, 3) := by decide +kernel
theorem dX4_current_73 : decode cX4_current 73 = .ok (.iload_n 3, 1) := by decide +kernel
theorem dX4_current_74 : decode cX4_current 74 = .ok (.ifCond .eq 7, 3) := by decide +kernel
theorem dX4_current_77 : decode cX4_current 77 = .ok (.lconst 0, 1) := by decide +kernel
theorem dX4_current_78 : decode cX4_current 78 = .ok (.goto 4, 3) := by decide +kernel
theorem dX4_current_81 : decode cX4_current 81 = .ok (.lconst 1, 1) := by decide +kernel
theorem dX4_current_82 : decode cX4_current 82 = .ok (.lreturn, 1) := by decide +kernel
theorem dX4_current_83 : decode cX4_current 83 = .ok (.aload_n 0, 1) := by decide +kernel
theorem dX4_current_84 : decode cX4_current 84 = .ok (.getfield 17, 3) := by decide +kernel
theorem dX4_current_87 : decode cX4_current 87 = .ok (.iload_n 1, 1) := by decide +kernel
theorem dX4_current_88 : decode cX4_current 88 = .ok (.baload, 1) := by decide +kernel
theorem dX4_current_89 : decode cX4_current 89 = .ok (.ifCond .eq 19, 3) := by decide +kernel
theorem dX4_current_92 : decode cX4_current 92 = .ok (.iload_n 3, 1) := by decide +kernel
theorem dX4_current_93 : decode cX4_current 93 = .ok (.ifCond .eq 13, 3) := by decide +kernel
theorem dX4_current_96 : decode cX4_current 96 = .ok (.aload_n 0, 1) := by decide +kernel
theorem dX4_current_97 : decode cX4_current 97 = .ok (.getfield 26, 3) := by decide +kernel
theorem dX4_current_100 : decode cX4_current 100 = .ok (.iload_n 1, 1) := by decide +kernel
theorem dX4_current_101 : decode cX4_current 101 = .ok (.iaload, 1) := by decide +kernel
theorem dX4_current_102 : decode cX4_current 102 = .ok (.i2l, 1) := by decide +kernel
theorem dX4_current_103 : decode cX4_current 103 = .ok (.goto 4, 3) := by decide +kernel
theorem dX4_current_106 : decode cX4_current 106 = .ok (.lconst 1, 1) := by decide +kernel
theorem dX4_current_107 : decode cX4_current 107 = .ok (.lreturn, 1) := by decide +kernel
theorem dX4_current_108 : decode cX4_current 108 = .ok (.aload_n 0, 1) := by decide +kernel
theorem dX4_current_109 : decode cX4_current 109 = .ok (.iload_n 2, 1) := by decide +kernel
theorem dX4_current_110 : decode cX4_current 110 = .ok (.invokevirtual 148, 3) := by decide +kernel
theorem dX4_current_113 : decode cX4_current 113 = .ok (.aload_n 0, 1) := by decide +kernel
theorem dX4_current_114 : decode cX4_current 114 = .ok (.getfield 26, 3) := by decide +kernel
theorem dX4_current_117 : decode cX4_current 117 = .ok (.iload_n 1, 1) := by decide +kernel
theorem dX4_current_118 : decode cX4_current 118 = .ok (.iaload, 1) := by decide +kernel
theorem dX4_current_119 : decode cX4_current 119 = .ok (.i2l, 1) := by decide +kernel
theorem dX4_current_120 : decode cX4_current 120 = .ok (.aload_n 0, 1) := by decide +kernel
theorem dX4_current_121 : decode cX4_current 121 = .ok (.getfield 51, 3) := by decide +kernel
theorem dX4_current_124 : decode cX4_current 124 = .ok (.aload_n 0, 1) := by decide +kernel
theorem dX4_current_125 : decode cX4_current 125 = .ok (.getfield 20, 3) := by decide +kernel
theorem dX4_current_128 : decode cX4_current 128 = .ok (.iload_n 1, 1) := by decide +kernel
theorem dX4_current_129 : decode cX4_current 129 = .ok (.iaload, 1) := by decide +kernel
theorem dX4_current_130 : decode cX4_current 130 = .ok (.laload, 1) := by decide +kernel
theorem dX4_current_131 : decode cX4_current 131 = .ok (.aload_n 0, 1) := by decide +kernel
theorem dX4_current_132 : decode cX4_current 132 = .ok (.getfield 51, 3) := by decide +kernel
theorem dX4_current_135 : decode cX4_current 135 = .ok (.aload_n 0, 1) := by decide +kernel
theorem dX4_current_136 : decode cX4_current 136 = .ok (.getfield 23, 3) := by decide +kernel
theorem dX4_current_139 : decode cX4_current 139 = .ok (.iload_n 1, 1) := by decide +kernel
theorem dX4_current_140 : decode cX4_current 140 = .ok (.iaload, 1) := by decide +kernel
theorem dX4_current_141 : decode cX4_current 141 = .ok (.laload, 1) := by decide +kernel
theorem dX4_current_142 : decode cX4_current 142 = .ok (.lsub, 1) := by decide +kernel
theorem dX4_current_143 : decode cX4_current 143 = .ok (.lmul, 1) := by decide +kernel
theorem dX4_current_144 : decode cX4_current 144 = .ok (.aload_n 0, 1) := by decide +kernel
theorem dX4_current_145 : decode cX4_current 145 = .ok (.getfield 134, 3) := by decide +kernel
theorem dX4_current_148 : decode cX4_current 148 = .ok (.iload_n 3, 1) := by decide +kernel
theorem dX4_current_149 : decode cX4_current 149 = .ok (.invokestatic 152, 3) := by decide +kernel
theorem dX4_current_152 : decode cX4_current 152 = .ok (.lreturn, 1) := by decide +kernel
theorem dX4_feed_0 : decode cX4_feed 0 = .ok (.aload_n 0, 1) := by decide +kernel
theorem dX4_feed_1 : decode cX4_feed 1 = .ok (.aload_n 0, 1) := by decide +kernel
theorem dX4_feed_2 : decode cX4_feed 2 = .ok (.iload_n 1, 1) := by decide +kernel
theorem dX4_feed_3 : decode cX4_feed 3 = .ok (.invokevirtual 75, 3) := by decide +kernel
theorem dX4_feed_6 : decode cX4_feed 6 = .ok (.ifCond .ne 7, 3) := by decide +kernel
theorem dX4_feed_9 : decode cX4_feed 9 = .ok (.iconst 1, 1) := by decide +kernel
theorem dX4_feed_10 : decode cX4_feed 10 = .ok (.goto 28, 3) := by decide +kernel
theorem dX4_feed_13 : decode cX4_feed 13 = .ok (.iload_n 2, 1) := by decide +kernel
theorem dX4_feed_14 : decode cX4_feed 14 = .ok (.invokestatic 103, 3) := by decide +kernel
theorem dX4_feed_17 : decode cX4_feed 17 = .ok (.ifCond .ne 7, 3) := by decide +kernel
theorem dX4_feed_20 : decode cX4_feed 20 = .ok (.iconst 2, 1) := by decide +kernel
theorem dX4_feed_21 : decode cX4_feed 21 = .ok (.goto 17, 3) := by decide +kernel
theorem dX4_feed_24 : decode cX4_feed 24 = .ok (.aload_n 0, 1) := by decide +kernel
theorem dX4_feed_25 : decode cX4_feed 25 = .ok (.getfield 9, 3) := by decide +kernel
theorem dX4_feed_28 : decode cX4_feed 28 = .ok (.iload_n 1, 1) := by decide +kernel
theorem dX4_feed_29 : decode cX4_feed 29 = .ok (.baload, 1) := by decide +kernel
theorem dX4_feed_30 : decode cX4_feed 30 = .ok (.ifCond .eq 7, 3) := by decide +kernel
theorem dX4_feed_33 : decode cX4_feed 33 = .ok (.iconst 0, 1) := by decide +kernel
theorem dX4_feed_34 : decode cX4_feed 34 = .ok (.goto 4, 3) := by decide +kernel
theorem dX4_feed_37 : decode cX4_feed 37 = .ok (.iconst 3, 1) := by decide +kernel
theorem dX4_feed_38 : decode cX4_feed 38 = .ok (.putfield 57, 3) := by decide +kernel
theorem dX4_feed_41 : decode cX4_feed 41 = .ok (.aload_n 0, 1) := by decide +kernel
theorem dX4_feed_42 : decode cX4_feed 42 = .ok (.getfield 57, 3) := by decide +kernel
theorem dX4_feed_45 : decode cX4_feed 45 = .ok (.ifCond .eq 5, 3) := by decide +kernel
theorem dX4_feed_48 : decode cX4_feed 48 = .ok (.lconst 0, 1) := by decide +kernel
theorem dX4_feed_49 : decode cX4_feed 49 = .ok (.lreturn, 1) := by decide +kernel
theorem dX4_feed_50 : decode cX4_feed 50 = .ok (.aload_n 0, 1) := by decide +kernel
theorem dX4_feed_51 : decode cX4_feed 51 = .ok (.iload_n 2, 1) := by decide +kernel
theorem dX4_feed_52 : decode cX4_feed 52 = .ok (.invokevirtual 148, 3) := by decide +kernel
theorem dX4_feed_55 : decode cX4_feed 55 = .ok (.lconst 0, 1) := by decide +kernel
theorem dX4_feed_56 : decode cX4_feed 56 = .ok (.lstore 4, 2) := by decide +kernel
theorem dX4_feed_58 : decode cX4_feed 58 = .ok (.iconst 0, 1) := by decide +kernel
theorem dX4_feed_59 : decode cX4_feed 59 = .ok (.istore 6, 2) := by decide +kernel
theorem dX4_feed_61 : decode cX4_feed 61 = .ok (.iload 6, 2) := by decide +kernel
theorem dX4_feed_63 : decode cX4_feed 63 = .ok (.aload_n 0, 1) := by decide +kernel
theorem dX4_feed_64 : decode cX4_feed 64 = .ok (.getfield 68, 3) := by decide +kernel
theorem dX4_feed_67 : decode cX4_feed 67 = .ok (.if_icmp .ge 130, 3) := by decide +kernel
theorem dX4_feed_70 : decode cX4_feed 70 = .ok (.aload_n 0, 1) := by decide +kernel
theorem dX4_feed_71 : decode cX4_feed 71 = .ok (.getfield 20, 3) := by decide +kernel
theorem dX4_feed_74 : decode cX4_feed 74 = .ok (.iload 6, 2) := by decide +kernel
theorem dX4_feed_76 : decode cX4_feed 76 = .ok (.iaload, 1) := by decide +kernel
theorem dX4_feed_77 : decode cX4_feed 77 = .ok (.iload_n 1, 1) := by decide +kernel
theorem dX4_feed_78 : decode cX4_feed 78 = .ok (.if_icmp .eq 14, 3) := by decide +kernel
theorem dX4_feed_81 : decode cX4_feed 81 = .ok (.aload_n 0, 1) := by decide +kernel
theorem dX4_feed_82 : decode cX4_feed 82 = .ok (.getfield 23, 3) := by decide +kernel
theorem dX4_feed_85 : decode cX4_feed 85 = .ok (.iload 6, 2) := by decide +kernel
theorem dX4_feed_87 : decode cX4_feed 87 = .ok (.iaload, 1) := by decide +kernel
theorem dX4_feed_88 : decode cX4_feed 88 = .ok (.iload_n 1, 1) := by decide +kernel
theorem dX4_feed_89 : decode cX4_feed 89 = .ok (.if_icmp .ne 102, 3) := by decide +kernel
theorem dX4_feed_92 : decode cX4_feed 92 = .ok (.aload_n 0, 1) := by decide +kernel
theorem dX4_feed_93 : decode cX4_feed 93 = .ok (.iload 6, 2) := by decide +kernel
theorem dX4_feed_95 : decode cX4_feed 95 = .ok (.iload_n 2, 1) := by decide +kernel
theorem dX4_feed_96 : decode cX4_feed 96 = .ok (.invokevirtual 99, 3) := by decide +kernel
theorem dX4_feed_99 : decode cX4_feed 99 = .ok (.ifCond .ne 6, 3) := by decide +kernel
theorem dX4_feed_102 : decode cX4_feed 102 = .ok (.goto 89, 3) := by decide +kernel
theorem dX4_feed_105 : decode cX4_feed 105 = .ok (.aload_n 0, 1) := by decide +kernel
theorem dX4_feed_106 : decode cX4_feed 106 = .ok (.getfield 17, 3) := by decide +kernel
theorem dX4_feed_109 : decode cX4_feed 109 = .ok (.iload 6, 2) := by decide +kernel
theorem dX4_feed_111 : decode cX4_feed 111 = .ok (.baload, 1) := by decide +kernel
theorem dX4_feed_112 : decode cX4_feed 112 = .ok (.ifCond .eq 19, 3) := by decide +kernel
theorem dX4_feed_115 : decode cX4_feed 115 = .ok (.aload_n 0, 1) := by decide +kernel
theorem dX4_feed_116 : decode cX4_feed 116 = .ok (.getfield 26, 3) := by decide +kernel
theorem dX4_feed_119 : decode cX4_feed 119 = .ok (.iload 6, 2) := by decide +kernel
theorem dX4_feed_121 : decode cX4_feed 121 = .ok (.iaload, 1) := by decide +kernel
theorem dX4_feed_122 : decode cX4_feed 122 = .ok (.i2l, 1) := by decide +kernel
theorem dX4_feed_123 : decode cX4_feed 123 = .ok (.aload_n 0, 1) := by decide +kernel
theorem dX4_feed_124 : decode cX4_feed 124 = .ok (.getfield 134, 3) := by decide +kernel
theorem dX4_feed_127 : decode cX4_feed 127 = .ok (.lmul, 1) := by decide +kernel
theorem dX4_feed_128 : decode cX4_feed 128 = .ok (.goto 37, 3) := by decide +kernel
theorem dX4_feed_131 : decode cX4_feed 131 = .ok (.aload_n 0, 1) := by decide +kernel
theorem dX4_feed_132 : decode cX4_feed 132 = .ok (.getfield 26, 3) := by decide +kernel
theorem dX4_feed_135 : decode cX4_feed 135 = .ok (.iload 6, 2) := by decide +kernel
theorem dX4_feed_137 : decode cX4_feed 137 = .ok (.iaload, 1) := by decide +kernel
theorem dX4_feed_138 : decode cX4_feed 138 = .ok (.i2l, 1) := by decide +kernel
theorem dX4_feed_139 : decode cX4_feed 139 = .ok (.aload_n 0, 1) := by decide +kernel
theorem dX4_feed_140 : decode cX4_feed 140 = .ok (.getfield 51, 3) := by decide +kernel
theorem dX4_feed_143 : decode cX4_feed 143 = .ok (.aload_n 0, 1) := by decide +kernel
theorem dX4_feed_144 : decode cX4_feed 144 = .ok (.getfield 20, 3) := by decide +kernel
theorem dX4_feed_147 : decode cX4_feed 147 = .ok (.iload 6, 2) := by decide +kernel
theorem dX4_feed_149 : decode cX4_feed 149 = .ok (.iaload, 1) := by decide +kernel
theorem dX4_feed_150 : decode cX4_feed 150 = .ok (.laload, 1) := by decide +kernel
theorem dX4_feed_151 : decode cX4_feed 151 = .ok (.aload_n 0, 1) := by decide +kernel
theorem dX4_feed_152 : decode cX4_feed 152 = .ok (.getfield 51, 3) := by decide +kernel
theorem dX4_feed_155 : decode cX4_feed 155 = .ok (.aload_n 0, 1) := by decide +kernel
theorem dX4_feed_156 : decode cX4_feed 156 = .ok (.getfield 23, 3) := by decide +kernel
theorem dX4_feed_159 : decode cX4_feed 159 = .ok (.iload 6, 2) := by decide +kernel
theorem dX4_feed_161 : decode cX4_feed 161 = .ok (.iaload, 1) := by decide +kernel
theorem dX4_feed_162 : decode cX4_feed 162 = .ok (.laload, 1) := by decide +kernel
theorem dX4_feed_163 : decode cX4_feed 163 = .ok (.lsub, 1) := by decide +kernel
theorem dX4_feed_164 : decode cX4_feed 164 = .ok (.lmul, 1) := by decide +kernel
theorem dX4_feed_165 : decode cX4_feed 165 = .ok (.lstore 7, 2) := by decide +kernel
theorem dX4_feed_167 : decode cX4_feed 167 = .ok (.lload 4, 2) := by decide +kernel
theorem dX4_feed_169 : decode cX4_feed 169 = .ok (.aload_n 0, 1) := by decide +kernel
theorem dX4_feed_170 : decode cX4_feed 170 = .ok (.getfield 20, 3) := by decide +kernel
theorem dX4_feed_173 : decode cX4_feed 173 = .ok (.iload 6, 2) := by decide +kernel
theorem dX4_feed_175 : decode cX4_feed 175 = .ok (.iaload, 1) := by decide +kernel
theorem dX4_feed_176 : decode cX4_feed 176 = .ok (.iload_n 1, 1) := by decide +kernel
theorem dX4_feed_177 : decode cX4_feed 177 = .ok (.if_icmp .ne 8, 3) := by decide +kernel
theorem dX4_feed_180 : decode cX4_feed 180 = .ok (.lload 7, 2) := by decide +kernel
theorem dX4_feed_182 : decode cX4_feed 182 = .ok (.goto 6, 3) := by decide +kernel
theorem dX4_feed_185 : decode cX4_feed 185 = .ok (.lload 7, 2) := by decide +kernel
theorem dX4_feed_187 : decode cX4_feed 187 = .ok (.lneg, 1) := by decide +kernel
theorem dX4_feed_188 : decode cX4_feed 188 = .ok (.ladd, 1) := by decide +kernel
theorem dX4_feed_189 : decode cX4_feed 189 = .ok (.lstore 4, 2) := by decide +kernel
theorem dX4_feed_191 : decode cX4_feed 191 = .ok (.iinc 6 1, 3) := by decide +kernel
theorem dX4_feed_194 : decode cX4_feed 194 = .ok (.goto (-133), 3) := by decide +kernel
theorem dX4_feed_197 : decode cX4_feed 197 = .ok (.lload 4, 2) := by decide +kernel
theorem dX4_feed_199 : decode cX4_feed 199 = .ok (.aload_n 0, 1) := by decide +kernel
theorem dX4_feed_200 : decode cX4_feed 200 = .ok (.getfield 134, 3) := by decide +kernel
theorem dX4_feed_203 : decode cX4_feed 203 = .ok (.iload_n 3, 1) := by decide +kernel
theorem dX4_feed_204 : decode cX4_feed 204 = .ok (.invokestatic 152, 3) := by decide +kernel
theorem dX4_feed_207 : decode cX4_feed 207 = .ok (.lreturn, 1) := by decide +kernel
theorem dX4_resistance_0 : decode cX4_resistance 0 = .ok (.aload_n 0, 1) := by decide +kernel
theorem dX4_resistance_1 : decode cX4_resistance 1 = .ok (.aload_n 0, 1) := by decide +kernel
theorem dX4_resistance_2 : decode cX4_resistance 2 = .ok (.iload_n 1, 1) := by decide +kernel
theorem dX4_resistance_3 : decode cX4_resistance 3 = .ok (.invokevirtual 75, 3) := by decide +kernel
theorem dX4_resistance_6 : decode cX4_resistance 6 = .ok (.ifCond .eq 11, 3) := by decide +kernel
theorem dX4_resistance_9 : decode cX4_resistance 9 = .ok (.aload_n 0, 1) := by decide +kernel
theorem dX4_resistance_10 : decode cX4_resistance 10 = .ok (.iload_n 2, 1) := by decide +kernel
theorem dX4_resistance_11 : decode cX4_resistance 11 = .ok (.invokevirtual 75, 3) := by decide +kernel
theorem dX4_resistance_14 : decode cX4_resistance 14 = .ok (.ifCond .ne 7, 3) := by decide +kernel
theorem dX4_resistance_17 : decode cX4_resistance 17 = .ok (.iconst 1, 1) := by decide +kernel
theorem dX4_resistance_18 : decode cX4_resistance 18 = .ok (.goto 33, 3) := by decide +kernel
theorem dX4_resistance_21 : decode cX4_resistance 21 = .ok (.iload_n 3, 1) := by decide +kernel
theorem dX4_resistance_22 : decode cX4_resistance 22 = .ok (.invokestatic 103, 3) := by decide +kernel
theorem dX4_resistance_25 : decode cX4_resistance 25 = .ok (.ifCond .ne 7, 3) := by decide +kernel
theorem dX4_resistance_28 : decode cX4_resistance 28 = .ok (.iconst 2, 1) := by decide +kernel
theorem dX4_resistance_29 : decode cX4_resistance 29 = .ok (.goto 22, 3) := by decide +kernel
theorem dX4_resistance_32 : decode cX4_resistance 32 = .ok (.aload_n 0, 1) := by decide +kernel
theorem dX4_resistance_33 : decode cX4_resistance 33 = .ok (.iload_n 1, 1) := by decide +kernel
theorem dX4_resistance_34 : decode cX4_resistance 34 = .ok (.iload_n 3, 1) := by decide +kernel
theorem dX4_resistance_35 : decode cX4_resistance 35 = .ok (.invokevirtual 109, 3) := by decide +kernel
theorem dX4_resistance_38 : decode cX4_resistance 38 = .ok (.iload_n 2, 1) := by decide +kernel
theorem dX4_resistance_39 : decode cX4_resistance 39 = .ok (.ishr, 1) := by decide +kernel
theorem dX4_resistance_40 : decode cX4_resistance 40 = .ok (.iconst 1, 1) := by decide +kernel
theorem dX4_resistance_41 : decode cX4_resistance 41 = .ok (.iand, 1) := by decide +kernel
theorem dX4_resistance_42 : decode cX4_resistance 42 = .ok (.iconst 1, 1) := by decide +kernel
theorem dX4_resistance_43 : decode cX4_resistance 43 = .ok (.if_icmp .ne 7, 3) := by decide +kernel
theorem dX4_resistance_46 : decode cX4_resistance 46 = .ok (.iconst 0, 1) := by decide +kernel
theorem dX4_resistance_47 : decode cX4_resistance 47 = .ok (.goto 4, 3) := by decide +kernel
theorem dX4_resistance_50 : decode cX4_resistance 50 = .ok (.iconst 3, 1) := by decide +kernel
theorem dX4_resistance_51 : decode cX4_resistance 51 = .ok (.putfield 57, 3) := by decide +kernel
theorem dX4_resistance_54 : decode cX4_resistance 54 = .ok (.aload_n 0, 1) := by decide +kernel
theorem dX4_resistance_55 : decode cX4_resistance 55 = .ok (.getfield 57, 3) := by decide +kernel
theorem dX4_resistance_58 : decode cX4_resistance 58 = .ok (.ifCond .eq 5, 3) := by decide +kernel
theorem dX4_resistance_61 : decode cX4_resistance 61 = .ok (.lconst 0, 1) := by decide +kernel
theorem dX4_resistance_62 : decode cX4_resistance 62 = .ok (.lreturn, 1) := by decide +kernel
theorem dX4_resistance_63 : decode cX4_resistance 63 = .ok (.iload_n 1, 1) := by decide +kernel
theorem dX4_resistance_64 : decode cX4_resistance 64 = .ok (.iload_n 2, 1) := by decide +kernel
theorem dX4_resistance_65 : decode cX4_resistance 65 = .ok (.if_icmp .ne 14, 3) := by decide +kernel
theorem dX4_resistance_68 : decode cX4_resistance 68 = .ok (.iload 4, 2) := by decide +kernel
theorem dX4_resistance_70 : decode cX4_resistance 70 = .ok (.ifCond .eq 7, 3) := by decide +kernel
theorem dX4_resistance_73 : decode cX4_resistance 73 = .ok (.lconst 0, 1) := by decide +kernel
theorem dX4_resistance_74 : decode cX4_resistance 74 = .ok (.goto 4, 3) := by decide +kernel
theorem dX4_resistance_77 : decode cX4_resistance 77 = .ok (.lconst 1, 1) := by decide +kernel
theorem dX4_resistance_78 : decode cX4_resistance 78 = .ok (.lreturn, 1) := by decide +kernel
theorem dX4_resistance_79 : decode cX4_resistance 79 = .ok (.aload_n 0, 1) := by decide +kernel
theorem dX4_resistance_80 : decode cX4_resistance 80 = .ok (.invokevirtual 123, 3) := by decide +kernel
theorem dX4_resistance_83 : decode cX4_resistance 83 = .ok (.aload_n 0, 1) := by decide +kernel
theorem dX4_resistance_84 : decode cX4_resistance 84 = .ok (.iload_n 1, 1) := by decide +kernel
theorem dX4_resistance_85 : decode cX4_resistance 85 = .ok (.iload_n 3, 1) := by decide +kernel
theorem dX4_resistance_86 : decode cX4_resistance 86 = .ok (.invokevirtual 109, 3) := by decide +kernel
theorem dX4_resistance_89 : decode cX4_resistance 89 = .ok (.istore 5, 2) := by decide +kernel
theorem dX4_resistance_91 : decode cX4_resistance 91 = .ok (.iconst 0, 1) := by decide +kernel
theorem dX4_resistance_92 : decode cX4_resistance 92 = .ok (.istore 6, 2) := by decide +kernel
theorem dX4_resistance_94 : decode cX4_resistance 94 = .ok (.iload 6, 2) := by decide +kernel
theorem dX4_resistance_96 : decode cX4_resistance 96 = .ok (.aload_n 0, 1) := by decide +kernel
theorem dX4_resistance_97 : decode cX4_resistance 97 = .ok (.getfield 61, 3) := by decide +kernel
theorem dX4_resistance_100 : decode cX4_resistance 100 = .ok (.if_icmp .ge 49, 3) := by decide +kernel
theorem dX4_resistance_103 : decode cX4_resistance 103 = .ok (.iload 5, 2) := by decide +kernel
theorem dX4_resistance_105 : decode cX4_resistance 105 = .ok (.iload 6, 2) := by decide +kernel
theorem dX4_resistance_107 : decode cX4_resistance 107 = .ok (.ishr, 1) := by decide +kernel
theorem dX4_resistance_108 : decode cX4_resistance 108 = .ok (.iconst 1, 1) := by decide +kernel
theorem dX4_resistance_109 : decode cX4_resistance 109 = .ok (.iand, 1) := by decide +kernel
theorem dX4_resistance_110 : decode cX4_resistance 110 = .ok (.ifCond .eq 33, 3) := by decide +kernel
theorem dX4_resistance_113 : decode cX4_resistance 113 = .ok (.iload 6, 2) := by decide +kernel
theorem dX4_resistance_115 : decode cX4_resistance 115 = .ok (.iload_n 2, 1) := by decide +kernel
theorem dX4_resistance_116 : decode cX4_resistance 116 = .ok (.if_icmp .ne 6, 3) := by decide +kernel
theorem dX4_resistance_119 : decode cX4_resistance 119 = .ok (.goto 24, 3) := by decide +kernel
theorem dX4_resistance_122 : decode cX4_resistance 122 = .ok (.aload_n 0, 1) := by decide +kernel
theorem dX4_resistance_123 : decode cX4_resistance 123 = .ok (.getfield 38, 3) := by decide +kernel
theorem dX4_resistance_126 : decode cX4_resistance 126 = .ok (.iload 6, 2) := by decide +kernel
theorem dX4_resistance_128 : decode cX4_resistance 128 = .ok (.aload_n 0, 1) := by decide +kernel
theorem dX4_resistance_129 : decode cX4_resistance 129 = .ok (.getfield 115, 3) := by decide +kernel
theorem dX4_resistance_132 : decode cX4_resistance 132 = .ok (.iastore, 1) := by decide +kernel
theorem dX4_resistance_133 : decode cX4_resistance 133 = .ok (.aload_n 0, 1) := by decide +kernel
theorem dX4_resistance_134 : decode cX4_resistance 134 = .ok (.dup, 1) := by decide +kernel
theorem dX4_resistance_135 : decode cX4_resistance 135 = .ok (.getfield 115, 3) := by decide +kernel
theorem dX4_resistance_138 : decode cX4_resistance 138 = .ok (.iconst 1, 1) := by decide +kernel
theorem dX4_resistance_139 : decode cX4_resistance 139 = .ok (.iadd, 1) := by decide +kernel
theorem dX4_resistance_140 : decode cX4_resistance 140 = .ok (.putfield 115, 3) := by decide +kernel
theorem dX4_resistance_143 : decode cX4_resistance 143 = .ok (.iinc 6 1, 3) := by decide +kernel
theorem dX4_resistance_146 : decode cX4_resistance 146 = .ok (.goto (-52), 3) := by decide +kernel
theorem dX4_resistance_149 : decode cX4_resistance 149 = .ok (.iconst 0, 1) := by decide +kernel
theorem dX4_resistance_150 : decode cX4_resistance 150 = .ok (.istore 6, 2) := by decide +kernel
theorem dX4_resistance_152 : decode cX4_resistance 152 = .ok (.iload 6, 2) := by decide +kernel
theorem dX4_resistance_154 : decode cX4_resistance 154 = .ok (.aload_n 0, 1) := by decide +kernel
theorem dX4_resistance_155 : decode cX4_resistance 155 = .ok (.getfield 68, 3) := by decide +kernel
theorem dX4_resistance_158 : decode cX4_resistance 158 = .ok (.if_icmp .ge 87, 3) := by decide +kernel
theorem dX4_resistance_161 : decode cX4_resistance 161 = .ok (.aload_n 0, 1) := by decide +kernel
theorem dX4_resistance_162 : decode cX4_resistance 162 = .ok (.iload 6, 2) := by decide +kernel
theorem dX4_resistance_164 : decode cX4_resistance 164 = .ok (.iload_n 3, 1) := by decide +kernel
theorem dX4_resistance_165 : decode cX4_resistance 165 = .ok (.invokevirtual 106, 3) := by decide +kernel
theorem dX4_resistance_168 : decode cX4_resistance 168 = .ok (.ifCond .eq 71, 3) := by decide +kernel
theorem dX4_resistance_171 : decode cX4_resistance 171 = .ok (.iload 5, 2) := by decide +kernel
theorem dX4_resistance_173 : decode cX4_resistance 173 = .ok (.aload_n 0, 1) := by decide +kernel
theorem dX4_resistance_174 : decode cX4_resistance 174 = .ok (.getfield 20, 3) := by decide +kernel
theorem dX4_resistance_177 : decode cX4_resistance 177 = .ok (.iload 6, 2) := by decide +kernel
theorem dX4_resistance_179 : decode cX4_resistance 179 = .ok (.iaload, 1) := by decide +kernel
theorem dX4_resistance_180 : decode cX4_resistance 180 = .ok (.ishr, 1) := by decide +kernel
theorem dX4_resistance_181 : decode cX4_resistance 181 = .ok (.iconst 1, 1) := by decide +kernel
theorem dX4_resistance_182 : decode cX4_resistance 182 = .ok (.iand, 1) := by decide +kernel
theorem dX4_resistance_183 : decode cX4_resistance 183 = .ok (.ifCond .ne 6, 3) := by decide +kernel
theorem dX4_resistance_186 : decode cX4_resistance 186 = .ok (.goto 53, 3) := by decide +kernel
theorem dX4_resistance_189 : decode cX4_resistance 189 = .ok (.aload_n 0, 1) := by decide +kernel
theorem dX4_resistance_190 : decode cX4_resistance 190 = .ok (.aload_n 0, 1) := by decide +kernel
theorem dX4_resistance_191 : decode cX4_resistance 191 = .ok (.getfield 20, 3) := by decide +kernel
theorem dX4_resistance_194 : decode cX4_resistance 194 = .ok (.iload 6, 2) := by decide +kernel
theorem dX4_resistance_196 : decode cX4_resistance 196 = .ok (.iaload, 1) := by decide +kernel
theorem dX4_resistance_197 : decode cX4_resistance 197 = .ok (.aload_n 0, 1) := by decide +kernel
theorem dX4_resistance_198 : decode cX4_resistance 198 = .ok (.getfield 23, 3) := by decide +kernel
theorem dX4_resistance_201 : decode cX4_resistance 201 = .ok (.iload 6, 2) := by decide +kernel
theorem dX4_resistance_203 : decode cX4_resistance 203 = .ok (.iaload, 1) := by decide +kernel
theorem dX4_resistance_204 : decode cX4_resistance 204 = .ok (.aload_n 0, 1) := by decide +kernel
theorem dX4_resistance_205 : decode cX4_resistance 205 = .ok (.getfield 26, 3) := by decide +kernel
theorem dX4_resistance_208 : decode cX4_resistance 208 = .ok (.iload 6, 2) := by decide +kernel
theorem dX4_resistance_210 : decode cX4_resistance 210 = .ok (.iaload, 1) := by decide +kernel
theorem dX4_resistance_211 : decode cX4_resistance 211 = .ok (.invokevirtual 126, 3) := by decide +kernel
theorem dX4_resistance_214 : decode cX4_resistance 214 = .ok (.aload_n 0, 1) := by decide +kernel
theorem dX4_resistance_215 : decode cX4_resistance 215 = .ok (.aload_n 0, 1) := by decide +kernel
theorem dX4_resistance_216 : decode cX4_resistance 216 = .ok (.getfield 23, 3) := by decide +kernel
theorem dX4_resistance_219 : decode cX4_resistance 219 = .ok (.iload 6, 2) := by decide +kernel
theorem dX4_resistance_221 : decode cX4_resistance 221 = .ok (.iaload, 1) := by decide +kernel
theorem dX4_resistance_222 : decode cX4_resistance 222 = .ok (.aload_n 0, 1) := by decide +kernel
theorem dX4_resistance_223 : decode cX4_resistance 223 = .ok (.getfield 20, 3) := by decide +kernel
theorem dX4_resistance_226 : decode cX4_resistance 226 = .ok (.iload 6, 2) := by decide +kernel
theorem dX4_resistance_228 : decode cX4_resistance 228 = .ok (.iaload, 1) := by decide +kernel
theorem dX4_resistance_229 : decode cX4_resistance 229 = .ok (.aload_n 0, 1) := by decide +kernel
theorem dX4_resistance_230 : decode cX4_resistance 230 = .ok (.getfield 26, 3) := by decide +kernel
theorem dX4_resistance_233 : decode cX4_resistance 233 = .ok (.iload 6, 2) := by decide +kernel
theorem dX4_resistance_235 : decode cX4_resistance 235 = .ok (.iaload, 1) := by decide +kernel
theorem dX4_resistance_236 : decode cX4_resistance 236 = .ok (.invokevirtual 126, 3) := by decide +kernel
end
section
theorem dX4_resistance_239 : decode cX4_resistance 239 = .ok (.iinc 6 1, 3) := by decide +kernel
theorem dX4_resistance_242 : decode cX4_resistance 242 = .ok (.goto (-90), 3) := by decide +kernel
theorem dX4_resistance_245 : decode cX4_resistance 245 = .ok (.iconst 0, 1) := by decide +kernel
theorem dX4_resistance_246 : decode cX4_resistance 246 = .ok (.istore 6, 2) := by decide +kernel
theorem dX4_resistance_248 : decode cX4_resistance 248 = .ok (.iload 6, 2) := by decide +kernel
theorem dX4_resistance_250 : decode cX4_resistance 250 = .ok (.aload_n 0, 1) := by decide +kernel
theorem dX4_resistance_251 : decode cX4_resistance 251 = .ok (.getfield 115, 3) := by decide +kernel
theorem dX4_resistance_254 : decode cX4_resistance 254 = .ok (.if_icmp .ge 32, 3) := by decide +kernel
theorem dX4_resistance_257 : decode cX4_resistance 257 = .ok (.aload_n 0, 1) := by decide +kernel
theorem dX4_resistance_258 : decode cX4_resistance 258 = .ok (.getfield 45, 3) := by decide +kernel
theorem dX4_resistance_261 : decode cX4_resistance 261 = .ok (.iload 6, 2) := by decide +kernel
theorem dX4_resistance_263 : decode cX4_resistance 263 = .ok (.iload 6, 2) := by decide +kernel
theorem dX4_resistance_265 : decode cX4_resistance 265 = .ok (.aload_n 0, 1) := by decide +kernel
theorem dX4_resistance_266 : decode cX4_resistance 266 = .ok (.getfield 38, 3) := by decide +kernel
theorem dX4_resistance_269 : decode cX4_resistance 269 = .ok (.iload_n 1, 1) := by decide +kernel
theorem dX4_resistance_270 : decode cX4_resistance 270 = .ok (.iaload, 1) := by decide +kernel
theorem dX4_resistance_271 : decode cX4_resistance 271 = .ok (.if_icmp .ne 7, 3) := by decide +kernel
theorem dX4_resistance_274 : decode cX4_resistance 274 = .ok (.lconst 1, 1) := by decide +kernel
theorem dX4_resistance_275 : decode cX4_resistance 275 = .ok (.goto 4, 3) := by decide +kernel
theorem dX4_resistance_278 : decode cX4_resistance 278 = .ok (.lconst 0, 1) := by decide +kernel
theorem dX4_resistance_279 : decode cX4_resistance 279 = .ok (.lastore, 1) := by decide +kernel
theorem dX4_resistance_280 : decode cX4_resistance 280 = .ok (.iinc 6 1, 3) := by decide +kernel
theorem dX4_resistance_283 : decode cX4_resistance 283 = .ok (.goto (-35), 3) := by decide +kernel
theorem dX4_resistance_286 : decode cX4_resistance 286 = .ok (.aload_n 0, 1) := by decide +kernel
theorem dX4_resistance_287 : decode cX4_resistance 287 = .ok (.iconst (-1), 1) := by decide +kernel
theorem dX4_resistance_288 : decode cX4_resistance 288 = .ok (.invokevirtual 130, 3) := by decide +kernel
theorem dX4_resistance_291 : decode cX4_resistance 291 = .ok (.lstore 6, 2) := by decide +kernel
theorem dX4_resistance_293 : decode cX4_resistance 293 = .ok (.aload_n 0, 1) := by decide +kernel
theorem dX4_resistance_294 : decode cX4_resistance 294 = .ok (.aload_n 0, 1) := by decide +kernel
theorem dX4_resistance_295 : decode cX4_resistance 295 = .ok (.getfield 38, 3) := by decide +kernel
theorem dX4_resistance_298 : decode cX4_resistance 298 = .ok (.iload_n 1, 1) := by decide +kernel
theorem dX4_resistance_299 : decode cX4_resistance 299 = .ok (.iaload, 1) := by decide +kernel
theorem dX4_resistance_300 : decode cX4_resistance 300 = .ok (.invokevirtual 130, 3) := by decide +kernel
theorem dX4_resistance_303 : decode cX4_resistance 303 = .ok (.lload 6, 2) := by decide +kernel
theorem dX4_resistance_305 : decode cX4_resistance 305 = .ok (.iload 4, 2) := by decide +kernel
theorem dX4_resistance_307 : decode cX4_resistance 307 = .ok (.invokestatic 152, 3) := by decide +kernel
theorem dX4_resistance_310 : decode cX4_resistance 310 = .ok (.lreturn, 1) := by decide +kernel
theorem dX4_potentialOf_0 : decode cX4_potentialOf 0 = .ok (.aload_n 0, 1) := by decide +kernel
theorem dX4_potentialOf_1 : decode cX4_potentialOf 1 = .ok (.getfield 51, 3) := by decide +kernel
theorem dX4_potentialOf_4 : decode cX4_potentialOf 4 = .ok (.iload_n 1, 1) := by decide +kernel
theorem dX4_potentialOf_5 : decode cX4_potentialOf 5 = .ok (.laload, 1) := by decide +kernel
theorem dX4_potentialOf_6 : decode cX4_potentialOf 6 = .ok (.aload_n 0, 1) := by decide +kernel
theorem dX4_potentialOf_7 : decode cX4_potentialOf 7 = .ok (.getfield 134, 3) := by decide +kernel
theorem dX4_potentialOf_10 : decode cX4_potentialOf 10 = .ok (.iconst 1, 1) := by decide +kernel
theorem dX4_potentialOf_11 : decode cX4_potentialOf 11 = .ok (.invokestatic 152, 3) := by decide +kernel
theorem dX4_potentialOf_14 : decode cX4_potentialOf 14 = .ok (.l2d, 1) := by decide +kernel
theorem dX4_potentialOf_15 : decode cX4_potentialOf 15 = .ok (.aload_n 0, 1) := by decide +kernel
theorem dX4_potentialOf_16 : decode cX4_potentialOf 16 = .ok (.getfield 51, 3) := by decide +kernel
theorem dX4_potentialOf_19 : decode cX4_potentialOf 19 = .ok (.iload_n 1, 1) := by decide +kernel
theorem dX4_potentialOf_20 : decode cX4_potentialOf 20 = .ok (.laload, 1) := by decide +kernel
theorem dX4_potentialOf_21 : decode cX4_potentialOf 21 = .ok (.aload_n 0, 1) := by decide +kernel
theorem dX4_potentialOf_22 : decode cX4_potentialOf 22 = .ok (.getfield 134, 3) := by decide +kernel
theorem dX4_potentialOf_25 : decode cX4_potentialOf 25 = .ok (.iconst 0, 1) := by decide +kernel
theorem dX4_potentialOf_26 : decode cX4_potentialOf 26 = .ok (.invokestatic 152, 3) := by decide +kernel
theorem dX4_potentialOf_29 : decode cX4_potentialOf 29 = .ok (.l2d, 1) := by decide +kernel
theorem dX4_potentialOf_30 : decode cX4_potentialOf 30 = .ok (.ddiv, 1) := by decide +kernel
theorem dX4_potentialOf_31 : decode cX4_potentialOf 31 = .ok (.dreturn, 1) := by decide +kernel
theorem dX4_power_0 : decode cX4_power 0 = .ok (.aload_n 0, 1) := by decide +kernel
theorem dX4_power_1 : decode cX4_power 1 = .ok (.iload_n 1, 1) := by decide +kernel
theorem dX4_power_2 : decode cX4_power 2 = .ok (.invokestatic 103, 3) := by decide +kernel
theorem dX4_power_5 : decode cX4_power 5 = .ok (.ifCond .eq 7, 3) := by decide +kernel
theorem dX4_power_8 : decode cX4_power 8 = .ok (.iconst 0, 1) := by decide +kernel
theorem dX4_power_9 : decode cX4_power 9 = .ok (.goto 4, 3) := by decide +kernel
theorem dX4_power_12 : decode cX4_power 12 = .ok (.iconst 1, 1) := by decide +kernel
theorem dX4_power_13 : decode cX4_power 13 = .ok (.putfield 57, 3) := by decide +kernel
theorem dX4_power_16 : decode cX4_power 16 = .ok (.aload_n 0, 1) := by decide +kernel
theorem dX4_power_17 : decode cX4_power 17 = .ok (.getfield 57, 3) := by decide +kernel
theorem dX4_power_20 : decode cX4_power 20 = .ok (.ifCond .eq 5, 3) := by decide +kernel
theorem dX4_power_23 : decode cX4_power 23 = .ok (.dconst 0, 1) := by decide +kernel
theorem dX4_power_24 : decode cX4_power 24 = .ok (.dreturn, 1) := by decide +kernel
theorem dX4_power_25 : decode cX4_power 25 = .ok (.aload_n 0, 1) := by decide +kernel
theorem dX4_power_26 : decode cX4_power 26 = .ok (.iload_n 1, 1) := by decide +kernel
theorem dX4_power_27 : decode cX4_power 27 = .ok (.invokevirtual 148, 3) := by decide +kernel
theorem dX4_power_30 : decode cX4_power 30 = .ok (.dconst 0, 1) := by decide +kernel
theorem dX4_power_31 : decode cX4_power 31 = .ok (.dstore_n 2, 1) := by decide +kernel
theorem dX4_power_32 : decode cX4_power 32 = .ok (.iconst 0, 1) := by decide +kernel
theorem dX4_power_33 : decode cX4_power 33 = .ok (.istore 4, 2) := by decide +kernel
theorem dX4_power_35 : decode cX4_power 35 = .ok (.iload 4, 2) := by decide +kernel
theorem dX4_power_37 : decode cX4_power 37 = .ok (.aload_n 0, 1) := by decide +kernel
theorem dX4_power_38 : decode cX4_power 38 = .ok (.getfield 68, 3) := by decide +kernel
theorem dX4_power_41 : decode cX4_power 41 = .ok (.if_icmp .ge 79, 3) := by decide +kernel
theorem dX4_power_44 : decode cX4_power 44 = .ok (.aload_n 0, 1) := by decide +kernel
theorem dX4_power_45 : decode cX4_power 45 = .ok (.iload 4, 2) := by decide +kernel
theorem dX4_power_47 : decode cX4_power 47 = .ok (.iload_n 1, 1) := by decide +kernel
theorem dX4_power_48 : decode cX4_power 48 = .ok (.invokevirtual 106, 3) := by decide +kernel
theorem dX4_power_51 : decode cX4_power 51 = .ok (.ifCond .eq 63, 3) := by decide +kernel
theorem dX4_power_54 : decode cX4_power 54 = .ok (.aload_n 0, 1) := by decide +kernel
theorem dX4_power_55 : decode cX4_power 55 = .ok (.getfield 54, 3) := by decide +kernel
theorem dX4_power_58 : decode cX4_power 58 = .ok (.aload_n 0, 1) := by decide +kernel
theorem dX4_power_59 : decode cX4_power 59 = .ok (.getfield 20, 3) := by decide +kernel
theorem dX4_power_62 : decode cX4_power 62 = .ok (.iload 4, 2) := by decide +kernel
theorem dX4_power_64 : decode cX4_power 64 = .ok (.iaload, 1) := by decide +kernel
theorem dX4_power_65 : decode cX4_power 65 = .ok (.baload, 1) := by decide +kernel
theorem dX4_power_66 : decode cX4_power 66 = .ok (.ifCond .eq 6, 3) := by decide +kernel
theorem dX4_power_69 : decode cX4_power 69 = .ok (.goto 45, 3) := by decide +kernel
theorem dX4_power_72 : decode cX4_power 72 = .ok (.aload_n 0, 1) := by decide +kernel
theorem dX4_power_73 : decode cX4_power 73 = .ok (.aload_n 0, 1) := by decide +kernel
theorem dX4_power_74 : decode cX4_power 74 = .ok (.getfield 20, 3) := by decide +kernel
theorem dX4_power_77 : decode cX4_power 77 = .ok (.iload 4, 2) := by decide +kernel
theorem dX4_power_79 : decode cX4_power 79 = .ok (.iaload, 1) := by decide +kernel
theorem dX4_power_80 : decode cX4_power 80 = .ok (.invokevirtual 156, 3) := by decide +kernel
theorem dX4_power_83 : decode cX4_power 83 = .ok (.aload_n 0, 1) := by decide +kernel
theorem dX4_power_84 : decode cX4_power 84 = .ok (.aload_n 0, 1) := by decide +kernel
theorem dX4_power_85 : decode cX4_power 85 = .ok (.getfield 23, 3) := by decide +kernel
theorem dX4_power_88 : decode cX4_power 88 = .ok (.iload 4, 2) := by decide +kernel
theorem dX4_power_90 : decode cX4_power 90 = .ok (.iaload, 1) := by decide +kernel
theorem dX4_power_91 : decode cX4_power 91 = .ok (.invokevirtual 156, 3) := by decide +kernel
theorem dX4_power_94 : decode cX4_power 94 = .ok (.dsub, 1) := by decide +kernel
theorem dX4_power_95 : decode cX4_power 95 = .ok (.dstore 5, 2) := by decide +kernel
theorem dX4_power_97 : decode cX4_power 97 = .ok (.dload_n 2, 1) := by decide +kernel
theorem dX4_power_98 : decode cX4_power 98 = .ok (.aload_n 0, 1) := by decide +kernel
theorem dX4_power_99 : decode cX4_power 99 = .ok (.getfield 26, 3) := by decide +kernel
theorem dX4_power_102 : decode cX4_power 102 = .ok (.iload 4, 2) := by decide +kernel
theorem dX4_power_104 : decode cX4_power 104 = .ok (.iaload, 1) := by decide +kernel
theorem dX4_power_105 : decode cX4_power 105 = .ok (.i2d, 1) := by decide +kernel
theorem dX4_power_106 : decode cX4_power 106 = .ok (.dload 5, 2) := by decide +kernel
theorem dX4_power_108 : decode cX4_power 108 = .ok (.dmul, 1) := by decide +kernel
theorem dX4_power_109 : decode cX4_power 109 = .ok (.dload 5, 2) := by decide +kernel
theorem dX4_power_111 : decode cX4_power 111 = .ok (.dmul, 1) := by decide +kernel
theorem dX4_power_112 : decode cX4_power 112 = .ok (.dadd, 1) := by decide +kernel
theorem dX4_power_113 : decode cX4_power 113 = .ok (.dstore_n 2, 1) := by decide +kernel
theorem dX4_power_114 : decode cX4_power 114 = .ok (.iinc 4 1, 3) := by decide +kernel
theorem dX4_power_117 : decode cX4_power 117 = .ok (.goto (-82), 3) := by decide +kernel
theorem dX4_power_120 : decode cX4_power 120 = .ok (.dload_n 2, 1) := by decide +kernel
theorem dX4_power_121 : decode cX4_power 121 = .ok (.dreturn, 1) := by decide +kernel
theorem dX4_toggleBehind_0 : decode cX4_toggleBehind 0 = .ok (.iconst (-1), 1) := by decide +kernel
theorem dX4_toggleBehind_1 : decode cX4_toggleBehind 1 = .ok (.istore_n 2, 1) := by decide +kernel
theorem dX4_toggleBehind_2 : decode cX4_toggleBehind 2 = .ok (.iconst 0, 1) := by decide +kernel
theorem dX4_toggleBehind_3 : decode cX4_toggleBehind 3 = .ok (.istore_n 3, 1) := by decide +kernel
theorem dX4_toggleBehind_4 : decode cX4_toggleBehind 4 = .ok (.iload_n 3, 1) := by decide +kernel
theorem dX4_toggleBehind_5 : decode cX4_toggleBehind 5 = .ok (.aload_n 0, 1) := by decide +kernel
theorem dX4_toggleBehind_6 : decode cX4_toggleBehind 6 = .ok (.getfield 68, 3) := by decide +kernel
theorem dX4_toggleBehind_9 : decode cX4_toggleBehind 9 = .ok (.if_icmp .ge 63, 3) := by decide +kernel
theorem dX4_toggleBehind_12 : decode cX4_toggleBehind 12 = .ok (.iconst 0, 1) := by decide +kernel
theorem dX4_toggleBehind_13 : decode cX4_toggleBehind 13 = .ok (.istore 4, 2) := by decide +kernel
theorem dX4_toggleBehind_15 : decode cX4_toggleBehind 15 = .ok (.iload 4, 2) := by decide +kernel
theorem dX4_toggleBehind_17 : decode cX4_toggleBehind 17 = .ok (.aload_n 0, 1) := by decide +kernel
theorem dX4_toggleBehind_18 : decode cX4_toggleBehind 18 = .ok (.getfield 32, 3) := by decide +kernel
theorem dX4_toggleBehind_21 : decode cX4_toggleBehind 21 = .ok (.iload_n 3, 1) := by decide +kernel
theorem dX4_toggleBehind_22 : decode cX4_toggleBehind 22 = .ok (.iaload, 1) := by decide +kernel
theorem dX4_toggleBehind_23 : decode cX4_toggleBehind 23 = .ok (.if_icmp .ge 43, 3) := by decide +kernel
theorem dX4_toggleBehind_26 : decode cX4_toggleBehind 26 = .ok (.aload_n 0, 1) := by decide +kernel
theorem dX4_toggleBehind_27 : decode cX4_toggleBehind 27 = .ok (.getfield 35, 3) := by decide +kernel
theorem dX4_toggleBehind_30 : decode cX4_toggleBehind 30 = .ok (.bipush 6, 2) := by decide +kernel
theorem dX4_toggleBehind_32 : decode cX4_toggleBehind 32 = .ok (.iload_n 3, 1) := by decide +kernel
theorem dX4_toggleBehind_33 : decode cX4_toggleBehind 33 = .ok (.imul, 1) := by decide +kernel
theorem dX4_toggleBehind_34 : decode cX4_toggleBehind 34 = .ok (.iload 4, 2) := by decide +kernel
theorem dX4_toggleBehind_36 : decode cX4_toggleBehind 36 = .ok (.iadd, 1) := by decide +kernel
theorem dX4_toggleBehind_37 : decode cX4_toggleBehind 37 = .ok (.iaload, 1) := by decide +kernel
theorem dX4_toggleBehind_38 : decode cX4_toggleBehind 38 = .ok (.istore 5, 2) := by decide +kernel
theorem dX4_toggleBehind_40 : decode cX4_toggleBehind 40 = .ok (.iload 5, 2) := by decide +kernel
theorem dX4_toggleBehind_42 : decode cX4_toggleBehind 42 = .ok (.iload_n 1, 1) := by decide +kernel
theorem dX4_toggleBehind_43 : decode cX4_toggleBehind 43 = .ok (.if_icmp .le 17, 3) := by decide +kernel
theorem dX4_toggleBehind_46 : decode cX4_toggleBehind 46 = .ok (.iload_n 2, 1) := by decide +kernel
theorem dX4_toggleBehind_47 : decode cX4_toggleBehind 47 = .ok (.iconst (-1), 1) := by decide +kernel
theorem dX4_toggleBehind_48 : decode cX4_toggleBehind 48 = .ok (.if_icmp .eq 9, 3) := by decide +kernel
theorem dX4_toggleBehind_51 : decode cX4_toggleBehind 51 = .ok (.iload 5, 2) := by decide +kernel
theorem dX4_toggleBehind_53 : decode cX4_toggleBehind 53 = .ok (.iload_n 2, 1) := by decide +kernel
theorem dX4_toggleBehind_54 : decode cX4_toggleBehind 54 = .ok (.if_icmp .ge 6, 3) := by decide +kernel
theorem dX4_toggleBehind_57 : decode cX4_toggleBehind 57 = .ok (.iload 5, 2) := by decide +kernel
theorem dX4_toggleBehind_59 : decode cX4_toggleBehind 59 = .ok (.istore_n 2, 1) := by decide +kernel
theorem dX4_toggleBehind_60 : decode cX4_toggleBehind 60 = .ok (.iinc 4 1, 3) := by decide +kernel
theorem dX4_toggleBehind_63 : decode cX4_toggleBehind 63 = .ok (.goto (-48), 3) := by decide +kernel
theorem dX4_toggleBehind_66 : decode cX4_toggleBehind 66 = .ok (.iinc 3 1, 3) := by decide +kernel
theorem dX4_toggleBehind_69 : decode cX4_toggleBehind 69 = .ok (.goto (-65), 3) := by decide +kernel
theorem dX4_toggleBehind_72 : decode cX4_toggleBehind 72 = .ok (.iload_n 2, 1) := by decide +kernel
theorem dX4_toggleBehind_73 : decode cX4_toggleBehind 73 = .ok (.ireturn, 1) := by decide +kernel
theorem dX4_nextToggle_0 : decode cX4_nextToggle 0 = .ok (.aload_n 0, 1) := by decide +kernel
theorem dX4_nextToggle_1 : decode cX4_nextToggle 1 = .ok (.iconst 0, 1) := by decide +kernel
theorem dX4_nextToggle_2 : decode cX4_nextToggle 2 = .ok (.putfield 57, 3) := by decide +kernel
theorem dX4_nextToggle_5 : decode cX4_nextToggle 5 = .ok (.iload_n 1, 1) := by decide +kernel
theorem dX4_nextToggle_6 : decode cX4_nextToggle 6 = .ok (.invokestatic 103, 3) := by decide +kernel
theorem dX4_nextToggle_9 : decode cX4_nextToggle 9 = .ok (.ifCond .eq 11, 3) := by decide +kernel
theorem dX4_nextToggle_12 : decode cX4_nextToggle 12 = .ok (.aload_n 0, 1) := by decide +kernel
theorem dX4_nextToggle_13 : decode cX4_nextToggle 13 = .ok (.iload_n 1, 1) := by decide +kernel
theorem dX4_nextToggle_14 : decode cX4_nextToggle 14 = .ok (.invokevirtual 160, 3) := by decide +kernel
theorem dX4_nextToggle_17 : decode cX4_nextToggle 17 = .ok (.goto 8, 3) := by decide +kernel
theorem dX4_nextToggle_20 : decode cX4_nextToggle 20 = .ok (.aload_n 0, 1) := by decide +kernel
theorem dX4_nextToggle_21 : decode cX4_nextToggle 21 = .ok (.iconst 1, 1) := by decide +kernel
theorem dX4_nextToggle_22 : decode cX4_nextToggle 22 = .ok (.invokevirtual 71, 3) := by decide +kernel
theorem dX4_nextToggle_25 : decode cX4_nextToggle 25 = .ok (.ireturn, 1) := by decide +kernel
theorem dX4_compared_0 : decode cX4_compared 0 = .ok (.lload_n 0, 1) := by decide +kernel
theorem dX4_compared_1 : decode cX4_compared 1 = .ok (.lload_n 2, 1) := by decide +kernel
theorem dX4_compared_2 : decode cX4_compared 2 = .ok (.invokestatic 163, 3) := by decide +kernel
theorem dX4_compared_5 : decode cX4_compared 5 = .ok (.lstore 8, 2) := by decide +kernel
theorem dX4_compared_7 : decode cX4_compared 7 = .ok (.lload 4, 2) := by decide +kernel
theorem dX4_compared_9 : decode cX4_compared 9 = .ok (.lload 6, 2) := by decide +kernel
theorem dX4_compared_11 : decode cX4_compared 11 = .ok (.invokestatic 163, 3) := by decide +kernel
theorem dX4_compared_14 : decode cX4_compared 14 = .ok (.lstore 10, 2) := by decide +kernel
theorem dX4_compared_16 : decode cX4_compared 16 = .ok (.lload 8, 2) := by decide +kernel
theorem dX4_compared_18 : decode cX4_compared 18 = .ok (.lload 10, 2) := by decide +kernel
theorem dX4_compared_20 : decode cX4_compared 20 = .ok (.lcmp, 1) := by decide +kernel
theorem dX4_compared_21 : decode cX4_compared 21 = .ok (.ifCond .eq 17, 3) := by decide +kernel
theorem dX4_compared_24 : decode cX4_compared 24 = .ok (.lload 8, 2) := by decide +kernel
theorem dX4_compared_26 : decode cX4_compared 26 = .ok (.lload 10, 2) := by decide +kernel
theorem dX4_compared_28 : decode cX4_compared 28 = .ok (.lcmp, 1) := by decide +kernel
theorem dX4_compared_29 : decode cX4_compared 29 = .ok (.ifCond .ge 7, 3) := by decide +kernel
theorem dX4_compared_32 : decode cX4_compared 32 = .ok (.iconst (-1), 1) := by decide +kernel
theorem dX4_compared_33 : decode cX4_compared 33 = .ok (.goto 4, 3) := by decide +kernel
theorem dX4_compared_36 : decode cX4_compared 36 = .ok (.iconst 1, 1) := by decide +kernel
theorem dX4_compared_37 : decode cX4_compared 37 = .ok (.ireturn, 1) := by decide +kernel
theorem dX4_compared_38 : decode cX4_compared 38 = .ok (.lload_n 0, 1) := by decide +kernel
theorem dX4_compared_39 : decode cX4_compared 39 = .ok (.lload 8, 2) := by decide +kernel
theorem dX4_compared_41 : decode cX4_compared 41 = .ok (.lload_n 2, 1) := by decide +kernel
theorem dX4_compared_42 : decode cX4_compared 42 = .ok (.lmul, 1) := by decide +kernel
theorem dX4_compared_43 : decode cX4_compared 43 = .ok (.lsub, 1) := by decide +kernel
theorem dX4_compared_44 : decode cX4_compared 44 = .ok (.lstore 12, 2) := by decide +kernel
theorem dX4_compared_46 : decode cX4_compared 46 = .ok (.lload 4, 2) := by decide +kernel
theorem dX4_compared_48 : decode cX4_compared 48 = .ok (.lload 10, 2) := by decide +kernel
theorem dX4_compared_50 : decode cX4_compared 50 = .ok (.lload 6, 2) := by decide +kernel
theorem dX4_compared_52 : decode cX4_compared 52 = .ok (.lmul, 1) := by decide +kernel
theorem dX4_compared_53 : decode cX4_compared 53 = .ok (.lsub, 1) := by decide +kernel
theorem dX4_compared_54 : decode cX4_compared 54 = .ok (.lstore 14, 2) := by decide +kernel
theorem dX4_compared_56 : decode cX4_compared 56 = .ok (.lload 12, 2) := by decide +kernel
theorem dX4_compared_58 : decode cX4_compared 58 = .ok (.lconst 0, 1) := by decide +kernel
theorem dX4_compared_59 : decode cX4_compared 59 = .ok (.lcmp, 1) := by decide +kernel
theorem dX4_compared_60 : decode cX4_compared 60 = .ok (.ifCond .eq 10, 3) := by decide +kernel
theorem dX4_compared_63 : decode cX4_compared 63 = .ok (.lload 14, 2) := by decide +kernel
theorem dX4_compared_65 : decode cX4_compared 65 = .ok (.lconst 0, 1) := by decide +kernel
theorem dX4_compared_66 : decode cX4_compared 66 = .ok (.lcmp, 1) := by decide +kernel
theorem dX4_compared_67 : decode cX4_compared 67 = .ok (.ifCond .ne 28, 3) := by decide +kernel
theorem dX4_compared_70 : decode cX4_compared 70 = .ok (.lload 12, 2) := by decide +kernel
theorem dX4_compared_72 : decode cX4_compared 72 = .ok (.lload 14, 2) := by decide +kernel
theorem dX4_compared_74 : decode cX4_compared 74 = .ok (.lcmp, 1) := by decide +kernel
theorem dX4_compared_75 : decode cX4_compared 75 = .ok (.ifCond .ne 7, 3) := by decide +kernel
theorem dX4_compared_78 : decode cX4_compared 78 = .ok (.iconst 0, 1) := by decide +kernel
theorem dX4_compared_79 : decode cX4_compared 79 = .ok (.goto 15, 3) := by decide +kernel
theorem dX4_compared_82 : decode cX4_compared 82 = .ok (.lload 12, 2) := by decide +kernel
theorem dX4_compared_84 : decode cX4_compared 84 = .ok (.lconst 0, 1) := by decide +kernel
theorem dX4_compared_85 : decode cX4_compared 85 = .ok (.lcmp, 1) := by decide +kernel
theorem dX4_compared_86 : decode cX4_compared 86 = .ok (.ifCond .ne 7, 3) := by decide +kernel
theorem dX4_compared_89 : decode cX4_compared 89 = .ok (.iconst (-1), 1) := by decide +kernel
theorem dX4_compared_90 : decode cX4_compared 90 = .ok (.goto 4, 3) := by decide +kernel
theorem dX4_compared_93 : decode cX4_compared 93 = .ok (.iconst 1, 1) := by decide +kernel
theorem dX4_compared_94 : decode cX4_compared 94 = .ok (.ireturn, 1) := by decide +kernel
theorem dX4_compared_95 : decode cX4_compared 95 = .ok (.lload 6, 2) := by decide +kernel
theorem dX4_compared_97 : decode cX4_compared 97 = .ok (.lload 14, 2) := by decide +kernel
theorem dX4_compared_99 : decode cX4_compared 99 = .ok (.lload_n 2, 1) := by decide +kernel
theorem dX4_compared_100 : decode cX4_compared 100 = .ok (.lload 12, 2) := by decide +kernel
theorem dX4_compared_102 : decode cX4_compared 102 = .ok (.invokestatic 166, 3) := by decide +kernel
theorem dX4_compared_105 : decode cX4_compared 105 = .ok (.ireturn, 1) := by decide +kernel
theorem dX4_probe_0 : decode cX4_probe 0 = .ok (.aload_n 0, 1) := by decide +kernel
theorem dX4_probe_1 : decode cX4_probe 1 = .ok (.iconst 0, 1) := by decide +kernel
theorem dX4_probe_2 : decode cX4_probe 2 = .ok (.putfield 57, 3) := by decide +kernel
theorem dX4_probe_5 : decode cX4_probe 5 = .ok (.aload_n 0, 1) := by decide +kernel
theorem dX4_probe_6 : decode cX4_probe 6 = .ok (.iload_n 1, 1) := by decide +kernel
theorem dX4_probe_7 : decode cX4_probe 7 = .ok (.invokevirtual 75, 3) := by decide +kernel
theorem dX4_probe_10 : decode cX4_probe 10 = .ok (.ifCond .ne 9, 3) := by decide +kernel
theorem dX4_probe_13 : decode cX4_probe 13 = .ok (.aload_n 0, 1) := by decide +kernel
theorem dX4_probe_14 : decode cX4_probe 14 = .ok (.iconst 1, 1) := by decide +kernel
theorem dX4_probe_15 : decode cX4_probe 15 = .ok (.invokevirtual 71, 3) := by decide +kernel
theorem dX4_probe_18 : decode cX4_probe 18 = .ok (.ireturn, 1) := by decide +kernel
theorem dX4_probe_19 : decode cX4_probe 19 = .ok (.iload_n 2, 1) := by decide +kernel
theorem dX4_probe_20 : decode cX4_probe 20 = .ok (.invokestatic 103, 3) := by decide +kernel
theorem dX4_probe_23 : decode cX4_probe 23 = .ok (.ifCond .eq 15, 3) := by decide +kernel
theorem dX4_probe_26 : decode cX4_probe 26 = .ok (.iload_n 3, 1) := by decide +kernel
theorem dX4_probe_27 : decode cX4_probe 27 = .ok (.invokestatic 103, 3) := by decide +kernel
theorem dX4_probe_30 : decode cX4_probe 30 = .ok (.ifCond .eq 8, 3) := by decide +kernel
theorem dX4_probe_33 : decode cX4_probe 33 = .ok (.iload_n 3, 1) := by decide +kernel
theorem dX4_probe_34 : decode cX4_probe 34 = .ok (.iload_n 2, 1) := by decide +kernel
theorem dX4_probe_35 : decode cX4_probe 35 = .ok (.if_icmp .ge 9, 3) := by decide +kernel
theorem dX4_probe_38 : decode cX4_probe 38 = .ok (.aload_n 0, 1) := by decide +kernel
theorem dX4_probe_39 : decode cX4_probe 39 = .ok (.iconst 2, 1) := by decide +kernel
theorem dX4_probe_40 : decode cX4_probe 40 = .ok (.invokevirtual 71, 3) := by decide +kernel
theorem dX4_probe_43 : decode cX4_probe 43 = .ok (.ireturn, 1) := by decide +kernel
theorem dX4_probe_44 : decode cX4_probe 44 = .ok (.iconst (-1), 1) := by decide +kernel
theorem dX4_probe_45 : decode cX4_probe 45 = .ok (.istore 5, 2) := by decide +kernel
theorem dX4_probe_47 : decode cX4_probe 47 = .ok (.lconst 0, 1) := by decide +kernel
theorem dX4_probe_48 : decode cX4_probe 48 = .ok (.lstore 6, 2) := by decide +kernel
theorem dX4_probe_50 : decode cX4_probe 50 = .ok (.lconst 1, 1) := by decide +kernel
theorem dX4_probe_51 : decode cX4_probe 51 = .ok (.lstore 8, 2) := by decide +kernel
theorem dX4_probe_53 : decode cX4_probe 53 = .ok (.iload_n 2, 1) := by decide +kernel
theorem dX4_probe_54 : decode cX4_probe 54 = .ok (.istore 10, 2) := by decide +kernel
theorem dX4_probe_56 : decode cX4_probe 56 = .ok (.iload 10, 2) := by decide +kernel
theorem dX4_probe_58 : decode cX4_probe 58 = .ok (.iconst (-1), 1) := by decide +kernel
theorem dX4_probe_59 : decode cX4_probe 59 = .ok (.if_icmp .eq 113, 3) := by decide +kernel
theorem dX4_probe_62 : decode cX4_probe 62 = .ok (.iload 10, 2) := by decide +kernel
theorem dX4_probe_64 : decode cX4_probe 64 = .ok (.iload_n 3, 1) := by decide +kernel
theorem dX4_probe_65 : decode cX4_probe 65 = .ok (.if_icmp .gt 107, 3) := by decide +kernel
theorem dX4_probe_68 : decode cX4_probe 68 = .ok (.aload_n 0, 1) := by decide +kernel
theorem dX4_probe_69 : decode cX4_probe 69 = .ok (.iload_n 1, 1) := by decide +kernel
theorem dX4_probe_70 : decode cX4_probe 70 = .ok (.iload 10, 2) := by decide +kernel
theorem dX4_probe_72 : decode cX4_probe 72 = .ok (.invokevirtual 112, 3) := by decide +kernel
theorem dX4_probe_75 : decode cX4_probe 75 = .ok (.ifCond .eq 6, 3) := by decide +kernel
theorem dX4_probe_78 : decode cX4_probe 78 = .ok (.goto 83, 3) := by decide +kernel
theorem dX4_probe_81 : decode cX4_probe 81 = .ok (.aload_n 0, 1) := by decide +kernel
theorem dX4_probe_82 : decode cX4_probe 82 = .ok (.iload 10, 2) := by decide +kernel
theorem dX4_probe_84 : decode cX4_probe 84 = .ok (.invokevirtual 148, 3) := by decide +kernel
theorem dX4_probe_87 : decode cX4_probe 87 = .ok (.iload 5, 2) := by decide +kernel
theorem dX4_probe_89 : decode cX4_probe 89 = .ok (.iconst (-1), 1) := by decide +kernel
theorem dX4_probe_90 : decode cX4_probe 90 = .ok (.if_icmp .ne 7, 3) := by decide +kernel
theorem dX4_probe_93 : decode cX4_probe 93 = .ok (.iconst 1, 1) := by decide +kernel
theorem dX4_probe_94 : decode cX4_probe 94 = .ok (.goto 20, 3) := by decide +kernel
theorem dX4_probe_97 : decode cX4_probe 97 = .ok (.aload_n 0, 1) := by decide +kernel
theorem dX4_probe_98 : decode cX4_probe 98 = .ok (.getfield 51, 3) := by decide +kernel
theorem dX4_probe_101 : decode cX4_probe 101 = .ok (.iload_n 1, 1) := by decide +kernel
theorem dX4_probe_102 : decode cX4_probe 102 = .ok (.laload, 1) := by decide +kernel
theorem dX4_probe_103 : decode cX4_probe 103 = .ok (.aload_n 0, 1) := by decide +kernel
theorem dX4_probe_104 : decode cX4_probe 104 = .ok (.getfield 134, 3) := by decide +kernel
theorem dX4_probe_107 : decode cX4_probe 107 = .ok (.lload 6, 2) := by decide +kernel
theorem dX4_probe_109 : decode cX4_probe 109 = .ok (.lload 8, 2) := by decide +kernel
theorem dX4_probe_111 : decode cX4_probe 111 = .ok (.invokestatic 166, 3) := by decide +kernel
theorem dX4_probe_114 : decode cX4_probe 114 = .ok (.istore 11, 2) := by decide +kernel
theorem dX4_probe_116 : decode cX4_probe 116 = .ok (.iload 5, 2) := by decide +kernel
theorem dX4_probe_118 : decode cX4_probe 118 = .ok (.iconst (-1), 1) := by decide +kernel
theorem dX4_probe_119 : decode cX4_probe 119 = .ok (.if_icmp .eq 24, 3) := by decide +kernel
theorem dX4_probe_122 : decode cX4_probe 122 = .ok (.iload 4, 2) := by decide +kernel
theorem dX4_probe_124 : decode cX4_probe 124 = .ok (.ifCond .eq 11, 3) := by decide +kernel
theorem dX4_probe_127 : decode cX4_probe 127 = .ok (.iload 11, 2) := by decide +kernel
theorem dX4_probe_129 : decode cX4_probe 129 = .ok (.ifCond .gt 14, 3) := by decide +kernel
theorem dX4_probe_132 : decode cX4_probe 132 = .ok (.goto 29, 3) := by decide +kernel
theorem dX4_probe_135 : decode cX4_probe 135 = .ok (.iload 11, 2) := by decide +kernel
theorem dX4_probe_137 : decode cX4_probe 137 = .ok (.ifCond .lt 6, 3) := by decide +kernel
theorem dX4_probe_140 : decode cX4_probe 140 = .ok (.goto 21, 3) := by decide +kernel
theorem dX4_probe_143 : decode cX4_probe 143 = .ok (.iload 10, 2) := by decide +kernel
theorem dX4_probe_145 : decode cX4_probe 145 = .ok (.istore 5, 2) := by decide +kernel
theorem dX4_probe_147 : decode cX4_probe 147 = .ok (.aload_n 0, 1) := by decide +kernel
theorem dX4_probe_148 : decode cX4_probe 148 = .ok (.getfield 51, 3) := by decide +kernel
theorem dX4_probe_151 : decode cX4_probe 151 = .ok (.iload_n 1, 1) := by decide +kernel
theorem dX4_probe_152 : decode cX4_probe 152 = .ok (.laload, 1) := by decide +kernel
theorem dX4_probe_153 : decode cX4_probe 153 = .ok (.lstore 6, 2) := by decide +kernel
theorem dX4_probe_155 : decode cX4_probe 155 = .ok (.aload_n 0, 1) := by decide +kernel
theorem dX4_probe_156 : decode cX4_probe 156 = .ok (.getfield 134, 3) := by decide +kernel
theorem dX4_probe_159 : decode cX4_probe 159 = .ok (.lstore 8, 2) := by decide +kernel
theorem dX4_probe_161 : decode cX4_probe 161 = .ok (.aload_n 0, 1) := by decide +kernel
theorem dX4_probe_162 : decode cX4_probe 162 = .ok (.iload 10, 2) := by decide +kernel
theorem dX4_probe_164 : decode cX4_probe 164 = .ok (.invokevirtual 160, 3) := by decide +kernel
theorem dX4_probe_167 : decode cX4_probe 167 = .ok (.istore 10, 2) := by decide +kernel
theorem dX4_probe_169 : decode cX4_probe 169 = .ok (.goto (-113), 3) := by decide +kernel
theorem dX4_probe_172 : decode cX4_probe 172 = .ok (.iload 5, 2) := by decide +kernel
theorem dX4_probe_174 : decode cX4_probe 174 = .ok (.ireturn, 1) := by decide +kernel
theorem dX4_compare_0 : decode cX4_compare 0 = .ok (.aload_n 0, 1) := by decide +kernel
theorem dX4_compare_1 : decode cX4_compare 1 = .ok (.iconst 0, 1) := by decide +kernel
theorem dX4_compare_2 : decode cX4_compare 2 = .ok (.putfield 57, 3) := by decide +kernel
theorem dX4_compare_5 : decode cX4_compare 5 = .ok (.aload_n 0, 1) := by decide +kernel
theorem dX4_compare_6 : decode cX4_compare 6 = .ok (.iload_n 1, 1) := by decide +kernel
theorem dX4_compare_7 : decode cX4_compare 7 = .ok (.invokevirtual 75, 3) := by decide +kernel
theorem dX4_compare_10 : decode cX4_compare 10 = .ok (.ifCond .ne 9, 3) := by decide +kernel
theorem dX4_compare_13 : decode cX4_compare 13 = .ok (.aload_n 0, 1) := by decide +kernel
theorem dX4_compare_14 : decode cX4_compare 14 = .ok (.iconst 1, 1) := by decide +kernel
theorem dX4_compare_15 : decode cX4_compare 15 = .ok (.invokevirtual 71, 3) := by decide +kernel
theorem dX4_compare_18 : decode cX4_compare 18 = .ok (.ireturn, 1) := by decide +kernel
theorem dX4_compare_19 : decode cX4_compare 19 = .ok (.iload_n 2, 1) := by decide +kernel
theorem dX4_compare_20 : decode cX4_compare 20 = .ok (.invokestatic 103, 3) := by decide +kernel
theorem dX4_compare_23 : decode cX4_compare 23 = .ok (.ifCond .eq 28, 3) := by decide +kernel
theorem dX4_compare_26 : decode cX4_compare 26 = .ok (.iload_n 3, 1) := by decide +kernel
theorem dX4_compare_27 : decode cX4_compare 27 = .ok (.sipush (-500), 3) := by decide +kernel
theorem dX4_compare_30 : decode cX4_compare 30 = .ok (.sipush 500, 3) := by decide +kernel
theorem dX4_compare_33 : decode cX4_compare 33 = .ok (.invokestatic 64, 3) := by decide +kernel
theorem dX4_compare_36 : decode cX4_compare 36 = .ok (.ifCond .eq 15, 3) := by decide +kernel
theorem dX4_compare_39 : decode cX4_compare 39 = .ok (.iload 4, 2) := by decide +kernel
theorem dX4_compare_41 : decode cX4_compare 41 = .ok (.iconst 1, 1) := by decide +kernel
theorem dX4_compare_42 : decode cX4_compare 42 = .ok (.sipush 500, 3) := by decide +kernel
theorem dX4_compare_45 : decode cX4_compare 45 = .ok (.invokestatic 64, 3) := by decide +kernel
theorem dX4_compare_48 : decode cX4_compare 48 = .ok (.ifCond .ne 9, 3) := by decide +kernel
theorem dX4_compare_51 : decode cX4_compare 51 = .ok (.aload_n 0, 1) := by decide +kernel
theorem dX4_compare_52 : decode cX4_compare 52 = .ok (.iconst 2, 1) := by decide +kernel
theorem dX4_compare_53 : decode cX4_compare 53 = .ok (.invokevirtual 71, 3) := by decide +kernel
theorem dX4_compare_56 : decode cX4_compare 56 = .ok (.ireturn, 1) := by decide +kernel
theorem dX4_compare_57 : decode cX4_compare 57 = .ok (.aload_n 0, 1) := by decide +kernel
theorem dX4_compare_58 : decode cX4_compare 58 = .ok (.iload_n 1, 1) := by decide +kernel
theorem dX4_compare_59 : decode cX4_compare 59 = .ok (.iload_n 2, 1) := by decide +kernel
theorem dX4_compare_60 : decode cX4_compare 60 = .ok (.invokevirtual 112, 3) := by decide +kernel
theorem dX4_compare_63 : decode cX4_compare 63 = .ok (.ifCond .eq 9, 3) := by decide +kernel
theorem dX4_compare_66 : decode cX4_compare 66 = .ok (.aload_n 0, 1) := by decide +kernel
theorem dX4_compare_67 : decode cX4_compare 67 = .ok (.iconst 3, 1) := by decide +kernel
theorem dX4_compare_68 : decode cX4_compare 68 = .ok (.invokevirtual 71, 3) := by decide +kernel
theorem dX4_compare_71 : decode cX4_compare 71 = .ok (.ireturn, 1) := by decide +kernel
theorem dX4_compare_72 : decode cX4_compare 72 = .ok (.aload_n 0, 1) := by decide +kernel
theorem dX4_compare_73 : decode cX4_compare 73 = .ok (.iload_n 2, 1) := by decide +kernel
theorem dX4_compare_74 : decode cX4_compare 74 = .ok (.invokevirtual 148, 3) := by decide +kernel
theorem dX4_compare_77 : decode cX4_compare 77 = .ok (.aload_n 0, 1) := by decide +kernel
theorem dX4_compare_78 : decode cX4_compare 78 = .ok (.getfield 51, 3) := by decide +kernel
theorem dX4_compare_81 : decode cX4_compare 81 = .ok (.iload_n 1, 1) := by decide +kernel
theorem dX4_compare_82 : decode cX4_compare 82 = .ok (.laload, 1) := by decide +kernel
theorem dX4_compare_83 : decode cX4_compare 83 = .ok (.aload_n 0, 1) := by decide +kernel
theorem dX4_compare_84 : decode cX4_compare 84 = .ok (.getfield 134, 3) := by decide +kernel
theorem dX4_compare_87 : decode cX4_compare 87 = .ok (.iload_n 3, 1) := by decide +kernel
theorem dX4_compare_88 : decode cX4_compare 88 = .ok (.i2l, 1) := by decide +kernel
theorem dX4_compare_89 : decode cX4_compare 89 = .ok (.iload 4, 2) := by decide +kernel
theorem dX4_compare_91 : decode cX4_compare 91 = .ok (.i2l, 1) := by decide +kernel
theorem dX4_compare_92 : decode cX4_compare 92 = .ok (.invokestatic 166, 3) := by decide +kernel
theorem dX4_compare_95 : decode cX4_compare 95 = .ok (.ireturn, 1) := by decide +kernel
theorem dX4_levels_0 : decode cX4_levels 0 = .ok (.aload_n 0, 1) := by decide +kernel
theorem dX4_levels_1 : decode cX4_levels 1 = .ok (.iconst 0, 1) := by decide +kernel
theorem dX4_levels_2 : decode cX4_levels 2 = .ok (.putfield 57, 3) := by decide +kernel
theorem dX4_levels_5 : decode cX4_levels 5 = .ok (.iload_n 1, 1) := by decide +kernel
theorem dX4_levels_6 : decode cX4_levels 6 = .ok (.invokestatic 103, 3) := by decide +kernel
theorem dX4_levels_9 : decode cX4_levels 9 = .ok (.ifCond .ne 9, 3) := by decide +kernel
theorem dX4_levels_12 : decode cX4_levels 12 = .ok (.aload_n 0, 1) := by decide +kernel
theorem dX4_levels_13 : decode cX4_levels 13 = .ok (.iconst 1, 1) := by decide +kernel
theorem dX4_levels_14 : decode cX4_levels 14 = .ok (.invokevirtual 71, 3) := by decide +kernel
theorem dX4_levels_17 : decode cX4_levels 17 = .ok (.ireturn, 1) := by decide +kernel
theorem dX4_levels_18 : decode cX4_levels 18 = .ok (.aload_n 0, 1) := by decide +kernel
theorem dX4_levels_19 : decode cX4_levels 19 = .ok (.iload_n 1, 1) := by decide +kernel
theorem dX4_levels_20 : decode cX4_levels 20 = .ok (.invokevirtual 148, 3) := by decide +kernel
theorem dX4_levels_23 : decode cX4_levels 23 = .ok (.iconst 0, 1) := by decide +kernel
theorem dX4_levels_24 : decode cX4_levels 24 = .ok (.istore_n 2, 1) := by decide +kernel
theorem dX4_levels_25 : decode cX4_levels 25 = .ok (.iconst 0, 1) := by decide +kernel
theorem dX4_levels_26 : decode cX4_levels 26 = .ok (.istore_n 3, 1) := by decide +kernel
theorem dX4_levels_27 : decode cX4_levels 27 = .ok (.iload_n 3, 1) := by decide +kernel
theorem dX4_levels_28 : decode cX4_levels 28 = .ok (.aload_n 0, 1) := by decide +kernel
theorem dX4_levels_29 : decode cX4_levels 29 = .ok (.getfield 61, 3) := by decide +kernel
theorem dX4_levels_32 : decode cX4_levels 32 = .ok (.if_icmp .ge 92, 3) := by decide +kernel
theorem dX4_levels_35 : decode cX4_levels 35 = .ok (.aload_n 0, 1) := by decide +kernel
theorem dX4_levels_36 : decode cX4_levels 36 = .ok (.getfield 54, 3) := by decide +kernel
theorem dX4_levels_39 : decode cX4_levels 39 = .ok (.iload_n 3, 1) := by decide +kernel
theorem dX4_levels_40 : decode cX4_levels 40 = .ok (.baload, 1) := by decide +kernel
theorem dX4_levels_41 : decode cX4_levels 41 = .ok (.ifCond .ne 7, 3) := by decide +kernel
theorem dX4_levels_44 : decode cX4_levels 44 = .ok (.iconst 1, 1) := by decide +kernel
theorem dX4_levels_45 : decode cX4_levels 45 = .ok (.goto 4, 3) := by decide +kernel
theorem dX4_levels_48 : decode cX4_levels 48 = .ok (.iconst 0, 1) := by decide +kernel
theorem dX4_levels_49 : decode cX4_levels 49 = .ok (.istore 4, 2) := by decide +kernel
theorem dX4_levels_51 : decode cX4_levels 51 = .ok (.iconst 0, 1) := by decide +kernel
theorem dX4_levels_52 : decode cX4_levels 52 = .ok (.istore 5, 2) := by decide +kernel
theorem dX4_levels_54 : decode cX4_levels 54 = .ok (.iload 5, 2) := by decide +kernel
theorem dX4_levels_56 : decode cX4_levels 56 = .ok (.iload_n 3, 1) := by decide +kernel
theorem dX4_levels_57 : decode cX4_levels 57 = .ok (.if_icmp .ge 48, 3) := by decide +kernel
theorem dX4_levels_60 : decode cX4_levels 60 = .ok (.iload 4, 2) := by decide +kernel
theorem dX4_levels_62 : decode cX4_levels 62 = .ok (.ifCond .eq 34, 3) := by decide +kernel
theorem dX4_levels_65 : decode cX4_levels 65 = .ok (.aload_n 0, 1) := by decide +kernel
theorem dX4_levels_66 : decode cX4_levels 66 = .ok (.getfield 54, 3) := by decide +kernel
theorem dX4_levels_69 : decode cX4_levels 69 = .ok (.iload 5, 2) := by decide +kernel
theorem dX4_levels_71 : decode cX4_levels 71 = .ok (.baload, 1) := by decide +kernel
theorem dX4_levels_72 : decode cX4_levels 72 = .ok (.ifCond .ne 20, 3) := by decide +kernel
theorem dX4_levels_75 : decode cX4_levels 75 = .ok (.aload_n 0, 1) := by decide +kernel
theorem dX4_levels_76 : decode cX4_levels 76 = .ok (.getfield 51, 3) := by decide +kernel
theorem dX4_levels_79 : decode cX4_levels 79 = .ok (.iload 5, 2) := by decide +kernel
theorem dX4_levels_81 : decode cX4_levels 81 = .ok (.laload, 1) := by decide +kernel
theorem dX4_levels_82 : decode cX4_levels 82 = .ok (.aload_n 0, 1) := by decide +kernel
theorem dX4_levels_83 : decode cX4_levels 83 = .ok (.getfield 51, 3) := by decide +kernel
theorem dX4_levels_86 : decode cX4_levels 86 = .ok (.iload_n 3, 1) := by decide +kernel
theorem dX4_levels_87 : decode cX4_levels 87 = .ok (.laload, 1) := by decide +kernel
theorem dX4_levels_88 : decode cX4_levels 88 = .ok (.lcmp, 1) := by decide +kernel
theorem dX4_levels_89 : decode cX4_levels 89 = .ok (.ifCond .eq 7, 3) := by decide +kernel
theorem dX4_levels_92 : decode cX4_levels 92 = .ok (.iconst 1, 1) := by decide +kernel
theorem dX4_levels_93 : decode cX4_levels 93 = .ok (.goto 4, 3) := by decide +kernel
theorem dX4_levels_96 : decode cX4_levels 96 = .ok (.iconst 0, 1) := by decide +kernel
theorem dX4_levels_97 : decode cX4_levels 97 = .ok (.istore 4, 2) := by decide +kernel
theorem dX4_levels_99 : decode cX4_levels 99 = .ok (.iinc 5 1, 3) := by decide +kernel
theorem dX4_levels_102 : decode cX4_levels 102 = .ok (.goto (-48), 3) := by decide +kernel
theorem dX4_levels_105 : decode cX4_levels 105 = .ok (.iload_n 2, 1) := by decide +kernel
theorem dX4_levels_106 : decode cX4_levels 106 = .ok (.iload 4, 2) := by decide +kernel
theorem dX4_levels_108 : decode cX4_levels 108 = .ok (.ifCond .eq 7, 3) := by decide +kernel
theorem dX4_levels_111 : decode cX4_levels 111 = .ok (.iconst 1, 1) := by decide +kernel
theorem dX4_levels_112 : decode cX4_levels 112 = .ok (.goto 4, 3) := by decide +kernel
theorem dX4_levels_115 : decode cX4_levels 115 = .ok (.iconst 0, 1) := by decide +kernel
theorem dX4_levels_116 : decode cX4_levels 116 = .ok (.iadd, 1) := by decide +kernel
theorem dX4_levels_117 : decode cX4_levels 117 = .ok (.istore_n 2, 1) := by decide +kernel
theorem dX4_levels_118 : decode cX4_levels 118 = .ok (.iinc 3 1, 3) := by decide +kernel
theorem dX4_levels_121 : decode cX4_levels 121 = .ok (.goto (-94), 3) := by decide +kernel
theorem dX4_levels_124 : decode cX4_levels 124 = .ok (.iload_n 2, 1) := by decide +kernel
theorem dX4_levels_125 : decode cX4_levels 125 = .ok (.ireturn, 1) := by decide +kernel
theorem dX4_into_0 : decode cX4_into 0 = .ok (.lload_n 1, 1) := by decide +kernel
theorem dX4_into_1 : decode cX4_into 1 = .ok (.lstore 4, 2) := by decide +kernel
theorem dX4_into_3 : decode cX4_into 3 = .ok (.aload_n 0, 1) := by decide +kernel
theorem dX4_into_4 : decode cX4_into 4 = .ok (.iload_n 3, 1) := by decide +kernel
theorem dX4_into_5 : decode cX4_into 5 = .ok (.invokevirtual 148, 3) := by decide +kernel
theorem dX4_into_8 : decode cX4_into 8 = .ok (.iconst 0, 1) := by decide +kernel
theorem dX4_into_9 : decode cX4_into 9 = .ok (.istore 6, 2) := by decide +kernel
theorem dX4_into_11 : decode cX4_into 11 = .ok (.iload 6, 2) := by decide +kernel
theorem dX4_into_13 : decode cX4_into 13 = .ok (.aload_n 0, 1) := by decide +kernel
theorem dX4_into_14 : decode cX4_into 14 = .ok (.getfield 61, 3) := by decide +kernel
theorem dX4_into_17 : decode cX4_into 17 = .ok (.if_icmp .ge 76, 3) := by decide +kernel
theorem dX4_into_20 : decode cX4_into 20 = .ok (.aload_n 0, 1) := by decide +kernel
theorem dX4_into_21 : decode cX4_into 21 = .ok (.getfield 54, 3) := by decide +kernel
theorem dX4_into_24 : decode cX4_into 24 = .ok (.iload 6, 2) := by decide +kernel
theorem dX4_into_26 : decode cX4_into 26 = .ok (.baload, 1) := by decide +kernel
theorem dX4_into_27 : decode cX4_into 27 = .ok (.ifCond .eq 16, 3) := by decide +kernel
theorem dX4_into_30 : decode cX4_into 30 = .ok (.lload 4, 2) := by decide +kernel
theorem dX4_into_32 : decode cX4_into 32 = .ok (.ldc2_w 170, 3) := by decide +kernel
theorem dX4_into_35 : decode cX4_into 35 = .ok (.lmul, 1) := by decide +kernel
theorem dX4_into_36 : decode cX4_into 36 = .ok (.ldc2_w 172, 3) := by decide +kernel
theorem dX4_into_39 : decode cX4_into 39 = .ok (.ladd, 1) := by decide +kernel
theorem dX4_into_40 : decode cX4_into 40 = .ok (.goto 45, 3) := by decide +kernel
theorem dX4_into_43 : decode cX4_into 43 = .ok (.lload 4, 2) := by decide +kernel
theorem dX4_into_45 : decode cX4_into 45 = .ok (.ldc2_w 170, 3) := by decide +kernel
theorem dX4_into_48 : decode cX4_into 48 = .ok (.lmul, 1) := by decide +kernel
theorem dX4_into_49 : decode cX4_into 49 = .ok (.aload_n 0, 1) := by decide +kernel
theorem dX4_into_50 : decode cX4_into 50 = .ok (.getfield 51, 3) := by decide +kernel
theorem dX4_into_53 : decode cX4_into 53 = .ok (.iload 6, 2) := by decide +kernel
theorem dX4_into_55 : decode cX4_into 55 = .ok (.laload, 1) := by decide +kernel
theorem dX4_into_56 : decode cX4_into 56 = .ok (.aload_n 0, 1) := by decide +kernel
theorem dX4_into_57 : decode cX4_into 57 = .ok (.getfield 134, 3) := by decide +kernel
theorem dX4_into_60 : decode cX4_into 60 = .ok (.iconst 1, 1) := by decide +kernel
theorem dX4_into_61 : decode cX4_into 61 = .ok (.invokestatic 152, 3) := by decide +kernel
theorem dX4_into_64 : decode cX4_into 64 = .ok (.ladd, 1) := by decide +kernel
theorem dX4_into_65 : decode cX4_into 65 = .ok (.ldc2_w 170, 3) := by decide +kernel
theorem dX4_into_68 : decode cX4_into 68 = .ok (.lmul, 1) := by decide +kernel
theorem dX4_into_69 : decode cX4_into 69 = .ok (.aload_n 0, 1) := by decide +kernel
theorem dX4_into_70 : decode cX4_into 70 = .ok (.getfield 51, 3) := by decide +kernel
theorem dX4_into_73 : decode cX4_into 73 = .ok (.iload 6, 2) := by decide +kernel
theorem dX4_into_75 : decode cX4_into 75 = .ok (.laload, 1) := by decide +kernel
theorem dX4_into_76 : decode cX4_into 76 = .ok (.aload_n 0, 1) := by decide +kernel
theorem dX4_into_77 : decode cX4_into 77 = .ok (.getfield 134, 3) := by decide +kernel
theorem dX4_into_80 : decode cX4_into 80 = .ok (.iconst 0, 1) := by decide +kernel
theorem dX4_into_81 : decode cX4_into 81 = .ok (.invokestatic 152, 3) := by decide +kernel
theorem dX4_into_84 : decode cX4_into 84 = .ok (.ladd, 1) := by decide +kernel
theorem dX4_into_85 : decode cX4_into 85 = .ok (.lstore 4, 2) := by decide +kernel
theorem dX4_into_87 : decode cX4_into 87 = .ok (.iinc 6 1, 3) := by decide +kernel
theorem dX4_into_90 : decode cX4_into 90 = .ok (.goto (-79), 3) := by decide +kernel
theorem dX4_into_93 : decode cX4_into 93 = .ok (.lload 4, 2) := by decide +kernel
theorem dX4_into_95 : decode cX4_into 95 = .ok (.lreturn, 1) := by decide +kernel
theorem dX4_digest_0 : decode cX4_digest 0 = .ok (.aload_n 0, 1) := by decide +kernel
theorem dX4_digest_1 : decode cX4_digest 1 = .ok (.iconst 0, 1) := by decide +kernel
theorem dX4_digest_2 : decode cX4_digest 2 = .ok (.putfield 57, 3) := by decide +kernel
theorem dX4_digest_5 : decode cX4_digest 5 = .ok (.ldc2_w 174, 3) := by decide +kernel
theorem dX4_digest_8 : decode cX4_digest 8 = .ok (.lstore_n 1, 1) := by decide +kernel
theorem dX4_digest_9 : decode cX4_digest 9 = .ok (.iconst 0, 1) := by decide +kernel
theorem dX4_digest_10 : decode cX4_digest 10 = .ok (.istore_n 3, 1) := by decide +kernel
theorem dX4_digest_11 : decode cX4_digest 11 = .ok (.iload_n 3, 1) := by decide +kernel
theorem dX4_digest_12 : decode cX4_digest 12 = .ok (.iconst 4, 1) := by decide +kernel
theorem dX4_digest_13 : decode cX4_digest 13 = .ok (.if_icmp .ge 22, 3) := by decide +kernel
theorem dX4_digest_16 : decode cX4_digest 16 = .ok (.lload_n 1, 1) := by decide +kernel
theorem dX4_digest_17 : decode cX4_digest 17 = .ok (.ldc2_w 170, 3) := by decide +kernel
theorem dX4_digest_20 : decode cX4_digest 20 = .ok (.lmul, 1) := by decide +kernel
theorem dX4_digest_21 : decode cX4_digest 21 = .ok (.aload_n 0, 1) := by decide +kernel
theorem dX4_digest_22 : decode cX4_digest 22 = .ok (.iload_n 3, 1) := by decide +kernel
theorem dX4_digest_23 : decode cX4_digest 23 = .ok (.invokevirtual 92, 3) := by decide +kernel
theorem dX4_digest_26 : decode cX4_digest 26 = .ok (.i2l, 1) := by decide +kernel
theorem dX4_digest_27 : decode cX4_digest 27 = .ok (.ladd, 1) := by decide +kernel
theorem dX4_digest_28 : decode cX4_digest 28 = .ok (.lstore_n 1, 1) := by decide +kernel
theorem dX4_digest_29 : decode cX4_digest 29 = .ok (.iinc 3 1, 3) := by decide +kernel
theorem dX4_digest_32 : decode cX4_digest 32 = .ok (.goto (-21), 3) := by decide +kernel
theorem dX4_digest_35 : decode cX4_digest 35 = .ok (.iconst 0, 1) := by decide +kernel
theorem dX4_digest_36 : decode cX4_digest 36 = .ok (.istore_n 3, 1) := by decide +kernel
theorem dX4_digest_37 : decode cX4_digest 37 = .ok (.iload_n 3, 1) := by decide +kernel
theorem dX4_digest_38 : decode cX4_digest 38 = .ok (.aload_n 0, 1) := by decide +kernel
theorem dX4_digest_39 : decode cX4_digest 39 = .ok (.getfield 61, 3) := by decide +kernel
theorem dX4_digest_42 : decode cX4_digest 42 = .ok (.if_icmp .ge 30, 3) := by decide +kernel
theorem dX4_digest_45 : decode cX4_digest 45 = .ok (.lload_n 1, 1) := by decide +kernel
theorem dX4_digest_46 : decode cX4_digest 46 = .ok (.ldc2_w 170, 3) := by decide +kernel
theorem dX4_digest_49 : decode cX4_digest 49 = .ok (.lmul, 1) := by decide +kernel
theorem dX4_digest_50 : decode cX4_digest 50 = .ok (.aload_n 0, 1) := by decide +kernel
theorem dX4_digest_51 : decode cX4_digest 51 = .ok (.getfield 9, 3) := by decide +kernel
theorem dX4_digest_54 : decode cX4_digest 54 = .ok (.iload_n 3, 1) := by decide +kernel
theorem dX4_digest_55 : decode cX4_digest 55 = .ok (.baload, 1) := by decide +kernel
theorem dX4_digest_56 : decode cX4_digest 56 = .ok (.ifCond .eq 7, 3) := by decide +kernel
theorem dX4_digest_59 : decode cX4_digest 59 = .ok (.lconst 1, 1) := by decide +kernel
theorem dX4_digest_60 : decode cX4_digest 60 = .ok (.goto 4, 3) := by decide +kernel
theorem dX4_digest_63 : decode cX4_digest 63 = .ok (.lconst 0, 1) := by decide +kernel
theorem dX4_digest_64 : decode cX4_digest 64 = .ok (.ladd, 1) := by decide +kernel
theorem dX4_digest_65 : decode cX4_digest 65 = .ok (.lstore_n 1, 1) := by decide +kernel
theorem dX4_digest_66 : decode cX4_digest 66 = .ok (.iinc 3 1, 3) := by decide +kernel
theorem dX4_digest_69 : decode cX4_digest 69 = .ok (.goto (-32), 3) := by decide +kernel
theorem dX4_digest_72 : decode cX4_digest 72 = .ok (.iconst 0, 1) := by decide +kernel
theorem dX4_digest_73 : decode cX4_digest 73 = .ok (.istore_n 3, 1) := by decide +kernel
theorem dX4_digest_74 : decode cX4_digest 74 = .ok (.iload_n 3, 1) := by decide +kernel
theorem dX4_digest_75 : decode cX4_digest 75 = .ok (.aload_n 0, 1) := by decide +kernel
theorem dX4_digest_76 : decode cX4_digest 76 = .ok (.getfield 68, 3) := by decide +kernel
theorem dX4_digest_79 : decode cX4_digest 79 = .ok (.if_icmp .ge 80, 3) := by decide +kernel
theorem dX4_digest_82 : decode cX4_digest 82 = .ok (.iconst 0, 1) := by decide +kernel
theorem dX4_digest_83 : decode cX4_digest 83 = .ok (.istore 4, 2) := by decide +kernel
theorem dX4_digest_85 : decode cX4_digest 85 = .ok (.iload 4, 2) := by decide +kernel
theorem dX4_digest_87 : decode cX4_digest 87 = .ok (.bipush 6, 2) := by decide +kernel
theorem dX4_digest_89 : decode cX4_digest 89 = .ok (.if_icmp .ge 24, 3) := by decide +kernel
theorem dX4_digest_92 : decode cX4_digest 92 = .ok (.lload_n 1, 1) := by decide +kernel
theorem dX4_digest_93 : decode cX4_digest 93 = .ok (.ldc2_w 170, 3) := by decide +kernel
theorem dX4_digest_96 : decode cX4_digest 96 = .ok (.lmul, 1) := by decide +kernel
theorem dX4_digest_97 : decode cX4_digest 97 = .ok (.aload_n 0, 1) := by decide +kernel
theorem dX4_digest_98 : decode cX4_digest 98 = .ok (.iload_n 3, 1) := by decide +kernel
theorem dX4_digest_99 : decode cX4_digest 99 = .ok (.iload 4, 2) := by decide +kernel
theorem dX4_digest_101 : decode cX4_digest 101 = .ok (.invokevirtual 95, 3) := by decide +kernel
theorem dX4_digest_104 : decode cX4_digest 104 = .ok (.i2l, 1) := by decide +kernel
theorem dX4_digest_105 : decode cX4_digest 105 = .ok (.ladd, 1) := by decide +kernel
theorem dX4_digest_106 : decode cX4_digest 106 = .ok (.lstore_n 1, 1) := by decide +kernel
theorem dX4_digest_107 : decode cX4_digest 107 = .ok (.iinc 4 1, 3) := by decide +kernel
theorem dX4_digest_110 : decode cX4_digest 110 = .ok (.goto (-25), 3) := by decide +kernel
theorem dX4_digest_113 : decode cX4_digest 113 = .ok (.iconst 0, 1) := by decide +kernel
theorem dX4_digest_114 : decode cX4_digest 114 = .ok (.istore 4, 2) := by decide +kernel
theorem dX4_digest_116 : decode cX4_digest 116 = .ok (.iload 4, 2) := by decide +kernel
theorem dX4_digest_118 : decode cX4_digest 118 = .ok (.aload_n 0, 1) := by decide +kernel
theorem dX4_digest_119 : decode cX4_digest 119 = .ok (.getfield 32, 3) := by decide +kernel
theorem dX4_digest_122 : decode cX4_digest 122 = .ok (.iload_n 3, 1) := by decide +kernel
theorem dX4_digest_123 : decode cX4_digest 123 = .ok (.iaload, 1) := by decide +kernel
theorem dX4_digest_124 : decode cX4_digest 124 = .ok (.if_icmp .ge 29, 3) := by decide +kernel
theorem dX4_digest_127 : decode cX4_digest 127 = .ok (.lload_n 1, 1) := by decide +kernel
theorem dX4_digest_128 : decode cX4_digest 128 = .ok (.ldc2_w 170, 3) := by decide +kernel
theorem dX4_digest_131 : decode cX4_digest 131 = .ok (.lmul, 1) := by decide +kernel
theorem dX4_digest_132 : decode cX4_digest 132 = .ok (.aload_n 0, 1) := by decide +kernel
theorem dX4_digest_133 : decode cX4_digest 133 = .ok (.getfield 35, 3) := by decide +kernel
theorem dX4_digest_136 : decode cX4_digest 136 = .ok (.bipush 6, 2) := by decide +kernel
theorem dX4_digest_138 : decode cX4_digest 138 = .ok (.iload_n 3, 1) := by decide +kernel
theorem dX4_digest_139 : decode cX4_digest 139 = .ok (.imul, 1) := by decide +kernel
theorem dX4_digest_140 : decode cX4_digest 140 = .ok (.iload 4, 2) := by decide +kernel
theorem dX4_digest_142 : decode cX4_digest 142 = .ok (.iadd, 1) := by decide +kernel
theorem dX4_digest_143 : decode cX4_digest 143 = .ok (.iaload, 1) := by decide +kernel
theorem dX4_digest_144 : decode cX4_digest 144 = .ok (.i2l, 1) := by decide +kernel
theorem dX4_digest_145 : decode cX4_digest 145 = .ok (.ladd, 1) := by decide +kernel
theorem dX4_digest_146 : decode cX4_digest 146 = .ok (.lstore_n 1, 1) := by decide +kernel
theorem dX4_digest_147 : decode cX4_digest 147 = .ok (.iinc 4 1, 3) := by decide +kernel
theorem dX4_digest_150 : decode cX4_digest 150 = .ok (.goto (-34), 3) := by decide +kernel
theorem dX4_digest_153 : decode cX4_digest 153 = .ok (.iinc 3 1, 3) := by decide +kernel
theorem dX4_digest_156 : decode cX4_digest 156 = .ok (.goto (-82), 3) := by decide +kernel
theorem dX4_digest_159 : decode cX4_digest 159 = .ok (.aload_n 0, 1) := by decide +kernel
theorem dX4_digest_160 : decode cX4_digest 160 = .ok (.lload_n 1, 1) := by decide +kernel
theorem dX4_digest_161 : decode cX4_digest 161 = .ok (.iconst 0, 1) := by decide +kernel
theorem dX4_digest_162 : decode cX4_digest 162 = .ok (.invokevirtual 176, 3) := by decide +kernel
theorem dX4_digest_165 : decode cX4_digest 165 = .ok (.lstore_n 1, 1) := by decide +kernel
theorem dX4_digest_166 : decode cX4_digest 166 = .ok (.aload_n 0, 1) := by decide +kernel
theorem dX4_digest_167 : decode cX4_digest 167 = .ok (.iconst 0, 1) := by decide +kernel
theorem dX4_digest_168 : decode cX4_digest 168 = .ok (.invokevirtual 160, 3) := by decide +kernel
theorem dX4_digest_171 : decode cX4_digest 171 = .ok (.istore_n 3, 1) := by decide +kernel
theorem dX4_digest_172 : decode cX4_digest 172 = .ok (.iload_n 3, 1) := by decide +kernel
theorem dX4_digest_173 : decode cX4_digest 173 = .ok (.iconst (-1), 1) := by decide +kernel
theorem dX4_digest_174 : decode cX4_digest 174 = .ok (.if_icmp .ne 7, 3) := by decide +kernel
theorem dX4_digest_177 : decode cX4_digest 177 = .ok (.lload_n 1, 1) := by decide +kernel
theorem dX4_digest_178 : decode cX4_digest 178 = .ok (.goto 9, 3) := by decide +kernel
theorem dX4_digest_181 : decode cX4_digest 181 = .ok (.aload_n 0, 1) := by decide +kernel
theorem dX4_digest_182 : decode cX4_digest 182 = .ok (.lload_n 1, 1) := by decide +kernel
theorem dX4_digest_183 : decode cX4_digest 183 = .ok (.iload_n 3, 1) := by decide +kernel
theorem dX4_digest_184 : decode cX4_digest 184 = .ok (.invokevirtual 176, 3) := by decide +kernel
theorem dX4_digest_187 : decode cX4_digest 187 = .ok (.lreturn, 1) := by decide +kernel
theorem dJ6_bitCount_0f7a4_0 : decode cJ6_bitCount_0f7a4 0 = .ok (.iload_n 0, 1) := by decide +kernel
theorem dJ6_bitCount_0f7a4_1 : decode cJ6_bitCount_0f7a4 1 = .ok (.iload_n 0, 1) := by decide +kernel
theorem dJ6_bitCount_0f7a4_2 : decode cJ6_bitCount_0f7a4 2 = .ok (.iconst 1, 1) := by decide +kernel
theorem dJ6_bitCount_0f7a4_3 : decode cJ6_bitCount_0f7a4 3 = .ok (.iushr, 1) := by decide +kernel
theorem dJ6_bitCount_0f7a4_4 : decode cJ6_bitCount_0f7a4 4 = .ok (.ldc_w 265, 3) := by decide +kernel
theorem dJ6_bitCount_0f7a4_7 : decode cJ6_bitCount_0f7a4 7 = .ok (.iand, 1) := by decide +kernel
theorem dJ6_bitCount_0f7a4_8 : decode cJ6_bitCount_0f7a4 8 = .ok (.isub, 1) := by decide +kernel
theorem dJ6_bitCount_0f7a4_9 : decode cJ6_bitCount_0f7a4 9 = .ok (.istore_n 0, 1) := by decide +kernel
theorem dJ6_bitCount_0f7a4_10 : decode cJ6_bitCount_0f7a4 10 = .ok (.iload_n 0, 1) := by decide +kernel
theorem dJ6_bitCount_0f7a4_11 : decode cJ6_bitCount_0f7a4 11 = .ok (.ldc_w 266, 3) := by decide +kernel
theorem dJ6_bitCount_0f7a4_14 : decode cJ6_bitCount_0f7a4 14 = .ok (.iand, 1) := by decide +kernel
theorem dJ6_bitCount_0f7a4_15 : decode cJ6_bitCount_0f7a4 15 = .ok (.iload_n 0, 1) := by decide +kernel
theorem dJ6_bitCount_0f7a4_16 : decode cJ6_bitCount_0f7a4 16 = .ok (.iconst 2, 1) := by decide +kernel
theorem dJ6_bitCount_0f7a4_17 : decode cJ6_bitCount_0f7a4 17 = .ok (.iushr, 1) := by decide +kernel
theorem dJ6_bitCount_0f7a4_18 : decode cJ6_bitCount_0f7a4 18 = .ok (.ldc_w 266, 3) := by decide +kernel
theorem dJ6_bitCount_0f7a4_21 : decode cJ6_bitCount_0f7a4 21 = .ok (.iand, 1) := by decide +kernel
theorem dJ6_bitCount_0f7a4_22 : decode cJ6_bitCount_0f7a4 22 = .ok (.iadd, 1) := by decide +kernel
theorem dJ6_bitCount_0f7a4_23 : decode cJ6_bitCount_0f7a4 23 = .ok (.istore_n 0, 1) := by decide +kernel
theorem dJ6_bitCount_0f7a4_24 : decode cJ6_bitCount_0f7a4 24 = .ok (.iload_n 0, 1) := by decide +kernel
theorem dJ6_bitCount_0f7a4_25 : decode cJ6_bitCount_0f7a4 25 = .ok (.iload_n 0, 1) := by decide +kernel
theorem dJ6_bitCount_0f7a4_26 : decode cJ6_bitCount_0f7a4 26 = .ok (.iconst 4, 1) := by decide +kernel
theorem dJ6_bitCount_0f7a4_27 : decode cJ6_bitCount_0f7a4 27 = .ok (.iushr, 1) := by decide +kernel
theorem dJ6_bitCount_0f7a4_28 : decode cJ6_bitCount_0f7a4 28 = .ok (.iadd, 1) := by decide +kernel
theorem dJ6_bitCount_0f7a4_29 : decode cJ6_bitCount_0f7a4 29 = .ok (.ldc_w 267, 3) := by decide +kernel
theorem dJ6_bitCount_0f7a4_32 : decode cJ6_bitCount_0f7a4 32 = .ok (.iand, 1) := by decide +kernel
theorem dJ6_bitCount_0f7a4_33 : decode cJ6_bitCount_0f7a4 33 = .ok (.istore_n 0, 1) := by decide +kernel
theorem dJ6_bitCount_0f7a4_34 : decode cJ6_bitCount_0f7a4 34 = .ok (.iload_n 0, 1) := by decide +kernel
theorem dJ6_bitCount_0f7a4_35 : decode cJ6_bitCount_0f7a4 35 = .ok (.iload_n 0, 1) := by decide +kernel
theorem dJ6_bitCount_0f7a4_36 : decode cJ6_bitCount_0f7a4 36 = .ok (.bipush 8, 2) := by decide +kernel
theorem dJ6_bitCount_0f7a4_38 : decode cJ6_bitCount_0f7a4 38 = .ok (.iushr, 1) := by decide +kernel
theorem dJ6_bitCount_0f7a4_39 : decode cJ6_bitCount_0f7a4 39 = .ok (.iadd, 1) := by decide +kernel
theorem dJ6_bitCount_0f7a4_40 : decode cJ6_bitCount_0f7a4 40 = .ok (.istore_n 0, 1) := by decide +kernel
theorem dJ6_bitCount_0f7a4_41 : decode cJ6_bitCount_0f7a4 41 = .ok (.iload_n 0, 1) := by decide +kernel
theorem dJ6_bitCount_0f7a4_42 : decode cJ6_bitCount_0f7a4 42 = .ok (.iload_n 0, 1) := by decide +kernel
theorem dJ6_bitCount_0f7a4_43 : decode cJ6_bitCount_0f7a4 43 = .ok (.bipush 16, 2) := by decide +kernel
theorem dJ6_bitCount_0f7a4_45 : decode cJ6_bitCount_0f7a4 45 = .ok (.iushr, 1) := by decide +kernel
theorem dJ6_bitCount_0f7a4_46 : decode cJ6_bitCount_0f7a4 46 = .ok (.iadd, 1) := by decide +kernel
theorem dJ6_bitCount_0f7a4_47 : decode cJ6_bitCount_0f7a4 47 = .ok (.istore_n 0, 1) := by decide +kernel
theorem dJ6_bitCount_0f7a4_48 : decode cJ6_bitCount_0f7a4 48 = .ok (.iload_n 0, 1) := by decide +kernel
theorem dJ6_bitCount_0f7a4_49 : decode cJ6_bitCount_0f7a4 49 = .ok (.bipush 63, 2) := by decide +kernel
theorem dJ6_bitCount_0f7a4_51 : decode cJ6_bitCount_0f7a4 51 = .ok (.iand, 1) := by decide +kernel
theorem dJ6_bitCount_0f7a4_52 : decode cJ6_bitCount_0f7a4 52 = .ok (.ireturn, 1) := by decide +kernel
theorem dJ13_compare_74951_0 : decode cJ13_compare_74951 0 = .ok (.lload_n 0, 1) := by decide +kernel
theorem dJ13_compare_74951_1 : decode cJ13_compare_74951 1 = .ok (.lload_n 2, 1) := by decide +kernel
theorem dJ13_compare_74951_2 : decode cJ13_compare_74951 2 = .ok (.lcmp, 1) := by decide +kernel
theorem dJ13_compare_74951_3 : decode cJ13_compare_74951 3 = .ok (.ifCond .ge 7, 3) := by decide +kernel
theorem dJ13_compare_74951_6 : decode cJ13_compare_74951 6 = .ok (.iconst (-1), 1) := by decide +kernel
theorem dJ13_compare_74951_7 : decode cJ13_compare_74951 7 = .ok (.goto 14, 3) := by decide +kernel
theorem dJ13_compare_74951_10 : decode cJ13_compare_74951 10 = .ok (.lload_n 0, 1) := by decide +kernel
theorem dJ13_compare_74951_11 : decode cJ13_compare_74951 11 = .ok (.lload_n 2, 1) := by decide +kernel
theorem dJ13_compare_74951_12 : decode cJ13_compare_74951 12 = .ok (.lcmp, 1) := by decide +kernel
theorem dJ13_compare_74951_13 : decode cJ13_compare_74951 13 = .ok (.ifCond .ne 7, 3) := by decide +kernel
theorem dJ13_compare_74951_16 : decode cJ13_compare_74951 16 = .ok (.iconst 0, 1) := by decide +kernel
theorem dJ13_compare_74951_17 : decode cJ13_compare_74951 17 = .ok (.goto 4, 3) := by decide +kernel
theorem dJ13_compare_74951_20 : decode cJ13_compare_74951 20 = .ok (.iconst 1, 1) := by decide +kernel
theorem dJ13_compare_74951_21 : decode cJ13_compare_74951 21 = .ok (.ireturn, 1) := by decide +kernel
theorem dJ9_floorDiv_f86c9_0 : decode cJ9_floorDiv_f86c9 0 = .ok (.lload_n 0, 1) := by decide +kernel
theorem dJ9_floorDiv_f86c9_1 : decode cJ9_floorDiv_f86c9 1 = .ok (.lload_n 2, 1) := by decide +kernel
theorem dJ9_floorDiv_f86c9_2 : decode cJ9_floorDiv_f86c9 2 = .ok (.ldiv, 1) := by decide +kernel
theorem dJ9_floorDiv_f86c9_3 : decode cJ9_floorDiv_f86c9 3 = .ok (.lstore 4, 2) := by decide +kernel
theorem dJ9_floorDiv_f86c9_5 : decode cJ9_floorDiv_f86c9 5 = .ok (.lload_n 0, 1) := by decide +kernel
theorem dJ9_floorDiv_f86c9_6 : decode cJ9_floorDiv_f86c9 6 = .ok (.lload_n 2, 1) := by decide +kernel
theorem dJ9_floorDiv_f86c9_7 : decode cJ9_floorDiv_f86c9 7 = .ok (.lxor, 1) := by decide +kernel
theorem dJ9_floorDiv_f86c9_8 : decode cJ9_floorDiv_f86c9 8 = .ok (.lconst 0, 1) := by decide +kernel
theorem dJ9_floorDiv_f86c9_9 : decode cJ9_floorDiv_f86c9 9 = .ok (.lcmp, 1) := by decide +kernel
theorem dJ9_floorDiv_f86c9_10 : decode cJ9_floorDiv_f86c9 10 = .ok (.ifCond .ge 17, 3) := by decide +kernel
theorem dJ9_floorDiv_f86c9_13 : decode cJ9_floorDiv_f86c9 13 = .ok (.lload 4, 2) := by decide +kernel
theorem dJ9_floorDiv_f86c9_15 : decode cJ9_floorDiv_f86c9 15 = .ok (.lload_n 2, 1) := by decide +kernel
theorem dJ9_floorDiv_f86c9_16 : decode cJ9_floorDiv_f86c9 16 = .ok (.lmul, 1) := by decide +kernel
theorem dJ9_floorDiv_f86c9_17 : decode cJ9_floorDiv_f86c9 17 = .ok (.lload_n 0, 1) := by decide +kernel
theorem dJ9_floorDiv_f86c9_18 : decode cJ9_floorDiv_f86c9 18 = .ok (.lcmp, 1) := by decide +kernel
theorem dJ9_floorDiv_f86c9_19 : decode cJ9_floorDiv_f86c9 19 = .ok (.ifCond .eq 8, 3) := by decide +kernel
theorem dJ9_floorDiv_f86c9_22 : decode cJ9_floorDiv_f86c9 22 = .ok (.lload 4, 2) := by decide +kernel
theorem dJ9_floorDiv_f86c9_24 : decode cJ9_floorDiv_f86c9 24 = .ok (.lconst 1, 1) := by decide +kernel
theorem dJ9_floorDiv_f86c9_25 : decode cJ9_floorDiv_f86c9 25 = .ok (.lsub, 1) := by decide +kernel
theorem dJ9_floorDiv_f86c9_26 : decode cJ9_floorDiv_f86c9 26 = .ok (.lreturn, 1) := by decide +kernel
theorem dJ9_floorDiv_f86c9_27 : decode cJ9_floorDiv_f86c9 27 = .ok (.lload 4, 2) := by decide +kernel
theorem dJ9_floorDiv_f86c9_29 : decode cJ9_floorDiv_f86c9 29 = .ok (.lreturn, 1) := by decide +kernel
theorem dJ9_floorMod_f86c9_0 : decode cJ9_floorMod_f86c9 0 = .ok (.lload_n 0, 1) := by decide +kernel
theorem dJ9_floorMod_f86c9_1 : decode cJ9_floorMod_f86c9 1 = .ok (.lload_n 2, 1) := by decide +kernel
theorem dJ9_floorMod_f86c9_2 : decode cJ9_floorMod_f86c9 2 = .ok (.lrem, 1) := by decide +kernel
theorem dJ9_floorMod_f86c9_3 : decode cJ9_floorMod_f86c9 3 = .ok (.lstore 4, 2) := by decide +kernel
theorem dJ9_floorMod_f86c9_5 : decode cJ9_floorMod_f86c9 5 = .ok (.lload_n 0, 1) := by decide +kernel
theorem dJ9_floorMod_f86c9_6 : decode cJ9_floorMod_f86c9 6 = .ok (.lload_n 2, 1) := by decide +kernel
theorem dJ9_floorMod_f86c9_7 : decode cJ9_floorMod_f86c9 7 = .ok (.lxor, 1) := by decide +kernel
theorem dJ9_floorMod_f86c9_8 : decode cJ9_floorMod_f86c9 8 = .ok (.lconst 0, 1) := by decide +kernel
theorem dJ9_floorMod_f86c9_9 : decode cJ9_floorMod_f86c9 9 = .ok (.lcmp, 1) := by decide +kernel
theorem dJ9_floorMod_f86c9_10 : decode cJ9_floorMod_f86c9 10 = .ok (.ifCond .ge 15, 3) := by decide +kernel
theorem dJ9_floorMod_f86c9_13 : decode cJ9_floorMod_f86c9 13 = .ok (.lload 4, 2) := by decide +kernel
theorem dJ9_floorMod_f86c9_15 : decode cJ9_floorMod_f86c9 15 = .ok (.lconst 0, 1) := by decide +kernel
theorem dJ9_floorMod_f86c9_16 : decode cJ9_floorMod_f86c9 16 = .ok (.lcmp, 1) := by decide +kernel
theorem dJ9_floorMod_f86c9_17 : decode cJ9_floorMod_f86c9 17 = .ok (.ifCond .eq 8, 3) := by decide +kernel
theorem dJ9_floorMod_f86c9_20 : decode cJ9_floorMod_f86c9 20 = .ok (.lload 4, 2) := by decide +kernel
theorem dJ9_floorMod_f86c9_22 : decode cJ9_floorMod_f86c9 22 = .ok (.lload_n 2, 1) := by decide +kernel
theorem dJ9_floorMod_f86c9_23 : decode cJ9_floorMod_f86c9 23 = .ok (.ladd, 1) := by decide +kernel
theorem dJ9_floorMod_f86c9_24 : decode cJ9_floorMod_f86c9 24 = .ok (.lreturn, 1) := by decide +kernel
theorem dJ9_floorMod_f86c9_25 : decode cJ9_floorMod_f86c9 25 = .ok (.lload 4, 2) := by decide +kernel
theorem dJ9_floorMod_f86c9_27 : decode cJ9_floorMod_f86c9 27 = .ok (.lreturn, 1) := by decide +kernel
theorem dJ9_abs_067f4_0 : decode cJ9_abs_067f4 0 = .ok (.lload_n 0, 1) := by decide +kernel
theorem dJ9_abs_067f4_1 : decode cJ9_abs_067f4 1 = .ok (.lconst 0, 1) := by decide +kernel
theorem dJ9_abs_067f4_2 : decode cJ9_abs_067f4 2 = .ok (.lcmp, 1) := by decide +kernel
theorem dJ9_abs_067f4_3 : decode cJ9_abs_067f4 3 = .ok (.ifCond .ge 8, 3) := by decide +kernel
theorem dJ9_abs_067f4_6 : decode cJ9_abs_067f4 6 = .ok (.lload_n 0, 1) := by decide +kernel
theorem dJ9_abs_067f4_7 : decode cJ9_abs_067f4 7 = .ok (.lneg, 1) := by decide +kernel
theorem dJ9_abs_067f4_8 : decode cJ9_abs_067f4 8 = .ok (.goto 4, 3) := by decide +kernel
theorem dJ9_abs_067f4_11 : decode cJ9_abs_067f4 11 = .ok (.lload_n 0, 1) := by decide +kernel
theorem dJ9_abs_067f4_12 : decode cJ9_abs_067f4 12 = .ok (.lreturn, 1) := by decide +kernel
theorem dJ9_max_7cf53_0 : decode cJ9_max_7cf53 0 = .ok (.iload_n 0, 1) := by decide +kernel
theorem dJ9_max_7cf53_1 : decode cJ9_max_7cf53 1 = .ok (.iload_n 1, 1) := by decide +kernel
theorem dJ9_max_7cf53_2 : decode cJ9_max_7cf53 2 = .ok (.if_icmp .lt 7, 3) := by decide +kernel
theorem dJ9_max_7cf53_5 : decode cJ9_max_7cf53 5 = .ok (.iload_n 0, 1) := by decide +kernel
theorem dJ9_max_7cf53_6 : decode cJ9_max_7cf53 6 = .ok (.goto 4, 3) := by decide +kernel
theorem dJ9_max_7cf53_9 : decode cJ9_max_7cf53 9 = .ok (.iload_n 1, 1) := by decide +kernel
theorem dJ9_max_7cf53_10 : decode cJ9_max_7cf53 10 = .ok (.ireturn, 1) := by decide +kernel
theorem dJ9_min_7cf53_0 : decode cJ9_min_7cf53 0 = .ok (.iload_n 0, 1) := by decide +kernel
theorem dJ9_min_7cf53_1 : decode cJ9_min_7cf53 1 = .ok (.iload_n 1, 1) := by decide +kernel
theorem dJ9_min_7cf53_2 : decode cJ9_min_7cf53 2 = .ok (.if_icmp .gt 7, 3) := by decide +kernel
theorem dJ9_min_7cf53_5 : decode cJ9_min_7cf53 5 = .ok (.iload_n 0, 1) := by decide +kernel
theorem dJ9_min_7cf53_6 : decode cJ9_min_7cf53 6 = .ok (.goto 4, 3) := by decide +kernel
theorem dJ9_min_7cf53_9 : decode cJ9_min_7cf53 9 = .ok (.iload_n 1, 1) := by decide +kernel
theorem dJ9_min_7cf53_10 : decode cJ9_min_7cf53 10 = .ok (.ireturn, 1) := by decide +kernel
theorem dJxa1e45_init_da8c8_0 : decode cJxa1e45_init_da8c8 0 = .ok (.aload_n 0, 1) := by decide +kernel
theorem dJxa1e45_init_da8c8_1 : decode cJxa1e45_init_da8c8 1 = .ok (.invokespecial 1, 3) := by decide +kernel
theorem dJxa1e45_init_da8c8_4 : decode cJxa1e45_init_da8c8 4 = .ok (.return_, 1) := by decide +kernel
theorem dJxc12de_init_da8c8_0 : decode cJxc12de_init_da8c8 0 = .ok (.aload_n 0, 1) := by decide +kernel
theorem dJxc12de_init_da8c8_1 : decode cJxc12de_init_da8c8 1 = .ok (.invokespecial 1, 3) := by decide +kernel
theorem dJxc12de_init_da8c8_4 : decode cJxc12de_init_da8c8 4 = .ok (.aload_n 0, 1) := by decide +kernel
theorem dJxc12de_init_da8c8_5 : decode cJxc12de_init_da8c8 5 = .ok (.iconst 0, 1) := by decide +kernel
theorem dJxc12de_init_da8c8_6 : decode cJxc12de_init_da8c8 6 = .ok (.putfield 7, 3) := by decide +kernel
theorem dJxc12de_init_da8c8_9 : decode cJxc12de_init_da8c8 9 = .ok (.return_, 1) := by decide +kernel
theorem dJx4a65c_init_da8c8_0 : decode cJx4a65c_init_da8c8 0 = .ok (.aload_n 0, 1) := by decide +kernel
theorem dJx4a65c_init_da8c8_1 : decode cJx4a65c_init_da8c8 1 = .ok (.invokespecial 1, 3) := by decide +kernel
theorem dJx4a65c_init_da8c8_4 : decode cJx4a65c_init_da8c8 4 = .ok (.aload_n 0, 1) := by decide +kernel
theorem dJx4a65c_init_da8c8_5 : decode cJx4a65c_init_da8c8 5 = .ok (.getstatic 39, 3) := by decide +kernel
theorem dJx4a65c_init_da8c8_8 : decode cJx4a65c_init_da8c8 8 = .ok (.putfield 9, 3) := by decide +kernel
theorem dJx4a65c_init_da8c8_11 : decode cJx4a65c_init_da8c8 11 = .ok (.return_, 1) := by decide +kernel
theorem dJx4a65c_grow_92f84_0 : decode cJx4a65c_grow_92f84 0 = .ok (.aload_n 0, 1) := by decide +kernel
theorem dJx4a65c_grow_92f84_1 : decode cJx4a65c_grow_92f84 1 = .ok (.getfield 9, 3) := by decide +kernel
theorem dJx4a65c_grow_92f84_4 : decode cJx4a65c_grow_92f84 4 = .ok (.arraylength, 1) := by decide +kernel
theorem dJx4a65c_grow_92f84_5 : decode cJx4a65c_grow_92f84 5 = .ok (.istore_n 2, 1) := by decide +kernel
theorem dJx4a65c_grow_92f84_6 : decode cJx4a65c_grow_92f84 6 = .ok (.iload_n 2, 1) := by decide +kernel
theorem dJx4a65c_grow_92f84_7 : decode cJx4a65c_grow_92f84 7 = .ok (.ifCond .gt 13, 3) := by decide +kernel
theorem dJx4a65c_grow_92f84_10 : decode cJx4a65c_grow_92f84 10 = .ok (.aload_n 0, 1) := by decide +kernel
theorem dJx4a65c_grow_92f84_11 : decode cJx4a65c_grow_92f84 11 = .ok (.getfield 9, 3) := by decide +kernel
theorem dJx4a65c_grow_92f84_14 : decode cJx4a65c_grow_92f84 14 = .ok (.getstatic 39, 3) := by decide +kernel
theorem dJx4a65c_grow_92f84_17 : decode cJx4a65c_grow_92f84 17 = .ok (.if_acmp .eq 28, 3) := by decide +kernel
theorem dJx4a65c_grow_92f84_20 : decode cJx4a65c_grow_92f84 20 = .ok (.iload_n 2, 1) := by decide +kernel
theorem dJx4a65c_grow_92f84_21 : decode cJx4a65c_grow_92f84 21 = .ok (.iload_n 1, 1) := by decide +kernel
theorem dJx4a65c_grow_92f84_22 : decode cJx4a65c_grow_92f84 22 = .ok (.iload_n 2, 1) := by decide +kernel
theorem dJx4a65c_grow_92f84_23 : decode cJx4a65c_grow_92f84 23 = .ok (.isub, 1) := by decide +kernel
theorem dJx4a65c_grow_92f84_24 : decode cJx4a65c_grow_92f84 24 = .ok (.iload_n 2, 1) := by decide +kernel
theorem dJx4a65c_grow_92f84_25 : decode cJx4a65c_grow_92f84 25 = .ok (.iconst 1, 1) := by decide +kernel
theorem dJx4a65c_grow_92f84_26 : decode cJx4a65c_grow_92f84 26 = .ok (.ishr, 1) := by decide +kernel
theorem dJx4a65c_grow_92f84_27 : decode cJx4a65c_grow_92f84 27 = .ok (.invokestatic 73, 3) := by decide +kernel
theorem dJx4a65c_grow_92f84_30 : decode cJx4a65c_grow_92f84 30 = .ok (.istore_n 3, 1) := by decide +kernel
theorem dJx4a65c_grow_92f84_31 : decode cJx4a65c_grow_92f84 31 = .ok (.aload_n 0, 1) := by decide +kernel
theorem dJx4a65c_grow_92f84_32 : decode cJx4a65c_grow_92f84 32 = .ok (.aload_n 0, 1) := by decide +kernel
theorem dJx4a65c_grow_92f84_33 : decode cJx4a65c_grow_92f84 33 = .ok (.getfield 9, 3) := by decide +kernel
theorem dJx4a65c_grow_92f84_36 : decode cJx4a65c_grow_92f84 36 = .ok (.iload_n 3, 1) := by decide +kernel
theorem dJx4a65c_grow_92f84_37 : decode cJx4a65c_grow_92f84 37 = .ok (.invokestatic 66, 3) := by decide +kernel
theorem dJx4a65c_grow_92f84_40 : decode cJx4a65c_grow_92f84 40 = .ok (.dup_x1, 1) := by decide +kernel
theorem dJx4a65c_grow_92f84_41 : decode cJx4a65c_grow_92f84 41 = .ok (.putfield 9, 3) := by decide +kernel
theorem dJx4a65c_grow_92f84_44 : decode cJx4a65c_grow_92f84 44 = .ok (.areturn, 1) := by decide +kernel
theorem dJx4a65c_grow_92f84_45 : decode cJx4a65c_grow_92f84 45 = .ok (.aload_n 0, 1) := by decide +kernel
theorem dJx4a65c_grow_92f84_46 : decode cJx4a65c_grow_92f84 46 = .ok (.bipush 10, 2) := by decide +kernel
theorem dJx4a65c_grow_92f84_48 : decode cJx4a65c_grow_92f84 48 = .ok (.iload_n 1, 1) := by decide +kernel
theorem dJx4a65c_grow_92f84_49 : decode cJx4a65c_grow_92f84 49 = .ok (.invokestatic 79, 3) := by decide +kernel
theorem dJx4a65c_grow_92f84_52 : decode cJx4a65c_grow_92f84 52 = .ok (.anewarray 7, 3) := by decide +kernel
theorem dJx4a65c_grow_92f84_55 : decode cJx4a65c_grow_92f84 55 = .ok (.dup_x1, 1) := by decide +kernel
theorem dJx4a65c_grow_92f84_56 : decode cJx4a65c_grow_92f84 56 = .ok (.putfield 9, 3) := by decide +kernel
theorem dJx4a65c_grow_92f84_59 : decode cJx4a65c_grow_92f84 59 = .ok (.areturn, 1) := by decide +kernel
theorem dJx4a65c_grow_d5877_0 : decode cJx4a65c_grow_d5877 0 = .ok (.aload_n 0, 1) := by decide +kernel
theorem dJx4a65c_grow_d5877_1 : decode cJx4a65c_grow_d5877 1 = .ok (.aload_n 0, 1) := by decide +kernel
theorem dJx4a65c_grow_d5877_2 : decode cJx4a65c_grow_d5877 2 = .ok (.getfield 48, 3) := by decide +kernel
theorem dJx4a65c_grow_d5877_5 : decode cJx4a65c_grow_d5877 5 = .ok (.iconst 1, 1) := by decide +kernel
theorem dJx4a65c_grow_d5877_6 : decode cJx4a65c_grow_d5877 6 = .ok (.iadd, 1) := by decide +kernel
theorem dJx4a65c_grow_d5877_7 : decode cJx4a65c_grow_d5877 7 = .ok (.invokevirtual 69, 3) := by decide +kernel
theorem dJx4a65c_grow_d5877_10 : decode cJx4a65c_grow_d5877 10 = .ok (.areturn, 1) := by decide +kernel
theorem dJx4a65c_size_8abf5_0 : decode cJx4a65c_size_8abf5 0 = .ok (.aload_n 0, 1) := by decide +kernel
theorem dJx4a65c_size_8abf5_1 : decode cJx4a65c_size_8abf5 1 = .ok (.getfield 48, 3) := by decide +kernel
theorem dJx4a65c_size_8abf5_4 : decode cJx4a65c_size_8abf5 4 = .ok (.ireturn, 1) := by decide +kernel
theorem dJx4a65c_elementData_915e3_0 : decode cJx4a65c_elementData_915e3 0 = .ok (.aload_n 0, 1) := by decide +kernel
theorem dJx4a65c_elementData_915e3_1 : decode cJx4a65c_elementData_915e3 1 = .ok (.getfield 9, 3) := by decide +kernel
theorem dJx4a65c_elementData_915e3_4 : decode cJx4a65c_elementData_915e3 4 = .ok (.iload_n 1, 1) := by decide +kernel
theorem dJx4a65c_elementData_915e3_5 : decode cJx4a65c_elementData_915e3 5 = .ok (.aaload, 1) := by decide +kernel
theorem dJx4a65c_elementData_915e3_6 : decode cJx4a65c_elementData_915e3 6 = .ok (.areturn, 1) := by decide +kernel
theorem dJx4a65c_get_915e3_0 : decode cJx4a65c_get_915e3 0 = .ok (.iload_n 1, 1) := by decide +kernel
theorem dJx4a65c_get_915e3_1 : decode cJx4a65c_get_915e3 1 = .ok (.aload_n 0, 1) := by decide +kernel
theorem dJx4a65c_get_915e3_2 : decode cJx4a65c_get_915e3 2 = .ok (.getfield 48, 3) := by decide +kernel
theorem dJx4a65c_get_915e3_5 : decode cJx4a65c_get_915e3 5 = .ok (.invokestatic 118, 3) := by decide +kernel
theorem dJx4a65c_get_915e3_8 : decode cJx4a65c_get_915e3 8 = .ok (.pop, 1) := by decide +kernel
theorem dJx4a65c_get_915e3_9 : decode cJx4a65c_get_915e3 9 = .ok (.aload_n 0, 1) := by decide +kernel
theorem dJx4a65c_get_915e3_10 : decode cJx4a65c_get_915e3 10 = .ok (.iload_n 1, 1) := by decide +kernel
theorem dJx4a65c_get_915e3_11 : decode cJx4a65c_get_915e3 11 = .ok (.invokevirtual 123, 3) := by decide +kernel
theorem dJx4a65c_get_915e3_14 : decode cJx4a65c_get_915e3 14 = .ok (.areturn, 1) := by decide +kernel
theorem dJx4a65c_add_72be8_0 : decode cJx4a65c_add_72be8 0 = .ok (.iload_n 3, 1) := by decide +kernel
theorem dJx4a65c_add_72be8_1 : decode cJx4a65c_add_72be8 1 = .ok (.aload_n 2, 1) := by decide +kernel
theorem dJx4a65c_add_72be8_2 : decode cJx4a65c_add_72be8 2 = .ok (.arraylength, 1) := by decide +kernel
theorem dJx4a65c_add_72be8_3 : decode cJx4a65c_add_72be8 3 = .ok (.if_icmp .ne 8, 3) := by decide +kernel
theorem dJx4a65c_add_72be8_6 : decode cJx4a65c_add_72be8 6 = .ok (.aload_n 0, 1) := by decide +kernel
theorem dJx4a65c_add_72be8_7 : decode cJx4a65c_add_72be8 7 = .ok (.invokevirtual 129, 3) := by decide +kernel
theorem dJx4a65c_add_72be8_10 : decode cJx4a65c_add_72be8 10 = .ok (.astore_n 2, 1) := by decide +kernel
theorem dJx4a65c_add_72be8_11 : decode cJx4a65c_add_72be8 11 = .ok (.aload_n 2, 1) := by decide +kernel
theorem dJx4a65c_add_72be8_12 : decode cJx4a65c_add_72be8 12 = .ok (.iload_n 3, 1) := by decide +kernel
theorem dJx4a65c_add_72be8_13 : decode cJx4a65c_add_72be8 13 = .ok (.aload_n 1, 1) := by decide +kernel
theorem dJx4a65c_add_72be8_14 : decode cJx4a65c_add_72be8 14 = .ok (.aastore, 1) := by decide +kernel
theorem dJx4a65c_add_72be8_15 : decode cJx4a65c_add_72be8 15 = .ok (.aload_n 0, 1) := by decide +kernel
theorem dJx4a65c_add_72be8_16 : decode cJx4a65c_add_72be8 16 = .ok (.iload_n 3, 1) := by decide +kernel
theorem dJx4a65c_add_72be8_17 : decode cJx4a65c_add_72be8 17 = .ok (.iconst 1, 1) := by decide +kernel
theorem dJx4a65c_add_72be8_18 : decode cJx4a65c_add_72be8 18 = .ok (.iadd, 1) := by decide +kernel
theorem dJx4a65c_add_72be8_19 : decode cJx4a65c_add_72be8 19 = .ok (.putfield 48, 3) := by decide +kernel
theorem dJx4a65c_add_72be8_22 : decode cJx4a65c_add_72be8 22 = .ok (.return_, 1) := by decide +kernel
theorem dJx4a65c_add_9ea2d_0 : decode cJx4a65c_add_9ea2d 0 = .ok (.aload_n 0, 1) := by decide +kernel
theorem dJx4a65c_add_9ea2d_1 : decode cJx4a65c_add_9ea2d 1 = .ok (.dup, 1) := by decide +kernel
theorem dJx4a65c_add_9ea2d_2 : decode cJx4a65c_add_9ea2d 2 = .ok (.getfield 63, 3) := by decide +kernel
theorem dJx4a65c_add_9ea2d_5 : decode cJx4a65c_add_9ea2d 5 = .ok (.iconst 1, 1) := by decide +kernel
theorem dJx4a65c_add_9ea2d_6 : decode cJx4a65c_add_9ea2d 6 = .ok (.iadd, 1) := by decide +kernel
theorem dJx4a65c_add_9ea2d_7 : decode cJx4a65c_add_9ea2d 7 = .ok (.putfield 63, 3) := by decide +kernel
theorem dJx4a65c_add_9ea2d_10 : decode cJx4a65c_add_9ea2d 10 = .ok (.aload_n 0, 1) := by decide +kernel
theorem dJx4a65c_add_9ea2d_11 : decode cJx4a65c_add_9ea2d 11 = .ok (.aload_n 1, 1) := by decide +kernel
theorem dJx4a65c_add_9ea2d_12 : decode cJx4a65c_add_9ea2d 12 = .ok (.aload_n 0, 1) := by decide +kernel
theorem dJx4a65c_add_9ea2d_13 : decode cJx4a65c_add_9ea2d 13 = .ok (.getfield 9, 3) := by decide +kernel
theorem dJx4a65c_add_9ea2d_16 : decode cJx4a65c_add_9ea2d 16 = .ok (.aload_n 0, 1) := by decide +kernel
theorem dJx4a65c_add_9ea2d_17 : decode cJx4a65c_add_9ea2d 17 = .ok (.getfield 48, 3) := by decide +kernel
theorem dJx4a65c_add_9ea2d_20 : decode cJx4a65c_add_9ea2d 20 = .ok (.invokevirtual 131, 3) := by decide +kernel
theorem dJx4a65c_add_9ea2d_23 : decode cJx4a65c_add_9ea2d 23 = .ok (.iconst 1, 1) := by decide +kernel
theorem dJx4a65c_add_9ea2d_24 : decode cJx4a65c_add_9ea2d 24 = .ok (.ireturn, 1) := by decide +kernel
theorem dJ7_copyOf_1904c_0 : decode cJ7_copyOf_1904c 0 = .ok (.aload_n 0, 1) := by decide +kernel
theorem dJ7_copyOf_1904c_1 : decode cJ7_copyOf_1904c 1 = .ok (.iload_n 1, 1) := by decide +kernel
theorem dJ7_copyOf_1904c_2 : decode cJ7_copyOf_1904c 2 = .ok (.aload_n 0, 1) := by decide +kernel
theorem dJ7_copyOf_1904c_3 : decode cJ7_copyOf_1904c 3 = .ok (.invokevirtual 86, 3) := by decide +kernel
theorem dJ7_copyOf_1904c_6 : decode cJ7_copyOf_1904c 6 = .ok (.invokestatic 300, 3) := by decide +kernel
theorem dJ7_copyOf_1904c_9 : decode cJ7_copyOf_1904c 9 = .ok (.areturn, 1) := by decide +kernel
theorem dJ7_copyOf_6403c_0 : decode cJ7_copyOf_6403c 0 = .ok (.aload_n 2, 1) := by decide +kernel
theorem dJ7_copyOf_6403c_1 : decode cJ7_copyOf_6403c 1 = .ok (.ldc 110, 2) := by decide +kernel
theorem dJ7_copyOf_6403c_3 : decode cJ7_copyOf_6403c 3 = .ok (.if_acmp .ne 10, 3) := by decide +kernel
theorem dJ7_copyOf_6403c_6 : decode cJ7_copyOf_6403c 6 = .ok (.iload_n 1, 1) := by decide +kernel
theorem dJ7_copyOf_6403c_7 : decode cJ7_copyOf_6403c 7 = .ok (.anewarray 2, 3) := by decide +kernel
theorem dJ7_copyOf_6403c_10 : decode cJ7_copyOf_6403c 10 = .ok (.goto 14, 3) := by decide +kernel
theorem dJ7_copyOf_6403c_13 : decode cJ7_copyOf_6403c 13 = .ok (.aload_n 2, 1) := by decide +kernel
theorem dJ7_copyOf_6403c_14 : decode cJ7_copyOf_6403c 14 = .ok (.invokevirtual 90, 3) := by decide +kernel
theorem dJ7_copyOf_6403c_17 : decode cJ7_copyOf_6403c 17 = .ok (.iload_n 1, 1) := by decide +kernel
theorem dJ7_copyOf_6403c_18 : decode cJ7_copyOf_6403c 18 = .ok (.invokestatic 95, 3) := by decide +kernel
theorem dJ7_copyOf_6403c_21 : decode cJ7_copyOf_6403c 21 = .ok (.checkcast 110, 3) := by decide +kernel
theorem dJ7_copyOf_6403c_24 : decode cJ7_copyOf_6403c 24 = .ok (.astore_n 3, 1) := by decide +kernel
theorem dJ7_copyOf_6403c_25 : decode cJ7_copyOf_6403c 25 = .ok (.aload_n 0, 1) := by decide +kernel
theorem dJ7_copyOf_6403c_26 : decode cJ7_copyOf_6403c 26 = .ok (.iconst 0, 1) := by decide +kernel
theorem dJ7_copyOf_6403c_27 : decode cJ7_copyOf_6403c 27 = .ok (.aload_n 3, 1) := by decide +kernel
theorem dJ7_copyOf_6403c_28 : decode cJ7_copyOf_6403c 28 = .ok (.iconst 0, 1) := by decide +kernel
theorem dJ7_copyOf_6403c_29 : decode cJ7_copyOf_6403c 29 = .ok (.aload_n 0, 1) := by decide +kernel
theorem dJ7_copyOf_6403c_30 : decode cJ7_copyOf_6403c 30 = .ok (.arraylength, 1) := by decide +kernel
theorem dJ7_copyOf_6403c_31 : decode cJ7_copyOf_6403c 31 = .ok (.iload_n 1, 1) := by decide +kernel
theorem dJ7_copyOf_6403c_32 : decode cJ7_copyOf_6403c 32 = .ok (.invokestatic 304, 3) := by decide +kernel
theorem dJ7_copyOf_6403c_35 : decode cJ7_copyOf_6403c 35 = .ok (.invokestatic 150, 3) := by decide +kernel
theorem dJ7_copyOf_6403c_38 : decode cJ7_copyOf_6403c 38 = .ok (.aload_n 3, 1) := by decide +kernel
theorem dJ7_copyOf_6403c_39 : decode cJ7_copyOf_6403c 39 = .ok (.areturn, 1) := by decide +kernel
theorem dJ15_checkIndex_7cf53_0 : decode cJ15_checkIndex_7cf53 0 = .ok (.iload_n 0, 1) := by decide +kernel
theorem dJ15_checkIndex_7cf53_1 : decode cJ15_checkIndex_7cf53 1 = .ok (.iload_n 1, 1) := by decide +kernel
theorem dJ15_checkIndex_7cf53_2 : decode cJ15_checkIndex_7cf53 2 = .ok (.aconst_null, 1) := by decide +kernel
theorem dJ15_checkIndex_7cf53_3 : decode cJ15_checkIndex_7cf53 3 = .ok (.invokestatic 105, 3) := by decide +kernel
theorem dJ15_checkIndex_7cf53_6 : decode cJ15_checkIndex_7cf53 6 = .ok (.ireturn, 1) := by decide +kernel
theorem dJ8_newLength_cabcc_0 : decode cJ8_newLength_cabcc 0 = .ok (.iload_n 0, 1) := by decide +kernel
theorem dJ8_newLength_cabcc_1 : decode cJ8_newLength_cabcc 1 = .ok (.iload_n 1, 1) := by decide +kernel
theorem dJ8_newLength_cabcc_2 : decode cJ8_newLength_cabcc 2 = .ok (.iload_n 2, 1) := by decide +kernel
theorem dJ8_newLength_cabcc_3 : decode cJ8_newLength_cabcc 3 = .ok (.invokestatic 194, 3) := by decide +kernel
theorem dJ8_newLength_cabcc_6 : decode cJ8_newLength_cabcc 6 = .ok (.iadd, 1) := by decide +kernel
theorem dJ8_newLength_cabcc_7 : decode cJ8_newLength_cabcc 7 = .ok (.istore_n 3, 1) := by decide +kernel
theorem dJ8_newLength_cabcc_8 : decode cJ8_newLength_cabcc 8 = .ok (.iconst 0, 1) := by decide +kernel
theorem dJ8_newLength_cabcc_9 : decode cJ8_newLength_cabcc 9 = .ok (.iload_n 3, 1) := by decide +kernel
theorem dJ8_newLength_cabcc_10 : decode cJ8_newLength_cabcc 10 = .ok (.if_icmp .ge 11, 3) := by decide +kernel
theorem dJ8_newLength_cabcc_13 : decode cJ8_newLength_cabcc 13 = .ok (.iload_n 3, 1) := by decide +kernel
theorem dJ8_newLength_cabcc_14 : decode cJ8_newLength_cabcc 14 = .ok (.ldc 200, 2) := by decide +kernel
theorem dJ8_newLength_cabcc_16 : decode cJ8_newLength_cabcc 16 = .ok (.if_icmp .gt 5, 3) := by decide +kernel
theorem dJ8_newLength_cabcc_19 : decode cJ8_newLength_cabcc 19 = .ok (.iload_n 3, 1) := by decide +kernel
theorem dJ8_newLength_cabcc_20 : decode cJ8_newLength_cabcc 20 = .ok (.ireturn, 1) := by decide +kernel
theorem dJ8_newLength_cabcc_21 : decode cJ8_newLength_cabcc 21 = .ok (.iload_n 0, 1) := by decide +kernel
theorem dJ8_newLength_cabcc_22 : decode cJ8_newLength_cabcc 22 = .ok (.iload_n 1, 1) := by decide +kernel
theorem dJ8_newLength_cabcc_23 : decode cJ8_newLength_cabcc 23 = .ok (.invokestatic 201, 3) := by decide +kernel
theorem dJ8_newLength_cabcc_26 : decode cJ8_newLength_cabcc 26 = .ok (.ireturn, 1) := by decide +kernel
theorem dJ8_hugeLength_7cf53_0 : decode cJ8_hugeLength_7cf53 0 = .ok (.iload_n 0, 1) := by decide +kernel
theorem dJ8_hugeLength_7cf53_1 : decode cJ8_hugeLength_7cf53 1 = .ok (.iload_n 1, 1) := by decide +kernel
theorem dJ8_hugeLength_7cf53_2 : decode cJ8_hugeLength_7cf53 2 = .ok (.iadd, 1) := by decide +kernel
theorem dJ8_hugeLength_7cf53_3 : decode cJ8_hugeLength_7cf53 3 = .ok (.istore_n 2, 1) := by decide +kernel
theorem dJ8_hugeLength_7cf53_4 : decode cJ8_hugeLength_7cf53 4 = .ok (.iload_n 2, 1) := by decide +kernel
theorem dJ8_hugeLength_7cf53_5 : decode cJ8_hugeLength_7cf53 5 = .ok (.ifCond .ge 44, 3) := by decide +kernel
theorem dJ8_hugeLength_7cf53_8 : decode cJ8_hugeLength_7cf53 8 = .ok (.new 204, 3) := by decide +kernel
theorem dJ8_hugeLength_7cf53_11 : decode cJ8_hugeLength_7cf53 11 = .ok (.dup, 1) := by decide +kernel
end
section
theorem dJ8_hugeLength_7cf53_12 : decode cJ8_hugeLength_7cf53 12 = .ok (.new 89, 3) := by decide +kernel
theorem dJ8_hugeLength_7cf53_15 : decode cJ8_hugeLength_7cf53 15 = .ok (.dup, 1) := by decide +kernel
theorem dJ8_hugeLength_7cf53_16 : decode cJ8_hugeLength_7cf53 16 = .ok (.invokespecial 91, 3) := by decide +kernel
theorem dJ8_hugeLength_7cf53_19 : decode cJ8_hugeLength_7cf53 19 = .ok (.ldc 206, 2) := by decide +kernel
theorem dJ8_hugeLength_7cf53_21 : decode cJ8_hugeLength_7cf53 21 = .ok (.invokevirtual 94, 3) := by decide +kernel
theorem dJ8_hugeLength_7cf53_24 : decode cJ8_hugeLength_7cf53 24 = .ok (.iload_n 0, 1) := by decide +kernel
theorem dJ8_hugeLength_7cf53_25 : decode cJ8_hugeLength_7cf53 25 = .ok (.invokevirtual 98, 3) := by decide +kernel
theorem dJ8_hugeLength_7cf53_28 : decode cJ8_hugeLength_7cf53 28 = .ok (.ldc 208, 2) := by decide +kernel
theorem dJ8_hugeLength_7cf53_30 : decode cJ8_hugeLength_7cf53 30 = .ok (.invokevirtual 94, 3) := by decide +kernel
theorem dJ8_hugeLength_7cf53_33 : decode cJ8_hugeLength_7cf53 33 = .ok (.iload_n 1, 1) := by decide +kernel
theorem dJ8_hugeLength_7cf53_34 : decode cJ8_hugeLength_7cf53 34 = .ok (.invokevirtual 98, 3) := by decide +kernel
theorem dJ8_hugeLength_7cf53_37 : decode cJ8_hugeLength_7cf53 37 = .ok (.ldc 210, 2) := by decide +kernel
theorem dJ8_hugeLength_7cf53_39 : decode cJ8_hugeLength_7cf53 39 = .ok (.invokevirtual 94, 3) := by decide +kernel
theorem dJ8_hugeLength_7cf53_42 : decode cJ8_hugeLength_7cf53 42 = .ok (.invokevirtual 101, 3) := by decide +kernel
theorem dJ8_hugeLength_7cf53_45 : decode cJ8_hugeLength_7cf53 45 = .ok (.invokespecial 212, 3) := by decide +kernel
theorem dJ8_hugeLength_7cf53_48 : decode cJ8_hugeLength_7cf53 48 = .ok (.athrow, 1) := by decide +kernel
theorem dJ8_hugeLength_7cf53_49 : decode cJ8_hugeLength_7cf53 49 = .ok (.iload_n 2, 1) := by decide +kernel
theorem dJ8_hugeLength_7cf53_50 : decode cJ8_hugeLength_7cf53 50 = .ok (.ldc 200, 2) := by decide +kernel
theorem dJ8_hugeLength_7cf53_52 : decode cJ8_hugeLength_7cf53 52 = .ok (.if_icmp .gt 6, 3) := by decide +kernel
theorem dJ8_hugeLength_7cf53_55 : decode cJ8_hugeLength_7cf53 55 = .ok (.ldc 200, 2) := by decide +kernel
theorem dJ8_hugeLength_7cf53_57 : decode cJ8_hugeLength_7cf53 57 = .ok (.ireturn, 1) := by decide +kernel
theorem dJ8_hugeLength_7cf53_58 : decode cJ8_hugeLength_7cf53 58 = .ok (.iload_n 2, 1) := by decide +kernel
theorem dJ8_hugeLength_7cf53_59 : decode cJ8_hugeLength_7cf53 59 = .ok (.ireturn, 1) := by decide +kernel
theorem dJ3_checkIndex_8e157_0 : decode cJ3_checkIndex_8e157 0 = .ok (.iload_n 0, 1) := by decide +kernel
theorem dJ3_checkIndex_8e157_1 : decode cJ3_checkIndex_8e157 1 = .ok (.ifCond .lt 8, 3) := by decide +kernel
theorem dJ3_checkIndex_8e157_4 : decode cJ3_checkIndex_8e157 4 = .ok (.iload_n 0, 1) := by decide +kernel
theorem dJ3_checkIndex_8e157_5 : decode cJ3_checkIndex_8e157 5 = .ok (.iload_n 1, 1) := by decide +kernel
theorem dJ3_checkIndex_8e157_6 : decode cJ3_checkIndex_8e157 6 = .ok (.if_icmp .lt 10, 3) := by decide +kernel
theorem dJ3_checkIndex_8e157_9 : decode cJ3_checkIndex_8e157 9 = .ok (.aload_n 2, 1) := by decide +kernel
theorem dJ3_checkIndex_8e157_10 : decode cJ3_checkIndex_8e157 10 = .ok (.iload_n 0, 1) := by decide +kernel
theorem dJ3_checkIndex_8e157_11 : decode cJ3_checkIndex_8e157 11 = .ok (.iload_n 1, 1) := by decide +kernel
theorem dJ3_checkIndex_8e157_12 : decode cJ3_checkIndex_8e157 12 = .ok (.invokestatic 95, 3) := by decide +kernel
theorem dJ3_checkIndex_8e157_15 : decode cJ3_checkIndex_8e157 15 = .ok (.athrow, 1) := by decide +kernel
theorem dJ3_checkIndex_8e157_16 : decode cJ3_checkIndex_8e157 16 = .ok (.iload_n 0, 1) := by decide +kernel
theorem dJ3_checkIndex_8e157_17 : decode cJ3_checkIndex_8e157 17 = .ok (.ireturn, 1) := by decide +kernel
theorem dL_addNode_0 : decode cL_addNode 0 = .ok (.aload_n 1, 1) := by decide +kernel
theorem dL_addNode_1 : decode cL_addNode 1 = .ok (.iconst 0, 1) := by decide +kernel
theorem dL_addNode_2 : decode cL_addNode 2 = .ok (.aload_n 0, 1) := by decide +kernel
theorem dL_addNode_3 : decode cL_addNode 3 = .ok (.invokevirtual 7, 3) := by decide +kernel
theorem dL_addNode_6 : decode cL_addNode 6 = .ok (.i2l, 1) := by decide +kernel
theorem dL_addNode_7 : decode cL_addNode 7 = .ok (.lastore, 1) := by decide +kernel
theorem dL_addNode_8 : decode cL_addNode 8 = .ok (.goto 6, 3) := by decide +kernel
theorem dL_addNode_11 : decode cL_addNode 11 = .ok (.astore_n 2, 1) := by decide +kernel
theorem dL_addNode_12 : decode cL_addNode 12 = .ok (.iconst 1, 1) := by decide +kernel
theorem dL_addNode_13 : decode cL_addNode 13 = .ok (.ireturn, 1) := by decide +kernel
theorem dL_addNode_14 : decode cL_addNode 14 = .ok (.iconst 0, 1) := by decide +kernel
theorem dL_addNode_15 : decode cL_addNode 15 = .ok (.ireturn, 1) := by decide +kernel
theorem dL_rail_0 : decode cL_rail 0 = .ok (.aload 4, 2) := by decide +kernel
theorem dL_rail_2 : decode cL_rail 2 = .ok (.iconst 0, 1) := by decide +kernel
theorem dL_rail_3 : decode cL_rail 3 = .ok (.aload_n 0, 1) := by decide +kernel
theorem dL_rail_4 : decode cL_rail 4 = .ok (.iload_n 1, 1) := by decide +kernel
theorem dL_rail_5 : decode cL_rail 5 = .ok (.iload_n 2, 1) := by decide +kernel
theorem dL_rail_6 : decode cL_rail 6 = .ok (.iload_n 3, 1) := by decide +kernel
theorem dL_rail_7 : decode cL_rail 7 = .ok (.invokevirtual 15, 3) := by decide +kernel
theorem dL_rail_10 : decode cL_rail 10 = .ok (.ifCond .eq 7, 3) := by decide +kernel
theorem dL_rail_13 : decode cL_rail 13 = .ok (.lconst 1, 1) := by decide +kernel
theorem dL_rail_14 : decode cL_rail 14 = .ok (.goto 4, 3) := by decide +kernel
theorem dL_rail_17 : decode cL_rail 17 = .ok (.lconst 0, 1) := by decide +kernel
theorem dL_rail_18 : decode cL_rail 18 = .ok (.lastore, 1) := by decide +kernel
theorem dL_rail_19 : decode cL_rail 19 = .ok (.goto 11, 3) := by decide +kernel
theorem dL_rail_22 : decode cL_rail 22 = .ok (.astore 5, 2) := by decide +kernel
theorem dL_rail_24 : decode cL_rail 24 = .ok (.iconst 1, 1) := by decide +kernel
theorem dL_rail_25 : decode cL_rail 25 = .ok (.ireturn, 1) := by decide +kernel
theorem dL_rail_26 : decode cL_rail 26 = .ok (.astore 5, 2) := by decide +kernel
theorem dL_rail_28 : decode cL_rail 28 = .ok (.iconst 2, 1) := by decide +kernel
theorem dL_rail_29 : decode cL_rail 29 = .ok (.ireturn, 1) := by decide +kernel
theorem dL_rail_30 : decode cL_rail 30 = .ok (.iconst 0, 1) := by decide +kernel
theorem dL_rail_31 : decode cL_rail 31 = .ok (.ireturn, 1) := by decide +kernel
theorem dL_addElement_0 : decode cL_addElement 0 = .ok (.aload 5, 2) := by decide +kernel
theorem dL_addElement_2 : decode cL_addElement 2 = .ok (.iconst 0, 1) := by decide +kernel
theorem dL_addElement_3 : decode cL_addElement 3 = .ok (.aload_n 0, 1) := by decide +kernel
theorem dL_addElement_4 : decode cL_addElement 4 = .ok (.iload_n 1, 1) := by decide +kernel
theorem dL_addElement_5 : decode cL_addElement 5 = .ok (.iload_n 2, 1) := by decide +kernel
theorem dL_addElement_6 : decode cL_addElement 6 = .ok (.iload_n 3, 1) := by decide +kernel
theorem dL_addElement_7 : decode cL_addElement 7 = .ok (.iload 4, 2) := by decide +kernel
theorem dL_addElement_9 : decode cL_addElement 9 = .ok (.invokevirtual 23, 3) := by decide +kernel
theorem dL_addElement_12 : decode cL_addElement 12 = .ok (.i2l, 1) := by decide +kernel
theorem dL_addElement_13 : decode cL_addElement 13 = .ok (.lastore, 1) := by decide +kernel
theorem dL_addElement_14 : decode cL_addElement 14 = .ok (.goto 15, 3) := by decide +kernel
theorem dL_addElement_17 : decode cL_addElement 17 = .ok (.astore 6, 2) := by decide +kernel
theorem dL_addElement_19 : decode cL_addElement 19 = .ok (.iconst 1, 1) := by decide +kernel
theorem dL_addElement_20 : decode cL_addElement 20 = .ok (.ireturn, 1) := by decide +kernel
theorem dL_addElement_21 : decode cL_addElement 21 = .ok (.astore 6, 2) := by decide +kernel
theorem dL_addElement_23 : decode cL_addElement 23 = .ok (.iconst 2, 1) := by decide +kernel
theorem dL_addElement_24 : decode cL_addElement 24 = .ok (.ireturn, 1) := by decide +kernel
theorem dL_addElement_25 : decode cL_addElement 25 = .ok (.astore 6, 2) := by decide +kernel
theorem dL_addElement_27 : decode cL_addElement 27 = .ok (.iconst 3, 1) := by decide +kernel
theorem dL_addElement_28 : decode cL_addElement 28 = .ok (.ireturn, 1) := by decide +kernel
theorem dL_addElement_29 : decode cL_addElement 29 = .ok (.iconst 0, 1) := by decide +kernel
theorem dL_addElement_30 : decode cL_addElement 30 = .ok (.ireturn, 1) := by decide +kernel
theorem dL_resize_0 : decode cL_resize 0 = .ok (.aload_n 3, 1) := by decide +kernel
theorem dL_resize_1 : decode cL_resize 1 = .ok (.iconst 0, 1) := by decide +kernel
theorem dL_resize_2 : decode cL_resize 2 = .ok (.aload_n 0, 1) := by decide +kernel
theorem dL_resize_3 : decode cL_resize 3 = .ok (.iload_n 1, 1) := by decide +kernel
theorem dL_resize_4 : decode cL_resize 4 = .ok (.iload_n 2, 1) := by decide +kernel
theorem dL_resize_5 : decode cL_resize 5 = .ok (.invokevirtual 27, 3) := by decide +kernel
theorem dL_resize_8 : decode cL_resize 8 = .ok (.i2l, 1) := by decide +kernel
theorem dL_resize_9 : decode cL_resize 9 = .ok (.lastore, 1) := by decide +kernel
theorem dL_resize_10 : decode cL_resize 10 = .ok (.goto 11, 3) := by decide +kernel
theorem dL_resize_13 : decode cL_resize 13 = .ok (.astore 4, 2) := by decide +kernel
theorem dL_resize_15 : decode cL_resize 15 = .ok (.iconst 1, 1) := by decide +kernel
theorem dL_resize_16 : decode cL_resize 16 = .ok (.ireturn, 1) := by decide +kernel
theorem dL_resize_17 : decode cL_resize 17 = .ok (.astore 4, 2) := by decide +kernel
theorem dL_resize_19 : decode cL_resize 19 = .ok (.iconst 2, 1) := by decide +kernel
theorem dL_resize_20 : decode cL_resize 20 = .ok (.ireturn, 1) := by decide +kernel
theorem dL_resize_21 : decode cL_resize 21 = .ok (.iconst 0, 1) := by decide +kernel
theorem dL_resize_22 : decode cL_resize 22 = .ok (.ireturn, 1) := by decide +kernel
theorem dL_begin_0 : decode cL_begin 0 = .ok (.aload_n 3, 1) := by decide +kernel
theorem dL_begin_1 : decode cL_begin 1 = .ok (.iconst 0, 1) := by decide +kernel
theorem dL_begin_2 : decode cL_begin 2 = .ok (.aload_n 0, 1) := by decide +kernel
theorem dL_begin_3 : decode cL_begin 3 = .ok (.iload_n 1, 1) := by decide +kernel
theorem dL_begin_4 : decode cL_begin 4 = .ok (.iload_n 2, 1) := by decide +kernel
theorem dL_begin_5 : decode cL_begin 5 = .ok (.invokevirtual 31, 3) := by decide +kernel
theorem dL_begin_8 : decode cL_begin 8 = .ok (.ifCond .eq 7, 3) := by decide +kernel
theorem dL_begin_11 : decode cL_begin 11 = .ok (.lconst 1, 1) := by decide +kernel
theorem dL_begin_12 : decode cL_begin 12 = .ok (.goto 4, 3) := by decide +kernel
theorem dL_begin_15 : decode cL_begin 15 = .ok (.lconst 0, 1) := by decide +kernel
theorem dL_begin_16 : decode cL_begin 16 = .ok (.lastore, 1) := by decide +kernel
theorem dL_begin_17 : decode cL_begin 17 = .ok (.goto 7, 3) := by decide +kernel
theorem dL_begin_20 : decode cL_begin 20 = .ok (.astore 4, 2) := by decide +kernel
theorem dL_begin_22 : decode cL_begin 22 = .ok (.iconst 1, 1) := by decide +kernel
theorem dL_begin_23 : decode cL_begin 23 = .ok (.ireturn, 1) := by decide +kernel
theorem dL_begin_24 : decode cL_begin 24 = .ok (.iconst 0, 1) := by decide +kernel
theorem dL_begin_25 : decode cL_begin 25 = .ok (.ireturn, 1) := by decide +kernel
theorem dL_toggle_0 : decode cL_toggle 0 = .ok (.aload_n 3, 1) := by decide +kernel
theorem dL_toggle_1 : decode cL_toggle 1 = .ok (.iconst 0, 1) := by decide +kernel
theorem dL_toggle_2 : decode cL_toggle 2 = .ok (.aload_n 0, 1) := by decide +kernel
theorem dL_toggle_3 : decode cL_toggle 3 = .ok (.iload_n 1, 1) := by decide +kernel
theorem dL_toggle_4 : decode cL_toggle 4 = .ok (.iload_n 2, 1) := by decide +kernel
theorem dL_toggle_5 : decode cL_toggle 5 = .ok (.invokevirtual 35, 3) := by decide +kernel
theorem dL_toggle_8 : decode cL_toggle 8 = .ok (.i2l, 1) := by decide +kernel
theorem dL_toggle_9 : decode cL_toggle 9 = .ok (.lastore, 1) := by decide +kernel
theorem dL_toggle_10 : decode cL_toggle 10 = .ok (.goto 15, 3) := by decide +kernel
theorem dL_toggle_13 : decode cL_toggle 13 = .ok (.astore 4, 2) := by decide +kernel
theorem dL_toggle_15 : decode cL_toggle 15 = .ok (.iconst 1, 1) := by decide +kernel
theorem dL_toggle_16 : decode cL_toggle 16 = .ok (.ireturn, 1) := by decide +kernel
theorem dL_toggle_17 : decode cL_toggle 17 = .ok (.astore 4, 2) := by decide +kernel
theorem dL_toggle_19 : decode cL_toggle 19 = .ok (.iconst 2, 1) := by decide +kernel
theorem dL_toggle_20 : decode cL_toggle 20 = .ok (.ireturn, 1) := by decide +kernel
theorem dL_toggle_21 : decode cL_toggle 21 = .ok (.astore 4, 2) := by decide +kernel
theorem dL_toggle_23 : decode cL_toggle 23 = .ok (.iconst 3, 1) := by decide +kernel
theorem dL_toggle_24 : decode cL_toggle 24 = .ok (.ireturn, 1) := by decide +kernel
theorem dL_toggle_25 : decode cL_toggle 25 = .ok (.iconst 0, 1) := by decide +kernel
theorem dL_toggle_26 : decode cL_toggle 26 = .ok (.ireturn, 1) := by decide +kernel
theorem dL_count_0 : decode cL_count 0 = .ok (.aload_n 2, 1) := by decide +kernel
theorem dL_count_1 : decode cL_count 1 = .ok (.iconst 0, 1) := by decide +kernel
theorem dL_count_2 : decode cL_count 2 = .ok (.aload_n 0, 1) := by decide +kernel
theorem dL_count_3 : decode cL_count 3 = .ok (.iload_n 1, 1) := by decide +kernel
theorem dL_count_4 : decode cL_count 4 = .ok (.invokevirtual 38, 3) := by decide +kernel
theorem dL_count_7 : decode cL_count 7 = .ok (.i2l, 1) := by decide +kernel
theorem dL_count_8 : decode cL_count 8 = .ok (.lastore, 1) := by decide +kernel
theorem dL_count_9 : decode cL_count 9 = .ok (.goto 6, 3) := by decide +kernel
theorem dL_count_12 : decode cL_count 12 = .ok (.astore_n 3, 1) := by decide +kernel
theorem dL_count_13 : decode cL_count 13 = .ok (.iconst 1, 1) := by decide +kernel
theorem dL_count_14 : decode cL_count 14 = .ok (.ireturn, 1) := by decide +kernel
theorem dL_count_15 : decode cL_count 15 = .ok (.iconst 0, 1) := by decide +kernel
theorem dL_count_16 : decode cL_count 16 = .ok (.ireturn, 1) := by decide +kernel
theorem dL_element_0 : decode cL_element 0 = .ok (.aload_n 3, 1) := by decide +kernel
theorem dL_element_1 : decode cL_element 1 = .ok (.iconst 0, 1) := by decide +kernel
theorem dL_element_2 : decode cL_element 2 = .ok (.aload_n 0, 1) := by decide +kernel
theorem dL_element_3 : decode cL_element 3 = .ok (.iload_n 1, 1) := by decide +kernel
theorem dL_element_4 : decode cL_element 4 = .ok (.iload_n 2, 1) := by decide +kernel
theorem dL_element_5 : decode cL_element 5 = .ok (.invokevirtual 42, 3) := by decide +kernel
theorem dL_element_8 : decode cL_element 8 = .ok (.i2l, 1) := by decide +kernel
theorem dL_element_9 : decode cL_element 9 = .ok (.lastore, 1) := by decide +kernel
theorem dL_element_10 : decode cL_element 10 = .ok (.goto 7, 3) := by decide +kernel
theorem dL_element_13 : decode cL_element 13 = .ok (.astore 4, 2) := by decide +kernel
theorem dL_element_15 : decode cL_element 15 = .ok (.iconst 1, 1) := by decide +kernel
theorem dL_element_16 : decode cL_element 16 = .ok (.ireturn, 1) := by decide +kernel
theorem dL_element_17 : decode cL_element 17 = .ok (.iconst 0, 1) := by decide +kernel
theorem dL_element_18 : decode cL_element 18 = .ok (.ireturn, 1) := by decide +kernel
theorem dL_toggleAt_0 : decode cL_toggleAt 0 = .ok (.aload_n 3, 1) := by decide +kernel
theorem dL_toggleAt_1 : decode cL_toggleAt 1 = .ok (.iconst 0, 1) := by decide +kernel
theorem dL_toggleAt_2 : decode cL_toggleAt 2 = .ok (.aload_n 0, 1) := by decide +kernel
theorem dL_toggleAt_3 : decode cL_toggleAt 3 = .ok (.iload_n 1, 1) := by decide +kernel
theorem dL_toggleAt_4 : decode cL_toggleAt 4 = .ok (.iload_n 2, 1) := by decide +kernel
theorem dL_toggleAt_5 : decode cL_toggleAt 5 = .ok (.invokevirtual 45, 3) := by decide +kernel
theorem dL_toggleAt_8 : decode cL_toggleAt 8 = .ok (.i2l, 1) := by decide +kernel
theorem dL_toggleAt_9 : decode cL_toggleAt 9 = .ok (.lastore, 1) := by decide +kernel
theorem dL_toggleAt_10 : decode cL_toggleAt 10 = .ok (.goto 7, 3) := by decide +kernel
theorem dL_toggleAt_13 : decode cL_toggleAt 13 = .ok (.astore 4, 2) := by decide +kernel
theorem dL_toggleAt_15 : decode cL_toggleAt 15 = .ok (.iconst 1, 1) := by decide +kernel
theorem dL_toggleAt_16 : decode cL_toggleAt 16 = .ok (.ireturn, 1) := by decide +kernel
theorem dL_toggleAt_17 : decode cL_toggleAt 17 = .ok (.iconst 0, 1) := by decide +kernel
theorem dL_toggleAt_18 : decode cL_toggleAt 18 = .ok (.ireturn, 1) := by decide +kernel
theorem dL_isOn_0 : decode cL_isOn 0 = .ok (.aload_n 3, 1) := by decide +kernel
theorem dL_isOn_1 : decode cL_isOn 1 = .ok (.iconst 0, 1) := by decide +kernel
theorem dL_isOn_2 : decode cL_isOn 2 = .ok (.aload_n 0, 1) := by decide +kernel
theorem dL_isOn_3 : decode cL_isOn 3 = .ok (.iload_n 1, 1) := by decide +kernel
theorem dL_isOn_4 : decode cL_isOn 4 = .ok (.iload_n 2, 1) := by decide +kernel
theorem dL_isOn_5 : decode cL_isOn 5 = .ok (.invokevirtual 48, 3) := by decide +kernel
theorem dL_isOn_8 : decode cL_isOn 8 = .ok (.ifCond .eq 7, 3) := by decide +kernel
theorem dL_isOn_11 : decode cL_isOn 11 = .ok (.lconst 1, 1) := by decide +kernel
theorem dL_isOn_12 : decode cL_isOn 12 = .ok (.goto 4, 3) := by decide +kernel
theorem dL_isOn_15 : decode cL_isOn 15 = .ok (.lconst 0, 1) := by decide +kernel
theorem dL_isOn_16 : decode cL_isOn 16 = .ok (.lastore, 1) := by decide +kernel
theorem dL_isOn_17 : decode cL_isOn 17 = .ok (.goto 11, 3) := by decide +kernel
theorem dL_isOn_20 : decode cL_isOn 20 = .ok (.astore 4, 2) := by decide +kernel
theorem dL_isOn_22 : decode cL_isOn 22 = .ok (.iconst 1, 1) := by decide +kernel
theorem dL_isOn_23 : decode cL_isOn 23 = .ok (.ireturn, 1) := by decide +kernel
theorem dL_isOn_24 : decode cL_isOn 24 = .ok (.astore 4, 2) := by decide +kernel
theorem dL_isOn_26 : decode cL_isOn 26 = .ok (.iconst 2, 1) := by decide +kernel
theorem dL_isOn_27 : decode cL_isOn 27 = .ok (.ireturn, 1) := by decide +kernel
theorem dL_isOn_28 : decode cL_isOn 28 = .ok (.iconst 0, 1) := by decide +kernel
theorem dL_isOn_29 : decode cL_isOn 29 = .ok (.ireturn, 1) := by decide +kernel
theorem dL_together_0 : decode cL_together 0 = .ok (.aload_n 3, 1) := by decide +kernel
theorem dL_together_1 : decode cL_together 1 = .ok (.iconst 0, 1) := by decide +kernel
theorem dL_together_2 : decode cL_together 2 = .ok (.aload_n 0, 1) := by decide +kernel
theorem dL_together_3 : decode cL_together 3 = .ok (.iload_n 1, 1) := by decide +kernel
theorem dL_together_4 : decode cL_together 4 = .ok (.iload_n 2, 1) := by decide +kernel
theorem dL_together_5 : decode cL_together 5 = .ok (.invokevirtual 52, 3) := by decide +kernel
theorem dL_together_8 : decode cL_together 8 = .ok (.i2l, 1) := by decide +kernel
theorem dL_together_9 : decode cL_together 9 = .ok (.lastore, 1) := by decide +kernel
theorem dL_together_10 : decode cL_together 10 = .ok (.goto 11, 3) := by decide +kernel
theorem dL_together_13 : decode cL_together 13 = .ok (.astore 4, 2) := by decide +kernel
theorem dL_together_15 : decode cL_together 15 = .ok (.iconst 1, 1) := by decide +kernel
theorem dL_together_16 : decode cL_together 16 = .ok (.ireturn, 1) := by decide +kernel
theorem dL_together_17 : decode cL_together 17 = .ok (.astore 4, 2) := by decide +kernel
theorem dL_together_19 : decode cL_together 19 = .ok (.iconst 2, 1) := by decide +kernel
theorem dL_together_20 : decode cL_together 20 = .ok (.ireturn, 1) := by decide +kernel
theorem dL_together_21 : decode cL_together 21 = .ok (.iconst 0, 1) := by decide +kernel
theorem dL_together_22 : decode cL_together 22 = .ok (.ireturn, 1) := by decide +kernel
theorem dL_floats_0 : decode cL_floats 0 = .ok (.aload_n 3, 1) := by decide +kernel
theorem dL_floats_1 : decode cL_floats 1 = .ok (.iconst 0, 1) := by decide +kernel
theorem dL_floats_2 : decode cL_floats 2 = .ok (.aload_n 0, 1) := by decide +kernel
theorem dL_floats_3 : decode cL_floats 3 = .ok (.iload_n 1, 1) := by decide +kernel
theorem dL_floats_4 : decode cL_floats 4 = .ok (.iload_n 2, 1) := by decide +kernel
theorem dL_floats_5 : decode cL_floats 5 = .ok (.invokevirtual 55, 3) := by decide +kernel
theorem dL_floats_8 : decode cL_floats 8 = .ok (.ifCond .eq 7, 3) := by decide +kernel
theorem dL_floats_11 : decode cL_floats 11 = .ok (.lconst 1, 1) := by decide +kernel
theorem dL_floats_12 : decode cL_floats 12 = .ok (.goto 4, 3) := by decide +kernel
theorem dL_floats_15 : decode cL_floats 15 = .ok (.lconst 0, 1) := by decide +kernel
theorem dL_floats_16 : decode cL_floats 16 = .ok (.lastore, 1) := by decide +kernel
theorem dL_floats_17 : decode cL_floats 17 = .ok (.goto 11, 3) := by decide +kernel
theorem dL_floats_20 : decode cL_floats 20 = .ok (.astore 4, 2) := by decide +kernel
theorem dL_floats_22 : decode cL_floats 22 = .ok (.iconst 1, 1) := by decide +kernel
theorem dL_floats_23 : decode cL_floats 23 = .ok (.ireturn, 1) := by decide +kernel
theorem dL_floats_24 : decode cL_floats 24 = .ok (.astore 4, 2) := by decide +kernel
theorem dL_floats_26 : decode cL_floats 26 = .ok (.iconst 2, 1) := by decide +kernel
theorem dL_floats_27 : decode cL_floats 27 = .ok (.ireturn, 1) := by decide +kernel
theorem dL_floats_28 : decode cL_floats 28 = .ok (.iconst 0, 1) := by decide +kernel
theorem dL_floats_29 : decode cL_floats 29 = .ok (.ireturn, 1) := by decide +kernel
theorem dL_potential_0 : decode cL_potential 0 = .ok (.aload 4, 2) := by decide +kernel
theorem dL_potential_2 : decode cL_potential 2 = .ok (.iconst 0, 1) := by decide +kernel
theorem dL_potential_3 : decode cL_potential 3 = .ok (.aload_n 0, 1) := by decide +kernel
theorem dL_potential_4 : decode cL_potential 4 = .ok (.iload_n 1, 1) := by decide +kernel
theorem dL_potential_5 : decode cL_potential 5 = .ok (.iload_n 2, 1) := by decide +kernel
theorem dL_potential_6 : decode cL_potential 6 = .ok (.iload_n 3, 1) := by decide +kernel
theorem dL_potential_7 : decode cL_potential 7 = .ok (.invokevirtual 58, 3) := by decide +kernel
theorem dL_potential_10 : decode cL_potential 10 = .ok (.lastore, 1) := by decide +kernel
theorem dL_potential_11 : decode cL_potential 11 = .ok (.goto 15, 3) := by decide +kernel
theorem dL_potential_14 : decode cL_potential 14 = .ok (.astore 5, 2) := by decide +kernel
theorem dL_potential_16 : decode cL_potential 16 = .ok (.iconst 1, 1) := by decide +kernel
theorem dL_potential_17 : decode cL_potential 17 = .ok (.ireturn, 1) := by decide +kernel
theorem dL_potential_18 : decode cL_potential 18 = .ok (.astore 5, 2) := by decide +kernel
theorem dL_potential_20 : decode cL_potential 20 = .ok (.iconst 2, 1) := by decide +kernel
theorem dL_potential_21 : decode cL_potential 21 = .ok (.ireturn, 1) := by decide +kernel
theorem dL_potential_22 : decode cL_potential 22 = .ok (.astore 5, 2) := by decide +kernel
theorem dL_potential_24 : decode cL_potential 24 = .ok (.iconst 3, 1) := by decide +kernel
theorem dL_potential_25 : decode cL_potential 25 = .ok (.ireturn, 1) := by decide +kernel
theorem dL_potential_26 : decode cL_potential 26 = .ok (.iconst 0, 1) := by decide +kernel
theorem dL_potential_27 : decode cL_potential 27 = .ok (.ireturn, 1) := by decide +kernel
theorem dL_current_0 : decode cL_current 0 = .ok (.aload 4, 2) := by decide +kernel
theorem dL_current_2 : decode cL_current 2 = .ok (.iconst 0, 1) := by decide +kernel
theorem dL_current_3 : decode cL_current 3 = .ok (.aload_n 0, 1) := by decide +kernel
theorem dL_current_4 : decode cL_current 4 = .ok (.iload_n 1, 1) := by decide +kernel
theorem dL_current_5 : decode cL_current 5 = .ok (.iload_n 2, 1) := by decide +kernel
theorem dL_current_6 : decode cL_current 6 = .ok (.iload_n 3, 1) := by decide +kernel
theorem dL_current_7 : decode cL_current 7 = .ok (.invokevirtual 62, 3) := by decide +kernel
theorem dL_current_10 : decode cL_current 10 = .ok (.lastore, 1) := by decide +kernel
theorem dL_current_11 : decode cL_current 11 = .ok (.goto 15, 3) := by decide +kernel
theorem dL_current_14 : decode cL_current 14 = .ok (.astore 5, 2) := by decide +kernel
theorem dL_current_16 : decode cL_current 16 = .ok (.iconst 1, 1) := by decide +kernel
theorem dL_current_17 : decode cL_current 17 = .ok (.ireturn, 1) := by decide +kernel
theorem dL_current_18 : decode cL_current 18 = .ok (.astore 5, 2) := by decide +kernel
theorem dL_current_20 : decode cL_current 20 = .ok (.iconst 2, 1) := by decide +kernel
theorem dL_current_21 : decode cL_current 21 = .ok (.ireturn, 1) := by decide +kernel
theorem dL_current_22 : decode cL_current 22 = .ok (.astore 5, 2) := by decide +kernel
theorem dL_current_24 : decode cL_current 24 = .ok (.iconst 3, 1) := by decide +kernel
theorem dL_current_25 : decode cL_current 25 = .ok (.ireturn, 1) := by decide +kernel
theorem dL_current_26 : decode cL_current 26 = .ok (.iconst 0, 1) := by decide +kernel
theorem dL_current_27 : decode cL_current 27 = .ok (.ireturn, 1) := by decide +kernel
theorem dL_feed_0 : decode cL_feed 0 = .ok (.aload 4, 2) := by decide +kernel
theorem dL_feed_2 : decode cL_feed 2 = .ok (.iconst 0, 1) := by decide +kernel
theorem dL_feed_3 : decode cL_feed 3 = .ok (.aload_n 0, 1) := by decide +kernel
theorem dL_feed_4 : decode cL_feed 4 = .ok (.iload_n 1, 1) := by decide +kernel
theorem dL_feed_5 : decode cL_feed 5 = .ok (.iload_n 2, 1) := by decide +kernel
theorem dL_feed_6 : decode cL_feed 6 = .ok (.iload_n 3, 1) := by decide +kernel
theorem dL_feed_7 : decode cL_feed 7 = .ok (.invokevirtual 65, 3) := by decide +kernel
theorem dL_feed_10 : decode cL_feed 10 = .ok (.lastore, 1) := by decide +kernel
theorem dL_feed_11 : decode cL_feed 11 = .ok (.goto 15, 3) := by decide +kernel
theorem dL_feed_14 : decode cL_feed 14 = .ok (.astore 5, 2) := by decide +kernel
theorem dL_feed_16 : decode cL_feed 16 = .ok (.iconst 1, 1) := by decide +kernel
theorem dL_feed_17 : decode cL_feed 17 = .ok (.ireturn, 1) := by decide +kernel
theorem dL_feed_18 : decode cL_feed 18 = .ok (.astore 5, 2) := by decide +kernel
theorem dL_feed_20 : decode cL_feed 20 = .ok (.iconst 2, 1) := by decide +kernel
theorem dL_feed_21 : decode cL_feed 21 = .ok (.ireturn, 1) := by decide +kernel
theorem dL_feed_22 : decode cL_feed 22 = .ok (.astore 5, 2) := by decide +kernel
theorem dL_feed_24 : decode cL_feed 24 = .ok (.iconst 3, 1) := by decide +kernel
theorem dL_feed_25 : decode cL_feed 25 = .ok (.ireturn, 1) := by decide +kernel
theorem dL_feed_26 : decode cL_feed 26 = .ok (.iconst 0, 1) := by decide +kernel
theorem dL_feed_27 : decode cL_feed 27 = .ok (.ireturn, 1) := by decide +kernel
theorem dL_resistance_0 : decode cL_resistance 0 = .ok (.aload 5, 2) := by decide +kernel
theorem dL_resistance_2 : decode cL_resistance 2 = .ok (.iconst 0, 1) := by decide +kernel
theorem dL_resistance_3 : decode cL_resistance 3 = .ok (.aload_n 0, 1) := by decide +kernel
theorem dL_resistance_4 : decode cL_resistance 4 = .ok (.iload_n 1, 1) := by decide +kernel
theorem dL_resistance_5 : decode cL_resistance 5 = .ok (.iload_n 2, 1) := by decide +kernel
theorem dL_resistance_6 : decode cL_resistance 6 = .ok (.iload_n 3, 1) := by decide +kernel
theorem dL_resistance_7 : decode cL_resistance 7 = .ok (.iload 4, 2) := by decide +kernel
theorem dL_resistance_9 : decode cL_resistance 9 = .ok (.invokevirtual 68, 3) := by decide +kernel
theorem dL_resistance_12 : decode cL_resistance 12 = .ok (.lastore, 1) := by decide +kernel
theorem dL_resistance_13 : decode cL_resistance 13 = .ok (.goto 15, 3) := by decide +kernel
theorem dL_resistance_16 : decode cL_resistance 16 = .ok (.astore 6, 2) := by decide +kernel
theorem dL_resistance_18 : decode cL_resistance 18 = .ok (.iconst 1, 1) := by decide +kernel
theorem dL_resistance_19 : decode cL_resistance 19 = .ok (.ireturn, 1) := by decide +kernel
theorem dL_resistance_20 : decode cL_resistance 20 = .ok (.astore 6, 2) := by decide +kernel
theorem dL_resistance_22 : decode cL_resistance 22 = .ok (.iconst 2, 1) := by decide +kernel
theorem dL_resistance_23 : decode cL_resistance 23 = .ok (.ireturn, 1) := by decide +kernel
theorem dL_resistance_24 : decode cL_resistance 24 = .ok (.astore 6, 2) := by decide +kernel
theorem dL_resistance_26 : decode cL_resistance 26 = .ok (.iconst 3, 1) := by decide +kernel
theorem dL_resistance_27 : decode cL_resistance 27 = .ok (.ireturn, 1) := by decide +kernel
theorem dL_resistance_28 : decode cL_resistance 28 = .ok (.iconst 0, 1) := by decide +kernel
theorem dL_resistance_29 : decode cL_resistance 29 = .ok (.ireturn, 1) := by decide +kernel
theorem dL_power_0 : decode cL_power 0 = .ok (.aload_n 2, 1) := by decide +kernel
theorem dL_power_1 : decode cL_power 1 = .ok (.iconst 0, 1) := by decide +kernel
theorem dL_power_2 : decode cL_power 2 = .ok (.aload_n 0, 1) := by decide +kernel
theorem dL_power_3 : decode cL_power 3 = .ok (.iload_n 1, 1) := by decide +kernel
theorem dL_power_4 : decode cL_power 4 = .ok (.invokevirtual 72, 3) := by decide +kernel
theorem dL_power_7 : decode cL_power 7 = .ok (.dastore, 1) := by decide +kernel
theorem dL_power_8 : decode cL_power 8 = .ok (.goto 6, 3) := by decide +kernel
theorem dL_power_11 : decode cL_power 11 = .ok (.astore_n 3, 1) := by decide +kernel
theorem dL_power_12 : decode cL_power 12 = .ok (.iconst 1, 1) := by decide +kernel
theorem dL_power_13 : decode cL_power 13 = .ok (.ireturn, 1) := by decide +kernel
theorem dL_power_14 : decode cL_power 14 = .ok (.iconst 0, 1) := by decide +kernel
theorem dL_power_15 : decode cL_power 15 = .ok (.ireturn, 1) := by decide +kernel
theorem dL_nextToggle_0 : decode cL_nextToggle 0 = .ok (.aload_n 2, 1) := by decide +kernel
theorem dL_nextToggle_1 : decode cL_nextToggle 1 = .ok (.iconst 0, 1) := by decide +kernel
theorem dL_nextToggle_2 : decode cL_nextToggle 2 = .ok (.aload_n 0, 1) := by decide +kernel
theorem dL_nextToggle_3 : decode cL_nextToggle 3 = .ok (.iload_n 1, 1) := by decide +kernel
theorem dL_nextToggle_4 : decode cL_nextToggle 4 = .ok (.invokevirtual 76, 3) := by decide +kernel
theorem dL_nextToggle_7 : decode cL_nextToggle 7 = .ok (.i2l, 1) := by decide +kernel
theorem dL_nextToggle_8 : decode cL_nextToggle 8 = .ok (.lastore, 1) := by decide +kernel
theorem dL_nextToggle_9 : decode cL_nextToggle 9 = .ok (.goto 6, 3) := by decide +kernel
theorem dL_nextToggle_12 : decode cL_nextToggle 12 = .ok (.astore_n 3, 1) := by decide +kernel
theorem dL_nextToggle_13 : decode cL_nextToggle 13 = .ok (.iconst 1, 1) := by decide +kernel
theorem dL_nextToggle_14 : decode cL_nextToggle 14 = .ok (.ireturn, 1) := by decide +kernel
theorem dL_nextToggle_15 : decode cL_nextToggle 15 = .ok (.iconst 0, 1) := by decide +kernel
theorem dL_nextToggle_16 : decode cL_nextToggle 16 = .ok (.ireturn, 1) := by decide +kernel
theorem dL_probe_0 : decode cL_probe 0 = .ok (.aload 5, 2) := by decide +kernel
theorem dL_probe_2 : decode cL_probe 2 = .ok (.iconst 0, 1) := by decide +kernel
theorem dL_probe_3 : decode cL_probe 3 = .ok (.aload_n 0, 1) := by decide +kernel
theorem dL_probe_4 : decode cL_probe 4 = .ok (.iload_n 1, 1) := by decide +kernel
theorem dL_probe_5 : decode cL_probe 5 = .ok (.iload_n 2, 1) := by decide +kernel
theorem dL_probe_6 : decode cL_probe 6 = .ok (.iload_n 3, 1) := by decide +kernel
theorem dL_probe_7 : decode cL_probe 7 = .ok (.iload 4, 2) := by decide +kernel
theorem dL_probe_9 : decode cL_probe 9 = .ok (.invokevirtual 79, 3) := by decide +kernel
theorem dL_probe_12 : decode cL_probe 12 = .ok (.i2l, 1) := by decide +kernel
theorem dL_probe_13 : decode cL_probe 13 = .ok (.lastore, 1) := by decide +kernel
theorem dL_probe_14 : decode cL_probe 14 = .ok (.goto 11, 3) := by decide +kernel
theorem dL_probe_17 : decode cL_probe 17 = .ok (.astore 6, 2) := by decide +kernel
theorem dL_probe_19 : decode cL_probe 19 = .ok (.iconst 1, 1) := by decide +kernel
theorem dL_probe_20 : decode cL_probe 20 = .ok (.ireturn, 1) := by decide +kernel
theorem dL_probe_21 : decode cL_probe 21 = .ok (.astore 6, 2) := by decide +kernel
theorem dL_probe_23 : decode cL_probe 23 = .ok (.iconst 2, 1) := by decide +kernel
theorem dL_probe_24 : decode cL_probe 24 = .ok (.ireturn, 1) := by decide +kernel
theorem dL_probe_25 : decode cL_probe 25 = .ok (.iconst 0, 1) := by decide +kernel
theorem dL_probe_26 : decode cL_probe 26 = .ok (.ireturn, 1) := by decide +kernel
theorem dL_compare_0 : decode cL_compare 0 = .ok (.aload 5, 2) := by decide +kernel
theorem dL_compare_2 : decode cL_compare 2 = .ok (.iconst 0, 1) := by decide +kernel
theorem dL_compare_3 : decode cL_compare 3 = .ok (.aload_n 0, 1) := by decide +kernel
theorem dL_compare_4 : decode cL_compare 4 = .ok (.iload_n 1, 1) := by decide +kernel
theorem dL_compare_5 : decode cL_compare 5 = .ok (.iload_n 2, 1) := by decide +kernel
theorem dL_compare_6 : decode cL_compare 6 = .ok (.iload_n 3, 1) := by decide +kernel
theorem dL_compare_7 : decode cL_compare 7 = .ok (.iload 4, 2) := by decide +kernel
theorem dL_compare_9 : decode cL_compare 9 = .ok (.invokevirtual 83, 3) := by decide +kernel
theorem dL_compare_12 : decode cL_compare 12 = .ok (.i2l, 1) := by decide +kernel
theorem dL_compare_13 : decode cL_compare 13 = .ok (.lastore, 1) := by decide +kernel
theorem dL_compare_14 : decode cL_compare 14 = .ok (.goto 15, 3) := by decide +kernel
theorem dL_compare_17 : decode cL_compare 17 = .ok (.astore 6, 2) := by decide +kernel
theorem dL_compare_19 : decode cL_compare 19 = .ok (.iconst 1, 1) := by decide +kernel
theorem dL_compare_20 : decode cL_compare 20 = .ok (.ireturn, 1) := by decide +kernel
theorem dL_compare_21 : decode cL_compare 21 = .ok (.astore 6, 2) := by decide +kernel
theorem dL_compare_23 : decode cL_compare 23 = .ok (.iconst 2, 1) := by decide +kernel
theorem dL_compare_24 : decode cL_compare 24 = .ok (.ireturn, 1) := by decide +kernel
theorem dL_compare_25 : decode cL_compare 25 = .ok (.astore 6, 2) := by decide +kernel
theorem dL_compare_27 : decode cL_compare 27 = .ok (.iconst 3, 1) := by decide +kernel
theorem dL_compare_28 : decode cL_compare 28 = .ok (.ireturn, 1) := by decide +kernel
theorem dL_compare_29 : decode cL_compare 29 = .ok (.iconst 0, 1) := by decide +kernel
theorem dL_compare_30 : decode cL_compare 30 = .ok (.ireturn, 1) := by decide +kernel
theorem dL_levels_0 : decode cL_levels 0 = .ok (.aload_n 2, 1) := by decide +kernel
theorem dL_levels_1 : decode cL_levels 1 = .ok (.iconst 0, 1) := by decide +kernel
theorem dL_levels_2 : decode cL_levels 2 = .ok (.aload_n 0, 1) := by decide +kernel
theorem dL_levels_3 : decode cL_levels 3 = .ok (.iload_n 1, 1) := by decide +kernel
theorem dL_levels_4 : decode cL_levels 4 = .ok (.invokevirtual 87, 3) := by decide +kernel
theorem dL_levels_7 : decode cL_levels 7 = .ok (.i2l, 1) := by decide +kernel
theorem dL_levels_8 : decode cL_levels 8 = .ok (.lastore, 1) := by decide +kernel
theorem dL_levels_9 : decode cL_levels 9 = .ok (.goto 6, 3) := by decide +kernel
theorem dL_levels_12 : decode cL_levels 12 = .ok (.astore_n 3, 1) := by decide +kernel
theorem dL_levels_13 : decode cL_levels 13 = .ok (.iconst 1, 1) := by decide +kernel
theorem dL_levels_14 : decode cL_levels 14 = .ok (.ireturn, 1) := by decide +kernel
theorem dL_levels_15 : decode cL_levels 15 = .ok (.iconst 0, 1) := by decide +kernel
theorem dL_levels_16 : decode cL_levels 16 = .ok (.ireturn, 1) := by decide +kernel
theorem dL_law_0 : decode cL_law 0 = .ok (.new 8, 3) := by decide +kernel
end
section
theorem dL_law_3 : decode cL_law 3 = .ok (.dup, 1) := by decide +kernel
theorem dL_law_4 : decode cL_law 4 = .ok (.invokespecial 90, 3) := by decide +kernel
theorem dL_law_7 : decode cL_law 7 = .ok (.astore_n 1, 1) := by decide +kernel
theorem dL_law_8 : decode cL_law 8 = .ok (.new 91, 3) := by decide +kernel
theorem dL_law_11 : decode cL_law 11 = .ok (.dup, 1) := by decide +kernel
theorem dL_law_12 : decode cL_law 12 = .ok (.invokespecial 93, 3) := by decide +kernel
theorem dL_law_15 : decode cL_law 15 = .ok (.astore_n 2, 1) := by decide +kernel
theorem dL_law_16 : decode cL_law 16 = .ok (.iconst 1, 1) := by decide +kernel
theorem dL_law_17 : decode cL_law 17 = .ok (.newarray .long, 2) := by decide +kernel
theorem dL_law_19 : decode cL_law 19 = .ok (.astore_n 3, 1) := by decide +kernel
theorem dL_law_20 : decode cL_law 20 = .ok (.iconst 1, 1) := by decide +kernel
theorem dL_law_21 : decode cL_law 21 = .ok (.newarray .double, 2) := by decide +kernel
theorem dL_law_23 : decode cL_law 23 = .ok (.astore 4, 2) := by decide +kernel
theorem dL_law_25 : decode cL_law 25 = .ok (.iconst 0, 1) := by decide +kernel
theorem dL_law_26 : decode cL_law 26 = .ok (.istore 5, 2) := by decide +kernel
theorem dL_law_28 : decode cL_law 28 = .ok (.iload 5, 2) := by decide +kernel
theorem dL_law_30 : decode cL_law 30 = .ok (.aload_n 0, 1) := by decide +kernel
theorem dL_law_31 : decode cL_law 31 = .ok (.arraylength, 1) := by decide +kernel
theorem dL_law_32 : decode cL_law 32 = .ok (.iconst 5, 1) := by decide +kernel
theorem dL_law_33 : decode cL_law 33 = .ok (.isub, 1) := by decide +kernel
theorem dL_law_34 : decode cL_law 34 = .ok (.if_icmp .gt 1807, 3) := by decide +kernel
theorem dL_law_37 : decode cL_law 37 = .ok (.aload_n 0, 1) := by decide +kernel
theorem dL_law_38 : decode cL_law 38 = .ok (.iload 5, 2) := by decide +kernel
theorem dL_law_40 : decode cL_law 40 = .ok (.iaload, 1) := by decide +kernel
theorem dL_law_41 : decode cL_law 41 = .ok (.bipush 31, 2) := by decide +kernel
theorem dL_law_43 : decode cL_law 43 = .ok (.iand, 1) := by decide +kernel
theorem dL_law_44 : decode cL_law 44 = .ok (.tableswitch 1791 0 21 #[104, 148, 251, 359, 427, 518, 586, 642, 710, 778, 853, 921, 996, 1091, 1186, 1281, 1388, 1465, 1521, 1629, 1721, 1777], 104) := by decide +kernel
theorem dL_law_148 : decode cL_law 148 = .ok (.aload_n 1, 1) := by decide +kernel
theorem dL_law_149 : decode cL_law 149 = .ok (.aload_n 3, 1) := by decide +kernel
theorem dL_law_150 : decode cL_law 150 = .ok (.invokestatic 94, 3) := by decide +kernel
theorem dL_law_153 : decode cL_law 153 = .ok (.istore 6, 2) := by decide +kernel
theorem dL_law_155 : decode cL_law 155 = .ok (.aload_n 2, 1) := by decide +kernel
theorem dL_law_156 : decode cL_law 156 = .ok (.invokevirtual 99, 3) := by decide +kernel
theorem dL_law_159 : decode cL_law 159 = .ok (.istore 7, 2) := by decide +kernel
theorem dL_law_161 : decode cL_law 161 = .ok (.aload_n 2, 1) := by decide +kernel
theorem dL_law_162 : decode cL_law 162 = .ok (.invokevirtual 100, 3) := by decide +kernel
theorem dL_law_165 : decode cL_law 165 = .ok (.iload 6, 2) := by decide +kernel
theorem dL_law_167 : decode cL_law 167 = .ok (.if_icmp .eq 5, 3) := by decide +kernel
theorem dL_law_170 : decode cL_law 170 = .ok (.iconst 0, 1) := by decide +kernel
theorem dL_law_171 : decode cL_law 171 = .ok (.ireturn, 1) := by decide +kernel
theorem dL_law_172 : decode cL_law 172 = .ok (.iload 6, 2) := by decide +kernel
theorem dL_law_174 : decode cL_law 174 = .ok (.ifCond .ne 15, 3) := by decide +kernel
theorem dL_law_177 : decode cL_law 177 = .ok (.aload_n 3, 1) := by decide +kernel
theorem dL_law_178 : decode cL_law 178 = .ok (.iconst 0, 1) := by decide +kernel
theorem dL_law_179 : decode cL_law 179 = .ok (.laload, 1) := by decide +kernel
theorem dL_law_180 : decode cL_law 180 = .ok (.iload 7, 2) := by decide +kernel
theorem dL_law_182 : decode cL_law 182 = .ok (.i2l, 1) := by decide +kernel
theorem dL_law_183 : decode cL_law 183 = .ok (.lcmp, 1) := by decide +kernel
theorem dL_law_184 : decode cL_law 184 = .ok (.ifCond .eq 5, 3) := by decide +kernel
theorem dL_law_187 : decode cL_law 187 = .ok (.iconst 0, 1) := by decide +kernel
theorem dL_law_188 : decode cL_law 188 = .ok (.ireturn, 1) := by decide +kernel
theorem dL_law_189 : decode cL_law 189 = .ok (.goto 1646, 3) := by decide +kernel
theorem dL_law_192 : decode cL_law 192 = .ok (.aload_n 1, 1) := by decide +kernel
theorem dL_law_193 : decode cL_law 193 = .ok (.aload_n 0, 1) := by decide +kernel
theorem dL_law_194 : decode cL_law 194 = .ok (.iload 5, 2) := by decide +kernel
theorem dL_law_196 : decode cL_law 196 = .ok (.iconst 1, 1) := by decide +kernel
theorem dL_law_197 : decode cL_law 197 = .ok (.iadd, 1) := by decide +kernel
theorem dL_law_198 : decode cL_law 198 = .ok (.iaload, 1) := by decide +kernel
theorem dL_law_199 : decode cL_law 199 = .ok (.aload_n 0, 1) := by decide +kernel
theorem dL_law_200 : decode cL_law 200 = .ok (.iload 5, 2) := by decide +kernel
theorem dL_law_202 : decode cL_law 202 = .ok (.iconst 2, 1) := by decide +kernel
theorem dL_law_203 : decode cL_law 203 = .ok (.iadd, 1) := by decide +kernel
theorem dL_law_204 : decode cL_law 204 = .ok (.iaload, 1) := by decide +kernel
theorem dL_law_205 : decode cL_law 205 = .ok (.ifCond .eq 7, 3) := by decide +kernel
theorem dL_law_208 : decode cL_law 208 = .ok (.iconst 1, 1) := by decide +kernel
theorem dL_law_209 : decode cL_law 209 = .ok (.goto 4, 3) := by decide +kernel
theorem dL_law_212 : decode cL_law 212 = .ok (.iconst 0, 1) := by decide +kernel
theorem dL_law_213 : decode cL_law 213 = .ok (.aload_n 0, 1) := by decide +kernel
theorem dL_law_214 : decode cL_law 214 = .ok (.iload 5, 2) := by decide +kernel
theorem dL_law_216 : decode cL_law 216 = .ok (.iconst 3, 1) := by decide +kernel
theorem dL_law_217 : decode cL_law 217 = .ok (.iadd, 1) := by decide +kernel
theorem dL_law_218 : decode cL_law 218 = .ok (.iaload, 1) := by decide +kernel
theorem dL_law_219 : decode cL_law 219 = .ok (.aload_n 3, 1) := by decide +kernel
theorem dL_law_220 : decode cL_law 220 = .ok (.invokestatic 103, 3) := by decide +kernel
theorem dL_law_223 : decode cL_law 223 = .ok (.istore 6, 2) := by decide +kernel
theorem dL_law_225 : decode cL_law 225 = .ok (.aload_n 2, 1) := by decide +kernel
theorem dL_law_226 : decode cL_law 226 = .ok (.aload_n 0, 1) := by decide +kernel
theorem dL_law_227 : decode cL_law 227 = .ok (.iload 5, 2) := by decide +kernel
theorem dL_law_229 : decode cL_law 229 = .ok (.iconst 1, 1) := by decide +kernel
theorem dL_law_230 : decode cL_law 230 = .ok (.iadd, 1) := by decide +kernel
theorem dL_law_231 : decode cL_law 231 = .ok (.iaload, 1) := by decide +kernel
theorem dL_law_232 : decode cL_law 232 = .ok (.aload_n 0, 1) := by decide +kernel
theorem dL_law_233 : decode cL_law 233 = .ok (.iload 5, 2) := by decide +kernel
theorem dL_law_235 : decode cL_law 235 = .ok (.iconst 2, 1) := by decide +kernel
theorem dL_law_236 : decode cL_law 236 = .ok (.iadd, 1) := by decide +kernel
theorem dL_law_237 : decode cL_law 237 = .ok (.iaload, 1) := by decide +kernel
theorem dL_law_238 : decode cL_law 238 = .ok (.ifCond .eq 7, 3) := by decide +kernel
theorem dL_law_241 : decode cL_law 241 = .ok (.iconst 1, 1) := by decide +kernel
theorem dL_law_242 : decode cL_law 242 = .ok (.goto 4, 3) := by decide +kernel
theorem dL_law_245 : decode cL_law 245 = .ok (.iconst 0, 1) := by decide +kernel
theorem dL_law_246 : decode cL_law 246 = .ok (.aload_n 0, 1) := by decide +kernel
theorem dL_law_247 : decode cL_law 247 = .ok (.iload 5, 2) := by decide +kernel
theorem dL_law_249 : decode cL_law 249 = .ok (.iconst 3, 1) := by decide +kernel
theorem dL_law_250 : decode cL_law 250 = .ok (.iadd, 1) := by decide +kernel
theorem dL_law_251 : decode cL_law 251 = .ok (.iaload, 1) := by decide +kernel
theorem dL_law_252 : decode cL_law 252 = .ok (.invokevirtual 106, 3) := by decide +kernel
theorem dL_law_255 : decode cL_law 255 = .ok (.istore 7, 2) := by decide +kernel
theorem dL_law_257 : decode cL_law 257 = .ok (.aload_n 2, 1) := by decide +kernel
theorem dL_law_258 : decode cL_law 258 = .ok (.invokevirtual 100, 3) := by decide +kernel
theorem dL_law_261 : decode cL_law 261 = .ok (.iload 6, 2) := by decide +kernel
theorem dL_law_263 : decode cL_law 263 = .ok (.if_icmp .eq 5, 3) := by decide +kernel
theorem dL_law_266 : decode cL_law 266 = .ok (.iconst 0, 1) := by decide +kernel
theorem dL_law_267 : decode cL_law 267 = .ok (.ireturn, 1) := by decide +kernel
theorem dL_law_268 : decode cL_law 268 = .ok (.iload 6, 2) := by decide +kernel
theorem dL_law_270 : decode cL_law 270 = .ok (.ifCond .ne 22, 3) := by decide +kernel
theorem dL_law_273 : decode cL_law 273 = .ok (.aload_n 3, 1) := by decide +kernel
theorem dL_law_274 : decode cL_law 274 = .ok (.iconst 0, 1) := by decide +kernel
theorem dL_law_275 : decode cL_law 275 = .ok (.laload, 1) := by decide +kernel
theorem dL_law_276 : decode cL_law 276 = .ok (.iload 7, 2) := by decide +kernel
theorem dL_law_278 : decode cL_law 278 = .ok (.ifCond .eq 7, 3) := by decide +kernel
theorem dL_law_281 : decode cL_law 281 = .ok (.lconst 1, 1) := by decide +kernel
theorem dL_law_282 : decode cL_law 282 = .ok (.goto 4, 3) := by decide +kernel
theorem dL_law_285 : decode cL_law 285 = .ok (.lconst 0, 1) := by decide +kernel
theorem dL_law_286 : decode cL_law 286 = .ok (.lcmp, 1) := by decide +kernel
theorem dL_law_287 : decode cL_law 287 = .ok (.ifCond .eq 5, 3) := by decide +kernel
theorem dL_law_290 : decode cL_law 290 = .ok (.iconst 0, 1) := by decide +kernel
theorem dL_law_291 : decode cL_law 291 = .ok (.ireturn, 1) := by decide +kernel
theorem dL_law_292 : decode cL_law 292 = .ok (.goto 1543, 3) := by decide +kernel
theorem dL_law_295 : decode cL_law 295 = .ok (.aload_n 1, 1) := by decide +kernel
theorem dL_law_296 : decode cL_law 296 = .ok (.aload_n 0, 1) := by decide +kernel
theorem dL_law_297 : decode cL_law 297 = .ok (.iload 5, 2) := by decide +kernel
theorem dL_law_299 : decode cL_law 299 = .ok (.iconst 1, 1) := by decide +kernel
theorem dL_law_300 : decode cL_law 300 = .ok (.iadd, 1) := by decide +kernel
theorem dL_law_301 : decode cL_law 301 = .ok (.iaload, 1) := by decide +kernel
theorem dL_law_302 : decode cL_law 302 = .ok (.ifCond .eq 7, 3) := by decide +kernel
theorem dL_law_305 : decode cL_law 305 = .ok (.iconst 1, 1) := by decide +kernel
theorem dL_law_306 : decode cL_law 306 = .ok (.goto 4, 3) := by decide +kernel
theorem dL_law_309 : decode cL_law 309 = .ok (.iconst 0, 1) := by decide +kernel
theorem dL_law_310 : decode cL_law 310 = .ok (.aload_n 0, 1) := by decide +kernel
theorem dL_law_311 : decode cL_law 311 = .ok (.iload 5, 2) := by decide +kernel
theorem dL_law_313 : decode cL_law 313 = .ok (.iconst 2, 1) := by decide +kernel
theorem dL_law_314 : decode cL_law 314 = .ok (.iadd, 1) := by decide +kernel
theorem dL_law_315 : decode cL_law 315 = .ok (.iaload, 1) := by decide +kernel
theorem dL_law_316 : decode cL_law 316 = .ok (.aload_n 0, 1) := by decide +kernel
theorem dL_law_317 : decode cL_law 317 = .ok (.iload 5, 2) := by decide +kernel
theorem dL_law_319 : decode cL_law 319 = .ok (.iconst 3, 1) := by decide +kernel
theorem dL_law_320 : decode cL_law 320 = .ok (.iadd, 1) := by decide +kernel
theorem dL_law_321 : decode cL_law 321 = .ok (.iaload, 1) := by decide +kernel
theorem dL_law_322 : decode cL_law 322 = .ok (.aload_n 0, 1) := by decide +kernel
theorem dL_law_323 : decode cL_law 323 = .ok (.iload 5, 2) := by decide +kernel
theorem dL_law_325 : decode cL_law 325 = .ok (.iconst 4, 1) := by decide +kernel
theorem dL_law_326 : decode cL_law 326 = .ok (.iadd, 1) := by decide +kernel
theorem dL_law_327 : decode cL_law 327 = .ok (.iaload, 1) := by decide +kernel
theorem dL_law_328 : decode cL_law 328 = .ok (.aload_n 3, 1) := by decide +kernel
theorem dL_law_329 : decode cL_law 329 = .ok (.invokestatic 107, 3) := by decide +kernel
theorem dL_law_332 : decode cL_law 332 = .ok (.istore 6, 2) := by decide +kernel
theorem dL_law_334 : decode cL_law 334 = .ok (.aload_n 2, 1) := by decide +kernel
theorem dL_law_335 : decode cL_law 335 = .ok (.aload_n 0, 1) := by decide +kernel
theorem dL_law_336 : decode cL_law 336 = .ok (.iload 5, 2) := by decide +kernel
theorem dL_law_338 : decode cL_law 338 = .ok (.iconst 1, 1) := by decide +kernel
theorem dL_law_339 : decode cL_law 339 = .ok (.iadd, 1) := by decide +kernel
theorem dL_law_340 : decode cL_law 340 = .ok (.iaload, 1) := by decide +kernel
theorem dL_law_341 : decode cL_law 341 = .ok (.ifCond .eq 7, 3) := by decide +kernel
theorem dL_law_344 : decode cL_law 344 = .ok (.iconst 1, 1) := by decide +kernel
theorem dL_law_345 : decode cL_law 345 = .ok (.goto 4, 3) := by decide +kernel
theorem dL_law_348 : decode cL_law 348 = .ok (.iconst 0, 1) := by decide +kernel
theorem dL_law_349 : decode cL_law 349 = .ok (.aload_n 0, 1) := by decide +kernel
theorem dL_law_350 : decode cL_law 350 = .ok (.iload 5, 2) := by decide +kernel
theorem dL_law_352 : decode cL_law 352 = .ok (.iconst 2, 1) := by decide +kernel
theorem dL_law_353 : decode cL_law 353 = .ok (.iadd, 1) := by decide +kernel
theorem dL_law_354 : decode cL_law 354 = .ok (.iaload, 1) := by decide +kernel
theorem dL_law_355 : decode cL_law 355 = .ok (.aload_n 0, 1) := by decide +kernel
theorem dL_law_356 : decode cL_law 356 = .ok (.iload 5, 2) := by decide +kernel
theorem dL_law_358 : decode cL_law 358 = .ok (.iconst 3, 1) := by decide +kernel
theorem dL_law_359 : decode cL_law 359 = .ok (.iadd, 1) := by decide +kernel
theorem dL_law_360 : decode cL_law 360 = .ok (.iaload, 1) := by decide +kernel
theorem dL_law_361 : decode cL_law 361 = .ok (.aload_n 0, 1) := by decide +kernel
theorem dL_law_362 : decode cL_law 362 = .ok (.iload 5, 2) := by decide +kernel
theorem dL_law_364 : decode cL_law 364 = .ok (.iconst 4, 1) := by decide +kernel
theorem dL_law_365 : decode cL_law 365 = .ok (.iadd, 1) := by decide +kernel
theorem dL_law_366 : decode cL_law 366 = .ok (.iaload, 1) := by decide +kernel
theorem dL_law_367 : decode cL_law 367 = .ok (.invokevirtual 110, 3) := by decide +kernel
theorem dL_law_370 : decode cL_law 370 = .ok (.istore 7, 2) := by decide +kernel
theorem dL_law_372 : decode cL_law 372 = .ok (.aload_n 2, 1) := by decide +kernel
theorem dL_law_373 : decode cL_law 373 = .ok (.invokevirtual 100, 3) := by decide +kernel
theorem dL_law_376 : decode cL_law 376 = .ok (.iload 6, 2) := by decide +kernel
theorem dL_law_378 : decode cL_law 378 = .ok (.if_icmp .eq 5, 3) := by decide +kernel
theorem dL_law_381 : decode cL_law 381 = .ok (.iconst 0, 1) := by decide +kernel
theorem dL_law_382 : decode cL_law 382 = .ok (.ireturn, 1) := by decide +kernel
theorem dL_law_383 : decode cL_law 383 = .ok (.iload 6, 2) := by decide +kernel
theorem dL_law_385 : decode cL_law 385 = .ok (.ifCond .ne 15, 3) := by decide +kernel
theorem dL_law_388 : decode cL_law 388 = .ok (.aload_n 3, 1) := by decide +kernel
theorem dL_law_389 : decode cL_law 389 = .ok (.iconst 0, 1) := by decide +kernel
theorem dL_law_390 : decode cL_law 390 = .ok (.laload, 1) := by decide +kernel
theorem dL_law_391 : decode cL_law 391 = .ok (.iload 7, 2) := by decide +kernel
theorem dL_law_393 : decode cL_law 393 = .ok (.i2l, 1) := by decide +kernel
theorem dL_law_394 : decode cL_law 394 = .ok (.lcmp, 1) := by decide +kernel
theorem dL_law_395 : decode cL_law 395 = .ok (.ifCond .eq 5, 3) := by decide +kernel
theorem dL_law_398 : decode cL_law 398 = .ok (.iconst 0, 1) := by decide +kernel
theorem dL_law_399 : decode cL_law 399 = .ok (.ireturn, 1) := by decide +kernel
theorem dL_law_400 : decode cL_law 400 = .ok (.goto 1435, 3) := by decide +kernel
theorem dL_law_403 : decode cL_law 403 = .ok (.aload_n 1, 1) := by decide +kernel
theorem dL_law_404 : decode cL_law 404 = .ok (.aload_n 0, 1) := by decide +kernel
theorem dL_law_405 : decode cL_law 405 = .ok (.iload 5, 2) := by decide +kernel
theorem dL_law_407 : decode cL_law 407 = .ok (.iconst 1, 1) := by decide +kernel
theorem dL_law_408 : decode cL_law 408 = .ok (.iadd, 1) := by decide +kernel
theorem dL_law_409 : decode cL_law 409 = .ok (.iaload, 1) := by decide +kernel
theorem dL_law_410 : decode cL_law 410 = .ok (.aload_n 0, 1) := by decide +kernel
theorem dL_law_411 : decode cL_law 411 = .ok (.iload 5, 2) := by decide +kernel
theorem dL_law_413 : decode cL_law 413 = .ok (.iconst 2, 1) := by decide +kernel
theorem dL_law_414 : decode cL_law 414 = .ok (.iadd, 1) := by decide +kernel
theorem dL_law_415 : decode cL_law 415 = .ok (.iaload, 1) := by decide +kernel
theorem dL_law_416 : decode cL_law 416 = .ok (.aload_n 3, 1) := by decide +kernel
theorem dL_law_417 : decode cL_law 417 = .ok (.invokestatic 111, 3) := by decide +kernel
theorem dL_law_420 : decode cL_law 420 = .ok (.istore 6, 2) := by decide +kernel
theorem dL_law_422 : decode cL_law 422 = .ok (.aload_n 2, 1) := by decide +kernel
theorem dL_law_423 : decode cL_law 423 = .ok (.aload_n 0, 1) := by decide +kernel
theorem dL_law_424 : decode cL_law 424 = .ok (.iload 5, 2) := by decide +kernel
theorem dL_law_426 : decode cL_law 426 = .ok (.iconst 1, 1) := by decide +kernel
theorem dL_law_427 : decode cL_law 427 = .ok (.iadd, 1) := by decide +kernel
theorem dL_law_428 : decode cL_law 428 = .ok (.iaload, 1) := by decide +kernel
theorem dL_law_429 : decode cL_law 429 = .ok (.aload_n 0, 1) := by decide +kernel
theorem dL_law_430 : decode cL_law 430 = .ok (.iload 5, 2) := by decide +kernel
theorem dL_law_432 : decode cL_law 432 = .ok (.iconst 2, 1) := by decide +kernel
theorem dL_law_433 : decode cL_law 433 = .ok (.iadd, 1) := by decide +kernel
theorem dL_law_434 : decode cL_law 434 = .ok (.iaload, 1) := by decide +kernel
theorem dL_law_435 : decode cL_law 435 = .ok (.invokevirtual 114, 3) := by decide +kernel
theorem dL_law_438 : decode cL_law 438 = .ok (.istore 7, 2) := by decide +kernel
theorem dL_law_440 : decode cL_law 440 = .ok (.aload_n 2, 1) := by decide +kernel
theorem dL_law_441 : decode cL_law 441 = .ok (.invokevirtual 100, 3) := by decide +kernel
theorem dL_law_444 : decode cL_law 444 = .ok (.iload 6, 2) := by decide +kernel
theorem dL_law_446 : decode cL_law 446 = .ok (.if_icmp .eq 5, 3) := by decide +kernel
theorem dL_law_449 : decode cL_law 449 = .ok (.iconst 0, 1) := by decide +kernel
theorem dL_law_450 : decode cL_law 450 = .ok (.ireturn, 1) := by decide +kernel
theorem dL_law_451 : decode cL_law 451 = .ok (.iload 6, 2) := by decide +kernel
theorem dL_law_453 : decode cL_law 453 = .ok (.ifCond .ne 15, 3) := by decide +kernel
theorem dL_law_456 : decode cL_law 456 = .ok (.aload_n 3, 1) := by decide +kernel
theorem dL_law_457 : decode cL_law 457 = .ok (.iconst 0, 1) := by decide +kernel
theorem dL_law_458 : decode cL_law 458 = .ok (.laload, 1) := by decide +kernel
theorem dL_law_459 : decode cL_law 459 = .ok (.iload 7, 2) := by decide +kernel
theorem dL_law_461 : decode cL_law 461 = .ok (.i2l, 1) := by decide +kernel
theorem dL_law_462 : decode cL_law 462 = .ok (.lcmp, 1) := by decide +kernel
theorem dL_law_463 : decode cL_law 463 = .ok (.ifCond .eq 5, 3) := by decide +kernel
theorem dL_law_466 : decode cL_law 466 = .ok (.iconst 0, 1) := by decide +kernel
theorem dL_law_467 : decode cL_law 467 = .ok (.ireturn, 1) := by decide +kernel
theorem dL_law_468 : decode cL_law 468 = .ok (.goto 1367, 3) := by decide +kernel
theorem dL_law_471 : decode cL_law 471 = .ok (.aload_n 1, 1) := by decide +kernel
theorem dL_law_472 : decode cL_law 472 = .ok (.aload_n 0, 1) := by decide +kernel
theorem dL_law_473 : decode cL_law 473 = .ok (.iload 5, 2) := by decide +kernel
theorem dL_law_475 : decode cL_law 475 = .ok (.iconst 1, 1) := by decide +kernel
theorem dL_law_476 : decode cL_law 476 = .ok (.iadd, 1) := by decide +kernel
theorem dL_law_477 : decode cL_law 477 = .ok (.iaload, 1) := by decide +kernel
theorem dL_law_478 : decode cL_law 478 = .ok (.aload_n 0, 1) := by decide +kernel
theorem dL_law_479 : decode cL_law 479 = .ok (.iload 5, 2) := by decide +kernel
theorem dL_law_481 : decode cL_law 481 = .ok (.iconst 2, 1) := by decide +kernel
theorem dL_law_482 : decode cL_law 482 = .ok (.iadd, 1) := by decide +kernel
theorem dL_law_483 : decode cL_law 483 = .ok (.iaload, 1) := by decide +kernel
theorem dL_law_484 : decode cL_law 484 = .ok (.ifCond .eq 7, 3) := by decide +kernel
theorem dL_law_487 : decode cL_law 487 = .ok (.iconst 1, 1) := by decide +kernel
theorem dL_law_488 : decode cL_law 488 = .ok (.goto 4, 3) := by decide +kernel
theorem dL_law_491 : decode cL_law 491 = .ok (.iconst 0, 1) := by decide +kernel
theorem dL_law_492 : decode cL_law 492 = .ok (.aload_n 3, 1) := by decide +kernel
theorem dL_law_493 : decode cL_law 493 = .ok (.invokestatic 115, 3) := by decide +kernel
theorem dL_law_496 : decode cL_law 496 = .ok (.istore 6, 2) := by decide +kernel
theorem dL_law_498 : decode cL_law 498 = .ok (.aload_n 2, 1) := by decide +kernel
theorem dL_law_499 : decode cL_law 499 = .ok (.aload_n 0, 1) := by decide +kernel
theorem dL_law_500 : decode cL_law 500 = .ok (.iload 5, 2) := by decide +kernel
theorem dL_law_502 : decode cL_law 502 = .ok (.iconst 1, 1) := by decide +kernel
theorem dL_law_503 : decode cL_law 503 = .ok (.iadd, 1) := by decide +kernel
theorem dL_law_504 : decode cL_law 504 = .ok (.iaload, 1) := by decide +kernel
theorem dL_law_505 : decode cL_law 505 = .ok (.aload_n 0, 1) := by decide +kernel
theorem dL_law_506 : decode cL_law 506 = .ok (.iload 5, 2) := by decide +kernel
theorem dL_law_508 : decode cL_law 508 = .ok (.iconst 2, 1) := by decide +kernel
theorem dL_law_509 : decode cL_law 509 = .ok (.iadd, 1) := by decide +kernel
theorem dL_law_510 : decode cL_law 510 = .ok (.iaload, 1) := by decide +kernel
theorem dL_law_511 : decode cL_law 511 = .ok (.ifCond .eq 7, 3) := by decide +kernel
theorem dL_law_514 : decode cL_law 514 = .ok (.iconst 1, 1) := by decide +kernel
theorem dL_law_515 : decode cL_law 515 = .ok (.goto 4, 3) := by decide +kernel
theorem dL_law_518 : decode cL_law 518 = .ok (.iconst 0, 1) := by decide +kernel
theorem dL_law_519 : decode cL_law 519 = .ok (.invokevirtual 118, 3) := by decide +kernel
theorem dL_law_522 : decode cL_law 522 = .ok (.istore 7, 2) := by decide +kernel
theorem dL_law_524 : decode cL_law 524 = .ok (.aload_n 2, 1) := by decide +kernel
theorem dL_law_525 : decode cL_law 525 = .ok (.invokevirtual 100, 3) := by decide +kernel
theorem dL_law_528 : decode cL_law 528 = .ok (.iload 6, 2) := by decide +kernel
theorem dL_law_530 : decode cL_law 530 = .ok (.if_icmp .eq 5, 3) := by decide +kernel
theorem dL_law_533 : decode cL_law 533 = .ok (.iconst 0, 1) := by decide +kernel
theorem dL_law_534 : decode cL_law 534 = .ok (.ireturn, 1) := by decide +kernel
theorem dL_law_535 : decode cL_law 535 = .ok (.iload 6, 2) := by decide +kernel
theorem dL_law_537 : decode cL_law 537 = .ok (.ifCond .ne 22, 3) := by decide +kernel
theorem dL_law_540 : decode cL_law 540 = .ok (.aload_n 3, 1) := by decide +kernel
theorem dL_law_541 : decode cL_law 541 = .ok (.iconst 0, 1) := by decide +kernel
theorem dL_law_542 : decode cL_law 542 = .ok (.laload, 1) := by decide +kernel
theorem dL_law_543 : decode cL_law 543 = .ok (.iload 7, 2) := by decide +kernel
theorem dL_law_545 : decode cL_law 545 = .ok (.ifCond .eq 7, 3) := by decide +kernel
theorem dL_law_548 : decode cL_law 548 = .ok (.lconst 1, 1) := by decide +kernel
theorem dL_law_549 : decode cL_law 549 = .ok (.goto 4, 3) := by decide +kernel
theorem dL_law_552 : decode cL_law 552 = .ok (.lconst 0, 1) := by decide +kernel
theorem dL_law_553 : decode cL_law 553 = .ok (.lcmp, 1) := by decide +kernel
theorem dL_law_554 : decode cL_law 554 = .ok (.ifCond .eq 5, 3) := by decide +kernel
theorem dL_law_557 : decode cL_law 557 = .ok (.iconst 0, 1) := by decide +kernel
theorem dL_law_558 : decode cL_law 558 = .ok (.ireturn, 1) := by decide +kernel
theorem dL_law_559 : decode cL_law 559 = .ok (.goto 1276, 3) := by decide +kernel
theorem dL_law_562 : decode cL_law 562 = .ok (.aload_n 1, 1) := by decide +kernel
theorem dL_law_563 : decode cL_law 563 = .ok (.aload_n 0, 1) := by decide +kernel
theorem dL_law_564 : decode cL_law 564 = .ok (.iload 5, 2) := by decide +kernel
theorem dL_law_566 : decode cL_law 566 = .ok (.iconst 1, 1) := by decide +kernel
theorem dL_law_567 : decode cL_law 567 = .ok (.iadd, 1) := by decide +kernel
theorem dL_law_568 : decode cL_law 568 = .ok (.iaload, 1) := by decide +kernel
theorem dL_law_569 : decode cL_law 569 = .ok (.aload_n 0, 1) := by decide +kernel
theorem dL_law_570 : decode cL_law 570 = .ok (.iload 5, 2) := by decide +kernel
theorem dL_law_572 : decode cL_law 572 = .ok (.iconst 2, 1) := by decide +kernel
theorem dL_law_573 : decode cL_law 573 = .ok (.iadd, 1) := by decide +kernel
theorem dL_law_574 : decode cL_law 574 = .ok (.iaload, 1) := by decide +kernel
theorem dL_law_575 : decode cL_law 575 = .ok (.aload_n 3, 1) := by decide +kernel
theorem dL_law_576 : decode cL_law 576 = .ok (.invokestatic 119, 3) := by decide +kernel
theorem dL_law_579 : decode cL_law 579 = .ok (.istore 6, 2) := by decide +kernel
theorem dL_law_581 : decode cL_law 581 = .ok (.aload_n 2, 1) := by decide +kernel
theorem dL_law_582 : decode cL_law 582 = .ok (.aload_n 0, 1) := by decide +kernel
theorem dL_law_583 : decode cL_law 583 = .ok (.iload 5, 2) := by decide +kernel
theorem dL_law_585 : decode cL_law 585 = .ok (.iconst 1, 1) := by decide +kernel
theorem dL_law_586 : decode cL_law 586 = .ok (.iadd, 1) := by decide +kernel
theorem dL_law_587 : decode cL_law 587 = .ok (.iaload, 1) := by decide +kernel
theorem dL_law_588 : decode cL_law 588 = .ok (.aload_n 0, 1) := by decide +kernel
theorem dL_law_589 : decode cL_law 589 = .ok (.iload 5, 2) := by decide +kernel
theorem dL_law_591 : decode cL_law 591 = .ok (.iconst 2, 1) := by decide +kernel
theorem dL_law_592 : decode cL_law 592 = .ok (.iadd, 1) := by decide +kernel
theorem dL_law_593 : decode cL_law 593 = .ok (.iaload, 1) := by decide +kernel
theorem dL_law_594 : decode cL_law 594 = .ok (.invokevirtual 121, 3) := by decide +kernel
theorem dL_law_597 : decode cL_law 597 = .ok (.istore 7, 2) := by decide +kernel
theorem dL_law_599 : decode cL_law 599 = .ok (.aload_n 2, 1) := by decide +kernel
theorem dL_law_600 : decode cL_law 600 = .ok (.invokevirtual 100, 3) := by decide +kernel
theorem dL_law_603 : decode cL_law 603 = .ok (.iload 6, 2) := by decide +kernel
theorem dL_law_605 : decode cL_law 605 = .ok (.if_icmp .eq 5, 3) := by decide +kernel
theorem dL_law_608 : decode cL_law 608 = .ok (.iconst 0, 1) := by decide +kernel
theorem dL_law_609 : decode cL_law 609 = .ok (.ireturn, 1) := by decide +kernel
theorem dL_law_610 : decode cL_law 610 = .ok (.iload 6, 2) := by decide +kernel
theorem dL_law_612 : decode cL_law 612 = .ok (.ifCond .ne 15, 3) := by decide +kernel
theorem dL_law_615 : decode cL_law 615 = .ok (.aload_n 3, 1) := by decide +kernel
theorem dL_law_616 : decode cL_law 616 = .ok (.iconst 0, 1) := by decide +kernel
theorem dL_law_617 : decode cL_law 617 = .ok (.laload, 1) := by decide +kernel
end
section
theorem dL_law_618 : decode cL_law 618 = .ok (.iload 7, 2) := by decide +kernel
theorem dL_law_620 : decode cL_law 620 = .ok (.i2l, 1) := by decide +kernel
theorem dL_law_621 : decode cL_law 621 = .ok (.lcmp, 1) := by decide +kernel
theorem dL_law_622 : decode cL_law 622 = .ok (.ifCond .eq 5, 3) := by decide +kernel
theorem dL_law_625 : decode cL_law 625 = .ok (.iconst 0, 1) := by decide +kernel
theorem dL_law_626 : decode cL_law 626 = .ok (.ireturn, 1) := by decide +kernel
theorem dL_law_627 : decode cL_law 627 = .ok (.goto 1208, 3) := by decide +kernel
theorem dL_law_630 : decode cL_law 630 = .ok (.aload_n 1, 1) := by decide +kernel
theorem dL_law_631 : decode cL_law 631 = .ok (.aload_n 0, 1) := by decide +kernel
theorem dL_law_632 : decode cL_law 632 = .ok (.iload 5, 2) := by decide +kernel
theorem dL_law_634 : decode cL_law 634 = .ok (.iconst 1, 1) := by decide +kernel
theorem dL_law_635 : decode cL_law 635 = .ok (.iadd, 1) := by decide +kernel
theorem dL_law_636 : decode cL_law 636 = .ok (.iaload, 1) := by decide +kernel
theorem dL_law_637 : decode cL_law 637 = .ok (.aload_n 3, 1) := by decide +kernel
theorem dL_law_638 : decode cL_law 638 = .ok (.invokestatic 122, 3) := by decide +kernel
theorem dL_law_641 : decode cL_law 641 = .ok (.istore 6, 2) := by decide +kernel
theorem dL_law_643 : decode cL_law 643 = .ok (.aload_n 2, 1) := by decide +kernel
theorem dL_law_644 : decode cL_law 644 = .ok (.aload_n 0, 1) := by decide +kernel
theorem dL_law_645 : decode cL_law 645 = .ok (.iload 5, 2) := by decide +kernel
theorem dL_law_647 : decode cL_law 647 = .ok (.iconst 1, 1) := by decide +kernel
theorem dL_law_648 : decode cL_law 648 = .ok (.iadd, 1) := by decide +kernel
theorem dL_law_649 : decode cL_law 649 = .ok (.iaload, 1) := by decide +kernel
theorem dL_law_650 : decode cL_law 650 = .ok (.invokevirtual 125, 3) := by decide +kernel
theorem dL_law_653 : decode cL_law 653 = .ok (.istore 7, 2) := by decide +kernel
theorem dL_law_655 : decode cL_law 655 = .ok (.aload_n 2, 1) := by decide +kernel
theorem dL_law_656 : decode cL_law 656 = .ok (.invokevirtual 100, 3) := by decide +kernel
theorem dL_law_659 : decode cL_law 659 = .ok (.iload 6, 2) := by decide +kernel
theorem dL_law_661 : decode cL_law 661 = .ok (.if_icmp .eq 5, 3) := by decide +kernel
theorem dL_law_664 : decode cL_law 664 = .ok (.iconst 0, 1) := by decide +kernel
theorem dL_law_665 : decode cL_law 665 = .ok (.ireturn, 1) := by decide +kernel
theorem dL_law_666 : decode cL_law 666 = .ok (.iload 6, 2) := by decide +kernel
theorem dL_law_668 : decode cL_law 668 = .ok (.ifCond .ne 15, 3) := by decide +kernel
theorem dL_law_671 : decode cL_law 671 = .ok (.aload_n 3, 1) := by decide +kernel
theorem dL_law_672 : decode cL_law 672 = .ok (.iconst 0, 1) := by decide +kernel
theorem dL_law_673 : decode cL_law 673 = .ok (.laload, 1) := by decide +kernel
theorem dL_law_674 : decode cL_law 674 = .ok (.iload 7, 2) := by decide +kernel
theorem dL_law_676 : decode cL_law 676 = .ok (.i2l, 1) := by decide +kernel
theorem dL_law_677 : decode cL_law 677 = .ok (.lcmp, 1) := by decide +kernel
theorem dL_law_678 : decode cL_law 678 = .ok (.ifCond .eq 5, 3) := by decide +kernel
theorem dL_law_681 : decode cL_law 681 = .ok (.iconst 0, 1) := by decide +kernel
theorem dL_law_682 : decode cL_law 682 = .ok (.ireturn, 1) := by decide +kernel
theorem dL_law_683 : decode cL_law 683 = .ok (.goto 1152, 3) := by decide +kernel
theorem dL_law_686 : decode cL_law 686 = .ok (.aload_n 1, 1) := by decide +kernel
theorem dL_law_687 : decode cL_law 687 = .ok (.aload_n 0, 1) := by decide +kernel
theorem dL_law_688 : decode cL_law 688 = .ok (.iload 5, 2) := by decide +kernel
theorem dL_law_690 : decode cL_law 690 = .ok (.iconst 1, 1) := by decide +kernel
theorem dL_law_691 : decode cL_law 691 = .ok (.iadd, 1) := by decide +kernel
theorem dL_law_692 : decode cL_law 692 = .ok (.iaload, 1) := by decide +kernel
theorem dL_law_693 : decode cL_law 693 = .ok (.aload_n 0, 1) := by decide +kernel
theorem dL_law_694 : decode cL_law 694 = .ok (.iload 5, 2) := by decide +kernel
theorem dL_law_696 : decode cL_law 696 = .ok (.iconst 2, 1) := by decide +kernel
theorem dL_law_697 : decode cL_law 697 = .ok (.iadd, 1) := by decide +kernel
theorem dL_law_698 : decode cL_law 698 = .ok (.iaload, 1) := by decide +kernel
theorem dL_law_699 : decode cL_law 699 = .ok (.aload_n 3, 1) := by decide +kernel
theorem dL_law_700 : decode cL_law 700 = .ok (.invokestatic 126, 3) := by decide +kernel
theorem dL_law_703 : decode cL_law 703 = .ok (.istore 6, 2) := by decide +kernel
theorem dL_law_705 : decode cL_law 705 = .ok (.aload_n 2, 1) := by decide +kernel
theorem dL_law_706 : decode cL_law 706 = .ok (.aload_n 0, 1) := by decide +kernel
theorem dL_law_707 : decode cL_law 707 = .ok (.iload 5, 2) := by decide +kernel
theorem dL_law_709 : decode cL_law 709 = .ok (.iconst 1, 1) := by decide +kernel
theorem dL_law_710 : decode cL_law 710 = .ok (.iadd, 1) := by decide +kernel
theorem dL_law_711 : decode cL_law 711 = .ok (.iaload, 1) := by decide +kernel
theorem dL_law_712 : decode cL_law 712 = .ok (.aload_n 0, 1) := by decide +kernel
theorem dL_law_713 : decode cL_law 713 = .ok (.iload 5, 2) := by decide +kernel
theorem dL_law_715 : decode cL_law 715 = .ok (.iconst 2, 1) := by decide +kernel
theorem dL_law_716 : decode cL_law 716 = .ok (.iadd, 1) := by decide +kernel
theorem dL_law_717 : decode cL_law 717 = .ok (.iaload, 1) := by decide +kernel
theorem dL_law_718 : decode cL_law 718 = .ok (.invokevirtual 128, 3) := by decide +kernel
theorem dL_law_721 : decode cL_law 721 = .ok (.istore 7, 2) := by decide +kernel
theorem dL_law_723 : decode cL_law 723 = .ok (.aload_n 2, 1) := by decide +kernel
theorem dL_law_724 : decode cL_law 724 = .ok (.invokevirtual 100, 3) := by decide +kernel
theorem dL_law_727 : decode cL_law 727 = .ok (.iload 6, 2) := by decide +kernel
theorem dL_law_729 : decode cL_law 729 = .ok (.if_icmp .eq 5, 3) := by decide +kernel
theorem dL_law_732 : decode cL_law 732 = .ok (.iconst 0, 1) := by decide +kernel
theorem dL_law_733 : decode cL_law 733 = .ok (.ireturn, 1) := by decide +kernel
theorem dL_law_734 : decode cL_law 734 = .ok (.iload 6, 2) := by decide +kernel
theorem dL_law_736 : decode cL_law 736 = .ok (.ifCond .ne 15, 3) := by decide +kernel
theorem dL_law_739 : decode cL_law 739 = .ok (.aload_n 3, 1) := by decide +kernel
theorem dL_law_740 : decode cL_law 740 = .ok (.iconst 0, 1) := by decide +kernel
theorem dL_law_741 : decode cL_law 741 = .ok (.laload, 1) := by decide +kernel
theorem dL_law_742 : decode cL_law 742 = .ok (.iload 7, 2) := by decide +kernel
theorem dL_law_744 : decode cL_law 744 = .ok (.i2l, 1) := by decide +kernel
theorem dL_law_745 : decode cL_law 745 = .ok (.lcmp, 1) := by decide +kernel
theorem dL_law_746 : decode cL_law 746 = .ok (.ifCond .eq 5, 3) := by decide +kernel
theorem dL_law_749 : decode cL_law 749 = .ok (.iconst 0, 1) := by decide +kernel
theorem dL_law_750 : decode cL_law 750 = .ok (.ireturn, 1) := by decide +kernel
theorem dL_law_751 : decode cL_law 751 = .ok (.goto 1084, 3) := by decide +kernel
theorem dL_law_754 : decode cL_law 754 = .ok (.aload_n 1, 1) := by decide +kernel
theorem dL_law_755 : decode cL_law 755 = .ok (.aload_n 0, 1) := by decide +kernel
theorem dL_law_756 : decode cL_law 756 = .ok (.iload 5, 2) := by decide +kernel
theorem dL_law_758 : decode cL_law 758 = .ok (.iconst 1, 1) := by decide +kernel
theorem dL_law_759 : decode cL_law 759 = .ok (.iadd, 1) := by decide +kernel
theorem dL_law_760 : decode cL_law 760 = .ok (.iaload, 1) := by decide +kernel
theorem dL_law_761 : decode cL_law 761 = .ok (.aload_n 0, 1) := by decide +kernel
theorem dL_law_762 : decode cL_law 762 = .ok (.iload 5, 2) := by decide +kernel
theorem dL_law_764 : decode cL_law 764 = .ok (.iconst 2, 1) := by decide +kernel
theorem dL_law_765 : decode cL_law 765 = .ok (.iadd, 1) := by decide +kernel
theorem dL_law_766 : decode cL_law 766 = .ok (.iaload, 1) := by decide +kernel
theorem dL_law_767 : decode cL_law 767 = .ok (.aload_n 3, 1) := by decide +kernel
theorem dL_law_768 : decode cL_law 768 = .ok (.invokestatic 129, 3) := by decide +kernel
theorem dL_law_771 : decode cL_law 771 = .ok (.istore 6, 2) := by decide +kernel
theorem dL_law_773 : decode cL_law 773 = .ok (.aload_n 2, 1) := by decide +kernel
theorem dL_law_774 : decode cL_law 774 = .ok (.aload_n 0, 1) := by decide +kernel
theorem dL_law_775 : decode cL_law 775 = .ok (.iload 5, 2) := by decide +kernel
theorem dL_law_777 : decode cL_law 777 = .ok (.iconst 1, 1) := by decide +kernel
theorem dL_law_778 : decode cL_law 778 = .ok (.iadd, 1) := by decide +kernel
theorem dL_law_779 : decode cL_law 779 = .ok (.iaload, 1) := by decide +kernel
theorem dL_law_780 : decode cL_law 780 = .ok (.aload_n 0, 1) := by decide +kernel
theorem dL_law_781 : decode cL_law 781 = .ok (.iload 5, 2) := by decide +kernel
theorem dL_law_783 : decode cL_law 783 = .ok (.iconst 2, 1) := by decide +kernel
theorem dL_law_784 : decode cL_law 784 = .ok (.iadd, 1) := by decide +kernel
theorem dL_law_785 : decode cL_law 785 = .ok (.iaload, 1) := by decide +kernel
theorem dL_law_786 : decode cL_law 786 = .ok (.invokevirtual 131, 3) := by decide +kernel
theorem dL_law_789 : decode cL_law 789 = .ok (.istore 7, 2) := by decide +kernel
theorem dL_law_791 : decode cL_law 791 = .ok (.aload_n 2, 1) := by decide +kernel
theorem dL_law_792 : decode cL_law 792 = .ok (.invokevirtual 100, 3) := by decide +kernel
theorem dL_law_795 : decode cL_law 795 = .ok (.iload 6, 2) := by decide +kernel
theorem dL_law_797 : decode cL_law 797 = .ok (.if_icmp .eq 5, 3) := by decide +kernel
theorem dL_law_800 : decode cL_law 800 = .ok (.iconst 0, 1) := by decide +kernel
theorem dL_law_801 : decode cL_law 801 = .ok (.ireturn, 1) := by decide +kernel
theorem dL_law_802 : decode cL_law 802 = .ok (.iload 6, 2) := by decide +kernel
theorem dL_law_804 : decode cL_law 804 = .ok (.ifCond .ne 15, 3) := by decide +kernel
theorem dL_law_807 : decode cL_law 807 = .ok (.aload_n 3, 1) := by decide +kernel
theorem dL_law_808 : decode cL_law 808 = .ok (.iconst 0, 1) := by decide +kernel
theorem dL_law_809 : decode cL_law 809 = .ok (.laload, 1) := by decide +kernel
theorem dL_law_810 : decode cL_law 810 = .ok (.iload 7, 2) := by decide +kernel
theorem dL_law_812 : decode cL_law 812 = .ok (.i2l, 1) := by decide +kernel
theorem dL_law_813 : decode cL_law 813 = .ok (.lcmp, 1) := by decide +kernel
theorem dL_law_814 : decode cL_law 814 = .ok (.ifCond .eq 5, 3) := by decide +kernel
theorem dL_law_817 : decode cL_law 817 = .ok (.iconst 0, 1) := by decide +kernel
theorem dL_law_818 : decode cL_law 818 = .ok (.ireturn, 1) := by decide +kernel
theorem dL_law_819 : decode cL_law 819 = .ok (.goto 1016, 3) := by decide +kernel
theorem dL_law_822 : decode cL_law 822 = .ok (.aload_n 1, 1) := by decide +kernel
theorem dL_law_823 : decode cL_law 823 = .ok (.aload_n 0, 1) := by decide +kernel
theorem dL_law_824 : decode cL_law 824 = .ok (.iload 5, 2) := by decide +kernel
theorem dL_law_826 : decode cL_law 826 = .ok (.iconst 1, 1) := by decide +kernel
theorem dL_law_827 : decode cL_law 827 = .ok (.iadd, 1) := by decide +kernel
theorem dL_law_828 : decode cL_law 828 = .ok (.iaload, 1) := by decide +kernel
theorem dL_law_829 : decode cL_law 829 = .ok (.aload_n 0, 1) := by decide +kernel
theorem dL_law_830 : decode cL_law 830 = .ok (.iload 5, 2) := by decide +kernel
theorem dL_law_832 : decode cL_law 832 = .ok (.iconst 2, 1) := by decide +kernel
theorem dL_law_833 : decode cL_law 833 = .ok (.iadd, 1) := by decide +kernel
theorem dL_law_834 : decode cL_law 834 = .ok (.iaload, 1) := by decide +kernel
theorem dL_law_835 : decode cL_law 835 = .ok (.aload_n 3, 1) := by decide +kernel
theorem dL_law_836 : decode cL_law 836 = .ok (.invokestatic 132, 3) := by decide +kernel
theorem dL_law_839 : decode cL_law 839 = .ok (.istore 6, 2) := by decide +kernel
theorem dL_law_841 : decode cL_law 841 = .ok (.aload_n 2, 1) := by decide +kernel
theorem dL_law_842 : decode cL_law 842 = .ok (.aload_n 0, 1) := by decide +kernel
theorem dL_law_843 : decode cL_law 843 = .ok (.iload 5, 2) := by decide +kernel
theorem dL_law_845 : decode cL_law 845 = .ok (.iconst 1, 1) := by decide +kernel
theorem dL_law_846 : decode cL_law 846 = .ok (.iadd, 1) := by decide +kernel
theorem dL_law_847 : decode cL_law 847 = .ok (.iaload, 1) := by decide +kernel
theorem dL_law_848 : decode cL_law 848 = .ok (.aload_n 0, 1) := by decide +kernel
theorem dL_law_849 : decode cL_law 849 = .ok (.iload 5, 2) := by decide +kernel
theorem dL_law_851 : decode cL_law 851 = .ok (.iconst 2, 1) := by decide +kernel
theorem dL_law_852 : decode cL_law 852 = .ok (.iadd, 1) := by decide +kernel
theorem dL_law_853 : decode cL_law 853 = .ok (.iaload, 1) := by decide +kernel
theorem dL_law_854 : decode cL_law 854 = .ok (.invokevirtual 134, 3) := by decide +kernel
theorem dL_law_857 : decode cL_law 857 = .ok (.istore 7, 2) := by decide +kernel
theorem dL_law_859 : decode cL_law 859 = .ok (.aload_n 2, 1) := by decide +kernel
theorem dL_law_860 : decode cL_law 860 = .ok (.invokevirtual 100, 3) := by decide +kernel
theorem dL_law_863 : decode cL_law 863 = .ok (.iload 6, 2) := by decide +kernel
theorem dL_law_865 : decode cL_law 865 = .ok (.if_icmp .eq 5, 3) := by decide +kernel
theorem dL_law_868 : decode cL_law 868 = .ok (.iconst 0, 1) := by decide +kernel
theorem dL_law_869 : decode cL_law 869 = .ok (.ireturn, 1) := by decide +kernel
theorem dL_law_870 : decode cL_law 870 = .ok (.iload 6, 2) := by decide +kernel
theorem dL_law_872 : decode cL_law 872 = .ok (.ifCond .ne 22, 3) := by decide +kernel
theorem dL_law_875 : decode cL_law 875 = .ok (.aload_n 3, 1) := by decide +kernel
theorem dL_law_876 : decode cL_law 876 = .ok (.iconst 0, 1) := by decide +kernel
theorem dL_law_877 : decode cL_law 877 = .ok (.laload, 1) := by decide +kernel
theorem dL_law_878 : decode cL_law 878 = .ok (.iload 7, 2) := by decide +kernel
theorem dL_law_880 : decode cL_law 880 = .ok (.ifCond .eq 7, 3) := by decide +kernel
theorem dL_law_883 : decode cL_law 883 = .ok (.lconst 1, 1) := by decide +kernel
theorem dL_law_884 : decode cL_law 884 = .ok (.goto 4, 3) := by decide +kernel
theorem dL_law_887 : decode cL_law 887 = .ok (.lconst 0, 1) := by decide +kernel
theorem dL_law_888 : decode cL_law 888 = .ok (.lcmp, 1) := by decide +kernel
theorem dL_law_889 : decode cL_law 889 = .ok (.ifCond .eq 5, 3) := by decide +kernel
theorem dL_law_892 : decode cL_law 892 = .ok (.iconst 0, 1) := by decide +kernel
theorem dL_law_893 : decode cL_law 893 = .ok (.ireturn, 1) := by decide +kernel
theorem dL_law_894 : decode cL_law 894 = .ok (.goto 941, 3) := by decide +kernel
theorem dL_law_897 : decode cL_law 897 = .ok (.aload_n 1, 1) := by decide +kernel
theorem dL_law_898 : decode cL_law 898 = .ok (.aload_n 0, 1) := by decide +kernel
theorem dL_law_899 : decode cL_law 899 = .ok (.iload 5, 2) := by decide +kernel
theorem dL_law_901 : decode cL_law 901 = .ok (.iconst 1, 1) := by decide +kernel
theorem dL_law_902 : decode cL_law 902 = .ok (.iadd, 1) := by decide +kernel
theorem dL_law_903 : decode cL_law 903 = .ok (.iaload, 1) := by decide +kernel
theorem dL_law_904 : decode cL_law 904 = .ok (.aload_n 0, 1) := by decide +kernel
theorem dL_law_905 : decode cL_law 905 = .ok (.iload 5, 2) := by decide +kernel
theorem dL_law_907 : decode cL_law 907 = .ok (.iconst 2, 1) := by decide +kernel
theorem dL_law_908 : decode cL_law 908 = .ok (.iadd, 1) := by decide +kernel
theorem dL_law_909 : decode cL_law 909 = .ok (.iaload, 1) := by decide +kernel
theorem dL_law_910 : decode cL_law 910 = .ok (.aload_n 3, 1) := by decide +kernel
theorem dL_law_911 : decode cL_law 911 = .ok (.invokestatic 135, 3) := by decide +kernel
theorem dL_law_914 : decode cL_law 914 = .ok (.istore 6, 2) := by decide +kernel
theorem dL_law_916 : decode cL_law 916 = .ok (.aload_n 2, 1) := by decide +kernel
theorem dL_law_917 : decode cL_law 917 = .ok (.aload_n 0, 1) := by decide +kernel
theorem dL_law_918 : decode cL_law 918 = .ok (.iload 5, 2) := by decide +kernel
theorem dL_law_920 : decode cL_law 920 = .ok (.iconst 1, 1) := by decide +kernel
theorem dL_law_921 : decode cL_law 921 = .ok (.iadd, 1) := by decide +kernel
theorem dL_law_922 : decode cL_law 922 = .ok (.iaload, 1) := by decide +kernel
theorem dL_law_923 : decode cL_law 923 = .ok (.aload_n 0, 1) := by decide +kernel
theorem dL_law_924 : decode cL_law 924 = .ok (.iload 5, 2) := by decide +kernel
theorem dL_law_926 : decode cL_law 926 = .ok (.iconst 2, 1) := by decide +kernel
theorem dL_law_927 : decode cL_law 927 = .ok (.iadd, 1) := by decide +kernel
theorem dL_law_928 : decode cL_law 928 = .ok (.iaload, 1) := by decide +kernel
theorem dL_law_929 : decode cL_law 929 = .ok (.invokevirtual 137, 3) := by decide +kernel
theorem dL_law_932 : decode cL_law 932 = .ok (.istore 7, 2) := by decide +kernel
theorem dL_law_934 : decode cL_law 934 = .ok (.aload_n 2, 1) := by decide +kernel
theorem dL_law_935 : decode cL_law 935 = .ok (.invokevirtual 100, 3) := by decide +kernel
theorem dL_law_938 : decode cL_law 938 = .ok (.iload 6, 2) := by decide +kernel
theorem dL_law_940 : decode cL_law 940 = .ok (.if_icmp .eq 5, 3) := by decide +kernel
theorem dL_law_943 : decode cL_law 943 = .ok (.iconst 0, 1) := by decide +kernel
theorem dL_law_944 : decode cL_law 944 = .ok (.ireturn, 1) := by decide +kernel
theorem dL_law_945 : decode cL_law 945 = .ok (.iload 6, 2) := by decide +kernel
theorem dL_law_947 : decode cL_law 947 = .ok (.ifCond .ne 15, 3) := by decide +kernel
theorem dL_law_950 : decode cL_law 950 = .ok (.aload_n 3, 1) := by decide +kernel
theorem dL_law_951 : decode cL_law 951 = .ok (.iconst 0, 1) := by decide +kernel
theorem dL_law_952 : decode cL_law 952 = .ok (.laload, 1) := by decide +kernel
theorem dL_law_953 : decode cL_law 953 = .ok (.iload 7, 2) := by decide +kernel
theorem dL_law_955 : decode cL_law 955 = .ok (.i2l, 1) := by decide +kernel
theorem dL_law_956 : decode cL_law 956 = .ok (.lcmp, 1) := by decide +kernel
theorem dL_law_957 : decode cL_law 957 = .ok (.ifCond .eq 5, 3) := by decide +kernel
theorem dL_law_960 : decode cL_law 960 = .ok (.iconst 0, 1) := by decide +kernel
theorem dL_law_961 : decode cL_law 961 = .ok (.ireturn, 1) := by decide +kernel
theorem dL_law_962 : decode cL_law 962 = .ok (.goto 873, 3) := by decide +kernel
theorem dL_law_965 : decode cL_law 965 = .ok (.aload_n 1, 1) := by decide +kernel
theorem dL_law_966 : decode cL_law 966 = .ok (.aload_n 0, 1) := by decide +kernel
theorem dL_law_967 : decode cL_law 967 = .ok (.iload 5, 2) := by decide +kernel
theorem dL_law_969 : decode cL_law 969 = .ok (.iconst 1, 1) := by decide +kernel
theorem dL_law_970 : decode cL_law 970 = .ok (.iadd, 1) := by decide +kernel
theorem dL_law_971 : decode cL_law 971 = .ok (.iaload, 1) := by decide +kernel
theorem dL_law_972 : decode cL_law 972 = .ok (.aload_n 0, 1) := by decide +kernel
theorem dL_law_973 : decode cL_law 973 = .ok (.iload 5, 2) := by decide +kernel
theorem dL_law_975 : decode cL_law 975 = .ok (.iconst 2, 1) := by decide +kernel
theorem dL_law_976 : decode cL_law 976 = .ok (.iadd, 1) := by decide +kernel
theorem dL_law_977 : decode cL_law 977 = .ok (.iaload, 1) := by decide +kernel
theorem dL_law_978 : decode cL_law 978 = .ok (.aload_n 3, 1) := by decide +kernel
theorem dL_law_979 : decode cL_law 979 = .ok (.invokestatic 138, 3) := by decide +kernel
theorem dL_law_982 : decode cL_law 982 = .ok (.istore 6, 2) := by decide +kernel
theorem dL_law_984 : decode cL_law 984 = .ok (.aload_n 2, 1) := by decide +kernel
theorem dL_law_985 : decode cL_law 985 = .ok (.aload_n 0, 1) := by decide +kernel
theorem dL_law_986 : decode cL_law 986 = .ok (.iload 5, 2) := by decide +kernel
theorem dL_law_988 : decode cL_law 988 = .ok (.iconst 1, 1) := by decide +kernel
theorem dL_law_989 : decode cL_law 989 = .ok (.iadd, 1) := by decide +kernel
theorem dL_law_990 : decode cL_law 990 = .ok (.iaload, 1) := by decide +kernel
theorem dL_law_991 : decode cL_law 991 = .ok (.aload_n 0, 1) := by decide +kernel
theorem dL_law_992 : decode cL_law 992 = .ok (.iload 5, 2) := by decide +kernel
theorem dL_law_994 : decode cL_law 994 = .ok (.iconst 2, 1) := by decide +kernel
theorem dL_law_995 : decode cL_law 995 = .ok (.iadd, 1) := by decide +kernel
theorem dL_law_996 : decode cL_law 996 = .ok (.iaload, 1) := by decide +kernel
theorem dL_law_997 : decode cL_law 997 = .ok (.invokevirtual 140, 3) := by decide +kernel
theorem dL_law_1000 : decode cL_law 1000 = .ok (.istore 7, 2) := by decide +kernel
theorem dL_law_1002 : decode cL_law 1002 = .ok (.aload_n 2, 1) := by decide +kernel
theorem dL_law_1003 : decode cL_law 1003 = .ok (.invokevirtual 100, 3) := by decide +kernel
theorem dL_law_1006 : decode cL_law 1006 = .ok (.iload 6, 2) := by decide +kernel
theorem dL_law_1008 : decode cL_law 1008 = .ok (.if_icmp .eq 5, 3) := by decide +kernel
theorem dL_law_1011 : decode cL_law 1011 = .ok (.iconst 0, 1) := by decide +kernel
theorem dL_law_1012 : decode cL_law 1012 = .ok (.ireturn, 1) := by decide +kernel
theorem dL_law_1013 : decode cL_law 1013 = .ok (.iload 6, 2) := by decide +kernel
theorem dL_law_1015 : decode cL_law 1015 = .ok (.ifCond .ne 22, 3) := by decide +kernel
theorem dL_law_1018 : decode cL_law 1018 = .ok (.aload_n 3, 1) := by decide +kernel
theorem dL_law_1019 : decode cL_law 1019 = .ok (.iconst 0, 1) := by decide +kernel
theorem dL_law_1020 : decode cL_law 1020 = .ok (.laload, 1) := by decide +kernel
theorem dL_law_1021 : decode cL_law 1021 = .ok (.iload 7, 2) := by decide +kernel
theorem dL_law_1023 : decode cL_law 1023 = .ok (.ifCond .eq 7, 3) := by decide +kernel
theorem dL_law_1026 : decode cL_law 1026 = .ok (.lconst 1, 1) := by decide +kernel
theorem dL_law_1027 : decode cL_law 1027 = .ok (.goto 4, 3) := by decide +kernel
theorem dL_law_1030 : decode cL_law 1030 = .ok (.lconst 0, 1) := by decide +kernel
theorem dL_law_1031 : decode cL_law 1031 = .ok (.lcmp, 1) := by decide +kernel
theorem dL_law_1032 : decode cL_law 1032 = .ok (.ifCond .eq 5, 3) := by decide +kernel
theorem dL_law_1035 : decode cL_law 1035 = .ok (.iconst 0, 1) := by decide +kernel
theorem dL_law_1036 : decode cL_law 1036 = .ok (.ireturn, 1) := by decide +kernel
theorem dL_law_1037 : decode cL_law 1037 = .ok (.goto 798, 3) := by decide +kernel
theorem dL_law_1040 : decode cL_law 1040 = .ok (.aload_n 1, 1) := by decide +kernel
theorem dL_law_1041 : decode cL_law 1041 = .ok (.aload_n 0, 1) := by decide +kernel
theorem dL_law_1042 : decode cL_law 1042 = .ok (.iload 5, 2) := by decide +kernel
theorem dL_law_1044 : decode cL_law 1044 = .ok (.iconst 1, 1) := by decide +kernel
theorem dL_law_1045 : decode cL_law 1045 = .ok (.iadd, 1) := by decide +kernel
theorem dL_law_1046 : decode cL_law 1046 = .ok (.iaload, 1) := by decide +kernel
theorem dL_law_1047 : decode cL_law 1047 = .ok (.aload_n 0, 1) := by decide +kernel
theorem dL_law_1048 : decode cL_law 1048 = .ok (.iload 5, 2) := by decide +kernel
theorem dL_law_1050 : decode cL_law 1050 = .ok (.iconst 2, 1) := by decide +kernel
theorem dL_law_1051 : decode cL_law 1051 = .ok (.iadd, 1) := by decide +kernel
theorem dL_law_1052 : decode cL_law 1052 = .ok (.iaload, 1) := by decide +kernel
theorem dL_law_1053 : decode cL_law 1053 = .ok (.aload_n 0, 1) := by decide +kernel
theorem dL_law_1054 : decode cL_law 1054 = .ok (.iload 5, 2) := by decide +kernel
theorem dL_law_1056 : decode cL_law 1056 = .ok (.iconst 3, 1) := by decide +kernel
theorem dL_law_1057 : decode cL_law 1057 = .ok (.iadd, 1) := by decide +kernel
theorem dL_law_1058 : decode cL_law 1058 = .ok (.iaload, 1) := by decide +kernel
theorem dL_law_1059 : decode cL_law 1059 = .ok (.ifCond .eq 7, 3) := by decide +kernel
theorem dL_law_1062 : decode cL_law 1062 = .ok (.iconst 1, 1) := by decide +kernel
theorem dL_law_1063 : decode cL_law 1063 = .ok (.goto 4, 3) := by decide +kernel
theorem dL_law_1066 : decode cL_law 1066 = .ok (.iconst 0, 1) := by decide +kernel
theorem dL_law_1067 : decode cL_law 1067 = .ok (.aload_n 3, 1) := by decide +kernel
theorem dL_law_1068 : decode cL_law 1068 = .ok (.invokestatic 141, 3) := by decide +kernel
theorem dL_law_1071 : decode cL_law 1071 = .ok (.istore 6, 2) := by decide +kernel
theorem dL_law_1073 : decode cL_law 1073 = .ok (.aload_n 2, 1) := by decide +kernel
theorem dL_law_1074 : decode cL_law 1074 = .ok (.aload_n 0, 1) := by decide +kernel
theorem dL_law_1075 : decode cL_law 1075 = .ok (.iload 5, 2) := by decide +kernel
theorem dL_law_1077 : decode cL_law 1077 = .ok (.iconst 1, 1) := by decide +kernel
theorem dL_law_1078 : decode cL_law 1078 = .ok (.iadd, 1) := by decide +kernel
theorem dL_law_1079 : decode cL_law 1079 = .ok (.iaload, 1) := by decide +kernel
theorem dL_law_1080 : decode cL_law 1080 = .ok (.aload_n 0, 1) := by decide +kernel
theorem dL_law_1081 : decode cL_law 1081 = .ok (.iload 5, 2) := by decide +kernel
theorem dL_law_1083 : decode cL_law 1083 = .ok (.iconst 2, 1) := by decide +kernel
theorem dL_law_1084 : decode cL_law 1084 = .ok (.iadd, 1) := by decide +kernel
theorem dL_law_1085 : decode cL_law 1085 = .ok (.iaload, 1) := by decide +kernel
theorem dL_law_1086 : decode cL_law 1086 = .ok (.aload_n 0, 1) := by decide +kernel
theorem dL_law_1087 : decode cL_law 1087 = .ok (.iload 5, 2) := by decide +kernel
theorem dL_law_1089 : decode cL_law 1089 = .ok (.iconst 3, 1) := by decide +kernel
theorem dL_law_1090 : decode cL_law 1090 = .ok (.iadd, 1) := by decide +kernel
theorem dL_law_1091 : decode cL_law 1091 = .ok (.iaload, 1) := by decide +kernel
theorem dL_law_1092 : decode cL_law 1092 = .ok (.ifCond .eq 7, 3) := by decide +kernel
theorem dL_law_1095 : decode cL_law 1095 = .ok (.iconst 1, 1) := by decide +kernel
theorem dL_law_1096 : decode cL_law 1096 = .ok (.goto 4, 3) := by decide +kernel
theorem dL_law_1099 : decode cL_law 1099 = .ok (.iconst 0, 1) := by decide +kernel
theorem dL_law_1100 : decode cL_law 1100 = .ok (.invokevirtual 144, 3) := by decide +kernel
theorem dL_law_1103 : decode cL_law 1103 = .ok (.lstore 7, 2) := by decide +kernel
theorem dL_law_1105 : decode cL_law 1105 = .ok (.aload_n 2, 1) := by decide +kernel
theorem dL_law_1106 : decode cL_law 1106 = .ok (.invokevirtual 100, 3) := by decide +kernel
theorem dL_law_1109 : decode cL_law 1109 = .ok (.iload 6, 2) := by decide +kernel
theorem dL_law_1111 : decode cL_law 1111 = .ok (.if_icmp .eq 5, 3) := by decide +kernel
theorem dL_law_1114 : decode cL_law 1114 = .ok (.iconst 0, 1) := by decide +kernel
theorem dL_law_1115 : decode cL_law 1115 = .ok (.ireturn, 1) := by decide +kernel
theorem dL_law_1116 : decode cL_law 1116 = .ok (.iload 6, 2) := by decide +kernel
theorem dL_law_1118 : decode cL_law 1118 = .ok (.ifCond .ne 14, 3) := by decide +kernel
theorem dL_law_1121 : decode cL_law 1121 = .ok (.aload_n 3, 1) := by decide +kernel
theorem dL_law_1122 : decode cL_law 1122 = .ok (.iconst 0, 1) := by decide +kernel
theorem dL_law_1123 : decode cL_law 1123 = .ok (.laload, 1) := by decide +kernel
theorem dL_law_1124 : decode cL_law 1124 = .ok (.lload 7, 2) := by decide +kernel
end
section
theorem dL_law_1126 : decode cL_law 1126 = .ok (.lcmp, 1) := by decide +kernel
theorem dL_law_1127 : decode cL_law 1127 = .ok (.ifCond .eq 5, 3) := by decide +kernel
theorem dL_law_1130 : decode cL_law 1130 = .ok (.iconst 0, 1) := by decide +kernel
theorem dL_law_1131 : decode cL_law 1131 = .ok (.ireturn, 1) := by decide +kernel
theorem dL_law_1132 : decode cL_law 1132 = .ok (.goto 703, 3) := by decide +kernel
theorem dL_law_1135 : decode cL_law 1135 = .ok (.aload_n 1, 1) := by decide +kernel
theorem dL_law_1136 : decode cL_law 1136 = .ok (.aload_n 0, 1) := by decide +kernel
theorem dL_law_1137 : decode cL_law 1137 = .ok (.iload 5, 2) := by decide +kernel
theorem dL_law_1139 : decode cL_law 1139 = .ok (.iconst 1, 1) := by decide +kernel
theorem dL_law_1140 : decode cL_law 1140 = .ok (.iadd, 1) := by decide +kernel
theorem dL_law_1141 : decode cL_law 1141 = .ok (.iaload, 1) := by decide +kernel
theorem dL_law_1142 : decode cL_law 1142 = .ok (.aload_n 0, 1) := by decide +kernel
theorem dL_law_1143 : decode cL_law 1143 = .ok (.iload 5, 2) := by decide +kernel
theorem dL_law_1145 : decode cL_law 1145 = .ok (.iconst 2, 1) := by decide +kernel
theorem dL_law_1146 : decode cL_law 1146 = .ok (.iadd, 1) := by decide +kernel
theorem dL_law_1147 : decode cL_law 1147 = .ok (.iaload, 1) := by decide +kernel
theorem dL_law_1148 : decode cL_law 1148 = .ok (.aload_n 0, 1) := by decide +kernel
theorem dL_law_1149 : decode cL_law 1149 = .ok (.iload 5, 2) := by decide +kernel
theorem dL_law_1151 : decode cL_law 1151 = .ok (.iconst 3, 1) := by decide +kernel
theorem dL_law_1152 : decode cL_law 1152 = .ok (.iadd, 1) := by decide +kernel
theorem dL_law_1153 : decode cL_law 1153 = .ok (.iaload, 1) := by decide +kernel
theorem dL_law_1154 : decode cL_law 1154 = .ok (.ifCond .eq 7, 3) := by decide +kernel
theorem dL_law_1157 : decode cL_law 1157 = .ok (.iconst 1, 1) := by decide +kernel
theorem dL_law_1158 : decode cL_law 1158 = .ok (.goto 4, 3) := by decide +kernel
theorem dL_law_1161 : decode cL_law 1161 = .ok (.iconst 0, 1) := by decide +kernel
theorem dL_law_1162 : decode cL_law 1162 = .ok (.aload_n 3, 1) := by decide +kernel
theorem dL_law_1163 : decode cL_law 1163 = .ok (.invokestatic 145, 3) := by decide +kernel
theorem dL_law_1166 : decode cL_law 1166 = .ok (.istore 6, 2) := by decide +kernel
theorem dL_law_1168 : decode cL_law 1168 = .ok (.aload_n 2, 1) := by decide +kernel
theorem dL_law_1169 : decode cL_law 1169 = .ok (.aload_n 0, 1) := by decide +kernel
theorem dL_law_1170 : decode cL_law 1170 = .ok (.iload 5, 2) := by decide +kernel
theorem dL_law_1172 : decode cL_law 1172 = .ok (.iconst 1, 1) := by decide +kernel
theorem dL_law_1173 : decode cL_law 1173 = .ok (.iadd, 1) := by decide +kernel
theorem dL_law_1174 : decode cL_law 1174 = .ok (.iaload, 1) := by decide +kernel
theorem dL_law_1175 : decode cL_law 1175 = .ok (.aload_n 0, 1) := by decide +kernel
theorem dL_law_1176 : decode cL_law 1176 = .ok (.iload 5, 2) := by decide +kernel
theorem dL_law_1178 : decode cL_law 1178 = .ok (.iconst 2, 1) := by decide +kernel
theorem dL_law_1179 : decode cL_law 1179 = .ok (.iadd, 1) := by decide +kernel
theorem dL_law_1180 : decode cL_law 1180 = .ok (.iaload, 1) := by decide +kernel
theorem dL_law_1181 : decode cL_law 1181 = .ok (.aload_n 0, 1) := by decide +kernel
theorem dL_law_1182 : decode cL_law 1182 = .ok (.iload 5, 2) := by decide +kernel
theorem dL_law_1184 : decode cL_law 1184 = .ok (.iconst 3, 1) := by decide +kernel
theorem dL_law_1185 : decode cL_law 1185 = .ok (.iadd, 1) := by decide +kernel
theorem dL_law_1186 : decode cL_law 1186 = .ok (.iaload, 1) := by decide +kernel
theorem dL_law_1187 : decode cL_law 1187 = .ok (.ifCond .eq 7, 3) := by decide +kernel
theorem dL_law_1190 : decode cL_law 1190 = .ok (.iconst 1, 1) := by decide +kernel
theorem dL_law_1191 : decode cL_law 1191 = .ok (.goto 4, 3) := by decide +kernel
theorem dL_law_1194 : decode cL_law 1194 = .ok (.iconst 0, 1) := by decide +kernel
theorem dL_law_1195 : decode cL_law 1195 = .ok (.invokevirtual 147, 3) := by decide +kernel
theorem dL_law_1198 : decode cL_law 1198 = .ok (.lstore 7, 2) := by decide +kernel
theorem dL_law_1200 : decode cL_law 1200 = .ok (.aload_n 2, 1) := by decide +kernel
theorem dL_law_1201 : decode cL_law 1201 = .ok (.invokevirtual 100, 3) := by decide +kernel
theorem dL_law_1204 : decode cL_law 1204 = .ok (.iload 6, 2) := by decide +kernel
theorem dL_law_1206 : decode cL_law 1206 = .ok (.if_icmp .eq 5, 3) := by decide +kernel
theorem dL_law_1209 : decode cL_law 1209 = .ok (.iconst 0, 1) := by decide +kernel
theorem dL_law_1210 : decode cL_law 1210 = .ok (.ireturn, 1) := by decide +kernel
theorem dL_law_1211 : decode cL_law 1211 = .ok (.iload 6, 2) := by decide +kernel
theorem dL_law_1213 : decode cL_law 1213 = .ok (.ifCond .ne 14, 3) := by decide +kernel
theorem dL_law_1216 : decode cL_law 1216 = .ok (.aload_n 3, 1) := by decide +kernel
theorem dL_law_1217 : decode cL_law 1217 = .ok (.iconst 0, 1) := by decide +kernel
theorem dL_law_1218 : decode cL_law 1218 = .ok (.laload, 1) := by decide +kernel
theorem dL_law_1219 : decode cL_law 1219 = .ok (.lload 7, 2) := by decide +kernel
theorem dL_law_1221 : decode cL_law 1221 = .ok (.lcmp, 1) := by decide +kernel
theorem dL_law_1222 : decode cL_law 1222 = .ok (.ifCond .eq 5, 3) := by decide +kernel
theorem dL_law_1225 : decode cL_law 1225 = .ok (.iconst 0, 1) := by decide +kernel
theorem dL_law_1226 : decode cL_law 1226 = .ok (.ireturn, 1) := by decide +kernel
theorem dL_law_1227 : decode cL_law 1227 = .ok (.goto 608, 3) := by decide +kernel
theorem dL_law_1230 : decode cL_law 1230 = .ok (.aload_n 1, 1) := by decide +kernel
theorem dL_law_1231 : decode cL_law 1231 = .ok (.aload_n 0, 1) := by decide +kernel
theorem dL_law_1232 : decode cL_law 1232 = .ok (.iload 5, 2) := by decide +kernel
theorem dL_law_1234 : decode cL_law 1234 = .ok (.iconst 1, 1) := by decide +kernel
theorem dL_law_1235 : decode cL_law 1235 = .ok (.iadd, 1) := by decide +kernel
theorem dL_law_1236 : decode cL_law 1236 = .ok (.iaload, 1) := by decide +kernel
theorem dL_law_1237 : decode cL_law 1237 = .ok (.aload_n 0, 1) := by decide +kernel
theorem dL_law_1238 : decode cL_law 1238 = .ok (.iload 5, 2) := by decide +kernel
theorem dL_law_1240 : decode cL_law 1240 = .ok (.iconst 2, 1) := by decide +kernel
theorem dL_law_1241 : decode cL_law 1241 = .ok (.iadd, 1) := by decide +kernel
theorem dL_law_1242 : decode cL_law 1242 = .ok (.iaload, 1) := by decide +kernel
theorem dL_law_1243 : decode cL_law 1243 = .ok (.aload_n 0, 1) := by decide +kernel
theorem dL_law_1244 : decode cL_law 1244 = .ok (.iload 5, 2) := by decide +kernel
theorem dL_law_1246 : decode cL_law 1246 = .ok (.iconst 3, 1) := by decide +kernel
theorem dL_law_1247 : decode cL_law 1247 = .ok (.iadd, 1) := by decide +kernel
theorem dL_law_1248 : decode cL_law 1248 = .ok (.iaload, 1) := by decide +kernel
theorem dL_law_1249 : decode cL_law 1249 = .ok (.ifCond .eq 7, 3) := by decide +kernel
theorem dL_law_1252 : decode cL_law 1252 = .ok (.iconst 1, 1) := by decide +kernel
theorem dL_law_1253 : decode cL_law 1253 = .ok (.goto 4, 3) := by decide +kernel
theorem dL_law_1256 : decode cL_law 1256 = .ok (.iconst 0, 1) := by decide +kernel
theorem dL_law_1257 : decode cL_law 1257 = .ok (.aload_n 3, 1) := by decide +kernel
theorem dL_law_1258 : decode cL_law 1258 = .ok (.invokestatic 148, 3) := by decide +kernel
theorem dL_law_1261 : decode cL_law 1261 = .ok (.istore 6, 2) := by decide +kernel
theorem dL_law_1263 : decode cL_law 1263 = .ok (.aload_n 2, 1) := by decide +kernel
theorem dL_law_1264 : decode cL_law 1264 = .ok (.aload_n 0, 1) := by decide +kernel
theorem dL_law_1265 : decode cL_law 1265 = .ok (.iload 5, 2) := by decide +kernel
theorem dL_law_1267 : decode cL_law 1267 = .ok (.iconst 1, 1) := by decide +kernel
theorem dL_law_1268 : decode cL_law 1268 = .ok (.iadd, 1) := by decide +kernel
theorem dL_law_1269 : decode cL_law 1269 = .ok (.iaload, 1) := by decide +kernel
theorem dL_law_1270 : decode cL_law 1270 = .ok (.aload_n 0, 1) := by decide +kernel
theorem dL_law_1271 : decode cL_law 1271 = .ok (.iload 5, 2) := by decide +kernel
theorem dL_law_1273 : decode cL_law 1273 = .ok (.iconst 2, 1) := by decide +kernel
theorem dL_law_1274 : decode cL_law 1274 = .ok (.iadd, 1) := by decide +kernel
theorem dL_law_1275 : decode cL_law 1275 = .ok (.iaload, 1) := by decide +kernel
theorem dL_law_1276 : decode cL_law 1276 = .ok (.aload_n 0, 1) := by decide +kernel
theorem dL_law_1277 : decode cL_law 1277 = .ok (.iload 5, 2) := by decide +kernel
theorem dL_law_1279 : decode cL_law 1279 = .ok (.iconst 3, 1) := by decide +kernel
theorem dL_law_1280 : decode cL_law 1280 = .ok (.iadd, 1) := by decide +kernel
theorem dL_law_1281 : decode cL_law 1281 = .ok (.iaload, 1) := by decide +kernel
theorem dL_law_1282 : decode cL_law 1282 = .ok (.ifCond .eq 7, 3) := by decide +kernel
theorem dL_law_1285 : decode cL_law 1285 = .ok (.iconst 1, 1) := by decide +kernel
theorem dL_law_1286 : decode cL_law 1286 = .ok (.goto 4, 3) := by decide +kernel
theorem dL_law_1289 : decode cL_law 1289 = .ok (.iconst 0, 1) := by decide +kernel
theorem dL_law_1290 : decode cL_law 1290 = .ok (.invokevirtual 150, 3) := by decide +kernel
theorem dL_law_1293 : decode cL_law 1293 = .ok (.lstore 7, 2) := by decide +kernel
theorem dL_law_1295 : decode cL_law 1295 = .ok (.aload_n 2, 1) := by decide +kernel
theorem dL_law_1296 : decode cL_law 1296 = .ok (.invokevirtual 100, 3) := by decide +kernel
theorem dL_law_1299 : decode cL_law 1299 = .ok (.iload 6, 2) := by decide +kernel
theorem dL_law_1301 : decode cL_law 1301 = .ok (.if_icmp .eq 5, 3) := by decide +kernel
theorem dL_law_1304 : decode cL_law 1304 = .ok (.iconst 0, 1) := by decide +kernel
theorem dL_law_1305 : decode cL_law 1305 = .ok (.ireturn, 1) := by decide +kernel
theorem dL_law_1306 : decode cL_law 1306 = .ok (.iload 6, 2) := by decide +kernel
theorem dL_law_1308 : decode cL_law 1308 = .ok (.ifCond .ne 14, 3) := by decide +kernel
theorem dL_law_1311 : decode cL_law 1311 = .ok (.aload_n 3, 1) := by decide +kernel
theorem dL_law_1312 : decode cL_law 1312 = .ok (.iconst 0, 1) := by decide +kernel
theorem dL_law_1313 : decode cL_law 1313 = .ok (.laload, 1) := by decide +kernel
theorem dL_law_1314 : decode cL_law 1314 = .ok (.lload 7, 2) := by decide +kernel
theorem dL_law_1316 : decode cL_law 1316 = .ok (.lcmp, 1) := by decide +kernel
theorem dL_law_1317 : decode cL_law 1317 = .ok (.ifCond .eq 5, 3) := by decide +kernel
theorem dL_law_1320 : decode cL_law 1320 = .ok (.iconst 0, 1) := by decide +kernel
theorem dL_law_1321 : decode cL_law 1321 = .ok (.ireturn, 1) := by decide +kernel
theorem dL_law_1322 : decode cL_law 1322 = .ok (.goto 513, 3) := by decide +kernel
theorem dL_law_1325 : decode cL_law 1325 = .ok (.aload_n 1, 1) := by decide +kernel
theorem dL_law_1326 : decode cL_law 1326 = .ok (.aload_n 0, 1) := by decide +kernel
theorem dL_law_1327 : decode cL_law 1327 = .ok (.iload 5, 2) := by decide +kernel
theorem dL_law_1329 : decode cL_law 1329 = .ok (.iconst 1, 1) := by decide +kernel
theorem dL_law_1330 : decode cL_law 1330 = .ok (.iadd, 1) := by decide +kernel
theorem dL_law_1331 : decode cL_law 1331 = .ok (.iaload, 1) := by decide +kernel
theorem dL_law_1332 : decode cL_law 1332 = .ok (.aload_n 0, 1) := by decide +kernel
theorem dL_law_1333 : decode cL_law 1333 = .ok (.iload 5, 2) := by decide +kernel
theorem dL_law_1335 : decode cL_law 1335 = .ok (.iconst 2, 1) := by decide +kernel
theorem dL_law_1336 : decode cL_law 1336 = .ok (.iadd, 1) := by decide +kernel
theorem dL_law_1337 : decode cL_law 1337 = .ok (.iaload, 1) := by decide +kernel
theorem dL_law_1338 : decode cL_law 1338 = .ok (.aload_n 0, 1) := by decide +kernel
theorem dL_law_1339 : decode cL_law 1339 = .ok (.iload 5, 2) := by decide +kernel
theorem dL_law_1341 : decode cL_law 1341 = .ok (.iconst 3, 1) := by decide +kernel
theorem dL_law_1342 : decode cL_law 1342 = .ok (.iadd, 1) := by decide +kernel
theorem dL_law_1343 : decode cL_law 1343 = .ok (.iaload, 1) := by decide +kernel
theorem dL_law_1344 : decode cL_law 1344 = .ok (.aload_n 0, 1) := by decide +kernel
theorem dL_law_1345 : decode cL_law 1345 = .ok (.iload 5, 2) := by decide +kernel
theorem dL_law_1347 : decode cL_law 1347 = .ok (.iconst 4, 1) := by decide +kernel
theorem dL_law_1348 : decode cL_law 1348 = .ok (.iadd, 1) := by decide +kernel
theorem dL_law_1349 : decode cL_law 1349 = .ok (.iaload, 1) := by decide +kernel
theorem dL_law_1350 : decode cL_law 1350 = .ok (.ifCond .eq 7, 3) := by decide +kernel
theorem dL_law_1353 : decode cL_law 1353 = .ok (.iconst 1, 1) := by decide +kernel
theorem dL_law_1354 : decode cL_law 1354 = .ok (.goto 4, 3) := by decide +kernel
theorem dL_law_1357 : decode cL_law 1357 = .ok (.iconst 0, 1) := by decide +kernel
theorem dL_law_1358 : decode cL_law 1358 = .ok (.aload_n 3, 1) := by decide +kernel
theorem dL_law_1359 : decode cL_law 1359 = .ok (.invokestatic 151, 3) := by decide +kernel
theorem dL_law_1362 : decode cL_law 1362 = .ok (.istore 6, 2) := by decide +kernel
theorem dL_law_1364 : decode cL_law 1364 = .ok (.aload_n 2, 1) := by decide +kernel
theorem dL_law_1365 : decode cL_law 1365 = .ok (.aload_n 0, 1) := by decide +kernel
theorem dL_law_1366 : decode cL_law 1366 = .ok (.iload 5, 2) := by decide +kernel
theorem dL_law_1368 : decode cL_law 1368 = .ok (.iconst 1, 1) := by decide +kernel
theorem dL_law_1369 : decode cL_law 1369 = .ok (.iadd, 1) := by decide +kernel
theorem dL_law_1370 : decode cL_law 1370 = .ok (.iaload, 1) := by decide +kernel
theorem dL_law_1371 : decode cL_law 1371 = .ok (.aload_n 0, 1) := by decide +kernel
theorem dL_law_1372 : decode cL_law 1372 = .ok (.iload 5, 2) := by decide +kernel
theorem dL_law_1374 : decode cL_law 1374 = .ok (.iconst 2, 1) := by decide +kernel
theorem dL_law_1375 : decode cL_law 1375 = .ok (.iadd, 1) := by decide +kernel
theorem dL_law_1376 : decode cL_law 1376 = .ok (.iaload, 1) := by decide +kernel
theorem dL_law_1377 : decode cL_law 1377 = .ok (.aload_n 0, 1) := by decide +kernel
theorem dL_law_1378 : decode cL_law 1378 = .ok (.iload 5, 2) := by decide +kernel
theorem dL_law_1380 : decode cL_law 1380 = .ok (.iconst 3, 1) := by decide +kernel
theorem dL_law_1381 : decode cL_law 1381 = .ok (.iadd, 1) := by decide +kernel
theorem dL_law_1382 : decode cL_law 1382 = .ok (.iaload, 1) := by decide +kernel
theorem dL_law_1383 : decode cL_law 1383 = .ok (.aload_n 0, 1) := by decide +kernel
theorem dL_law_1384 : decode cL_law 1384 = .ok (.iload 5, 2) := by decide +kernel
theorem dL_law_1386 : decode cL_law 1386 = .ok (.iconst 4, 1) := by decide +kernel
theorem dL_law_1387 : decode cL_law 1387 = .ok (.iadd, 1) := by decide +kernel
theorem dL_law_1388 : decode cL_law 1388 = .ok (.iaload, 1) := by decide +kernel
theorem dL_law_1389 : decode cL_law 1389 = .ok (.ifCond .eq 7, 3) := by decide +kernel
theorem dL_law_1392 : decode cL_law 1392 = .ok (.iconst 1, 1) := by decide +kernel
theorem dL_law_1393 : decode cL_law 1393 = .ok (.goto 4, 3) := by decide +kernel
theorem dL_law_1396 : decode cL_law 1396 = .ok (.iconst 0, 1) := by decide +kernel
theorem dL_law_1397 : decode cL_law 1397 = .ok (.invokevirtual 154, 3) := by decide +kernel
theorem dL_law_1400 : decode cL_law 1400 = .ok (.lstore 7, 2) := by decide +kernel
theorem dL_law_1402 : decode cL_law 1402 = .ok (.aload_n 2, 1) := by decide +kernel
theorem dL_law_1403 : decode cL_law 1403 = .ok (.invokevirtual 100, 3) := by decide +kernel
theorem dL_law_1406 : decode cL_law 1406 = .ok (.iload 6, 2) := by decide +kernel
theorem dL_law_1408 : decode cL_law 1408 = .ok (.if_icmp .eq 5, 3) := by decide +kernel
theorem dL_law_1411 : decode cL_law 1411 = .ok (.iconst 0, 1) := by decide +kernel
theorem dL_law_1412 : decode cL_law 1412 = .ok (.ireturn, 1) := by decide +kernel
theorem dL_law_1413 : decode cL_law 1413 = .ok (.iload 6, 2) := by decide +kernel
theorem dL_law_1415 : decode cL_law 1415 = .ok (.ifCond .ne 14, 3) := by decide +kernel
theorem dL_law_1418 : decode cL_law 1418 = .ok (.aload_n 3, 1) := by decide +kernel
theorem dL_law_1419 : decode cL_law 1419 = .ok (.iconst 0, 1) := by decide +kernel
theorem dL_law_1420 : decode cL_law 1420 = .ok (.laload, 1) := by decide +kernel
theorem dL_law_1421 : decode cL_law 1421 = .ok (.lload 7, 2) := by decide +kernel
theorem dL_law_1423 : decode cL_law 1423 = .ok (.lcmp, 1) := by decide +kernel
theorem dL_law_1424 : decode cL_law 1424 = .ok (.ifCond .eq 5, 3) := by decide +kernel
theorem dL_law_1427 : decode cL_law 1427 = .ok (.iconst 0, 1) := by decide +kernel
theorem dL_law_1428 : decode cL_law 1428 = .ok (.ireturn, 1) := by decide +kernel
theorem dL_law_1429 : decode cL_law 1429 = .ok (.goto 406, 3) := by decide +kernel
theorem dL_law_1432 : decode cL_law 1432 = .ok (.aload_n 1, 1) := by decide +kernel
theorem dL_law_1433 : decode cL_law 1433 = .ok (.aload_n 0, 1) := by decide +kernel
theorem dL_law_1434 : decode cL_law 1434 = .ok (.iload 5, 2) := by decide +kernel
theorem dL_law_1436 : decode cL_law 1436 = .ok (.iconst 1, 1) := by decide +kernel
theorem dL_law_1437 : decode cL_law 1437 = .ok (.iadd, 1) := by decide +kernel
theorem dL_law_1438 : decode cL_law 1438 = .ok (.iaload, 1) := by decide +kernel
theorem dL_law_1439 : decode cL_law 1439 = .ok (.aload 4, 2) := by decide +kernel
theorem dL_law_1441 : decode cL_law 1441 = .ok (.invokestatic 155, 3) := by decide +kernel
theorem dL_law_1444 : decode cL_law 1444 = .ok (.istore 6, 2) := by decide +kernel
theorem dL_law_1446 : decode cL_law 1446 = .ok (.aload_n 2, 1) := by decide +kernel
theorem dL_law_1447 : decode cL_law 1447 = .ok (.aload_n 0, 1) := by decide +kernel
theorem dL_law_1448 : decode cL_law 1448 = .ok (.iload 5, 2) := by decide +kernel
theorem dL_law_1450 : decode cL_law 1450 = .ok (.iconst 1, 1) := by decide +kernel
theorem dL_law_1451 : decode cL_law 1451 = .ok (.iadd, 1) := by decide +kernel
theorem dL_law_1452 : decode cL_law 1452 = .ok (.iaload, 1) := by decide +kernel
theorem dL_law_1453 : decode cL_law 1453 = .ok (.invokevirtual 158, 3) := by decide +kernel
theorem dL_law_1456 : decode cL_law 1456 = .ok (.dstore 7, 2) := by decide +kernel
theorem dL_law_1458 : decode cL_law 1458 = .ok (.aload_n 2, 1) := by decide +kernel
theorem dL_law_1459 : decode cL_law 1459 = .ok (.invokevirtual 100, 3) := by decide +kernel
theorem dL_law_1462 : decode cL_law 1462 = .ok (.iload 6, 2) := by decide +kernel
theorem dL_law_1464 : decode cL_law 1464 = .ok (.if_icmp .eq 5, 3) := by decide +kernel
theorem dL_law_1467 : decode cL_law 1467 = .ok (.iconst 0, 1) := by decide +kernel
theorem dL_law_1468 : decode cL_law 1468 = .ok (.ireturn, 1) := by decide +kernel
theorem dL_law_1469 : decode cL_law 1469 = .ok (.iload 6, 2) := by decide +kernel
theorem dL_law_1471 : decode cL_law 1471 = .ok (.ifCond .ne 35, 3) := by decide +kernel
theorem dL_law_1474 : decode cL_law 1474 = .ok (.aload 4, 2) := by decide +kernel
theorem dL_law_1476 : decode cL_law 1476 = .ok (.iconst 0, 1) := by decide +kernel
theorem dL_law_1477 : decode cL_law 1477 = .ok (.daload, 1) := by decide +kernel
theorem dL_law_1478 : decode cL_law 1478 = .ok (.dload 7, 2) := by decide +kernel
theorem dL_law_1480 : decode cL_law 1480 = .ok (.dcmp .l, 1) := by decide +kernel
theorem dL_law_1481 : decode cL_law 1481 = .ok (.ifCond .eq 25, 3) := by decide +kernel
theorem dL_law_1484 : decode cL_law 1484 = .ok (.aload 4, 2) := by decide +kernel
theorem dL_law_1486 : decode cL_law 1486 = .ok (.iconst 0, 1) := by decide +kernel
theorem dL_law_1487 : decode cL_law 1487 = .ok (.daload, 1) := by decide +kernel
theorem dL_law_1488 : decode cL_law 1488 = .ok (.aload 4, 2) := by decide +kernel
theorem dL_law_1490 : decode cL_law 1490 = .ok (.iconst 0, 1) := by decide +kernel
theorem dL_law_1491 : decode cL_law 1491 = .ok (.daload, 1) := by decide +kernel
theorem dL_law_1492 : decode cL_law 1492 = .ok (.dcmp .l, 1) := by decide +kernel
theorem dL_law_1493 : decode cL_law 1493 = .ok (.ifCond .eq 11, 3) := by decide +kernel
theorem dL_law_1496 : decode cL_law 1496 = .ok (.dload 7, 2) := by decide +kernel
theorem dL_law_1498 : decode cL_law 1498 = .ok (.dload 7, 2) := by decide +kernel
theorem dL_law_1500 : decode cL_law 1500 = .ok (.dcmp .l, 1) := by decide +kernel
theorem dL_law_1501 : decode cL_law 1501 = .ok (.ifCond .ne 5, 3) := by decide +kernel
theorem dL_law_1504 : decode cL_law 1504 = .ok (.iconst 0, 1) := by decide +kernel
theorem dL_law_1505 : decode cL_law 1505 = .ok (.ireturn, 1) := by decide +kernel
theorem dL_law_1506 : decode cL_law 1506 = .ok (.goto 329, 3) := by decide +kernel
theorem dL_law_1509 : decode cL_law 1509 = .ok (.aload_n 1, 1) := by decide +kernel
theorem dL_law_1510 : decode cL_law 1510 = .ok (.aload_n 0, 1) := by decide +kernel
theorem dL_law_1511 : decode cL_law 1511 = .ok (.iload 5, 2) := by decide +kernel
theorem dL_law_1513 : decode cL_law 1513 = .ok (.iconst 1, 1) := by decide +kernel
theorem dL_law_1514 : decode cL_law 1514 = .ok (.iadd, 1) := by decide +kernel
theorem dL_law_1515 : decode cL_law 1515 = .ok (.iaload, 1) := by decide +kernel
theorem dL_law_1516 : decode cL_law 1516 = .ok (.aload_n 3, 1) := by decide +kernel
theorem dL_law_1517 : decode cL_law 1517 = .ok (.invokestatic 159, 3) := by decide +kernel
theorem dL_law_1520 : decode cL_law 1520 = .ok (.istore 6, 2) := by decide +kernel
theorem dL_law_1522 : decode cL_law 1522 = .ok (.aload_n 2, 1) := by decide +kernel
theorem dL_law_1523 : decode cL_law 1523 = .ok (.aload_n 0, 1) := by decide +kernel
theorem dL_law_1524 : decode cL_law 1524 = .ok (.iload 5, 2) := by decide +kernel
theorem dL_law_1526 : decode cL_law 1526 = .ok (.iconst 1, 1) := by decide +kernel
theorem dL_law_1527 : decode cL_law 1527 = .ok (.iadd, 1) := by decide +kernel
theorem dL_law_1528 : decode cL_law 1528 = .ok (.iaload, 1) := by decide +kernel
theorem dL_law_1529 : decode cL_law 1529 = .ok (.invokevirtual 161, 3) := by decide +kernel
theorem dL_law_1532 : decode cL_law 1532 = .ok (.istore 7, 2) := by decide +kernel
theorem dL_law_1534 : decode cL_law 1534 = .ok (.aload_n 2, 1) := by decide +kernel
theorem dL_law_1535 : decode cL_law 1535 = .ok (.invokevirtual 100, 3) := by decide +kernel
theorem dL_law_1538 : decode cL_law 1538 = .ok (.iload 6, 2) := by decide +kernel
theorem dL_law_1540 : decode cL_law 1540 = .ok (.if_icmp .eq 5, 3) := by decide +kernel
theorem dL_law_1543 : decode cL_law 1543 = .ok (.iconst 0, 1) := by decide +kernel
theorem dL_law_1544 : decode cL_law 1544 = .ok (.ireturn, 1) := by decide +kernel
theorem dL_law_1545 : decode cL_law 1545 = .ok (.iload 6, 2) := by decide +kernel
theorem dL_law_1547 : decode cL_law 1547 = .ok (.ifCond .ne 15, 3) := by decide +kernel
theorem dL_law_1550 : decode cL_law 1550 = .ok (.aload_n 3, 1) := by decide +kernel
theorem dL_law_1551 : decode cL_law 1551 = .ok (.iconst 0, 1) := by decide +kernel
theorem dL_law_1552 : decode cL_law 1552 = .ok (.laload, 1) := by decide +kernel
theorem dL_law_1553 : decode cL_law 1553 = .ok (.iload 7, 2) := by decide +kernel
theorem dL_law_1555 : decode cL_law 1555 = .ok (.i2l, 1) := by decide +kernel
theorem dL_law_1556 : decode cL_law 1556 = .ok (.lcmp, 1) := by decide +kernel
theorem dL_law_1557 : decode cL_law 1557 = .ok (.ifCond .eq 5, 3) := by decide +kernel
theorem dL_law_1560 : decode cL_law 1560 = .ok (.iconst 0, 1) := by decide +kernel
theorem dL_law_1561 : decode cL_law 1561 = .ok (.ireturn, 1) := by decide +kernel
theorem dL_law_1562 : decode cL_law 1562 = .ok (.goto 273, 3) := by decide +kernel
theorem dL_law_1565 : decode cL_law 1565 = .ok (.aload_n 1, 1) := by decide +kernel
theorem dL_law_1566 : decode cL_law 1566 = .ok (.aload_n 0, 1) := by decide +kernel
theorem dL_law_1567 : decode cL_law 1567 = .ok (.iload 5, 2) := by decide +kernel
theorem dL_law_1569 : decode cL_law 1569 = .ok (.iconst 1, 1) := by decide +kernel
theorem dL_law_1570 : decode cL_law 1570 = .ok (.iadd, 1) := by decide +kernel
theorem dL_law_1571 : decode cL_law 1571 = .ok (.iaload, 1) := by decide +kernel
theorem dL_law_1572 : decode cL_law 1572 = .ok (.aload_n 0, 1) := by decide +kernel
theorem dL_law_1573 : decode cL_law 1573 = .ok (.iload 5, 2) := by decide +kernel
theorem dL_law_1575 : decode cL_law 1575 = .ok (.iconst 2, 1) := by decide +kernel
theorem dL_law_1576 : decode cL_law 1576 = .ok (.iadd, 1) := by decide +kernel
theorem dL_law_1577 : decode cL_law 1577 = .ok (.iaload, 1) := by decide +kernel
theorem dL_law_1578 : decode cL_law 1578 = .ok (.aload_n 0, 1) := by decide +kernel
theorem dL_law_1579 : decode cL_law 1579 = .ok (.iload 5, 2) := by decide +kernel
theorem dL_law_1581 : decode cL_law 1581 = .ok (.iconst 3, 1) := by decide +kernel
theorem dL_law_1582 : decode cL_law 1582 = .ok (.iadd, 1) := by decide +kernel
theorem dL_law_1583 : decode cL_law 1583 = .ok (.iaload, 1) := by decide +kernel
theorem dL_law_1584 : decode cL_law 1584 = .ok (.aload_n 0, 1) := by decide +kernel
theorem dL_law_1585 : decode cL_law 1585 = .ok (.iload 5, 2) := by decide +kernel
theorem dL_law_1587 : decode cL_law 1587 = .ok (.iconst 4, 1) := by decide +kernel
theorem dL_law_1588 : decode cL_law 1588 = .ok (.iadd, 1) := by decide +kernel
theorem dL_law_1589 : decode cL_law 1589 = .ok (.iaload, 1) := by decide +kernel
theorem dL_law_1590 : decode cL_law 1590 = .ok (.ifCond .eq 7, 3) := by decide +kernel
theorem dL_law_1593 : decode cL_law 1593 = .ok (.iconst 1, 1) := by decide +kernel
theorem dL_law_1594 : decode cL_law 1594 = .ok (.goto 4, 3) := by decide +kernel
theorem dL_law_1597 : decode cL_law 1597 = .ok (.iconst 0, 1) := by decide +kernel
theorem dL_law_1598 : decode cL_law 1598 = .ok (.aload_n 3, 1) := by decide +kernel
theorem dL_law_1599 : decode cL_law 1599 = .ok (.invokestatic 162, 3) := by decide +kernel
theorem dL_law_1602 : decode cL_law 1602 = .ok (.istore 6, 2) := by decide +kernel
theorem dL_law_1604 : decode cL_law 1604 = .ok (.aload_n 2, 1) := by decide +kernel
theorem dL_law_1605 : decode cL_law 1605 = .ok (.aload_n 0, 1) := by decide +kernel
theorem dL_law_1606 : decode cL_law 1606 = .ok (.iload 5, 2) := by decide +kernel
theorem dL_law_1608 : decode cL_law 1608 = .ok (.iconst 1, 1) := by decide +kernel
theorem dL_law_1609 : decode cL_law 1609 = .ok (.iadd, 1) := by decide +kernel
theorem dL_law_1610 : decode cL_law 1610 = .ok (.iaload, 1) := by decide +kernel
theorem dL_law_1611 : decode cL_law 1611 = .ok (.aload_n 0, 1) := by decide +kernel
theorem dL_law_1612 : decode cL_law 1612 = .ok (.iload 5, 2) := by decide +kernel
theorem dL_law_1614 : decode cL_law 1614 = .ok (.iconst 2, 1) := by decide +kernel
theorem dL_law_1615 : decode cL_law 1615 = .ok (.iadd, 1) := by decide +kernel
theorem dL_law_1616 : decode cL_law 1616 = .ok (.iaload, 1) := by decide +kernel
theorem dL_law_1617 : decode cL_law 1617 = .ok (.aload_n 0, 1) := by decide +kernel
theorem dL_law_1618 : decode cL_law 1618 = .ok (.iload 5, 2) := by decide +kernel
theorem dL_law_1620 : decode cL_law 1620 = .ok (.iconst 3, 1) := by decide +kernel
theorem dL_law_1621 : decode cL_law 1621 = .ok (.iadd, 1) := by decide +kernel
theorem dL_law_1622 : decode cL_law 1622 = .ok (.iaload, 1) := by decide +kernel
theorem dL_law_1623 : decode cL_law 1623 = .ok (.aload_n 0, 1) := by decide +kernel
theorem dL_law_1624 : decode cL_law 1624 = .ok (.iload 5, 2) := by decide +kernel
theorem dL_law_1626 : decode cL_law 1626 = .ok (.iconst 4, 1) := by decide +kernel
theorem dL_law_1627 : decode cL_law 1627 = .ok (.iadd, 1) := by decide +kernel
end
section
theorem dL_law_1628 : decode cL_law 1628 = .ok (.iaload, 1) := by decide +kernel
theorem dL_law_1629 : decode cL_law 1629 = .ok (.ifCond .eq 7, 3) := by decide +kernel
theorem dL_law_1632 : decode cL_law 1632 = .ok (.iconst 1, 1) := by decide +kernel
theorem dL_law_1633 : decode cL_law 1633 = .ok (.goto 4, 3) := by decide +kernel
theorem dL_law_1636 : decode cL_law 1636 = .ok (.iconst 0, 1) := by decide +kernel
theorem dL_law_1637 : decode cL_law 1637 = .ok (.invokevirtual 164, 3) := by decide +kernel
theorem dL_law_1640 : decode cL_law 1640 = .ok (.istore 7, 2) := by decide +kernel
theorem dL_law_1642 : decode cL_law 1642 = .ok (.aload_n 2, 1) := by decide +kernel
theorem dL_law_1643 : decode cL_law 1643 = .ok (.invokevirtual 100, 3) := by decide +kernel
theorem dL_law_1646 : decode cL_law 1646 = .ok (.iload 6, 2) := by decide +kernel
theorem dL_law_1648 : decode cL_law 1648 = .ok (.if_icmp .eq 5, 3) := by decide +kernel
theorem dL_law_1651 : decode cL_law 1651 = .ok (.iconst 0, 1) := by decide +kernel
theorem dL_law_1652 : decode cL_law 1652 = .ok (.ireturn, 1) := by decide +kernel
theorem dL_law_1653 : decode cL_law 1653 = .ok (.iload 6, 2) := by decide +kernel
theorem dL_law_1655 : decode cL_law 1655 = .ok (.ifCond .ne 15, 3) := by decide +kernel
theorem dL_law_1658 : decode cL_law 1658 = .ok (.aload_n 3, 1) := by decide +kernel
theorem dL_law_1659 : decode cL_law 1659 = .ok (.iconst 0, 1) := by decide +kernel
theorem dL_law_1660 : decode cL_law 1660 = .ok (.laload, 1) := by decide +kernel
theorem dL_law_1661 : decode cL_law 1661 = .ok (.iload 7, 2) := by decide +kernel
theorem dL_law_1663 : decode cL_law 1663 = .ok (.i2l, 1) := by decide +kernel
theorem dL_law_1664 : decode cL_law 1664 = .ok (.lcmp, 1) := by decide +kernel
theorem dL_law_1665 : decode cL_law 1665 = .ok (.ifCond .eq 5, 3) := by decide +kernel
theorem dL_law_1668 : decode cL_law 1668 = .ok (.iconst 0, 1) := by decide +kernel
theorem dL_law_1669 : decode cL_law 1669 = .ok (.ireturn, 1) := by decide +kernel
theorem dL_law_1670 : decode cL_law 1670 = .ok (.goto 165, 3) := by decide +kernel
theorem dL_law_1673 : decode cL_law 1673 = .ok (.aload_n 1, 1) := by decide +kernel
theorem dL_law_1674 : decode cL_law 1674 = .ok (.aload_n 0, 1) := by decide +kernel
theorem dL_law_1675 : decode cL_law 1675 = .ok (.iload 5, 2) := by decide +kernel
theorem dL_law_1677 : decode cL_law 1677 = .ok (.iconst 1, 1) := by decide +kernel
theorem dL_law_1678 : decode cL_law 1678 = .ok (.iadd, 1) := by decide +kernel
theorem dL_law_1679 : decode cL_law 1679 = .ok (.iaload, 1) := by decide +kernel
theorem dL_law_1680 : decode cL_law 1680 = .ok (.aload_n 0, 1) := by decide +kernel
theorem dL_law_1681 : decode cL_law 1681 = .ok (.iload 5, 2) := by decide +kernel
theorem dL_law_1683 : decode cL_law 1683 = .ok (.iconst 2, 1) := by decide +kernel
theorem dL_law_1684 : decode cL_law 1684 = .ok (.iadd, 1) := by decide +kernel
theorem dL_law_1685 : decode cL_law 1685 = .ok (.iaload, 1) := by decide +kernel
theorem dL_law_1686 : decode cL_law 1686 = .ok (.aload_n 0, 1) := by decide +kernel
theorem dL_law_1687 : decode cL_law 1687 = .ok (.iload 5, 2) := by decide +kernel
theorem dL_law_1689 : decode cL_law 1689 = .ok (.iconst 3, 1) := by decide +kernel
theorem dL_law_1690 : decode cL_law 1690 = .ok (.iadd, 1) := by decide +kernel
theorem dL_law_1691 : decode cL_law 1691 = .ok (.iaload, 1) := by decide +kernel
theorem dL_law_1692 : decode cL_law 1692 = .ok (.aload_n 0, 1) := by decide +kernel
theorem dL_law_1693 : decode cL_law 1693 = .ok (.iload 5, 2) := by decide +kernel
theorem dL_law_1695 : decode cL_law 1695 = .ok (.iconst 4, 1) := by decide +kernel
theorem dL_law_1696 : decode cL_law 1696 = .ok (.iadd, 1) := by decide +kernel
theorem dL_law_1697 : decode cL_law 1697 = .ok (.iaload, 1) := by decide +kernel
theorem dL_law_1698 : decode cL_law 1698 = .ok (.aload_n 3, 1) := by decide +kernel
theorem dL_law_1699 : decode cL_law 1699 = .ok (.invokestatic 165, 3) := by decide +kernel
theorem dL_law_1702 : decode cL_law 1702 = .ok (.istore 6, 2) := by decide +kernel
theorem dL_law_1704 : decode cL_law 1704 = .ok (.aload_n 2, 1) := by decide +kernel
theorem dL_law_1705 : decode cL_law 1705 = .ok (.aload_n 0, 1) := by decide +kernel
theorem dL_law_1706 : decode cL_law 1706 = .ok (.iload 5, 2) := by decide +kernel
theorem dL_law_1708 : decode cL_law 1708 = .ok (.iconst 1, 1) := by decide +kernel
theorem dL_law_1709 : decode cL_law 1709 = .ok (.iadd, 1) := by decide +kernel
theorem dL_law_1710 : decode cL_law 1710 = .ok (.iaload, 1) := by decide +kernel
theorem dL_law_1711 : decode cL_law 1711 = .ok (.aload_n 0, 1) := by decide +kernel
theorem dL_law_1712 : decode cL_law 1712 = .ok (.iload 5, 2) := by decide +kernel
theorem dL_law_1714 : decode cL_law 1714 = .ok (.iconst 2, 1) := by decide +kernel
theorem dL_law_1715 : decode cL_law 1715 = .ok (.iadd, 1) := by decide +kernel
theorem dL_law_1716 : decode cL_law 1716 = .ok (.iaload, 1) := by decide +kernel
theorem dL_law_1717 : decode cL_law 1717 = .ok (.aload_n 0, 1) := by decide +kernel
theorem dL_law_1718 : decode cL_law 1718 = .ok (.iload 5, 2) := by decide +kernel
theorem dL_law_1720 : decode cL_law 1720 = .ok (.iconst 3, 1) := by decide +kernel
theorem dL_law_1721 : decode cL_law 1721 = .ok (.iadd, 1) := by decide +kernel
theorem dL_law_1722 : decode cL_law 1722 = .ok (.iaload, 1) := by decide +kernel
theorem dL_law_1723 : decode cL_law 1723 = .ok (.aload_n 0, 1) := by decide +kernel
theorem dL_law_1724 : decode cL_law 1724 = .ok (.iload 5, 2) := by decide +kernel
theorem dL_law_1726 : decode cL_law 1726 = .ok (.iconst 4, 1) := by decide +kernel
theorem dL_law_1727 : decode cL_law 1727 = .ok (.iadd, 1) := by decide +kernel
theorem dL_law_1728 : decode cL_law 1728 = .ok (.iaload, 1) := by decide +kernel
theorem dL_law_1729 : decode cL_law 1729 = .ok (.invokevirtual 168, 3) := by decide +kernel
theorem dL_law_1732 : decode cL_law 1732 = .ok (.istore 7, 2) := by decide +kernel
theorem dL_law_1734 : decode cL_law 1734 = .ok (.aload_n 2, 1) := by decide +kernel
theorem dL_law_1735 : decode cL_law 1735 = .ok (.invokevirtual 100, 3) := by decide +kernel
theorem dL_law_1738 : decode cL_law 1738 = .ok (.iload 6, 2) := by decide +kernel
theorem dL_law_1740 : decode cL_law 1740 = .ok (.if_icmp .eq 5, 3) := by decide +kernel
theorem dL_law_1743 : decode cL_law 1743 = .ok (.iconst 0, 1) := by decide +kernel
theorem dL_law_1744 : decode cL_law 1744 = .ok (.ireturn, 1) := by decide +kernel
theorem dL_law_1745 : decode cL_law 1745 = .ok (.iload 6, 2) := by decide +kernel
theorem dL_law_1747 : decode cL_law 1747 = .ok (.ifCond .ne 15, 3) := by decide +kernel
theorem dL_law_1750 : decode cL_law 1750 = .ok (.aload_n 3, 1) := by decide +kernel
theorem dL_law_1751 : decode cL_law 1751 = .ok (.iconst 0, 1) := by decide +kernel
theorem dL_law_1752 : decode cL_law 1752 = .ok (.laload, 1) := by decide +kernel
theorem dL_law_1753 : decode cL_law 1753 = .ok (.iload 7, 2) := by decide +kernel
theorem dL_law_1755 : decode cL_law 1755 = .ok (.i2l, 1) := by decide +kernel
theorem dL_law_1756 : decode cL_law 1756 = .ok (.lcmp, 1) := by decide +kernel
theorem dL_law_1757 : decode cL_law 1757 = .ok (.ifCond .eq 5, 3) := by decide +kernel
theorem dL_law_1760 : decode cL_law 1760 = .ok (.iconst 0, 1) := by decide +kernel
theorem dL_law_1761 : decode cL_law 1761 = .ok (.ireturn, 1) := by decide +kernel
theorem dL_law_1762 : decode cL_law 1762 = .ok (.goto 73, 3) := by decide +kernel
theorem dL_law_1765 : decode cL_law 1765 = .ok (.aload_n 1, 1) := by decide +kernel
theorem dL_law_1766 : decode cL_law 1766 = .ok (.aload_n 0, 1) := by decide +kernel
theorem dL_law_1767 : decode cL_law 1767 = .ok (.iload 5, 2) := by decide +kernel
theorem dL_law_1769 : decode cL_law 1769 = .ok (.iconst 1, 1) := by decide +kernel
theorem dL_law_1770 : decode cL_law 1770 = .ok (.iadd, 1) := by decide +kernel
theorem dL_law_1771 : decode cL_law 1771 = .ok (.iaload, 1) := by decide +kernel
theorem dL_law_1772 : decode cL_law 1772 = .ok (.aload_n 3, 1) := by decide +kernel
theorem dL_law_1773 : decode cL_law 1773 = .ok (.invokestatic 169, 3) := by decide +kernel
theorem dL_law_1776 : decode cL_law 1776 = .ok (.istore 6, 2) := by decide +kernel
theorem dL_law_1778 : decode cL_law 1778 = .ok (.aload_n 2, 1) := by decide +kernel
theorem dL_law_1779 : decode cL_law 1779 = .ok (.aload_n 0, 1) := by decide +kernel
theorem dL_law_1780 : decode cL_law 1780 = .ok (.iload 5, 2) := by decide +kernel
theorem dL_law_1782 : decode cL_law 1782 = .ok (.iconst 1, 1) := by decide +kernel
theorem dL_law_1783 : decode cL_law 1783 = .ok (.iadd, 1) := by decide +kernel
theorem dL_law_1784 : decode cL_law 1784 = .ok (.iaload, 1) := by decide +kernel
theorem dL_law_1785 : decode cL_law 1785 = .ok (.invokevirtual 171, 3) := by decide +kernel
theorem dL_law_1788 : decode cL_law 1788 = .ok (.istore 7, 2) := by decide +kernel
theorem dL_law_1790 : decode cL_law 1790 = .ok (.aload_n 2, 1) := by decide +kernel
theorem dL_law_1791 : decode cL_law 1791 = .ok (.invokevirtual 100, 3) := by decide +kernel
theorem dL_law_1794 : decode cL_law 1794 = .ok (.iload 6, 2) := by decide +kernel
theorem dL_law_1796 : decode cL_law 1796 = .ok (.if_icmp .eq 5, 3) := by decide +kernel
theorem dL_law_1799 : decode cL_law 1799 = .ok (.iconst 0, 1) := by decide +kernel
theorem dL_law_1800 : decode cL_law 1800 = .ok (.ireturn, 1) := by decide +kernel
theorem dL_law_1801 : decode cL_law 1801 = .ok (.iload 6, 2) := by decide +kernel
theorem dL_law_1803 : decode cL_law 1803 = .ok (.ifCond .ne 15, 3) := by decide +kernel
theorem dL_law_1806 : decode cL_law 1806 = .ok (.aload_n 3, 1) := by decide +kernel
theorem dL_law_1807 : decode cL_law 1807 = .ok (.iconst 0, 1) := by decide +kernel
theorem dL_law_1808 : decode cL_law 1808 = .ok (.laload, 1) := by decide +kernel
theorem dL_law_1809 : decode cL_law 1809 = .ok (.iload 7, 2) := by decide +kernel
theorem dL_law_1811 : decode cL_law 1811 = .ok (.i2l, 1) := by decide +kernel
theorem dL_law_1812 : decode cL_law 1812 = .ok (.lcmp, 1) := by decide +kernel
theorem dL_law_1813 : decode cL_law 1813 = .ok (.ifCond .eq 5, 3) := by decide +kernel
theorem dL_law_1816 : decode cL_law 1816 = .ok (.iconst 0, 1) := by decide +kernel
theorem dL_law_1817 : decode cL_law 1817 = .ok (.ireturn, 1) := by decide +kernel
theorem dL_law_1818 : decode cL_law 1818 = .ok (.goto 17, 3) := by decide +kernel
theorem dL_law_1821 : decode cL_law 1821 = .ok (.aload_n 1, 1) := by decide +kernel
theorem dL_law_1822 : decode cL_law 1822 = .ok (.invokevirtual 172, 3) := by decide +kernel
theorem dL_law_1825 : decode cL_law 1825 = .ok (.aload_n 2, 1) := by decide +kernel
theorem dL_law_1826 : decode cL_law 1826 = .ok (.invokevirtual 176, 3) := by decide +kernel
theorem dL_law_1829 : decode cL_law 1829 = .ok (.lcmp, 1) := by decide +kernel
theorem dL_law_1830 : decode cL_law 1830 = .ok (.ifCond .eq 5, 3) := by decide +kernel
theorem dL_law_1833 : decode cL_law 1833 = .ok (.iconst 0, 1) := by decide +kernel
theorem dL_law_1834 : decode cL_law 1834 = .ok (.ireturn, 1) := by decide +kernel
theorem dL_law_1835 : decode cL_law 1835 = .ok (.iinc 5 5, 3) := by decide +kernel
theorem dL_law_1838 : decode cL_law 1838 = .ok (.goto (-1810), 3) := by decide +kernel
theorem dL_law_1841 : decode cL_law 1841 = .ok (.iconst 1, 1) := by decide +kernel
theorem dL_law_1842 : decode cL_law 1842 = .ok (.ireturn, 1) := by decide +kernel
end
