section
-- ===== PART A: goes FIRST, ahead of the names: the tables' words, and 'selects' of the private methods out of them =====
/-- a private method of a class that the tables say can be made, by its rows of tables_1 -/
def lw_okq (q : MethodName × Nat) : Prop := (q.1.cls ≠ "java/lang/invoke/MethodHandle" ∧ q.1.cls ≠ "java/lang/invoke/VarHandle") ∧ Cond.instantiable q.1.cls q.2 ∈ tables_1 ∧ Cond.privateMethod q.1 ∈ tables_1 ∧ Cond.instanceMethod q.1 ∈ tables_1
theorem lw_p0 : lw_okq (⟨"GateMinds", "fail", "(I)I"⟩, 9) := ⟨⟨by decide +kernel, by decide +kernel⟩, List.mem_of_getElem? (i := 20) (by decide +kernel), List.mem_of_getElem? (i := 305) (by decide +kernel), List.mem_of_getElem? (i := 306) (by decide +kernel)⟩
theorem lw_p1 : lw_okq (⟨"GateMinds$Moor", "cost", "(II)I"⟩, 15) := ⟨⟨by decide +kernel, by decide +kernel⟩, List.mem_of_getElem? (i := 62) (by decide +kernel), List.mem_of_getElem? (i := 339) (by decide +kernel), List.mem_of_getElem? (i := 340) (by decide +kernel)⟩
theorem lw_p2 : lw_okq (⟨"GateMinds$Law", "workedOut", "(III)I"⟩, 5) := ⟨⟨by decide +kernel, by decide +kernel⟩, List.mem_of_getElem? (i := 34) (by decide +kernel), List.mem_of_getElem? (i := 351) (by decide +kernel), List.mem_of_getElem? (i := 352) (by decide +kernel)⟩
theorem lw_p3 : lw_okq (⟨"GateMinds$Reader", "readEither", "(I)V"⟩, 6) := ⟨⟨by decide +kernel, by decide +kernel⟩, List.mem_of_getElem? (i := 181) (by decide +kernel), List.mem_of_getElem? (i := 459) (by decide +kernel), List.mem_of_getElem? (i := 460) (by decide +kernel)⟩
theorem lw_p4 : lw_okq (⟨"GateMinds$Reader", "readBoth", "(I)V"⟩, 6) := ⟨⟨by decide +kernel, by decide +kernel⟩, List.mem_of_getElem? (i := 181) (by decide +kernel), List.mem_of_getElem? (i := 463) (by decide +kernel), List.mem_of_getElem? (i := 464) (by decide +kernel)⟩
theorem lw_p5 : lw_okq (⟨"GateMinds$Reader", "readCompared", "(I)V"⟩, 6) := ⟨⟨by decide +kernel, by decide +kernel⟩, List.mem_of_getElem? (i := 181) (by decide +kernel), List.mem_of_getElem? (i := 467) (by decide +kernel), List.mem_of_getElem? (i := 468) (by decide +kernel)⟩
theorem lw_p6 : lw_okq (⟨"GateMinds$Reader", "readSum", "(I)V"⟩, 6) := ⟨⟨by decide +kernel, by decide +kernel⟩, List.mem_of_getElem? (i := 181) (by decide +kernel), List.mem_of_getElem? (i := 471) (by decide +kernel), List.mem_of_getElem? (i := 472) (by decide +kernel)⟩
theorem lw_p7 : lw_okq (⟨"GateMinds$Reader", "readProduct", "(I)V"⟩, 6) := ⟨⟨by decide +kernel, by decide +kernel⟩, List.mem_of_getElem? (i := 181) (by decide +kernel), List.mem_of_getElem? (i := 475) (by decide +kernel), List.mem_of_getElem? (i := 476) (by decide +kernel)⟩
theorem lw_p8 : lw_okq (⟨"GateMinds$Reader", "readPart", "(I)V"⟩, 6) := ⟨⟨by decide +kernel, by decide +kernel⟩, List.mem_of_getElem? (i := 181) (by decide +kernel), List.mem_of_getElem? (i := 479) (by decide +kernel), List.mem_of_getElem? (i := 480) (by decide +kernel)⟩
theorem lw_p9 : lw_okq (⟨"GateMinds$Reader", "next", "()I"⟩, 6) := ⟨⟨by decide +kernel, by decide +kernel⟩, List.mem_of_getElem? (i := 181) (by decide +kernel), List.mem_of_getElem? (i := 483) (by decide +kernel), List.mem_of_getElem? (i := 484) (by decide +kernel)⟩
theorem lw_p10 : lw_okq (⟨"GateMinds$Reader", "readNumber", "()V"⟩, 6) := ⟨⟨by decide +kernel, by decide +kernel⟩, List.mem_of_getElem? (i := 181) (by decide +kernel), List.mem_of_getElem? (i := 490) (by decide +kernel), List.mem_of_getElem? (i := 491) (by decide +kernel)⟩
theorem lw_p11 : lw_okq (⟨"GateMinds$Reader", "write", "(I)V"⟩, 6) := ⟨⟨by decide +kernel, by decide +kernel⟩, List.mem_of_getElem? (i := 181) (by decide +kernel), List.mem_of_getElem? (i := 494) (by decide +kernel), List.mem_of_getElem? (i := 495) (by decide +kernel)⟩
theorem lw_p12 : lw_okq (⟨"GateMinds$Reader", "readClosing", "()V"⟩, 6) := ⟨⟨by decide +kernel, by decide +kernel⟩, List.mem_of_getElem? (i := 181) (by decide +kernel), List.mem_of_getElem? (i := 498) (by decide +kernel), List.mem_of_getElem? (i := 499) (by decide +kernel)⟩
theorem lw_p13 : lw_okq (⟨"GateMinds$Reader", "miss", "()V"⟩, 6) := ⟨⟨by decide +kernel, by decide +kernel⟩, List.mem_of_getElem? (i := 181) (by decide +kernel), List.mem_of_getElem? (i := 502) (by decide +kernel), List.mem_of_getElem? (i := 503) (by decide +kernel)⟩
theorem lw_p14 : lw_okq (⟨"GateMinds$Reader", "readName", "(I)V"⟩, 6) := ⟨⟨by decide +kernel, by decide +kernel⟩, List.mem_of_getElem? (i := 181) (by decide +kernel), List.mem_of_getElem? (i := 506) (by decide +kernel), List.mem_of_getElem? (i := 507) (by decide +kernel)⟩
theorem lw_p15 : lw_okq (⟨"GateMinds$Moor", "letGo", "(I)V"⟩, 15) := ⟨⟨by decide +kernel, by decide +kernel⟩, List.mem_of_getElem? (i := 62) (by decide +kernel), List.mem_of_getElem? (i := 619) (by decide +kernel), List.mem_of_getElem? (i := 620) (by decide +kernel)⟩
def lw_privs_1 : List (MethodName × Nat) := [(⟨"GateMinds", "fail", "(I)I"⟩, 9), (⟨"GateMinds$Moor", "cost", "(II)I"⟩, 15), (⟨"GateMinds$Law", "workedOut", "(III)I"⟩, 5), (⟨"GateMinds$Reader", "readEither", "(I)V"⟩, 6), (⟨"GateMinds$Reader", "readBoth", "(I)V"⟩, 6), (⟨"GateMinds$Reader", "readCompared", "(I)V"⟩, 6), (⟨"GateMinds$Reader", "readSum", "(I)V"⟩, 6), (⟨"GateMinds$Reader", "readProduct", "(I)V"⟩, 6), (⟨"GateMinds$Reader", "readPart", "(I)V"⟩, 6), (⟨"GateMinds$Reader", "next", "()I"⟩, 6), (⟨"GateMinds$Reader", "readNumber", "()V"⟩, 6), (⟨"GateMinds$Reader", "write", "(I)V"⟩, 6), (⟨"GateMinds$Reader", "readClosing", "()V"⟩, 6), (⟨"GateMinds$Reader", "miss", "()V"⟩, 6), (⟨"GateMinds$Reader", "readName", "(I)V"⟩, 6), (⟨"GateMinds$Moor", "letGo", "(I)V"⟩, 15)]
theorem lw_r1 : ∀ q ∈ lw_privs_1, lw_okq q := List.forall_mem_cons.mpr ⟨lw_p0, List.forall_mem_cons.mpr ⟨lw_p1, List.forall_mem_cons.mpr ⟨lw_p2, List.forall_mem_cons.mpr ⟨lw_p3, List.forall_mem_cons.mpr ⟨lw_p4, List.forall_mem_cons.mpr ⟨lw_p5, List.forall_mem_cons.mpr ⟨lw_p6, List.forall_mem_cons.mpr ⟨lw_p7, List.forall_mem_cons.mpr ⟨lw_p8, List.forall_mem_cons.mpr ⟨lw_p9, List.forall_mem_cons.mpr ⟨lw_p10, List.forall_mem_cons.mpr ⟨lw_p11, List.forall_mem_cons.mpr ⟨lw_p12, List.forall_mem_cons.mpr ⟨lw_p13, List.forall_mem_cons.mpr ⟨lw_p14, List.forall_mem_cons.mpr ⟨lw_p15, fun _ h => absurd h List.not_mem_nil⟩⟩⟩⟩⟩⟩⟩⟩⟩⟩⟩⟩⟩⟩⟩⟩
theorem lw_p16 : lw_okq (⟨"GateMinds$Moor", "graze", "(I)V"⟩, 15) := ⟨⟨by decide +kernel, by decide +kernel⟩, List.mem_of_getElem? (i := 62) (by decide +kernel), List.mem_of_getElem? (i := 623) (by decide +kernel), List.mem_of_getElem? (i := 624) (by decide +kernel)⟩
theorem lw_p17 : lw_okq (⟨"GateMinds$Moor", "draw", "(I)I"⟩, 15) := ⟨⟨by decide +kernel, by decide +kernel⟩, List.mem_of_getElem? (i := 62) (by decide +kernel), List.mem_of_getElem? (i := 627) (by decide +kernel), List.mem_of_getElem? (i := 628) (by decide +kernel)⟩
theorem lw_p18 : lw_okq (⟨"GateMinds$Moor", "across", "(II)I"⟩, 15) := ⟨⟨by decide +kernel, by decide +kernel⟩, List.mem_of_getElem? (i := 62) (by decide +kernel), List.mem_of_getElem? (i := 632) (by decide +kernel), List.mem_of_getElem? (i := 633) (by decide +kernel)⟩
theorem lw_p19 : lw_okq (⟨"GateMinds$Keep", "nextDraw", "()I"⟩, 7) := ⟨⟨by decide +kernel, by decide +kernel⟩, List.mem_of_getElem? (i := 28) (by decide +kernel), List.mem_of_getElem? (i := 650) (by decide +kernel), List.mem_of_getElem? (i := 651) (by decide +kernel)⟩
theorem lw_p20 : lw_okq (⟨"GateMinds$Parting", "weighSets", "(LGateMinds$Moor;II)V"⟩, 2) := ⟨⟨by decide +kernel, by decide +kernel⟩, List.mem_of_getElem? (i := 209) (by decide +kernel), List.mem_of_getElem? (i := 685) (by decide +kernel), List.mem_of_getElem? (i := 686) (by decide +kernel)⟩
theorem lw_p21 : lw_okq (⟨"GateMinds$Parting", "letOneHold", "(II)V"⟩, 2) := ⟨⟨by decide +kernel, by decide +kernel⟩, List.mem_of_getElem? (i := 209) (by decide +kernel), List.mem_of_getElem? (i := 691) (by decide +kernel), List.mem_of_getElem? (i := 692) (by decide +kernel)⟩
theorem lw_p22 : lw_okq (⟨"GateMinds$Moor", "further", "(II)I"⟩, 15) := ⟨⟨by decide +kernel, by decide +kernel⟩, List.mem_of_getElem? (i := 62) (by decide +kernel), List.mem_of_getElem? (i := 704) (by decide +kernel), List.mem_of_getElem? (i := 705) (by decide +kernel)⟩
theorem lw_p23 : lw_okq (⟨"GateMinds$Speech", "own", "(III)I"⟩, 6) := ⟨⟨by decide +kernel, by decide +kernel⟩, List.mem_of_getElem? (i := 222) (by decide +kernel), List.mem_of_getElem? (i := 768) (by decide +kernel), List.mem_of_getElem? (i := 769) (by decide +kernel)⟩
theorem lw_p24 : lw_okq (⟨"GateMinds$Speech", "from", "(IIII)I"⟩, 6) := ⟨⟨by decide +kernel, by decide +kernel⟩, List.mem_of_getElem? (i := 222) (by decide +kernel), List.mem_of_getElem? (i := 772) (by decide +kernel), List.mem_of_getElem? (i := 773) (by decide +kernel)⟩
theorem lw_p25 : lw_okq (⟨"GateMinds$Speech", "work", "(IIII)I"⟩, 6) := ⟨⟨by decide +kernel, by decide +kernel⟩, List.mem_of_getElem? (i := 222) (by decide +kernel), List.mem_of_getElem? (i := 779) (by decide +kernel), List.mem_of_getElem? (i := 780) (by decide +kernel)⟩
theorem lw_p26 : lw_okq (⟨"GateMinds$Speech", "divided", "(I)I"⟩, 6) := ⟨⟨by decide +kernel, by decide +kernel⟩, List.mem_of_getElem? (i := 222) (by decide +kernel), List.mem_of_getElem? (i := 783) (by decide +kernel), List.mem_of_getElem? (i := 784) (by decide +kernel)⟩
theorem lw_p27 : lw_okq (⟨"GateMindsModel", "error", "(I)I"⟩, 23) := ⟨⟨by decide +kernel, by decide +kernel⟩, List.mem_of_getElem? (i := 883) (by decide +kernel), List.mem_of_getElem? (i := 970) (by decide +kernel), List.mem_of_getElem? (i := 971) (by decide +kernel)⟩
theorem lw_p28 : lw_okq (⟨"GateMindsModel", "isPerson", "(I)Z"⟩, 23) := ⟨⟨by decide +kernel, by decide +kernel⟩, List.mem_of_getElem? (i := 883) (by decide +kernel), List.mem_of_getElem? (i := 980) (by decide +kernel), List.mem_of_getElem? (i := 981) (by decide +kernel)⟩
theorem lw_p29 : lw_okq (⟨"GateMindsModel", "of", "(II)I"⟩, 23) := ⟨⟨by decide +kernel, by decide +kernel⟩, List.mem_of_getElem? (i := 883) (by decide +kernel), List.mem_of_getElem? (i := 984) (by decide +kernel), List.mem_of_getElem? (i := 985) (by decide +kernel)⟩
theorem lw_p30 : lw_okq (⟨"GateMindsModel", "howManyBy", "(I)I"⟩, 23) := ⟨⟨by decide +kernel, by decide +kernel⟩, List.mem_of_getElem? (i := 883) (by decide +kernel), List.mem_of_getElem? (i := 988) (by decide +kernel), List.mem_of_getElem? (i := 989) (by decide +kernel)⟩
theorem lw_p31 : lw_okq (⟨"GateMindsModel", "about", "(II)I"⟩, 23) := ⟨⟨by decide +kernel, by decide +kernel⟩, List.mem_of_getElem? (i := 883) (by decide +kernel), List.mem_of_getElem? (i := 992) (by decide +kernel), List.mem_of_getElem? (i := 993) (by decide +kernel)⟩
def lw_privs_2 : List (MethodName × Nat) := [(⟨"GateMinds$Moor", "graze", "(I)V"⟩, 15), (⟨"GateMinds$Moor", "draw", "(I)I"⟩, 15), (⟨"GateMinds$Moor", "across", "(II)I"⟩, 15), (⟨"GateMinds$Keep", "nextDraw", "()I"⟩, 7), (⟨"GateMinds$Parting", "weighSets", "(LGateMinds$Moor;II)V"⟩, 2), (⟨"GateMinds$Parting", "letOneHold", "(II)V"⟩, 2), (⟨"GateMinds$Moor", "further", "(II)I"⟩, 15), (⟨"GateMinds$Speech", "own", "(III)I"⟩, 6), (⟨"GateMinds$Speech", "from", "(IIII)I"⟩, 6), (⟨"GateMinds$Speech", "work", "(IIII)I"⟩, 6), (⟨"GateMinds$Speech", "divided", "(I)I"⟩, 6), (⟨"GateMindsModel", "error", "(I)I"⟩, 23), (⟨"GateMindsModel", "isPerson", "(I)Z"⟩, 23), (⟨"GateMindsModel", "of", "(II)I"⟩, 23), (⟨"GateMindsModel", "howManyBy", "(I)I"⟩, 23), (⟨"GateMindsModel", "about", "(II)I"⟩, 23)]
theorem lw_r2 : ∀ q ∈ lw_privs_2, lw_okq q := List.forall_mem_cons.mpr ⟨lw_p16, List.forall_mem_cons.mpr ⟨lw_p17, List.forall_mem_cons.mpr ⟨lw_p18, List.forall_mem_cons.mpr ⟨lw_p19, List.forall_mem_cons.mpr ⟨lw_p20, List.forall_mem_cons.mpr ⟨lw_p21, List.forall_mem_cons.mpr ⟨lw_p22, List.forall_mem_cons.mpr ⟨lw_p23, List.forall_mem_cons.mpr ⟨lw_p24, List.forall_mem_cons.mpr ⟨lw_p25, List.forall_mem_cons.mpr ⟨lw_p26, List.forall_mem_cons.mpr ⟨lw_p27, List.forall_mem_cons.mpr ⟨lw_p28, List.forall_mem_cons.mpr ⟨lw_p29, List.forall_mem_cons.mpr ⟨lw_p30, List.forall_mem_cons.mpr ⟨lw_p31, fun _ h => absurd h List.not_mem_nil⟩⟩⟩⟩⟩⟩⟩⟩⟩⟩⟩⟩⟩⟩⟩⟩
theorem lw_p32 : lw_okq (⟨"GateMindsModel", "loadOf", "(I)I"⟩, 23) := ⟨⟨by decide +kernel, by decide +kernel⟩, List.mem_of_getElem? (i := 883) (by decide +kernel), List.mem_of_getElem? (i := 996) (by decide +kernel), List.mem_of_getElem? (i := 997) (by decide +kernel)⟩
theorem lw_p33 : lw_okq (⟨"GateMindsModel", "weighsOn", "(II)I"⟩, 23) := ⟨⟨by decide +kernel, by decide +kernel⟩, List.mem_of_getElem? (i := 883) (by decide +kernel), List.mem_of_getElem? (i := 1000) (by decide +kernel), List.mem_of_getElem? (i := 1001) (by decide +kernel)⟩
theorem lw_p34 : lw_okq (⟨"GateMindsModel", "costsOf", "(II)I"⟩, 23) := ⟨⟨by decide +kernel, by decide +kernel⟩, List.mem_of_getElem? (i := 883) (by decide +kernel), List.mem_of_getElem? (i := 1004) (by decide +kernel), List.mem_of_getElem? (i := 1005) (by decide +kernel)⟩
theorem lw_p35 : lw_okq (⟨"GateMindsModel", "isOpen", "(I)Z"⟩, 23) := ⟨⟨by decide +kernel, by decide +kernel⟩, List.mem_of_getElem? (i := 883) (by decide +kernel), List.mem_of_getElem? (i := 1008) (by decide +kernel), List.mem_of_getElem? (i := 1009) (by decide +kernel)⟩
theorem lw_p36 : lw_okq (⟨"GateMindsModel", "gives", "(IIII)I"⟩, 23) := ⟨⟨by decide +kernel, by decide +kernel⟩, List.mem_of_getElem? (i := 883) (by decide +kernel), List.mem_of_getElem? (i := 1012) (by decide +kernel), List.mem_of_getElem? (i := 1013) (by decide +kernel)⟩
theorem lw_p37 : lw_okq (⟨"GateMindsModel", "works", "(I)I"⟩, 23) := ⟨⟨by decide +kernel, by decide +kernel⟩, List.mem_of_getElem? (i := 883) (by decide +kernel), List.mem_of_getElem? (i := 1016) (by decide +kernel), List.mem_of_getElem? (i := 1017) (by decide +kernel)⟩
theorem lw_p38 : lw_okq (⟨"GateMindsModel", "roomOf", "(I)I"⟩, 23) := ⟨⟨by decide +kernel, by decide +kernel⟩, List.mem_of_getElem? (i := 883) (by decide +kernel), List.mem_of_getElem? (i := 1026) (by decide +kernel), List.mem_of_getElem? (i := 1027) (by decide +kernel)⟩
theorem lw_p39 : lw_okq (⟨"GateMindsModel", "becomes", "(II)I"⟩, 23) := ⟨⟨by decide +kernel, by decide +kernel⟩, List.mem_of_getElem? (i := 883) (by decide +kernel), List.mem_of_getElem? (i := 1034) (by decide +kernel), List.mem_of_getElem? (i := 1035) (by decide +kernel)⟩
theorem lw_p40 : lw_okq (⟨"GateMindsModel", "lets", "(III)V"⟩, 23) := ⟨⟨by decide +kernel, by decide +kernel⟩, List.mem_of_getElem? (i := 883) (by decide +kernel), List.mem_of_getElem? (i := 1053) (by decide +kernel), List.mem_of_getElem? (i := 1054) (by decide +kernel)⟩
theorem lw_p41 : lw_okq (⟨"GateMindsModel", "isGate", "(I)Z"⟩, 23) := ⟨⟨by decide +kernel, by decide +kernel⟩, List.mem_of_getElem? (i := 883) (by decide +kernel), List.mem_of_getElem? (i := 1061) (by decide +kernel), List.mem_of_getElem? (i := 1062) (by decide +kernel)⟩
theorem lw_p42 : lw_okq (⟨"GateMindsModel", "any", "()V"⟩, 23) := ⟨⟨by decide +kernel, by decide +kernel⟩, List.mem_of_getElem? (i := 883) (by decide +kernel), List.mem_of_getElem? (i := 1094) (by decide +kernel), List.mem_of_getElem? (i := 1095) (by decide +kernel)⟩
theorem lw_p43 : lw_okq (⟨"GateMindsModel", "allBy", "()V"⟩, 23) := ⟨⟨by decide +kernel, by decide +kernel⟩, List.mem_of_getElem? (i := 883) (by decide +kernel), List.mem_of_getElem? (i := 1098) (by decide +kernel), List.mem_of_getElem? (i := 1099) (by decide +kernel)⟩
theorem lw_p44 : lw_okq (⟨"GateMindsModel", "compares", "()V"⟩, 23) := ⟨⟨by decide +kernel, by decide +kernel⟩, List.mem_of_getElem? (i := 883) (by decide +kernel), List.mem_of_getElem? (i := 1102) (by decide +kernel), List.mem_of_getElem? (i := 1103) (by decide +kernel)⟩
theorem lw_p45 : lw_okq (⟨"GateMindsModel", "sum", "()V"⟩, 23) := ⟨⟨by decide +kernel, by decide +kernel⟩, List.mem_of_getElem? (i := 883) (by decide +kernel), List.mem_of_getElem? (i := 1106) (by decide +kernel), List.mem_of_getElem? (i := 1107) (by decide +kernel)⟩
theorem lw_p46 : lw_okq (⟨"GateMindsModel", "times", "()V"⟩, 23) := ⟨⟨by decide +kernel, by decide +kernel⟩, List.mem_of_getElem? (i := 883) (by decide +kernel), List.mem_of_getElem? (i := 1110) (by decide +kernel), List.mem_of_getElem? (i := 1111) (by decide +kernel)⟩
theorem lw_p47 : lw_okq (⟨"GateMindsModel", "one", "()V"⟩, 23) := ⟨⟨by decide +kernel, by decide +kernel⟩, List.mem_of_getElem? (i := 883) (by decide +kernel), List.mem_of_getElem? (i := 1114) (by decide +kernel), List.mem_of_getElem? (i := 1115) (by decide +kernel)⟩
def lw_privs_3 : List (MethodName × Nat) := [(⟨"GateMindsModel", "loadOf", "(I)I"⟩, 23), (⟨"GateMindsModel", "weighsOn", "(II)I"⟩, 23), (⟨"GateMindsModel", "costsOf", "(II)I"⟩, 23), (⟨"GateMindsModel", "isOpen", "(I)Z"⟩, 23), (⟨"GateMindsModel", "gives", "(IIII)I"⟩, 23), (⟨"GateMindsModel", "works", "(I)I"⟩, 23), (⟨"GateMindsModel", "roomOf", "(I)I"⟩, 23), (⟨"GateMindsModel", "becomes", "(II)I"⟩, 23), (⟨"GateMindsModel", "lets", "(III)V"⟩, 23), (⟨"GateMindsModel", "isGate", "(I)Z"⟩, 23), (⟨"GateMindsModel", "any", "()V"⟩, 23), (⟨"GateMindsModel", "allBy", "()V"⟩, 23), (⟨"GateMindsModel", "compares", "()V"⟩, 23), (⟨"GateMindsModel", "sum", "()V"⟩, 23), (⟨"GateMindsModel", "times", "()V"⟩, 23), (⟨"GateMindsModel", "one", "()V"⟩, 23)]
theorem lw_r3 : ∀ q ∈ lw_privs_3, lw_okq q := List.forall_mem_cons.mpr ⟨lw_p32, List.forall_mem_cons.mpr ⟨lw_p33, List.forall_mem_cons.mpr ⟨lw_p34, List.forall_mem_cons.mpr ⟨lw_p35, List.forall_mem_cons.mpr ⟨lw_p36, List.forall_mem_cons.mpr ⟨lw_p37, List.forall_mem_cons.mpr ⟨lw_p38, List.forall_mem_cons.mpr ⟨lw_p39, List.forall_mem_cons.mpr ⟨lw_p40, List.forall_mem_cons.mpr ⟨lw_p41, List.forall_mem_cons.mpr ⟨lw_p42, List.forall_mem_cons.mpr ⟨lw_p43, List.forall_mem_cons.mpr ⟨lw_p44, List.forall_mem_cons.mpr ⟨lw_p45, List.forall_mem_cons.mpr ⟨lw_p46, List.forall_mem_cons.mpr ⟨lw_p47, fun _ h => absurd h List.not_mem_nil⟩⟩⟩⟩⟩⟩⟩⟩⟩⟩⟩⟩⟩⟩⟩⟩
theorem lw_p48 : lw_okq (⟨"GateMindsModel", "look", "()I"⟩, 23) := ⟨⟨by decide +kernel, by decide +kernel⟩, List.mem_of_getElem? (i := 883) (by decide +kernel), List.mem_of_getElem? (i := 1118) (by decide +kernel), List.mem_of_getElem? (i := 1119) (by decide +kernel)⟩
theorem lw_p49 : lw_okq (⟨"GateMindsModel", "nameOf", "(I)I"⟩, 23) := ⟨⟨by decide +kernel, by decide +kernel⟩, List.mem_of_getElem? (i := 883) (by decide +kernel), List.mem_of_getElem? (i := 1122) (by decide +kernel), List.mem_of_getElem? (i := 1123) (by decide +kernel)⟩
theorem lw_p50 : lw_okq (⟨"GateMindsModel", "lays", "(II)V"⟩, 23) := ⟨⟨by decide +kernel, by decide +kernel⟩, List.mem_of_getElem? (i := 883) (by decide +kernel), List.mem_of_getElem? (i := 1126) (by decide +kernel), List.mem_of_getElem? (i := 1127) (by decide +kernel)⟩
theorem lw_p51 : lw_okq (⟨"GateMindsModel", "opens", "(I)V"⟩, 23) := ⟨⟨by decide +kernel, by decide +kernel⟩, List.mem_of_getElem? (i := 883) (by decide +kernel), List.mem_of_getElem? (i := 1130) (by decide +kernel), List.mem_of_getElem? (i := 1131) (by decide +kernel)⟩
theorem lw_p52 : lw_okq (⟨"GateMindsModel", "number", "()V"⟩, 23) := ⟨⟨by decide +kernel, by decide +kernel⟩, List.mem_of_getElem? (i := 883) (by decide +kernel), List.mem_of_getElem? (i := 1134) (by decide +kernel), List.mem_of_getElem? (i := 1135) (by decide +kernel)⟩
theorem lw_p53 : lw_okq (⟨"GateMindsModel", "goes", "()V"⟩, 23) := ⟨⟨by decide +kernel, by decide +kernel⟩, List.mem_of_getElem? (i := 883) (by decide +kernel), List.mem_of_getElem? (i := 1151) (by decide +kernel), List.mem_of_getElem? (i := 1152) (by decide +kernel)⟩
theorem lw_p54 : lw_okq (⟨"GateMindsModel", "letsGo", "(I)V"⟩, 23) := ⟨⟨by decide +kernel, by decide +kernel⟩, List.mem_of_getElem? (i := 883) (by decide +kernel), List.mem_of_getElem? (i := 1155) (by decide +kernel), List.mem_of_getElem? (i := 1156) (by decide +kernel)⟩
theorem lw_p55 : lw_okq (⟨"GateMindsModel", "strays", "(I)V"⟩, 23) := ⟨⟨by decide +kernel, by decide +kernel⟩, List.mem_of_getElem? (i := 883) (by decide +kernel), List.mem_of_getElem? (i := 1159) (by decide +kernel), List.mem_of_getElem? (i := 1160) (by decide +kernel)⟩
theorem lw_p56 : lw_okq (⟨"GateMindsModel", "drawsOf", "(I)I"⟩, 23) := ⟨⟨by decide +kernel, by decide +kernel⟩, List.mem_of_getElem? (i := 883) (by decide +kernel), List.mem_of_getElem? (i := 1163) (by decide +kernel), List.mem_of_getElem? (i := 1164) (by decide +kernel)⟩
theorem lw_p57 : lw_okq (⟨"GateMindsModel", "beyond", "(II)I"⟩, 23) := ⟨⟨by decide +kernel, by decide +kernel⟩, List.mem_of_getElem? (i := 883) (by decide +kernel), List.mem_of_getElem? (i := 1167) (by decide +kernel), List.mem_of_getElem? (i := 1168) (by decide +kernel)⟩
theorem lw_p58 : lw_okq (⟨"GateMindsModel", "opened", "()I"⟩, 23) := ⟨⟨by decide +kernel, by decide +kernel⟩, List.mem_of_getElem? (i := 883) (by decide +kernel), List.mem_of_getElem? (i := 1171) (by decide +kernel), List.mem_of_getElem? (i := 1172) (by decide +kernel)⟩
theorem lw_p59 : lw_okq (⟨"GateMindsModel", "drawn", "()V"⟩, 23) := ⟨⟨by decide +kernel, by decide +kernel⟩, List.mem_of_getElem? (i := 883) (by decide +kernel), List.mem_of_getElem? (i := 1179) (by decide +kernel), List.mem_of_getElem? (i := 1180) (by decide +kernel)⟩
theorem lw_p60 : lw_okq (⟨"GateMindsModel", "draw", "()I"⟩, 23) := ⟨⟨by decide +kernel, by decide +kernel⟩, List.mem_of_getElem? (i := 883) (by decide +kernel), List.mem_of_getElem? (i := 1183) (by decide +kernel), List.mem_of_getElem? (i := 1184) (by decide +kernel)⟩
theorem lw_p61 : lw_okq (⟨"GateMindsModel", "thinks", "()V"⟩, 23) := ⟨⟨by decide +kernel, by decide +kernel⟩, List.mem_of_getElem? (i := 883) (by decide +kernel), List.mem_of_getElem? (i := 1200) (by decide +kernel), List.mem_of_getElem? (i := 1201) (by decide +kernel)⟩
theorem lw_p62 : lw_okq (⟨"GateMindsModel", "putsBack", "()V"⟩, 23) := ⟨⟨by decide +kernel, by decide +kernel⟩, List.mem_of_getElem? (i := 883) (by decide +kernel), List.mem_of_getElem? (i := 1207) (by decide +kernel), List.mem_of_getElem? (i := 1208) (by decide +kernel)⟩
theorem lw_p63 : lw_okq (⟨"GateMindsModel", "tries", "(I)V"⟩, 23) := ⟨⟨by decide +kernel, by decide +kernel⟩, List.mem_of_getElem? (i := 883) (by decide +kernel), List.mem_of_getElem? (i := 1220) (by decide +kernel), List.mem_of_getElem? (i := 1221) (by decide +kernel)⟩
def lw_privs_4 : List (MethodName × Nat) := [(⟨"GateMindsModel", "look", "()I"⟩, 23), (⟨"GateMindsModel", "nameOf", "(I)I"⟩, 23), (⟨"GateMindsModel", "lays", "(II)V"⟩, 23), (⟨"GateMindsModel", "opens", "(I)V"⟩, 23), (⟨"GateMindsModel", "number", "()V"⟩, 23), (⟨"GateMindsModel", "goes", "()V"⟩, 23), (⟨"GateMindsModel", "letsGo", "(I)V"⟩, 23), (⟨"GateMindsModel", "strays", "(I)V"⟩, 23), (⟨"GateMindsModel", "drawsOf", "(I)I"⟩, 23), (⟨"GateMindsModel", "beyond", "(II)I"⟩, 23), (⟨"GateMindsModel", "opened", "()I"⟩, 23), (⟨"GateMindsModel", "drawn", "()V"⟩, 23), (⟨"GateMindsModel", "draw", "()I"⟩, 23), (⟨"GateMindsModel", "thinks", "()V"⟩, 23), (⟨"GateMindsModel", "putsBack", "()V"⟩, 23), (⟨"GateMindsModel", "tries", "(I)V"⟩, 23)]
theorem lw_r4 : ∀ q ∈ lw_privs_4, lw_okq q := List.forall_mem_cons.mpr ⟨lw_p48, List.forall_mem_cons.mpr ⟨lw_p49, List.forall_mem_cons.mpr ⟨lw_p50, List.forall_mem_cons.mpr ⟨lw_p51, List.forall_mem_cons.mpr ⟨lw_p52, List.forall_mem_cons.mpr ⟨lw_p53, List.forall_mem_cons.mpr ⟨lw_p54, List.forall_mem_cons.mpr ⟨lw_p55, List.forall_mem_cons.mpr ⟨lw_p56, List.forall_mem_cons.mpr ⟨lw_p57, List.forall_mem_cons.mpr ⟨lw_p58, List.forall_mem_cons.mpr ⟨lw_p59, List.forall_mem_cons.mpr ⟨lw_p60, List.forall_mem_cons.mpr ⟨lw_p61, List.forall_mem_cons.mpr ⟨lw_p62, List.forall_mem_cons.mpr ⟨lw_p63, fun _ h => absurd h List.not_mem_nil⟩⟩⟩⟩⟩⟩⟩⟩⟩⟩⟩⟩⟩⟩⟩⟩
theorem lw_p64 : lw_okq (⟨"GateMindsModel", "findWeights", "(I)V"⟩, 23) := ⟨⟨by decide +kernel, by decide +kernel⟩, List.mem_of_getElem? (i := 883) (by decide +kernel), List.mem_of_getElem? (i := 1224) (by decide +kernel), List.mem_of_getElem? (i := 1225) (by decide +kernel)⟩
theorem lw_p65 : lw_okq (⟨"GateMindsModel", "all", "()I"⟩, 23) := ⟨⟨by decide +kernel, by decide +kernel⟩, List.mem_of_getElem? (i := 883) (by decide +kernel), List.mem_of_getElem? (i := 1232) (by decide +kernel), List.mem_of_getElem? (i := 1233) (by decide +kernel)⟩
theorem lw_p66 : lw_okq (⟨"GateMindsModel", "onward", "(II)I"⟩, 23) := ⟨⟨by decide +kernel, by decide +kernel⟩, List.mem_of_getElem? (i := 883) (by decide +kernel), List.mem_of_getElem? (i := 1236) (by decide +kernel), List.mem_of_getElem? (i := 1237) (by decide +kernel)⟩
theorem lw_p67 : lw_okq (⟨"GateMindsModel", "roamsBy", "(II)I"⟩, 23) := ⟨⟨by decide +kernel, by decide +kernel⟩, List.mem_of_getElem? (i := 883) (by decide +kernel), List.mem_of_getElem? (i := 1247) (by decide +kernel), List.mem_of_getElem? (i := 1248) (by decide +kernel)⟩
theorem lw_p68 : lw_okq (⟨"GateMindsModel", "notThere", "(I)I"⟩, 23) := ⟨⟨by decide +kernel, by decide +kernel⟩, List.mem_of_getElem? (i := 883) (by decide +kernel), List.mem_of_getElem? (i := 1263) (by decide +kernel), List.mem_of_getElem? (i := 1264) (by decide +kernel)⟩
theorem lw_p69 : lw_okq (⟨"GateMindsModel", "isSo", "(I)Z"⟩, 23) := ⟨⟨by decide +kernel, by decide +kernel⟩, List.mem_of_getElem? (i := 883) (by decide +kernel), List.mem_of_getElem? (i := 1270) (by decide +kernel), List.mem_of_getElem? (i := 1271) (by decide +kernel)⟩
theorem lw_p70 : lw_okq (⟨"GateMindsModel", "nods", "(II)I"⟩, 23) := ⟨⟨by decide +kernel, by decide +kernel⟩, List.mem_of_getElem? (i := 883) (by decide +kernel), List.mem_of_getElem? (i := 1278) (by decide +kernel), List.mem_of_getElem? (i := 1279) (by decide +kernel)⟩
theorem lw_p71 : lw_okq (⟨"GateMindsModel", "loverNods", "(II)I"⟩, 23) := ⟨⟨by decide +kernel, by decide +kernel⟩, List.mem_of_getElem? (i := 883) (by decide +kernel), List.mem_of_getElem? (i := 1282) (by decide +kernel), List.mem_of_getElem? (i := 1283) (by decide +kernel)⟩
theorem lw_p72 : lw_okq (⟨"GateMindsModel", "begins", "(I)V"⟩, 23) := ⟨⟨by decide +kernel, by decide +kernel⟩, List.mem_of_getElem? (i := 883) (by decide +kernel), List.mem_of_getElem? (i := 1286) (by decide +kernel), List.mem_of_getElem? (i := 1287) (by decide +kernel)⟩
theorem lw_p73 : lw_okq (⟨"GateMindsModel", "plainNods", "(II)I"⟩, 23) := ⟨⟨by decide +kernel, by decide +kernel⟩, List.mem_of_getElem? (i := 883) (by decide +kernel), List.mem_of_getElem? (i := 1290) (by decide +kernel), List.mem_of_getElem? (i := 1291) (by decide +kernel)⟩
theorem lw_p74 : lw_okq (⟨"GateMindsModel", "minds", "(II)I"⟩, 23) := ⟨⟨by decide +kernel, by decide +kernel⟩, List.mem_of_getElem? (i := 883) (by decide +kernel), List.mem_of_getElem? (i := 1294) (by decide +kernel), List.mem_of_getElem? (i := 1295) (by decide +kernel)⟩
theorem lw_p75 : lw_okq (⟨"GateMindsModel", "thinkerMinds", "(II)I"⟩, 23) := ⟨⟨by decide +kernel, by decide +kernel⟩, List.mem_of_getElem? (i := 883) (by decide +kernel), List.mem_of_getElem? (i := 1298) (by decide +kernel), List.mem_of_getElem? (i := 1299) (by decide +kernel)⟩
theorem lw_p76 : lw_okq (⟨"GateMindsModel", "plainMinds", "(II)I"⟩, 23) := ⟨⟨by decide +kernel, by decide +kernel⟩, List.mem_of_getElem? (i := 883) (by decide +kernel), List.mem_of_getElem? (i := 1302) (by decide +kernel), List.mem_of_getElem? (i := 1303) (by decide +kernel)⟩
theorem lw_p77 : lw_okq (⟨"GateMindsModel", "whistles", "(II)I"⟩, 23) := ⟨⟨by decide +kernel, by decide +kernel⟩, List.mem_of_getElem? (i := 883) (by decide +kernel), List.mem_of_getElem? (i := 1306) (by decide +kernel), List.mem_of_getElem? (i := 1307) (by decide +kernel)⟩
theorem lw_p78 : lw_okq (⟨"GateMindsModel", "plainWhistles", "(II)I"⟩, 23) := ⟨⟨by decide +kernel, by decide +kernel⟩, List.mem_of_getElem? (i := 883) (by decide +kernel), List.mem_of_getElem? (i := 1310) (by decide +kernel), List.mem_of_getElem? (i := 1311) (by decide +kernel)⟩
theorem lw_p79 : lw_okq (⟨"GateMindsModel", "partsBy", "(II)I"⟩, 23) := ⟨⟨by decide +kernel, by decide +kernel⟩, List.mem_of_getElem? (i := 883) (by decide +kernel), List.mem_of_getElem? (i := 1314) (by decide +kernel), List.mem_of_getElem? (i := 1315) (by decide +kernel)⟩
def lw_privs_5 : List (MethodName × Nat) := [(⟨"GateMindsModel", "findWeights", "(I)V"⟩, 23), (⟨"GateMindsModel", "all", "()I"⟩, 23), (⟨"GateMindsModel", "onward", "(II)I"⟩, 23), (⟨"GateMindsModel", "roamsBy", "(II)I"⟩, 23), (⟨"GateMindsModel", "notThere", "(I)I"⟩, 23), (⟨"GateMindsModel", "isSo", "(I)Z"⟩, 23), (⟨"GateMindsModel", "nods", "(II)I"⟩, 23), (⟨"GateMindsModel", "loverNods", "(II)I"⟩, 23), (⟨"GateMindsModel", "begins", "(I)V"⟩, 23), (⟨"GateMindsModel", "plainNods", "(II)I"⟩, 23), (⟨"GateMindsModel", "minds", "(II)I"⟩, 23), (⟨"GateMindsModel", "thinkerMinds", "(II)I"⟩, 23), (⟨"GateMindsModel", "plainMinds", "(II)I"⟩, 23), (⟨"GateMindsModel", "whistles", "(II)I"⟩, 23), (⟨"GateMindsModel", "plainWhistles", "(II)I"⟩, 23), (⟨"GateMindsModel", "partsBy", "(II)I"⟩, 23)]
theorem lw_r5 : ∀ q ∈ lw_privs_5, lw_okq q := List.forall_mem_cons.mpr ⟨lw_p64, List.forall_mem_cons.mpr ⟨lw_p65, List.forall_mem_cons.mpr ⟨lw_p66, List.forall_mem_cons.mpr ⟨lw_p67, List.forall_mem_cons.mpr ⟨lw_p68, List.forall_mem_cons.mpr ⟨lw_p69, List.forall_mem_cons.mpr ⟨lw_p70, List.forall_mem_cons.mpr ⟨lw_p71, List.forall_mem_cons.mpr ⟨lw_p72, List.forall_mem_cons.mpr ⟨lw_p73, List.forall_mem_cons.mpr ⟨lw_p74, List.forall_mem_cons.mpr ⟨lw_p75, List.forall_mem_cons.mpr ⟨lw_p76, List.forall_mem_cons.mpr ⟨lw_p77, List.forall_mem_cons.mpr ⟨lw_p78, List.forall_mem_cons.mpr ⟨lw_p79, fun _ h => absurd h List.not_mem_nil⟩⟩⟩⟩⟩⟩⟩⟩⟩⟩⟩⟩⟩⟩⟩⟩
theorem lw_p80 : lw_okq (⟨"GateMindsModel", "plainParts", "(II)I"⟩, 23) := ⟨⟨by decide +kernel, by decide +kernel⟩, List.mem_of_getElem? (i := 883) (by decide +kernel), List.mem_of_getElem? (i := 1318) (by decide +kernel), List.mem_of_getElem? (i := 1319) (by decide +kernel)⟩
theorem lw_p81 : lw_okq (⟨"GateMindsModel", "notMoved", "(IIIII)I"⟩, 23) := ⟨⟨by decide +kernel, by decide +kernel⟩, List.mem_of_getElem? (i := 883) (by decide +kernel), List.mem_of_getElem? (i := 1339) (by decide +kernel), List.mem_of_getElem? (i := 1340) (by decide +kernel)⟩
def lw_privs_6 : List (MethodName × Nat) := [(⟨"GateMindsModel", "plainParts", "(II)I"⟩, 23), (⟨"GateMindsModel", "notMoved", "(IIIII)I"⟩, 23)]
theorem lw_r6 : ∀ q ∈ lw_privs_6, lw_okq q := List.forall_mem_cons.mpr ⟨lw_p80, List.forall_mem_cons.mpr ⟨lw_p81, fun _ h => absurd h List.not_mem_nil⟩⟩
def lw_privs : List (MethodName × Nat) := lw_privs_1 ++ (lw_privs_2 ++ (lw_privs_3 ++ (lw_privs_4 ++ (lw_privs_5 ++ (lw_privs_6)))))
def lw_tbl : List Cond := k2_sels lw_privs ++ tables_1
theorem lw_privs_ok : ∀ q ∈ lw_privs, lw_okq q := by
  show ∀ q ∈ lw_privs_1 ++ (lw_privs_2 ++ (lw_privs_3 ++ (lw_privs_4 ++ (lw_privs_5 ++ (lw_privs_6))))), lw_okq q
  exact List.forall_mem_append.mpr ⟨lw_r1, List.forall_mem_append.mpr ⟨lw_r2, List.forall_mem_append.mpr ⟨lw_r3, List.forall_mem_append.mpr ⟨lw_r4, List.forall_mem_append.mpr ⟨lw_r5, lw_r6⟩⟩⟩⟩⟩
-- ===== end of PART A; then your names; then what follows =====
end
section
def RX0 : String := "GateMinds$Keep"
def TX0 : u_T := fun k => match k with
  | 0 => ("GateMinds$Keep", "weighing", "LGateMinds$Law;", true)
  | 1 => ("GateMinds$Keep", "drawing", "LGateMinds$Law;", true)
  | 2 => ("GateMinds$Keep", "moor", "LGateMinds$Moor;", true)
  | 3 => ("GateMinds$Keep", "tape", "LGateMinds$Tape;", true)
  | 4 => ("GateMinds$Keep", "waiting", "[I", true)
  | 5 => ("GateMinds$Keep", "waits", "I", false)
  | _ => ("GateMinds$Keep", "z", "I", false)
def tyX0 : Nat → FieldType := fun k => match k with
  | 0 => .object "GateMinds$Law"
  | 1 => .object "GateMinds$Law"
  | 2 => .object "GateMinds$Moor"
  | 3 => .object "GateMinds$Tape"
  | 4 => .array .int
  | 5 => .int
  | _ => .int
abbrev wsX00 : List Cond := u_ws RX0 TX0 7
theorem nmX0 : ∀ a, a < 7 → ∀ b, b < 7 → a ≠ b → (TX0 a).2.1 ≠ (TX0 b).2.1 := by decide +kernel
theorem tyX0_ok : ∀ k, k < 7 → parseFieldDescriptor (TX0 k).2.2.1 = some (tyX0 k) := by decide +kernel
abbrev cX0_init : ByteArray := prog_2_method_1_code
def yX0_init : MethodName := ⟨RX0, "<init>", "()V"⟩
abbrev cX0_copyOf : ByteArray := prog_2_method_2_code
def yX0_copyOf : MethodName := ⟨RX0, "copyOf", "(LGateMinds$Keep;)V"⟩
abbrev cX0_lawOf : ByteArray := prog_2_method_3_code
def yX0_lawOf : MethodName := ⟨RX0, "lawOf", "(I)LGateMinds$Law;"⟩
abbrev cX0_shuffle : ByteArray := prog_2_method_4_code
def yX0_shuffle : MethodName := ⟨RX0, "shuffle", "()V"⟩
abbrev cX0_nextDraw : ByteArray := prog_2_method_5_code
def yX0_nextDraw : MethodName := ⟨RX0, "nextDraw", "()I"⟩
abbrev cX0_firstWrongLoad : ByteArray := prog_2_method_6_code
def yX0_firstWrongLoad : MethodName := ⟨RX0, "firstWrongLoad", "()I"⟩
def RX1 : String := "GateMinds$Law"
def TX1 : u_T := fun k => match k with
  | 0 => ("GateMinds$Law", "names", "Ljava/lang/String;", true)
  | 1 => ("GateMinds$Law", "most", "I", true)
  | 2 => ("GateMinds$Law", "code", "[I", true)
  | 3 => ("GateMinds$Law", "stack", "[I", true)
  | _ => ("GateMinds$Law", "size", "I", false)
def tyX1 : Nat → FieldType := fun k => match k with
  | 0 => .object "java/lang/String"
  | 1 => .int
  | 2 => .array .int
  | 3 => .array .int
  | _ => .int
abbrev wsX10 : List Cond := u_ws RX1 TX1 5
theorem nmX1 : ∀ a, a < 5 → ∀ b, b < 5 → a ≠ b → (TX1 a).2.1 ≠ (TX1 b).2.1 := by decide +kernel
theorem tyX1_ok : ∀ k, k < 5 → parseFieldDescriptor (TX1 k).2.2.1 = some (tyX1 k) := by decide +kernel
abbrev cX1_init : ByteArray := prog_3_method_1_code
def yX1_init : MethodName := ⟨RX1, "<init>", "(Ljava/lang/String;I)V"⟩
abbrev cX1_copyOf : ByteArray := prog_3_method_2_code
def yX1_copyOf : MethodName := ⟨RX1, "copyOf", "(LGateMinds$Law;)V"⟩
abbrev cX1_take : ByteArray := prog_3_method_3_code
def yX1_take : MethodName := ⟨RX1, "take", "([II)V"⟩
abbrev cX1_isTold : ByteArray := prog_3_method_4_code
def yX1_isTold : MethodName := ⟨RX1, "isTold", "()Z"⟩
abbrev cX1_gives : ByteArray := prog_3_method_5_code
def yX1_gives : MethodName := ⟨RX1, "gives", "(III)I"⟩
abbrev cX1_workedOut : ByteArray := prog_3_method_6_code
def yX1_workedOut : MethodName := ⟨RX1, "workedOut", "(III)I"⟩
abbrev cX1_meant : ByteArray := prog_3_method_7_code
def yX1_meant : MethodName := ⟨RX1, "meant", "(IIII)I"⟩
abbrev cX1_joined : ByteArray := prog_3_method_8_code
def yX1_joined : MethodName := ⟨RX1, "joined", "(III)I"⟩
def RX2 : String := "GateMinds$Moor"
def TX2 : u_T := fun k => match k with
  | 0 => ("GateMinds$Moor", "weighing", "LGateMinds$Law;", true)
  | 1 => ("GateMinds$Moor", "drawing", "LGateMinds$Law;", true)
  | 2 => ("GateMinds$Moor", "kind", "[I", true)
  | 3 => ("GateMinds$Moor", "number", "[I", true)
  | 4 => ("GateMinds$Moor", "one", "[I", true)
  | 5 => ("GateMinds$Moor", "other", "[I", true)
  | 6 => ("GateMinds$Moor", "heavy", "[I", true)
  | 7 => ("GateMinds$Moor", "holder", "[I", true)
  | 8 => ("GateMinds$Moor", "at", "[I", true)
  | 9 => ("GateMinds$Moor", "grass", "[I", true)
  | 10 => ("GateMinds$Moor", "people", "I", false)
  | 11 => ("GateMinds$Moor", "gates", "I", false)
  | 12 => ("GateMinds$Moor", "beasts", "I", false)
  | 13 => ("GateMinds$Moor", "hour", "I", false)
  | _ => ("GateMinds$Moor", "strays", "I", false)
def tyX2 : Nat → FieldType := fun k => match k with
  | 0 => .object "GateMinds$Law"
  | 1 => .object "GateMinds$Law"
  | 2 => .array .int
  | 3 => .array .int
  | 4 => .array .int
  | 5 => .array .int
  | 6 => .array .int
  | 7 => .array .int
  | 8 => .array .int
  | 9 => .array .int
  | 10 => .int
  | 11 => .int
  | 12 => .int
  | 13 => .int
  | _ => .int
abbrev wsX20 : List Cond := u_ws RX2 TX2 15
theorem nmX2 : ∀ a, a < 15 → ∀ b, b < 15 → a ≠ b → (TX2 a).2.1 ≠ (TX2 b).2.1 := by decide +kernel
theorem tyX2_ok : ∀ k, k < 15 → parseFieldDescriptor (TX2 k).2.2.1 = some (tyX2 k) := by decide +kernel
abbrev cX2_init : ByteArray := prog_4_method_1_code
def yX2_init : MethodName := ⟨RX2, "<init>", "(LGateMinds$Law;LGateMinds$Law;)V"⟩
abbrev cX2_copyOf : ByteArray := prog_4_method_2_code
def yX2_copyOf : MethodName := ⟨RX2, "copyOf", "(LGateMinds$Moor;)V"⟩
abbrev cX2_isOne : ByteArray := prog_4_method_3_code
def yX2_isOne : MethodName := ⟨RX2, "isOne", "(I)Z"⟩
abbrev cX2_isHolder : ByteArray := prog_4_method_4_code
def yX2_isHolder : MethodName := ⟨RX2, "isHolder", "(I)Z"⟩
abbrev cX2_isGate : ByteArray := prog_4_method_5_code
def yX2_isGate : MethodName := ⟨RX2, "isGate", "(I)Z"⟩
abbrev cX2_addOne : ByteArray := prog_4_method_6_code
def yX2_addOne : MethodName := ⟨RX2, "addOne", "(II)I"⟩
abbrev cX2_addGate : ByteArray := prog_4_method_7_code
def yX2_addGate : MethodName := ⟨RX2, "addGate", "(III)I"⟩
abbrev cX2_addBeast : ByteArray := prog_4_method_8_code
def yX2_addBeast : MethodName := ⟨RX2, "addBeast", "(I)I"⟩
abbrev cX2_openGates : ByteArray := prog_4_method_9_code
def yX2_openGates : MethodName := ⟨RX2, "openGates", "()I"⟩
abbrev cX2_heldBy : ByteArray := prog_4_method_10_code
def yX2_heldBy : MethodName := ⟨RX2, "heldBy", "(I)I"⟩
abbrev cX2_handOver : ByteArray := prog_4_method_11_code
def yX2_handOver : MethodName := ⟨RX2, "handOver", "(II)I"⟩
abbrev cX2_room : ByteArray := prog_4_method_12_code
def yX2_room : MethodName := ⟨RX2, "room", "(I)I"⟩
abbrev cX2_cost : ByteArray := prog_4_method_13_code
def yX2_cost : MethodName := ⟨RX2, "cost", "(II)I"⟩
abbrev cX2_weight : ByteArray := prog_4_method_14_code
def yX2_weight : MethodName := ⟨RX2, "weight", "(II)I"⟩
abbrev cX2_load : ByteArray := prog_4_method_15_code
def yX2_load : MethodName := ⟨RX2, "load", "(I)I"⟩
abbrev cX2_draw : ByteArray := prog_4_method_16_code
def yX2_draw : MethodName := ⟨RX2, "draw", "(I)I"⟩
abbrev cX2_anHour : ByteArray := prog_4_method_17_code
def yX2_anHour : MethodName := ⟨RX2, "anHour", "()V"⟩
abbrev cX2_letGo : ByteArray := prog_4_method_18_code
def yX2_letGo : MethodName := ⟨RX2, "letGo", "(I)V"⟩
abbrev cX2_graze : ByteArray := prog_4_method_19_code
def yX2_graze : MethodName := ⟨RX2, "graze", "(I)V"⟩
abbrev cX2_across : ByteArray := prog_4_method_20_code
def yX2_across : MethodName := ⟨RX2, "across", "(II)I"⟩
abbrev cX2_further : ByteArray := prog_4_method_21_code
def yX2_further : MethodName := ⟨RX2, "further", "(II)I"⟩
abbrev cX2_reached : ByteArray := prog_4_method_22_code
def yX2_reached : MethodName := ⟨RX2, "reached", "(II)I"⟩
abbrev cX2_steps : ByteArray := prog_4_method_23_code
def yX2_steps : MethodName := ⟨RX2, "steps", "(II)I"⟩
abbrev cX2_leastCut : ByteArray := prog_4_method_24_code
def yX2_leastCut : MethodName := ⟨RX2, "leastCut", "(II)I"⟩
abbrev cX2_gatesThatMatter : ByteArray := prog_4_method_25_code
def yX2_gatesThatMatter : MethodName := ⟨RX2, "gatesThatMatter", "(I)I"⟩
def RX3 : String := "GateMinds$Parting"
def TX3 : u_T := fun k => match k with
  | 0 => ("GateMinds$Parting", "loads", "[I", true)
  | _ => ("GateMinds$Parting", "few", "[I", true)
def tyX3 : Nat → FieldType := fun k => match k with
  | 0 => .array .int
  | _ => .array .int
abbrev wsX30 : List Cond := u_ws RX3 TX3 2
theorem nmX3 : ∀ a, a < 2 → ∀ b, b < 2 → a ≠ b → (TX3 a).2.1 ≠ (TX3 b).2.1 := by decide +kernel
theorem tyX3_ok : ∀ k, k < 2 → parseFieldDescriptor (TX3 k).2.2.1 = some (tyX3 k) := by decide +kernel
abbrev cX3_init : ByteArray := prog_5_method_1_code
def yX3_init : MethodName := ⟨RX3, "<init>", "()V"⟩
abbrev cX3_fewestFor : ByteArray := prog_5_method_2_code
def yX3_fewestFor : MethodName := ⟨RX3, "fewestFor", "(LGateMinds$Moor;)I"⟩
abbrev cX3_weighSets : ByteArray := prog_5_method_3_code
def yX3_weighSets : MethodName := ⟨RX3, "weighSets", "(LGateMinds$Moor;II)V"⟩
abbrev cX3_letOneHold : ByteArray := prog_5_method_4_code
def yX3_letOneHold : MethodName := ⟨RX3, "letOneHold", "(II)V"⟩
def RX4 : String := "GateMinds$Reader"
def TX4 : u_T := fun k => match k with
  | 0 => ("GateMinds$Reader", "words", "[I", true)
  | 1 => ("GateMinds$Reader", "tape", "LGateMinds$Tape;", false)
  | 2 => ("GateMinds$Reader", "names", "Ljava/lang/String;", false)
  | 3 => ("GateMinds$Reader", "size", "I", false)
  | 4 => ("GateMinds$Reader", "place", "I", false)
  | _ => ("GateMinds$Reader", "fault", "I", false)
def tyX4 : Nat → FieldType := fun k => match k with
  | 0 => .array .int
  | 1 => .object "GateMinds$Tape"
  | 2 => .object "java/lang/String"
  | 3 => .int
  | 4 => .int
  | _ => .int
abbrev wsX40 : List Cond := u_ws RX4 TX4 6
theorem nmX4 : ∀ a, a < 6 → ∀ b, b < 6 → a ≠ b → (TX4 a).2.1 ≠ (TX4 b).2.1 := by decide +kernel
theorem tyX4_ok : ∀ k, k < 6 → parseFieldDescriptor (TX4 k).2.2.1 = some (tyX4 k) := by decide +kernel
abbrev cX4_init : ByteArray := prog_6_method_1_code
def yX4_init : MethodName := ⟨RX4, "<init>", "()V"⟩
abbrev cX4_readInto : ByteArray := prog_6_method_2_code
def yX4_readInto : MethodName := ⟨RX4, "readInto", "(LGateMinds$Tape;LGateMinds$Law;)I"⟩
abbrev cX4_miss : ByteArray := prog_6_method_3_code
def yX4_miss : MethodName := ⟨RX4, "miss", "()V"⟩
abbrev cX4_next : ByteArray := prog_6_method_4_code
def yX4_next : MethodName := ⟨RX4, "next", "()I"⟩
abbrev cX4_write : ByteArray := prog_6_method_5_code
def yX4_write : MethodName := ⟨RX4, "write", "(I)V"⟩
abbrev cX4_readEither : ByteArray := prog_6_method_6_code
def yX4_readEither : MethodName := ⟨RX4, "readEither", "(I)V"⟩
abbrev cX4_readBoth : ByteArray := prog_6_method_7_code
def yX4_readBoth : MethodName := ⟨RX4, "readBoth", "(I)V"⟩
abbrev cX4_readCompared : ByteArray := prog_6_method_8_code
def yX4_readCompared : MethodName := ⟨RX4, "readCompared", "(I)V"⟩
abbrev cX4_readSum : ByteArray := prog_6_method_9_code
def yX4_readSum : MethodName := ⟨RX4, "readSum", "(I)V"⟩
abbrev cX4_readProduct : ByteArray := prog_6_method_10_code
def yX4_readProduct : MethodName := ⟨RX4, "readProduct", "(I)V"⟩
abbrev cX4_readPart : ByteArray := prog_6_method_11_code
def yX4_readPart : MethodName := ⟨RX4, "readPart", "(I)V"⟩
abbrev cX4_readClosing : ByteArray := prog_6_method_12_code
def yX4_readClosing : MethodName := ⟨RX4, "readClosing", "()V"⟩
abbrev cX4_readName : ByteArray := prog_6_method_13_code
def yX4_readName : MethodName := ⟨RX4, "readName", "(I)V"⟩
abbrev cX4_readNumber : ByteArray := prog_6_method_14_code
def yX4_readNumber : MethodName := ⟨RX4, "readNumber", "()V"⟩
abbrev cX4_isDigit : ByteArray := prog_6_method_15_code
def yX4_isDigit : MethodName := ⟨RX4, "isDigit", "(I)Z"⟩
def RX5 : String := "GateMinds$Sheet"
def TX5 : u_T := fun k => match k with
  | 0 => ("GateMinds$Sheet", "numbers", "[I", true)
  | 1 => ("GateMinds$Sheet", "bits", "I", false)
  | _ => ("GateMinds$Sheet", "size", "I", false)
def tyX5 : Nat → FieldType := fun k => match k with
  | 0 => .array .int
  | 1 => .int
  | _ => .int
abbrev wsX50 : List Cond := u_ws RX5 TX5 3
theorem nmX5 : ∀ a, a < 3 → ∀ b, b < 3 → a ≠ b → (TX5 a).2.1 ≠ (TX5 b).2.1 := by decide +kernel
theorem tyX5_ok : ∀ k, k < 3 → parseFieldDescriptor (TX5 k).2.2.1 = some (tyX5 k) := by decide +kernel
abbrev cX5_init : ByteArray := prog_7_method_1_code
def yX5_init : MethodName := ⟨RX5, "<init>", "()V"⟩
abbrev cX5_begin : ByteArray := prog_7_method_2_code
def yX5_begin : MethodName := ⟨RX5, "begin", "(II)V"⟩
abbrev cX5_isMissing : ByteArray := prog_7_method_3_code
def yX5_isMissing : MethodName := ⟨RX5, "isMissing", "()Z"⟩
abbrev cX5_lowest : ByteArray := prog_7_method_4_code
def yX5_lowest : MethodName := ⟨RX5, "lowest", "(I)I"⟩
abbrev cX5_hasPart : ByteArray := prog_7_method_5_code
def yX5_hasPart : MethodName := ⟨RX5, "hasPart", "(II)Z"⟩
abbrev cX5_tellsHolders : ByteArray := prog_7_method_6_code
def yX5_tellsHolders : MethodName := ⟨RX5, "tellsHolders", "(LGateMinds$Moor;)Z"⟩
abbrev cX5_giveHolders : ByteArray := prog_7_method_7_code
def yX5_giveHolders : MethodName := ⟨RX5, "giveHolders", "(LGateMinds$Moor;)I"⟩
abbrev cX5_rightGrass : ByteArray := prog_7_method_8_code
def yX5_rightGrass : MethodName := ⟨RX5, "rightGrass", "(LGateMinds$Moor;)I"⟩
def RX6 : String := "GateMinds$Speech"
def TX6 : u_T := fun k => match k with
  | 0 => ("GateMinds$Speech", "trace", "[I", true)
  | 1 => ("GateMinds$Speech", "traced", "I", false)
  | 2 => ("GateMinds$Speech", "parted", "Z", false)
  | 3 => ("GateMinds$Speech", "kind", "I", false)
  | 4 => ("GateMinds$Speech", "k", "I", false)
  | _ => ("GateMinds$Speech", "m", "I", false)
def tyX6 : Nat → FieldType := fun k => match k with
  | 0 => .array .int
  | 1 => .int
  | 2 => .boolean
  | 3 => .int
  | 4 => .int
  | _ => .int
abbrev wsX60 : List Cond := u_ws RX6 TX6 6
theorem nmX6 : ∀ a, a < 6 → ∀ b, b < 6 → a ≠ b → (TX6 a).2.1 ≠ (TX6 b).2.1 := by decide +kernel
theorem tyX6_ok : ∀ k, k < 6 → parseFieldDescriptor (TX6 k).2.2.1 = some (tyX6 k) := by decide +kernel
abbrev cX6_init : ByteArray := prog_8_method_1_code
def yX6_init : MethodName := ⟨RX6, "<init>", "()V"⟩
abbrev cX6_speak : ByteArray := prog_8_method_2_code
def yX6_speak : MethodName := ⟨RX6, "speak", "(IIIII)I"⟩
abbrev cX6_own : ByteArray := prog_8_method_3_code
def yX6_own : MethodName := ⟨RX6, "own", "(III)I"⟩
abbrev cX6_from : ByteArray := prog_8_method_4_code
def yX6_from : MethodName := ⟨RX6, "from", "(IIII)I"⟩
abbrev cX6_work : ByteArray := prog_8_method_5_code
def yX6_work : MethodName := ⟨RX6, "work", "(IIII)I"⟩
abbrev cX6_divided : ByteArray := prog_8_method_6_code
def yX6_divided : MethodName := ⟨RX6, "divided", "(I)I"⟩
def RX7 : String := "GateMinds$Tape"
def TX7 : u_T := fun k => match k with
  | 0 => ("GateMinds$Tape", "bytes", "[B", true)
  | _ => ("GateMinds$Tape", "size", "I", false)
def tyX7 : Nat → FieldType := fun k => match k with
  | 0 => .array .byte
  | _ => .int
abbrev wsX70 : List Cond := u_ws RX7 TX7 2
theorem nmX7 : ∀ a, a < 2 → ∀ b, b < 2 → a ≠ b → (TX7 a).2.1 ≠ (TX7 b).2.1 := by decide +kernel
theorem tyX7_ok : ∀ k, k < 2 → parseFieldDescriptor (TX7 k).2.2.1 = some (tyX7 k) := by decide +kernel
abbrev cX7_init : ByteArray := prog_9_method_1_code
def yX7_init : MethodName := ⟨RX7, "<init>", "()V"⟩
abbrev cX7_copyOf : ByteArray := prog_9_method_2_code
def yX7_copyOf : MethodName := ⟨RX7, "copyOf", "(LGateMinds$Tape;)V"⟩
abbrev cX7_append : ByteArray := prog_9_method_3_code
def yX7_append : MethodName := ⟨RX7, "append", "(JI)V"⟩
def RX8 : String := "GateMinds"
def TX8 : u_T := fun k => match k with
  | 0 => ("GateMinds", "now", "LGateMinds$Keep;", true)
  | 1 => ("GateMinds", "kept", "LGateMinds$Keep;", true)
  | 2 => ("GateMinds", "thought", "LGateMinds$Moor;", true)
  | 3 => ("GateMinds", "reader", "LGateMinds$Reader;", true)
  | 4 => ("GateMinds", "parting", "LGateMinds$Parting;", true)
  | 5 => ("GateMinds", "speech", "LGateMinds$Speech;", true)
  | 6 => ("GateMinds", "sheets", "[LGateMinds$Sheet;", true)
  | 7 => ("GateMinds", "errors", "[I", true)
  | _ => ("GateMinds", "images", "I", false)
def tyX8 : Nat → FieldType := fun k => match k with
  | 0 => .object "GateMinds$Keep"
  | 1 => .object "GateMinds$Keep"
  | 2 => .object "GateMinds$Moor"
  | 3 => .object "GateMinds$Reader"
  | 4 => .object "GateMinds$Parting"
  | 5 => .object "GateMinds$Speech"
  | 6 => .array (.object "GateMinds$Sheet")
  | 7 => .array .int
  | _ => .int
abbrev wsX80 : List Cond := u_ws RX8 TX8 9
theorem nmX8 : ∀ a, a < 9 → ∀ b, b < 9 → a ≠ b → (TX8 a).2.1 ≠ (TX8 b).2.1 := by decide +kernel
theorem tyX8_ok : ∀ k, k < 9 → parseFieldDescriptor (TX8 k).2.2.1 = some (tyX8 k) := by decide +kernel
abbrev cX8_init : ByteArray := prog_1_method_1_code
def yX8_init : MethodName := ⟨RX8, "<init>", "()V"⟩
abbrev cX8_person : ByteArray := prog_1_method_2_code
def yX8_person : MethodName := ⟨RX8, "person", "(I)I"⟩
abbrev cX8_personIs : ByteArray := prog_1_method_3_code
def yX8_personIs : MethodName := ⟨RX8, "personIs", "(II)I"⟩
abbrev cX8_become : ByteArray := prog_1_method_4_code
def yX8_become : MethodName := ⟨RX8, "become", "(II)I"⟩
abbrev cX8_as : ByteArray := prog_1_method_5_code
def yX8_as : MethodName := ⟨RX8, "as", "(II)I"⟩
abbrev cX8_gate : ByteArray := prog_1_method_6_code
def yX8_gate : MethodName := ⟨RX8, "gate", "(III)I"⟩
abbrev cX8_gateIs : ByteArray := prog_1_method_7_code
def yX8_gateIs : MethodName := ⟨RX8, "gateIs", "(II)I"⟩
abbrev cX8_hold : ByteArray := prog_1_method_8_code
def yX8_hold : MethodName := ⟨RX8, "hold", "(II)I"⟩
abbrev cX8_pass : ByteArray := prog_1_method_9_code
def yX8_pass : MethodName := ⟨RX8, "pass", "(II)I"⟩
abbrev cX8_stock : ByteArray := prog_1_method_10_code
def yX8_stock : MethodName := ⟨RX8, "stock", "(I)I"⟩
abbrev cX8_stockAt : ByteArray := prog_1_method_11_code
def yX8_stockAt : MethodName := ⟨RX8, "stockAt", "(I)I"⟩
abbrev cX8_grass : ByteArray := prog_1_method_12_code
def yX8_grass : MethodName := ⟨RX8, "grass", "(II)I"⟩
abbrev cX8_feed : ByteArray := prog_1_method_13_code
def yX8_feed : MethodName := ⟨RX8, "feed", "(JI)I"⟩
abbrev cX8_text : ByteArray := prog_1_method_14_code
def yX8_text : MethodName := ⟨RX8, "text", "(I)I"⟩
abbrev cX8_untell : ByteArray := prog_1_method_15_code
def yX8_untell : MethodName := ⟨RX8, "untell", "(I)I"⟩
abbrev cX8_law : ByteArray := prog_1_method_16_code
def yX8_law : MethodName := ⟨RX8, "law", "(IIII)I"⟩
abbrev cX8_hours : ByteArray := prog_1_method_17_code
def yX8_hours : MethodName := ⟨RX8, "hours", "(I)I"⟩
abbrev cX8_loose : ByteArray := prog_1_method_18_code
def yX8_loose : MethodName := ⟨RX8, "loose", "(I)I"⟩
abbrev cX8_hour : ByteArray := prog_1_method_19_code
def yX8_hour : MethodName := ⟨RX8, "hour", "(I)I"⟩
abbrev cX8_seed : ByteArray := prog_1_method_20_code
def yX8_seed : MethodName := ⟨RX8, "seed", "(I)I"⟩
abbrev cX8_then : ByteArray := prog_1_method_21_code
def yX8_then : MethodName := ⟨RX8, "then", "(II)I"⟩
abbrev cX8_first : ByteArray := prog_1_method_22_code
def yX8_first : MethodName := ⟨RX8, "first", "(I)I"⟩
abbrev cX8_fewest : ByteArray := prog_1_method_23_code
def yX8_fewest : MethodName := ⟨RX8, "fewest", "()I"⟩
abbrev cX8_way : ByteArray := prog_1_method_24_code
def yX8_way : MethodName := ⟨RX8, "way", "(II)I"⟩
abbrev cX8_cut : ByteArray := prog_1_method_25_code
def yX8_cut : MethodName := ⟨RX8, "cut", "(III)I"⟩
abbrev cX8_roams : ByteArray := prog_1_method_26_code
def yX8_roams : MethodName := ⟨RX8, "roams", "(I)I"⟩
abbrev cX8_odds : ByteArray := prog_1_method_27_code
def yX8_odds : MethodName := ⟨RX8, "odds", "(II)I"⟩
abbrev cX8_fits : ByteArray := prog_1_method_28_code
def yX8_fits : MethodName := ⟨RX8, "fits", "(I)I"⟩
abbrev cX8_voice : ByteArray := prog_1_method_29_code
def yX8_voice : MethodName := ⟨RX8, "voice", "(III)I"⟩
abbrev cX8_body : ByteArray := prog_1_method_30_code
def yX8_body : MethodName := ⟨RX8, "body", "(I)I"⟩
abbrev cX8_sheet : ByteArray := prog_1_method_31_code
def yX8_sheet : MethodName := ⟨RX8, "sheet", "(III)I"⟩
abbrev cX8_put : ByteArray := prog_1_method_32_code
def yX8_put : MethodName := ⟨RX8, "put", "(III)I"⟩
abbrev cX8_move : ByteArray := prog_1_method_33_code
def yX8_move : MethodName := ⟨RX8, "move", "(IIIII)I"⟩
abbrev cX8_holds : ByteArray := prog_1_method_34_code
def yX8_holds : MethodName := ⟨RX8, "holds", "(I)I"⟩
abbrev cX8_judge : ByteArray := prog_1_method_35_code
def yX8_judge : MethodName := ⟨RX8, "judge", "(I)I"⟩
abbrev cX8_image : ByteArray := prog_1_method_36_code
def yX8_image : MethodName := ⟨RX8, "image", "()I"⟩
abbrev cX8_restore : ByteArray := prog_1_method_37_code
def yX8_restore : MethodName := ⟨RX8, "restore", "()I"⟩
abbrev cX8_tell : ByteArray := prog_1_method_38_code
def yX8_tell : MethodName := ⟨RX8, "tell", "(I)I"⟩
abbrev cX8_check : ByteArray := prog_1_method_39_code
def yX8_check : MethodName := ⟨RX8, "check", "()I"⟩
abbrev cX8_count : ByteArray := prog_1_method_40_code
def yX8_count : MethodName := ⟨RX8, "count", "(I)I"⟩
abbrev cX8_told : ByteArray := prog_1_method_41_code
def yX8_told : MethodName := ⟨RX8, "told", "(I)I"⟩
abbrev cX8_fail : ByteArray := prog_1_method_42_code
def yX8_fail : MethodName := ⟨RX8, "fail", "(I)I"⟩
abbrev cX8_isKindAndNumber : ByteArray := prog_1_method_43_code
def yX8_isKindAndNumber : MethodName := ⟨RX8, "isKindAndNumber", "(I)Z"⟩
abbrev cX8_isUnder : ByteArray := prog_1_method_44_code
def yX8_isUnder : MethodName := ⟨RX8, "isUnder", "(II)Z"⟩
abbrev cX8_isField : ByteArray := prog_1_method_45_code
def yX8_isField : MethodName := ⟨RX8, "isField", "(I)Z"⟩
abbrev cX8_areTwoFields : ByteArray := prog_1_method_46_code
def yX8_areTwoFields : MethodName := ⟨RX8, "areTwoFields", "(II)Z"⟩
abbrev cX8_isUse : ByteArray := prog_1_method_47_code
def yX8_isUse : MethodName := ⟨RX8, "isUse", "(I)Z"⟩
abbrev cX8_isSheet : ByteArray := prog_1_method_48_code
def yX8_isSheet : MethodName := ⟨RX8, "isSheet", "(I)Z"⟩
abbrev cX8_isWidth : ByteArray := prog_1_method_49_code
def yX8_isWidth : MethodName := ⟨RX8, "isWidth", "(I)Z"⟩
abbrev cX8_commonDivisor : ByteArray := prog_1_method_50_code
def yX8_commonDivisor : MethodName := ⟨RX8, "commonDivisor", "(II)I"⟩
def RX9 : String := "GateMindsModel"
def TX9 : u_T := fun k => match k with
  | 0 => ("GateMindsModel", "row", "[I", true)
  | 1 => ("GateMindsModel", "kept", "[I", true)
  | 2 => ("GateMindsModel", "before", "[I", true)
  | 3 => ("GateMindsModel", "images", "I", false)
  | 4 => ("GateMindsModel", "errors", "[I", true)
  | 5 => ("GateMindsModel", "bitsOf", "[I", true)
  | 6 => ("GateMindsModel", "sizeOf", "[I", true)
  | 7 => ("GateMindsModel", "cells", "[I", true)
  | 8 => ("GateMindsModel", "act", "[I", true)
  | 9 => ("GateMindsModel", "with", "[I", true)
  | 10 => ("GateMindsModel", "facts", "[I", true)
  | 11 => ("GateMindsModel", "pile", "[I", true)
  | 12 => ("GateMindsModel", "laid", "I", false)
  | 13 => ("GateMindsModel", "here", "I", false)
  | 14 => ("GateMindsModel", "opened", "I", false)
  | 15 => ("GateMindsModel", "bad", "Z", false)
  | 16 => ("GateMindsModel", "using", "I", false)
  | 17 => ("GateMindsModel", "few", "[I", true)
  | 18 => ("GateMindsModel", "next", "[I", true)
  | 19 => ("GateMindsModel", "weights", "[I", true)
  | 20 => ("GateMindsModel", "trace", "[I", true)
  | 21 => ("GateMindsModel", "traced", "I", false)
  | _ => ("GateMindsModel", "isParted", "Z", false)
def tyX9 : Nat → FieldType := fun k => match k with
  | 0 => .array .int
  | 1 => .array .int
  | 2 => .array .int
  | 3 => .int
  | 4 => .array .int
  | 5 => .array .int
  | 6 => .array .int
  | 7 => .array .int
  | 8 => .array .int
  | 9 => .array .int
  | 10 => .array .int
  | 11 => .array .int
  | 12 => .int
  | 13 => .int
  | 14 => .int
  | 15 => .boolean
  | 16 => .int
  | 17 => .array .int
  | 18 => .array .int
  | 19 => .array .int
  | 20 => .array .int
  | 21 => .int
  | _ => .boolean
abbrev wsX90 : List Cond := u_ws RX9 TX9 23
theorem nmX9 : ∀ a, a < 23 → ∀ b, b < 23 → a ≠ b → (TX9 a).2.1 ≠ (TX9 b).2.1 := by decide +kernel
theorem tyX9_ok : ∀ k, k < 23 → parseFieldDescriptor (TX9 k).2.2.1 = some (tyX9 k) := by decide +kernel
abbrev cX9_init : ByteArray := prog_11_method_1_code
def yX9_init : MethodName := ⟨RX9, "<init>", "()V"⟩
abbrev cX9_error : ByteArray := prog_11_method_2_code
def yX9_error : MethodName := ⟨RX9, "error", "(I)I"⟩
abbrev cX9_in : ByteArray := prog_11_method_3_code
def yX9_in : MethodName := ⟨RX9, "in", "(III)Z"⟩
abbrev cX9_held : ByteArray := prog_11_method_4_code
def yX9_held : MethodName := ⟨RX9, "held", "(III)I"⟩
abbrev cX9_copyAll : ByteArray := prog_11_method_5_code
def yX9_copyAll : MethodName := ⟨RX9, "copyAll", "([I[I)V"⟩
abbrev cX9_thinks : ByteArray := prog_11_method_6_code
def yX9_thinks : MethodName := ⟨RX9, "thinks", "()V"⟩
abbrev cX9_putsBack : ByteArray := prog_11_method_7_code
def yX9_putsBack : MethodName := ⟨RX9, "putsBack", "()V"⟩
abbrev cX9_bits : ByteArray := prog_11_method_8_code
def yX9_bits : MethodName := ⟨RX9, "bits", "(I)I"⟩
abbrev cX9_isPerson : ByteArray := prog_11_method_9_code
def yX9_isPerson : MethodName := ⟨RX9, "isPerson", "(I)Z"⟩
abbrev cX9_isGate : ByteArray := prog_11_method_10_code
def yX9_isGate : MethodName := ⟨RX9, "isGate", "(I)Z"⟩
abbrev cX9_isField : ByteArray := prog_11_method_11_code
def yX9_isField : MethodName := ⟨RX9, "isField", "(I)Z"⟩
abbrev cX9_areTwo : ByteArray := prog_11_method_12_code
def yX9_areTwo : MethodName := ⟨RX9, "areTwo", "(II)Z"⟩
abbrev cX9_becomes : ByteArray := prog_11_method_13_code
def yX9_becomes : MethodName := ⟨RX9, "becomes", "(II)I"⟩
abbrev cX9_of : ByteArray := prog_11_method_14_code
def yX9_of : MethodName := ⟨RX9, "of", "(II)I"⟩
abbrev cX9_about : ByteArray := prog_11_method_15_code
def yX9_about : MethodName := ⟨RX9, "about", "(II)I"⟩
abbrev cX9_lets : ByteArray := prog_11_method_16_code
def yX9_lets : MethodName := ⟨RX9, "lets", "(III)V"⟩
abbrev cX9_isOpen : ByteArray := prog_11_method_17_code
def yX9_isOpen : MethodName := ⟨RX9, "isOpen", "(I)Z"⟩
abbrev cX9_opened : ByteArray := prog_11_method_18_code
def yX9_opened : MethodName := ⟨RX9, "opened", "()I"⟩
abbrev cX9_howManyBy : ByteArray := prog_11_method_19_code
def yX9_howManyBy : MethodName := ⟨RX9, "howManyBy", "(I)I"⟩
abbrev cX9_roomOf : ByteArray := prog_11_method_20_code
def yX9_roomOf : MethodName := ⟨RX9, "roomOf", "(I)I"⟩
abbrev cX9_costsOf : ByteArray := prog_11_method_21_code
def yX9_costsOf : MethodName := ⟨RX9, "costsOf", "(II)I"⟩
abbrev cX9_weighsOn : ByteArray := prog_11_method_22_code
def yX9_weighsOn : MethodName := ⟨RX9, "weighsOn", "(II)I"⟩
abbrev cX9_loadOf : ByteArray := prog_11_method_23_code
def yX9_loadOf : MethodName := ⟨RX9, "loadOf", "(I)I"⟩
abbrev cX9_drawsOf : ByteArray := prog_11_method_24_code
def yX9_drawsOf : MethodName := ⟨RX9, "drawsOf", "(I)I"⟩
abbrev cX9_isKm : ByteArray := prog_11_method_25_code
def yX9_isKm : MethodName := ⟨RX9, "isKm", "(I)Z"⟩
abbrev cX9_person : ByteArray := prog_11_method_26_code
def yX9_person : MethodName := ⟨RX9, "person", "(I)I"⟩
abbrev cX9_personIs : ByteArray := prog_11_method_27_code
def yX9_personIs : MethodName := ⟨RX9, "personIs", "(II)I"⟩
abbrev cX9_become : ByteArray := prog_11_method_28_code
def yX9_become : MethodName := ⟨RX9, "become", "(II)I"⟩
abbrev cX9_as : ByteArray := prog_11_method_29_code
def yX9_as : MethodName := ⟨RX9, "as", "(II)I"⟩
abbrev cX9_gate : ByteArray := prog_11_method_30_code
def yX9_gate : MethodName := ⟨RX9, "gate", "(III)I"⟩
abbrev cX9_gateIs : ByteArray := prog_11_method_31_code
def yX9_gateIs : MethodName := ⟨RX9, "gateIs", "(II)I"⟩
abbrev cX9_hold : ByteArray := prog_11_method_32_code
def yX9_hold : MethodName := ⟨RX9, "hold", "(II)I"⟩
abbrev cX9_pass : ByteArray := prog_11_method_33_code
def yX9_pass : MethodName := ⟨RX9, "pass", "(II)I"⟩
abbrev cX9_stock : ByteArray := prog_11_method_34_code
def yX9_stock : MethodName := ⟨RX9, "stock", "(I)I"⟩
abbrev cX9_stockAt : ByteArray := prog_11_method_35_code
def yX9_stockAt : MethodName := ⟨RX9, "stockAt", "(I)I"⟩
abbrev cX9_grass : ByteArray := prog_11_method_36_code
def yX9_grass : MethodName := ⟨RX9, "grass", "(II)I"⟩
abbrev cX9_feed : ByteArray := prog_11_method_37_code
def yX9_feed : MethodName := ⟨RX9, "feed", "(JI)I"⟩
abbrev cX9_look : ByteArray := prog_11_method_38_code
def yX9_look : MethodName := ⟨RX9, "look", "()I"⟩
abbrev cX9_lays : ByteArray := prog_11_method_39_code
def yX9_lays : MethodName := ⟨RX9, "lays", "(II)V"⟩
abbrev cX9_nameOf : ByteArray := prog_11_method_40_code
def yX9_nameOf : MethodName := ⟨RX9, "nameOf", "(I)I"⟩
abbrev cX9_number : ByteArray := prog_11_method_41_code
def yX9_number : MethodName := ⟨RX9, "number", "()V"⟩
abbrev cX9_opens : ByteArray := prog_11_method_42_code
def yX9_opens : MethodName := ⟨RX9, "opens", "(I)V"⟩
abbrev cX9_one : ByteArray := prog_11_method_43_code
def yX9_one : MethodName := ⟨RX9, "one", "()V"⟩
abbrev cX9_times : ByteArray := prog_11_method_44_code
def yX9_times : MethodName := ⟨RX9, "times", "()V"⟩
abbrev cX9_sum : ByteArray := prog_11_method_45_code
def yX9_sum : MethodName := ⟨RX9, "sum", "()V"⟩
abbrev cX9_compares : ByteArray := prog_11_method_46_code
def yX9_compares : MethodName := ⟨RX9, "compares", "()V"⟩
abbrev cX9_allBy : ByteArray := prog_11_method_47_code
def yX9_allBy : MethodName := ⟨RX9, "allBy", "()V"⟩
abbrev cX9_any : ByteArray := prog_11_method_48_code
def yX9_any : MethodName := ⟨RX9, "any", "()V"⟩
abbrev cX9_text : ByteArray := prog_11_method_49_code
def yX9_text : MethodName := ⟨RX9, "text", "(I)I"⟩
abbrev cX9_untell : ByteArray := prog_11_method_50_code
def yX9_untell : MethodName := ⟨RX9, "untell", "(I)I"⟩
abbrev cX9_twoOf : ByteArray := prog_11_method_51_code
def yX9_twoOf : MethodName := ⟨RX9, "twoOf", "(III)I"⟩
abbrev cX9_works : ByteArray := prog_11_method_52_code
def yX9_works : MethodName := ⟨RX9, "works", "(I)I"⟩
abbrev cX9_gives : ByteArray := prog_11_method_53_code
def yX9_gives : MethodName := ⟨RX9, "gives", "(IIII)I"⟩
abbrev cX9_law : ByteArray := prog_11_method_54_code
def yX9_law : MethodName := ⟨RX9, "law", "(IIII)I"⟩
abbrev cX9_letsGo : ByteArray := prog_11_method_55_code
def yX9_letsGo : MethodName := ⟨RX9, "letsGo", "(I)V"⟩
abbrev cX9_beyond : ByteArray := prog_11_method_56_code
def yX9_beyond : MethodName := ⟨RX9, "beyond", "(II)I"⟩
abbrev cX9_strays : ByteArray := prog_11_method_57_code
def yX9_strays : MethodName := ⟨RX9, "strays", "(I)V"⟩
abbrev cX9_goes : ByteArray := prog_11_method_58_code
def yX9_goes : MethodName := ⟨RX9, "goes", "()V"⟩
abbrev cX9_hours : ByteArray := prog_11_method_59_code
def yX9_hours : MethodName := ⟨RX9, "hours", "(I)I"⟩
abbrev cX9_draw : ByteArray := prog_11_method_60_code
def yX9_draw : MethodName := ⟨RX9, "draw", "()I"⟩
abbrev cX9_drawn : ByteArray := prog_11_method_61_code
def yX9_drawn : MethodName := ⟨RX9, "drawn", "()V"⟩
abbrev cX9_loose : ByteArray := prog_11_method_62_code
def yX9_loose : MethodName := ⟨RX9, "loose", "(I)I"⟩
abbrev cX9_hour : ByteArray := prog_11_method_63_code
def yX9_hour : MethodName := ⟨RX9, "hour", "(I)I"⟩
abbrev cX9_seed : ByteArray := prog_11_method_64_code
def yX9_seed : MethodName := ⟨RX9, "seed", "(I)I"⟩
abbrev cX9_then : ByteArray := prog_11_method_65_code
def yX9_then : MethodName := ⟨RX9, "then", "(II)I"⟩
abbrev cX9_first : ByteArray := prog_11_method_66_code
def yX9_first : MethodName := ⟨RX9, "first", "(I)I"⟩
abbrev cX9_findWeights : ByteArray := prog_11_method_67_code
def yX9_findWeights : MethodName := ⟨RX9, "findWeights", "(I)V"⟩
abbrev cX9_tries : ByteArray := prog_11_method_68_code
def yX9_tries : MethodName := ⟨RX9, "tries", "(I)V"⟩
abbrev cX9_fewest : ByteArray := prog_11_method_69_code
def yX9_fewest : MethodName := ⟨RX9, "fewest", "()I"⟩
abbrev cX9_onward : ByteArray := prog_11_method_70_code
def yX9_onward : MethodName := ⟨RX9, "onward", "(II)I"⟩
abbrev cX9_roamsBy : ByteArray := prog_11_method_71_code
def yX9_roamsBy : MethodName := ⟨RX9, "roamsBy", "(II)I"⟩
abbrev cX9_all : ByteArray := prog_11_method_72_code
def yX9_all : MethodName := ⟨RX9, "all", "()I"⟩
abbrev cX9_way : ByteArray := prog_11_method_73_code
def yX9_way : MethodName := ⟨RX9, "way", "(II)I"⟩
abbrev cX9_cut : ByteArray := prog_11_method_74_code
def yX9_cut : MethodName := ⟨RX9, "cut", "(III)I"⟩
abbrev cX9_roams : ByteArray := prog_11_method_75_code
def yX9_roams : MethodName := ⟨RX9, "roams", "(I)I"⟩
abbrev cX9_odds : ByteArray := prog_11_method_76_code
def yX9_odds : MethodName := ⟨RX9, "odds", "(II)I"⟩
abbrev cX9_isSo : ByteArray := prog_11_method_77_code
def yX9_isSo : MethodName := ⟨RX9, "isSo", "(I)Z"⟩
abbrev cX9_fits : ByteArray := prog_11_method_78_code
def yX9_fits : MethodName := ⟨RX9, "fits", "(I)I"⟩
abbrev cX9_begins : ByteArray := prog_11_method_79_code
def yX9_begins : MethodName := ⟨RX9, "begins", "(I)V"⟩
abbrev cX9_plainNods : ByteArray := prog_11_method_80_code
def yX9_plainNods : MethodName := ⟨RX9, "plainNods", "(II)I"⟩
abbrev cX9_loverNods : ByteArray := prog_11_method_81_code
def yX9_loverNods : MethodName := ⟨RX9, "loverNods", "(II)I"⟩
abbrev cX9_nods : ByteArray := prog_11_method_82_code
def yX9_nods : MethodName := ⟨RX9, "nods", "(II)I"⟩
abbrev cX9_plainMinds : ByteArray := prog_11_method_83_code
def yX9_plainMinds : MethodName := ⟨RX9, "plainMinds", "(II)I"⟩
abbrev cX9_thinkerMinds : ByteArray := prog_11_method_84_code
def yX9_thinkerMinds : MethodName := ⟨RX9, "thinkerMinds", "(II)I"⟩
abbrev cX9_minds : ByteArray := prog_11_method_85_code
def yX9_minds : MethodName := ⟨RX9, "minds", "(II)I"⟩
abbrev cX9_plainWhistles : ByteArray := prog_11_method_86_code
def yX9_plainWhistles : MethodName := ⟨RX9, "plainWhistles", "(II)I"⟩
abbrev cX9_whistles : ByteArray := prog_11_method_87_code
def yX9_whistles : MethodName := ⟨RX9, "whistles", "(II)I"⟩
abbrev cX9_plainParts : ByteArray := prog_11_method_88_code
def yX9_plainParts : MethodName := ⟨RX9, "plainParts", "(II)I"⟩
abbrev cX9_partsBy : ByteArray := prog_11_method_89_code
def yX9_partsBy : MethodName := ⟨RX9, "partsBy", "(II)I"⟩
abbrev cX9_voice : ByteArray := prog_11_method_90_code
def yX9_voice : MethodName := ⟨RX9, "voice", "(III)I"⟩
abbrev cX9_body : ByteArray := prog_11_method_91_code
def yX9_body : MethodName := ⟨RX9, "body", "(I)I"⟩
abbrev cX9_isSheet : ByteArray := prog_11_method_92_code
def yX9_isSheet : MethodName := ⟨RX9, "isSheet", "(I)Z"⟩
abbrev cX9_sheet : ByteArray := prog_11_method_93_code
def yX9_sheet : MethodName := ⟨RX9, "sheet", "(III)I"⟩
abbrev cX9_notThere : ByteArray := prog_11_method_94_code
def yX9_notThere : MethodName := ⟨RX9, "notThere", "(I)I"⟩
abbrev cX9_put : ByteArray := prog_11_method_95_code
def yX9_put : MethodName := ⟨RX9, "put", "(III)I"⟩
abbrev cX9_notMoved : ByteArray := prog_11_method_96_code
def yX9_notMoved : MethodName := ⟨RX9, "notMoved", "(IIIII)I"⟩
abbrev cX9_move : ByteArray := prog_11_method_97_code
def yX9_move : MethodName := ⟨RX9, "move", "(IIIII)I"⟩
abbrev cX9_holds : ByteArray := prog_11_method_98_code
def yX9_holds : MethodName := ⟨RX9, "holds", "(I)I"⟩
abbrev cX9_judge : ByteArray := prog_11_method_99_code
def yX9_judge : MethodName := ⟨RX9, "judge", "(I)I"⟩
abbrev cX9_image : ByteArray := prog_11_method_100_code
def yX9_image : MethodName := ⟨RX9, "image", "()I"⟩
abbrev cX9_restore : ByteArray := prog_11_method_101_code
def yX9_restore : MethodName := ⟨RX9, "restore", "()I"⟩
abbrev cX9_tell : ByteArray := prog_11_method_102_code
def yX9_tell : MethodName := ⟨RX9, "tell", "(I)I"⟩
abbrev cX9_check : ByteArray := prog_11_method_103_code
def yX9_check : MethodName := ⟨RX9, "check", "()I"⟩
abbrev cX9_count : ByteArray := prog_11_method_104_code
def yX9_count : MethodName := ⟨RX9, "count", "(I)I"⟩
abbrev cX9_told : ByteArray := prog_11_method_105_code
def yX9_told : MethodName := ⟨RX9, "told", "(I)I"⟩
def RJ11 : String := "java/lang/Character"
abbrev cJ11_isValidCodePoint_9a6ad : ByteArray := prog_12_method_11_code
def yJ11_isValidCodePoint_9a6ad : MethodName := ⟨RJ11, "isValidCodePoint", "(I)Z"⟩
abbrev cJ11_highSurrogate_5068e : ByteArray := prog_12_method_28_code
def yJ11_highSurrogate_5068e : MethodName := ⟨RJ11, "highSurrogate", "(I)C"⟩
abbrev cJ11_lowSurrogate_5068e : ByteArray := prog_12_method_29_code
def yJ11_lowSurrogate_5068e : MethodName := ⟨RJ11, "lowSurrogate", "(I)C"⟩
def RJ6 : String := "java/lang/Integer"
abbrev cJ6_bitCount_0f7a4 : ByteArray := prog_13_method_49_code
def yJ6_bitCount_0f7a4 : MethodName := ⟨RJ6, "bitCount", "(I)I"⟩
def RJ9 : String := "java/lang/Math"
abbrev cJ9_max_7cf53 : ByteArray := prog_14_method_65_code
def yJ9_max_7cf53 : MethodName := ⟨RJ9, "max", "(II)I"⟩
abbrev cJ9_min_7cf53 : ByteArray := prog_14_method_69_code
def yJ9_min_7cf53 : MethodName := ⟨RJ9, "min", "(II)I"⟩
def RJ0 : String := "java/lang/String"
abbrev cJ0_length_8abf5 : ByteArray := prog_15_method_54_code
def yJ0_length_8abf5 : MethodName := ⟨RJ0, "length", "()I"⟩
abbrev cJ0_indexOf_0f7a4 : ByteArray := prog_15_method_79_code
def yJ0_indexOf_0f7a4 : MethodName := ⟨RJ0, "indexOf", "(I)I"⟩
abbrev cJ0_indexOf_7cf53 : ByteArray := prog_15_method_80_code
def yJ0_indexOf_7cf53 : MethodName := ⟨RJ0, "indexOf", "(II)I"⟩
abbrev cJ0_coder_7d493 : ByteArray := prog_15_method_152_code
def yJ0_coder_7d493 : MethodName := ⟨RJ0, "coder", "()B"⟩
abbrev cJ0_isLatin1_aae02 : ByteArray := prog_15_method_154_code
def yJ0_isLatin1_aae02 : MethodName := ⟨RJ0, "isLatin1", "()Z"⟩
abbrev cJ0_checkBoundsBeginEnd_23922 : ByteArray := prog_15_method_158_code
def yJ0_checkBoundsBeginEnd_23922 : MethodName := ⟨RJ0, "checkBoundsBeginEnd", "(III)V"⟩
def RJ1 : String := "java/lang/StringLatin1"
abbrev cJ1_canEncode_9a6ad : ByteArray := prog_16_method_4_code
def yJ1_canEncode_9a6ad : MethodName := ⟨RJ1, "canEncode", "(I)Z"⟩
abbrev cJ1_indexOf_4cfef : ByteArray := prog_16_method_22_code
def yJ1_indexOf_4cfef : MethodName := ⟨RJ1, "indexOf", "([BIII)I"⟩
abbrev cJ1_indexOfChar_4cfef : ByteArray := prog_16_method_23_code
def yJ1_indexOfChar_4cfef : MethodName := ⟨RJ1, "indexOfChar", "([BIII)I"⟩
def RJ2 : String := "java/lang/StringUTF16"
abbrev cJ2_getChar_3b067 : ByteArray := prog_17_method_5_code
def yJ2_getChar_3b067 : MethodName := ⟨RJ2, "getChar", "([BI)C"⟩
abbrev cJ2_length_9d52b : ByteArray := prog_17_method_6_code
def yJ2_length_9d52b : MethodName := ⟨RJ2, "length", "([B)I"⟩
abbrev cJ2_indexOf_4cfef : ByteArray := prog_17_method_40_code
def yJ2_indexOf_4cfef : MethodName := ⟨RJ2, "indexOf", "([BIII)I"⟩
abbrev cJ2_indexOfChar_4cfef : ByteArray := prog_17_method_47_code
def yJ2_indexOfChar_4cfef : MethodName := ⟨RJ2, "indexOfChar", "([BIII)I"⟩
abbrev cJ2_indexOfCharUnsafe_4cfef : ByteArray := prog_17_method_48_code
def yJ2_indexOfCharUnsafe_4cfef : MethodName := ⟨RJ2, "indexOfCharUnsafe", "([BIII)I"⟩
abbrev cJ2_indexOfSupplementary_4cfef : ByteArray := prog_17_method_49_code
def yJ2_indexOfSupplementary_4cfef : MethodName := ⟨RJ2, "indexOfSupplementary", "([BIII)I"⟩
abbrev cJ2_checkBoundsBeginEnd_d044e : ByteArray := prog_17_method_93_code
def yJ2_checkBoundsBeginEnd_d044e : MethodName := ⟨RJ2, "checkBoundsBeginEnd", "(II[B)V"⟩
def RJ10 : String := "java/lang/System"
def RJ3 : String := "jdk/internal/util/Preconditions"
abbrev cJ3_checkFromToIndex_8c36e : ByteArray := prog_19_method_12_code
def yJ3_checkFromToIndex_8c36e : MethodName := ⟨RJ3, "checkFromToIndex", "(IIILjava/util/function/BiFunction;)I"⟩
def RL : String := "GateMindsLaw"
abbrev cL_law : ByteArray := code
def yL_law : MethodName := ⟨RL, "law", "([I)Z"⟩
abbrev vwCl : List vw_C := [(RX0, TX0, 7), (RX1, TX1, 5), (RX2, TX2, 15), (RX3, TX3, 2), (RX4, TX4, 6), (RX5, TX5, 3), (RX6, TX6, 6), (RX7, TX7, 2), (RX8, TX8, 9), (RX9, TX9, 23)]
end
section
theorem dX0_init_0 : decode cX0_init 0 = .ok (.aload_n 0, 1) := by decide +kernel
theorem dX0_init_1 : decode cX0_init 1 = .ok (.invokespecial 3, 3) := by decide +kernel
theorem dX0_init_4 : decode cX0_init 4 = .ok (.aload_n 0, 1) := by decide +kernel
theorem dX0_init_5 : decode cX0_init 5 = .ok (.new 9, 3) := by decide +kernel
theorem dX0_init_8 : decode cX0_init 8 = .ok (.dup, 1) := by decide +kernel
theorem dX0_init_9 : decode cX0_init 9 = .ok (.ldc 11, 2) := by decide +kernel
theorem dX0_init_11 : decode cX0_init 11 = .ok (.bipush 19, 2) := by decide +kernel
theorem dX0_init_13 : decode cX0_init 13 = .ok (.invokespecial 13, 3) := by decide +kernel
theorem dX0_init_16 : decode cX0_init 16 = .ok (.putfield 16, 3) := by decide +kernel
theorem dX0_init_19 : decode cX0_init 19 = .ok (.aload_n 0, 1) := by decide +kernel
theorem dX0_init_20 : decode cX0_init 20 = .ok (.new 9, 3) := by decide +kernel
theorem dX0_init_23 : decode cX0_init 23 = .ok (.dup, 1) := by decide +kernel
theorem dX0_init_24 : decode cX0_init 24 = .ok (.ldc 22, 2) := by decide +kernel
theorem dX0_init_26 : decode cX0_init 26 = .ok (.bipush 99, 2) := by decide +kernel
theorem dX0_init_28 : decode cX0_init 28 = .ok (.invokespecial 13, 3) := by decide +kernel
theorem dX0_init_31 : decode cX0_init 31 = .ok (.putfield 24, 3) := by decide +kernel
theorem dX0_init_34 : decode cX0_init 34 = .ok (.aload_n 0, 1) := by decide +kernel
theorem dX0_init_35 : decode cX0_init 35 = .ok (.new 27, 3) := by decide +kernel
theorem dX0_init_38 : decode cX0_init 38 = .ok (.dup, 1) := by decide +kernel
theorem dX0_init_39 : decode cX0_init 39 = .ok (.aload_n 0, 1) := by decide +kernel
theorem dX0_init_40 : decode cX0_init 40 = .ok (.getfield 16, 3) := by decide +kernel
theorem dX0_init_43 : decode cX0_init 43 = .ok (.aload_n 0, 1) := by decide +kernel
theorem dX0_init_44 : decode cX0_init 44 = .ok (.getfield 24, 3) := by decide +kernel
theorem dX0_init_47 : decode cX0_init 47 = .ok (.invokespecial 29, 3) := by decide +kernel
theorem dX0_init_50 : decode cX0_init 50 = .ok (.putfield 32, 3) := by decide +kernel
theorem dX0_init_53 : decode cX0_init 53 = .ok (.aload_n 0, 1) := by decide +kernel
theorem dX0_init_54 : decode cX0_init 54 = .ok (.new 36, 3) := by decide +kernel
theorem dX0_init_57 : decode cX0_init 57 = .ok (.dup, 1) := by decide +kernel
theorem dX0_init_58 : decode cX0_init 58 = .ok (.invokespecial 38, 3) := by decide +kernel
theorem dX0_init_61 : decode cX0_init 61 = .ok (.putfield 39, 3) := by decide +kernel
theorem dX0_init_64 : decode cX0_init 64 = .ok (.aload_n 0, 1) := by decide +kernel
theorem dX0_init_65 : decode cX0_init 65 = .ok (.bipush 24, 2) := by decide +kernel
theorem dX0_init_67 : decode cX0_init 67 = .ok (.newarray .int, 2) := by decide +kernel
theorem dX0_init_69 : decode cX0_init 69 = .ok (.putfield 43, 3) := by decide +kernel
theorem dX0_init_72 : decode cX0_init 72 = .ok (.aload_n 0, 1) := by decide +kernel
theorem dX0_init_73 : decode cX0_init 73 = .ok (.iconst 0, 1) := by decide +kernel
theorem dX0_init_74 : decode cX0_init 74 = .ok (.putfield 47, 3) := by decide +kernel
theorem dX0_init_77 : decode cX0_init 77 = .ok (.aload_n 0, 1) := by decide +kernel
theorem dX0_init_78 : decode cX0_init 78 = .ok (.iconst 1, 1) := by decide +kernel
theorem dX0_init_79 : decode cX0_init 79 = .ok (.putfield 51, 3) := by decide +kernel
theorem dX0_init_82 : decode cX0_init 82 = .ok (.return_, 1) := by decide +kernel
theorem dX0_copyOf_0 : decode cX0_copyOf 0 = .ok (.aload_n 0, 1) := by decide +kernel
theorem dX0_copyOf_1 : decode cX0_copyOf 1 = .ok (.getfield 16, 3) := by decide +kernel
theorem dX0_copyOf_4 : decode cX0_copyOf 4 = .ok (.aload_n 1, 1) := by decide +kernel
theorem dX0_copyOf_5 : decode cX0_copyOf 5 = .ok (.getfield 16, 3) := by decide +kernel
theorem dX0_copyOf_8 : decode cX0_copyOf 8 = .ok (.invokevirtual 54, 3) := by decide +kernel
theorem dX0_copyOf_11 : decode cX0_copyOf 11 = .ok (.aload_n 0, 1) := by decide +kernel
theorem dX0_copyOf_12 : decode cX0_copyOf 12 = .ok (.getfield 24, 3) := by decide +kernel
theorem dX0_copyOf_15 : decode cX0_copyOf 15 = .ok (.aload_n 1, 1) := by decide +kernel
theorem dX0_copyOf_16 : decode cX0_copyOf 16 = .ok (.getfield 24, 3) := by decide +kernel
theorem dX0_copyOf_19 : decode cX0_copyOf 19 = .ok (.invokevirtual 54, 3) := by decide +kernel
theorem dX0_copyOf_22 : decode cX0_copyOf 22 = .ok (.aload_n 0, 1) := by decide +kernel
theorem dX0_copyOf_23 : decode cX0_copyOf 23 = .ok (.getfield 32, 3) := by decide +kernel
theorem dX0_copyOf_26 : decode cX0_copyOf 26 = .ok (.aload_n 1, 1) := by decide +kernel
theorem dX0_copyOf_27 : decode cX0_copyOf 27 = .ok (.getfield 32, 3) := by decide +kernel
theorem dX0_copyOf_30 : decode cX0_copyOf 30 = .ok (.invokevirtual 58, 3) := by decide +kernel
theorem dX0_copyOf_33 : decode cX0_copyOf 33 = .ok (.aload_n 0, 1) := by decide +kernel
theorem dX0_copyOf_34 : decode cX0_copyOf 34 = .ok (.getfield 39, 3) := by decide +kernel
theorem dX0_copyOf_37 : decode cX0_copyOf 37 = .ok (.aload_n 1, 1) := by decide +kernel
theorem dX0_copyOf_38 : decode cX0_copyOf 38 = .ok (.getfield 39, 3) := by decide +kernel
theorem dX0_copyOf_41 : decode cX0_copyOf 41 = .ok (.invokevirtual 61, 3) := by decide +kernel
theorem dX0_copyOf_44 : decode cX0_copyOf 44 = .ok (.aload_n 1, 1) := by decide +kernel
theorem dX0_copyOf_45 : decode cX0_copyOf 45 = .ok (.getfield 43, 3) := by decide +kernel
theorem dX0_copyOf_48 : decode cX0_copyOf 48 = .ok (.iconst 0, 1) := by decide +kernel
theorem dX0_copyOf_49 : decode cX0_copyOf 49 = .ok (.aload_n 0, 1) := by decide +kernel
theorem dX0_copyOf_50 : decode cX0_copyOf 50 = .ok (.getfield 43, 3) := by decide +kernel
theorem dX0_copyOf_53 : decode cX0_copyOf 53 = .ok (.iconst 0, 1) := by decide +kernel
theorem dX0_copyOf_54 : decode cX0_copyOf 54 = .ok (.bipush 24, 2) := by decide +kernel
theorem dX0_copyOf_56 : decode cX0_copyOf 56 = .ok (.invokestatic 64, 3) := by decide +kernel
theorem dX0_copyOf_59 : decode cX0_copyOf 59 = .ok (.aload_n 0, 1) := by decide +kernel
theorem dX0_copyOf_60 : decode cX0_copyOf 60 = .ok (.aload_n 1, 1) := by decide +kernel
theorem dX0_copyOf_61 : decode cX0_copyOf 61 = .ok (.getfield 47, 3) := by decide +kernel
theorem dX0_copyOf_64 : decode cX0_copyOf 64 = .ok (.putfield 47, 3) := by decide +kernel
theorem dX0_copyOf_67 : decode cX0_copyOf 67 = .ok (.aload_n 0, 1) := by decide +kernel
theorem dX0_copyOf_68 : decode cX0_copyOf 68 = .ok (.aload_n 1, 1) := by decide +kernel
theorem dX0_copyOf_69 : decode cX0_copyOf 69 = .ok (.getfield 51, 3) := by decide +kernel
theorem dX0_copyOf_72 : decode cX0_copyOf 72 = .ok (.putfield 51, 3) := by decide +kernel
theorem dX0_copyOf_75 : decode cX0_copyOf 75 = .ok (.return_, 1) := by decide +kernel
theorem dX0_lawOf_0 : decode cX0_lawOf 0 = .ok (.iload_n 1, 1) := by decide +kernel
theorem dX0_lawOf_1 : decode cX0_lawOf 1 = .ok (.ifCond .ne 10, 3) := by decide +kernel
theorem dX0_lawOf_4 : decode cX0_lawOf 4 = .ok (.aload_n 0, 1) := by decide +kernel
theorem dX0_lawOf_5 : decode cX0_lawOf 5 = .ok (.getfield 16, 3) := by decide +kernel
theorem dX0_lawOf_8 : decode cX0_lawOf 8 = .ok (.goto 7, 3) := by decide +kernel
theorem dX0_lawOf_11 : decode cX0_lawOf 11 = .ok (.aload_n 0, 1) := by decide +kernel
theorem dX0_lawOf_12 : decode cX0_lawOf 12 = .ok (.getfield 24, 3) := by decide +kernel
theorem dX0_lawOf_15 : decode cX0_lawOf 15 = .ok (.areturn, 1) := by decide +kernel
theorem dX0_shuffle_0 : decode cX0_shuffle 0 = .ok (.aload_n 0, 1) := by decide +kernel
theorem dX0_shuffle_1 : decode cX0_shuffle 1 = .ok (.getfield 32, 3) := by decide +kernel
theorem dX0_shuffle_4 : decode cX0_shuffle 4 = .ok (.getfield 70, 3) := by decide +kernel
theorem dX0_shuffle_7 : decode cX0_shuffle 7 = .ok (.istore_n 1, 1) := by decide +kernel
theorem dX0_shuffle_8 : decode cX0_shuffle 8 = .ok (.aload_n 0, 1) := by decide +kernel
theorem dX0_shuffle_9 : decode cX0_shuffle 9 = .ok (.getfield 32, 3) := by decide +kernel
theorem dX0_shuffle_12 : decode cX0_shuffle 12 = .ok (.getfield 73, 3) := by decide +kernel
theorem dX0_shuffle_15 : decode cX0_shuffle 15 = .ok (.istore_n 2, 1) := by decide +kernel
theorem dX0_shuffle_16 : decode cX0_shuffle 16 = .ok (.iload_n 1, 1) := by decide +kernel
theorem dX0_shuffle_17 : decode cX0_shuffle 17 = .ok (.ifCond .le 7, 3) := by decide +kernel
theorem dX0_shuffle_20 : decode cX0_shuffle 20 = .ok (.iload_n 2, 1) := by decide +kernel
theorem dX0_shuffle_21 : decode cX0_shuffle 21 = .ok (.ifCond .gt 4, 3) := by decide +kernel
theorem dX0_shuffle_24 : decode cX0_shuffle 24 = .ok (.return_, 1) := by decide +kernel
theorem dX0_shuffle_25 : decode cX0_shuffle 25 = .ok (.aload_n 0, 1) := by decide +kernel
theorem dX0_shuffle_26 : decode cX0_shuffle 26 = .ok (.invokevirtual 76, 3) := by decide +kernel
theorem dX0_shuffle_29 : decode cX0_shuffle 29 = .ok (.iload_n 2, 1) := by decide +kernel
theorem dX0_shuffle_30 : decode cX0_shuffle 30 = .ok (.irem, 1) := by decide +kernel
theorem dX0_shuffle_31 : decode cX0_shuffle 31 = .ok (.istore_n 3, 1) := by decide +kernel
theorem dX0_shuffle_32 : decode cX0_shuffle 32 = .ok (.aload_n 0, 1) := by decide +kernel
theorem dX0_shuffle_33 : decode cX0_shuffle 33 = .ok (.invokevirtual 76, 3) := by decide +kernel
theorem dX0_shuffle_36 : decode cX0_shuffle 36 = .ok (.iload_n 1, 1) := by decide +kernel
theorem dX0_shuffle_37 : decode cX0_shuffle 37 = .ok (.irem, 1) := by decide +kernel
theorem dX0_shuffle_38 : decode cX0_shuffle 38 = .ok (.istore 4, 2) := by decide +kernel
theorem dX0_shuffle_40 : decode cX0_shuffle 40 = .ok (.aload_n 0, 1) := by decide +kernel
theorem dX0_shuffle_41 : decode cX0_shuffle 41 = .ok (.invokevirtual 76, 3) := by decide +kernel
theorem dX0_shuffle_44 : decode cX0_shuffle 44 = .ok (.iconst 4, 1) := by decide +kernel
theorem dX0_shuffle_45 : decode cX0_shuffle 45 = .ok (.irem, 1) := by decide +kernel
theorem dX0_shuffle_46 : decode cX0_shuffle 46 = .ok (.ifCond .ne 7, 3) := by decide +kernel
theorem dX0_shuffle_49 : decode cX0_shuffle 49 = .ok (.iconst 1, 1) := by decide +kernel
theorem dX0_shuffle_50 : decode cX0_shuffle 50 = .ok (.goto 4, 3) := by decide +kernel
theorem dX0_shuffle_53 : decode cX0_shuffle 53 = .ok (.iconst 0, 1) := by decide +kernel
theorem dX0_shuffle_54 : decode cX0_shuffle 54 = .ok (.istore 5, 2) := by decide +kernel
theorem dX0_shuffle_56 : decode cX0_shuffle 56 = .ok (.aload_n 0, 1) := by decide +kernel
theorem dX0_shuffle_57 : decode cX0_shuffle 57 = .ok (.getfield 32, 3) := by decide +kernel
theorem dX0_shuffle_60 : decode cX0_shuffle 60 = .ok (.iload_n 3, 1) := by decide +kernel
theorem dX0_shuffle_61 : decode cX0_shuffle 61 = .ok (.invokevirtual 80, 3) := by decide +kernel
theorem dX0_shuffle_64 : decode cX0_shuffle 64 = .ok (.ifCond .eq 23, 3) := by decide +kernel
theorem dX0_shuffle_67 : decode cX0_shuffle 67 = .ok (.aload_n 0, 1) := by decide +kernel
theorem dX0_shuffle_68 : decode cX0_shuffle 68 = .ok (.getfield 32, 3) := by decide +kernel
theorem dX0_shuffle_71 : decode cX0_shuffle 71 = .ok (.getfield 84, 3) := by decide +kernel
theorem dX0_shuffle_74 : decode cX0_shuffle 74 = .ok (.iload_n 3, 1) := by decide +kernel
theorem dX0_shuffle_75 : decode cX0_shuffle 75 = .ok (.iload 5, 2) := by decide +kernel
theorem dX0_shuffle_77 : decode cX0_shuffle 77 = .ok (.ifCond .eq 7, 3) := by decide +kernel
theorem dX0_shuffle_80 : decode cX0_shuffle 80 = .ok (.iconst (-1), 1) := by decide +kernel
theorem dX0_shuffle_81 : decode cX0_shuffle 81 = .ok (.goto 5, 3) := by decide +kernel
theorem dX0_shuffle_84 : decode cX0_shuffle 84 = .ok (.iload 4, 2) := by decide +kernel
theorem dX0_shuffle_86 : decode cX0_shuffle 86 = .ok (.iastore, 1) := by decide +kernel
theorem dX0_shuffle_87 : decode cX0_shuffle 87 = .ok (.return_, 1) := by decide +kernel
theorem dX0_nextDraw_0 : decode cX0_nextDraw 0 = .ok (.aload_n 0, 1) := by decide +kernel
theorem dX0_nextDraw_1 : decode cX0_nextDraw 1 = .ok (.aload_n 0, 1) := by decide +kernel
theorem dX0_nextDraw_2 : decode cX0_nextDraw 2 = .ok (.getfield 51, 3) := by decide +kernel
theorem dX0_nextDraw_5 : decode cX0_nextDraw 5 = .ok (.ldc 87, 2) := by decide +kernel
theorem dX0_nextDraw_7 : decode cX0_nextDraw 7 = .ok (.imul, 1) := by decide +kernel
theorem dX0_nextDraw_8 : decode cX0_nextDraw 8 = .ok (.sipush 12345, 3) := by decide +kernel
theorem dX0_nextDraw_11 : decode cX0_nextDraw 11 = .ok (.iadd, 1) := by decide +kernel
theorem dX0_nextDraw_12 : decode cX0_nextDraw 12 = .ok (.putfield 51, 3) := by decide +kernel
theorem dX0_nextDraw_15 : decode cX0_nextDraw 15 = .ok (.aload_n 0, 1) := by decide +kernel
theorem dX0_nextDraw_16 : decode cX0_nextDraw 16 = .ok (.getfield 51, 3) := by decide +kernel
theorem dX0_nextDraw_19 : decode cX0_nextDraw 19 = .ok (.bipush 8, 2) := by decide +kernel
theorem dX0_nextDraw_21 : decode cX0_nextDraw 21 = .ok (.iushr, 1) := by decide +kernel
theorem dX0_nextDraw_22 : decode cX0_nextDraw 22 = .ok (.ireturn, 1) := by decide +kernel
theorem dX0_firstWrongLoad_0 : decode cX0_firstWrongLoad 0 = .ok (.iconst 0, 1) := by decide +kernel
theorem dX0_firstWrongLoad_1 : decode cX0_firstWrongLoad 1 = .ok (.istore_n 1, 1) := by decide +kernel
theorem dX0_firstWrongLoad_2 : decode cX0_firstWrongLoad 2 = .ok (.iload_n 1, 1) := by decide +kernel
theorem dX0_firstWrongLoad_3 : decode cX0_firstWrongLoad 3 = .ok (.aload_n 0, 1) := by decide +kernel
theorem dX0_firstWrongLoad_4 : decode cX0_firstWrongLoad 4 = .ok (.getfield 47, 3) := by decide +kernel
theorem dX0_firstWrongLoad_7 : decode cX0_firstWrongLoad 7 = .ok (.if_icmp .ge 48, 3) := by decide +kernel
theorem dX0_firstWrongLoad_10 : decode cX0_firstWrongLoad 10 = .ok (.iload_n 1, 1) := by decide +kernel
theorem dX0_firstWrongLoad_11 : decode cX0_firstWrongLoad 11 = .ok (.aload_n 0, 1) := by decide +kernel
theorem dX0_firstWrongLoad_12 : decode cX0_firstWrongLoad 12 = .ok (.getfield 43, 3) := by decide +kernel
theorem dX0_firstWrongLoad_15 : decode cX0_firstWrongLoad 15 = .ok (.arraylength, 1) := by decide +kernel
theorem dX0_firstWrongLoad_16 : decode cX0_firstWrongLoad 16 = .ok (.if_icmp .ge 39, 3) := by decide +kernel
theorem dX0_firstWrongLoad_19 : decode cX0_firstWrongLoad 19 = .ok (.aload_n 0, 1) := by decide +kernel
theorem dX0_firstWrongLoad_20 : decode cX0_firstWrongLoad 20 = .ok (.getfield 32, 3) := by decide +kernel
theorem dX0_firstWrongLoad_23 : decode cX0_firstWrongLoad 23 = .ok (.iload_n 1, 1) := by decide +kernel
theorem dX0_firstWrongLoad_24 : decode cX0_firstWrongLoad 24 = .ok (.invokevirtual 88, 3) := by decide +kernel
theorem dX0_firstWrongLoad_27 : decode cX0_firstWrongLoad 27 = .ok (.ifCond .eq 20, 3) := by decide +kernel
theorem dX0_firstWrongLoad_30 : decode cX0_firstWrongLoad 30 = .ok (.aload_n 0, 1) := by decide +kernel
theorem dX0_firstWrongLoad_31 : decode cX0_firstWrongLoad 31 = .ok (.getfield 43, 3) := by decide +kernel
theorem dX0_firstWrongLoad_34 : decode cX0_firstWrongLoad 34 = .ok (.iload_n 1, 1) := by decide +kernel
theorem dX0_firstWrongLoad_35 : decode cX0_firstWrongLoad 35 = .ok (.iaload, 1) := by decide +kernel
theorem dX0_firstWrongLoad_36 : decode cX0_firstWrongLoad 36 = .ok (.aload_n 0, 1) := by decide +kernel
theorem dX0_firstWrongLoad_37 : decode cX0_firstWrongLoad 37 = .ok (.getfield 32, 3) := by decide +kernel
theorem dX0_firstWrongLoad_40 : decode cX0_firstWrongLoad 40 = .ok (.iload_n 1, 1) := by decide +kernel
theorem dX0_firstWrongLoad_41 : decode cX0_firstWrongLoad 41 = .ok (.invokevirtual 91, 3) := by decide +kernel
theorem dX0_firstWrongLoad_44 : decode cX0_firstWrongLoad 44 = .ok (.if_icmp .eq 5, 3) := by decide +kernel
theorem dX0_firstWrongLoad_47 : decode cX0_firstWrongLoad 47 = .ok (.iload_n 1, 1) := by decide +kernel
theorem dX0_firstWrongLoad_48 : decode cX0_firstWrongLoad 48 = .ok (.ireturn, 1) := by decide +kernel
theorem dX0_firstWrongLoad_49 : decode cX0_firstWrongLoad 49 = .ok (.iinc 1 1, 3) := by decide +kernel
theorem dX0_firstWrongLoad_52 : decode cX0_firstWrongLoad 52 = .ok (.goto (-50), 3) := by decide +kernel
theorem dX0_firstWrongLoad_55 : decode cX0_firstWrongLoad 55 = .ok (.iconst (-1), 1) := by decide +kernel
theorem dX0_firstWrongLoad_56 : decode cX0_firstWrongLoad 56 = .ok (.ireturn, 1) := by decide +kernel
theorem dX1_init_0 : decode cX1_init 0 = .ok (.aload_n 0, 1) := by decide +kernel
theorem dX1_init_1 : decode cX1_init 1 = .ok (.invokespecial 3, 3) := by decide +kernel
theorem dX1_init_4 : decode cX1_init 4 = .ok (.aload_n 0, 1) := by decide +kernel
theorem dX1_init_5 : decode cX1_init 5 = .ok (.aload_n 1, 1) := by decide +kernel
theorem dX1_init_6 : decode cX1_init 6 = .ok (.putfield 9, 3) := by decide +kernel
theorem dX1_init_9 : decode cX1_init 9 = .ok (.aload_n 0, 1) := by decide +kernel
theorem dX1_init_10 : decode cX1_init 10 = .ok (.iload_n 2, 1) := by decide +kernel
theorem dX1_init_11 : decode cX1_init 11 = .ok (.putfield 15, 3) := by decide +kernel
theorem dX1_init_14 : decode cX1_init 14 = .ok (.aload_n 0, 1) := by decide +kernel
theorem dX1_init_15 : decode cX1_init 15 = .ok (.bipush 60, 2) := by decide +kernel
theorem dX1_init_17 : decode cX1_init 17 = .ok (.newarray .int, 2) := by decide +kernel
theorem dX1_init_19 : decode cX1_init 19 = .ok (.putfield 19, 3) := by decide +kernel
theorem dX1_init_22 : decode cX1_init 22 = .ok (.aload_n 0, 1) := by decide +kernel
theorem dX1_init_23 : decode cX1_init 23 = .ok (.bipush 60, 2) := by decide +kernel
theorem dX1_init_25 : decode cX1_init 25 = .ok (.newarray .int, 2) := by decide +kernel
theorem dX1_init_27 : decode cX1_init 27 = .ok (.putfield 23, 3) := by decide +kernel
theorem dX1_init_30 : decode cX1_init 30 = .ok (.aload_n 0, 1) := by decide +kernel
theorem dX1_init_31 : decode cX1_init 31 = .ok (.iconst 0, 1) := by decide +kernel
theorem dX1_init_32 : decode cX1_init 32 = .ok (.putfield 26, 3) := by decide +kernel
theorem dX1_init_35 : decode cX1_init 35 = .ok (.return_, 1) := by decide +kernel
theorem dX1_copyOf_0 : decode cX1_copyOf 0 = .ok (.aload_n 0, 1) := by decide +kernel
theorem dX1_copyOf_1 : decode cX1_copyOf 1 = .ok (.aload_n 1, 1) := by decide +kernel
theorem dX1_copyOf_2 : decode cX1_copyOf 2 = .ok (.getfield 19, 3) := by decide +kernel
theorem dX1_copyOf_5 : decode cX1_copyOf 5 = .ok (.aload_n 1, 1) := by decide +kernel
theorem dX1_copyOf_6 : decode cX1_copyOf 6 = .ok (.getfield 26, 3) := by decide +kernel
theorem dX1_copyOf_9 : decode cX1_copyOf 9 = .ok (.invokevirtual 29, 3) := by decide +kernel
theorem dX1_copyOf_12 : decode cX1_copyOf 12 = .ok (.return_, 1) := by decide +kernel
theorem dX1_take_0 : decode cX1_take 0 = .ok (.iload_n 2, 1) := by decide +kernel
theorem dX1_take_1 : decode cX1_take 1 = .ok (.ifCond .lt 18, 3) := by decide +kernel
theorem dX1_take_4 : decode cX1_take 4 = .ok (.iload_n 2, 1) := by decide +kernel
theorem dX1_take_5 : decode cX1_take 5 = .ok (.aload_n 0, 1) := by decide +kernel
theorem dX1_take_6 : decode cX1_take 6 = .ok (.getfield 19, 3) := by decide +kernel
theorem dX1_take_9 : decode cX1_take 9 = .ok (.arraylength, 1) := by decide +kernel
theorem dX1_take_10 : decode cX1_take 10 = .ok (.if_icmp .gt 9, 3) := by decide +kernel
theorem dX1_take_13 : decode cX1_take 13 = .ok (.iload_n 2, 1) := by decide +kernel
theorem dX1_take_14 : decode cX1_take 14 = .ok (.aload_n 1, 1) := by decide +kernel
theorem dX1_take_15 : decode cX1_take 15 = .ok (.arraylength, 1) := by decide +kernel
theorem dX1_take_16 : decode cX1_take 16 = .ok (.if_icmp .le 4, 3) := by decide +kernel
theorem dX1_take_19 : decode cX1_take 19 = .ok (.return_, 1) := by decide +kernel
theorem dX1_take_20 : decode cX1_take 20 = .ok (.aload_n 1, 1) := by decide +kernel
theorem dX1_take_21 : decode cX1_take 21 = .ok (.iconst 0, 1) := by decide +kernel
theorem dX1_take_22 : decode cX1_take 22 = .ok (.aload_n 0, 1) := by decide +kernel
theorem dX1_take_23 : decode cX1_take 23 = .ok (.getfield 19, 3) := by decide +kernel
theorem dX1_take_26 : decode cX1_take 26 = .ok (.iconst 0, 1) := by decide +kernel
theorem dX1_take_27 : decode cX1_take 27 = .ok (.iload_n 2, 1) := by decide +kernel
theorem dX1_take_28 : decode cX1_take 28 = .ok (.invokestatic 33, 3) := by decide +kernel
theorem dX1_take_31 : decode cX1_take 31 = .ok (.aload_n 0, 1) := by decide +kernel
theorem dX1_take_32 : decode cX1_take 32 = .ok (.iload_n 2, 1) := by decide +kernel
theorem dX1_take_33 : decode cX1_take 33 = .ok (.putfield 26, 3) := by decide +kernel
theorem dX1_take_36 : decode cX1_take 36 = .ok (.return_, 1) := by decide +kernel
theorem dX1_isTold_0 : decode cX1_isTold 0 = .ok (.aload_n 0, 1) := by decide +kernel
theorem dX1_isTold_1 : decode cX1_isTold 1 = .ok (.getfield 26, 3) := by decide +kernel
theorem dX1_isTold_4 : decode cX1_isTold 4 = .ok (.ifCond .le 7, 3) := by decide +kernel
theorem dX1_isTold_7 : decode cX1_isTold 7 = .ok (.iconst 1, 1) := by decide +kernel
theorem dX1_isTold_8 : decode cX1_isTold 8 = .ok (.goto 4, 3) := by decide +kernel
theorem dX1_isTold_11 : decode cX1_isTold 11 = .ok (.iconst 0, 1) := by decide +kernel
theorem dX1_isTold_12 : decode cX1_isTold 12 = .ok (.ireturn, 1) := by decide +kernel
theorem dX1_gives_0 : decode cX1_gives 0 = .ok (.aload_n 0, 1) := by decide +kernel
theorem dX1_gives_1 : decode cX1_gives 1 = .ok (.invokevirtual 39, 3) := by decide +kernel
theorem dX1_gives_4 : decode cX1_gives 4 = .ok (.ifCond .eq 13, 3) := by decide +kernel
theorem dX1_gives_7 : decode cX1_gives 7 = .ok (.aload_n 0, 1) := by decide +kernel
theorem dX1_gives_8 : decode cX1_gives 8 = .ok (.iload_n 1, 1) := by decide +kernel
theorem dX1_gives_9 : decode cX1_gives 9 = .ok (.iload_n 2, 1) := by decide +kernel
theorem dX1_gives_10 : decode cX1_gives 10 = .ok (.iload_n 3, 1) := by decide +kernel
theorem dX1_gives_11 : decode cX1_gives 11 = .ok (.invokevirtual 43, 3) := by decide +kernel
theorem dX1_gives_14 : decode cX1_gives 14 = .ok (.goto 4, 3) := by decide +kernel
theorem dX1_gives_17 : decode cX1_gives 17 = .ok (.iload_n 1, 1) := by decide +kernel
theorem dX1_gives_18 : decode cX1_gives 18 = .ok (.istore 4, 2) := by decide +kernel
theorem dX1_gives_20 : decode cX1_gives 20 = .ok (.iconst 0, 1) := by decide +kernel
theorem dX1_gives_21 : decode cX1_gives 21 = .ok (.aload_n 0, 1) := by decide +kernel
theorem dX1_gives_22 : decode cX1_gives 22 = .ok (.getfield 15, 3) := by decide +kernel
theorem dX1_gives_25 : decode cX1_gives 25 = .ok (.iload 4, 2) := by decide +kernel
theorem dX1_gives_27 : decode cX1_gives 27 = .ok (.invokestatic 47, 3) := by decide +kernel
theorem dX1_gives_30 : decode cX1_gives 30 = .ok (.invokestatic 53, 3) := by decide +kernel
theorem dX1_gives_33 : decode cX1_gives 33 = .ok (.ireturn, 1) := by decide +kernel
theorem dX1_workedOut_0 : decode cX1_workedOut 0 = .ok (.iconst 0, 1) := by decide +kernel
theorem dX1_workedOut_1 : decode cX1_workedOut 1 = .ok (.istore 4, 2) := by decide +kernel
theorem dX1_workedOut_3 : decode cX1_workedOut 3 = .ok (.iconst 0, 1) := by decide +kernel
theorem dX1_workedOut_4 : decode cX1_workedOut 4 = .ok (.istore 5, 2) := by decide +kernel
theorem dX1_workedOut_6 : decode cX1_workedOut 6 = .ok (.iload 5, 2) := by decide +kernel
theorem dX1_workedOut_8 : decode cX1_workedOut 8 = .ok (.aload_n 0, 1) := by decide +kernel
theorem dX1_workedOut_9 : decode cX1_workedOut 9 = .ok (.getfield 26, 3) := by decide +kernel
theorem dX1_workedOut_12 : decode cX1_workedOut 12 = .ok (.if_icmp .ge 147, 3) := by decide +kernel
theorem dX1_workedOut_15 : decode cX1_workedOut 15 = .ok (.iload 5, 2) := by decide +kernel
theorem dX1_workedOut_17 : decode cX1_workedOut 17 = .ok (.aload_n 0, 1) := by decide +kernel
theorem dX1_workedOut_18 : decode cX1_workedOut 18 = .ok (.getfield 19, 3) := by decide +kernel
theorem dX1_workedOut_21 : decode cX1_workedOut 21 = .ok (.arraylength, 1) := by decide +kernel
theorem dX1_workedOut_22 : decode cX1_workedOut 22 = .ok (.if_icmp .ge 137, 3) := by decide +kernel
theorem dX1_workedOut_25 : decode cX1_workedOut 25 = .ok (.aload_n 0, 1) := by decide +kernel
theorem dX1_workedOut_26 : decode cX1_workedOut 26 = .ok (.getfield 19, 3) := by decide +kernel
theorem dX1_workedOut_29 : decode cX1_workedOut 29 = .ok (.iload 5, 2) := by decide +kernel
theorem dX1_workedOut_31 : decode cX1_workedOut 31 = .ok (.iaload, 1) := by decide +kernel
theorem dX1_workedOut_32 : decode cX1_workedOut 32 = .ok (.istore 6, 2) := by decide +kernel
theorem dX1_workedOut_34 : decode cX1_workedOut 34 = .ok (.iload 6, 2) := by decide +kernel
theorem dX1_workedOut_36 : decode cX1_workedOut 36 = .ok (.bipush (-3), 2) := by decide +kernel
theorem dX1_workedOut_38 : decode cX1_workedOut 38 = .ok (.if_icmp .lt 34, 3) := by decide +kernel
theorem dX1_workedOut_41 : decode cX1_workedOut 41 = .ok (.iload 4, 2) := by decide +kernel
theorem dX1_workedOut_43 : decode cX1_workedOut 43 = .ok (.aload_n 0, 1) := by decide +kernel
theorem dX1_workedOut_44 : decode cX1_workedOut 44 = .ok (.getfield 23, 3) := by decide +kernel
theorem dX1_workedOut_47 : decode cX1_workedOut 47 = .ok (.arraylength, 1) := by decide +kernel
theorem dX1_workedOut_48 : decode cX1_workedOut 48 = .ok (.if_icmp .ge 24, 3) := by decide +kernel
theorem dX1_workedOut_51 : decode cX1_workedOut 51 = .ok (.aload_n 0, 1) := by decide +kernel
theorem dX1_workedOut_52 : decode cX1_workedOut 52 = .ok (.getfield 23, 3) := by decide +kernel
theorem dX1_workedOut_55 : decode cX1_workedOut 55 = .ok (.iload 4, 2) := by decide +kernel
theorem dX1_workedOut_57 : decode cX1_workedOut 57 = .ok (.iload 6, 2) := by decide +kernel
theorem dX1_workedOut_59 : decode cX1_workedOut 59 = .ok (.iload_n 1, 1) := by decide +kernel
theorem dX1_workedOut_60 : decode cX1_workedOut 60 = .ok (.iload_n 2, 1) := by decide +kernel
theorem dX1_workedOut_61 : decode cX1_workedOut 61 = .ok (.iload_n 3, 1) := by decide +kernel
theorem dX1_workedOut_62 : decode cX1_workedOut 62 = .ok (.invokestatic 56, 3) := by decide +kernel
theorem dX1_workedOut_65 : decode cX1_workedOut 65 = .ok (.iastore, 1) := by decide +kernel
theorem dX1_workedOut_66 : decode cX1_workedOut 66 = .ok (.iinc 4 1, 3) := by decide +kernel
theorem dX1_workedOut_69 : decode cX1_workedOut 69 = .ok (.goto 84, 3) := by decide +kernel
theorem dX1_workedOut_72 : decode cX1_workedOut 72 = .ok (.iload 6, 2) := by decide +kernel
theorem dX1_workedOut_74 : decode cX1_workedOut 74 = .ok (.bipush (-33), 2) := by decide +kernel
theorem dX1_workedOut_76 : decode cX1_workedOut 76 = .ok (.if_icmp .ne 37, 3) := by decide +kernel
theorem dX1_workedOut_79 : decode cX1_workedOut 79 = .ok (.iload 4, 2) := by decide +kernel
theorem dX1_workedOut_81 : decode cX1_workedOut 81 = .ok (.ifCond .le 32, 3) := by decide +kernel
theorem dX1_workedOut_84 : decode cX1_workedOut 84 = .ok (.aload_n 0, 1) := by decide +kernel
theorem dX1_workedOut_85 : decode cX1_workedOut 85 = .ok (.getfield 23, 3) := by decide +kernel
theorem dX1_workedOut_88 : decode cX1_workedOut 88 = .ok (.iload 4, 2) := by decide +kernel
theorem dX1_workedOut_90 : decode cX1_workedOut 90 = .ok (.iconst 1, 1) := by decide +kernel
theorem dX1_workedOut_91 : decode cX1_workedOut 91 = .ok (.isub, 1) := by decide +kernel
theorem dX1_workedOut_92 : decode cX1_workedOut 92 = .ok (.aload_n 0, 1) := by decide +kernel
theorem dX1_workedOut_93 : decode cX1_workedOut 93 = .ok (.getfield 23, 3) := by decide +kernel
theorem dX1_workedOut_96 : decode cX1_workedOut 96 = .ok (.iload 4, 2) := by decide +kernel
theorem dX1_workedOut_98 : decode cX1_workedOut 98 = .ok (.iconst 1, 1) := by decide +kernel
theorem dX1_workedOut_99 : decode cX1_workedOut 99 = .ok (.isub, 1) := by decide +kernel
theorem dX1_workedOut_100 : decode cX1_workedOut 100 = .ok (.iaload, 1) := by decide +kernel
theorem dX1_workedOut_101 : decode cX1_workedOut 101 = .ok (.ifCond .ne 7, 3) := by decide +kernel
theorem dX1_workedOut_104 : decode cX1_workedOut 104 = .ok (.iconst 1, 1) := by decide +kernel
theorem dX1_workedOut_105 : decode cX1_workedOut 105 = .ok (.goto 4, 3) := by decide +kernel
theorem dX1_workedOut_108 : decode cX1_workedOut 108 = .ok (.iconst 0, 1) := by decide +kernel
theorem dX1_workedOut_109 : decode cX1_workedOut 109 = .ok (.iastore, 1) := by decide +kernel
theorem dX1_workedOut_110 : decode cX1_workedOut 110 = .ok (.goto 43, 3) := by decide +kernel
theorem dX1_workedOut_113 : decode cX1_workedOut 113 = .ok (.iload 4, 2) := by decide +kernel
theorem dX1_workedOut_115 : decode cX1_workedOut 115 = .ok (.iconst 1, 1) := by decide +kernel
theorem dX1_workedOut_116 : decode cX1_workedOut 116 = .ok (.if_icmp .le 37, 3) := by decide +kernel
theorem dX1_workedOut_119 : decode cX1_workedOut 119 = .ok (.iinc 4 (-1), 3) := by decide +kernel
theorem dX1_workedOut_122 : decode cX1_workedOut 122 = .ok (.aload_n 0, 1) := by decide +kernel
theorem dX1_workedOut_123 : decode cX1_workedOut 123 = .ok (.getfield 23, 3) := by decide +kernel
theorem dX1_workedOut_126 : decode cX1_workedOut 126 = .ok (.iload 4, 2) := by decide +kernel
theorem dX1_workedOut_128 : decode cX1_workedOut 128 = .ok (.iconst 1, 1) := by decide +kernel
theorem dX1_workedOut_129 : decode cX1_workedOut 129 = .ok (.isub, 1) := by decide +kernel
theorem dX1_workedOut_130 : decode cX1_workedOut 130 = .ok (.iload 6, 2) := by decide +kernel
theorem dX1_workedOut_132 : decode cX1_workedOut 132 = .ok (.ineg, 1) := by decide +kernel
theorem dX1_workedOut_133 : decode cX1_workedOut 133 = .ok (.aload_n 0, 1) := by decide +kernel
theorem dX1_workedOut_134 : decode cX1_workedOut 134 = .ok (.getfield 23, 3) := by decide +kernel
theorem dX1_workedOut_137 : decode cX1_workedOut 137 = .ok (.iload 4, 2) := by decide +kernel
theorem dX1_workedOut_139 : decode cX1_workedOut 139 = .ok (.iconst 1, 1) := by decide +kernel
theorem dX1_workedOut_140 : decode cX1_workedOut 140 = .ok (.isub, 1) := by decide +kernel
theorem dX1_workedOut_141 : decode cX1_workedOut 141 = .ok (.iaload, 1) := by decide +kernel
theorem dX1_workedOut_142 : decode cX1_workedOut 142 = .ok (.aload_n 0, 1) := by decide +kernel
theorem dX1_workedOut_143 : decode cX1_workedOut 143 = .ok (.getfield 23, 3) := by decide +kernel
theorem dX1_workedOut_146 : decode cX1_workedOut 146 = .ok (.iload 4, 2) := by decide +kernel
theorem dX1_workedOut_148 : decode cX1_workedOut 148 = .ok (.iaload, 1) := by decide +kernel
theorem dX1_workedOut_149 : decode cX1_workedOut 149 = .ok (.invokestatic 60, 3) := by decide +kernel
theorem dX1_workedOut_152 : decode cX1_workedOut 152 = .ok (.iastore, 1) := by decide +kernel
theorem dX1_workedOut_153 : decode cX1_workedOut 153 = .ok (.iinc 5 1, 3) := by decide +kernel
theorem dX1_workedOut_156 : decode cX1_workedOut 156 = .ok (.goto (-150), 3) := by decide +kernel
theorem dX1_workedOut_159 : decode cX1_workedOut 159 = .ok (.aload_n 0, 1) := by decide +kernel
theorem dX1_workedOut_160 : decode cX1_workedOut 160 = .ok (.getfield 23, 3) := by decide +kernel
theorem dX1_workedOut_163 : decode cX1_workedOut 163 = .ok (.iconst 0, 1) := by decide +kernel
theorem dX1_workedOut_164 : decode cX1_workedOut 164 = .ok (.iaload, 1) := by decide +kernel
theorem dX1_workedOut_165 : decode cX1_workedOut 165 = .ok (.ireturn, 1) := by decide +kernel
theorem dX1_meant_0 : decode cX1_meant 0 = .ok (.iload_n 0, 1) := by decide +kernel
theorem dX1_meant_1 : decode cX1_meant 1 = .ok (.tableswitch 33 (-3) (-1) #[31, 29, 27], 27) := by decide +kernel
theorem dX1_meant_28 : decode cX1_meant 28 = .ok (.iload_n 1, 1) := by decide +kernel
theorem dX1_meant_29 : decode cX1_meant 29 = .ok (.ireturn, 1) := by decide +kernel
theorem dX1_meant_30 : decode cX1_meant 30 = .ok (.iload_n 2, 1) := by decide +kernel
theorem dX1_meant_31 : decode cX1_meant 31 = .ok (.ireturn, 1) := by decide +kernel
theorem dX1_meant_32 : decode cX1_meant 32 = .ok (.iload_n 3, 1) := by decide +kernel
theorem dX1_meant_33 : decode cX1_meant 33 = .ok (.ireturn, 1) := by decide +kernel
theorem dX1_meant_34 : decode cX1_meant 34 = .ok (.iload_n 0, 1) := by decide +kernel
theorem dX1_meant_35 : decode cX1_meant 35 = .ok (.ireturn, 1) := by decide +kernel
theorem dX1_joined_0 : decode cX1_joined 0 = .ok (.iload_n 0, 1) := by decide +kernel
theorem dX1_joined_1 : decode cX1_joined 1 = .ok (.lookupswitch 188 #[(37, 176), (38, 105), (42, 160), (43, 152), (45, 156), (47, 164), (60, 119), (61, 130), (62, 141), (124, 91)], 91) := by decide +kernel
theorem dX1_joined_92 : decode cX1_joined 92 = .ok (.iload_n 1, 1) := by decide +kernel
theorem dX1_joined_93 : decode cX1_joined 93 = .ok (.ifCond .ne 7, 3) := by decide +kernel
theorem dX1_joined_96 : decode cX1_joined 96 = .ok (.iload_n 2, 1) := by decide +kernel
theorem dX1_joined_97 : decode cX1_joined 97 = .ok (.ifCond .eq 7, 3) := by decide +kernel
theorem dX1_joined_100 : decode cX1_joined 100 = .ok (.iconst 1, 1) := by decide +kernel
theorem dX1_joined_101 : decode cX1_joined 101 = .ok (.goto 4, 3) := by decide +kernel
theorem dX1_joined_104 : decode cX1_joined 104 = .ok (.iconst 0, 1) := by decide +kernel
theorem dX1_joined_105 : decode cX1_joined 105 = .ok (.ireturn, 1) := by decide +kernel
theorem dX1_joined_106 : decode cX1_joined 106 = .ok (.iload_n 1, 1) := by decide +kernel
theorem dX1_joined_107 : decode cX1_joined 107 = .ok (.ifCond .eq 11, 3) := by decide +kernel
theorem dX1_joined_110 : decode cX1_joined 110 = .ok (.iload_n 2, 1) := by decide +kernel
theorem dX1_joined_111 : decode cX1_joined 111 = .ok (.ifCond .eq 7, 3) := by decide +kernel
theorem dX1_joined_114 : decode cX1_joined 114 = .ok (.iconst 1, 1) := by decide +kernel
theorem dX1_joined_115 : decode cX1_joined 115 = .ok (.goto 4, 3) := by decide +kernel
theorem dX1_joined_118 : decode cX1_joined 118 = .ok (.iconst 0, 1) := by decide +kernel
theorem dX1_joined_119 : decode cX1_joined 119 = .ok (.ireturn, 1) := by decide +kernel
theorem dX1_joined_120 : decode cX1_joined 120 = .ok (.iload_n 1, 1) := by decide +kernel
theorem dX1_joined_121 : decode cX1_joined 121 = .ok (.iload_n 2, 1) := by decide +kernel
theorem dX1_joined_122 : decode cX1_joined 122 = .ok (.if_icmp .ge 7, 3) := by decide +kernel
theorem dX1_joined_125 : decode cX1_joined 125 = .ok (.iconst 1, 1) := by decide +kernel
theorem dX1_joined_126 : decode cX1_joined 126 = .ok (.goto 4, 3) := by decide +kernel
theorem dX1_joined_129 : decode cX1_joined 129 = .ok (.iconst 0, 1) := by decide +kernel
theorem dX1_joined_130 : decode cX1_joined 130 = .ok (.ireturn, 1) := by decide +kernel
theorem dX1_joined_131 : decode cX1_joined 131 = .ok (.iload_n 1, 1) := by decide +kernel
theorem dX1_joined_132 : decode cX1_joined 132 = .ok (.iload_n 2, 1) := by decide +kernel
theorem dX1_joined_133 : decode cX1_joined 133 = .ok (.if_icmp .ne 7, 3) := by decide +kernel
theorem dX1_joined_136 : decode cX1_joined 136 = .ok (.iconst 1, 1) := by decide +kernel
theorem dX1_joined_137 : decode cX1_joined 137 = .ok (.goto 4, 3) := by decide +kernel
theorem dX1_joined_140 : decode cX1_joined 140 = .ok (.iconst 0, 1) := by decide +kernel
theorem dX1_joined_141 : decode cX1_joined 141 = .ok (.ireturn, 1) := by decide +kernel
theorem dX1_joined_142 : decode cX1_joined 142 = .ok (.iload_n 1, 1) := by decide +kernel
theorem dX1_joined_143 : decode cX1_joined 143 = .ok (.iload_n 2, 1) := by decide +kernel
theorem dX1_joined_144 : decode cX1_joined 144 = .ok (.if_icmp .le 7, 3) := by decide +kernel
theorem dX1_joined_147 : decode cX1_joined 147 = .ok (.iconst 1, 1) := by decide +kernel
theorem dX1_joined_148 : decode cX1_joined 148 = .ok (.goto 4, 3) := by decide +kernel
theorem dX1_joined_151 : decode cX1_joined 151 = .ok (.iconst 0, 1) := by decide +kernel
theorem dX1_joined_152 : decode cX1_joined 152 = .ok (.ireturn, 1) := by decide +kernel
theorem dX1_joined_153 : decode cX1_joined 153 = .ok (.iload_n 1, 1) := by decide +kernel
theorem dX1_joined_154 : decode cX1_joined 154 = .ok (.iload_n 2, 1) := by decide +kernel
theorem dX1_joined_155 : decode cX1_joined 155 = .ok (.iadd, 1) := by decide +kernel
theorem dX1_joined_156 : decode cX1_joined 156 = .ok (.ireturn, 1) := by decide +kernel
theorem dX1_joined_157 : decode cX1_joined 157 = .ok (.iload_n 1, 1) := by decide +kernel
theorem dX1_joined_158 : decode cX1_joined 158 = .ok (.iload_n 2, 1) := by decide +kernel
theorem dX1_joined_159 : decode cX1_joined 159 = .ok (.isub, 1) := by decide +kernel
theorem dX1_joined_160 : decode cX1_joined 160 = .ok (.ireturn, 1) := by decide +kernel
theorem dX1_joined_161 : decode cX1_joined 161 = .ok (.iload_n 1, 1) := by decide +kernel
theorem dX1_joined_162 : decode cX1_joined 162 = .ok (.iload_n 2, 1) := by decide +kernel
theorem dX1_joined_163 : decode cX1_joined 163 = .ok (.imul, 1) := by decide +kernel
theorem dX1_joined_164 : decode cX1_joined 164 = .ok (.ireturn, 1) := by decide +kernel
theorem dX1_joined_165 : decode cX1_joined 165 = .ok (.iload_n 2, 1) := by decide +kernel
theorem dX1_joined_166 : decode cX1_joined 166 = .ok (.ifCond .ne 7, 3) := by decide +kernel
theorem dX1_joined_169 : decode cX1_joined 169 = .ok (.iconst 0, 1) := by decide +kernel
theorem dX1_joined_170 : decode cX1_joined 170 = .ok (.goto 6, 3) := by decide +kernel
theorem dX1_joined_173 : decode cX1_joined 173 = .ok (.iload_n 1, 1) := by decide +kernel
theorem dX1_joined_174 : decode cX1_joined 174 = .ok (.iload_n 2, 1) := by decide +kernel
theorem dX1_joined_175 : decode cX1_joined 175 = .ok (.idiv, 1) := by decide +kernel
theorem dX1_joined_176 : decode cX1_joined 176 = .ok (.ireturn, 1) := by decide +kernel
theorem dX1_joined_177 : decode cX1_joined 177 = .ok (.iload_n 2, 1) := by decide +kernel
theorem dX1_joined_178 : decode cX1_joined 178 = .ok (.ifCond .ne 7, 3) := by decide +kernel
theorem dX1_joined_181 : decode cX1_joined 181 = .ok (.iconst 0, 1) := by decide +kernel
theorem dX1_joined_182 : decode cX1_joined 182 = .ok (.goto 6, 3) := by decide +kernel
theorem dX1_joined_185 : decode cX1_joined 185 = .ok (.iload_n 1, 1) := by decide +kernel
theorem dX1_joined_186 : decode cX1_joined 186 = .ok (.iload_n 2, 1) := by decide +kernel
theorem dX1_joined_187 : decode cX1_joined 187 = .ok (.irem, 1) := by decide +kernel
theorem dX1_joined_188 : decode cX1_joined 188 = .ok (.ireturn, 1) := by decide +kernel
theorem dX1_joined_189 : decode cX1_joined 189 = .ok (.iconst 0, 1) := by decide +kernel
theorem dX1_joined_190 : decode cX1_joined 190 = .ok (.ireturn, 1) := by decide +kernel
theorem dX2_init_0 : decode cX2_init 0 = .ok (.aload_n 0, 1) := by decide +kernel
theorem dX2_init_1 : decode cX2_init 1 = .ok (.invokespecial 3, 3) := by decide +kernel
theorem dX2_init_4 : decode cX2_init 4 = .ok (.aload_n 0, 1) := by decide +kernel
theorem dX2_init_5 : decode cX2_init 5 = .ok (.aload_n 1, 1) := by decide +kernel
theorem dX2_init_6 : decode cX2_init 6 = .ok (.putfield 9, 3) := by decide +kernel
theorem dX2_init_9 : decode cX2_init 9 = .ok (.aload_n 0, 1) := by decide +kernel
theorem dX2_init_10 : decode cX2_init 10 = .ok (.aload_n 2, 1) := by decide +kernel
theorem dX2_init_11 : decode cX2_init 11 = .ok (.putfield 15, 3) := by decide +kernel
theorem dX2_init_14 : decode cX2_init 14 = .ok (.aload_n 0, 1) := by decide +kernel
theorem dX2_init_15 : decode cX2_init 15 = .ok (.bipush 6, 2) := by decide +kernel
theorem dX2_init_17 : decode cX2_init 17 = .ok (.newarray .int, 2) := by decide +kernel
theorem dX2_init_19 : decode cX2_init 19 = .ok (.putfield 18, 3) := by decide +kernel
theorem dX2_init_22 : decode cX2_init 22 = .ok (.aload_n 0, 1) := by decide +kernel
theorem dX2_init_23 : decode cX2_init 23 = .ok (.bipush 6, 2) := by decide +kernel
theorem dX2_init_25 : decode cX2_init 25 = .ok (.newarray .int, 2) := by decide +kernel
theorem dX2_init_27 : decode cX2_init 27 = .ok (.putfield 22, 3) := by decide +kernel
theorem dX2_init_30 : decode cX2_init 30 = .ok (.aload_n 0, 1) := by decide +kernel
theorem dX2_init_31 : decode cX2_init 31 = .ok (.bipush 9, 2) := by decide +kernel
theorem dX2_init_33 : decode cX2_init 33 = .ok (.newarray .int, 2) := by decide +kernel
theorem dX2_init_35 : decode cX2_init 35 = .ok (.putfield 25, 3) := by decide +kernel
theorem dX2_init_38 : decode cX2_init 38 = .ok (.aload_n 0, 1) := by decide +kernel
theorem dX2_init_39 : decode cX2_init 39 = .ok (.bipush 9, 2) := by decide +kernel
theorem dX2_init_41 : decode cX2_init 41 = .ok (.newarray .int, 2) := by decide +kernel
theorem dX2_init_43 : decode cX2_init 43 = .ok (.putfield 28, 3) := by decide +kernel
theorem dX2_init_46 : decode cX2_init 46 = .ok (.aload_n 0, 1) := by decide +kernel
theorem dX2_init_47 : decode cX2_init 47 = .ok (.bipush 9, 2) := by decide +kernel
theorem dX2_init_49 : decode cX2_init 49 = .ok (.newarray .int, 2) := by decide +kernel
theorem dX2_init_51 : decode cX2_init 51 = .ok (.putfield 31, 3) := by decide +kernel
theorem dX2_init_54 : decode cX2_init 54 = .ok (.aload_n 0, 1) := by decide +kernel
theorem dX2_init_55 : decode cX2_init 55 = .ok (.bipush 9, 2) := by decide +kernel
theorem dX2_init_57 : decode cX2_init 57 = .ok (.newarray .int, 2) := by decide +kernel
theorem dX2_init_59 : decode cX2_init 59 = .ok (.putfield 34, 3) := by decide +kernel
theorem dX2_init_62 : decode cX2_init 62 = .ok (.aload_n 0, 1) := by decide +kernel
theorem dX2_init_63 : decode cX2_init 63 = .ok (.bipush 6, 2) := by decide +kernel
theorem dX2_init_65 : decode cX2_init 65 = .ok (.newarray .int, 2) := by decide +kernel
theorem dX2_init_67 : decode cX2_init 67 = .ok (.putfield 37, 3) := by decide +kernel
theorem dX2_init_70 : decode cX2_init 70 = .ok (.aload_n 0, 1) := by decide +kernel
theorem dX2_init_71 : decode cX2_init 71 = .ok (.bipush 7, 2) := by decide +kernel
theorem dX2_init_73 : decode cX2_init 73 = .ok (.newarray .int, 2) := by decide +kernel
theorem dX2_init_75 : decode cX2_init 75 = .ok (.putfield 40, 3) := by decide +kernel
theorem dX2_init_78 : decode cX2_init 78 = .ok (.iconst 0, 1) := by decide +kernel
theorem dX2_init_79 : decode cX2_init 79 = .ok (.istore_n 3, 1) := by decide +kernel
theorem dX2_init_80 : decode cX2_init 80 = .ok (.iload_n 3, 1) := by decide +kernel
theorem dX2_init_81 : decode cX2_init 81 = .ok (.bipush 7, 2) := by decide +kernel
theorem dX2_init_83 : decode cX2_init 83 = .ok (.if_icmp .ge 17, 3) := by decide +kernel
theorem dX2_init_86 : decode cX2_init 86 = .ok (.aload_n 0, 1) := by decide +kernel
theorem dX2_init_87 : decode cX2_init 87 = .ok (.getfield 40, 3) := by decide +kernel
theorem dX2_init_90 : decode cX2_init 90 = .ok (.iload_n 3, 1) := by decide +kernel
theorem dX2_init_91 : decode cX2_init 91 = .ok (.bipush 20, 2) := by decide +kernel
theorem dX2_init_93 : decode cX2_init 93 = .ok (.iastore, 1) := by decide +kernel
theorem dX2_init_94 : decode cX2_init 94 = .ok (.iinc 3 1, 3) := by decide +kernel
theorem dX2_init_97 : decode cX2_init 97 = .ok (.goto (-17), 3) := by decide +kernel
theorem dX2_init_100 : decode cX2_init 100 = .ok (.return_, 1) := by decide +kernel
theorem dX2_copyOf_0 : decode cX2_copyOf 0 = .ok (.aload_n 1, 1) := by decide +kernel
theorem dX2_copyOf_1 : decode cX2_copyOf 1 = .ok (.getfield 18, 3) := by decide +kernel
theorem dX2_copyOf_4 : decode cX2_copyOf 4 = .ok (.iconst 0, 1) := by decide +kernel
theorem dX2_copyOf_5 : decode cX2_copyOf 5 = .ok (.aload_n 0, 1) := by decide +kernel
theorem dX2_copyOf_6 : decode cX2_copyOf 6 = .ok (.getfield 18, 3) := by decide +kernel
theorem dX2_copyOf_9 : decode cX2_copyOf 9 = .ok (.iconst 0, 1) := by decide +kernel
theorem dX2_copyOf_10 : decode cX2_copyOf 10 = .ok (.bipush 6, 2) := by decide +kernel
theorem dX2_copyOf_12 : decode cX2_copyOf 12 = .ok (.invokestatic 43, 3) := by decide +kernel
theorem dX2_copyOf_15 : decode cX2_copyOf 15 = .ok (.aload_n 1, 1) := by decide +kernel
theorem dX2_copyOf_16 : decode cX2_copyOf 16 = .ok (.getfield 22, 3) := by decide +kernel
theorem dX2_copyOf_19 : decode cX2_copyOf 19 = .ok (.iconst 0, 1) := by decide +kernel
theorem dX2_copyOf_20 : decode cX2_copyOf 20 = .ok (.aload_n 0, 1) := by decide +kernel
theorem dX2_copyOf_21 : decode cX2_copyOf 21 = .ok (.getfield 22, 3) := by decide +kernel
theorem dX2_copyOf_24 : decode cX2_copyOf 24 = .ok (.iconst 0, 1) := by decide +kernel
theorem dX2_copyOf_25 : decode cX2_copyOf 25 = .ok (.bipush 6, 2) := by decide +kernel
theorem dX2_copyOf_27 : decode cX2_copyOf 27 = .ok (.invokestatic 43, 3) := by decide +kernel
theorem dX2_copyOf_30 : decode cX2_copyOf 30 = .ok (.aload_n 1, 1) := by decide +kernel
theorem dX2_copyOf_31 : decode cX2_copyOf 31 = .ok (.getfield 25, 3) := by decide +kernel
theorem dX2_copyOf_34 : decode cX2_copyOf 34 = .ok (.iconst 0, 1) := by decide +kernel
theorem dX2_copyOf_35 : decode cX2_copyOf 35 = .ok (.aload_n 0, 1) := by decide +kernel
theorem dX2_copyOf_36 : decode cX2_copyOf 36 = .ok (.getfield 25, 3) := by decide +kernel
theorem dX2_copyOf_39 : decode cX2_copyOf 39 = .ok (.iconst 0, 1) := by decide +kernel
theorem dX2_copyOf_40 : decode cX2_copyOf 40 = .ok (.bipush 9, 2) := by decide +kernel
theorem dX2_copyOf_42 : decode cX2_copyOf 42 = .ok (.invokestatic 43, 3) := by decide +kernel
theorem dX2_copyOf_45 : decode cX2_copyOf 45 = .ok (.aload_n 1, 1) := by decide +kernel
theorem dX2_copyOf_46 : decode cX2_copyOf 46 = .ok (.getfield 28, 3) := by decide +kernel
theorem dX2_copyOf_49 : decode cX2_copyOf 49 = .ok (.iconst 0, 1) := by decide +kernel
theorem dX2_copyOf_50 : decode cX2_copyOf 50 = .ok (.aload_n 0, 1) := by decide +kernel
theorem dX2_copyOf_51 : decode cX2_copyOf 51 = .ok (.getfield 28, 3) := by decide +kernel
theorem dX2_copyOf_54 : decode cX2_copyOf 54 = .ok (.iconst 0, 1) := by decide +kernel
theorem dX2_copyOf_55 : decode cX2_copyOf 55 = .ok (.bipush 9, 2) := by decide +kernel
theorem dX2_copyOf_57 : decode cX2_copyOf 57 = .ok (.invokestatic 43, 3) := by decide +kernel
theorem dX2_copyOf_60 : decode cX2_copyOf 60 = .ok (.aload_n 1, 1) := by decide +kernel
theorem dX2_copyOf_61 : decode cX2_copyOf 61 = .ok (.getfield 31, 3) := by decide +kernel
theorem dX2_copyOf_64 : decode cX2_copyOf 64 = .ok (.iconst 0, 1) := by decide +kernel
theorem dX2_copyOf_65 : decode cX2_copyOf 65 = .ok (.aload_n 0, 1) := by decide +kernel
theorem dX2_copyOf_66 : decode cX2_copyOf 66 = .ok (.getfield 31, 3) := by decide +kernel
theorem dX2_copyOf_69 : decode cX2_copyOf 69 = .ok (.iconst 0, 1) := by decide +kernel
theorem dX2_copyOf_70 : decode cX2_copyOf 70 = .ok (.bipush 9, 2) := by decide +kernel
theorem dX2_copyOf_72 : decode cX2_copyOf 72 = .ok (.invokestatic 43, 3) := by decide +kernel
theorem dX2_copyOf_75 : decode cX2_copyOf 75 = .ok (.aload_n 1, 1) := by decide +kernel
theorem dX2_copyOf_76 : decode cX2_copyOf 76 = .ok (.getfield 34, 3) := by decide +kernel
theorem dX2_copyOf_79 : decode cX2_copyOf 79 = .ok (.iconst 0, 1) := by decide +kernel
theorem dX2_copyOf_80 : decode cX2_copyOf 80 = .ok (.aload_n 0, 1) := by decide +kernel
theorem dX2_copyOf_81 : decode cX2_copyOf 81 = .ok (.getfield 34, 3) := by decide +kernel
theorem dX2_copyOf_84 : decode cX2_copyOf 84 = .ok (.iconst 0, 1) := by decide +kernel
theorem dX2_copyOf_85 : decode cX2_copyOf 85 = .ok (.bipush 9, 2) := by decide +kernel
theorem dX2_copyOf_87 : decode cX2_copyOf 87 = .ok (.invokestatic 43, 3) := by decide +kernel
theorem dX2_copyOf_90 : decode cX2_copyOf 90 = .ok (.aload_n 1, 1) := by decide +kernel
theorem dX2_copyOf_91 : decode cX2_copyOf 91 = .ok (.getfield 37, 3) := by decide +kernel
theorem dX2_copyOf_94 : decode cX2_copyOf 94 = .ok (.iconst 0, 1) := by decide +kernel
theorem dX2_copyOf_95 : decode cX2_copyOf 95 = .ok (.aload_n 0, 1) := by decide +kernel
theorem dX2_copyOf_96 : decode cX2_copyOf 96 = .ok (.getfield 37, 3) := by decide +kernel
theorem dX2_copyOf_99 : decode cX2_copyOf 99 = .ok (.iconst 0, 1) := by decide +kernel
theorem dX2_copyOf_100 : decode cX2_copyOf 100 = .ok (.bipush 6, 2) := by decide +kernel
theorem dX2_copyOf_102 : decode cX2_copyOf 102 = .ok (.invokestatic 43, 3) := by decide +kernel
theorem dX2_copyOf_105 : decode cX2_copyOf 105 = .ok (.aload_n 1, 1) := by decide +kernel
theorem dX2_copyOf_106 : decode cX2_copyOf 106 = .ok (.getfield 40, 3) := by decide +kernel
theorem dX2_copyOf_109 : decode cX2_copyOf 109 = .ok (.iconst 0, 1) := by decide +kernel
theorem dX2_copyOf_110 : decode cX2_copyOf 110 = .ok (.aload_n 0, 1) := by decide +kernel
theorem dX2_copyOf_111 : decode cX2_copyOf 111 = .ok (.getfield 40, 3) := by decide +kernel
theorem dX2_copyOf_114 : decode cX2_copyOf 114 = .ok (.iconst 0, 1) := by decide +kernel
theorem dX2_copyOf_115 : decode cX2_copyOf 115 = .ok (.bipush 7, 2) := by decide +kernel
theorem dX2_copyOf_117 : decode cX2_copyOf 117 = .ok (.invokestatic 43, 3) := by decide +kernel
theorem dX2_copyOf_120 : decode cX2_copyOf 120 = .ok (.aload_n 0, 1) := by decide +kernel
theorem dX2_copyOf_121 : decode cX2_copyOf 121 = .ok (.aload_n 1, 1) := by decide +kernel
theorem dX2_copyOf_122 : decode cX2_copyOf 122 = .ok (.getfield 49, 3) := by decide +kernel
theorem dX2_copyOf_125 : decode cX2_copyOf 125 = .ok (.putfield 49, 3) := by decide +kernel
theorem dX2_copyOf_128 : decode cX2_copyOf 128 = .ok (.aload_n 0, 1) := by decide +kernel
theorem dX2_copyOf_129 : decode cX2_copyOf 129 = .ok (.aload_n 1, 1) := by decide +kernel
theorem dX2_copyOf_130 : decode cX2_copyOf 130 = .ok (.getfield 53, 3) := by decide +kernel
theorem dX2_copyOf_133 : decode cX2_copyOf 133 = .ok (.putfield 53, 3) := by decide +kernel
theorem dX2_copyOf_136 : decode cX2_copyOf 136 = .ok (.aload_n 0, 1) := by decide +kernel
theorem dX2_copyOf_137 : decode cX2_copyOf 137 = .ok (.aload_n 1, 1) := by decide +kernel
theorem dX2_copyOf_138 : decode cX2_copyOf 138 = .ok (.getfield 56, 3) := by decide +kernel
theorem dX2_copyOf_141 : decode cX2_copyOf 141 = .ok (.putfield 56, 3) := by decide +kernel
theorem dX2_copyOf_144 : decode cX2_copyOf 144 = .ok (.aload_n 0, 1) := by decide +kernel
theorem dX2_copyOf_145 : decode cX2_copyOf 145 = .ok (.aload_n 1, 1) := by decide +kernel
theorem dX2_copyOf_146 : decode cX2_copyOf 146 = .ok (.getfield 59, 3) := by decide +kernel
theorem dX2_copyOf_149 : decode cX2_copyOf 149 = .ok (.putfield 59, 3) := by decide +kernel
theorem dX2_copyOf_152 : decode cX2_copyOf 152 = .ok (.aload_n 0, 1) := by decide +kernel
theorem dX2_copyOf_153 : decode cX2_copyOf 153 = .ok (.aload_n 1, 1) := by decide +kernel
theorem dX2_copyOf_154 : decode cX2_copyOf 154 = .ok (.getfield 62, 3) := by decide +kernel
theorem dX2_copyOf_157 : decode cX2_copyOf 157 = .ok (.putfield 62, 3) := by decide +kernel
theorem dX2_copyOf_160 : decode cX2_copyOf 160 = .ok (.return_, 1) := by decide +kernel
theorem dX2_isOne_0 : decode cX2_isOne 0 = .ok (.iload_n 1, 1) := by decide +kernel
theorem dX2_isOne_1 : decode cX2_isOne 1 = .ok (.ifCond .lt 21, 3) := by decide +kernel
theorem dX2_isOne_4 : decode cX2_isOne 4 = .ok (.iload_n 1, 1) := by decide +kernel
theorem dX2_isOne_5 : decode cX2_isOne 5 = .ok (.aload_n 0, 1) := by decide +kernel
theorem dX2_isOne_6 : decode cX2_isOne 6 = .ok (.getfield 49, 3) := by decide +kernel
theorem dX2_isOne_9 : decode cX2_isOne 9 = .ok (.if_icmp .ge 13, 3) := by decide +kernel
theorem dX2_isOne_12 : decode cX2_isOne 12 = .ok (.iload_n 1, 1) := by decide +kernel
theorem dX2_isOne_13 : decode cX2_isOne 13 = .ok (.bipush 6, 2) := by decide +kernel
theorem dX2_isOne_15 : decode cX2_isOne 15 = .ok (.if_icmp .ge 7, 3) := by decide +kernel
theorem dX2_isOne_18 : decode cX2_isOne 18 = .ok (.iconst 1, 1) := by decide +kernel
theorem dX2_isOne_19 : decode cX2_isOne 19 = .ok (.goto 4, 3) := by decide +kernel
theorem dX2_isOne_22 : decode cX2_isOne 22 = .ok (.iconst 0, 1) := by decide +kernel
theorem dX2_isOne_23 : decode cX2_isOne 23 = .ok (.ireturn, 1) := by decide +kernel
theorem dX2_isHolder_0 : decode cX2_isHolder 0 = .ok (.iload_n 1, 1) := by decide +kernel
theorem dX2_isHolder_1 : decode cX2_isHolder 1 = .ok (.iconst (-1), 1) := by decide +kernel
theorem dX2_isHolder_2 : decode cX2_isHolder 2 = .ok (.if_icmp .eq 11, 3) := by decide +kernel
theorem dX2_isHolder_5 : decode cX2_isHolder 5 = .ok (.aload_n 0, 1) := by decide +kernel
theorem dX2_isHolder_6 : decode cX2_isHolder 6 = .ok (.iload_n 1, 1) := by decide +kernel
theorem dX2_isHolder_7 : decode cX2_isHolder 7 = .ok (.invokevirtual 65, 3) := by decide +kernel
theorem dX2_isHolder_10 : decode cX2_isHolder 10 = .ok (.ifCond .eq 7, 3) := by decide +kernel
theorem dX2_isHolder_13 : decode cX2_isHolder 13 = .ok (.iconst 1, 1) := by decide +kernel
theorem dX2_isHolder_14 : decode cX2_isHolder 14 = .ok (.goto 4, 3) := by decide +kernel
theorem dX2_isHolder_17 : decode cX2_isHolder 17 = .ok (.iconst 0, 1) := by decide +kernel
theorem dX2_isHolder_18 : decode cX2_isHolder 18 = .ok (.ireturn, 1) := by decide +kernel
theorem dX2_isGate_0 : decode cX2_isGate 0 = .ok (.iload_n 1, 1) := by decide +kernel
theorem dX2_isGate_1 : decode cX2_isGate 1 = .ok (.ifCond .lt 21, 3) := by decide +kernel
theorem dX2_isGate_4 : decode cX2_isGate 4 = .ok (.iload_n 1, 1) := by decide +kernel
theorem dX2_isGate_5 : decode cX2_isGate 5 = .ok (.aload_n 0, 1) := by decide +kernel
theorem dX2_isGate_6 : decode cX2_isGate 6 = .ok (.getfield 53, 3) := by decide +kernel
theorem dX2_isGate_9 : decode cX2_isGate 9 = .ok (.if_icmp .ge 13, 3) := by decide +kernel
theorem dX2_isGate_12 : decode cX2_isGate 12 = .ok (.iload_n 1, 1) := by decide +kernel
theorem dX2_isGate_13 : decode cX2_isGate 13 = .ok (.bipush 9, 2) := by decide +kernel
theorem dX2_isGate_15 : decode cX2_isGate 15 = .ok (.if_icmp .ge 7, 3) := by decide +kernel
theorem dX2_isGate_18 : decode cX2_isGate 18 = .ok (.iconst 1, 1) := by decide +kernel
theorem dX2_isGate_19 : decode cX2_isGate 19 = .ok (.goto 4, 3) := by decide +kernel
theorem dX2_isGate_22 : decode cX2_isGate 22 = .ok (.iconst 0, 1) := by decide +kernel
theorem dX2_isGate_23 : decode cX2_isGate 23 = .ok (.ireturn, 1) := by decide +kernel
theorem dX2_addOne_0 : decode cX2_addOne 0 = .ok (.aload_n 0, 1) := by decide +kernel
theorem dX2_addOne_1 : decode cX2_addOne 1 = .ok (.getfield 49, 3) := by decide +kernel
theorem dX2_addOne_4 : decode cX2_addOne 4 = .ok (.bipush 6, 2) := by decide +kernel
theorem dX2_addOne_6 : decode cX2_addOne 6 = .ok (.if_icmp .lt 5, 3) := by decide +kernel
theorem dX2_addOne_9 : decode cX2_addOne 9 = .ok (.iconst (-1), 1) := by decide +kernel
theorem dX2_addOne_10 : decode cX2_addOne 10 = .ok (.ireturn, 1) := by decide +kernel
theorem dX2_addOne_11 : decode cX2_addOne 11 = .ok (.aload_n 0, 1) := by decide +kernel
theorem dX2_addOne_12 : decode cX2_addOne 12 = .ok (.getfield 18, 3) := by decide +kernel
theorem dX2_addOne_15 : decode cX2_addOne 15 = .ok (.aload_n 0, 1) := by decide +kernel
theorem dX2_addOne_16 : decode cX2_addOne 16 = .ok (.getfield 49, 3) := by decide +kernel
theorem dX2_addOne_19 : decode cX2_addOne 19 = .ok (.iload_n 1, 1) := by decide +kernel
theorem dX2_addOne_20 : decode cX2_addOne 20 = .ok (.iastore, 1) := by decide +kernel
theorem dX2_addOne_21 : decode cX2_addOne 21 = .ok (.aload_n 0, 1) := by decide +kernel
theorem dX2_addOne_22 : decode cX2_addOne 22 = .ok (.getfield 22, 3) := by decide +kernel
theorem dX2_addOne_25 : decode cX2_addOne 25 = .ok (.aload_n 0, 1) := by decide +kernel
theorem dX2_addOne_26 : decode cX2_addOne 26 = .ok (.getfield 49, 3) := by decide +kernel
theorem dX2_addOne_29 : decode cX2_addOne 29 = .ok (.iload_n 2, 1) := by decide +kernel
theorem dX2_addOne_30 : decode cX2_addOne 30 = .ok (.iastore, 1) := by decide +kernel
theorem dX2_addOne_31 : decode cX2_addOne 31 = .ok (.aload_n 0, 1) := by decide +kernel
theorem dX2_addOne_32 : decode cX2_addOne 32 = .ok (.dup, 1) := by decide +kernel
theorem dX2_addOne_33 : decode cX2_addOne 33 = .ok (.getfield 49, 3) := by decide +kernel
theorem dX2_addOne_36 : decode cX2_addOne 36 = .ok (.iconst 1, 1) := by decide +kernel
theorem dX2_addOne_37 : decode cX2_addOne 37 = .ok (.iadd, 1) := by decide +kernel
theorem dX2_addOne_38 : decode cX2_addOne 38 = .ok (.putfield 49, 3) := by decide +kernel
theorem dX2_addOne_41 : decode cX2_addOne 41 = .ok (.aload_n 0, 1) := by decide +kernel
theorem dX2_addOne_42 : decode cX2_addOne 42 = .ok (.getfield 49, 3) := by decide +kernel
theorem dX2_addOne_45 : decode cX2_addOne 45 = .ok (.iconst 1, 1) := by decide +kernel
theorem dX2_addOne_46 : decode cX2_addOne 46 = .ok (.isub, 1) := by decide +kernel
theorem dX2_addOne_47 : decode cX2_addOne 47 = .ok (.ireturn, 1) := by decide +kernel
theorem dX2_addGate_0 : decode cX2_addGate 0 = .ok (.aload_n 0, 1) := by decide +kernel
theorem dX2_addGate_1 : decode cX2_addGate 1 = .ok (.getfield 53, 3) := by decide +kernel
theorem dX2_addGate_4 : decode cX2_addGate 4 = .ok (.bipush 9, 2) := by decide +kernel
theorem dX2_addGate_6 : decode cX2_addGate 6 = .ok (.if_icmp .lt 5, 3) := by decide +kernel
theorem dX2_addGate_9 : decode cX2_addGate 9 = .ok (.iconst (-1), 1) := by decide +kernel
theorem dX2_addGate_10 : decode cX2_addGate 10 = .ok (.ireturn, 1) := by decide +kernel
theorem dX2_addGate_11 : decode cX2_addGate 11 = .ok (.aload_n 0, 1) := by decide +kernel
theorem dX2_addGate_12 : decode cX2_addGate 12 = .ok (.getfield 25, 3) := by decide +kernel
theorem dX2_addGate_15 : decode cX2_addGate 15 = .ok (.aload_n 0, 1) := by decide +kernel
theorem dX2_addGate_16 : decode cX2_addGate 16 = .ok (.getfield 53, 3) := by decide +kernel
theorem dX2_addGate_19 : decode cX2_addGate 19 = .ok (.iload_n 1, 1) := by decide +kernel
theorem dX2_addGate_20 : decode cX2_addGate 20 = .ok (.iastore, 1) := by decide +kernel
theorem dX2_addGate_21 : decode cX2_addGate 21 = .ok (.aload_n 0, 1) := by decide +kernel
theorem dX2_addGate_22 : decode cX2_addGate 22 = .ok (.getfield 28, 3) := by decide +kernel
theorem dX2_addGate_25 : decode cX2_addGate 25 = .ok (.aload_n 0, 1) := by decide +kernel
theorem dX2_addGate_26 : decode cX2_addGate 26 = .ok (.getfield 53, 3) := by decide +kernel
theorem dX2_addGate_29 : decode cX2_addGate 29 = .ok (.iload_n 2, 1) := by decide +kernel
theorem dX2_addGate_30 : decode cX2_addGate 30 = .ok (.iastore, 1) := by decide +kernel
theorem dX2_addGate_31 : decode cX2_addGate 31 = .ok (.aload_n 0, 1) := by decide +kernel
theorem dX2_addGate_32 : decode cX2_addGate 32 = .ok (.getfield 31, 3) := by decide +kernel
theorem dX2_addGate_35 : decode cX2_addGate 35 = .ok (.aload_n 0, 1) := by decide +kernel
theorem dX2_addGate_36 : decode cX2_addGate 36 = .ok (.getfield 53, 3) := by decide +kernel
theorem dX2_addGate_39 : decode cX2_addGate 39 = .ok (.iload_n 3, 1) := by decide +kernel
theorem dX2_addGate_40 : decode cX2_addGate 40 = .ok (.iastore, 1) := by decide +kernel
theorem dX2_addGate_41 : decode cX2_addGate 41 = .ok (.aload_n 0, 1) := by decide +kernel
theorem dX2_addGate_42 : decode cX2_addGate 42 = .ok (.getfield 34, 3) := by decide +kernel
theorem dX2_addGate_45 : decode cX2_addGate 45 = .ok (.aload_n 0, 1) := by decide +kernel
theorem dX2_addGate_46 : decode cX2_addGate 46 = .ok (.getfield 53, 3) := by decide +kernel
theorem dX2_addGate_49 : decode cX2_addGate 49 = .ok (.iconst (-1), 1) := by decide +kernel
theorem dX2_addGate_50 : decode cX2_addGate 50 = .ok (.iastore, 1) := by decide +kernel
theorem dX2_addGate_51 : decode cX2_addGate 51 = .ok (.aload_n 0, 1) := by decide +kernel
theorem dX2_addGate_52 : decode cX2_addGate 52 = .ok (.dup, 1) := by decide +kernel
theorem dX2_addGate_53 : decode cX2_addGate 53 = .ok (.getfield 53, 3) := by decide +kernel
theorem dX2_addGate_56 : decode cX2_addGate 56 = .ok (.iconst 1, 1) := by decide +kernel
theorem dX2_addGate_57 : decode cX2_addGate 57 = .ok (.iadd, 1) := by decide +kernel
theorem dX2_addGate_58 : decode cX2_addGate 58 = .ok (.putfield 53, 3) := by decide +kernel
theorem dX2_addGate_61 : decode cX2_addGate 61 = .ok (.aload_n 0, 1) := by decide +kernel
theorem dX2_addGate_62 : decode cX2_addGate 62 = .ok (.getfield 53, 3) := by decide +kernel
theorem dX2_addGate_65 : decode cX2_addGate 65 = .ok (.iconst 1, 1) := by decide +kernel
theorem dX2_addGate_66 : decode cX2_addGate 66 = .ok (.isub, 1) := by decide +kernel
theorem dX2_addGate_67 : decode cX2_addGate 67 = .ok (.ireturn, 1) := by decide +kernel
theorem dX2_addBeast_0 : decode cX2_addBeast 0 = .ok (.aload_n 0, 1) := by decide +kernel
theorem dX2_addBeast_1 : decode cX2_addBeast 1 = .ok (.getfield 56, 3) := by decide +kernel
theorem dX2_addBeast_4 : decode cX2_addBeast 4 = .ok (.bipush 6, 2) := by decide +kernel
theorem dX2_addBeast_6 : decode cX2_addBeast 6 = .ok (.if_icmp .lt 5, 3) := by decide +kernel
theorem dX2_addBeast_9 : decode cX2_addBeast 9 = .ok (.iconst (-1), 1) := by decide +kernel
theorem dX2_addBeast_10 : decode cX2_addBeast 10 = .ok (.ireturn, 1) := by decide +kernel
theorem dX2_addBeast_11 : decode cX2_addBeast 11 = .ok (.aload_n 0, 1) := by decide +kernel
theorem dX2_addBeast_12 : decode cX2_addBeast 12 = .ok (.getfield 37, 3) := by decide +kernel
theorem dX2_addBeast_15 : decode cX2_addBeast 15 = .ok (.aload_n 0, 1) := by decide +kernel
theorem dX2_addBeast_16 : decode cX2_addBeast 16 = .ok (.getfield 56, 3) := by decide +kernel
theorem dX2_addBeast_19 : decode cX2_addBeast 19 = .ok (.iload_n 1, 1) := by decide +kernel
theorem dX2_addBeast_20 : decode cX2_addBeast 20 = .ok (.iastore, 1) := by decide +kernel
theorem dX2_addBeast_21 : decode cX2_addBeast 21 = .ok (.aload_n 0, 1) := by decide +kernel
theorem dX2_addBeast_22 : decode cX2_addBeast 22 = .ok (.dup, 1) := by decide +kernel
theorem dX2_addBeast_23 : decode cX2_addBeast 23 = .ok (.getfield 56, 3) := by decide +kernel
theorem dX2_addBeast_26 : decode cX2_addBeast 26 = .ok (.iconst 1, 1) := by decide +kernel
theorem dX2_addBeast_27 : decode cX2_addBeast 27 = .ok (.iadd, 1) := by decide +kernel
theorem dX2_addBeast_28 : decode cX2_addBeast 28 = .ok (.putfield 56, 3) := by decide +kernel
theorem dX2_addBeast_31 : decode cX2_addBeast 31 = .ok (.aload_n 0, 1) := by decide +kernel
theorem dX2_addBeast_32 : decode cX2_addBeast 32 = .ok (.getfield 56, 3) := by decide +kernel
theorem dX2_addBeast_35 : decode cX2_addBeast 35 = .ok (.iconst 1, 1) := by decide +kernel
theorem dX2_addBeast_36 : decode cX2_addBeast 36 = .ok (.isub, 1) := by decide +kernel
theorem dX2_addBeast_37 : decode cX2_addBeast 37 = .ok (.ireturn, 1) := by decide +kernel
theorem dX2_openGates_0 : decode cX2_openGates 0 = .ok (.iconst 0, 1) := by decide +kernel
theorem dX2_openGates_1 : decode cX2_openGates 1 = .ok (.istore_n 1, 1) := by decide +kernel
theorem dX2_openGates_2 : decode cX2_openGates 2 = .ok (.iconst 0, 1) := by decide +kernel
theorem dX2_openGates_3 : decode cX2_openGates 3 = .ok (.istore_n 2, 1) := by decide +kernel
theorem dX2_openGates_4 : decode cX2_openGates 4 = .ok (.iload_n 2, 1) := by decide +kernel
theorem dX2_openGates_5 : decode cX2_openGates 5 = .ok (.aload_n 0, 1) := by decide +kernel
theorem dX2_openGates_6 : decode cX2_openGates 6 = .ok (.getfield 53, 3) := by decide +kernel
theorem dX2_openGates_9 : decode cX2_openGates 9 = .ok (.if_icmp .ge 25, 3) := by decide +kernel
theorem dX2_openGates_12 : decode cX2_openGates 12 = .ok (.aload_n 0, 1) := by decide +kernel
theorem dX2_openGates_13 : decode cX2_openGates 13 = .ok (.getfield 34, 3) := by decide +kernel
theorem dX2_openGates_16 : decode cX2_openGates 16 = .ok (.iload_n 2, 1) := by decide +kernel
theorem dX2_openGates_17 : decode cX2_openGates 17 = .ok (.iaload, 1) := by decide +kernel
theorem dX2_openGates_18 : decode cX2_openGates 18 = .ok (.iconst (-1), 1) := by decide +kernel
theorem dX2_openGates_19 : decode cX2_openGates 19 = .ok (.if_icmp .ne 9, 3) := by decide +kernel
theorem dX2_openGates_22 : decode cX2_openGates 22 = .ok (.iload_n 1, 1) := by decide +kernel
theorem dX2_openGates_23 : decode cX2_openGates 23 = .ok (.iconst 1, 1) := by decide +kernel
theorem dX2_openGates_24 : decode cX2_openGates 24 = .ok (.iload_n 2, 1) := by decide +kernel
theorem dX2_openGates_25 : decode cX2_openGates 25 = .ok (.ishl, 1) := by decide +kernel
theorem dX2_openGates_26 : decode cX2_openGates 26 = .ok (.ior, 1) := by decide +kernel
theorem dX2_openGates_27 : decode cX2_openGates 27 = .ok (.istore_n 1, 1) := by decide +kernel
theorem dX2_openGates_28 : decode cX2_openGates 28 = .ok (.iinc 2 1, 3) := by decide +kernel
theorem dX2_openGates_31 : decode cX2_openGates 31 = .ok (.goto (-27), 3) := by decide +kernel
theorem dX2_openGates_34 : decode cX2_openGates 34 = .ok (.iload_n 1, 1) := by decide +kernel
theorem dX2_openGates_35 : decode cX2_openGates 35 = .ok (.ireturn, 1) := by decide +kernel
theorem dX2_heldBy_0 : decode cX2_heldBy 0 = .ok (.iconst 0, 1) := by decide +kernel
theorem dX2_heldBy_1 : decode cX2_heldBy 1 = .ok (.istore_n 2, 1) := by decide +kernel
theorem dX2_heldBy_2 : decode cX2_heldBy 2 = .ok (.iconst 0, 1) := by decide +kernel
theorem dX2_heldBy_3 : decode cX2_heldBy 3 = .ok (.istore_n 3, 1) := by decide +kernel
theorem dX2_heldBy_4 : decode cX2_heldBy 4 = .ok (.iload_n 3, 1) := by decide +kernel
theorem dX2_heldBy_5 : decode cX2_heldBy 5 = .ok (.aload_n 0, 1) := by decide +kernel
theorem dX2_heldBy_6 : decode cX2_heldBy 6 = .ok (.getfield 53, 3) := by decide +kernel
theorem dX2_heldBy_9 : decode cX2_heldBy 9 = .ok (.if_icmp .ge 22, 3) := by decide +kernel
theorem dX2_heldBy_12 : decode cX2_heldBy 12 = .ok (.aload_n 0, 1) := by decide +kernel
theorem dX2_heldBy_13 : decode cX2_heldBy 13 = .ok (.getfield 34, 3) := by decide +kernel
theorem dX2_heldBy_16 : decode cX2_heldBy 16 = .ok (.iload_n 3, 1) := by decide +kernel
theorem dX2_heldBy_17 : decode cX2_heldBy 17 = .ok (.iaload, 1) := by decide +kernel
theorem dX2_heldBy_18 : decode cX2_heldBy 18 = .ok (.iload_n 1, 1) := by decide +kernel
theorem dX2_heldBy_19 : decode cX2_heldBy 19 = .ok (.if_icmp .ne 6, 3) := by decide +kernel
theorem dX2_heldBy_22 : decode cX2_heldBy 22 = .ok (.iinc 2 1, 3) := by decide +kernel
theorem dX2_heldBy_25 : decode cX2_heldBy 25 = .ok (.iinc 3 1, 3) := by decide +kernel
theorem dX2_heldBy_28 : decode cX2_heldBy 28 = .ok (.goto (-24), 3) := by decide +kernel
theorem dX2_heldBy_31 : decode cX2_heldBy 31 = .ok (.iload_n 2, 1) := by decide +kernel
theorem dX2_heldBy_32 : decode cX2_heldBy 32 = .ok (.ireturn, 1) := by decide +kernel
theorem dX2_handOver_0 : decode cX2_handOver 0 = .ok (.iconst 0, 1) := by decide +kernel
theorem dX2_handOver_1 : decode cX2_handOver 1 = .ok (.istore_n 3, 1) := by decide +kernel
theorem dX2_handOver_2 : decode cX2_handOver 2 = .ok (.iconst 0, 1) := by decide +kernel
theorem dX2_handOver_3 : decode cX2_handOver 3 = .ok (.istore 4, 2) := by decide +kernel
theorem dX2_handOver_5 : decode cX2_handOver 5 = .ok (.iload 4, 2) := by decide +kernel
theorem dX2_handOver_7 : decode cX2_handOver 7 = .ok (.aload_n 0, 1) := by decide +kernel
theorem dX2_handOver_8 : decode cX2_handOver 8 = .ok (.getfield 53, 3) := by decide +kernel
theorem dX2_handOver_11 : decode cX2_handOver 11 = .ok (.if_icmp .ge 31, 3) := by decide +kernel
theorem dX2_handOver_14 : decode cX2_handOver 14 = .ok (.aload_n 0, 1) := by decide +kernel
theorem dX2_handOver_15 : decode cX2_handOver 15 = .ok (.getfield 34, 3) := by decide +kernel
theorem dX2_handOver_18 : decode cX2_handOver 18 = .ok (.iload 4, 2) := by decide +kernel
theorem dX2_handOver_20 : decode cX2_handOver 20 = .ok (.iaload, 1) := by decide +kernel
theorem dX2_handOver_21 : decode cX2_handOver 21 = .ok (.iload_n 1, 1) := by decide +kernel
theorem dX2_handOver_22 : decode cX2_handOver 22 = .ok (.if_icmp .ne 14, 3) := by decide +kernel
theorem dX2_handOver_25 : decode cX2_handOver 25 = .ok (.aload_n 0, 1) := by decide +kernel
theorem dX2_handOver_26 : decode cX2_handOver 26 = .ok (.getfield 34, 3) := by decide +kernel
theorem dX2_handOver_29 : decode cX2_handOver 29 = .ok (.iload 4, 2) := by decide +kernel
theorem dX2_handOver_31 : decode cX2_handOver 31 = .ok (.iload_n 2, 1) := by decide +kernel
theorem dX2_handOver_32 : decode cX2_handOver 32 = .ok (.iastore, 1) := by decide +kernel
theorem dX2_handOver_33 : decode cX2_handOver 33 = .ok (.iinc 3 1, 3) := by decide +kernel
theorem dX2_handOver_36 : decode cX2_handOver 36 = .ok (.iinc 4 1, 3) := by decide +kernel
theorem dX2_handOver_39 : decode cX2_handOver 39 = .ok (.goto (-34), 3) := by decide +kernel
theorem dX2_handOver_42 : decode cX2_handOver 42 = .ok (.iload_n 3, 1) := by decide +kernel
theorem dX2_handOver_43 : decode cX2_handOver 43 = .ok (.ireturn, 1) := by decide +kernel
theorem dX2_room_0 : decode cX2_room 0 = .ok (.aload_n 0, 1) := by decide +kernel
theorem dX2_room_1 : decode cX2_room 1 = .ok (.iload_n 1, 1) := by decide +kernel
theorem dX2_room_2 : decode cX2_room 2 = .ok (.invokevirtual 65, 3) := by decide +kernel
theorem dX2_room_5 : decode cX2_room 5 = .ok (.ifCond .ne 5, 3) := by decide +kernel
theorem dX2_room_8 : decode cX2_room 8 = .ok (.iconst 0, 1) := by decide +kernel
theorem dX2_room_9 : decode cX2_room 9 = .ok (.ireturn, 1) := by decide +kernel
theorem dX2_room_10 : decode cX2_room 10 = .ok (.bipush 10, 2) := by decide +kernel
theorem dX2_room_12 : decode cX2_room 12 = .ok (.aload_n 0, 1) := by decide +kernel
theorem dX2_room_13 : decode cX2_room 13 = .ok (.getfield 22, 3) := by decide +kernel
theorem dX2_room_16 : decode cX2_room 16 = .ok (.iload_n 1, 1) := by decide +kernel
theorem dX2_room_17 : decode cX2_room 17 = .ok (.iaload, 1) := by decide +kernel
theorem dX2_room_18 : decode cX2_room 18 = .ok (.iadd, 1) := by decide +kernel
theorem dX2_room_19 : decode cX2_room 19 = .ok (.istore_n 2, 1) := by decide +kernel
theorem dX2_room_20 : decode cX2_room 20 = .ok (.aload_n 0, 1) := by decide +kernel
theorem dX2_room_21 : decode cX2_room 21 = .ok (.getfield 18, 3) := by decide +kernel
theorem dX2_room_24 : decode cX2_room 24 = .ok (.iload_n 1, 1) := by decide +kernel
theorem dX2_room_25 : decode cX2_room 25 = .ok (.iaload, 1) := by decide +kernel
theorem dX2_room_26 : decode cX2_room 26 = .ok (.tableswitch 90 1 6 #[38, 42, 46, 56, 66, 72], 38) := by decide +kernel
theorem dX2_room_64 : decode cX2_room 64 = .ok (.iload_n 2, 1) := by decide +kernel
theorem dX2_room_65 : decode cX2_room 65 = .ok (.iconst 2, 1) := by decide +kernel
theorem dX2_room_66 : decode cX2_room 66 = .ok (.idiv, 1) := by decide +kernel
theorem dX2_room_67 : decode cX2_room 67 = .ok (.ireturn, 1) := by decide +kernel
theorem dX2_room_68 : decode cX2_room 68 = .ok (.iconst 3, 1) := by decide +kernel
theorem dX2_room_69 : decode cX2_room 69 = .ok (.iload_n 2, 1) := by decide +kernel
theorem dX2_room_70 : decode cX2_room 70 = .ok (.imul, 1) := by decide +kernel
theorem dX2_room_71 : decode cX2_room 71 = .ok (.ireturn, 1) := by decide +kernel
theorem dX2_room_72 : decode cX2_room 72 = .ok (.iload_n 2, 1) := by decide +kernel
theorem dX2_room_73 : decode cX2_room 73 = .ok (.aload_n 0, 1) := by decide +kernel
theorem dX2_room_74 : decode cX2_room 74 = .ok (.getfield 59, 3) := by decide +kernel
theorem dX2_room_77 : decode cX2_room 77 = .ok (.bipush 6, 2) := by decide +kernel
theorem dX2_room_79 : decode cX2_room 79 = .ok (.irem, 1) := by decide +kernel
theorem dX2_room_80 : decode cX2_room 80 = .ok (.isub, 1) := by decide +kernel
theorem dX2_room_81 : decode cX2_room 81 = .ok (.ireturn, 1) := by decide +kernel
theorem dX2_room_82 : decode cX2_room 82 = .ok (.iload_n 2, 1) := by decide +kernel
theorem dX2_room_83 : decode cX2_room 83 = .ok (.iconst 2, 1) := by decide +kernel
theorem dX2_room_84 : decode cX2_room 84 = .ok (.idiv, 1) := by decide +kernel
theorem dX2_room_85 : decode cX2_room 85 = .ok (.aload_n 0, 1) := by decide +kernel
theorem dX2_room_86 : decode cX2_room 86 = .ok (.iload_n 1, 1) := by decide +kernel
theorem dX2_room_87 : decode cX2_room 87 = .ok (.invokevirtual 69, 3) := by decide +kernel
theorem dX2_room_90 : decode cX2_room 90 = .ok (.iadd, 1) := by decide +kernel
theorem dX2_room_91 : decode cX2_room 91 = .ok (.ireturn, 1) := by decide +kernel
theorem dX2_room_92 : decode cX2_room 92 = .ok (.iconst 3, 1) := by decide +kernel
theorem dX2_room_93 : decode cX2_room 93 = .ok (.iload_n 2, 1) := by decide +kernel
theorem dX2_room_94 : decode cX2_room 94 = .ok (.imul, 1) := by decide +kernel
theorem dX2_room_95 : decode cX2_room 95 = .ok (.iconst 5, 1) := by decide +kernel
theorem dX2_room_96 : decode cX2_room 96 = .ok (.iadd, 1) := by decide +kernel
theorem dX2_room_97 : decode cX2_room 97 = .ok (.ireturn, 1) := by decide +kernel
theorem dX2_room_98 : decode cX2_room 98 = .ok (.aload_n 0, 1) := by decide +kernel
theorem dX2_room_99 : decode cX2_room 99 = .ok (.getfield 59, 3) := by decide +kernel
theorem dX2_room_102 : decode cX2_room 102 = .ok (.bipush 24, 2) := by decide +kernel
theorem dX2_room_104 : decode cX2_room 104 = .ok (.irem, 1) := by decide +kernel
theorem dX2_room_105 : decode cX2_room 105 = .ok (.bipush 12, 2) := by decide +kernel
theorem dX2_room_107 : decode cX2_room 107 = .ok (.if_icmp .ge 7, 3) := by decide +kernel
theorem dX2_room_110 : decode cX2_room 110 = .ok (.iconst 0, 1) := by decide +kernel
theorem dX2_room_111 : decode cX2_room 111 = .ok (.goto 4, 3) := by decide +kernel
theorem dX2_room_114 : decode cX2_room 114 = .ok (.iload_n 2, 1) := by decide +kernel
theorem dX2_room_115 : decode cX2_room 115 = .ok (.ireturn, 1) := by decide +kernel
theorem dX2_room_116 : decode cX2_room 116 = .ok (.iload_n 2, 1) := by decide +kernel
theorem dX2_room_117 : decode cX2_room 117 = .ok (.ireturn, 1) := by decide +kernel
theorem dX2_cost_0 : decode cX2_cost 0 = .ok (.aload_n 0, 1) := by decide +kernel
theorem dX2_cost_1 : decode cX2_cost 1 = .ok (.getfield 31, 3) := by decide +kernel
theorem dX2_cost_4 : decode cX2_cost 4 = .ok (.iload_n 2, 1) := by decide +kernel
theorem dX2_cost_5 : decode cX2_cost 5 = .ok (.iaload, 1) := by decide +kernel
theorem dX2_cost_6 : decode cX2_cost 6 = .ok (.istore_n 3, 1) := by decide +kernel
theorem dX2_cost_7 : decode cX2_cost 7 = .ok (.aload_n 0, 1) := by decide +kernel
theorem dX2_cost_8 : decode cX2_cost 8 = .ok (.getfield 18, 3) := by decide +kernel
theorem dX2_cost_11 : decode cX2_cost 11 = .ok (.iload_n 1, 1) := by decide +kernel
theorem dX2_cost_12 : decode cX2_cost 12 = .ok (.iaload, 1) := by decide +kernel
theorem dX2_cost_13 : decode cX2_cost 13 = .ok (.tableswitch 79 1 6 #[39, 43, 79, 47, 55, 73], 39) := by decide +kernel
theorem dX2_cost_52 : decode cX2_cost 52 = .ok (.iload_n 3, 1) := by decide +kernel
theorem dX2_cost_53 : decode cX2_cost 53 = .ok (.iconst 1, 1) := by decide +kernel
theorem dX2_cost_54 : decode cX2_cost 54 = .ok (.iadd, 1) := by decide +kernel
theorem dX2_cost_55 : decode cX2_cost 55 = .ok (.ireturn, 1) := by decide +kernel
theorem dX2_cost_56 : decode cX2_cost 56 = .ok (.iconst 2, 1) := by decide +kernel
theorem dX2_cost_57 : decode cX2_cost 57 = .ok (.iload_n 3, 1) := by decide +kernel
theorem dX2_cost_58 : decode cX2_cost 58 = .ok (.imul, 1) := by decide +kernel
theorem dX2_cost_59 : decode cX2_cost 59 = .ok (.ireturn, 1) := by decide +kernel
theorem dX2_cost_60 : decode cX2_cost 60 = .ok (.iload_n 3, 1) := by decide +kernel
theorem dX2_cost_61 : decode cX2_cost 61 = .ok (.iconst 1, 1) := by decide +kernel
theorem dX2_cost_62 : decode cX2_cost 62 = .ok (.iadd, 1) := by decide +kernel
theorem dX2_cost_63 : decode cX2_cost 63 = .ok (.iload_n 3, 1) := by decide +kernel
theorem dX2_cost_64 : decode cX2_cost 64 = .ok (.iconst 2, 1) := by decide +kernel
theorem dX2_cost_65 : decode cX2_cost 65 = .ok (.idiv, 1) := by decide +kernel
theorem dX2_cost_66 : decode cX2_cost 66 = .ok (.isub, 1) := by decide +kernel
theorem dX2_cost_67 : decode cX2_cost 67 = .ok (.ireturn, 1) := by decide +kernel
theorem dX2_cost_68 : decode cX2_cost 68 = .ok (.aload_n 0, 1) := by decide +kernel
theorem dX2_cost_69 : decode cX2_cost 69 = .ok (.getfield 34, 3) := by decide +kernel
theorem dX2_cost_72 : decode cX2_cost 72 = .ok (.iload_n 2, 1) := by decide +kernel
theorem dX2_cost_73 : decode cX2_cost 73 = .ok (.iaload, 1) := by decide +kernel
theorem dX2_cost_74 : decode cX2_cost 74 = .ok (.iconst (-1), 1) := by decide +kernel
theorem dX2_cost_75 : decode cX2_cost 75 = .ok (.if_icmp .ne 7, 3) := by decide +kernel
theorem dX2_cost_78 : decode cX2_cost 78 = .ok (.iconst 0, 1) := by decide +kernel
theorem dX2_cost_79 : decode cX2_cost 79 = .ok (.goto 6, 3) := by decide +kernel
theorem dX2_cost_82 : decode cX2_cost 82 = .ok (.iconst 2, 1) := by decide +kernel
theorem dX2_cost_83 : decode cX2_cost 83 = .ok (.iload_n 3, 1) := by decide +kernel
theorem dX2_cost_84 : decode cX2_cost 84 = .ok (.imul, 1) := by decide +kernel
theorem dX2_cost_85 : decode cX2_cost 85 = .ok (.ireturn, 1) := by decide +kernel
theorem dX2_cost_86 : decode cX2_cost 86 = .ok (.iload_n 3, 1) := by decide +kernel
theorem dX2_cost_87 : decode cX2_cost 87 = .ok (.iload_n 2, 1) := by decide +kernel
theorem dX2_cost_88 : decode cX2_cost 88 = .ok (.iconst 3, 1) := by decide +kernel
theorem dX2_cost_89 : decode cX2_cost 89 = .ok (.irem, 1) := by decide +kernel
theorem dX2_cost_90 : decode cX2_cost 90 = .ok (.iadd, 1) := by decide +kernel
theorem dX2_cost_91 : decode cX2_cost 91 = .ok (.ireturn, 1) := by decide +kernel
theorem dX2_cost_92 : decode cX2_cost 92 = .ok (.iload_n 3, 1) := by decide +kernel
theorem dX2_cost_93 : decode cX2_cost 93 = .ok (.ireturn, 1) := by decide +kernel
theorem dX2_weight_0 : decode cX2_weight 0 = .ok (.aload_n 0, 1) := by decide +kernel
theorem dX2_weight_1 : decode cX2_weight 1 = .ok (.iload_n 1, 1) := by decide +kernel
theorem dX2_weight_2 : decode cX2_weight 2 = .ok (.invokevirtual 65, 3) := by decide +kernel
theorem dX2_weight_5 : decode cX2_weight 5 = .ok (.ifCond .eq 11, 3) := by decide +kernel
theorem dX2_weight_8 : decode cX2_weight 8 = .ok (.aload_n 0, 1) := by decide +kernel
theorem dX2_weight_9 : decode cX2_weight 9 = .ok (.iload_n 2, 1) := by decide +kernel
theorem dX2_weight_10 : decode cX2_weight 10 = .ok (.invokevirtual 73, 3) := by decide +kernel
theorem dX2_weight_13 : decode cX2_weight 13 = .ok (.ifCond .ne 5, 3) := by decide +kernel
theorem dX2_weight_16 : decode cX2_weight 16 = .ok (.iconst 0, 1) := by decide +kernel
theorem dX2_weight_17 : decode cX2_weight 17 = .ok (.ireturn, 1) := by decide +kernel
theorem dX2_weight_18 : decode cX2_weight 18 = .ok (.aload_n 0, 1) := by decide +kernel
theorem dX2_weight_19 : decode cX2_weight 19 = .ok (.getfield 9, 3) := by decide +kernel
theorem dX2_weight_22 : decode cX2_weight 22 = .ok (.aload_n 0, 1) := by decide +kernel
theorem dX2_weight_23 : decode cX2_weight 23 = .ok (.iload_n 1, 1) := by decide +kernel
theorem dX2_weight_24 : decode cX2_weight 24 = .ok (.iload_n 2, 1) := by decide +kernel
theorem dX2_weight_25 : decode cX2_weight 25 = .ok (.invokevirtual 76, 3) := by decide +kernel
theorem dX2_weight_28 : decode cX2_weight 28 = .ok (.aload_n 0, 1) := by decide +kernel
theorem dX2_weight_29 : decode cX2_weight 29 = .ok (.getfield 59, 3) := by decide +kernel
theorem dX2_weight_32 : decode cX2_weight 32 = .ok (.bipush 24, 2) := by decide +kernel
theorem dX2_weight_34 : decode cX2_weight 34 = .ok (.irem, 1) := by decide +kernel
theorem dX2_weight_35 : decode cX2_weight 35 = .ok (.iload_n 2, 1) := by decide +kernel
theorem dX2_weight_36 : decode cX2_weight 36 = .ok (.invokevirtual 80, 3) := by decide +kernel
theorem dX2_weight_39 : decode cX2_weight 39 = .ok (.ireturn, 1) := by decide +kernel
theorem dX2_load_0 : decode cX2_load 0 = .ok (.iconst 0, 1) := by decide +kernel
theorem dX2_load_1 : decode cX2_load 1 = .ok (.istore_n 2, 1) := by decide +kernel
theorem dX2_load_2 : decode cX2_load 2 = .ok (.iconst 0, 1) := by decide +kernel
theorem dX2_load_3 : decode cX2_load 3 = .ok (.istore_n 3, 1) := by decide +kernel
theorem dX2_load_4 : decode cX2_load 4 = .ok (.iload_n 3, 1) := by decide +kernel
theorem dX2_load_5 : decode cX2_load 5 = .ok (.aload_n 0, 1) := by decide +kernel
theorem dX2_load_6 : decode cX2_load 6 = .ok (.getfield 53, 3) := by decide +kernel
theorem dX2_load_9 : decode cX2_load 9 = .ok (.if_icmp .ge 28, 3) := by decide +kernel
theorem dX2_load_12 : decode cX2_load 12 = .ok (.aload_n 0, 1) := by decide +kernel
theorem dX2_load_13 : decode cX2_load 13 = .ok (.getfield 34, 3) := by decide +kernel
theorem dX2_load_16 : decode cX2_load 16 = .ok (.iload_n 3, 1) := by decide +kernel
theorem dX2_load_17 : decode cX2_load 17 = .ok (.iaload, 1) := by decide +kernel
theorem dX2_load_18 : decode cX2_load 18 = .ok (.iload_n 1, 1) := by decide +kernel
theorem dX2_load_19 : decode cX2_load 19 = .ok (.if_icmp .ne 12, 3) := by decide +kernel
theorem dX2_load_22 : decode cX2_load 22 = .ok (.iload_n 2, 1) := by decide +kernel
theorem dX2_load_23 : decode cX2_load 23 = .ok (.aload_n 0, 1) := by decide +kernel
theorem dX2_load_24 : decode cX2_load 24 = .ok (.iload_n 1, 1) := by decide +kernel
theorem dX2_load_25 : decode cX2_load 25 = .ok (.iload_n 3, 1) := by decide +kernel
theorem dX2_load_26 : decode cX2_load 26 = .ok (.invokevirtual 86, 3) := by decide +kernel
theorem dX2_load_29 : decode cX2_load 29 = .ok (.iadd, 1) := by decide +kernel
theorem dX2_load_30 : decode cX2_load 30 = .ok (.istore_n 2, 1) := by decide +kernel
theorem dX2_load_31 : decode cX2_load 31 = .ok (.iinc 3 1, 3) := by decide +kernel
theorem dX2_load_34 : decode cX2_load 34 = .ok (.goto (-30), 3) := by decide +kernel
theorem dX2_load_37 : decode cX2_load 37 = .ok (.iload_n 2, 1) := by decide +kernel
theorem dX2_load_38 : decode cX2_load 38 = .ok (.ireturn, 1) := by decide +kernel
theorem dX2_draw_0 : decode cX2_draw 0 = .ok (.iload_n 1, 1) := by decide +kernel
theorem dX2_draw_1 : decode cX2_draw 1 = .ok (.invokestatic 89, 3) := by decide +kernel
theorem dX2_draw_4 : decode cX2_draw 4 = .ok (.ifCond .ne 5, 3) := by decide +kernel
theorem dX2_draw_7 : decode cX2_draw 7 = .ok (.iconst 0, 1) := by decide +kernel
theorem dX2_draw_8 : decode cX2_draw 8 = .ok (.ireturn, 1) := by decide +kernel
theorem dX2_draw_9 : decode cX2_draw 9 = .ok (.aload_n 0, 1) := by decide +kernel
theorem dX2_draw_10 : decode cX2_draw 10 = .ok (.getfield 15, 3) := by decide +kernel
theorem dX2_draw_13 : decode cX2_draw 13 = .ok (.aload_n 0, 1) := by decide +kernel
theorem dX2_draw_14 : decode cX2_draw 14 = .ok (.getfield 40, 3) := by decide +kernel
theorem dX2_draw_17 : decode cX2_draw 17 = .ok (.iload_n 1, 1) := by decide +kernel
theorem dX2_draw_18 : decode cX2_draw 18 = .ok (.iaload, 1) := by decide +kernel
theorem dX2_draw_19 : decode cX2_draw 19 = .ok (.iload_n 1, 1) := by decide +kernel
theorem dX2_draw_20 : decode cX2_draw 20 = .ok (.aload_n 0, 1) := by decide +kernel
theorem dX2_draw_21 : decode cX2_draw 21 = .ok (.getfield 59, 3) := by decide +kernel
theorem dX2_draw_24 : decode cX2_draw 24 = .ok (.bipush 24, 2) := by decide +kernel
theorem dX2_draw_26 : decode cX2_draw 26 = .ok (.irem, 1) := by decide +kernel
theorem dX2_draw_27 : decode cX2_draw 27 = .ok (.invokevirtual 80, 3) := by decide +kernel
theorem dX2_draw_30 : decode cX2_draw 30 = .ok (.ireturn, 1) := by decide +kernel
theorem dX2_anHour_0 : decode cX2_anHour 0 = .ok (.iconst 0, 1) := by decide +kernel
theorem dX2_anHour_1 : decode cX2_anHour 1 = .ok (.istore_n 1, 1) := by decide +kernel
theorem dX2_anHour_2 : decode cX2_anHour 2 = .ok (.iload_n 1, 1) := by decide +kernel
theorem dX2_anHour_3 : decode cX2_anHour 3 = .ok (.aload_n 0, 1) := by decide +kernel
theorem dX2_anHour_4 : decode cX2_anHour 4 = .ok (.getfield 49, 3) := by decide +kernel
theorem dX2_anHour_7 : decode cX2_anHour 7 = .ok (.if_icmp .ge 27, 3) := by decide +kernel
theorem dX2_anHour_10 : decode cX2_anHour 10 = .ok (.aload_n 0, 1) := by decide +kernel
theorem dX2_anHour_11 : decode cX2_anHour 11 = .ok (.iload_n 1, 1) := by decide +kernel
theorem dX2_anHour_12 : decode cX2_anHour 12 = .ok (.invokevirtual 92, 3) := by decide +kernel
theorem dX2_anHour_15 : decode cX2_anHour 15 = .ok (.aload_n 0, 1) := by decide +kernel
theorem dX2_anHour_16 : decode cX2_anHour 16 = .ok (.iload_n 1, 1) := by decide +kernel
theorem dX2_anHour_17 : decode cX2_anHour 17 = .ok (.invokevirtual 95, 3) := by decide +kernel
theorem dX2_anHour_20 : decode cX2_anHour 20 = .ok (.if_icmp .le 8, 3) := by decide +kernel
theorem dX2_anHour_23 : decode cX2_anHour 23 = .ok (.aload_n 0, 1) := by decide +kernel
theorem dX2_anHour_24 : decode cX2_anHour 24 = .ok (.iload_n 1, 1) := by decide +kernel
theorem dX2_anHour_25 : decode cX2_anHour 25 = .ok (.invokevirtual 98, 3) := by decide +kernel
theorem dX2_anHour_28 : decode cX2_anHour 28 = .ok (.iinc 1 1, 3) := by decide +kernel
theorem dX2_anHour_31 : decode cX2_anHour 31 = .ok (.goto (-29), 3) := by decide +kernel
theorem dX2_anHour_34 : decode cX2_anHour 34 = .ok (.iconst 0, 1) := by decide +kernel
theorem dX2_anHour_35 : decode cX2_anHour 35 = .ok (.istore_n 1, 1) := by decide +kernel
theorem dX2_anHour_36 : decode cX2_anHour 36 = .ok (.iload_n 1, 1) := by decide +kernel
theorem dX2_anHour_37 : decode cX2_anHour 37 = .ok (.aload_n 0, 1) := by decide +kernel
theorem dX2_anHour_38 : decode cX2_anHour 38 = .ok (.getfield 56, 3) := by decide +kernel
theorem dX2_anHour_41 : decode cX2_anHour 41 = .ok (.if_icmp .ge 14, 3) := by decide +kernel
theorem dX2_anHour_44 : decode cX2_anHour 44 = .ok (.aload_n 0, 1) := by decide +kernel
theorem dX2_anHour_45 : decode cX2_anHour 45 = .ok (.iload_n 1, 1) := by decide +kernel
theorem dX2_anHour_46 : decode cX2_anHour 46 = .ok (.invokevirtual 102, 3) := by decide +kernel
theorem dX2_anHour_49 : decode cX2_anHour 49 = .ok (.iinc 1 1, 3) := by decide +kernel
theorem dX2_anHour_52 : decode cX2_anHour 52 = .ok (.goto (-16), 3) := by decide +kernel
theorem dX2_anHour_55 : decode cX2_anHour 55 = .ok (.aload_n 0, 1) := by decide +kernel
theorem dX2_anHour_56 : decode cX2_anHour 56 = .ok (.dup, 1) := by decide +kernel
theorem dX2_anHour_57 : decode cX2_anHour 57 = .ok (.getfield 59, 3) := by decide +kernel
theorem dX2_anHour_60 : decode cX2_anHour 60 = .ok (.iconst 1, 1) := by decide +kernel
theorem dX2_anHour_61 : decode cX2_anHour 61 = .ok (.iadd, 1) := by decide +kernel
theorem dX2_anHour_62 : decode cX2_anHour 62 = .ok (.putfield 59, 3) := by decide +kernel
theorem dX2_anHour_65 : decode cX2_anHour 65 = .ok (.return_, 1) := by decide +kernel
theorem dX2_letGo_0 : decode cX2_letGo 0 = .ok (.iconst (-1), 1) := by decide +kernel
theorem dX2_letGo_1 : decode cX2_letGo 1 = .ok (.istore_n 2, 1) := by decide +kernel
theorem dX2_letGo_2 : decode cX2_letGo 2 = .ok (.iconst (-1), 1) := by decide +kernel
theorem dX2_letGo_3 : decode cX2_letGo 3 = .ok (.istore_n 3, 1) := by decide +kernel
theorem dX2_letGo_4 : decode cX2_letGo 4 = .ok (.iconst 0, 1) := by decide +kernel
theorem dX2_letGo_5 : decode cX2_letGo 5 = .ok (.istore 4, 2) := by decide +kernel
theorem dX2_letGo_7 : decode cX2_letGo 7 = .ok (.iload 4, 2) := by decide +kernel
theorem dX2_letGo_9 : decode cX2_letGo 9 = .ok (.aload_n 0, 1) := by decide +kernel
theorem dX2_letGo_10 : decode cX2_letGo 10 = .ok (.getfield 53, 3) := by decide +kernel
theorem dX2_letGo_13 : decode cX2_letGo 13 = .ok (.if_icmp .ge 45, 3) := by decide +kernel
theorem dX2_letGo_16 : decode cX2_letGo 16 = .ok (.aload_n 0, 1) := by decide +kernel
theorem dX2_letGo_17 : decode cX2_letGo 17 = .ok (.getfield 34, 3) := by decide +kernel
theorem dX2_letGo_20 : decode cX2_letGo 20 = .ok (.iload 4, 2) := by decide +kernel
theorem dX2_letGo_22 : decode cX2_letGo 22 = .ok (.iaload, 1) := by decide +kernel
theorem dX2_letGo_23 : decode cX2_letGo 23 = .ok (.iload_n 1, 1) := by decide +kernel
theorem dX2_letGo_24 : decode cX2_letGo 24 = .ok (.if_icmp .ne 13, 3) := by decide +kernel
theorem dX2_letGo_27 : decode cX2_letGo 27 = .ok (.aload_n 0, 1) := by decide +kernel
theorem dX2_letGo_28 : decode cX2_letGo 28 = .ok (.iload_n 1, 1) := by decide +kernel
theorem dX2_letGo_29 : decode cX2_letGo 29 = .ok (.iload 4, 2) := by decide +kernel
theorem dX2_letGo_31 : decode cX2_letGo 31 = .ok (.invokevirtual 86, 3) := by decide +kernel
theorem dX2_letGo_34 : decode cX2_letGo 34 = .ok (.goto 4, 3) := by decide +kernel
theorem dX2_letGo_37 : decode cX2_letGo 37 = .ok (.iconst (-1), 1) := by decide +kernel
theorem dX2_letGo_38 : decode cX2_letGo 38 = .ok (.istore 5, 2) := by decide +kernel
theorem dX2_letGo_40 : decode cX2_letGo 40 = .ok (.iload 5, 2) := by decide +kernel
theorem dX2_letGo_42 : decode cX2_letGo 42 = .ok (.iload_n 3, 1) := by decide +kernel
theorem dX2_letGo_43 : decode cX2_letGo 43 = .ok (.if_icmp .le 9, 3) := by decide +kernel
theorem dX2_letGo_46 : decode cX2_letGo 46 = .ok (.iload 5, 2) := by decide +kernel
theorem dX2_letGo_48 : decode cX2_letGo 48 = .ok (.istore_n 3, 1) := by decide +kernel
theorem dX2_letGo_49 : decode cX2_letGo 49 = .ok (.iload 4, 2) := by decide +kernel
theorem dX2_letGo_51 : decode cX2_letGo 51 = .ok (.istore_n 2, 1) := by decide +kernel
theorem dX2_letGo_52 : decode cX2_letGo 52 = .ok (.iinc 4 1, 3) := by decide +kernel
theorem dX2_letGo_55 : decode cX2_letGo 55 = .ok (.goto (-48), 3) := by decide +kernel
theorem dX2_letGo_58 : decode cX2_letGo 58 = .ok (.aload_n 0, 1) := by decide +kernel
theorem dX2_letGo_59 : decode cX2_letGo 59 = .ok (.iload_n 2, 1) := by decide +kernel
theorem dX2_letGo_60 : decode cX2_letGo 60 = .ok (.invokevirtual 73, 3) := by decide +kernel
theorem dX2_letGo_63 : decode cX2_letGo 63 = .ok (.ifCond .eq 10, 3) := by decide +kernel
theorem dX2_letGo_66 : decode cX2_letGo 66 = .ok (.aload_n 0, 1) := by decide +kernel
theorem dX2_letGo_67 : decode cX2_letGo 67 = .ok (.getfield 34, 3) := by decide +kernel
theorem dX2_letGo_70 : decode cX2_letGo 70 = .ok (.iload_n 2, 1) := by decide +kernel
theorem dX2_letGo_71 : decode cX2_letGo 71 = .ok (.iconst (-1), 1) := by decide +kernel
theorem dX2_letGo_72 : decode cX2_letGo 72 = .ok (.iastore, 1) := by decide +kernel
theorem dX2_letGo_73 : decode cX2_letGo 73 = .ok (.return_, 1) := by decide +kernel
theorem dX2_graze_0 : decode cX2_graze 0 = .ok (.aload_n 0, 1) := by decide +kernel
theorem dX2_graze_1 : decode cX2_graze 1 = .ok (.getfield 37, 3) := by decide +kernel
theorem dX2_graze_4 : decode cX2_graze 4 = .ok (.iload_n 1, 1) := by decide +kernel
theorem dX2_graze_5 : decode cX2_graze 5 = .ok (.iaload, 1) := by decide +kernel
theorem dX2_graze_6 : decode cX2_graze 6 = .ok (.istore_n 2, 1) := by decide +kernel
theorem dX2_graze_7 : decode cX2_graze 7 = .ok (.iload_n 2, 1) := by decide +kernel
theorem dX2_graze_8 : decode cX2_graze 8 = .ok (.istore_n 3, 1) := by decide +kernel
theorem dX2_graze_9 : decode cX2_graze 9 = .ok (.aload_n 0, 1) := by decide +kernel
theorem dX2_graze_10 : decode cX2_graze 10 = .ok (.iload_n 2, 1) := by decide +kernel
theorem dX2_graze_11 : decode cX2_graze 11 = .ok (.invokevirtual 105, 3) := by decide +kernel
theorem dX2_graze_14 : decode cX2_graze 14 = .ok (.istore 4, 2) := by decide +kernel
theorem dX2_graze_16 : decode cX2_graze 16 = .ok (.iconst 0, 1) := by decide +kernel
theorem dX2_graze_17 : decode cX2_graze 17 = .ok (.istore 5, 2) := by decide +kernel
theorem dX2_graze_19 : decode cX2_graze 19 = .ok (.iload 5, 2) := by decide +kernel
theorem dX2_graze_21 : decode cX2_graze 21 = .ok (.aload_n 0, 1) := by decide +kernel
theorem dX2_graze_22 : decode cX2_graze 22 = .ok (.getfield 53, 3) := by decide +kernel
theorem dX2_graze_25 : decode cX2_graze 25 = .ok (.if_icmp .ge 67, 3) := by decide +kernel
theorem dX2_graze_28 : decode cX2_graze 28 = .ok (.aload_n 0, 1) := by decide +kernel
theorem dX2_graze_29 : decode cX2_graze 29 = .ok (.getfield 34, 3) := by decide +kernel
theorem dX2_graze_32 : decode cX2_graze 32 = .ok (.iload 5, 2) := by decide +kernel
theorem dX2_graze_34 : decode cX2_graze 34 = .ok (.iaload, 1) := by decide +kernel
theorem dX2_graze_35 : decode cX2_graze 35 = .ok (.iconst (-1), 1) := by decide +kernel
theorem dX2_graze_36 : decode cX2_graze 36 = .ok (.if_icmp .ne 13, 3) := by decide +kernel
theorem dX2_graze_39 : decode cX2_graze 39 = .ok (.aload_n 0, 1) := by decide +kernel
theorem dX2_graze_40 : decode cX2_graze 40 = .ok (.iload 5, 2) := by decide +kernel
theorem dX2_graze_42 : decode cX2_graze 42 = .ok (.iload_n 2, 1) := by decide +kernel
theorem dX2_graze_43 : decode cX2_graze 43 = .ok (.invokevirtual 108, 3) := by decide +kernel
theorem dX2_graze_46 : decode cX2_graze 46 = .ok (.goto 4, 3) := by decide +kernel
theorem dX2_graze_49 : decode cX2_graze 49 = .ok (.iconst (-1), 1) := by decide +kernel
theorem dX2_graze_50 : decode cX2_graze 50 = .ok (.istore 6, 2) := by decide +kernel
theorem dX2_graze_52 : decode cX2_graze 52 = .ok (.iload 6, 2) := by decide +kernel
theorem dX2_graze_54 : decode cX2_graze 54 = .ok (.invokestatic 89, 3) := by decide +kernel
theorem dX2_graze_57 : decode cX2_graze 57 = .ok (.ifCond .eq 12, 3) := by decide +kernel
theorem dX2_graze_60 : decode cX2_graze 60 = .ok (.aload_n 0, 1) := by decide +kernel
theorem dX2_graze_61 : decode cX2_graze 61 = .ok (.iload 6, 2) := by decide +kernel
theorem dX2_graze_63 : decode cX2_graze 63 = .ok (.invokevirtual 105, 3) := by decide +kernel
theorem dX2_graze_66 : decode cX2_graze 66 = .ok (.goto 4, 3) := by decide +kernel
theorem dX2_graze_69 : decode cX2_graze 69 = .ok (.iconst (-1), 1) := by decide +kernel
theorem dX2_graze_70 : decode cX2_graze 70 = .ok (.istore 7, 2) := by decide +kernel
theorem dX2_graze_72 : decode cX2_graze 72 = .ok (.iload 7, 2) := by decide +kernel
theorem dX2_graze_74 : decode cX2_graze 74 = .ok (.iload 4, 2) := by decide +kernel
theorem dX2_graze_76 : decode cX2_graze 76 = .ok (.if_icmp .le 10, 3) := by decide +kernel
theorem dX2_graze_79 : decode cX2_graze 79 = .ok (.iload 7, 2) := by decide +kernel
theorem dX2_graze_81 : decode cX2_graze 81 = .ok (.istore 4, 2) := by decide +kernel
theorem dX2_graze_83 : decode cX2_graze 83 = .ok (.iload 6, 2) := by decide +kernel
theorem dX2_graze_85 : decode cX2_graze 85 = .ok (.istore_n 3, 1) := by decide +kernel
theorem dX2_graze_86 : decode cX2_graze 86 = .ok (.iinc 5 1, 3) := by decide +kernel
theorem dX2_graze_89 : decode cX2_graze 89 = .ok (.goto (-70), 3) := by decide +kernel
theorem dX2_graze_92 : decode cX2_graze 92 = .ok (.iload_n 3, 1) := by decide +kernel
theorem dX2_graze_93 : decode cX2_graze 93 = .ok (.iload_n 2, 1) := by decide +kernel
theorem dX2_graze_94 : decode cX2_graze 94 = .ok (.if_icmp .eq 19, 3) := by decide +kernel
theorem dX2_graze_97 : decode cX2_graze 97 = .ok (.aload_n 0, 1) := by decide +kernel
theorem dX2_graze_98 : decode cX2_graze 98 = .ok (.aload_n 0, 1) := by decide +kernel
theorem dX2_graze_99 : decode cX2_graze 99 = .ok (.getfield 62, 3) := by decide +kernel
theorem dX2_graze_102 : decode cX2_graze 102 = .ok (.iconst 1, 1) := by decide +kernel
theorem dX2_graze_103 : decode cX2_graze 103 = .ok (.iadd, 1) := by decide +kernel
theorem dX2_graze_104 : decode cX2_graze 104 = .ok (.sipush 9999, 3) := by decide +kernel
theorem dX2_graze_107 : decode cX2_graze 107 = .ok (.invokestatic 111, 3) := by decide +kernel
theorem dX2_graze_110 : decode cX2_graze 110 = .ok (.putfield 62, 3) := by decide +kernel
theorem dX2_graze_113 : decode cX2_graze 113 = .ok (.aload_n 0, 1) := by decide +kernel
theorem dX2_graze_114 : decode cX2_graze 114 = .ok (.getfield 37, 3) := by decide +kernel
theorem dX2_graze_117 : decode cX2_graze 117 = .ok (.iload_n 1, 1) := by decide +kernel
theorem dX2_graze_118 : decode cX2_graze 118 = .ok (.iload_n 3, 1) := by decide +kernel
theorem dX2_graze_119 : decode cX2_graze 119 = .ok (.iastore, 1) := by decide +kernel
theorem dX2_graze_120 : decode cX2_graze 120 = .ok (.iload_n 3, 1) := by decide +kernel
theorem dX2_graze_121 : decode cX2_graze 121 = .ok (.invokestatic 89, 3) := by decide +kernel
theorem dX2_graze_124 : decode cX2_graze 124 = .ok (.ifCond .eq 21, 3) := by decide +kernel
theorem dX2_graze_127 : decode cX2_graze 127 = .ok (.aload_n 0, 1) := by decide +kernel
theorem dX2_graze_128 : decode cX2_graze 128 = .ok (.getfield 40, 3) := by decide +kernel
theorem dX2_graze_131 : decode cX2_graze 131 = .ok (.iload_n 3, 1) := by decide +kernel
theorem dX2_graze_132 : decode cX2_graze 132 = .ok (.aload_n 0, 1) := by decide +kernel
theorem dX2_graze_133 : decode cX2_graze 133 = .ok (.getfield 40, 3) := by decide +kernel
theorem dX2_graze_136 : decode cX2_graze 136 = .ok (.iload_n 3, 1) := by decide +kernel
theorem dX2_graze_137 : decode cX2_graze 137 = .ok (.iaload, 1) := by decide +kernel
theorem dX2_graze_138 : decode cX2_graze 138 = .ok (.iconst 1, 1) := by decide +kernel
theorem dX2_graze_139 : decode cX2_graze 139 = .ok (.isub, 1) := by decide +kernel
theorem dX2_graze_140 : decode cX2_graze 140 = .ok (.iconst 0, 1) := by decide +kernel
theorem dX2_graze_141 : decode cX2_graze 141 = .ok (.invokestatic 116, 3) := by decide +kernel
theorem dX2_graze_144 : decode cX2_graze 144 = .ok (.iastore, 1) := by decide +kernel
theorem dX2_graze_145 : decode cX2_graze 145 = .ok (.return_, 1) := by decide +kernel
theorem dX2_across_0 : decode cX2_across 0 = .ok (.aload_n 0, 1) := by decide +kernel
theorem dX2_across_1 : decode cX2_across 1 = .ok (.getfield 25, 3) := by decide +kernel
theorem dX2_across_4 : decode cX2_across 4 = .ok (.iload_n 1, 1) := by decide +kernel
theorem dX2_across_5 : decode cX2_across 5 = .ok (.iaload, 1) := by decide +kernel
theorem dX2_across_6 : decode cX2_across 6 = .ok (.iload_n 2, 1) := by decide +kernel
theorem dX2_across_7 : decode cX2_across 7 = .ok (.if_icmp .ne 10, 3) := by decide +kernel
theorem dX2_across_10 : decode cX2_across 10 = .ok (.aload_n 0, 1) := by decide +kernel
theorem dX2_across_11 : decode cX2_across 11 = .ok (.getfield 28, 3) := by decide +kernel
theorem dX2_across_14 : decode cX2_across 14 = .ok (.iload_n 1, 1) := by decide +kernel
theorem dX2_across_15 : decode cX2_across 15 = .ok (.iaload, 1) := by decide +kernel
theorem dX2_across_16 : decode cX2_across 16 = .ok (.ireturn, 1) := by decide +kernel
theorem dX2_across_17 : decode cX2_across 17 = .ok (.aload_n 0, 1) := by decide +kernel
theorem dX2_across_18 : decode cX2_across 18 = .ok (.getfield 28, 3) := by decide +kernel
theorem dX2_across_21 : decode cX2_across 21 = .ok (.iload_n 1, 1) := by decide +kernel
theorem dX2_across_22 : decode cX2_across 22 = .ok (.iaload, 1) := by decide +kernel
theorem dX2_across_23 : decode cX2_across 23 = .ok (.iload_n 2, 1) := by decide +kernel
theorem dX2_across_24 : decode cX2_across 24 = .ok (.if_icmp .ne 12, 3) := by decide +kernel
theorem dX2_across_27 : decode cX2_across 27 = .ok (.aload_n 0, 1) := by decide +kernel
theorem dX2_across_28 : decode cX2_across 28 = .ok (.getfield 25, 3) := by decide +kernel
theorem dX2_across_31 : decode cX2_across 31 = .ok (.iload_n 1, 1) := by decide +kernel
theorem dX2_across_32 : decode cX2_across 32 = .ok (.iaload, 1) := by decide +kernel
theorem dX2_across_33 : decode cX2_across 33 = .ok (.goto 4, 3) := by decide +kernel
theorem dX2_across_36 : decode cX2_across 36 = .ok (.iconst (-1), 1) := by decide +kernel
theorem dX2_across_37 : decode cX2_across 37 = .ok (.ireturn, 1) := by decide +kernel
theorem dX2_further_0 : decode cX2_further 0 = .ok (.iload_n 1, 1) := by decide +kernel
theorem dX2_further_1 : decode cX2_further 1 = .ok (.istore_n 3, 1) := by decide +kernel
theorem dX2_further_2 : decode cX2_further 2 = .ok (.iconst 0, 1) := by decide +kernel
theorem dX2_further_3 : decode cX2_further 3 = .ok (.istore 4, 2) := by decide +kernel
theorem dX2_further_5 : decode cX2_further 5 = .ok (.iload 4, 2) := by decide +kernel
theorem dX2_further_7 : decode cX2_further 7 = .ok (.aload_n 0, 1) := by decide +kernel
theorem dX2_further_8 : decode cX2_further 8 = .ok (.getfield 53, 3) := by decide +kernel
theorem dX2_further_11 : decode cX2_further 11 = .ok (.if_icmp .ge 51, 3) := by decide +kernel
theorem dX2_further_14 : decode cX2_further 14 = .ok (.iconst 1, 1) := by decide +kernel
theorem dX2_further_15 : decode cX2_further 15 = .ok (.aload_n 0, 1) := by decide +kernel
theorem dX2_further_16 : decode cX2_further 16 = .ok (.getfield 25, 3) := by decide +kernel
theorem dX2_further_19 : decode cX2_further 19 = .ok (.iload 4, 2) := by decide +kernel
theorem dX2_further_21 : decode cX2_further 21 = .ok (.iaload, 1) := by decide +kernel
theorem dX2_further_22 : decode cX2_further 22 = .ok (.ishl, 1) := by decide +kernel
theorem dX2_further_23 : decode cX2_further 23 = .ok (.iconst 1, 1) := by decide +kernel
theorem dX2_further_24 : decode cX2_further 24 = .ok (.aload_n 0, 1) := by decide +kernel
theorem dX2_further_25 : decode cX2_further 25 = .ok (.getfield 28, 3) := by decide +kernel
theorem dX2_further_28 : decode cX2_further 28 = .ok (.iload 4, 2) := by decide +kernel
theorem dX2_further_30 : decode cX2_further 30 = .ok (.iaload, 1) := by decide +kernel
theorem dX2_further_31 : decode cX2_further 31 = .ok (.ishl, 1) := by decide +kernel
theorem dX2_further_32 : decode cX2_further 32 = .ok (.ior, 1) := by decide +kernel
theorem dX2_further_33 : decode cX2_further 33 = .ok (.istore 5, 2) := by decide +kernel
theorem dX2_further_35 : decode cX2_further 35 = .ok (.iload_n 2, 1) := by decide +kernel
theorem dX2_further_36 : decode cX2_further 36 = .ok (.iconst 1, 1) := by decide +kernel
theorem dX2_further_37 : decode cX2_further 37 = .ok (.iload 4, 2) := by decide +kernel
theorem dX2_further_39 : decode cX2_further 39 = .ok (.ishl, 1) := by decide +kernel
theorem dX2_further_40 : decode cX2_further 40 = .ok (.iand, 1) := by decide +kernel
theorem dX2_further_41 : decode cX2_further 41 = .ok (.ifCond .eq 15, 3) := by decide +kernel
theorem dX2_further_44 : decode cX2_further 44 = .ok (.iload_n 1, 1) := by decide +kernel
theorem dX2_further_45 : decode cX2_further 45 = .ok (.iload 5, 2) := by decide +kernel
theorem dX2_further_47 : decode cX2_further 47 = .ok (.iand, 1) := by decide +kernel
theorem dX2_further_48 : decode cX2_further 48 = .ok (.ifCond .eq 8, 3) := by decide +kernel
theorem dX2_further_51 : decode cX2_further 51 = .ok (.iload_n 3, 1) := by decide +kernel
theorem dX2_further_52 : decode cX2_further 52 = .ok (.iload 5, 2) := by decide +kernel
theorem dX2_further_54 : decode cX2_further 54 = .ok (.ior, 1) := by decide +kernel
theorem dX2_further_55 : decode cX2_further 55 = .ok (.istore_n 3, 1) := by decide +kernel
theorem dX2_further_56 : decode cX2_further 56 = .ok (.iinc 4 1, 3) := by decide +kernel
theorem dX2_further_59 : decode cX2_further 59 = .ok (.goto (-54), 3) := by decide +kernel
theorem dX2_further_62 : decode cX2_further 62 = .ok (.iload_n 3, 1) := by decide +kernel
theorem dX2_further_63 : decode cX2_further 63 = .ok (.ireturn, 1) := by decide +kernel
theorem dX2_reached_0 : decode cX2_reached 0 = .ok (.iconst 1, 1) := by decide +kernel
theorem dX2_reached_1 : decode cX2_reached 1 = .ok (.iload_n 1, 1) := by decide +kernel
theorem dX2_reached_2 : decode cX2_reached 2 = .ok (.ishl, 1) := by decide +kernel
theorem dX2_reached_3 : decode cX2_reached 3 = .ok (.istore_n 3, 1) := by decide +kernel
theorem dX2_reached_4 : decode cX2_reached 4 = .ok (.iconst 1, 1) := by decide +kernel
theorem dX2_reached_5 : decode cX2_reached 5 = .ok (.istore 4, 2) := by decide +kernel
theorem dX2_reached_7 : decode cX2_reached 7 = .ok (.iload 4, 2) := by decide +kernel
theorem dX2_reached_9 : decode cX2_reached 9 = .ok (.bipush 7, 2) := by decide +kernel
theorem dX2_reached_11 : decode cX2_reached 11 = .ok (.if_icmp .ge 28, 3) := by decide +kernel
theorem dX2_reached_14 : decode cX2_reached 14 = .ok (.aload_n 0, 1) := by decide +kernel
theorem dX2_reached_15 : decode cX2_reached 15 = .ok (.iload_n 3, 1) := by decide +kernel
theorem dX2_reached_16 : decode cX2_reached 16 = .ok (.iload_n 2, 1) := by decide +kernel
theorem dX2_reached_17 : decode cX2_reached 17 = .ok (.invokevirtual 119, 3) := by decide +kernel
theorem dX2_reached_20 : decode cX2_reached 20 = .ok (.istore 5, 2) := by decide +kernel
theorem dX2_reached_22 : decode cX2_reached 22 = .ok (.iload 5, 2) := by decide +kernel
theorem dX2_reached_24 : decode cX2_reached 24 = .ok (.iload_n 3, 1) := by decide +kernel
theorem dX2_reached_25 : decode cX2_reached 25 = .ok (.if_icmp .ne 5, 3) := by decide +kernel
theorem dX2_reached_28 : decode cX2_reached 28 = .ok (.iload_n 3, 1) := by decide +kernel
theorem dX2_reached_29 : decode cX2_reached 29 = .ok (.ireturn, 1) := by decide +kernel
theorem dX2_reached_30 : decode cX2_reached 30 = .ok (.iload 5, 2) := by decide +kernel
theorem dX2_reached_32 : decode cX2_reached 32 = .ok (.istore_n 3, 1) := by decide +kernel
theorem dX2_reached_33 : decode cX2_reached 33 = .ok (.iinc 4 1, 3) := by decide +kernel
theorem dX2_reached_36 : decode cX2_reached 36 = .ok (.goto (-29), 3) := by decide +kernel
theorem dX2_reached_39 : decode cX2_reached 39 = .ok (.iload_n 3, 1) := by decide +kernel
theorem dX2_reached_40 : decode cX2_reached 40 = .ok (.ireturn, 1) := by decide +kernel
theorem dX2_steps_0 : decode cX2_steps 0 = .ok (.iconst 1, 1) := by decide +kernel
theorem dX2_steps_1 : decode cX2_steps 1 = .ok (.iload_n 1, 1) := by decide +kernel
theorem dX2_steps_2 : decode cX2_steps 2 = .ok (.ishl, 1) := by decide +kernel
theorem dX2_steps_3 : decode cX2_steps 3 = .ok (.istore_n 3, 1) := by decide +kernel
theorem dX2_steps_4 : decode cX2_steps 4 = .ok (.iconst 0, 1) := by decide +kernel
theorem dX2_steps_5 : decode cX2_steps 5 = .ok (.istore 4, 2) := by decide +kernel
theorem dX2_steps_7 : decode cX2_steps 7 = .ok (.iload 4, 2) := by decide +kernel
theorem dX2_steps_9 : decode cX2_steps 9 = .ok (.bipush 7, 2) := by decide +kernel
theorem dX2_steps_11 : decode cX2_steps 11 = .ok (.if_icmp .ge 27, 3) := by decide +kernel
theorem dX2_steps_14 : decode cX2_steps 14 = .ok (.iload_n 3, 1) := by decide +kernel
theorem dX2_steps_15 : decode cX2_steps 15 = .ok (.iconst 1, 1) := by decide +kernel
theorem dX2_steps_16 : decode cX2_steps 16 = .ok (.iload_n 2, 1) := by decide +kernel
theorem dX2_steps_17 : decode cX2_steps 17 = .ok (.ishl, 1) := by decide +kernel
theorem dX2_steps_18 : decode cX2_steps 18 = .ok (.iand, 1) := by decide +kernel
theorem dX2_steps_19 : decode cX2_steps 19 = .ok (.ifCond .eq 6, 3) := by decide +kernel
theorem dX2_steps_22 : decode cX2_steps 22 = .ok (.iload 4, 2) := by decide +kernel
theorem dX2_steps_24 : decode cX2_steps 24 = .ok (.ireturn, 1) := by decide +kernel
theorem dX2_steps_25 : decode cX2_steps 25 = .ok (.aload_n 0, 1) := by decide +kernel
theorem dX2_steps_26 : decode cX2_steps 26 = .ok (.iload_n 3, 1) := by decide +kernel
theorem dX2_steps_27 : decode cX2_steps 27 = .ok (.iconst (-1), 1) := by decide +kernel
theorem dX2_steps_28 : decode cX2_steps 28 = .ok (.invokevirtual 119, 3) := by decide +kernel
theorem dX2_steps_31 : decode cX2_steps 31 = .ok (.istore_n 3, 1) := by decide +kernel
theorem dX2_steps_32 : decode cX2_steps 32 = .ok (.iinc 4 1, 3) := by decide +kernel
theorem dX2_steps_35 : decode cX2_steps 35 = .ok (.goto (-28), 3) := by decide +kernel
theorem dX2_steps_38 : decode cX2_steps 38 = .ok (.iconst (-1), 1) := by decide +kernel
theorem dX2_steps_39 : decode cX2_steps 39 = .ok (.ireturn, 1) := by decide +kernel
theorem dX2_leastCut_0 : decode cX2_leastCut 0 = .ok (.iconst 1, 1) := by decide +kernel
theorem dX2_leastCut_1 : decode cX2_leastCut 1 = .ok (.aload_n 0, 1) := by decide +kernel
theorem dX2_leastCut_2 : decode cX2_leastCut 2 = .ok (.getfield 53, 3) := by decide +kernel
theorem dX2_leastCut_5 : decode cX2_leastCut 5 = .ok (.ishl, 1) := by decide +kernel
theorem dX2_leastCut_6 : decode cX2_leastCut 6 = .ok (.iconst 1, 1) := by decide +kernel
theorem dX2_leastCut_7 : decode cX2_leastCut 7 = .ok (.isub, 1) := by decide +kernel
theorem dX2_leastCut_8 : decode cX2_leastCut 8 = .ok (.istore_n 3, 1) := by decide +kernel
theorem dX2_leastCut_9 : decode cX2_leastCut 9 = .ok (.iload_n 3, 1) := by decide +kernel
theorem dX2_leastCut_10 : decode cX2_leastCut 10 = .ok (.istore 4, 2) := by decide +kernel
theorem dX2_leastCut_12 : decode cX2_leastCut 12 = .ok (.iconst 0, 1) := by decide +kernel
theorem dX2_leastCut_13 : decode cX2_leastCut 13 = .ok (.istore 5, 2) := by decide +kernel
theorem dX2_leastCut_15 : decode cX2_leastCut 15 = .ok (.iload 5, 2) := by decide +kernel
theorem dX2_leastCut_17 : decode cX2_leastCut 17 = .ok (.iload_n 3, 1) := by decide +kernel
theorem dX2_leastCut_18 : decode cX2_leastCut 18 = .ok (.if_icmp .gt 56, 3) := by decide +kernel
theorem dX2_leastCut_21 : decode cX2_leastCut 21 = .ok (.iload 5, 2) := by decide +kernel
theorem dX2_leastCut_23 : decode cX2_leastCut 23 = .ok (.invokestatic 122, 3) := by decide +kernel
theorem dX2_leastCut_26 : decode cX2_leastCut 26 = .ok (.iload 4, 2) := by decide +kernel
theorem dX2_leastCut_28 : decode cX2_leastCut 28 = .ok (.invokestatic 122, 3) := by decide +kernel
theorem dX2_leastCut_31 : decode cX2_leastCut 31 = .ok (.if_icmp .ge 7, 3) := by decide +kernel
theorem dX2_leastCut_34 : decode cX2_leastCut 34 = .ok (.iconst 1, 1) := by decide +kernel
theorem dX2_leastCut_35 : decode cX2_leastCut 35 = .ok (.goto 4, 3) := by decide +kernel
theorem dX2_leastCut_38 : decode cX2_leastCut 38 = .ok (.iconst 0, 1) := by decide +kernel
theorem dX2_leastCut_39 : decode cX2_leastCut 39 = .ok (.istore 6, 2) := by decide +kernel
theorem dX2_leastCut_41 : decode cX2_leastCut 41 = .ok (.iload 6, 2) := by decide +kernel
theorem dX2_leastCut_43 : decode cX2_leastCut 43 = .ok (.ifCond .eq 25, 3) := by decide +kernel
theorem dX2_leastCut_46 : decode cX2_leastCut 46 = .ok (.aload_n 0, 1) := by decide +kernel
theorem dX2_leastCut_47 : decode cX2_leastCut 47 = .ok (.iload_n 1, 1) := by decide +kernel
theorem dX2_leastCut_48 : decode cX2_leastCut 48 = .ok (.iload_n 3, 1) := by decide +kernel
theorem dX2_leastCut_49 : decode cX2_leastCut 49 = .ok (.iload 5, 2) := by decide +kernel
theorem dX2_leastCut_51 : decode cX2_leastCut 51 = .ok (.iconst (-1), 1) := by decide +kernel
theorem dX2_leastCut_52 : decode cX2_leastCut 52 = .ok (.ixor, 1) := by decide +kernel
theorem dX2_leastCut_53 : decode cX2_leastCut 53 = .ok (.iand, 1) := by decide +kernel
theorem dX2_leastCut_54 : decode cX2_leastCut 54 = .ok (.invokevirtual 127, 3) := by decide +kernel
theorem dX2_leastCut_57 : decode cX2_leastCut 57 = .ok (.iconst 1, 1) := by decide +kernel
theorem dX2_leastCut_58 : decode cX2_leastCut 58 = .ok (.iload_n 2, 1) := by decide +kernel
theorem dX2_leastCut_59 : decode cX2_leastCut 59 = .ok (.ishl, 1) := by decide +kernel
theorem dX2_leastCut_60 : decode cX2_leastCut 60 = .ok (.iand, 1) := by decide +kernel
theorem dX2_leastCut_61 : decode cX2_leastCut 61 = .ok (.ifCond .ne 7, 3) := by decide +kernel
theorem dX2_leastCut_64 : decode cX2_leastCut 64 = .ok (.iload 5, 2) := by decide +kernel
theorem dX2_leastCut_66 : decode cX2_leastCut 66 = .ok (.istore 4, 2) := by decide +kernel
theorem dX2_leastCut_68 : decode cX2_leastCut 68 = .ok (.iinc 5 1, 3) := by decide +kernel
theorem dX2_leastCut_71 : decode cX2_leastCut 71 = .ok (.goto (-56), 3) := by decide +kernel
theorem dX2_leastCut_74 : decode cX2_leastCut 74 = .ok (.iload 4, 2) := by decide +kernel
theorem dX2_leastCut_76 : decode cX2_leastCut 76 = .ok (.ireturn, 1) := by decide +kernel
theorem dX2_gatesThatMatter_0 : decode cX2_gatesThatMatter 0 = .ok (.aload_n 0, 1) := by decide +kernel
theorem dX2_gatesThatMatter_1 : decode cX2_gatesThatMatter 1 = .ok (.invokevirtual 130, 3) := by decide +kernel
theorem dX2_gatesThatMatter_4 : decode cX2_gatesThatMatter 4 = .ok (.istore_n 2, 1) := by decide +kernel
theorem dX2_gatesThatMatter_5 : decode cX2_gatesThatMatter 5 = .ok (.aload_n 0, 1) := by decide +kernel
theorem dX2_gatesThatMatter_6 : decode cX2_gatesThatMatter 6 = .ok (.iload_n 1, 1) := by decide +kernel
theorem dX2_gatesThatMatter_7 : decode cX2_gatesThatMatter 7 = .ok (.iload_n 2, 1) := by decide +kernel
theorem dX2_gatesThatMatter_8 : decode cX2_gatesThatMatter 8 = .ok (.invokevirtual 127, 3) := by decide +kernel
theorem dX2_gatesThatMatter_11 : decode cX2_gatesThatMatter 11 = .ok (.istore_n 3, 1) := by decide +kernel
theorem dX2_gatesThatMatter_12 : decode cX2_gatesThatMatter 12 = .ok (.iconst 0, 1) := by decide +kernel
theorem dX2_gatesThatMatter_13 : decode cX2_gatesThatMatter 13 = .ok (.istore 4, 2) := by decide +kernel
theorem dX2_gatesThatMatter_15 : decode cX2_gatesThatMatter 15 = .ok (.iconst 0, 1) := by decide +kernel
theorem dX2_gatesThatMatter_16 : decode cX2_gatesThatMatter 16 = .ok (.istore 5, 2) := by decide +kernel
theorem dX2_gatesThatMatter_18 : decode cX2_gatesThatMatter 18 = .ok (.iload 5, 2) := by decide +kernel
theorem dX2_gatesThatMatter_20 : decode cX2_gatesThatMatter 20 = .ok (.aload_n 0, 1) := by decide +kernel
theorem dX2_gatesThatMatter_21 : decode cX2_gatesThatMatter 21 = .ok (.getfield 53, 3) := by decide +kernel
theorem dX2_gatesThatMatter_24 : decode cX2_gatesThatMatter 24 = .ok (.if_icmp .ge 27, 3) := by decide +kernel
theorem dX2_gatesThatMatter_27 : decode cX2_gatesThatMatter 27 = .ok (.aload_n 0, 1) := by decide +kernel
theorem dX2_gatesThatMatter_28 : decode cX2_gatesThatMatter 28 = .ok (.iload_n 1, 1) := by decide +kernel
theorem dX2_gatesThatMatter_29 : decode cX2_gatesThatMatter 29 = .ok (.iload_n 2, 1) := by decide +kernel
theorem dX2_gatesThatMatter_30 : decode cX2_gatesThatMatter 30 = .ok (.iconst 1, 1) := by decide +kernel
theorem dX2_gatesThatMatter_31 : decode cX2_gatesThatMatter 31 = .ok (.iload 5, 2) := by decide +kernel
theorem dX2_gatesThatMatter_33 : decode cX2_gatesThatMatter 33 = .ok (.ishl, 1) := by decide +kernel
theorem dX2_gatesThatMatter_34 : decode cX2_gatesThatMatter 34 = .ok (.ior, 1) := by decide +kernel
theorem dX2_gatesThatMatter_35 : decode cX2_gatesThatMatter 35 = .ok (.invokevirtual 127, 3) := by decide +kernel
theorem dX2_gatesThatMatter_38 : decode cX2_gatesThatMatter 38 = .ok (.iload_n 3, 1) := by decide +kernel
theorem dX2_gatesThatMatter_39 : decode cX2_gatesThatMatter 39 = .ok (.if_icmp .eq 6, 3) := by decide +kernel
theorem dX2_gatesThatMatter_42 : decode cX2_gatesThatMatter 42 = .ok (.iinc 4 1, 3) := by decide +kernel
theorem dX2_gatesThatMatter_45 : decode cX2_gatesThatMatter 45 = .ok (.iinc 5 1, 3) := by decide +kernel
theorem dX2_gatesThatMatter_48 : decode cX2_gatesThatMatter 48 = .ok (.goto (-30), 3) := by decide +kernel
theorem dX2_gatesThatMatter_51 : decode cX2_gatesThatMatter 51 = .ok (.iload 4, 2) := by decide +kernel
theorem dX2_gatesThatMatter_53 : decode cX2_gatesThatMatter 53 = .ok (.ireturn, 1) := by decide +kernel
theorem dX3_init_0 : decode cX3_init 0 = .ok (.aload_n 0, 1) := by decide +kernel
theorem dX3_init_1 : decode cX3_init 1 = .ok (.invokespecial 3, 3) := by decide +kernel
theorem dX3_init_4 : decode cX3_init 4 = .ok (.aload_n 0, 1) := by decide +kernel
theorem dX3_init_5 : decode cX3_init 5 = .ok (.sipush 512, 3) := by decide +kernel
theorem dX3_init_8 : decode cX3_init 8 = .ok (.newarray .int, 2) := by decide +kernel
theorem dX3_init_10 : decode cX3_init 10 = .ok (.putfield 9, 3) := by decide +kernel
theorem dX3_init_13 : decode cX3_init 13 = .ok (.aload_n 0, 1) := by decide +kernel
theorem dX3_init_14 : decode cX3_init 14 = .ok (.sipush 512, 3) := by decide +kernel
theorem dX3_init_17 : decode cX3_init 17 = .ok (.newarray .int, 2) := by decide +kernel
theorem dX3_init_19 : decode cX3_init 19 = .ok (.putfield 15, 3) := by decide +kernel
theorem dX3_init_22 : decode cX3_init 22 = .ok (.return_, 1) := by decide +kernel
theorem dX3_fewestFor_0 : decode cX3_fewestFor 0 = .ok (.aload_n 1, 1) := by decide +kernel
theorem dX3_fewestFor_1 : decode cX3_fewestFor 1 = .ok (.getfield 18, 3) := by decide +kernel
theorem dX3_fewestFor_4 : decode cX3_fewestFor 4 = .ok (.ifCond .lt 12, 3) := by decide +kernel
theorem dX3_fewestFor_7 : decode cX3_fewestFor 7 = .ok (.aload_n 1, 1) := by decide +kernel
theorem dX3_fewestFor_8 : decode cX3_fewestFor 8 = .ok (.getfield 18, 3) := by decide +kernel
theorem dX3_fewestFor_11 : decode cX3_fewestFor 11 = .ok (.bipush 9, 2) := by decide +kernel
theorem dX3_fewestFor_13 : decode cX3_fewestFor 13 = .ok (.if_icmp .le 5, 3) := by decide +kernel
theorem dX3_fewestFor_16 : decode cX3_fewestFor 16 = .ok (.iconst (-1), 1) := by decide +kernel
theorem dX3_fewestFor_17 : decode cX3_fewestFor 17 = .ok (.ireturn, 1) := by decide +kernel
theorem dX3_fewestFor_18 : decode cX3_fewestFor 18 = .ok (.iconst 1, 1) := by decide +kernel
theorem dX3_fewestFor_19 : decode cX3_fewestFor 19 = .ok (.aload_n 1, 1) := by decide +kernel
theorem dX3_fewestFor_20 : decode cX3_fewestFor 20 = .ok (.getfield 18, 3) := by decide +kernel
theorem dX3_fewestFor_23 : decode cX3_fewestFor 23 = .ok (.ishl, 1) := by decide +kernel
theorem dX3_fewestFor_24 : decode cX3_fewestFor 24 = .ok (.istore_n 2, 1) := by decide +kernel
theorem dX3_fewestFor_25 : decode cX3_fewestFor 25 = .ok (.aload_n 0, 1) := by decide +kernel
theorem dX3_fewestFor_26 : decode cX3_fewestFor 26 = .ok (.getfield 15, 3) := by decide +kernel
theorem dX3_fewestFor_29 : decode cX3_fewestFor 29 = .ok (.iconst 0, 1) := by decide +kernel
theorem dX3_fewestFor_30 : decode cX3_fewestFor 30 = .ok (.iconst 0, 1) := by decide +kernel
theorem dX3_fewestFor_31 : decode cX3_fewestFor 31 = .ok (.iastore, 1) := by decide +kernel
theorem dX3_fewestFor_32 : decode cX3_fewestFor 32 = .ok (.iconst 1, 1) := by decide +kernel
theorem dX3_fewestFor_33 : decode cX3_fewestFor 33 = .ok (.istore_n 3, 1) := by decide +kernel
theorem dX3_fewestFor_34 : decode cX3_fewestFor 34 = .ok (.iload_n 3, 1) := by decide +kernel
theorem dX3_fewestFor_35 : decode cX3_fewestFor 35 = .ok (.iload_n 2, 1) := by decide +kernel
theorem dX3_fewestFor_36 : decode cX3_fewestFor 36 = .ok (.if_icmp .ge 17, 3) := by decide +kernel
theorem dX3_fewestFor_39 : decode cX3_fewestFor 39 = .ok (.aload_n 0, 1) := by decide +kernel
theorem dX3_fewestFor_40 : decode cX3_fewestFor 40 = .ok (.getfield 15, 3) := by decide +kernel
theorem dX3_fewestFor_43 : decode cX3_fewestFor 43 = .ok (.iload_n 3, 1) := by decide +kernel
theorem dX3_fewestFor_44 : decode cX3_fewestFor 44 = .ok (.bipush 7, 2) := by decide +kernel
theorem dX3_fewestFor_46 : decode cX3_fewestFor 46 = .ok (.iastore, 1) := by decide +kernel
theorem dX3_fewestFor_47 : decode cX3_fewestFor 47 = .ok (.iinc 3 1, 3) := by decide +kernel
theorem dX3_fewestFor_50 : decode cX3_fewestFor 50 = .ok (.goto (-16), 3) := by decide +kernel
theorem dX3_fewestFor_53 : decode cX3_fewestFor 53 = .ok (.iconst 0, 1) := by decide +kernel
theorem dX3_fewestFor_54 : decode cX3_fewestFor 54 = .ok (.istore_n 3, 1) := by decide +kernel
theorem dX3_fewestFor_55 : decode cX3_fewestFor 55 = .ok (.iload_n 3, 1) := by decide +kernel
theorem dX3_fewestFor_56 : decode cX3_fewestFor 56 = .ok (.aload_n 1, 1) := by decide +kernel
theorem dX3_fewestFor_57 : decode cX3_fewestFor 57 = .ok (.getfield 24, 3) := by decide +kernel
theorem dX3_fewestFor_60 : decode cX3_fewestFor 60 = .ok (.if_icmp .ge 26, 3) := by decide +kernel
theorem dX3_fewestFor_63 : decode cX3_fewestFor 63 = .ok (.aload_n 0, 1) := by decide +kernel
theorem dX3_fewestFor_64 : decode cX3_fewestFor 64 = .ok (.aload_n 1, 1) := by decide +kernel
theorem dX3_fewestFor_65 : decode cX3_fewestFor 65 = .ok (.iload_n 3, 1) := by decide +kernel
theorem dX3_fewestFor_66 : decode cX3_fewestFor 66 = .ok (.iload_n 2, 1) := by decide +kernel
theorem dX3_fewestFor_67 : decode cX3_fewestFor 67 = .ok (.invokevirtual 27, 3) := by decide +kernel
theorem dX3_fewestFor_70 : decode cX3_fewestFor 70 = .ok (.aload_n 0, 1) := by decide +kernel
theorem dX3_fewestFor_71 : decode cX3_fewestFor 71 = .ok (.aload_n 1, 1) := by decide +kernel
theorem dX3_fewestFor_72 : decode cX3_fewestFor 72 = .ok (.iload_n 3, 1) := by decide +kernel
theorem dX3_fewestFor_73 : decode cX3_fewestFor 73 = .ok (.invokevirtual 31, 3) := by decide +kernel
theorem dX3_fewestFor_76 : decode cX3_fewestFor 76 = .ok (.iload_n 2, 1) := by decide +kernel
theorem dX3_fewestFor_77 : decode cX3_fewestFor 77 = .ok (.invokevirtual 35, 3) := by decide +kernel
theorem dX3_fewestFor_80 : decode cX3_fewestFor 80 = .ok (.iinc 3 1, 3) := by decide +kernel
theorem dX3_fewestFor_83 : decode cX3_fewestFor 83 = .ok (.goto (-28), 3) := by decide +kernel
theorem dX3_fewestFor_86 : decode cX3_fewestFor 86 = .ok (.aload_n 0, 1) := by decide +kernel
theorem dX3_fewestFor_87 : decode cX3_fewestFor 87 = .ok (.getfield 15, 3) := by decide +kernel
theorem dX3_fewestFor_90 : decode cX3_fewestFor 90 = .ok (.iload_n 2, 1) := by decide +kernel
theorem dX3_fewestFor_91 : decode cX3_fewestFor 91 = .ok (.iconst 1, 1) := by decide +kernel
theorem dX3_fewestFor_92 : decode cX3_fewestFor 92 = .ok (.isub, 1) := by decide +kernel
theorem dX3_fewestFor_93 : decode cX3_fewestFor 93 = .ok (.iaload, 1) := by decide +kernel
theorem dX3_fewestFor_94 : decode cX3_fewestFor 94 = .ok (.istore_n 3, 1) := by decide +kernel
theorem dX3_fewestFor_95 : decode cX3_fewestFor 95 = .ok (.iload_n 3, 1) := by decide +kernel
theorem dX3_fewestFor_96 : decode cX3_fewestFor 96 = .ok (.bipush 7, 2) := by decide +kernel
theorem dX3_fewestFor_98 : decode cX3_fewestFor 98 = .ok (.if_icmp .ge 7, 3) := by decide +kernel
theorem dX3_fewestFor_101 : decode cX3_fewestFor 101 = .ok (.iload_n 3, 1) := by decide +kernel
theorem dX3_fewestFor_102 : decode cX3_fewestFor 102 = .ok (.goto 4, 3) := by decide +kernel
theorem dX3_fewestFor_105 : decode cX3_fewestFor 105 = .ok (.iconst (-1), 1) := by decide +kernel
theorem dX3_fewestFor_106 : decode cX3_fewestFor 106 = .ok (.ireturn, 1) := by decide +kernel
theorem dX3_weighSets_0 : decode cX3_weighSets 0 = .ok (.aload_n 0, 1) := by decide +kernel
theorem dX3_weighSets_1 : decode cX3_weighSets 1 = .ok (.getfield 9, 3) := by decide +kernel
theorem dX3_weighSets_4 : decode cX3_weighSets 4 = .ok (.iconst 0, 1) := by decide +kernel
theorem dX3_weighSets_5 : decode cX3_weighSets 5 = .ok (.iconst 0, 1) := by decide +kernel
theorem dX3_weighSets_6 : decode cX3_weighSets 6 = .ok (.iastore, 1) := by decide +kernel
theorem dX3_weighSets_7 : decode cX3_weighSets 7 = .ok (.iconst 0, 1) := by decide +kernel
theorem dX3_weighSets_8 : decode cX3_weighSets 8 = .ok (.istore 4, 2) := by decide +kernel
theorem dX3_weighSets_10 : decode cX3_weighSets 10 = .ok (.iload 4, 2) := by decide +kernel
theorem dX3_weighSets_12 : decode cX3_weighSets 12 = .ok (.aload_n 1, 1) := by decide +kernel
theorem dX3_weighSets_13 : decode cX3_weighSets 13 = .ok (.getfield 18, 3) := by decide +kernel
theorem dX3_weighSets_16 : decode cX3_weighSets 16 = .ok (.if_icmp .ge 69, 3) := by decide +kernel
theorem dX3_weighSets_19 : decode cX3_weighSets 19 = .ok (.aload_n 1, 1) := by decide +kernel
theorem dX3_weighSets_20 : decode cX3_weighSets 20 = .ok (.iload_n 2, 1) := by decide +kernel
theorem dX3_weighSets_21 : decode cX3_weighSets 21 = .ok (.iload 4, 2) := by decide +kernel
theorem dX3_weighSets_23 : decode cX3_weighSets 23 = .ok (.invokevirtual 39, 3) := by decide +kernel
theorem dX3_weighSets_26 : decode cX3_weighSets 26 = .ok (.istore 5, 2) := by decide +kernel
theorem dX3_weighSets_28 : decode cX3_weighSets 28 = .ok (.iconst 1, 1) := by decide +kernel
theorem dX3_weighSets_29 : decode cX3_weighSets 29 = .ok (.iload 4, 2) := by decide +kernel
theorem dX3_weighSets_31 : decode cX3_weighSets 31 = .ok (.ishl, 1) := by decide +kernel
theorem dX3_weighSets_32 : decode cX3_weighSets 32 = .ok (.istore 6, 2) := by decide +kernel
theorem dX3_weighSets_34 : decode cX3_weighSets 34 = .ok (.iconst 0, 1) := by decide +kernel
theorem dX3_weighSets_35 : decode cX3_weighSets 35 = .ok (.istore 7, 2) := by decide +kernel
theorem dX3_weighSets_37 : decode cX3_weighSets 37 = .ok (.iload 7, 2) := by decide +kernel
theorem dX3_weighSets_39 : decode cX3_weighSets 39 = .ok (.iload 6, 2) := by decide +kernel
theorem dX3_weighSets_41 : decode cX3_weighSets 41 = .ok (.if_icmp .ge 38, 3) := by decide +kernel
theorem dX3_weighSets_44 : decode cX3_weighSets 44 = .ok (.iload 6, 2) := by decide +kernel
theorem dX3_weighSets_46 : decode cX3_weighSets 46 = .ok (.iload 7, 2) := by decide +kernel
theorem dX3_weighSets_48 : decode cX3_weighSets 48 = .ok (.ior, 1) := by decide +kernel
theorem dX3_weighSets_49 : decode cX3_weighSets 49 = .ok (.iload_n 3, 1) := by decide +kernel
theorem dX3_weighSets_50 : decode cX3_weighSets 50 = .ok (.if_icmp .ge 29, 3) := by decide +kernel
theorem dX3_weighSets_53 : decode cX3_weighSets 53 = .ok (.aload_n 0, 1) := by decide +kernel
theorem dX3_weighSets_54 : decode cX3_weighSets 54 = .ok (.getfield 9, 3) := by decide +kernel
theorem dX3_weighSets_57 : decode cX3_weighSets 57 = .ok (.iload 6, 2) := by decide +kernel
theorem dX3_weighSets_59 : decode cX3_weighSets 59 = .ok (.iload 7, 2) := by decide +kernel
theorem dX3_weighSets_61 : decode cX3_weighSets 61 = .ok (.ior, 1) := by decide +kernel
theorem dX3_weighSets_62 : decode cX3_weighSets 62 = .ok (.aload_n 0, 1) := by decide +kernel
theorem dX3_weighSets_63 : decode cX3_weighSets 63 = .ok (.getfield 9, 3) := by decide +kernel
theorem dX3_weighSets_66 : decode cX3_weighSets 66 = .ok (.iload 7, 2) := by decide +kernel
theorem dX3_weighSets_68 : decode cX3_weighSets 68 = .ok (.iaload, 1) := by decide +kernel
theorem dX3_weighSets_69 : decode cX3_weighSets 69 = .ok (.iload 5, 2) := by decide +kernel
theorem dX3_weighSets_71 : decode cX3_weighSets 71 = .ok (.iadd, 1) := by decide +kernel
theorem dX3_weighSets_72 : decode cX3_weighSets 72 = .ok (.iastore, 1) := by decide +kernel
theorem dX3_weighSets_73 : decode cX3_weighSets 73 = .ok (.iinc 7 1, 3) := by decide +kernel
theorem dX3_weighSets_76 : decode cX3_weighSets 76 = .ok (.goto (-39), 3) := by decide +kernel
theorem dX3_weighSets_79 : decode cX3_weighSets 79 = .ok (.iinc 4 1, 3) := by decide +kernel
theorem dX3_weighSets_82 : decode cX3_weighSets 82 = .ok (.goto (-72), 3) := by decide +kernel
theorem dX3_weighSets_85 : decode cX3_weighSets 85 = .ok (.return_, 1) := by decide +kernel
theorem dX3_letOneHold_0 : decode cX3_letOneHold 0 = .ok (.iload_n 2, 1) := by decide +kernel
theorem dX3_letOneHold_1 : decode cX3_letOneHold 1 = .ok (.iconst 1, 1) := by decide +kernel
theorem dX3_letOneHold_2 : decode cX3_letOneHold 2 = .ok (.isub, 1) := by decide +kernel
theorem dX3_letOneHold_3 : decode cX3_letOneHold 3 = .ok (.istore_n 3, 1) := by decide +kernel
theorem dX3_letOneHold_4 : decode cX3_letOneHold 4 = .ok (.iload_n 3, 1) := by decide +kernel
theorem dX3_letOneHold_5 : decode cX3_letOneHold 5 = .ok (.ifCond .le 65, 3) := by decide +kernel
theorem dX3_letOneHold_8 : decode cX3_letOneHold 8 = .ok (.iload_n 3, 1) := by decide +kernel
theorem dX3_letOneHold_9 : decode cX3_letOneHold 9 = .ok (.istore 4, 2) := by decide +kernel
theorem dX3_letOneHold_11 : decode cX3_letOneHold 11 = .ok (.iload 4, 2) := by decide +kernel
theorem dX3_letOneHold_13 : decode cX3_letOneHold 13 = .ok (.ifCond .le 51, 3) := by decide +kernel
theorem dX3_letOneHold_16 : decode cX3_letOneHold 16 = .ok (.aload_n 0, 1) := by decide +kernel
theorem dX3_letOneHold_17 : decode cX3_letOneHold 17 = .ok (.getfield 9, 3) := by decide +kernel
theorem dX3_letOneHold_20 : decode cX3_letOneHold 20 = .ok (.iload 4, 2) := by decide +kernel
theorem dX3_letOneHold_22 : decode cX3_letOneHold 22 = .ok (.iaload, 1) := by decide +kernel
theorem dX3_letOneHold_23 : decode cX3_letOneHold 23 = .ok (.iload_n 1, 1) := by decide +kernel
theorem dX3_letOneHold_24 : decode cX3_letOneHold 24 = .ok (.if_icmp .gt 29, 3) := by decide +kernel
theorem dX3_letOneHold_27 : decode cX3_letOneHold 27 = .ok (.aload_n 0, 1) := by decide +kernel
theorem dX3_letOneHold_28 : decode cX3_letOneHold 28 = .ok (.getfield 15, 3) := by decide +kernel
theorem dX3_letOneHold_31 : decode cX3_letOneHold 31 = .ok (.iload_n 3, 1) := by decide +kernel
theorem dX3_letOneHold_32 : decode cX3_letOneHold 32 = .ok (.aload_n 0, 1) := by decide +kernel
theorem dX3_letOneHold_33 : decode cX3_letOneHold 33 = .ok (.getfield 15, 3) := by decide +kernel
theorem dX3_letOneHold_36 : decode cX3_letOneHold 36 = .ok (.iload_n 3, 1) := by decide +kernel
theorem dX3_letOneHold_37 : decode cX3_letOneHold 37 = .ok (.iaload, 1) := by decide +kernel
theorem dX3_letOneHold_38 : decode cX3_letOneHold 38 = .ok (.aload_n 0, 1) := by decide +kernel
theorem dX3_letOneHold_39 : decode cX3_letOneHold 39 = .ok (.getfield 15, 3) := by decide +kernel
theorem dX3_letOneHold_42 : decode cX3_letOneHold 42 = .ok (.iload_n 3, 1) := by decide +kernel
theorem dX3_letOneHold_43 : decode cX3_letOneHold 43 = .ok (.iload 4, 2) := by decide +kernel
theorem dX3_letOneHold_45 : decode cX3_letOneHold 45 = .ok (.ixor, 1) := by decide +kernel
theorem dX3_letOneHold_46 : decode cX3_letOneHold 46 = .ok (.iaload, 1) := by decide +kernel
theorem dX3_letOneHold_47 : decode cX3_letOneHold 47 = .ok (.iconst 1, 1) := by decide +kernel
theorem dX3_letOneHold_48 : decode cX3_letOneHold 48 = .ok (.iadd, 1) := by decide +kernel
theorem dX3_letOneHold_49 : decode cX3_letOneHold 49 = .ok (.invokestatic 43, 3) := by decide +kernel
theorem dX3_letOneHold_52 : decode cX3_letOneHold 52 = .ok (.iastore, 1) := by decide +kernel
theorem dX3_letOneHold_53 : decode cX3_letOneHold 53 = .ok (.iload 4, 2) := by decide +kernel
theorem dX3_letOneHold_55 : decode cX3_letOneHold 55 = .ok (.iconst 1, 1) := by decide +kernel
theorem dX3_letOneHold_56 : decode cX3_letOneHold 56 = .ok (.isub, 1) := by decide +kernel
theorem dX3_letOneHold_57 : decode cX3_letOneHold 57 = .ok (.iload_n 3, 1) := by decide +kernel
theorem dX3_letOneHold_58 : decode cX3_letOneHold 58 = .ok (.iand, 1) := by decide +kernel
theorem dX3_letOneHold_59 : decode cX3_letOneHold 59 = .ok (.istore 4, 2) := by decide +kernel
theorem dX3_letOneHold_61 : decode cX3_letOneHold 61 = .ok (.goto (-50), 3) := by decide +kernel
theorem dX3_letOneHold_64 : decode cX3_letOneHold 64 = .ok (.iinc 3 (-1), 3) := by decide +kernel
theorem dX3_letOneHold_67 : decode cX3_letOneHold 67 = .ok (.goto (-63), 3) := by decide +kernel
theorem dX3_letOneHold_70 : decode cX3_letOneHold 70 = .ok (.return_, 1) := by decide +kernel
theorem dX4_init_0 : decode cX4_init 0 = .ok (.aload_n 0, 1) := by decide +kernel
theorem dX4_init_1 : decode cX4_init 1 = .ok (.invokespecial 3, 3) := by decide +kernel
theorem dX4_init_4 : decode cX4_init 4 = .ok (.aload_n 0, 1) := by decide +kernel
theorem dX4_init_5 : decode cX4_init 5 = .ok (.bipush 60, 2) := by decide +kernel
theorem dX4_init_7 : decode cX4_init 7 = .ok (.newarray .int, 2) := by decide +kernel
theorem dX4_init_9 : decode cX4_init 9 = .ok (.putfield 9, 3) := by decide +kernel
theorem dX4_init_12 : decode cX4_init 12 = .ok (.aload_n 0, 1) := by decide +kernel
theorem dX4_init_13 : decode cX4_init 13 = .ok (.new 15, 3) := by decide +kernel
theorem dX4_init_16 : decode cX4_init 16 = .ok (.dup, 1) := by decide +kernel
theorem dX4_init_17 : decode cX4_init 17 = .ok (.invokespecial 17, 3) := by decide +kernel
theorem dX4_init_20 : decode cX4_init 20 = .ok (.putfield 18, 3) := by decide +kernel
theorem dX4_init_23 : decode cX4_init 23 = .ok (.aload_n 0, 1) := by decide +kernel
theorem dX4_init_24 : decode cX4_init 24 = .ok (.ldc 22, 2) := by decide +kernel
theorem dX4_init_26 : decode cX4_init 26 = .ok (.putfield 24, 3) := by decide +kernel
theorem dX4_init_29 : decode cX4_init 29 = .ok (.return_, 1) := by decide +kernel
theorem dX4_readInto_0 : decode cX4_readInto 0 = .ok (.aload_n 0, 1) := by decide +kernel
theorem dX4_readInto_1 : decode cX4_readInto 1 = .ok (.aload_n 1, 1) := by decide +kernel
theorem dX4_readInto_2 : decode cX4_readInto 2 = .ok (.putfield 18, 3) := by decide +kernel
theorem dX4_readInto_5 : decode cX4_readInto 5 = .ok (.aload_n 0, 1) := by decide +kernel
theorem dX4_readInto_6 : decode cX4_readInto 6 = .ok (.aload_n 2, 1) := by decide +kernel
theorem dX4_readInto_7 : decode cX4_readInto 7 = .ok (.getfield 28, 3) := by decide +kernel
theorem dX4_readInto_10 : decode cX4_readInto 10 = .ok (.putfield 24, 3) := by decide +kernel
theorem dX4_readInto_13 : decode cX4_readInto 13 = .ok (.aload_n 0, 1) := by decide +kernel
theorem dX4_readInto_14 : decode cX4_readInto 14 = .ok (.iconst 0, 1) := by decide +kernel
theorem dX4_readInto_15 : decode cX4_readInto 15 = .ok (.putfield 31, 3) := by decide +kernel
theorem dX4_readInto_18 : decode cX4_readInto 18 = .ok (.aload_n 0, 1) := by decide +kernel
theorem dX4_readInto_19 : decode cX4_readInto 19 = .ok (.iconst 0, 1) := by decide +kernel
theorem dX4_readInto_20 : decode cX4_readInto 20 = .ok (.putfield 35, 3) := by decide +kernel
theorem dX4_readInto_23 : decode cX4_readInto 23 = .ok (.aload_n 0, 1) := by decide +kernel
theorem dX4_readInto_24 : decode cX4_readInto 24 = .ok (.iconst (-1), 1) := by decide +kernel
theorem dX4_readInto_25 : decode cX4_readInto 25 = .ok (.putfield 38, 3) := by decide +kernel
theorem dX4_readInto_28 : decode cX4_readInto 28 = .ok (.aload_n 0, 1) := by decide +kernel
theorem dX4_readInto_29 : decode cX4_readInto 29 = .ok (.iconst 0, 1) := by decide +kernel
theorem dX4_readInto_30 : decode cX4_readInto 30 = .ok (.invokevirtual 41, 3) := by decide +kernel
theorem dX4_readInto_33 : decode cX4_readInto 33 = .ok (.aload_n 0, 1) := by decide +kernel
theorem dX4_readInto_34 : decode cX4_readInto 34 = .ok (.getfield 35, 3) := by decide +kernel
theorem dX4_readInto_37 : decode cX4_readInto 37 = .ok (.aload_n 0, 1) := by decide +kernel
theorem dX4_readInto_38 : decode cX4_readInto 38 = .ok (.getfield 18, 3) := by decide +kernel
theorem dX4_readInto_41 : decode cX4_readInto 41 = .ok (.getfield 45, 3) := by decide +kernel
theorem dX4_readInto_44 : decode cX4_readInto 44 = .ok (.if_icmp .ge 7, 3) := by decide +kernel
theorem dX4_readInto_47 : decode cX4_readInto 47 = .ok (.aload_n 0, 1) := by decide +kernel
theorem dX4_readInto_48 : decode cX4_readInto 48 = .ok (.invokevirtual 46, 3) := by decide +kernel
theorem dX4_readInto_51 : decode cX4_readInto 51 = .ok (.aload_n 0, 1) := by decide +kernel
theorem dX4_readInto_52 : decode cX4_readInto 52 = .ok (.getfield 38, 3) := by decide +kernel
theorem dX4_readInto_55 : decode cX4_readInto 55 = .ok (.ifCond .ge 15, 3) := by decide +kernel
theorem dX4_readInto_58 : decode cX4_readInto 58 = .ok (.aload_n 2, 1) := by decide +kernel
theorem dX4_readInto_59 : decode cX4_readInto 59 = .ok (.aload_n 0, 1) := by decide +kernel
theorem dX4_readInto_60 : decode cX4_readInto 60 = .ok (.getfield 9, 3) := by decide +kernel
theorem dX4_readInto_63 : decode cX4_readInto 63 = .ok (.aload_n 0, 1) := by decide +kernel
theorem dX4_readInto_64 : decode cX4_readInto 64 = .ok (.getfield 31, 3) := by decide +kernel
theorem dX4_readInto_67 : decode cX4_readInto 67 = .ok (.invokevirtual 49, 3) := by decide +kernel
theorem dX4_readInto_70 : decode cX4_readInto 70 = .ok (.aload_n 0, 1) := by decide +kernel
theorem dX4_readInto_71 : decode cX4_readInto 71 = .ok (.getfield 38, 3) := by decide +kernel
theorem dX4_readInto_74 : decode cX4_readInto 74 = .ok (.ireturn, 1) := by decide +kernel
theorem dX4_miss_0 : decode cX4_miss 0 = .ok (.aload_n 0, 1) := by decide +kernel
theorem dX4_miss_1 : decode cX4_miss 1 = .ok (.getfield 38, 3) := by decide +kernel
theorem dX4_miss_4 : decode cX4_miss 4 = .ok (.ifCond .ge 11, 3) := by decide +kernel
theorem dX4_miss_7 : decode cX4_miss 7 = .ok (.aload_n 0, 1) := by decide +kernel
theorem dX4_miss_8 : decode cX4_miss 8 = .ok (.aload_n 0, 1) := by decide +kernel
theorem dX4_miss_9 : decode cX4_miss 9 = .ok (.getfield 35, 3) := by decide +kernel
theorem dX4_miss_12 : decode cX4_miss 12 = .ok (.putfield 38, 3) := by decide +kernel
theorem dX4_miss_15 : decode cX4_miss 15 = .ok (.return_, 1) := by decide +kernel
theorem dX4_next_0 : decode cX4_next 0 = .ok (.aload_n 0, 1) := by decide +kernel
theorem dX4_next_1 : decode cX4_next 1 = .ok (.getfield 38, 3) := by decide +kernel
theorem dX4_next_4 : decode cX4_next 4 = .ok (.ifCond .ge 39, 3) := by decide +kernel
theorem dX4_next_7 : decode cX4_next 7 = .ok (.aload_n 0, 1) := by decide +kernel
theorem dX4_next_8 : decode cX4_next 8 = .ok (.getfield 35, 3) := by decide +kernel
theorem dX4_next_11 : decode cX4_next 11 = .ok (.ifCond .lt 32, 3) := by decide +kernel
theorem dX4_next_14 : decode cX4_next 14 = .ok (.aload_n 0, 1) := by decide +kernel
theorem dX4_next_15 : decode cX4_next 15 = .ok (.getfield 35, 3) := by decide +kernel
theorem dX4_next_18 : decode cX4_next 18 = .ok (.aload_n 0, 1) := by decide +kernel
theorem dX4_next_19 : decode cX4_next 19 = .ok (.getfield 18, 3) := by decide +kernel
theorem dX4_next_22 : decode cX4_next 22 = .ok (.getfield 45, 3) := by decide +kernel
theorem dX4_next_25 : decode cX4_next 25 = .ok (.if_icmp .ge 18, 3) := by decide +kernel
theorem dX4_next_28 : decode cX4_next 28 = .ok (.aload_n 0, 1) := by decide +kernel
theorem dX4_next_29 : decode cX4_next 29 = .ok (.getfield 35, 3) := by decide +kernel
theorem dX4_next_32 : decode cX4_next 32 = .ok (.aload_n 0, 1) := by decide +kernel
theorem dX4_next_33 : decode cX4_next 33 = .ok (.getfield 18, 3) := by decide +kernel
theorem dX4_next_36 : decode cX4_next 36 = .ok (.getfield 53, 3) := by decide +kernel
theorem dX4_next_39 : decode cX4_next 39 = .ok (.arraylength, 1) := by decide +kernel
theorem dX4_next_40 : decode cX4_next 40 = .ok (.if_icmp .lt 5, 3) := by decide +kernel
theorem dX4_next_43 : decode cX4_next 43 = .ok (.iconst (-1), 1) := by decide +kernel
theorem dX4_next_44 : decode cX4_next 44 = .ok (.ireturn, 1) := by decide +kernel
theorem dX4_next_45 : decode cX4_next 45 = .ok (.aload_n 0, 1) := by decide +kernel
theorem dX4_next_46 : decode cX4_next 46 = .ok (.getfield 18, 3) := by decide +kernel
theorem dX4_next_49 : decode cX4_next 49 = .ok (.getfield 53, 3) := by decide +kernel
theorem dX4_next_52 : decode cX4_next 52 = .ok (.aload_n 0, 1) := by decide +kernel
theorem dX4_next_53 : decode cX4_next 53 = .ok (.getfield 35, 3) := by decide +kernel
theorem dX4_next_56 : decode cX4_next 56 = .ok (.baload, 1) := by decide +kernel
theorem dX4_next_57 : decode cX4_next 57 = .ok (.sipush 255, 3) := by decide +kernel
theorem dX4_next_60 : decode cX4_next 60 = .ok (.iand, 1) := by decide +kernel
theorem dX4_next_61 : decode cX4_next 61 = .ok (.ireturn, 1) := by decide +kernel
theorem dX4_write_0 : decode cX4_write 0 = .ok (.aload_n 0, 1) := by decide +kernel
theorem dX4_write_1 : decode cX4_write 1 = .ok (.getfield 38, 3) := by decide +kernel
theorem dX4_write_4 : decode cX4_write 4 = .ok (.ifCond .ge 35, 3) := by decide +kernel
theorem dX4_write_7 : decode cX4_write 7 = .ok (.aload_n 0, 1) := by decide +kernel
theorem dX4_write_8 : decode cX4_write 8 = .ok (.getfield 31, 3) := by decide +kernel
theorem dX4_write_11 : decode cX4_write 11 = .ok (.aload_n 0, 1) := by decide +kernel
theorem dX4_write_12 : decode cX4_write 12 = .ok (.getfield 9, 3) := by decide +kernel
theorem dX4_write_15 : decode cX4_write 15 = .ok (.arraylength, 1) := by decide +kernel
theorem dX4_write_16 : decode cX4_write 16 = .ok (.if_icmp .ge 23, 3) := by decide +kernel
theorem dX4_write_19 : decode cX4_write 19 = .ok (.aload_n 0, 1) := by decide +kernel
theorem dX4_write_20 : decode cX4_write 20 = .ok (.getfield 9, 3) := by decide +kernel
theorem dX4_write_23 : decode cX4_write 23 = .ok (.aload_n 0, 1) := by decide +kernel
theorem dX4_write_24 : decode cX4_write 24 = .ok (.getfield 31, 3) := by decide +kernel
theorem dX4_write_27 : decode cX4_write 27 = .ok (.iload_n 1, 1) := by decide +kernel
theorem dX4_write_28 : decode cX4_write 28 = .ok (.iastore, 1) := by decide +kernel
theorem dX4_write_29 : decode cX4_write 29 = .ok (.aload_n 0, 1) := by decide +kernel
theorem dX4_write_30 : decode cX4_write 30 = .ok (.dup, 1) := by decide +kernel
theorem dX4_write_31 : decode cX4_write 31 = .ok (.getfield 31, 3) := by decide +kernel
theorem dX4_write_34 : decode cX4_write 34 = .ok (.iconst 1, 1) := by decide +kernel
theorem dX4_write_35 : decode cX4_write 35 = .ok (.iadd, 1) := by decide +kernel
theorem dX4_write_36 : decode cX4_write 36 = .ok (.putfield 31, 3) := by decide +kernel
theorem dX4_write_39 : decode cX4_write 39 = .ok (.return_, 1) := by decide +kernel
theorem dX4_readEither_0 : decode cX4_readEither 0 = .ok (.aload_n 0, 1) := by decide +kernel
theorem dX4_readEither_1 : decode cX4_readEither 1 = .ok (.iload_n 1, 1) := by decide +kernel
theorem dX4_readEither_2 : decode cX4_readEither 2 = .ok (.invokevirtual 57, 3) := by decide +kernel
theorem dX4_readEither_5 : decode cX4_readEither 5 = .ok (.iconst 0, 1) := by decide +kernel
theorem dX4_readEither_6 : decode cX4_readEither 6 = .ok (.istore_n 2, 1) := by decide +kernel
theorem dX4_readEither_7 : decode cX4_readEither 7 = .ok (.iload_n 2, 1) := by decide +kernel
theorem dX4_readEither_8 : decode cX4_readEither 8 = .ok (.bipush 60, 2) := by decide +kernel
theorem dX4_readEither_10 : decode cX4_readEither 10 = .ok (.if_icmp .ge 39, 3) := by decide +kernel
theorem dX4_readEither_13 : decode cX4_readEither 13 = .ok (.aload_n 0, 1) := by decide +kernel
theorem dX4_readEither_14 : decode cX4_readEither 14 = .ok (.invokevirtual 60, 3) := by decide +kernel
theorem dX4_readEither_17 : decode cX4_readEither 17 = .ok (.bipush 124, 2) := by decide +kernel
theorem dX4_readEither_19 : decode cX4_readEither 19 = .ok (.if_icmp .ne 30, 3) := by decide +kernel
theorem dX4_readEither_22 : decode cX4_readEither 22 = .ok (.aload_n 0, 1) := by decide +kernel
theorem dX4_readEither_23 : decode cX4_readEither 23 = .ok (.dup, 1) := by decide +kernel
theorem dX4_readEither_24 : decode cX4_readEither 24 = .ok (.getfield 35, 3) := by decide +kernel
theorem dX4_readEither_27 : decode cX4_readEither 27 = .ok (.iconst 1, 1) := by decide +kernel
theorem dX4_readEither_28 : decode cX4_readEither 28 = .ok (.iadd, 1) := by decide +kernel
theorem dX4_readEither_29 : decode cX4_readEither 29 = .ok (.putfield 35, 3) := by decide +kernel
theorem dX4_readEither_32 : decode cX4_readEither 32 = .ok (.aload_n 0, 1) := by decide +kernel
theorem dX4_readEither_33 : decode cX4_readEither 33 = .ok (.iload_n 1, 1) := by decide +kernel
theorem dX4_readEither_34 : decode cX4_readEither 34 = .ok (.invokevirtual 57, 3) := by decide +kernel
theorem dX4_readEither_37 : decode cX4_readEither 37 = .ok (.aload_n 0, 1) := by decide +kernel
theorem dX4_readEither_38 : decode cX4_readEither 38 = .ok (.bipush (-124), 2) := by decide +kernel
theorem dX4_readEither_40 : decode cX4_readEither 40 = .ok (.invokevirtual 64, 3) := by decide +kernel
theorem dX4_readEither_43 : decode cX4_readEither 43 = .ok (.iinc 2 1, 3) := by decide +kernel
theorem dX4_readEither_46 : decode cX4_readEither 46 = .ok (.goto (-39), 3) := by decide +kernel
theorem dX4_readEither_49 : decode cX4_readEither 49 = .ok (.return_, 1) := by decide +kernel
theorem dX4_readBoth_0 : decode cX4_readBoth 0 = .ok (.aload_n 0, 1) := by decide +kernel
theorem dX4_readBoth_1 : decode cX4_readBoth 1 = .ok (.iload_n 1, 1) := by decide +kernel
theorem dX4_readBoth_2 : decode cX4_readBoth 2 = .ok (.invokevirtual 67, 3) := by decide +kernel
theorem dX4_readBoth_5 : decode cX4_readBoth 5 = .ok (.iconst 0, 1) := by decide +kernel
theorem dX4_readBoth_6 : decode cX4_readBoth 6 = .ok (.istore_n 2, 1) := by decide +kernel
theorem dX4_readBoth_7 : decode cX4_readBoth 7 = .ok (.iload_n 2, 1) := by decide +kernel
theorem dX4_readBoth_8 : decode cX4_readBoth 8 = .ok (.bipush 60, 2) := by decide +kernel
theorem dX4_readBoth_10 : decode cX4_readBoth 10 = .ok (.if_icmp .ge 39, 3) := by decide +kernel
theorem dX4_readBoth_13 : decode cX4_readBoth 13 = .ok (.aload_n 0, 1) := by decide +kernel
theorem dX4_readBoth_14 : decode cX4_readBoth 14 = .ok (.invokevirtual 60, 3) := by decide +kernel
theorem dX4_readBoth_17 : decode cX4_readBoth 17 = .ok (.bipush 38, 2) := by decide +kernel
theorem dX4_readBoth_19 : decode cX4_readBoth 19 = .ok (.if_icmp .ne 30, 3) := by decide +kernel
theorem dX4_readBoth_22 : decode cX4_readBoth 22 = .ok (.aload_n 0, 1) := by decide +kernel
theorem dX4_readBoth_23 : decode cX4_readBoth 23 = .ok (.dup, 1) := by decide +kernel
theorem dX4_readBoth_24 : decode cX4_readBoth 24 = .ok (.getfield 35, 3) := by decide +kernel
theorem dX4_readBoth_27 : decode cX4_readBoth 27 = .ok (.iconst 1, 1) := by decide +kernel
theorem dX4_readBoth_28 : decode cX4_readBoth 28 = .ok (.iadd, 1) := by decide +kernel
theorem dX4_readBoth_29 : decode cX4_readBoth 29 = .ok (.putfield 35, 3) := by decide +kernel
theorem dX4_readBoth_32 : decode cX4_readBoth 32 = .ok (.aload_n 0, 1) := by decide +kernel
theorem dX4_readBoth_33 : decode cX4_readBoth 33 = .ok (.iload_n 1, 1) := by decide +kernel
theorem dX4_readBoth_34 : decode cX4_readBoth 34 = .ok (.invokevirtual 67, 3) := by decide +kernel
theorem dX4_readBoth_37 : decode cX4_readBoth 37 = .ok (.aload_n 0, 1) := by decide +kernel
theorem dX4_readBoth_38 : decode cX4_readBoth 38 = .ok (.bipush (-38), 2) := by decide +kernel
theorem dX4_readBoth_40 : decode cX4_readBoth 40 = .ok (.invokevirtual 64, 3) := by decide +kernel
theorem dX4_readBoth_43 : decode cX4_readBoth 43 = .ok (.iinc 2 1, 3) := by decide +kernel
theorem dX4_readBoth_46 : decode cX4_readBoth 46 = .ok (.goto (-39), 3) := by decide +kernel
theorem dX4_readBoth_49 : decode cX4_readBoth 49 = .ok (.return_, 1) := by decide +kernel
theorem dX4_readCompared_0 : decode cX4_readCompared 0 = .ok (.aload_n 0, 1) := by decide +kernel
theorem dX4_readCompared_1 : decode cX4_readCompared 1 = .ok (.iload_n 1, 1) := by decide +kernel
theorem dX4_readCompared_2 : decode cX4_readCompared 2 = .ok (.invokevirtual 70, 3) := by decide +kernel
theorem dX4_readCompared_5 : decode cX4_readCompared 5 = .ok (.aload_n 0, 1) := by decide +kernel
theorem dX4_readCompared_6 : decode cX4_readCompared 6 = .ok (.invokevirtual 60, 3) := by decide +kernel
theorem dX4_readCompared_9 : decode cX4_readCompared 9 = .ok (.istore_n 2, 1) := by decide +kernel
theorem dX4_readCompared_10 : decode cX4_readCompared 10 = .ok (.iload_n 2, 1) := by decide +kernel
theorem dX4_readCompared_11 : decode cX4_readCompared 11 = .ok (.bipush 60, 2) := by decide +kernel
theorem dX4_readCompared_13 : decode cX4_readCompared 13 = .ok (.if_icmp .eq 15, 3) := by decide +kernel
theorem dX4_readCompared_16 : decode cX4_readCompared 16 = .ok (.iload_n 2, 1) := by decide +kernel
theorem dX4_readCompared_17 : decode cX4_readCompared 17 = .ok (.bipush 61, 2) := by decide +kernel
theorem dX4_readCompared_19 : decode cX4_readCompared 19 = .ok (.if_icmp .eq 9, 3) := by decide +kernel
theorem dX4_readCompared_22 : decode cX4_readCompared 22 = .ok (.iload_n 2, 1) := by decide +kernel
theorem dX4_readCompared_23 : decode cX4_readCompared 23 = .ok (.bipush 62, 2) := by decide +kernel
theorem dX4_readCompared_25 : decode cX4_readCompared 25 = .ok (.if_icmp .ne 24, 3) := by decide +kernel
theorem dX4_readCompared_28 : decode cX4_readCompared 28 = .ok (.aload_n 0, 1) := by decide +kernel
theorem dX4_readCompared_29 : decode cX4_readCompared 29 = .ok (.dup, 1) := by decide +kernel
theorem dX4_readCompared_30 : decode cX4_readCompared 30 = .ok (.getfield 35, 3) := by decide +kernel
theorem dX4_readCompared_33 : decode cX4_readCompared 33 = .ok (.iconst 1, 1) := by decide +kernel
theorem dX4_readCompared_34 : decode cX4_readCompared 34 = .ok (.iadd, 1) := by decide +kernel
theorem dX4_readCompared_35 : decode cX4_readCompared 35 = .ok (.putfield 35, 3) := by decide +kernel
theorem dX4_readCompared_38 : decode cX4_readCompared 38 = .ok (.aload_n 0, 1) := by decide +kernel
theorem dX4_readCompared_39 : decode cX4_readCompared 39 = .ok (.iload_n 1, 1) := by decide +kernel
theorem dX4_readCompared_40 : decode cX4_readCompared 40 = .ok (.invokevirtual 70, 3) := by decide +kernel
theorem dX4_readCompared_43 : decode cX4_readCompared 43 = .ok (.aload_n 0, 1) := by decide +kernel
theorem dX4_readCompared_44 : decode cX4_readCompared 44 = .ok (.iload_n 2, 1) := by decide +kernel
theorem dX4_readCompared_45 : decode cX4_readCompared 45 = .ok (.ineg, 1) := by decide +kernel
theorem dX4_readCompared_46 : decode cX4_readCompared 46 = .ok (.invokevirtual 64, 3) := by decide +kernel
theorem dX4_readCompared_49 : decode cX4_readCompared 49 = .ok (.return_, 1) := by decide +kernel
theorem dX4_readSum_0 : decode cX4_readSum 0 = .ok (.aload_n 0, 1) := by decide +kernel
theorem dX4_readSum_1 : decode cX4_readSum 1 = .ok (.iload_n 1, 1) := by decide +kernel
theorem dX4_readSum_2 : decode cX4_readSum 2 = .ok (.invokevirtual 73, 3) := by decide +kernel
theorem dX4_readSum_5 : decode cX4_readSum 5 = .ok (.aload_n 0, 1) := by decide +kernel
theorem dX4_readSum_6 : decode cX4_readSum 6 = .ok (.invokevirtual 60, 3) := by decide +kernel
theorem dX4_readSum_9 : decode cX4_readSum 9 = .ok (.istore_n 2, 1) := by decide +kernel
theorem dX4_readSum_10 : decode cX4_readSum 10 = .ok (.iconst 0, 1) := by decide +kernel
theorem dX4_readSum_11 : decode cX4_readSum 11 = .ok (.istore_n 3, 1) := by decide +kernel
theorem dX4_readSum_12 : decode cX4_readSum 12 = .ok (.iload_n 3, 1) := by decide +kernel
theorem dX4_readSum_13 : decode cX4_readSum 13 = .ok (.bipush 60, 2) := by decide +kernel
theorem dX4_readSum_15 : decode cX4_readSum 15 = .ok (.if_icmp .ge 47, 3) := by decide +kernel
theorem dX4_readSum_18 : decode cX4_readSum 18 = .ok (.iload_n 2, 1) := by decide +kernel
theorem dX4_readSum_19 : decode cX4_readSum 19 = .ok (.bipush 43, 2) := by decide +kernel
theorem dX4_readSum_21 : decode cX4_readSum 21 = .ok (.if_icmp .eq 9, 3) := by decide +kernel
theorem dX4_readSum_24 : decode cX4_readSum 24 = .ok (.iload_n 2, 1) := by decide +kernel
theorem dX4_readSum_25 : decode cX4_readSum 25 = .ok (.bipush 45, 2) := by decide +kernel
theorem dX4_readSum_27 : decode cX4_readSum 27 = .ok (.if_icmp .ne 35, 3) := by decide +kernel
theorem dX4_readSum_30 : decode cX4_readSum 30 = .ok (.aload_n 0, 1) := by decide +kernel
theorem dX4_readSum_31 : decode cX4_readSum 31 = .ok (.dup, 1) := by decide +kernel
theorem dX4_readSum_32 : decode cX4_readSum 32 = .ok (.getfield 35, 3) := by decide +kernel
theorem dX4_readSum_35 : decode cX4_readSum 35 = .ok (.iconst 1, 1) := by decide +kernel
theorem dX4_readSum_36 : decode cX4_readSum 36 = .ok (.iadd, 1) := by decide +kernel
theorem dX4_readSum_37 : decode cX4_readSum 37 = .ok (.putfield 35, 3) := by decide +kernel
theorem dX4_readSum_40 : decode cX4_readSum 40 = .ok (.aload_n 0, 1) := by decide +kernel
theorem dX4_readSum_41 : decode cX4_readSum 41 = .ok (.iload_n 1, 1) := by decide +kernel
theorem dX4_readSum_42 : decode cX4_readSum 42 = .ok (.invokevirtual 73, 3) := by decide +kernel
theorem dX4_readSum_45 : decode cX4_readSum 45 = .ok (.aload_n 0, 1) := by decide +kernel
theorem dX4_readSum_46 : decode cX4_readSum 46 = .ok (.iload_n 2, 1) := by decide +kernel
theorem dX4_readSum_47 : decode cX4_readSum 47 = .ok (.ineg, 1) := by decide +kernel
theorem dX4_readSum_48 : decode cX4_readSum 48 = .ok (.invokevirtual 64, 3) := by decide +kernel
theorem dX4_readSum_51 : decode cX4_readSum 51 = .ok (.aload_n 0, 1) := by decide +kernel
theorem dX4_readSum_52 : decode cX4_readSum 52 = .ok (.invokevirtual 60, 3) := by decide +kernel
theorem dX4_readSum_55 : decode cX4_readSum 55 = .ok (.istore_n 2, 1) := by decide +kernel
theorem dX4_readSum_56 : decode cX4_readSum 56 = .ok (.iinc 3 1, 3) := by decide +kernel
theorem dX4_readSum_59 : decode cX4_readSum 59 = .ok (.goto (-47), 3) := by decide +kernel
theorem dX4_readSum_62 : decode cX4_readSum 62 = .ok (.return_, 1) := by decide +kernel
theorem dX4_readProduct_0 : decode cX4_readProduct 0 = .ok (.aload_n 0, 1) := by decide +kernel
theorem dX4_readProduct_1 : decode cX4_readProduct 1 = .ok (.iload_n 1, 1) := by decide +kernel
theorem dX4_readProduct_2 : decode cX4_readProduct 2 = .ok (.invokevirtual 76, 3) := by decide +kernel
theorem dX4_readProduct_5 : decode cX4_readProduct 5 = .ok (.aload_n 0, 1) := by decide +kernel
theorem dX4_readProduct_6 : decode cX4_readProduct 6 = .ok (.invokevirtual 60, 3) := by decide +kernel
theorem dX4_readProduct_9 : decode cX4_readProduct 9 = .ok (.istore_n 2, 1) := by decide +kernel
theorem dX4_readProduct_10 : decode cX4_readProduct 10 = .ok (.iconst 0, 1) := by decide +kernel
theorem dX4_readProduct_11 : decode cX4_readProduct 11 = .ok (.istore_n 3, 1) := by decide +kernel
theorem dX4_readProduct_12 : decode cX4_readProduct 12 = .ok (.iload_n 3, 1) := by decide +kernel
theorem dX4_readProduct_13 : decode cX4_readProduct 13 = .ok (.bipush 60, 2) := by decide +kernel
theorem dX4_readProduct_15 : decode cX4_readProduct 15 = .ok (.if_icmp .ge 53, 3) := by decide +kernel
theorem dX4_readProduct_18 : decode cX4_readProduct 18 = .ok (.iload_n 2, 1) := by decide +kernel
theorem dX4_readProduct_19 : decode cX4_readProduct 19 = .ok (.bipush 42, 2) := by decide +kernel
theorem dX4_readProduct_21 : decode cX4_readProduct 21 = .ok (.if_icmp .eq 15, 3) := by decide +kernel
theorem dX4_readProduct_24 : decode cX4_readProduct 24 = .ok (.iload_n 2, 1) := by decide +kernel
theorem dX4_readProduct_25 : decode cX4_readProduct 25 = .ok (.bipush 47, 2) := by decide +kernel
theorem dX4_readProduct_27 : decode cX4_readProduct 27 = .ok (.if_icmp .eq 9, 3) := by decide +kernel
theorem dX4_readProduct_30 : decode cX4_readProduct 30 = .ok (.iload_n 2, 1) := by decide +kernel
theorem dX4_readProduct_31 : decode cX4_readProduct 31 = .ok (.bipush 37, 2) := by decide +kernel
theorem dX4_readProduct_33 : decode cX4_readProduct 33 = .ok (.if_icmp .ne 35, 3) := by decide +kernel
theorem dX4_readProduct_36 : decode cX4_readProduct 36 = .ok (.aload_n 0, 1) := by decide +kernel
theorem dX4_readProduct_37 : decode cX4_readProduct 37 = .ok (.dup, 1) := by decide +kernel
theorem dX4_readProduct_38 : decode cX4_readProduct 38 = .ok (.getfield 35, 3) := by decide +kernel
theorem dX4_readProduct_41 : decode cX4_readProduct 41 = .ok (.iconst 1, 1) := by decide +kernel
theorem dX4_readProduct_42 : decode cX4_readProduct 42 = .ok (.iadd, 1) := by decide +kernel
theorem dX4_readProduct_43 : decode cX4_readProduct 43 = .ok (.putfield 35, 3) := by decide +kernel
theorem dX4_readProduct_46 : decode cX4_readProduct 46 = .ok (.aload_n 0, 1) := by decide +kernel
theorem dX4_readProduct_47 : decode cX4_readProduct 47 = .ok (.iload_n 1, 1) := by decide +kernel
theorem dX4_readProduct_48 : decode cX4_readProduct 48 = .ok (.invokevirtual 76, 3) := by decide +kernel
theorem dX4_readProduct_51 : decode cX4_readProduct 51 = .ok (.aload_n 0, 1) := by decide +kernel
theorem dX4_readProduct_52 : decode cX4_readProduct 52 = .ok (.iload_n 2, 1) := by decide +kernel
theorem dX4_readProduct_53 : decode cX4_readProduct 53 = .ok (.ineg, 1) := by decide +kernel
theorem dX4_readProduct_54 : decode cX4_readProduct 54 = .ok (.invokevirtual 64, 3) := by decide +kernel
theorem dX4_readProduct_57 : decode cX4_readProduct 57 = .ok (.aload_n 0, 1) := by decide +kernel
theorem dX4_readProduct_58 : decode cX4_readProduct 58 = .ok (.invokevirtual 60, 3) := by decide +kernel
theorem dX4_readProduct_61 : decode cX4_readProduct 61 = .ok (.istore_n 2, 1) := by decide +kernel
theorem dX4_readProduct_62 : decode cX4_readProduct 62 = .ok (.iinc 3 1, 3) := by decide +kernel
theorem dX4_readProduct_65 : decode cX4_readProduct 65 = .ok (.goto (-53), 3) := by decide +kernel
theorem dX4_readProduct_68 : decode cX4_readProduct 68 = .ok (.return_, 1) := by decide +kernel
theorem dX4_readPart_0 : decode cX4_readPart 0 = .ok (.aload_n 0, 1) := by decide +kernel
theorem dX4_readPart_1 : decode cX4_readPart 1 = .ok (.invokevirtual 60, 3) := by decide +kernel
theorem dX4_readPart_4 : decode cX4_readPart 4 = .ok (.istore_n 2, 1) := by decide +kernel
theorem dX4_readPart_5 : decode cX4_readPart 5 = .ok (.iload_n 1, 1) := by decide +kernel
theorem dX4_readPart_6 : decode cX4_readPart 6 = .ok (.iconst 5, 1) := by decide +kernel
theorem dX4_readPart_7 : decode cX4_readPart 7 = .ok (.if_icmp .ge 7, 3) := by decide +kernel
theorem dX4_readPart_10 : decode cX4_readPart 10 = .ok (.iconst 1, 1) := by decide +kernel
theorem dX4_readPart_11 : decode cX4_readPart 11 = .ok (.goto 4, 3) := by decide +kernel
theorem dX4_readPart_14 : decode cX4_readPart 14 = .ok (.iconst 0, 1) := by decide +kernel
theorem dX4_readPart_15 : decode cX4_readPart 15 = .ok (.istore_n 3, 1) := by decide +kernel
theorem dX4_readPart_16 : decode cX4_readPart 16 = .ok (.iload_n 2, 1) := by decide +kernel
theorem dX4_readPart_17 : decode cX4_readPart 17 = .ok (.invokestatic 79, 3) := by decide +kernel
theorem dX4_readPart_20 : decode cX4_readPart 20 = .ok (.ifCond .eq 10, 3) := by decide +kernel
theorem dX4_readPart_23 : decode cX4_readPart 23 = .ok (.aload_n 0, 1) := by decide +kernel
theorem dX4_readPart_24 : decode cX4_readPart 24 = .ok (.invokevirtual 83, 3) := by decide +kernel
theorem dX4_readPart_27 : decode cX4_readPart 27 = .ok (.goto 78, 3) := by decide +kernel
theorem dX4_readPart_30 : decode cX4_readPart 30 = .ok (.iload_n 2, 1) := by decide +kernel
theorem dX4_readPart_31 : decode cX4_readPart 31 = .ok (.bipush 33, 2) := by decide +kernel
theorem dX4_readPart_33 : decode cX4_readPart 33 = .ok (.if_icmp .ne 33, 3) := by decide +kernel
theorem dX4_readPart_36 : decode cX4_readPart 36 = .ok (.iload_n 3, 1) := by decide +kernel
theorem dX4_readPart_37 : decode cX4_readPart 37 = .ok (.ifCond .eq 29, 3) := by decide +kernel
theorem dX4_readPart_40 : decode cX4_readPart 40 = .ok (.aload_n 0, 1) := by decide +kernel
theorem dX4_readPart_41 : decode cX4_readPart 41 = .ok (.dup, 1) := by decide +kernel
theorem dX4_readPart_42 : decode cX4_readPart 42 = .ok (.getfield 35, 3) := by decide +kernel
theorem dX4_readPart_45 : decode cX4_readPart 45 = .ok (.iconst 1, 1) := by decide +kernel
theorem dX4_readPart_46 : decode cX4_readPart 46 = .ok (.iadd, 1) := by decide +kernel
theorem dX4_readPart_47 : decode cX4_readPart 47 = .ok (.putfield 35, 3) := by decide +kernel
theorem dX4_readPart_50 : decode cX4_readPart 50 = .ok (.aload_n 0, 1) := by decide +kernel
theorem dX4_readPart_51 : decode cX4_readPart 51 = .ok (.iload_n 1, 1) := by decide +kernel
theorem dX4_readPart_52 : decode cX4_readPart 52 = .ok (.iconst 1, 1) := by decide +kernel
theorem dX4_readPart_53 : decode cX4_readPart 53 = .ok (.iadd, 1) := by decide +kernel
theorem dX4_readPart_54 : decode cX4_readPart 54 = .ok (.invokevirtual 76, 3) := by decide +kernel
theorem dX4_readPart_57 : decode cX4_readPart 57 = .ok (.aload_n 0, 1) := by decide +kernel
theorem dX4_readPart_58 : decode cX4_readPart 58 = .ok (.bipush (-33), 2) := by decide +kernel
theorem dX4_readPart_60 : decode cX4_readPart 60 = .ok (.invokevirtual 64, 3) := by decide +kernel
theorem dX4_readPart_63 : decode cX4_readPart 63 = .ok (.goto 42, 3) := by decide +kernel
theorem dX4_readPart_66 : decode cX4_readPart 66 = .ok (.iload_n 2, 1) := by decide +kernel
theorem dX4_readPart_67 : decode cX4_readPart 67 = .ok (.bipush 40, 2) := by decide +kernel
theorem dX4_readPart_69 : decode cX4_readPart 69 = .ok (.if_icmp .ne 31, 3) := by decide +kernel
theorem dX4_readPart_72 : decode cX4_readPart 72 = .ok (.iload_n 3, 1) := by decide +kernel
theorem dX4_readPart_73 : decode cX4_readPart 73 = .ok (.ifCond .eq 27, 3) := by decide +kernel
theorem dX4_readPart_76 : decode cX4_readPart 76 = .ok (.aload_n 0, 1) := by decide +kernel
theorem dX4_readPart_77 : decode cX4_readPart 77 = .ok (.dup, 1) := by decide +kernel
theorem dX4_readPart_78 : decode cX4_readPart 78 = .ok (.getfield 35, 3) := by decide +kernel
theorem dX4_readPart_81 : decode cX4_readPart 81 = .ok (.iconst 1, 1) := by decide +kernel
theorem dX4_readPart_82 : decode cX4_readPart 82 = .ok (.iadd, 1) := by decide +kernel
theorem dX4_readPart_83 : decode cX4_readPart 83 = .ok (.putfield 35, 3) := by decide +kernel
theorem dX4_readPart_86 : decode cX4_readPart 86 = .ok (.aload_n 0, 1) := by decide +kernel
theorem dX4_readPart_87 : decode cX4_readPart 87 = .ok (.iload_n 1, 1) := by decide +kernel
theorem dX4_readPart_88 : decode cX4_readPart 88 = .ok (.iconst 1, 1) := by decide +kernel
theorem dX4_readPart_89 : decode cX4_readPart 89 = .ok (.iadd, 1) := by decide +kernel
theorem dX4_readPart_90 : decode cX4_readPart 90 = .ok (.invokevirtual 41, 3) := by decide +kernel
theorem dX4_readPart_93 : decode cX4_readPart 93 = .ok (.aload_n 0, 1) := by decide +kernel
theorem dX4_readPart_94 : decode cX4_readPart 94 = .ok (.invokevirtual 86, 3) := by decide +kernel
theorem dX4_readPart_97 : decode cX4_readPart 97 = .ok (.goto 8, 3) := by decide +kernel
theorem dX4_readPart_100 : decode cX4_readPart 100 = .ok (.aload_n 0, 1) := by decide +kernel
theorem dX4_readPart_101 : decode cX4_readPart 101 = .ok (.iload_n 2, 1) := by decide +kernel
theorem dX4_readPart_102 : decode cX4_readPart 102 = .ok (.invokevirtual 89, 3) := by decide +kernel
theorem dX4_readPart_105 : decode cX4_readPart 105 = .ok (.return_, 1) := by decide +kernel
theorem dX4_readClosing_0 : decode cX4_readClosing 0 = .ok (.aload_n 0, 1) := by decide +kernel
theorem dX4_readClosing_1 : decode cX4_readClosing 1 = .ok (.invokevirtual 60, 3) := by decide +kernel
theorem dX4_readClosing_4 : decode cX4_readClosing 4 = .ok (.bipush 41, 2) := by decide +kernel
theorem dX4_readClosing_6 : decode cX4_readClosing 6 = .ok (.if_icmp .ne 16, 3) := by decide +kernel
theorem dX4_readClosing_9 : decode cX4_readClosing 9 = .ok (.aload_n 0, 1) := by decide +kernel
theorem dX4_readClosing_10 : decode cX4_readClosing 10 = .ok (.dup, 1) := by decide +kernel
theorem dX4_readClosing_11 : decode cX4_readClosing 11 = .ok (.getfield 35, 3) := by decide +kernel
theorem dX4_readClosing_14 : decode cX4_readClosing 14 = .ok (.iconst 1, 1) := by decide +kernel
theorem dX4_readClosing_15 : decode cX4_readClosing 15 = .ok (.iadd, 1) := by decide +kernel
theorem dX4_readClosing_16 : decode cX4_readClosing 16 = .ok (.putfield 35, 3) := by decide +kernel
theorem dX4_readClosing_19 : decode cX4_readClosing 19 = .ok (.goto 7, 3) := by decide +kernel
theorem dX4_readClosing_22 : decode cX4_readClosing 22 = .ok (.aload_n 0, 1) := by decide +kernel
theorem dX4_readClosing_23 : decode cX4_readClosing 23 = .ok (.invokevirtual 46, 3) := by decide +kernel
theorem dX4_readClosing_26 : decode cX4_readClosing 26 = .ok (.return_, 1) := by decide +kernel
theorem dX4_readName_0 : decode cX4_readName 0 = .ok (.iload_n 1, 1) := by decide +kernel
theorem dX4_readName_1 : decode cX4_readName 1 = .ok (.ifCond .ge 7, 3) := by decide +kernel
theorem dX4_readName_4 : decode cX4_readName 4 = .ok (.iconst (-1), 1) := by decide +kernel
theorem dX4_readName_5 : decode cX4_readName 5 = .ok (.goto 12, 3) := by decide +kernel
theorem dX4_readName_8 : decode cX4_readName 8 = .ok (.aload_n 0, 1) := by decide +kernel
theorem dX4_readName_9 : decode cX4_readName 9 = .ok (.getfield 24, 3) := by decide +kernel
theorem dX4_readName_12 : decode cX4_readName 12 = .ok (.iload_n 1, 1) := by decide +kernel
theorem dX4_readName_13 : decode cX4_readName 13 = .ok (.i2c, 1) := by decide +kernel
theorem dX4_readName_14 : decode cX4_readName 14 = .ok (.invokevirtual 92, 3) := by decide +kernel
theorem dX4_readName_17 : decode cX4_readName 17 = .ok (.istore_n 2, 1) := by decide +kernel
theorem dX4_readName_18 : decode cX4_readName 18 = .ok (.iload_n 2, 1) := by decide +kernel
theorem dX4_readName_19 : decode cX4_readName 19 = .ok (.ifCond .ge 10, 3) := by decide +kernel
theorem dX4_readName_22 : decode cX4_readName 22 = .ok (.aload_n 0, 1) := by decide +kernel
theorem dX4_readName_23 : decode cX4_readName 23 = .ok (.invokevirtual 46, 3) := by decide +kernel
theorem dX4_readName_26 : decode cX4_readName 26 = .ok (.goto 20, 3) := by decide +kernel
theorem dX4_readName_29 : decode cX4_readName 29 = .ok (.aload_n 0, 1) := by decide +kernel
theorem dX4_readName_30 : decode cX4_readName 30 = .ok (.dup, 1) := by decide +kernel
theorem dX4_readName_31 : decode cX4_readName 31 = .ok (.getfield 35, 3) := by decide +kernel
theorem dX4_readName_34 : decode cX4_readName 34 = .ok (.iconst 1, 1) := by decide +kernel
theorem dX4_readName_35 : decode cX4_readName 35 = .ok (.iadd, 1) := by decide +kernel
theorem dX4_readName_36 : decode cX4_readName 36 = .ok (.putfield 35, 3) := by decide +kernel
theorem dX4_readName_39 : decode cX4_readName 39 = .ok (.aload_n 0, 1) := by decide +kernel
theorem dX4_readName_40 : decode cX4_readName 40 = .ok (.iconst (-1), 1) := by decide +kernel
theorem dX4_readName_41 : decode cX4_readName 41 = .ok (.iload_n 2, 1) := by decide +kernel
theorem dX4_readName_42 : decode cX4_readName 42 = .ok (.isub, 1) := by decide +kernel
theorem dX4_readName_43 : decode cX4_readName 43 = .ok (.invokevirtual 64, 3) := by decide +kernel
theorem dX4_readName_46 : decode cX4_readName 46 = .ok (.return_, 1) := by decide +kernel
theorem dX4_readNumber_0 : decode cX4_readNumber 0 = .ok (.iconst 0, 1) := by decide +kernel
theorem dX4_readNumber_1 : decode cX4_readNumber 1 = .ok (.istore_n 1, 1) := by decide +kernel
theorem dX4_readNumber_2 : decode cX4_readNumber 2 = .ok (.iconst 0, 1) := by decide +kernel
theorem dX4_readNumber_3 : decode cX4_readNumber 3 = .ok (.istore_n 2, 1) := by decide +kernel
theorem dX4_readNumber_4 : decode cX4_readNumber 4 = .ok (.iload_n 2, 1) := by decide +kernel
theorem dX4_readNumber_5 : decode cX4_readNumber 5 = .ok (.iconst 4, 1) := by decide +kernel
theorem dX4_readNumber_6 : decode cX4_readNumber 6 = .ok (.if_icmp .ge 42, 3) := by decide +kernel
theorem dX4_readNumber_9 : decode cX4_readNumber 9 = .ok (.aload_n 0, 1) := by decide +kernel
theorem dX4_readNumber_10 : decode cX4_readNumber 10 = .ok (.invokevirtual 60, 3) := by decide +kernel
theorem dX4_readNumber_13 : decode cX4_readNumber 13 = .ok (.invokestatic 79, 3) := by decide +kernel
theorem dX4_readNumber_16 : decode cX4_readNumber 16 = .ok (.ifCond .eq 32, 3) := by decide +kernel
theorem dX4_readNumber_19 : decode cX4_readNumber 19 = .ok (.iload_n 1, 1) := by decide +kernel
theorem dX4_readNumber_20 : decode cX4_readNumber 20 = .ok (.bipush 10, 2) := by decide +kernel
theorem dX4_readNumber_22 : decode cX4_readNumber 22 = .ok (.imul, 1) := by decide +kernel
theorem dX4_readNumber_23 : decode cX4_readNumber 23 = .ok (.aload_n 0, 1) := by decide +kernel
theorem dX4_readNumber_24 : decode cX4_readNumber 24 = .ok (.invokevirtual 60, 3) := by decide +kernel
theorem dX4_readNumber_27 : decode cX4_readNumber 27 = .ok (.iadd, 1) := by decide +kernel
theorem dX4_readNumber_28 : decode cX4_readNumber 28 = .ok (.bipush 48, 2) := by decide +kernel
theorem dX4_readNumber_30 : decode cX4_readNumber 30 = .ok (.isub, 1) := by decide +kernel
theorem dX4_readNumber_31 : decode cX4_readNumber 31 = .ok (.istore_n 1, 1) := by decide +kernel
theorem dX4_readNumber_32 : decode cX4_readNumber 32 = .ok (.aload_n 0, 1) := by decide +kernel
theorem dX4_readNumber_33 : decode cX4_readNumber 33 = .ok (.dup, 1) := by decide +kernel
theorem dX4_readNumber_34 : decode cX4_readNumber 34 = .ok (.getfield 35, 3) := by decide +kernel
theorem dX4_readNumber_37 : decode cX4_readNumber 37 = .ok (.iconst 1, 1) := by decide +kernel
theorem dX4_readNumber_38 : decode cX4_readNumber 38 = .ok (.iadd, 1) := by decide +kernel
theorem dX4_readNumber_39 : decode cX4_readNumber 39 = .ok (.putfield 35, 3) := by decide +kernel
theorem dX4_readNumber_42 : decode cX4_readNumber 42 = .ok (.iinc 2 1, 3) := by decide +kernel
theorem dX4_readNumber_45 : decode cX4_readNumber 45 = .ok (.goto (-41), 3) := by decide +kernel
theorem dX4_readNumber_48 : decode cX4_readNumber 48 = .ok (.aload_n 0, 1) := by decide +kernel
theorem dX4_readNumber_49 : decode cX4_readNumber 49 = .ok (.iload_n 1, 1) := by decide +kernel
theorem dX4_readNumber_50 : decode cX4_readNumber 50 = .ok (.invokevirtual 64, 3) := by decide +kernel
theorem dX4_readNumber_53 : decode cX4_readNumber 53 = .ok (.return_, 1) := by decide +kernel
theorem dX4_isDigit_0 : decode cX4_isDigit 0 = .ok (.iload_n 0, 1) := by decide +kernel
theorem dX4_isDigit_1 : decode cX4_isDigit 1 = .ok (.bipush 48, 2) := by decide +kernel
theorem dX4_isDigit_3 : decode cX4_isDigit 3 = .ok (.if_icmp .lt 13, 3) := by decide +kernel
theorem dX4_isDigit_6 : decode cX4_isDigit 6 = .ok (.iload_n 0, 1) := by decide +kernel
theorem dX4_isDigit_7 : decode cX4_isDigit 7 = .ok (.bipush 57, 2) := by decide +kernel
theorem dX4_isDigit_9 : decode cX4_isDigit 9 = .ok (.if_icmp .gt 7, 3) := by decide +kernel
theorem dX4_isDigit_12 : decode cX4_isDigit 12 = .ok (.iconst 1, 1) := by decide +kernel
theorem dX4_isDigit_13 : decode cX4_isDigit 13 = .ok (.goto 4, 3) := by decide +kernel
theorem dX4_isDigit_16 : decode cX4_isDigit 16 = .ok (.iconst 0, 1) := by decide +kernel
theorem dX4_isDigit_17 : decode cX4_isDigit 17 = .ok (.ireturn, 1) := by decide +kernel
theorem dX5_init_0 : decode cX5_init 0 = .ok (.aload_n 0, 1) := by decide +kernel
theorem dX5_init_1 : decode cX5_init 1 = .ok (.invokespecial 3, 3) := by decide +kernel
theorem dX5_init_4 : decode cX5_init 4 = .ok (.aload_n 0, 1) := by decide +kernel
theorem dX5_init_5 : decode cX5_init 5 = .ok (.bipush 24, 2) := by decide +kernel
theorem dX5_init_7 : decode cX5_init 7 = .ok (.newarray .int, 2) := by decide +kernel
theorem dX5_init_9 : decode cX5_init 9 = .ok (.putfield 9, 3) := by decide +kernel
theorem dX5_init_12 : decode cX5_init 12 = .ok (.aload_n 0, 1) := by decide +kernel
theorem dX5_init_13 : decode cX5_init 13 = .ok (.iconst 0, 1) := by decide +kernel
theorem dX5_init_14 : decode cX5_init 14 = .ok (.putfield 15, 3) := by decide +kernel
theorem dX5_init_17 : decode cX5_init 17 = .ok (.aload_n 0, 1) := by decide +kernel
theorem dX5_init_18 : decode cX5_init 18 = .ok (.iconst 0, 1) := by decide +kernel
theorem dX5_init_19 : decode cX5_init 19 = .ok (.putfield 19, 3) := by decide +kernel
theorem dX5_init_22 : decode cX5_init 22 = .ok (.return_, 1) := by decide +kernel
theorem dX5_begin_0 : decode cX5_begin 0 = .ok (.aload_n 0, 1) := by decide +kernel
theorem dX5_begin_1 : decode cX5_begin 1 = .ok (.iload_n 1, 1) := by decide +kernel
theorem dX5_begin_2 : decode cX5_begin 2 = .ok (.putfield 15, 3) := by decide +kernel
theorem dX5_begin_5 : decode cX5_begin 5 = .ok (.aload_n 0, 1) := by decide +kernel
theorem dX5_begin_6 : decode cX5_begin 6 = .ok (.iload_n 2, 1) := by decide +kernel
theorem dX5_begin_7 : decode cX5_begin 7 = .ok (.putfield 19, 3) := by decide +kernel
theorem dX5_begin_10 : decode cX5_begin 10 = .ok (.iconst 0, 1) := by decide +kernel
theorem dX5_begin_11 : decode cX5_begin 11 = .ok (.istore_n 3, 1) := by decide +kernel
theorem dX5_begin_12 : decode cX5_begin 12 = .ok (.iload_n 3, 1) := by decide +kernel
theorem dX5_begin_13 : decode cX5_begin 13 = .ok (.bipush 24, 2) := by decide +kernel
theorem dX5_begin_15 : decode cX5_begin 15 = .ok (.if_icmp .ge 16, 3) := by decide +kernel
theorem dX5_begin_18 : decode cX5_begin 18 = .ok (.aload_n 0, 1) := by decide +kernel
theorem dX5_begin_19 : decode cX5_begin 19 = .ok (.getfield 9, 3) := by decide +kernel
theorem dX5_begin_22 : decode cX5_begin 22 = .ok (.iload_n 3, 1) := by decide +kernel
theorem dX5_begin_23 : decode cX5_begin 23 = .ok (.iconst 0, 1) := by decide +kernel
theorem dX5_begin_24 : decode cX5_begin 24 = .ok (.iastore, 1) := by decide +kernel
theorem dX5_begin_25 : decode cX5_begin 25 = .ok (.iinc 3 1, 3) := by decide +kernel
theorem dX5_begin_28 : decode cX5_begin 28 = .ok (.goto (-16), 3) := by decide +kernel
theorem dX5_begin_31 : decode cX5_begin 31 = .ok (.return_, 1) := by decide +kernel
theorem dX5_isMissing_0 : decode cX5_isMissing 0 = .ok (.aload_n 0, 1) := by decide +kernel
theorem dX5_isMissing_1 : decode cX5_isMissing 1 = .ok (.getfield 15, 3) := by decide +kernel
theorem dX5_isMissing_4 : decode cX5_isMissing 4 = .ok (.ifCond .ne 7, 3) := by decide +kernel
theorem dX5_isMissing_7 : decode cX5_isMissing 7 = .ok (.iconst 1, 1) := by decide +kernel
theorem dX5_isMissing_8 : decode cX5_isMissing 8 = .ok (.goto 4, 3) := by decide +kernel
theorem dX5_isMissing_11 : decode cX5_isMissing 11 = .ok (.iconst 0, 1) := by decide +kernel
theorem dX5_isMissing_12 : decode cX5_isMissing 12 = .ok (.ireturn, 1) := by decide +kernel
theorem dX5_lowest_0 : decode cX5_lowest 0 = .ok (.aload_n 0, 1) := by decide +kernel
theorem dX5_lowest_1 : decode cX5_lowest 1 = .ok (.getfield 15, 3) := by decide +kernel
theorem dX5_lowest_4 : decode cX5_lowest 4 = .ok (.bipush 8, 2) := by decide +kernel
theorem dX5_lowest_6 : decode cX5_lowest 6 = .ok (.if_icmp .ne 6, 3) := by decide +kernel
theorem dX5_lowest_9 : decode cX5_lowest 9 = .ok (.iload_n 1, 1) := by decide +kernel
theorem dX5_lowest_10 : decode cX5_lowest 10 = .ok (.i2b, 1) := by decide +kernel
theorem dX5_lowest_11 : decode cX5_lowest 11 = .ok (.ireturn, 1) := by decide +kernel
theorem dX5_lowest_12 : decode cX5_lowest 12 = .ok (.aload_n 0, 1) := by decide +kernel
theorem dX5_lowest_13 : decode cX5_lowest 13 = .ok (.getfield 15, 3) := by decide +kernel
theorem dX5_lowest_16 : decode cX5_lowest 16 = .ok (.bipush 16, 2) := by decide +kernel
theorem dX5_lowest_18 : decode cX5_lowest 18 = .ok (.if_icmp .ne 8, 3) := by decide +kernel
theorem dX5_lowest_21 : decode cX5_lowest 21 = .ok (.iload_n 1, 1) := by decide +kernel
theorem dX5_lowest_22 : decode cX5_lowest 22 = .ok (.i2s, 1) := by decide +kernel
theorem dX5_lowest_23 : decode cX5_lowest 23 = .ok (.goto 4, 3) := by decide +kernel
theorem dX5_lowest_26 : decode cX5_lowest 26 = .ok (.iload_n 1, 1) := by decide +kernel
theorem dX5_lowest_27 : decode cX5_lowest 27 = .ok (.ireturn, 1) := by decide +kernel
theorem dX5_hasPart_0 : decode cX5_hasPart 0 = .ok (.iload_n 1, 1) := by decide +kernel
theorem dX5_hasPart_1 : decode cX5_hasPart 1 = .ok (.ifCond .lt 29, 3) := by decide +kernel
theorem dX5_hasPart_4 : decode cX5_hasPart 4 = .ok (.iload_n 2, 1) := by decide +kernel
theorem dX5_hasPart_5 : decode cX5_hasPart 5 = .ok (.ifCond .lt 25, 3) := by decide +kernel
theorem dX5_hasPart_8 : decode cX5_hasPart 8 = .ok (.iload_n 2, 1) := by decide +kernel
theorem dX5_hasPart_9 : decode cX5_hasPart 9 = .ok (.aload_n 0, 1) := by decide +kernel
theorem dX5_hasPart_10 : decode cX5_hasPart 10 = .ok (.getfield 19, 3) := by decide +kernel
theorem dX5_hasPart_13 : decode cX5_hasPart 13 = .ok (.if_icmp .gt 17, 3) := by decide +kernel
theorem dX5_hasPart_16 : decode cX5_hasPart 16 = .ok (.iload_n 1, 1) := by decide +kernel
theorem dX5_hasPart_17 : decode cX5_hasPart 17 = .ok (.aload_n 0, 1) := by decide +kernel
theorem dX5_hasPart_18 : decode cX5_hasPart 18 = .ok (.getfield 19, 3) := by decide +kernel
theorem dX5_hasPart_21 : decode cX5_hasPart 21 = .ok (.iload_n 2, 1) := by decide +kernel
theorem dX5_hasPart_22 : decode cX5_hasPart 22 = .ok (.isub, 1) := by decide +kernel
theorem dX5_hasPart_23 : decode cX5_hasPart 23 = .ok (.if_icmp .gt 7, 3) := by decide +kernel
theorem dX5_hasPart_26 : decode cX5_hasPart 26 = .ok (.iconst 1, 1) := by decide +kernel
theorem dX5_hasPart_27 : decode cX5_hasPart 27 = .ok (.goto 4, 3) := by decide +kernel
theorem dX5_hasPart_30 : decode cX5_hasPart 30 = .ok (.iconst 0, 1) := by decide +kernel
theorem dX5_hasPart_31 : decode cX5_hasPart 31 = .ok (.ireturn, 1) := by decide +kernel
theorem dX5_tellsHolders_0 : decode cX5_tellsHolders 0 = .ok (.iconst 0, 1) := by decide +kernel
theorem dX5_tellsHolders_1 : decode cX5_tellsHolders 1 = .ok (.istore_n 2, 1) := by decide +kernel
theorem dX5_tellsHolders_2 : decode cX5_tellsHolders 2 = .ok (.iload_n 2, 1) := by decide +kernel
theorem dX5_tellsHolders_3 : decode cX5_tellsHolders 3 = .ok (.aload_n 0, 1) := by decide +kernel
theorem dX5_tellsHolders_4 : decode cX5_tellsHolders 4 = .ok (.getfield 19, 3) := by decide +kernel
theorem dX5_tellsHolders_7 : decode cX5_tellsHolders 7 = .ok (.if_icmp .ge 43, 3) := by decide +kernel
theorem dX5_tellsHolders_10 : decode cX5_tellsHolders 10 = .ok (.iload_n 2, 1) := by decide +kernel
theorem dX5_tellsHolders_11 : decode cX5_tellsHolders 11 = .ok (.aload_n 0, 1) := by decide +kernel
theorem dX5_tellsHolders_12 : decode cX5_tellsHolders 12 = .ok (.getfield 9, 3) := by decide +kernel
theorem dX5_tellsHolders_15 : decode cX5_tellsHolders 15 = .ok (.arraylength, 1) := by decide +kernel
theorem dX5_tellsHolders_16 : decode cX5_tellsHolders 16 = .ok (.if_icmp .ge 34, 3) := by decide +kernel
theorem dX5_tellsHolders_19 : decode cX5_tellsHolders 19 = .ok (.aload_n 1, 1) := by decide +kernel
theorem dX5_tellsHolders_20 : decode cX5_tellsHolders 20 = .ok (.iload_n 2, 1) := by decide +kernel
theorem dX5_tellsHolders_21 : decode cX5_tellsHolders 21 = .ok (.invokevirtual 22, 3) := by decide +kernel
theorem dX5_tellsHolders_24 : decode cX5_tellsHolders 24 = .ok (.ifCond .eq 18, 3) := by decide +kernel
theorem dX5_tellsHolders_27 : decode cX5_tellsHolders 27 = .ok (.aload_n 1, 1) := by decide +kernel
theorem dX5_tellsHolders_28 : decode cX5_tellsHolders 28 = .ok (.getfield 28, 3) := by decide +kernel
theorem dX5_tellsHolders_31 : decode cX5_tellsHolders 31 = .ok (.iload_n 2, 1) := by decide +kernel
theorem dX5_tellsHolders_32 : decode cX5_tellsHolders 32 = .ok (.iaload, 1) := by decide +kernel
theorem dX5_tellsHolders_33 : decode cX5_tellsHolders 33 = .ok (.aload_n 0, 1) := by decide +kernel
theorem dX5_tellsHolders_34 : decode cX5_tellsHolders 34 = .ok (.getfield 9, 3) := by decide +kernel
theorem dX5_tellsHolders_37 : decode cX5_tellsHolders 37 = .ok (.iload_n 2, 1) := by decide +kernel
theorem dX5_tellsHolders_38 : decode cX5_tellsHolders 38 = .ok (.iaload, 1) := by decide +kernel
theorem dX5_tellsHolders_39 : decode cX5_tellsHolders 39 = .ok (.if_icmp .eq 5, 3) := by decide +kernel
theorem dX5_tellsHolders_42 : decode cX5_tellsHolders 42 = .ok (.iconst 0, 1) := by decide +kernel
theorem dX5_tellsHolders_43 : decode cX5_tellsHolders 43 = .ok (.ireturn, 1) := by decide +kernel
theorem dX5_tellsHolders_44 : decode cX5_tellsHolders 44 = .ok (.iinc 2 1, 3) := by decide +kernel
theorem dX5_tellsHolders_47 : decode cX5_tellsHolders 47 = .ok (.goto (-45), 3) := by decide +kernel
theorem dX5_tellsHolders_50 : decode cX5_tellsHolders 50 = .ok (.iconst 1, 1) := by decide +kernel
theorem dX5_tellsHolders_51 : decode cX5_tellsHolders 51 = .ok (.ireturn, 1) := by decide +kernel
theorem dX5_giveHolders_0 : decode cX5_giveHolders 0 = .ok (.iconst 0, 1) := by decide +kernel
theorem dX5_giveHolders_1 : decode cX5_giveHolders 1 = .ok (.istore_n 2, 1) := by decide +kernel
theorem dX5_giveHolders_2 : decode cX5_giveHolders 2 = .ok (.iload_n 2, 1) := by decide +kernel
theorem dX5_giveHolders_3 : decode cX5_giveHolders 3 = .ok (.aload_n 0, 1) := by decide +kernel
theorem dX5_giveHolders_4 : decode cX5_giveHolders 4 = .ok (.getfield 19, 3) := by decide +kernel
theorem dX5_giveHolders_7 : decode cX5_giveHolders 7 = .ok (.if_icmp .ge 53, 3) := by decide +kernel
theorem dX5_giveHolders_10 : decode cX5_giveHolders 10 = .ok (.iload_n 2, 1) := by decide +kernel
theorem dX5_giveHolders_11 : decode cX5_giveHolders 11 = .ok (.aload_n 0, 1) := by decide +kernel
theorem dX5_giveHolders_12 : decode cX5_giveHolders 12 = .ok (.getfield 9, 3) := by decide +kernel
theorem dX5_giveHolders_15 : decode cX5_giveHolders 15 = .ok (.arraylength, 1) := by decide +kernel
theorem dX5_giveHolders_16 : decode cX5_giveHolders 16 = .ok (.if_icmp .ge 44, 3) := by decide +kernel
theorem dX5_giveHolders_19 : decode cX5_giveHolders 19 = .ok (.aload_n 1, 1) := by decide +kernel
theorem dX5_giveHolders_20 : decode cX5_giveHolders 20 = .ok (.iload_n 2, 1) := by decide +kernel
theorem dX5_giveHolders_21 : decode cX5_giveHolders 21 = .ok (.invokevirtual 22, 3) := by decide +kernel
theorem dX5_giveHolders_24 : decode cX5_giveHolders 24 = .ok (.ifCond .eq 16, 3) := by decide +kernel
theorem dX5_giveHolders_27 : decode cX5_giveHolders 27 = .ok (.aload_n 1, 1) := by decide +kernel
theorem dX5_giveHolders_28 : decode cX5_giveHolders 28 = .ok (.aload_n 0, 1) := by decide +kernel
theorem dX5_giveHolders_29 : decode cX5_giveHolders 29 = .ok (.getfield 9, 3) := by decide +kernel
theorem dX5_giveHolders_32 : decode cX5_giveHolders 32 = .ok (.iload_n 2, 1) := by decide +kernel
theorem dX5_giveHolders_33 : decode cX5_giveHolders 33 = .ok (.iaload, 1) := by decide +kernel
theorem dX5_giveHolders_34 : decode cX5_giveHolders 34 = .ok (.invokevirtual 31, 3) := by decide +kernel
theorem dX5_giveHolders_37 : decode cX5_giveHolders 37 = .ok (.ifCond .ne 5, 3) := by decide +kernel
theorem dX5_giveHolders_40 : decode cX5_giveHolders 40 = .ok (.iload_n 2, 1) := by decide +kernel
theorem dX5_giveHolders_41 : decode cX5_giveHolders 41 = .ok (.ireturn, 1) := by decide +kernel
theorem dX5_giveHolders_42 : decode cX5_giveHolders 42 = .ok (.aload_n 1, 1) := by decide +kernel
theorem dX5_giveHolders_43 : decode cX5_giveHolders 43 = .ok (.getfield 28, 3) := by decide +kernel
theorem dX5_giveHolders_46 : decode cX5_giveHolders 46 = .ok (.iload_n 2, 1) := by decide +kernel
theorem dX5_giveHolders_47 : decode cX5_giveHolders 47 = .ok (.aload_n 0, 1) := by decide +kernel
theorem dX5_giveHolders_48 : decode cX5_giveHolders 48 = .ok (.getfield 9, 3) := by decide +kernel
theorem dX5_giveHolders_51 : decode cX5_giveHolders 51 = .ok (.iload_n 2, 1) := by decide +kernel
theorem dX5_giveHolders_52 : decode cX5_giveHolders 52 = .ok (.iaload, 1) := by decide +kernel
theorem dX5_giveHolders_53 : decode cX5_giveHolders 53 = .ok (.iastore, 1) := by decide +kernel
theorem dX5_giveHolders_54 : decode cX5_giveHolders 54 = .ok (.iinc 2 1, 3) := by decide +kernel
theorem dX5_giveHolders_57 : decode cX5_giveHolders 57 = .ok (.goto (-55), 3) := by decide +kernel
theorem dX5_giveHolders_60 : decode cX5_giveHolders 60 = .ok (.aload_n 0, 1) := by decide +kernel
theorem dX5_giveHolders_61 : decode cX5_giveHolders 61 = .ok (.getfield 19, 3) := by decide +kernel
theorem dX5_giveHolders_64 : decode cX5_giveHolders 64 = .ok (.ireturn, 1) := by decide +kernel
theorem dX5_rightGrass_0 : decode cX5_rightGrass 0 = .ok (.iconst 0, 1) := by decide +kernel
theorem dX5_rightGrass_1 : decode cX5_rightGrass 1 = .ok (.istore_n 2, 1) := by decide +kernel
theorem dX5_rightGrass_2 : decode cX5_rightGrass 2 = .ok (.iload_n 2, 1) := by decide +kernel
theorem dX5_rightGrass_3 : decode cX5_rightGrass 3 = .ok (.aload_n 0, 1) := by decide +kernel
theorem dX5_rightGrass_4 : decode cX5_rightGrass 4 = .ok (.getfield 19, 3) := by decide +kernel
theorem dX5_rightGrass_7 : decode cX5_rightGrass 7 = .ok (.if_icmp .ge 42, 3) := by decide +kernel
theorem dX5_rightGrass_10 : decode cX5_rightGrass 10 = .ok (.iload_n 2, 1) := by decide +kernel
theorem dX5_rightGrass_11 : decode cX5_rightGrass 11 = .ok (.aload_n 0, 1) := by decide +kernel
theorem dX5_rightGrass_12 : decode cX5_rightGrass 12 = .ok (.getfield 9, 3) := by decide +kernel
theorem dX5_rightGrass_15 : decode cX5_rightGrass 15 = .ok (.arraylength, 1) := by decide +kernel
theorem dX5_rightGrass_16 : decode cX5_rightGrass 16 = .ok (.if_icmp .ge 33, 3) := by decide +kernel
theorem dX5_rightGrass_19 : decode cX5_rightGrass 19 = .ok (.iload_n 2, 1) := by decide +kernel
theorem dX5_rightGrass_20 : decode cX5_rightGrass 20 = .ok (.invokestatic 34, 3) := by decide +kernel
theorem dX5_rightGrass_23 : decode cX5_rightGrass 23 = .ok (.ifCond .eq 18, 3) := by decide +kernel
theorem dX5_rightGrass_26 : decode cX5_rightGrass 26 = .ok (.aload_n 0, 1) := by decide +kernel
theorem dX5_rightGrass_27 : decode cX5_rightGrass 27 = .ok (.getfield 9, 3) := by decide +kernel
theorem dX5_rightGrass_30 : decode cX5_rightGrass 30 = .ok (.iload_n 2, 1) := by decide +kernel
theorem dX5_rightGrass_31 : decode cX5_rightGrass 31 = .ok (.iaload, 1) := by decide +kernel
theorem dX5_rightGrass_32 : decode cX5_rightGrass 32 = .ok (.aload_n 1, 1) := by decide +kernel
theorem dX5_rightGrass_33 : decode cX5_rightGrass 33 = .ok (.getfield 37, 3) := by decide +kernel
theorem dX5_rightGrass_36 : decode cX5_rightGrass 36 = .ok (.iload_n 2, 1) := by decide +kernel
theorem dX5_rightGrass_37 : decode cX5_rightGrass 37 = .ok (.iaload, 1) := by decide +kernel
theorem dX5_rightGrass_38 : decode cX5_rightGrass 38 = .ok (.if_icmp .eq 5, 3) := by decide +kernel
theorem dX5_rightGrass_41 : decode cX5_rightGrass 41 = .ok (.iload_n 2, 1) := by decide +kernel
theorem dX5_rightGrass_42 : decode cX5_rightGrass 42 = .ok (.ireturn, 1) := by decide +kernel
theorem dX5_rightGrass_43 : decode cX5_rightGrass 43 = .ok (.iinc 2 1, 3) := by decide +kernel
theorem dX5_rightGrass_46 : decode cX5_rightGrass 46 = .ok (.goto (-44), 3) := by decide +kernel
theorem dX5_rightGrass_49 : decode cX5_rightGrass 49 = .ok (.aload_n 0, 1) := by decide +kernel
theorem dX5_rightGrass_50 : decode cX5_rightGrass 50 = .ok (.getfield 19, 3) := by decide +kernel
theorem dX5_rightGrass_53 : decode cX5_rightGrass 53 = .ok (.ireturn, 1) := by decide +kernel
theorem dX6_init_0 : decode cX6_init 0 = .ok (.aload_n 0, 1) := by decide +kernel
theorem dX6_init_1 : decode cX6_init 1 = .ok (.invokespecial 3, 3) := by decide +kernel
theorem dX6_init_4 : decode cX6_init 4 = .ok (.aload_n 0, 1) := by decide +kernel
theorem dX6_init_5 : decode cX6_init 5 = .ok (.bipush 30, 2) := by decide +kernel
theorem dX6_init_7 : decode cX6_init 7 = .ok (.newarray .int, 2) := by decide +kernel
theorem dX6_init_9 : decode cX6_init 9 = .ok (.putfield 9, 3) := by decide +kernel
theorem dX6_init_12 : decode cX6_init 12 = .ok (.return_, 1) := by decide +kernel
theorem dX6_speak_0 : decode cX6_speak 0 = .ok (.aload_n 0, 1) := by decide +kernel
theorem dX6_speak_1 : decode cX6_speak 1 = .ok (.iload_n 1, 1) := by decide +kernel
theorem dX6_speak_2 : decode cX6_speak 2 = .ok (.putfield 15, 3) := by decide +kernel
theorem dX6_speak_5 : decode cX6_speak 5 = .ok (.aload_n 0, 1) := by decide +kernel
theorem dX6_speak_6 : decode cX6_speak 6 = .ok (.iload_n 2, 1) := by decide +kernel
theorem dX6_speak_7 : decode cX6_speak 7 = .ok (.putfield 19, 3) := by decide +kernel
theorem dX6_speak_10 : decode cX6_speak 10 = .ok (.aload_n 0, 1) := by decide +kernel
theorem dX6_speak_11 : decode cX6_speak 11 = .ok (.iload_n 3, 1) := by decide +kernel
theorem dX6_speak_12 : decode cX6_speak 12 = .ok (.putfield 22, 3) := by decide +kernel
theorem dX6_speak_15 : decode cX6_speak 15 = .ok (.aload_n 0, 1) := by decide +kernel
theorem dX6_speak_16 : decode cX6_speak 16 = .ok (.iconst 0, 1) := by decide +kernel
theorem dX6_speak_17 : decode cX6_speak 17 = .ok (.putfield 25, 3) := by decide +kernel
theorem dX6_speak_20 : decode cX6_speak 20 = .ok (.aload_n 0, 1) := by decide +kernel
theorem dX6_speak_21 : decode cX6_speak 21 = .ok (.iconst 0, 1) := by decide +kernel
theorem dX6_speak_22 : decode cX6_speak 22 = .ok (.putfield 28, 3) := by decide +kernel
theorem dX6_speak_25 : decode cX6_speak 25 = .ok (.aload_n 0, 1) := by decide +kernel
theorem dX6_speak_26 : decode cX6_speak 26 = .ok (.iload 4, 2) := by decide +kernel
theorem dX6_speak_28 : decode cX6_speak 28 = .ok (.iload 5, 2) := by decide +kernel
theorem dX6_speak_30 : decode cX6_speak 30 = .ok (.iconst 0, 1) := by decide +kernel
theorem dX6_speak_31 : decode cX6_speak 31 = .ok (.invokevirtual 32, 3) := by decide +kernel
theorem dX6_speak_34 : decode cX6_speak 34 = .ok (.ireturn, 1) := by decide +kernel
theorem dX6_own_0 : decode cX6_own 0 = .ok (.aload_n 0, 1) := by decide +kernel
theorem dX6_own_1 : decode cX6_own 1 = .ok (.aload_n 0, 1) := by decide +kernel
theorem dX6_own_2 : decode cX6_own 2 = .ok (.getfield 15, 3) := by decide +kernel
theorem dX6_own_5 : decode cX6_own 5 = .ok (.iload_n 1, 1) := by decide +kernel
theorem dX6_own_6 : decode cX6_own 6 = .ok (.iload_n 2, 1) := by decide +kernel
theorem dX6_own_7 : decode cX6_own 7 = .ok (.iload_n 3, 1) := by decide +kernel
theorem dX6_own_8 : decode cX6_own 8 = .ok (.invokevirtual 36, 3) := by decide +kernel
theorem dX6_own_11 : decode cX6_own 11 = .ok (.ireturn, 1) := by decide +kernel
theorem dX6_from_0 : decode cX6_from 0 = .ok (.iload_n 1, 1) := by decide +kernel
theorem dX6_from_1 : decode cX6_from 1 = .ok (.istore 5, 2) := by decide +kernel
theorem dX6_from_3 : decode cX6_from 3 = .ok (.iconst 0, 1) := by decide +kernel
theorem dX6_from_4 : decode cX6_from 4 = .ok (.istore 6, 2) := by decide +kernel
theorem dX6_from_6 : decode cX6_from 6 = .ok (.iload 6, 2) := by decide +kernel
theorem dX6_from_8 : decode cX6_from 8 = .ok (.bipush 7, 2) := by decide +kernel
theorem dX6_from_10 : decode cX6_from 10 = .ok (.if_icmp .ge 80, 3) := by decide +kernel
theorem dX6_from_13 : decode cX6_from 13 = .ok (.iload 5, 2) := by decide +kernel
theorem dX6_from_15 : decode cX6_from 15 = .ok (.ifCond .lt 75, 3) := by decide +kernel
theorem dX6_from_18 : decode cX6_from 18 = .ok (.iload 5, 2) := by decide +kernel
theorem dX6_from_20 : decode cX6_from 20 = .ok (.bipush 7, 2) := by decide +kernel
theorem dX6_from_22 : decode cX6_from 22 = .ok (.if_icmp .ge 68, 3) := by decide +kernel
theorem dX6_from_25 : decode cX6_from 25 = .ok (.iload 5, 2) := by decide +kernel
theorem dX6_from_27 : decode cX6_from 27 = .ok (.iconst 4, 1) := by decide +kernel
theorem dX6_from_28 : decode cX6_from 28 = .ok (.imul, 1) := by decide +kernel
theorem dX6_from_29 : decode cX6_from 29 = .ok (.iload_n 2, 1) := by decide +kernel
theorem dX6_from_30 : decode cX6_from 30 = .ok (.iadd, 1) := by decide +kernel
theorem dX6_from_31 : decode cX6_from 31 = .ok (.istore 7, 2) := by decide +kernel
theorem dX6_from_33 : decode cX6_from 33 = .ok (.iload 7, 2) := by decide +kernel
theorem dX6_from_35 : decode cX6_from 35 = .ok (.ifCond .lt 41, 3) := by decide +kernel
theorem dX6_from_38 : decode cX6_from 38 = .ok (.iload 7, 2) := by decide +kernel
theorem dX6_from_40 : decode cX6_from 40 = .ok (.getstatic 40, 3) := by decide +kernel
theorem dX6_from_43 : decode cX6_from 43 = .ok (.arraylength, 1) := by decide +kernel
theorem dX6_from_44 : decode cX6_from 44 = .ok (.if_icmp .ge 32, 3) := by decide +kernel
theorem dX6_from_47 : decode cX6_from 47 = .ok (.getstatic 40, 3) := by decide +kernel
theorem dX6_from_50 : decode cX6_from 50 = .ok (.iload 7, 2) := by decide +kernel
theorem dX6_from_52 : decode cX6_from 52 = .ok (.iaload, 1) := by decide +kernel
theorem dX6_from_53 : decode cX6_from 53 = .ok (.ifCond .eq 23, 3) := by decide +kernel
theorem dX6_from_56 : decode cX6_from 56 = .ok (.aload_n 0, 1) := by decide +kernel
theorem dX6_from_57 : decode cX6_from 57 = .ok (.getstatic 40, 3) := by decide +kernel
theorem dX6_from_60 : decode cX6_from 60 = .ok (.iload 7, 2) := by decide +kernel
theorem dX6_from_62 : decode cX6_from 62 = .ok (.iaload, 1) := by decide +kernel
theorem dX6_from_63 : decode cX6_from 63 = .ok (.getstatic 43, 3) := by decide +kernel
theorem dX6_from_66 : decode cX6_from 66 = .ok (.iload 5, 2) := by decide +kernel
theorem dX6_from_68 : decode cX6_from 68 = .ok (.iaload, 1) := by decide +kernel
theorem dX6_from_69 : decode cX6_from 69 = .ok (.iload_n 3, 1) := by decide +kernel
theorem dX6_from_70 : decode cX6_from 70 = .ok (.iload 4, 2) := by decide +kernel
theorem dX6_from_72 : decode cX6_from 72 = .ok (.invokevirtual 46, 3) := by decide +kernel
theorem dX6_from_75 : decode cX6_from 75 = .ok (.ireturn, 1) := by decide +kernel
theorem dX6_from_76 : decode cX6_from 76 = .ok (.getstatic 43, 3) := by decide +kernel
theorem dX6_from_79 : decode cX6_from 79 = .ok (.iload 5, 2) := by decide +kernel
theorem dX6_from_81 : decode cX6_from 81 = .ok (.iaload, 1) := by decide +kernel
theorem dX6_from_82 : decode cX6_from 82 = .ok (.istore 5, 2) := by decide +kernel
theorem dX6_from_84 : decode cX6_from 84 = .ok (.iinc 6 1, 3) := by decide +kernel
theorem dX6_from_87 : decode cX6_from 87 = .ok (.goto (-81), 3) := by decide +kernel
theorem dX6_from_90 : decode cX6_from 90 = .ok (.iconst 0, 1) := by decide +kernel
theorem dX6_from_91 : decode cX6_from 91 = .ok (.ireturn, 1) := by decide +kernel
theorem dX6_work_0 : decode cX6_work 0 = .ok (.aload_n 0, 1) := by decide +kernel
theorem dX6_work_1 : decode cX6_work 1 = .ok (.getfield 28, 3) := by decide +kernel
theorem dX6_work_4 : decode cX6_work 4 = .ok (.ifCond .ne 10, 3) := by decide +kernel
theorem dX6_work_7 : decode cX6_work 7 = .ok (.iload 4, 2) := by decide +kernel
theorem dX6_work_9 : decode cX6_work 9 = .ok (.bipush 40, 2) := by decide +kernel
end
section
theorem dX6_work_11 : decode cX6_work 11 = .ok (.if_icmp .lt 5, 3) := by decide +kernel
theorem dX6_work_14 : decode cX6_work 14 = .ok (.iconst 0, 1) := by decide +kernel
theorem dX6_work_15 : decode cX6_work 15 = .ok (.ireturn, 1) := by decide +kernel
theorem dX6_work_16 : decode cX6_work 16 = .ok (.aload_n 0, 1) := by decide +kernel
theorem dX6_work_17 : decode cX6_work 17 = .ok (.getfield 25, 3) := by decide +kernel
theorem dX6_work_20 : decode cX6_work 20 = .ok (.aload_n 0, 1) := by decide +kernel
theorem dX6_work_21 : decode cX6_work 21 = .ok (.getfield 9, 3) := by decide +kernel
theorem dX6_work_24 : decode cX6_work 24 = .ok (.arraylength, 1) := by decide +kernel
theorem dX6_work_25 : decode cX6_work 25 = .ok (.if_icmp .ge 23, 3) := by decide +kernel
theorem dX6_work_28 : decode cX6_work 28 = .ok (.aload_n 0, 1) := by decide +kernel
theorem dX6_work_29 : decode cX6_work 29 = .ok (.getfield 9, 3) := by decide +kernel
theorem dX6_work_32 : decode cX6_work 32 = .ok (.aload_n 0, 1) := by decide +kernel
theorem dX6_work_33 : decode cX6_work 33 = .ok (.getfield 25, 3) := by decide +kernel
theorem dX6_work_36 : decode cX6_work 36 = .ok (.iload_n 1, 1) := by decide +kernel
theorem dX6_work_37 : decode cX6_work 37 = .ok (.iastore, 1) := by decide +kernel
theorem dX6_work_38 : decode cX6_work 38 = .ok (.aload_n 0, 1) := by decide +kernel
theorem dX6_work_39 : decode cX6_work 39 = .ok (.dup, 1) := by decide +kernel
theorem dX6_work_40 : decode cX6_work 40 = .ok (.getfield 25, 3) := by decide +kernel
theorem dX6_work_43 : decode cX6_work 43 = .ok (.iconst 1, 1) := by decide +kernel
theorem dX6_work_44 : decode cX6_work 44 = .ok (.iadd, 1) := by decide +kernel
theorem dX6_work_45 : decode cX6_work 45 = .ok (.putfield 25, 3) := by decide +kernel
theorem dX6_work_48 : decode cX6_work 48 = .ok (.iload 4, 2) := by decide +kernel
theorem dX6_work_50 : decode cX6_work 50 = .ok (.iconst 1, 1) := by decide +kernel
theorem dX6_work_51 : decode cX6_work 51 = .ok (.iadd, 1) := by decide +kernel
theorem dX6_work_52 : decode cX6_work 52 = .ok (.istore 5, 2) := by decide +kernel
theorem dX6_work_54 : decode cX6_work 54 = .ok (.iload_n 1, 1) := by decide +kernel
theorem dX6_work_55 : decode cX6_work 55 = .ok (.lookupswitch 263 #[(10, 113), (11, 120), (12, 131), (13, 145), (20, 151), (21, 163), (30, 182), (40, 194), (50, 206), (51, 218), (60, 233), (70, 245), (71, 248)], 113) := by decide +kernel
theorem dX6_work_168 : decode cX6_work 168 = .ok (.iload_n 3, 1) := by decide +kernel
theorem dX6_work_169 : decode cX6_work 169 = .ok (.aload_n 0, 1) := by decide +kernel
theorem dX6_work_170 : decode cX6_work 170 = .ok (.getfield 19, 3) := by decide +kernel
theorem dX6_work_173 : decode cX6_work 173 = .ok (.iadd, 1) := by decide +kernel
theorem dX6_work_174 : decode cX6_work 174 = .ok (.ireturn, 1) := by decide +kernel
theorem dX6_work_175 : decode cX6_work 175 = .ok (.aload_n 0, 1) := by decide +kernel
theorem dX6_work_176 : decode cX6_work 176 = .ok (.iconst 0, 1) := by decide +kernel
theorem dX6_work_177 : decode cX6_work 177 = .ok (.iload_n 3, 1) := by decide +kernel
theorem dX6_work_178 : decode cX6_work 178 = .ok (.iload 5, 2) := by decide +kernel
theorem dX6_work_180 : decode cX6_work 180 = .ok (.invokevirtual 32, 3) := by decide +kernel
theorem dX6_work_183 : decode cX6_work 183 = .ok (.iconst 2, 1) := by decide +kernel
theorem dX6_work_184 : decode cX6_work 184 = .ok (.imul, 1) := by decide +kernel
theorem dX6_work_185 : decode cX6_work 185 = .ok (.ireturn, 1) := by decide +kernel
theorem dX6_work_186 : decode cX6_work 186 = .ok (.aload_n 0, 1) := by decide +kernel
theorem dX6_work_187 : decode cX6_work 187 = .ok (.iconst 1, 1) := by decide +kernel
theorem dX6_work_188 : decode cX6_work 188 = .ok (.iload_n 3, 1) := by decide +kernel
theorem dX6_work_189 : decode cX6_work 189 = .ok (.iload 5, 2) := by decide +kernel
theorem dX6_work_191 : decode cX6_work 191 = .ok (.invokevirtual 32, 3) := by decide +kernel
theorem dX6_work_194 : decode cX6_work 194 = .ok (.aload_n 0, 1) := by decide +kernel
theorem dX6_work_195 : decode cX6_work 195 = .ok (.getfield 22, 3) := by decide +kernel
theorem dX6_work_198 : decode cX6_work 198 = .ok (.isub, 1) := by decide +kernel
theorem dX6_work_199 : decode cX6_work 199 = .ok (.ireturn, 1) := by decide +kernel
theorem dX6_work_200 : decode cX6_work 200 = .ok (.aload_n 0, 1) := by decide +kernel
theorem dX6_work_201 : decode cX6_work 201 = .ok (.iload_n 3, 1) := by decide +kernel
theorem dX6_work_202 : decode cX6_work 202 = .ok (.invokevirtual 49, 3) := by decide +kernel
theorem dX6_work_205 : decode cX6_work 205 = .ok (.ireturn, 1) := by decide +kernel
theorem dX6_work_206 : decode cX6_work 206 = .ok (.aload_n 0, 1) := by decide +kernel
theorem dX6_work_207 : decode cX6_work 207 = .ok (.iload_n 2, 1) := by decide +kernel
theorem dX6_work_208 : decode cX6_work 208 = .ok (.iconst 0, 1) := by decide +kernel
theorem dX6_work_209 : decode cX6_work 209 = .ok (.iload_n 3, 1) := by decide +kernel
theorem dX6_work_210 : decode cX6_work 210 = .ok (.iload 5, 2) := by decide +kernel
theorem dX6_work_212 : decode cX6_work 212 = .ok (.invokevirtual 36, 3) := by decide +kernel
theorem dX6_work_215 : decode cX6_work 215 = .ok (.iconst 4, 1) := by decide +kernel
theorem dX6_work_216 : decode cX6_work 216 = .ok (.isub, 1) := by decide +kernel
theorem dX6_work_217 : decode cX6_work 217 = .ok (.ireturn, 1) := by decide +kernel
theorem dX6_work_218 : decode cX6_work 218 = .ok (.aload_n 0, 1) := by decide +kernel
theorem dX6_work_219 : decode cX6_work 219 = .ok (.iload_n 2, 1) := by decide +kernel
theorem dX6_work_220 : decode cX6_work 220 = .ok (.iconst 3, 1) := by decide +kernel
theorem dX6_work_221 : decode cX6_work 221 = .ok (.iload_n 3, 1) := by decide +kernel
theorem dX6_work_222 : decode cX6_work 222 = .ok (.iload 5, 2) := by decide +kernel
theorem dX6_work_224 : decode cX6_work 224 = .ok (.invokevirtual 36, 3) := by decide +kernel
theorem dX6_work_227 : decode cX6_work 227 = .ok (.aload_n 0, 1) := by decide +kernel
theorem dX6_work_228 : decode cX6_work 228 = .ok (.iconst 1, 1) := by decide +kernel
theorem dX6_work_229 : decode cX6_work 229 = .ok (.iconst 1, 1) := by decide +kernel
theorem dX6_work_230 : decode cX6_work 230 = .ok (.iload 5, 2) := by decide +kernel
theorem dX6_work_232 : decode cX6_work 232 = .ok (.invokevirtual 32, 3) := by decide +kernel
theorem dX6_work_235 : decode cX6_work 235 = .ok (.iadd, 1) := by decide +kernel
theorem dX6_work_236 : decode cX6_work 236 = .ok (.ireturn, 1) := by decide +kernel
theorem dX6_work_237 : decode cX6_work 237 = .ok (.iconst 0, 1) := by decide +kernel
theorem dX6_work_238 : decode cX6_work 238 = .ok (.aload_n 0, 1) := by decide +kernel
theorem dX6_work_239 : decode cX6_work 239 = .ok (.iload_n 2, 1) := by decide +kernel
theorem dX6_work_240 : decode cX6_work 240 = .ok (.iconst 1, 1) := by decide +kernel
theorem dX6_work_241 : decode cX6_work 241 = .ok (.iload_n 3, 1) := by decide +kernel
theorem dX6_work_242 : decode cX6_work 242 = .ok (.iload 5, 2) := by decide +kernel
theorem dX6_work_244 : decode cX6_work 244 = .ok (.invokevirtual 36, 3) := by decide +kernel
theorem dX6_work_247 : decode cX6_work 247 = .ok (.isub, 1) := by decide +kernel
theorem dX6_work_248 : decode cX6_work 248 = .ok (.ireturn, 1) := by decide +kernel
theorem dX6_work_249 : decode cX6_work 249 = .ok (.aload_n 0, 1) := by decide +kernel
theorem dX6_work_250 : decode cX6_work 250 = .ok (.iload_n 2, 1) := by decide +kernel
theorem dX6_work_251 : decode cX6_work 251 = .ok (.iconst 2, 1) := by decide +kernel
theorem dX6_work_252 : decode cX6_work 252 = .ok (.iload_n 3, 1) := by decide +kernel
theorem dX6_work_253 : decode cX6_work 253 = .ok (.iconst 2, 1) := by decide +kernel
theorem dX6_work_254 : decode cX6_work 254 = .ok (.idiv, 1) := by decide +kernel
theorem dX6_work_255 : decode cX6_work 255 = .ok (.iload 5, 2) := by decide +kernel
theorem dX6_work_257 : decode cX6_work 257 = .ok (.invokevirtual 36, 3) := by decide +kernel
theorem dX6_work_260 : decode cX6_work 260 = .ok (.ireturn, 1) := by decide +kernel
theorem dX6_work_261 : decode cX6_work 261 = .ok (.aload_n 0, 1) := by decide +kernel
theorem dX6_work_262 : decode cX6_work 262 = .ok (.iload_n 2, 1) := by decide +kernel
theorem dX6_work_263 : decode cX6_work 263 = .ok (.iconst 0, 1) := by decide +kernel
theorem dX6_work_264 : decode cX6_work 264 = .ok (.iload_n 3, 1) := by decide +kernel
theorem dX6_work_265 : decode cX6_work 265 = .ok (.iload 5, 2) := by decide +kernel
theorem dX6_work_267 : decode cX6_work 267 = .ok (.invokevirtual 36, 3) := by decide +kernel
theorem dX6_work_270 : decode cX6_work 270 = .ok (.iconst 3, 1) := by decide +kernel
theorem dX6_work_271 : decode cX6_work 271 = .ok (.imul, 1) := by decide +kernel
theorem dX6_work_272 : decode cX6_work 272 = .ok (.ireturn, 1) := by decide +kernel
theorem dX6_work_273 : decode cX6_work 273 = .ok (.aload_n 0, 1) := by decide +kernel
theorem dX6_work_274 : decode cX6_work 274 = .ok (.iload_n 2, 1) := by decide +kernel
theorem dX6_work_275 : decode cX6_work 275 = .ok (.iconst 2, 1) := by decide +kernel
theorem dX6_work_276 : decode cX6_work 276 = .ok (.iload_n 3, 1) := by decide +kernel
theorem dX6_work_277 : decode cX6_work 277 = .ok (.iload 5, 2) := by decide +kernel
theorem dX6_work_279 : decode cX6_work 279 = .ok (.invokevirtual 36, 3) := by decide +kernel
theorem dX6_work_282 : decode cX6_work 282 = .ok (.aload_n 0, 1) := by decide +kernel
theorem dX6_work_283 : decode cX6_work 283 = .ok (.getfield 19, 3) := by decide +kernel
theorem dX6_work_286 : decode cX6_work 286 = .ok (.ixor, 1) := by decide +kernel
theorem dX6_work_287 : decode cX6_work 287 = .ok (.ireturn, 1) := by decide +kernel
theorem dX6_work_288 : decode cX6_work 288 = .ok (.aload_n 0, 1) := by decide +kernel
theorem dX6_work_289 : decode cX6_work 289 = .ok (.iload_n 2, 1) := by decide +kernel
theorem dX6_work_290 : decode cX6_work 290 = .ok (.iconst 1, 1) := by decide +kernel
theorem dX6_work_291 : decode cX6_work 291 = .ok (.iload_n 3, 1) := by decide +kernel
theorem dX6_work_292 : decode cX6_work 292 = .ok (.iconst 1, 1) := by decide +kernel
theorem dX6_work_293 : decode cX6_work 293 = .ok (.iadd, 1) := by decide +kernel
theorem dX6_work_294 : decode cX6_work 294 = .ok (.iload 5, 2) := by decide +kernel
theorem dX6_work_296 : decode cX6_work 296 = .ok (.invokevirtual 36, 3) := by decide +kernel
theorem dX6_work_299 : decode cX6_work 299 = .ok (.ireturn, 1) := by decide +kernel
theorem dX6_work_300 : decode cX6_work 300 = .ok (.bipush 9, 2) := by decide +kernel
theorem dX6_work_302 : decode cX6_work 302 = .ok (.ireturn, 1) := by decide +kernel
theorem dX6_work_303 : decode cX6_work 303 = .ok (.aload_n 0, 1) := by decide +kernel
theorem dX6_work_304 : decode cX6_work 304 = .ok (.iload_n 2, 1) := by decide +kernel
theorem dX6_work_305 : decode cX6_work 305 = .ok (.iconst 1, 1) := by decide +kernel
theorem dX6_work_306 : decode cX6_work 306 = .ok (.iload_n 3, 1) := by decide +kernel
theorem dX6_work_307 : decode cX6_work 307 = .ok (.iload 5, 2) := by decide +kernel
theorem dX6_work_309 : decode cX6_work 309 = .ok (.invokevirtual 36, 3) := by decide +kernel
theorem dX6_work_312 : decode cX6_work 312 = .ok (.aload_n 0, 1) := by decide +kernel
theorem dX6_work_313 : decode cX6_work 313 = .ok (.getfield 22, 3) := by decide +kernel
theorem dX6_work_316 : decode cX6_work 316 = .ok (.iadd, 1) := by decide +kernel
theorem dX6_work_317 : decode cX6_work 317 = .ok (.ireturn, 1) := by decide +kernel
theorem dX6_work_318 : decode cX6_work 318 = .ok (.iconst 0, 1) := by decide +kernel
theorem dX6_work_319 : decode cX6_work 319 = .ok (.ireturn, 1) := by decide +kernel
theorem dX6_divided_0 : decode cX6_divided 0 = .ok (.aload_n 0, 1) := by decide +kernel
theorem dX6_divided_1 : decode cX6_divided 1 = .ok (.getfield 22, 3) := by decide +kernel
theorem dX6_divided_4 : decode cX6_divided 4 = .ok (.aload_n 0, 1) := by decide +kernel
theorem dX6_divided_5 : decode cX6_divided 5 = .ok (.getfield 19, 3) := by decide +kernel
theorem dX6_divided_8 : decode cX6_divided 8 = .ok (.isub, 1) := by decide +kernel
theorem dX6_divided_9 : decode cX6_divided 9 = .ok (.istore_n 2, 1) := by decide +kernel
theorem dX6_divided_10 : decode cX6_divided 10 = .ok (.iload_n 2, 1) := by decide +kernel
theorem dX6_divided_11 : decode cX6_divided 11 = .ok (.ifCond .ne 10, 3) := by decide +kernel
theorem dX6_divided_14 : decode cX6_divided 14 = .ok (.aload_n 0, 1) := by decide +kernel
theorem dX6_divided_15 : decode cX6_divided 15 = .ok (.iconst 1, 1) := by decide +kernel
theorem dX6_divided_16 : decode cX6_divided 16 = .ok (.putfield 28, 3) := by decide +kernel
theorem dX6_divided_19 : decode cX6_divided 19 = .ok (.iconst 0, 1) := by decide +kernel
theorem dX6_divided_20 : decode cX6_divided 20 = .ok (.ireturn, 1) := by decide +kernel
theorem dX6_divided_21 : decode cX6_divided 21 = .ok (.iload_n 1, 1) := by decide +kernel
theorem dX6_divided_22 : decode cX6_divided 22 = .ok (.iload_n 2, 1) := by decide +kernel
theorem dX6_divided_23 : decode cX6_divided 23 = .ok (.idiv, 1) := by decide +kernel
theorem dX6_divided_24 : decode cX6_divided 24 = .ok (.ireturn, 1) := by decide +kernel
theorem dX7_init_0 : decode cX7_init 0 = .ok (.aload_n 0, 1) := by decide +kernel
theorem dX7_init_1 : decode cX7_init 1 = .ok (.invokespecial 3, 3) := by decide +kernel
theorem dX7_init_4 : decode cX7_init 4 = .ok (.aload_n 0, 1) := by decide +kernel
theorem dX7_init_5 : decode cX7_init 5 = .ok (.bipush 60, 2) := by decide +kernel
theorem dX7_init_7 : decode cX7_init 7 = .ok (.newarray .byte, 2) := by decide +kernel
theorem dX7_init_9 : decode cX7_init 9 = .ok (.putfield 9, 3) := by decide +kernel
theorem dX7_init_12 : decode cX7_init 12 = .ok (.aload_n 0, 1) := by decide +kernel
theorem dX7_init_13 : decode cX7_init 13 = .ok (.iconst 0, 1) := by decide +kernel
theorem dX7_init_14 : decode cX7_init 14 = .ok (.putfield 15, 3) := by decide +kernel
theorem dX7_init_17 : decode cX7_init 17 = .ok (.return_, 1) := by decide +kernel
theorem dX7_copyOf_0 : decode cX7_copyOf 0 = .ok (.aload_n 1, 1) := by decide +kernel
theorem dX7_copyOf_1 : decode cX7_copyOf 1 = .ok (.getfield 9, 3) := by decide +kernel
theorem dX7_copyOf_4 : decode cX7_copyOf 4 = .ok (.iconst 0, 1) := by decide +kernel
theorem dX7_copyOf_5 : decode cX7_copyOf 5 = .ok (.aload_n 0, 1) := by decide +kernel
theorem dX7_copyOf_6 : decode cX7_copyOf 6 = .ok (.getfield 9, 3) := by decide +kernel
theorem dX7_copyOf_9 : decode cX7_copyOf 9 = .ok (.iconst 0, 1) := by decide +kernel
theorem dX7_copyOf_10 : decode cX7_copyOf 10 = .ok (.bipush 60, 2) := by decide +kernel
theorem dX7_copyOf_12 : decode cX7_copyOf 12 = .ok (.invokestatic 19, 3) := by decide +kernel
theorem dX7_copyOf_15 : decode cX7_copyOf 15 = .ok (.aload_n 0, 1) := by decide +kernel
theorem dX7_copyOf_16 : decode cX7_copyOf 16 = .ok (.aload_n 1, 1) := by decide +kernel
theorem dX7_copyOf_17 : decode cX7_copyOf 17 = .ok (.getfield 15, 3) := by decide +kernel
theorem dX7_copyOf_20 : decode cX7_copyOf 20 = .ok (.putfield 15, 3) := by decide +kernel
theorem dX7_copyOf_23 : decode cX7_copyOf 23 = .ok (.return_, 1) := by decide +kernel
theorem dX7_append_0 : decode cX7_append 0 = .ok (.iconst 0, 1) := by decide +kernel
theorem dX7_append_1 : decode cX7_append 1 = .ok (.istore 4, 2) := by decide +kernel
theorem dX7_append_3 : decode cX7_append 3 = .ok (.iload 4, 2) := by decide +kernel
theorem dX7_append_5 : decode cX7_append 5 = .ok (.iload_n 3, 1) := by decide +kernel
theorem dX7_append_6 : decode cX7_append 6 = .ok (.if_icmp .ge 49, 3) := by decide +kernel
theorem dX7_append_9 : decode cX7_append 9 = .ok (.aload_n 0, 1) := by decide +kernel
theorem dX7_append_10 : decode cX7_append 10 = .ok (.getfield 15, 3) := by decide +kernel
theorem dX7_append_13 : decode cX7_append 13 = .ok (.aload_n 0, 1) := by decide +kernel
theorem dX7_append_14 : decode cX7_append 14 = .ok (.getfield 9, 3) := by decide +kernel
theorem dX7_append_17 : decode cX7_append 17 = .ok (.arraylength, 1) := by decide +kernel
theorem dX7_append_18 : decode cX7_append 18 = .ok (.if_icmp .ge 37, 3) := by decide +kernel
theorem dX7_append_21 : decode cX7_append 21 = .ok (.aload_n 0, 1) := by decide +kernel
theorem dX7_append_22 : decode cX7_append 22 = .ok (.getfield 9, 3) := by decide +kernel
theorem dX7_append_25 : decode cX7_append 25 = .ok (.aload_n 0, 1) := by decide +kernel
theorem dX7_append_26 : decode cX7_append 26 = .ok (.getfield 15, 3) := by decide +kernel
theorem dX7_append_29 : decode cX7_append 29 = .ok (.lload_n 1, 1) := by decide +kernel
theorem dX7_append_30 : decode cX7_append 30 = .ok (.bipush 8, 2) := by decide +kernel
theorem dX7_append_32 : decode cX7_append 32 = .ok (.iload 4, 2) := by decide +kernel
theorem dX7_append_34 : decode cX7_append 34 = .ok (.imul, 1) := by decide +kernel
theorem dX7_append_35 : decode cX7_append 35 = .ok (.lushr, 1) := by decide +kernel
theorem dX7_append_36 : decode cX7_append 36 = .ok (.l2i, 1) := by decide +kernel
theorem dX7_append_37 : decode cX7_append 37 = .ok (.i2b, 1) := by decide +kernel
theorem dX7_append_38 : decode cX7_append 38 = .ok (.bastore, 1) := by decide +kernel
theorem dX7_append_39 : decode cX7_append 39 = .ok (.aload_n 0, 1) := by decide +kernel
theorem dX7_append_40 : decode cX7_append 40 = .ok (.dup, 1) := by decide +kernel
theorem dX7_append_41 : decode cX7_append 41 = .ok (.getfield 15, 3) := by decide +kernel
theorem dX7_append_44 : decode cX7_append 44 = .ok (.iconst 1, 1) := by decide +kernel
theorem dX7_append_45 : decode cX7_append 45 = .ok (.iadd, 1) := by decide +kernel
theorem dX7_append_46 : decode cX7_append 46 = .ok (.putfield 15, 3) := by decide +kernel
theorem dX7_append_49 : decode cX7_append 49 = .ok (.iinc 4 1, 3) := by decide +kernel
theorem dX7_append_52 : decode cX7_append 52 = .ok (.goto (-49), 3) := by decide +kernel
theorem dX7_append_55 : decode cX7_append 55 = .ok (.return_, 1) := by decide +kernel
theorem dX8_init_0 : decode cX8_init 0 = .ok (.aload_n 0, 1) := by decide +kernel
theorem dX8_init_1 : decode cX8_init 1 = .ok (.invokespecial 1, 3) := by decide +kernel
theorem dX8_init_4 : decode cX8_init 4 = .ok (.aload_n 0, 1) := by decide +kernel
theorem dX8_init_5 : decode cX8_init 5 = .ok (.new 7, 3) := by decide +kernel
theorem dX8_init_8 : decode cX8_init 8 = .ok (.dup, 1) := by decide +kernel
theorem dX8_init_9 : decode cX8_init 9 = .ok (.invokespecial 9, 3) := by decide +kernel
theorem dX8_init_12 : decode cX8_init 12 = .ok (.putfield 10, 3) := by decide +kernel
theorem dX8_init_15 : decode cX8_init 15 = .ok (.aload_n 0, 1) := by decide +kernel
theorem dX8_init_16 : decode cX8_init 16 = .ok (.new 7, 3) := by decide +kernel
theorem dX8_init_19 : decode cX8_init 19 = .ok (.dup, 1) := by decide +kernel
theorem dX8_init_20 : decode cX8_init 20 = .ok (.invokespecial 9, 3) := by decide +kernel
theorem dX8_init_23 : decode cX8_init 23 = .ok (.putfield 16, 3) := by decide +kernel
theorem dX8_init_26 : decode cX8_init 26 = .ok (.aload_n 0, 1) := by decide +kernel
theorem dX8_init_27 : decode cX8_init 27 = .ok (.new 19, 3) := by decide +kernel
theorem dX8_init_30 : decode cX8_init 30 = .ok (.dup, 1) := by decide +kernel
theorem dX8_init_31 : decode cX8_init 31 = .ok (.aload_n 0, 1) := by decide +kernel
theorem dX8_init_32 : decode cX8_init 32 = .ok (.getfield 10, 3) := by decide +kernel
theorem dX8_init_35 : decode cX8_init 35 = .ok (.getfield 21, 3) := by decide +kernel
theorem dX8_init_38 : decode cX8_init 38 = .ok (.aload_n 0, 1) := by decide +kernel
theorem dX8_init_39 : decode cX8_init 39 = .ok (.getfield 10, 3) := by decide +kernel
theorem dX8_init_42 : decode cX8_init 42 = .ok (.getfield 25, 3) := by decide +kernel
theorem dX8_init_45 : decode cX8_init 45 = .ok (.invokespecial 28, 3) := by decide +kernel
theorem dX8_init_48 : decode cX8_init 48 = .ok (.putfield 31, 3) := by decide +kernel
theorem dX8_init_51 : decode cX8_init 51 = .ok (.aload_n 0, 1) := by decide +kernel
theorem dX8_init_52 : decode cX8_init 52 = .ok (.new 35, 3) := by decide +kernel
theorem dX8_init_55 : decode cX8_init 55 = .ok (.dup, 1) := by decide +kernel
theorem dX8_init_56 : decode cX8_init 56 = .ok (.invokespecial 37, 3) := by decide +kernel
theorem dX8_init_59 : decode cX8_init 59 = .ok (.putfield 38, 3) := by decide +kernel
theorem dX8_init_62 : decode cX8_init 62 = .ok (.aload_n 0, 1) := by decide +kernel
theorem dX8_init_63 : decode cX8_init 63 = .ok (.new 42, 3) := by decide +kernel
theorem dX8_init_66 : decode cX8_init 66 = .ok (.dup, 1) := by decide +kernel
theorem dX8_init_67 : decode cX8_init 67 = .ok (.invokespecial 44, 3) := by decide +kernel
theorem dX8_init_70 : decode cX8_init 70 = .ok (.putfield 45, 3) := by decide +kernel
theorem dX8_init_73 : decode cX8_init 73 = .ok (.aload_n 0, 1) := by decide +kernel
theorem dX8_init_74 : decode cX8_init 74 = .ok (.new 49, 3) := by decide +kernel
theorem dX8_init_77 : decode cX8_init 77 = .ok (.dup, 1) := by decide +kernel
theorem dX8_init_78 : decode cX8_init 78 = .ok (.invokespecial 51, 3) := by decide +kernel
theorem dX8_init_81 : decode cX8_init 81 = .ok (.putfield 52, 3) := by decide +kernel
theorem dX8_init_84 : decode cX8_init 84 = .ok (.aload_n 0, 1) := by decide +kernel
theorem dX8_init_85 : decode cX8_init 85 = .ok (.iconst 4, 1) := by decide +kernel
theorem dX8_init_86 : decode cX8_init 86 = .ok (.anewarray 56, 3) := by decide +kernel
theorem dX8_init_89 : decode cX8_init 89 = .ok (.putfield 58, 3) := by decide +kernel
theorem dX8_init_92 : decode cX8_init 92 = .ok (.iconst 0, 1) := by decide +kernel
theorem dX8_init_93 : decode cX8_init 93 = .ok (.istore_n 1, 1) := by decide +kernel
theorem dX8_init_94 : decode cX8_init 94 = .ok (.iload_n 1, 1) := by decide +kernel
theorem dX8_init_95 : decode cX8_init 95 = .ok (.iconst 4, 1) := by decide +kernel
theorem dX8_init_96 : decode cX8_init 96 = .ok (.if_icmp .ge 22, 3) := by decide +kernel
theorem dX8_init_99 : decode cX8_init 99 = .ok (.aload_n 0, 1) := by decide +kernel
theorem dX8_init_100 : decode cX8_init 100 = .ok (.getfield 58, 3) := by decide +kernel
theorem dX8_init_103 : decode cX8_init 103 = .ok (.iload_n 1, 1) := by decide +kernel
theorem dX8_init_104 : decode cX8_init 104 = .ok (.new 56, 3) := by decide +kernel
theorem dX8_init_107 : decode cX8_init 107 = .ok (.dup, 1) := by decide +kernel
theorem dX8_init_108 : decode cX8_init 108 = .ok (.invokespecial 62, 3) := by decide +kernel
theorem dX8_init_111 : decode cX8_init 111 = .ok (.aastore, 1) := by decide +kernel
theorem dX8_init_112 : decode cX8_init 112 = .ok (.iinc 1 1, 3) := by decide +kernel
theorem dX8_init_115 : decode cX8_init 115 = .ok (.goto (-21), 3) := by decide +kernel
theorem dX8_init_118 : decode cX8_init 118 = .ok (.aload_n 0, 1) := by decide +kernel
theorem dX8_init_119 : decode cX8_init 119 = .ok (.bipush 7, 2) := by decide +kernel
theorem dX8_init_121 : decode cX8_init 121 = .ok (.newarray .int, 2) := by decide +kernel
theorem dX8_init_123 : decode cX8_init 123 = .ok (.putfield 63, 3) := by decide +kernel
theorem dX8_init_126 : decode cX8_init 126 = .ok (.aload_n 0, 1) := by decide +kernel
theorem dX8_init_127 : decode cX8_init 127 = .ok (.iconst 0, 1) := by decide +kernel
theorem dX8_init_128 : decode cX8_init 128 = .ok (.putfield 67, 3) := by decide +kernel
theorem dX8_init_131 : decode cX8_init 131 = .ok (.return_, 1) := by decide +kernel
theorem dX8_person_0 : decode cX8_person 0 = .ok (.iload_n 1, 1) := by decide +kernel
theorem dX8_person_1 : decode cX8_person 1 = .ok (.invokestatic 71, 3) := by decide +kernel
theorem dX8_person_4 : decode cX8_person 4 = .ok (.ifCond .ne 9, 3) := by decide +kernel
theorem dX8_person_7 : decode cX8_person 7 = .ok (.aload_n 0, 1) := by decide +kernel
theorem dX8_person_8 : decode cX8_person 8 = .ok (.iconst 1, 1) := by decide +kernel
theorem dX8_person_9 : decode cX8_person 9 = .ok (.invokevirtual 75, 3) := by decide +kernel
theorem dX8_person_12 : decode cX8_person 12 = .ok (.ireturn, 1) := by decide +kernel
theorem dX8_person_13 : decode cX8_person 13 = .ok (.aload_n 0, 1) := by decide +kernel
theorem dX8_person_14 : decode cX8_person 14 = .ok (.getfield 10, 3) := by decide +kernel
theorem dX8_person_17 : decode cX8_person 17 = .ok (.getfield 79, 3) := by decide +kernel
theorem dX8_person_20 : decode cX8_person 20 = .ok (.getfield 82, 3) := by decide +kernel
theorem dX8_person_23 : decode cX8_person 23 = .ok (.bipush 6, 2) := by decide +kernel
theorem dX8_person_25 : decode cX8_person 25 = .ok (.if_icmp .lt 9, 3) := by decide +kernel
theorem dX8_person_28 : decode cX8_person 28 = .ok (.aload_n 0, 1) := by decide +kernel
theorem dX8_person_29 : decode cX8_person 29 = .ok (.iconst 4, 1) := by decide +kernel
theorem dX8_person_30 : decode cX8_person 30 = .ok (.invokevirtual 75, 3) := by decide +kernel
theorem dX8_person_33 : decode cX8_person 33 = .ok (.ireturn, 1) := by decide +kernel
theorem dX8_person_34 : decode cX8_person 34 = .ok (.aload_n 0, 1) := by decide +kernel
theorem dX8_person_35 : decode cX8_person 35 = .ok (.getfield 10, 3) := by decide +kernel
theorem dX8_person_38 : decode cX8_person 38 = .ok (.getfield 79, 3) := by decide +kernel
theorem dX8_person_41 : decode cX8_person 41 = .ok (.iload_n 1, 1) := by decide +kernel
theorem dX8_person_42 : decode cX8_person 42 = .ok (.bipush 10, 2) := by decide +kernel
theorem dX8_person_44 : decode cX8_person 44 = .ok (.idiv, 1) := by decide +kernel
theorem dX8_person_45 : decode cX8_person 45 = .ok (.iload_n 1, 1) := by decide +kernel
theorem dX8_person_46 : decode cX8_person 46 = .ok (.bipush 10, 2) := by decide +kernel
theorem dX8_person_48 : decode cX8_person 48 = .ok (.irem, 1) := by decide +kernel
theorem dX8_person_49 : decode cX8_person 49 = .ok (.invokevirtual 85, 3) := by decide +kernel
theorem dX8_person_52 : decode cX8_person 52 = .ok (.ireturn, 1) := by decide +kernel
theorem dX8_personIs_0 : decode cX8_personIs 0 = .ok (.aload_n 0, 1) := by decide +kernel
theorem dX8_personIs_1 : decode cX8_personIs 1 = .ok (.getfield 10, 3) := by decide +kernel
theorem dX8_personIs_4 : decode cX8_personIs 4 = .ok (.getfield 79, 3) := by decide +kernel
theorem dX8_personIs_7 : decode cX8_personIs 7 = .ok (.astore_n 3, 1) := by decide +kernel
theorem dX8_personIs_8 : decode cX8_personIs 8 = .ok (.aload_n 3, 1) := by decide +kernel
theorem dX8_personIs_9 : decode cX8_personIs 9 = .ok (.iload_n 1, 1) := by decide +kernel
theorem dX8_personIs_10 : decode cX8_personIs 10 = .ok (.invokevirtual 89, 3) := by decide +kernel
theorem dX8_personIs_13 : decode cX8_personIs 13 = .ok (.ifCond .eq 12, 3) := by decide +kernel
theorem dX8_personIs_16 : decode cX8_personIs 16 = .ok (.iload_n 2, 1) := by decide +kernel
theorem dX8_personIs_17 : decode cX8_personIs 17 = .ok (.ifCond .lt 8, 3) := by decide +kernel
theorem dX8_personIs_20 : decode cX8_personIs 20 = .ok (.iload_n 2, 1) := by decide +kernel
theorem dX8_personIs_21 : decode cX8_personIs 21 = .ok (.iconst 4, 1) := by decide +kernel
theorem dX8_personIs_22 : decode cX8_personIs 22 = .ok (.if_icmp .le 9, 3) := by decide +kernel
theorem dX8_personIs_25 : decode cX8_personIs 25 = .ok (.aload_n 0, 1) := by decide +kernel
theorem dX8_personIs_26 : decode cX8_personIs 26 = .ok (.iconst 1, 1) := by decide +kernel
theorem dX8_personIs_27 : decode cX8_personIs 27 = .ok (.invokevirtual 75, 3) := by decide +kernel
theorem dX8_personIs_30 : decode cX8_personIs 30 = .ok (.ireturn, 1) := by decide +kernel
theorem dX8_personIs_31 : decode cX8_personIs 31 = .ok (.iload_n 2, 1) := by decide +kernel
theorem dX8_personIs_32 : decode cX8_personIs 32 = .ok (.tableswitch 58 0 3 #[32, 39, 46, 52], 32) := by decide +kernel
theorem dX8_personIs_64 : decode cX8_personIs 64 = .ok (.aload_n 3, 1) := by decide +kernel
theorem dX8_personIs_65 : decode cX8_personIs 65 = .ok (.getfield 92, 3) := by decide +kernel
theorem dX8_personIs_68 : decode cX8_personIs 68 = .ok (.iload_n 1, 1) := by decide +kernel
theorem dX8_personIs_69 : decode cX8_personIs 69 = .ok (.iaload, 1) := by decide +kernel
theorem dX8_personIs_70 : decode cX8_personIs 70 = .ok (.ireturn, 1) := by decide +kernel
theorem dX8_personIs_71 : decode cX8_personIs 71 = .ok (.aload_n 3, 1) := by decide +kernel
theorem dX8_personIs_72 : decode cX8_personIs 72 = .ok (.getfield 95, 3) := by decide +kernel
theorem dX8_personIs_75 : decode cX8_personIs 75 = .ok (.iload_n 1, 1) := by decide +kernel
theorem dX8_personIs_76 : decode cX8_personIs 76 = .ok (.iaload, 1) := by decide +kernel
theorem dX8_personIs_77 : decode cX8_personIs 77 = .ok (.ireturn, 1) := by decide +kernel
theorem dX8_personIs_78 : decode cX8_personIs 78 = .ok (.aload_n 3, 1) := by decide +kernel
theorem dX8_personIs_79 : decode cX8_personIs 79 = .ok (.iload_n 1, 1) := by decide +kernel
theorem dX8_personIs_80 : decode cX8_personIs 80 = .ok (.invokevirtual 98, 3) := by decide +kernel
theorem dX8_personIs_83 : decode cX8_personIs 83 = .ok (.ireturn, 1) := by decide +kernel
theorem dX8_personIs_84 : decode cX8_personIs 84 = .ok (.aload_n 3, 1) := by decide +kernel
theorem dX8_personIs_85 : decode cX8_personIs 85 = .ok (.iload_n 1, 1) := by decide +kernel
theorem dX8_personIs_86 : decode cX8_personIs 86 = .ok (.invokevirtual 101, 3) := by decide +kernel
theorem dX8_personIs_89 : decode cX8_personIs 89 = .ok (.ireturn, 1) := by decide +kernel
theorem dX8_personIs_90 : decode cX8_personIs 90 = .ok (.aload_n 3, 1) := by decide +kernel
theorem dX8_personIs_91 : decode cX8_personIs 91 = .ok (.iload_n 1, 1) := by decide +kernel
theorem dX8_personIs_92 : decode cX8_personIs 92 = .ok (.invokevirtual 104, 3) := by decide +kernel
theorem dX8_personIs_95 : decode cX8_personIs 95 = .ok (.ireturn, 1) := by decide +kernel
theorem dX8_become_0 : decode cX8_become 0 = .ok (.aload_n 0, 1) := by decide +kernel
theorem dX8_become_1 : decode cX8_become 1 = .ok (.getfield 10, 3) := by decide +kernel
theorem dX8_become_4 : decode cX8_become 4 = .ok (.getfield 79, 3) := by decide +kernel
theorem dX8_become_7 : decode cX8_become 7 = .ok (.astore_n 3, 1) := by decide +kernel
theorem dX8_become_8 : decode cX8_become 8 = .ok (.aload_n 3, 1) := by decide +kernel
theorem dX8_become_9 : decode cX8_become 9 = .ok (.iload_n 1, 1) := by decide +kernel
theorem dX8_become_10 : decode cX8_become 10 = .ok (.invokevirtual 89, 3) := by decide +kernel
theorem dX8_become_13 : decode cX8_become 13 = .ok (.ifCond .eq 10, 3) := by decide +kernel
theorem dX8_become_16 : decode cX8_become 16 = .ok (.iload_n 2, 1) := by decide +kernel
theorem dX8_become_17 : decode cX8_become 17 = .ok (.invokestatic 71, 3) := by decide +kernel
theorem dX8_become_20 : decode cX8_become 20 = .ok (.ifCond .ne 9, 3) := by decide +kernel
theorem dX8_become_23 : decode cX8_become 23 = .ok (.aload_n 0, 1) := by decide +kernel
theorem dX8_become_24 : decode cX8_become 24 = .ok (.iconst 1, 1) := by decide +kernel
theorem dX8_become_25 : decode cX8_become 25 = .ok (.invokevirtual 75, 3) := by decide +kernel
theorem dX8_become_28 : decode cX8_become 28 = .ok (.ireturn, 1) := by decide +kernel
theorem dX8_become_29 : decode cX8_become 29 = .ok (.aload_n 3, 1) := by decide +kernel
theorem dX8_become_30 : decode cX8_become 30 = .ok (.getfield 92, 3) := by decide +kernel
theorem dX8_become_33 : decode cX8_become 33 = .ok (.iload_n 1, 1) := by decide +kernel
theorem dX8_become_34 : decode cX8_become 34 = .ok (.iaload, 1) := by decide +kernel
theorem dX8_become_35 : decode cX8_become 35 = .ok (.istore 4, 2) := by decide +kernel
theorem dX8_become_37 : decode cX8_become 37 = .ok (.aload_n 3, 1) := by decide +kernel
theorem dX8_become_38 : decode cX8_become 38 = .ok (.getfield 92, 3) := by decide +kernel
theorem dX8_become_41 : decode cX8_become 41 = .ok (.iload_n 1, 1) := by decide +kernel
theorem dX8_become_42 : decode cX8_become 42 = .ok (.iload_n 2, 1) := by decide +kernel
theorem dX8_become_43 : decode cX8_become 43 = .ok (.bipush 10, 2) := by decide +kernel
theorem dX8_become_45 : decode cX8_become 45 = .ok (.idiv, 1) := by decide +kernel
theorem dX8_become_46 : decode cX8_become 46 = .ok (.iastore, 1) := by decide +kernel
theorem dX8_become_47 : decode cX8_become 47 = .ok (.aload_n 3, 1) := by decide +kernel
theorem dX8_become_48 : decode cX8_become 48 = .ok (.getfield 95, 3) := by decide +kernel
theorem dX8_become_51 : decode cX8_become 51 = .ok (.iload_n 1, 1) := by decide +kernel
theorem dX8_become_52 : decode cX8_become 52 = .ok (.iload_n 2, 1) := by decide +kernel
theorem dX8_become_53 : decode cX8_become 53 = .ok (.bipush 10, 2) := by decide +kernel
theorem dX8_become_55 : decode cX8_become 55 = .ok (.irem, 1) := by decide +kernel
theorem dX8_become_56 : decode cX8_become 56 = .ok (.iastore, 1) := by decide +kernel
theorem dX8_become_57 : decode cX8_become 57 = .ok (.iload 4, 2) := by decide +kernel
theorem dX8_become_59 : decode cX8_become 59 = .ok (.ireturn, 1) := by decide +kernel
theorem dX8_as_0 : decode cX8_as 0 = .ok (.aload_n 0, 1) := by decide +kernel
theorem dX8_as_1 : decode cX8_as 1 = .ok (.getfield 10, 3) := by decide +kernel
theorem dX8_as_4 : decode cX8_as 4 = .ok (.getfield 79, 3) := by decide +kernel
theorem dX8_as_7 : decode cX8_as 7 = .ok (.astore_n 3, 1) := by decide +kernel
theorem dX8_as_8 : decode cX8_as 8 = .ok (.aload_n 3, 1) := by decide +kernel
theorem dX8_as_9 : decode cX8_as 9 = .ok (.iload_n 1, 1) := by decide +kernel
theorem dX8_as_10 : decode cX8_as 10 = .ok (.invokevirtual 89, 3) := by decide +kernel
theorem dX8_as_13 : decode cX8_as 13 = .ok (.ifCond .eq 13, 3) := by decide +kernel
theorem dX8_as_16 : decode cX8_as 16 = .ok (.iload_n 2, 1) := by decide +kernel
theorem dX8_as_17 : decode cX8_as 17 = .ok (.ifCond .lt 9, 3) := by decide +kernel
theorem dX8_as_20 : decode cX8_as 20 = .ok (.iload_n 2, 1) := by decide +kernel
theorem dX8_as_21 : decode cX8_as 21 = .ok (.bipush 7, 2) := by decide +kernel
theorem dX8_as_23 : decode cX8_as 23 = .ok (.if_icmp .lt 9, 3) := by decide +kernel
theorem dX8_as_26 : decode cX8_as 26 = .ok (.aload_n 0, 1) := by decide +kernel
theorem dX8_as_27 : decode cX8_as 27 = .ok (.iconst 1, 1) := by decide +kernel
theorem dX8_as_28 : decode cX8_as 28 = .ok (.invokevirtual 75, 3) := by decide +kernel
theorem dX8_as_31 : decode cX8_as 31 = .ok (.ireturn, 1) := by decide +kernel
theorem dX8_as_32 : decode cX8_as 32 = .ok (.aload_n 3, 1) := by decide +kernel
theorem dX8_as_33 : decode cX8_as 33 = .ok (.getfield 92, 3) := by decide +kernel
theorem dX8_as_36 : decode cX8_as 36 = .ok (.iload_n 1, 1) := by decide +kernel
theorem dX8_as_37 : decode cX8_as 37 = .ok (.iaload, 1) := by decide +kernel
theorem dX8_as_38 : decode cX8_as 38 = .ok (.iload_n 2, 1) := by decide +kernel
theorem dX8_as_39 : decode cX8_as 39 = .ok (.invokestatic 107, 3) := by decide +kernel
theorem dX8_as_42 : decode cX8_as 42 = .ok (.ifCond .ne 9, 3) := by decide +kernel
theorem dX8_as_45 : decode cX8_as 45 = .ok (.aload_n 0, 1) := by decide +kernel
theorem dX8_as_46 : decode cX8_as 46 = .ok (.iconst 5, 1) := by decide +kernel
theorem dX8_as_47 : decode cX8_as 47 = .ok (.invokevirtual 75, 3) := by decide +kernel
theorem dX8_as_50 : decode cX8_as 50 = .ok (.ireturn, 1) := by decide +kernel
theorem dX8_as_51 : decode cX8_as 51 = .ok (.aload_n 3, 1) := by decide +kernel
theorem dX8_as_52 : decode cX8_as 52 = .ok (.getfield 95, 3) := by decide +kernel
theorem dX8_as_55 : decode cX8_as 55 = .ok (.iload_n 1, 1) := by decide +kernel
theorem dX8_as_56 : decode cX8_as 56 = .ok (.iaload, 1) := by decide +kernel
theorem dX8_as_57 : decode cX8_as 57 = .ok (.ireturn, 1) := by decide +kernel
theorem dX8_gate_0 : decode cX8_gate 0 = .ok (.iload_n 1, 1) := by decide +kernel
theorem dX8_gate_1 : decode cX8_gate 1 = .ok (.iload_n 2, 1) := by decide +kernel
theorem dX8_gate_2 : decode cX8_gate 2 = .ok (.invokestatic 111, 3) := by decide +kernel
theorem dX8_gate_5 : decode cX8_gate 5 = .ok (.ifCond .eq 13, 3) := by decide +kernel
theorem dX8_gate_8 : decode cX8_gate 8 = .ok (.iload_n 3, 1) := by decide +kernel
theorem dX8_gate_9 : decode cX8_gate 9 = .ok (.ifCond .lt 9, 3) := by decide +kernel
theorem dX8_gate_12 : decode cX8_gate 12 = .ok (.iload_n 3, 1) := by decide +kernel
theorem dX8_gate_13 : decode cX8_gate 13 = .ok (.bipush 9, 2) := by decide +kernel
theorem dX8_gate_15 : decode cX8_gate 15 = .ok (.if_icmp .le 9, 3) := by decide +kernel
theorem dX8_gate_18 : decode cX8_gate 18 = .ok (.aload_n 0, 1) := by decide +kernel
theorem dX8_gate_19 : decode cX8_gate 19 = .ok (.iconst 1, 1) := by decide +kernel
theorem dX8_gate_20 : decode cX8_gate 20 = .ok (.invokevirtual 75, 3) := by decide +kernel
theorem dX8_gate_23 : decode cX8_gate 23 = .ok (.ireturn, 1) := by decide +kernel
theorem dX8_gate_24 : decode cX8_gate 24 = .ok (.aload_n 0, 1) := by decide +kernel
theorem dX8_gate_25 : decode cX8_gate 25 = .ok (.getfield 10, 3) := by decide +kernel
theorem dX8_gate_28 : decode cX8_gate 28 = .ok (.getfield 79, 3) := by decide +kernel
theorem dX8_gate_31 : decode cX8_gate 31 = .ok (.getfield 114, 3) := by decide +kernel
theorem dX8_gate_34 : decode cX8_gate 34 = .ok (.bipush 9, 2) := by decide +kernel
theorem dX8_gate_36 : decode cX8_gate 36 = .ok (.if_icmp .lt 9, 3) := by decide +kernel
theorem dX8_gate_39 : decode cX8_gate 39 = .ok (.aload_n 0, 1) := by decide +kernel
theorem dX8_gate_40 : decode cX8_gate 40 = .ok (.iconst 4, 1) := by decide +kernel
theorem dX8_gate_41 : decode cX8_gate 41 = .ok (.invokevirtual 75, 3) := by decide +kernel
theorem dX8_gate_44 : decode cX8_gate 44 = .ok (.ireturn, 1) := by decide +kernel
theorem dX8_gate_45 : decode cX8_gate 45 = .ok (.aload_n 0, 1) := by decide +kernel
theorem dX8_gate_46 : decode cX8_gate 46 = .ok (.getfield 10, 3) := by decide +kernel
theorem dX8_gate_49 : decode cX8_gate 49 = .ok (.getfield 79, 3) := by decide +kernel
theorem dX8_gate_52 : decode cX8_gate 52 = .ok (.iload_n 1, 1) := by decide +kernel
theorem dX8_gate_53 : decode cX8_gate 53 = .ok (.iload_n 2, 1) := by decide +kernel
theorem dX8_gate_54 : decode cX8_gate 54 = .ok (.iload_n 3, 1) := by decide +kernel
theorem dX8_gate_55 : decode cX8_gate 55 = .ok (.invokevirtual 117, 3) := by decide +kernel
theorem dX8_gate_58 : decode cX8_gate 58 = .ok (.ireturn, 1) := by decide +kernel
theorem dX8_gateIs_0 : decode cX8_gateIs 0 = .ok (.aload_n 0, 1) := by decide +kernel
theorem dX8_gateIs_1 : decode cX8_gateIs 1 = .ok (.getfield 10, 3) := by decide +kernel
theorem dX8_gateIs_4 : decode cX8_gateIs 4 = .ok (.getfield 79, 3) := by decide +kernel
theorem dX8_gateIs_7 : decode cX8_gateIs 7 = .ok (.astore_n 3, 1) := by decide +kernel
theorem dX8_gateIs_8 : decode cX8_gateIs 8 = .ok (.aload_n 3, 1) := by decide +kernel
theorem dX8_gateIs_9 : decode cX8_gateIs 9 = .ok (.iload_n 1, 1) := by decide +kernel
theorem dX8_gateIs_10 : decode cX8_gateIs 10 = .ok (.invokevirtual 121, 3) := by decide +kernel
theorem dX8_gateIs_13 : decode cX8_gateIs 13 = .ok (.ifCond .eq 12, 3) := by decide +kernel
theorem dX8_gateIs_16 : decode cX8_gateIs 16 = .ok (.iload_n 2, 1) := by decide +kernel
theorem dX8_gateIs_17 : decode cX8_gateIs 17 = .ok (.ifCond .lt 8, 3) := by decide +kernel
theorem dX8_gateIs_20 : decode cX8_gateIs 20 = .ok (.iload_n 2, 1) := by decide +kernel
theorem dX8_gateIs_21 : decode cX8_gateIs 21 = .ok (.iconst 3, 1) := by decide +kernel
theorem dX8_gateIs_22 : decode cX8_gateIs 22 = .ok (.if_icmp .le 9, 3) := by decide +kernel
theorem dX8_gateIs_25 : decode cX8_gateIs 25 = .ok (.aload_n 0, 1) := by decide +kernel
theorem dX8_gateIs_26 : decode cX8_gateIs 26 = .ok (.iconst 1, 1) := by decide +kernel
theorem dX8_gateIs_27 : decode cX8_gateIs 27 = .ok (.invokevirtual 75, 3) := by decide +kernel
theorem dX8_gateIs_30 : decode cX8_gateIs 30 = .ok (.ireturn, 1) := by decide +kernel
theorem dX8_gateIs_31 : decode cX8_gateIs 31 = .ok (.iload_n 2, 1) := by decide +kernel
theorem dX8_gateIs_32 : decode cX8_gateIs 32 = .ok (.tableswitch 49 0 2 #[28, 35, 42], 28) := by decide +kernel
theorem dX8_gateIs_60 : decode cX8_gateIs 60 = .ok (.aload_n 3, 1) := by decide +kernel
theorem dX8_gateIs_61 : decode cX8_gateIs 61 = .ok (.getfield 124, 3) := by decide +kernel
theorem dX8_gateIs_64 : decode cX8_gateIs 64 = .ok (.iload_n 1, 1) := by decide +kernel
theorem dX8_gateIs_65 : decode cX8_gateIs 65 = .ok (.iaload, 1) := by decide +kernel
theorem dX8_gateIs_66 : decode cX8_gateIs 66 = .ok (.ireturn, 1) := by decide +kernel
theorem dX8_gateIs_67 : decode cX8_gateIs 67 = .ok (.aload_n 3, 1) := by decide +kernel
theorem dX8_gateIs_68 : decode cX8_gateIs 68 = .ok (.getfield 127, 3) := by decide +kernel
theorem dX8_gateIs_71 : decode cX8_gateIs 71 = .ok (.iload_n 1, 1) := by decide +kernel
theorem dX8_gateIs_72 : decode cX8_gateIs 72 = .ok (.iaload, 1) := by decide +kernel
theorem dX8_gateIs_73 : decode cX8_gateIs 73 = .ok (.ireturn, 1) := by decide +kernel
theorem dX8_gateIs_74 : decode cX8_gateIs 74 = .ok (.aload_n 3, 1) := by decide +kernel
theorem dX8_gateIs_75 : decode cX8_gateIs 75 = .ok (.getfield 130, 3) := by decide +kernel
theorem dX8_gateIs_78 : decode cX8_gateIs 78 = .ok (.iload_n 1, 1) := by decide +kernel
theorem dX8_gateIs_79 : decode cX8_gateIs 79 = .ok (.iaload, 1) := by decide +kernel
theorem dX8_gateIs_80 : decode cX8_gateIs 80 = .ok (.ireturn, 1) := by decide +kernel
theorem dX8_gateIs_81 : decode cX8_gateIs 81 = .ok (.aload_n 3, 1) := by decide +kernel
theorem dX8_gateIs_82 : decode cX8_gateIs 82 = .ok (.getfield 133, 3) := by decide +kernel
theorem dX8_gateIs_85 : decode cX8_gateIs 85 = .ok (.iload_n 1, 1) := by decide +kernel
theorem dX8_gateIs_86 : decode cX8_gateIs 86 = .ok (.iaload, 1) := by decide +kernel
theorem dX8_gateIs_87 : decode cX8_gateIs 87 = .ok (.ireturn, 1) := by decide +kernel
theorem dX8_hold_0 : decode cX8_hold 0 = .ok (.aload_n 0, 1) := by decide +kernel
theorem dX8_hold_1 : decode cX8_hold 1 = .ok (.getfield 10, 3) := by decide +kernel
theorem dX8_hold_4 : decode cX8_hold 4 = .ok (.getfield 79, 3) := by decide +kernel
theorem dX8_hold_7 : decode cX8_hold 7 = .ok (.astore_n 3, 1) := by decide +kernel
theorem dX8_hold_8 : decode cX8_hold 8 = .ok (.aload_n 3, 1) := by decide +kernel
theorem dX8_hold_9 : decode cX8_hold 9 = .ok (.iload_n 1, 1) := by decide +kernel
theorem dX8_hold_10 : decode cX8_hold 10 = .ok (.invokevirtual 121, 3) := by decide +kernel
theorem dX8_hold_13 : decode cX8_hold 13 = .ok (.ifCond .eq 11, 3) := by decide +kernel
theorem dX8_hold_16 : decode cX8_hold 16 = .ok (.aload_n 3, 1) := by decide +kernel
theorem dX8_hold_17 : decode cX8_hold 17 = .ok (.iload_n 2, 1) := by decide +kernel
theorem dX8_hold_18 : decode cX8_hold 18 = .ok (.invokevirtual 136, 3) := by decide +kernel
theorem dX8_hold_21 : decode cX8_hold 21 = .ok (.ifCond .ne 9, 3) := by decide +kernel
theorem dX8_hold_24 : decode cX8_hold 24 = .ok (.aload_n 0, 1) := by decide +kernel
theorem dX8_hold_25 : decode cX8_hold 25 = .ok (.iconst 1, 1) := by decide +kernel
theorem dX8_hold_26 : decode cX8_hold 26 = .ok (.invokevirtual 75, 3) := by decide +kernel
theorem dX8_hold_29 : decode cX8_hold 29 = .ok (.ireturn, 1) := by decide +kernel
theorem dX8_hold_30 : decode cX8_hold 30 = .ok (.aload_n 3, 1) := by decide +kernel
theorem dX8_hold_31 : decode cX8_hold 31 = .ok (.getfield 133, 3) := by decide +kernel
theorem dX8_hold_34 : decode cX8_hold 34 = .ok (.iload_n 1, 1) := by decide +kernel
theorem dX8_hold_35 : decode cX8_hold 35 = .ok (.iaload, 1) := by decide +kernel
theorem dX8_hold_36 : decode cX8_hold 36 = .ok (.istore 4, 2) := by decide +kernel
theorem dX8_hold_38 : decode cX8_hold 38 = .ok (.aload_n 3, 1) := by decide +kernel
theorem dX8_hold_39 : decode cX8_hold 39 = .ok (.getfield 133, 3) := by decide +kernel
theorem dX8_hold_42 : decode cX8_hold 42 = .ok (.iload_n 1, 1) := by decide +kernel
theorem dX8_hold_43 : decode cX8_hold 43 = .ok (.iload_n 2, 1) := by decide +kernel
theorem dX8_hold_44 : decode cX8_hold 44 = .ok (.iastore, 1) := by decide +kernel
theorem dX8_hold_45 : decode cX8_hold 45 = .ok (.iload 4, 2) := by decide +kernel
theorem dX8_hold_47 : decode cX8_hold 47 = .ok (.ireturn, 1) := by decide +kernel
theorem dX8_pass_0 : decode cX8_pass 0 = .ok (.aload_n 0, 1) := by decide +kernel
theorem dX8_pass_1 : decode cX8_pass 1 = .ok (.getfield 10, 3) := by decide +kernel
theorem dX8_pass_4 : decode cX8_pass 4 = .ok (.getfield 79, 3) := by decide +kernel
theorem dX8_pass_7 : decode cX8_pass 7 = .ok (.astore_n 3, 1) := by decide +kernel
theorem dX8_pass_8 : decode cX8_pass 8 = .ok (.aload_n 3, 1) := by decide +kernel
theorem dX8_pass_9 : decode cX8_pass 9 = .ok (.iload_n 1, 1) := by decide +kernel
theorem dX8_pass_10 : decode cX8_pass 10 = .ok (.invokevirtual 89, 3) := by decide +kernel
theorem dX8_pass_13 : decode cX8_pass 13 = .ok (.ifCond .eq 16, 3) := by decide +kernel
theorem dX8_pass_16 : decode cX8_pass 16 = .ok (.aload_n 3, 1) := by decide +kernel
theorem dX8_pass_17 : decode cX8_pass 17 = .ok (.iload_n 2, 1) := by decide +kernel
theorem dX8_pass_18 : decode cX8_pass 18 = .ok (.invokevirtual 89, 3) := by decide +kernel
theorem dX8_pass_21 : decode cX8_pass 21 = .ok (.ifCond .eq 8, 3) := by decide +kernel
theorem dX8_pass_24 : decode cX8_pass 24 = .ok (.iload_n 1, 1) := by decide +kernel
theorem dX8_pass_25 : decode cX8_pass 25 = .ok (.iload_n 2, 1) := by decide +kernel
theorem dX8_pass_26 : decode cX8_pass 26 = .ok (.if_icmp .ne 9, 3) := by decide +kernel
theorem dX8_pass_29 : decode cX8_pass 29 = .ok (.aload_n 0, 1) := by decide +kernel
theorem dX8_pass_30 : decode cX8_pass 30 = .ok (.iconst 1, 1) := by decide +kernel
theorem dX8_pass_31 : decode cX8_pass 31 = .ok (.invokevirtual 75, 3) := by decide +kernel
theorem dX8_pass_34 : decode cX8_pass 34 = .ok (.ireturn, 1) := by decide +kernel
theorem dX8_pass_35 : decode cX8_pass 35 = .ok (.aload_n 3, 1) := by decide +kernel
theorem dX8_pass_36 : decode cX8_pass 36 = .ok (.iload_n 1, 1) := by decide +kernel
theorem dX8_pass_37 : decode cX8_pass 37 = .ok (.iload_n 2, 1) := by decide +kernel
theorem dX8_pass_38 : decode cX8_pass 38 = .ok (.invokevirtual 139, 3) := by decide +kernel
theorem dX8_pass_41 : decode cX8_pass 41 = .ok (.ireturn, 1) := by decide +kernel
theorem dX8_stock_0 : decode cX8_stock 0 = .ok (.iload_n 1, 1) := by decide +kernel
theorem dX8_stock_1 : decode cX8_stock 1 = .ok (.invokestatic 142, 3) := by decide +kernel
theorem dX8_stock_4 : decode cX8_stock 4 = .ok (.ifCond .ne 9, 3) := by decide +kernel
theorem dX8_stock_7 : decode cX8_stock 7 = .ok (.aload_n 0, 1) := by decide +kernel
theorem dX8_stock_8 : decode cX8_stock 8 = .ok (.iconst 1, 1) := by decide +kernel
theorem dX8_stock_9 : decode cX8_stock 9 = .ok (.invokevirtual 75, 3) := by decide +kernel
theorem dX8_stock_12 : decode cX8_stock 12 = .ok (.ireturn, 1) := by decide +kernel
theorem dX8_stock_13 : decode cX8_stock 13 = .ok (.aload_n 0, 1) := by decide +kernel
theorem dX8_stock_14 : decode cX8_stock 14 = .ok (.getfield 10, 3) := by decide +kernel
theorem dX8_stock_17 : decode cX8_stock 17 = .ok (.getfield 79, 3) := by decide +kernel
theorem dX8_stock_20 : decode cX8_stock 20 = .ok (.getfield 145, 3) := by decide +kernel
theorem dX8_stock_23 : decode cX8_stock 23 = .ok (.bipush 6, 2) := by decide +kernel
theorem dX8_stock_25 : decode cX8_stock 25 = .ok (.if_icmp .lt 9, 3) := by decide +kernel
theorem dX8_stock_28 : decode cX8_stock 28 = .ok (.aload_n 0, 1) := by decide +kernel
theorem dX8_stock_29 : decode cX8_stock 29 = .ok (.iconst 4, 1) := by decide +kernel
theorem dX8_stock_30 : decode cX8_stock 30 = .ok (.invokevirtual 75, 3) := by decide +kernel
theorem dX8_stock_33 : decode cX8_stock 33 = .ok (.ireturn, 1) := by decide +kernel
theorem dX8_stock_34 : decode cX8_stock 34 = .ok (.aload_n 0, 1) := by decide +kernel
theorem dX8_stock_35 : decode cX8_stock 35 = .ok (.getfield 10, 3) := by decide +kernel
theorem dX8_stock_38 : decode cX8_stock 38 = .ok (.getfield 79, 3) := by decide +kernel
theorem dX8_stock_41 : decode cX8_stock 41 = .ok (.iload_n 1, 1) := by decide +kernel
theorem dX8_stock_42 : decode cX8_stock 42 = .ok (.invokevirtual 148, 3) := by decide +kernel
theorem dX8_stock_45 : decode cX8_stock 45 = .ok (.ireturn, 1) := by decide +kernel
theorem dX8_stockAt_0 : decode cX8_stockAt 0 = .ok (.iload_n 1, 1) := by decide +kernel
theorem dX8_stockAt_1 : decode cX8_stockAt 1 = .ok (.ifCond .lt 17, 3) := by decide +kernel
theorem dX8_stockAt_4 : decode cX8_stockAt 4 = .ok (.iload_n 1, 1) := by decide +kernel
theorem dX8_stockAt_5 : decode cX8_stockAt 5 = .ok (.aload_n 0, 1) := by decide +kernel
theorem dX8_stockAt_6 : decode cX8_stockAt 6 = .ok (.getfield 10, 3) := by decide +kernel
theorem dX8_stockAt_9 : decode cX8_stockAt 9 = .ok (.getfield 79, 3) := by decide +kernel
theorem dX8_stockAt_12 : decode cX8_stockAt 12 = .ok (.getfield 145, 3) := by decide +kernel
theorem dX8_stockAt_15 : decode cX8_stockAt 15 = .ok (.if_icmp .lt 9, 3) := by decide +kernel
theorem dX8_stockAt_18 : decode cX8_stockAt 18 = .ok (.aload_n 0, 1) := by decide +kernel
theorem dX8_stockAt_19 : decode cX8_stockAt 19 = .ok (.iconst 1, 1) := by decide +kernel
theorem dX8_stockAt_20 : decode cX8_stockAt 20 = .ok (.invokevirtual 75, 3) := by decide +kernel
theorem dX8_stockAt_23 : decode cX8_stockAt 23 = .ok (.ireturn, 1) := by decide +kernel
theorem dX8_stockAt_24 : decode cX8_stockAt 24 = .ok (.aload_n 0, 1) := by decide +kernel
theorem dX8_stockAt_25 : decode cX8_stockAt 25 = .ok (.getfield 10, 3) := by decide +kernel
theorem dX8_stockAt_28 : decode cX8_stockAt 28 = .ok (.getfield 79, 3) := by decide +kernel
theorem dX8_stockAt_31 : decode cX8_stockAt 31 = .ok (.getfield 151, 3) := by decide +kernel
theorem dX8_stockAt_34 : decode cX8_stockAt 34 = .ok (.iload_n 1, 1) := by decide +kernel
theorem dX8_stockAt_35 : decode cX8_stockAt 35 = .ok (.iaload, 1) := by decide +kernel
theorem dX8_stockAt_36 : decode cX8_stockAt 36 = .ok (.ireturn, 1) := by decide +kernel
theorem dX8_grass_0 : decode cX8_grass 0 = .ok (.iload_n 1, 1) := by decide +kernel
theorem dX8_grass_1 : decode cX8_grass 1 = .ok (.invokestatic 142, 3) := by decide +kernel
theorem dX8_grass_4 : decode cX8_grass 4 = .ok (.ifCond .eq 13, 3) := by decide +kernel
theorem dX8_grass_7 : decode cX8_grass 7 = .ok (.iload_n 2, 1) := by decide +kernel
theorem dX8_grass_8 : decode cX8_grass 8 = .ok (.ifCond .lt 9, 3) := by decide +kernel
theorem dX8_grass_11 : decode cX8_grass 11 = .ok (.iload_n 2, 1) := by decide +kernel
theorem dX8_grass_12 : decode cX8_grass 12 = .ok (.bipush 99, 2) := by decide +kernel
theorem dX8_grass_14 : decode cX8_grass 14 = .ok (.if_icmp .le 9, 3) := by decide +kernel
theorem dX8_grass_17 : decode cX8_grass 17 = .ok (.aload_n 0, 1) := by decide +kernel
theorem dX8_grass_18 : decode cX8_grass 18 = .ok (.iconst 1, 1) := by decide +kernel
theorem dX8_grass_19 : decode cX8_grass 19 = .ok (.invokevirtual 75, 3) := by decide +kernel
theorem dX8_grass_22 : decode cX8_grass 22 = .ok (.ireturn, 1) := by decide +kernel
theorem dX8_grass_23 : decode cX8_grass 23 = .ok (.aload_n 0, 1) := by decide +kernel
theorem dX8_grass_24 : decode cX8_grass 24 = .ok (.getfield 10, 3) := by decide +kernel
theorem dX8_grass_27 : decode cX8_grass 27 = .ok (.getfield 79, 3) := by decide +kernel
theorem dX8_grass_30 : decode cX8_grass 30 = .ok (.getfield 154, 3) := by decide +kernel
theorem dX8_grass_33 : decode cX8_grass 33 = .ok (.iload_n 1, 1) := by decide +kernel
theorem dX8_grass_34 : decode cX8_grass 34 = .ok (.iaload, 1) := by decide +kernel
theorem dX8_grass_35 : decode cX8_grass 35 = .ok (.istore_n 3, 1) := by decide +kernel
theorem dX8_grass_36 : decode cX8_grass 36 = .ok (.aload_n 0, 1) := by decide +kernel
theorem dX8_grass_37 : decode cX8_grass 37 = .ok (.getfield 10, 3) := by decide +kernel
theorem dX8_grass_40 : decode cX8_grass 40 = .ok (.getfield 79, 3) := by decide +kernel
theorem dX8_grass_43 : decode cX8_grass 43 = .ok (.getfield 154, 3) := by decide +kernel
theorem dX8_grass_46 : decode cX8_grass 46 = .ok (.iload_n 1, 1) := by decide +kernel
theorem dX8_grass_47 : decode cX8_grass 47 = .ok (.iload_n 2, 1) := by decide +kernel
theorem dX8_grass_48 : decode cX8_grass 48 = .ok (.iastore, 1) := by decide +kernel
theorem dX8_grass_49 : decode cX8_grass 49 = .ok (.iload_n 3, 1) := by decide +kernel
theorem dX8_grass_50 : decode cX8_grass 50 = .ok (.ireturn, 1) := by decide +kernel
theorem dX8_feed_0 : decode cX8_feed 0 = .ok (.iload_n 3, 1) := by decide +kernel
theorem dX8_feed_1 : decode cX8_feed 1 = .ok (.iconst 1, 1) := by decide +kernel
theorem dX8_feed_2 : decode cX8_feed 2 = .ok (.if_icmp .lt 9, 3) := by decide +kernel
theorem dX8_feed_5 : decode cX8_feed 5 = .ok (.iload_n 3, 1) := by decide +kernel
theorem dX8_feed_6 : decode cX8_feed 6 = .ok (.bipush 8, 2) := by decide +kernel
theorem dX8_feed_8 : decode cX8_feed 8 = .ok (.if_icmp .le 9, 3) := by decide +kernel
theorem dX8_feed_11 : decode cX8_feed 11 = .ok (.aload_n 0, 1) := by decide +kernel
theorem dX8_feed_12 : decode cX8_feed 12 = .ok (.iconst 1, 1) := by decide +kernel
theorem dX8_feed_13 : decode cX8_feed 13 = .ok (.invokevirtual 75, 3) := by decide +kernel
theorem dX8_feed_16 : decode cX8_feed 16 = .ok (.ireturn, 1) := by decide +kernel
theorem dX8_feed_17 : decode cX8_feed 17 = .ok (.aload_n 0, 1) := by decide +kernel
theorem dX8_feed_18 : decode cX8_feed 18 = .ok (.getfield 10, 3) := by decide +kernel
theorem dX8_feed_21 : decode cX8_feed 21 = .ok (.getfield 157, 3) := by decide +kernel
theorem dX8_feed_24 : decode cX8_feed 24 = .ok (.getfield 161, 3) := by decide +kernel
theorem dX8_feed_27 : decode cX8_feed 27 = .ok (.iload_n 3, 1) := by decide +kernel
theorem dX8_feed_28 : decode cX8_feed 28 = .ok (.iadd, 1) := by decide +kernel
theorem dX8_feed_29 : decode cX8_feed 29 = .ok (.bipush 60, 2) := by decide +kernel
theorem dX8_feed_31 : decode cX8_feed 31 = .ok (.if_icmp .le 9, 3) := by decide +kernel
theorem dX8_feed_34 : decode cX8_feed 34 = .ok (.aload_n 0, 1) := by decide +kernel
theorem dX8_feed_35 : decode cX8_feed 35 = .ok (.iconst 4, 1) := by decide +kernel
theorem dX8_feed_36 : decode cX8_feed 36 = .ok (.invokevirtual 75, 3) := by decide +kernel
theorem dX8_feed_39 : decode cX8_feed 39 = .ok (.ireturn, 1) := by decide +kernel
theorem dX8_feed_40 : decode cX8_feed 40 = .ok (.aload_n 0, 1) := by decide +kernel
theorem dX8_feed_41 : decode cX8_feed 41 = .ok (.getfield 10, 3) := by decide +kernel
theorem dX8_feed_44 : decode cX8_feed 44 = .ok (.getfield 157, 3) := by decide +kernel
theorem dX8_feed_47 : decode cX8_feed 47 = .ok (.lload_n 1, 1) := by decide +kernel
theorem dX8_feed_48 : decode cX8_feed 48 = .ok (.iload_n 3, 1) := by decide +kernel
theorem dX8_feed_49 : decode cX8_feed 49 = .ok (.invokevirtual 166, 3) := by decide +kernel
theorem dX8_feed_52 : decode cX8_feed 52 = .ok (.aload_n 0, 1) := by decide +kernel
theorem dX8_feed_53 : decode cX8_feed 53 = .ok (.getfield 10, 3) := by decide +kernel
theorem dX8_feed_56 : decode cX8_feed 56 = .ok (.getfield 157, 3) := by decide +kernel
theorem dX8_feed_59 : decode cX8_feed 59 = .ok (.getfield 161, 3) := by decide +kernel
theorem dX8_feed_62 : decode cX8_feed 62 = .ok (.ireturn, 1) := by decide +kernel
theorem dX8_text_0 : decode cX8_text 0 = .ok (.iload_n 1, 1) := by decide +kernel
theorem dX8_text_1 : decode cX8_text 1 = .ok (.invokestatic 170, 3) := by decide +kernel
theorem dX8_text_4 : decode cX8_text 4 = .ok (.ifCond .ne 9, 3) := by decide +kernel
theorem dX8_text_7 : decode cX8_text 7 = .ok (.aload_n 0, 1) := by decide +kernel
theorem dX8_text_8 : decode cX8_text 8 = .ok (.iconst 1, 1) := by decide +kernel
theorem dX8_text_9 : decode cX8_text 9 = .ok (.invokevirtual 75, 3) := by decide +kernel
theorem dX8_text_12 : decode cX8_text 12 = .ok (.ireturn, 1) := by decide +kernel
theorem dX8_text_13 : decode cX8_text 13 = .ok (.aload_n 0, 1) := by decide +kernel
theorem dX8_text_14 : decode cX8_text 14 = .ok (.getfield 38, 3) := by decide +kernel
theorem dX8_text_17 : decode cX8_text 17 = .ok (.aload_n 0, 1) := by decide +kernel
theorem dX8_text_18 : decode cX8_text 18 = .ok (.getfield 10, 3) := by decide +kernel
theorem dX8_text_21 : decode cX8_text 21 = .ok (.getfield 157, 3) := by decide +kernel
theorem dX8_text_24 : decode cX8_text 24 = .ok (.aload_n 0, 1) := by decide +kernel
theorem dX8_text_25 : decode cX8_text 25 = .ok (.getfield 10, 3) := by decide +kernel
theorem dX8_text_28 : decode cX8_text 28 = .ok (.iload_n 1, 1) := by decide +kernel
theorem dX8_text_29 : decode cX8_text 29 = .ok (.invokevirtual 173, 3) := by decide +kernel
theorem dX8_text_32 : decode cX8_text 32 = .ok (.invokevirtual 177, 3) := by decide +kernel
theorem dX8_text_35 : decode cX8_text 35 = .ok (.istore_n 2, 1) := by decide +kernel
theorem dX8_text_36 : decode cX8_text 36 = .ok (.aload_n 0, 1) := by decide +kernel
theorem dX8_text_37 : decode cX8_text 37 = .ok (.getfield 10, 3) := by decide +kernel
theorem dX8_text_40 : decode cX8_text 40 = .ok (.getfield 157, 3) := by decide +kernel
theorem dX8_text_43 : decode cX8_text 43 = .ok (.iconst 0, 1) := by decide +kernel
theorem dX8_text_44 : decode cX8_text 44 = .ok (.putfield 161, 3) := by decide +kernel
theorem dX8_text_47 : decode cX8_text 47 = .ok (.iload_n 2, 1) := by decide +kernel
theorem dX8_text_48 : decode cX8_text 48 = .ok (.ifCond .ge 7, 3) := by decide +kernel
theorem dX8_text_51 : decode cX8_text 51 = .ok (.iconst 1, 1) := by decide +kernel
theorem dX8_text_52 : decode cX8_text 52 = .ok (.goto 7, 3) := by decide +kernel
theorem dX8_text_55 : decode cX8_text 55 = .ok (.bipush (-10), 2) := by decide +kernel
theorem dX8_text_57 : decode cX8_text 57 = .ok (.iload_n 2, 1) := by decide +kernel
theorem dX8_text_58 : decode cX8_text 58 = .ok (.isub, 1) := by decide +kernel
theorem dX8_text_59 : decode cX8_text 59 = .ok (.ireturn, 1) := by decide +kernel
theorem dX8_untell_0 : decode cX8_untell 0 = .ok (.iload_n 1, 1) := by decide +kernel
theorem dX8_untell_1 : decode cX8_untell 1 = .ok (.invokestatic 170, 3) := by decide +kernel
theorem dX8_untell_4 : decode cX8_untell 4 = .ok (.ifCond .ne 9, 3) := by decide +kernel
theorem dX8_untell_7 : decode cX8_untell 7 = .ok (.aload_n 0, 1) := by decide +kernel
theorem dX8_untell_8 : decode cX8_untell 8 = .ok (.iconst 1, 1) := by decide +kernel
theorem dX8_untell_9 : decode cX8_untell 9 = .ok (.invokevirtual 75, 3) := by decide +kernel
theorem dX8_untell_12 : decode cX8_untell 12 = .ok (.ireturn, 1) := by decide +kernel
theorem dX8_untell_13 : decode cX8_untell 13 = .ok (.aload_n 0, 1) := by decide +kernel
theorem dX8_untell_14 : decode cX8_untell 14 = .ok (.getfield 10, 3) := by decide +kernel
theorem dX8_untell_17 : decode cX8_untell 17 = .ok (.iload_n 1, 1) := by decide +kernel
theorem dX8_untell_18 : decode cX8_untell 18 = .ok (.invokevirtual 173, 3) := by decide +kernel
theorem dX8_untell_21 : decode cX8_untell 21 = .ok (.astore_n 2, 1) := by decide +kernel
theorem dX8_untell_22 : decode cX8_untell 22 = .ok (.aload_n 2, 1) := by decide +kernel
theorem dX8_untell_23 : decode cX8_untell 23 = .ok (.invokevirtual 181, 3) := by decide +kernel
theorem dX8_untell_26 : decode cX8_untell 26 = .ok (.ifCond .eq 7, 3) := by decide +kernel
theorem dX8_untell_29 : decode cX8_untell 29 = .ok (.iconst 1, 1) := by decide +kernel
theorem dX8_untell_30 : decode cX8_untell 30 = .ok (.goto 4, 3) := by decide +kernel
theorem dX8_untell_33 : decode cX8_untell 33 = .ok (.iconst 0, 1) := by decide +kernel
theorem dX8_untell_34 : decode cX8_untell 34 = .ok (.istore_n 3, 1) := by decide +kernel
theorem dX8_untell_35 : decode cX8_untell 35 = .ok (.aload_n 2, 1) := by decide +kernel
theorem dX8_untell_36 : decode cX8_untell 36 = .ok (.iconst 0, 1) := by decide +kernel
theorem dX8_untell_37 : decode cX8_untell 37 = .ok (.putfield 187, 3) := by decide +kernel
theorem dX8_untell_40 : decode cX8_untell 40 = .ok (.iload_n 3, 1) := by decide +kernel
theorem dX8_untell_41 : decode cX8_untell 41 = .ok (.ireturn, 1) := by decide +kernel
theorem dX8_law_0 : decode cX8_law 0 = .ok (.iload_n 1, 1) := by decide +kernel
theorem dX8_law_1 : decode cX8_law 1 = .ok (.invokestatic 170, 3) := by decide +kernel
theorem dX8_law_4 : decode cX8_law 4 = .ok (.ifCond .ne 9, 3) := by decide +kernel
theorem dX8_law_7 : decode cX8_law 7 = .ok (.aload_n 0, 1) := by decide +kernel
theorem dX8_law_8 : decode cX8_law 8 = .ok (.iconst 1, 1) := by decide +kernel
theorem dX8_law_9 : decode cX8_law 9 = .ok (.invokevirtual 75, 3) := by decide +kernel
theorem dX8_law_12 : decode cX8_law 12 = .ok (.ireturn, 1) := by decide +kernel
theorem dX8_law_13 : decode cX8_law 13 = .ok (.aload_n 0, 1) := by decide +kernel
theorem dX8_law_14 : decode cX8_law 14 = .ok (.getfield 10, 3) := by decide +kernel
theorem dX8_law_17 : decode cX8_law 17 = .ok (.iload_n 1, 1) := by decide +kernel
theorem dX8_law_18 : decode cX8_law 18 = .ok (.invokevirtual 173, 3) := by decide +kernel
theorem dX8_law_21 : decode cX8_law 21 = .ok (.iload_n 2, 1) := by decide +kernel
theorem dX8_law_22 : decode cX8_law 22 = .ok (.iload_n 3, 1) := by decide +kernel
theorem dX8_law_23 : decode cX8_law 23 = .ok (.iload 4, 2) := by decide +kernel
theorem dX8_law_25 : decode cX8_law 25 = .ok (.invokevirtual 188, 3) := by decide +kernel
theorem dX8_law_28 : decode cX8_law 28 = .ok (.ireturn, 1) := by decide +kernel
theorem dX8_hours_0 : decode cX8_hours 0 = .ok (.iload_n 1, 1) := by decide +kernel
theorem dX8_hours_1 : decode cX8_hours 1 = .ok (.iconst 1, 1) := by decide +kernel
theorem dX8_hours_2 : decode cX8_hours 2 = .ok (.if_icmp .lt 9, 3) := by decide +kernel
theorem dX8_hours_5 : decode cX8_hours 5 = .ok (.iload_n 1, 1) := by decide +kernel
theorem dX8_hours_6 : decode cX8_hours 6 = .ok (.bipush 60, 2) := by decide +kernel
theorem dX8_hours_8 : decode cX8_hours 8 = .ok (.if_icmp .le 9, 3) := by decide +kernel
theorem dX8_hours_11 : decode cX8_hours 11 = .ok (.aload_n 0, 1) := by decide +kernel
theorem dX8_hours_12 : decode cX8_hours 12 = .ok (.iconst 1, 1) := by decide +kernel
theorem dX8_hours_13 : decode cX8_hours 13 = .ok (.invokevirtual 75, 3) := by decide +kernel
theorem dX8_hours_16 : decode cX8_hours 16 = .ok (.ireturn, 1) := by decide +kernel
theorem dX8_hours_17 : decode cX8_hours 17 = .ok (.aload_n 0, 1) := by decide +kernel
theorem dX8_hours_18 : decode cX8_hours 18 = .ok (.getfield 10, 3) := by decide +kernel
theorem dX8_hours_21 : decode cX8_hours 21 = .ok (.getfield 79, 3) := by decide +kernel
theorem dX8_hours_24 : decode cX8_hours 24 = .ok (.getfield 191, 3) := by decide +kernel
theorem dX8_hours_27 : decode cX8_hours 27 = .ok (.iload_n 1, 1) := by decide +kernel
theorem dX8_hours_28 : decode cX8_hours 28 = .ok (.iadd, 1) := by decide +kernel
theorem dX8_hours_29 : decode cX8_hours 29 = .ok (.sipush 9999, 3) := by decide +kernel
theorem dX8_hours_32 : decode cX8_hours 32 = .ok (.if_icmp .le 9, 3) := by decide +kernel
theorem dX8_hours_35 : decode cX8_hours 35 = .ok (.aload_n 0, 1) := by decide +kernel
theorem dX8_hours_36 : decode cX8_hours 36 = .ok (.iconst 3, 1) := by decide +kernel
theorem dX8_hours_37 : decode cX8_hours 37 = .ok (.invokevirtual 75, 3) := by decide +kernel
theorem dX8_hours_40 : decode cX8_hours 40 = .ok (.ireturn, 1) := by decide +kernel
theorem dX8_hours_41 : decode cX8_hours 41 = .ok (.iconst 0, 1) := by decide +kernel
theorem dX8_hours_42 : decode cX8_hours 42 = .ok (.istore_n 2, 1) := by decide +kernel
theorem dX8_hours_43 : decode cX8_hours 43 = .ok (.iload_n 2, 1) := by decide +kernel
theorem dX8_hours_44 : decode cX8_hours 44 = .ok (.iload_n 1, 1) := by decide +kernel
theorem dX8_hours_45 : decode cX8_hours 45 = .ok (.if_icmp .ge 19, 3) := by decide +kernel
theorem dX8_hours_48 : decode cX8_hours 48 = .ok (.aload_n 0, 1) := by decide +kernel
theorem dX8_hours_49 : decode cX8_hours 49 = .ok (.getfield 10, 3) := by decide +kernel
theorem dX8_hours_52 : decode cX8_hours 52 = .ok (.getfield 79, 3) := by decide +kernel
theorem dX8_hours_55 : decode cX8_hours 55 = .ok (.invokevirtual 194, 3) := by decide +kernel
theorem dX8_hours_58 : decode cX8_hours 58 = .ok (.iinc 2 1, 3) := by decide +kernel
theorem dX8_hours_61 : decode cX8_hours 61 = .ok (.goto (-18), 3) := by decide +kernel
theorem dX8_hours_64 : decode cX8_hours 64 = .ok (.aload_n 0, 1) := by decide +kernel
theorem dX8_hours_65 : decode cX8_hours 65 = .ok (.getfield 10, 3) := by decide +kernel
theorem dX8_hours_68 : decode cX8_hours 68 = .ok (.getfield 79, 3) := by decide +kernel
theorem dX8_hours_71 : decode cX8_hours 71 = .ok (.invokevirtual 197, 3) := by decide +kernel
theorem dX8_hours_74 : decode cX8_hours 74 = .ok (.ireturn, 1) := by decide +kernel
theorem dX8_loose_0 : decode cX8_loose 0 = .ok (.iload_n 1, 1) := by decide +kernel
theorem dX8_loose_1 : decode cX8_loose 1 = .ok (.iconst 1, 1) := by decide +kernel
theorem dX8_loose_2 : decode cX8_loose 2 = .ok (.if_icmp .lt 9, 3) := by decide +kernel
theorem dX8_loose_5 : decode cX8_loose 5 = .ok (.iload_n 1, 1) := by decide +kernel
theorem dX8_loose_6 : decode cX8_loose 6 = .ok (.bipush 30, 2) := by decide +kernel
theorem dX8_loose_8 : decode cX8_loose 8 = .ok (.if_icmp .le 9, 3) := by decide +kernel
theorem dX8_loose_11 : decode cX8_loose 11 = .ok (.aload_n 0, 1) := by decide +kernel
theorem dX8_loose_12 : decode cX8_loose 12 = .ok (.iconst 1, 1) := by decide +kernel
theorem dX8_loose_13 : decode cX8_loose 13 = .ok (.invokevirtual 75, 3) := by decide +kernel
theorem dX8_loose_16 : decode cX8_loose 16 = .ok (.ireturn, 1) := by decide +kernel
theorem dX8_loose_17 : decode cX8_loose 17 = .ok (.aload_n 0, 1) := by decide +kernel
theorem dX8_loose_18 : decode cX8_loose 18 = .ok (.getfield 10, 3) := by decide +kernel
theorem dX8_loose_21 : decode cX8_loose 21 = .ok (.getfield 79, 3) := by decide +kernel
theorem dX8_loose_24 : decode cX8_loose 24 = .ok (.getfield 191, 3) := by decide +kernel
theorem dX8_loose_27 : decode cX8_loose 27 = .ok (.iload_n 1, 1) := by decide +kernel
theorem dX8_loose_28 : decode cX8_loose 28 = .ok (.iadd, 1) := by decide +kernel
theorem dX8_loose_29 : decode cX8_loose 29 = .ok (.sipush 9999, 3) := by decide +kernel
theorem dX8_loose_32 : decode cX8_loose 32 = .ok (.if_icmp .le 9, 3) := by decide +kernel
theorem dX8_loose_35 : decode cX8_loose 35 = .ok (.aload_n 0, 1) := by decide +kernel
theorem dX8_loose_36 : decode cX8_loose 36 = .ok (.iconst 3, 1) := by decide +kernel
theorem dX8_loose_37 : decode cX8_loose 37 = .ok (.invokevirtual 75, 3) := by decide +kernel
theorem dX8_loose_40 : decode cX8_loose 40 = .ok (.ireturn, 1) := by decide +kernel
theorem dX8_loose_41 : decode cX8_loose 41 = .ok (.iconst 0, 1) := by decide +kernel
theorem dX8_loose_42 : decode cX8_loose 42 = .ok (.istore_n 2, 1) := by decide +kernel
theorem dX8_loose_43 : decode cX8_loose 43 = .ok (.iload_n 2, 1) := by decide +kernel
theorem dX8_loose_44 : decode cX8_loose 44 = .ok (.iload_n 1, 1) := by decide +kernel
theorem dX8_loose_45 : decode cX8_loose 45 = .ok (.if_icmp .ge 26, 3) := by decide +kernel
theorem dX8_loose_48 : decode cX8_loose 48 = .ok (.aload_n 0, 1) := by decide +kernel
theorem dX8_loose_49 : decode cX8_loose 49 = .ok (.getfield 10, 3) := by decide +kernel
theorem dX8_loose_52 : decode cX8_loose 52 = .ok (.invokevirtual 201, 3) := by decide +kernel
theorem dX8_loose_55 : decode cX8_loose 55 = .ok (.aload_n 0, 1) := by decide +kernel
theorem dX8_loose_56 : decode cX8_loose 56 = .ok (.getfield 10, 3) := by decide +kernel
theorem dX8_loose_59 : decode cX8_loose 59 = .ok (.getfield 79, 3) := by decide +kernel
theorem dX8_loose_62 : decode cX8_loose 62 = .ok (.invokevirtual 194, 3) := by decide +kernel
theorem dX8_loose_65 : decode cX8_loose 65 = .ok (.iinc 2 1, 3) := by decide +kernel
theorem dX8_loose_68 : decode cX8_loose 68 = .ok (.goto (-25), 3) := by decide +kernel
theorem dX8_loose_71 : decode cX8_loose 71 = .ok (.aload_n 0, 1) := by decide +kernel
theorem dX8_loose_72 : decode cX8_loose 72 = .ok (.getfield 10, 3) := by decide +kernel
theorem dX8_loose_75 : decode cX8_loose 75 = .ok (.getfield 79, 3) := by decide +kernel
theorem dX8_loose_78 : decode cX8_loose 78 = .ok (.invokevirtual 197, 3) := by decide +kernel
theorem dX8_loose_81 : decode cX8_loose 81 = .ok (.ireturn, 1) := by decide +kernel
theorem dX8_hour_0 : decode cX8_hour 0 = .ok (.iload_n 1, 1) := by decide +kernel
theorem dX8_hour_1 : decode cX8_hour 1 = .ok (.ifCond .lt 10, 3) := by decide +kernel
theorem dX8_hour_4 : decode cX8_hour 4 = .ok (.iload_n 1, 1) := by decide +kernel
theorem dX8_hour_5 : decode cX8_hour 5 = .ok (.sipush 9999, 3) := by decide +kernel
theorem dX8_hour_8 : decode cX8_hour 8 = .ok (.if_icmp .le 9, 3) := by decide +kernel
theorem dX8_hour_11 : decode cX8_hour 11 = .ok (.aload_n 0, 1) := by decide +kernel
theorem dX8_hour_12 : decode cX8_hour 12 = .ok (.iconst 1, 1) := by decide +kernel
theorem dX8_hour_13 : decode cX8_hour 13 = .ok (.invokevirtual 75, 3) := by decide +kernel
theorem dX8_hour_16 : decode cX8_hour 16 = .ok (.ireturn, 1) := by decide +kernel
theorem dX8_hour_17 : decode cX8_hour 17 = .ok (.aload_n 0, 1) := by decide +kernel
theorem dX8_hour_18 : decode cX8_hour 18 = .ok (.getfield 10, 3) := by decide +kernel
theorem dX8_hour_21 : decode cX8_hour 21 = .ok (.getfield 79, 3) := by decide +kernel
theorem dX8_hour_24 : decode cX8_hour 24 = .ok (.getfield 191, 3) := by decide +kernel
theorem dX8_hour_27 : decode cX8_hour 27 = .ok (.istore_n 2, 1) := by decide +kernel
theorem dX8_hour_28 : decode cX8_hour 28 = .ok (.aload_n 0, 1) := by decide +kernel
theorem dX8_hour_29 : decode cX8_hour 29 = .ok (.getfield 10, 3) := by decide +kernel
theorem dX8_hour_32 : decode cX8_hour 32 = .ok (.getfield 79, 3) := by decide +kernel
theorem dX8_hour_35 : decode cX8_hour 35 = .ok (.iload_n 1, 1) := by decide +kernel
theorem dX8_hour_36 : decode cX8_hour 36 = .ok (.putfield 191, 3) := by decide +kernel
theorem dX8_hour_39 : decode cX8_hour 39 = .ok (.iload_n 2, 1) := by decide +kernel
theorem dX8_hour_40 : decode cX8_hour 40 = .ok (.ireturn, 1) := by decide +kernel
theorem dX8_seed_0 : decode cX8_seed 0 = .ok (.aload_n 0, 1) := by decide +kernel
theorem dX8_seed_1 : decode cX8_seed 1 = .ok (.getfield 10, 3) := by decide +kernel
theorem dX8_seed_4 : decode cX8_seed 4 = .ok (.getfield 204, 3) := by decide +kernel
theorem dX8_seed_7 : decode cX8_seed 7 = .ok (.istore_n 2, 1) := by decide +kernel
theorem dX8_seed_8 : decode cX8_seed 8 = .ok (.aload_n 0, 1) := by decide +kernel
theorem dX8_seed_9 : decode cX8_seed 9 = .ok (.getfield 10, 3) := by decide +kernel
theorem dX8_seed_12 : decode cX8_seed 12 = .ok (.iload_n 1, 1) := by decide +kernel
theorem dX8_seed_13 : decode cX8_seed 13 = .ok (.putfield 204, 3) := by decide +kernel
theorem dX8_seed_16 : decode cX8_seed 16 = .ok (.iload_n 2, 1) := by decide +kernel
theorem dX8_seed_17 : decode cX8_seed 17 = .ok (.ireturn, 1) := by decide +kernel
theorem dX8_then_0 : decode cX8_then 0 = .ok (.iload_n 1, 1) := by decide +kernel
theorem dX8_then_1 : decode cX8_then 1 = .ok (.ifCond .lt 18, 3) := by decide +kernel
theorem dX8_then_4 : decode cX8_then 4 = .ok (.iload_n 1, 1) := by decide +kernel
theorem dX8_then_5 : decode cX8_then 5 = .ok (.bipush 60, 2) := by decide +kernel
theorem dX8_then_7 : decode cX8_then 7 = .ok (.if_icmp .gt 12, 3) := by decide +kernel
theorem dX8_then_10 : decode cX8_then 10 = .ok (.iload_n 2, 1) := by decide +kernel
theorem dX8_then_11 : decode cX8_then 11 = .ok (.ifCond .lt 8, 3) := by decide +kernel
theorem dX8_then_14 : decode cX8_then 14 = .ok (.iload_n 2, 1) := by decide +kernel
theorem dX8_then_15 : decode cX8_then 15 = .ok (.iconst 1, 1) := by decide +kernel
theorem dX8_then_16 : decode cX8_then 16 = .ok (.if_icmp .le 9, 3) := by decide +kernel
theorem dX8_then_19 : decode cX8_then 19 = .ok (.aload_n 0, 1) := by decide +kernel
theorem dX8_then_20 : decode cX8_then 20 = .ok (.iconst 1, 1) := by decide +kernel
theorem dX8_then_21 : decode cX8_then 21 = .ok (.invokevirtual 75, 3) := by decide +kernel
theorem dX8_then_24 : decode cX8_then 24 = .ok (.ireturn, 1) := by decide +kernel
theorem dX8_then_25 : decode cX8_then 25 = .ok (.aload_n 0, 1) := by decide +kernel
theorem dX8_then_26 : decode cX8_then 26 = .ok (.getfield 31, 3) := by decide +kernel
theorem dX8_then_29 : decode cX8_then 29 = .ok (.aload_n 0, 1) := by decide +kernel
theorem dX8_then_30 : decode cX8_then 30 = .ok (.getfield 10, 3) := by decide +kernel
theorem dX8_then_33 : decode cX8_then 33 = .ok (.getfield 79, 3) := by decide +kernel
theorem dX8_then_36 : decode cX8_then 36 = .ok (.invokevirtual 207, 3) := by decide +kernel
theorem dX8_then_39 : decode cX8_then 39 = .ok (.iconst 0, 1) := by decide +kernel
theorem dX8_then_40 : decode cX8_then 40 = .ok (.istore_n 3, 1) := by decide +kernel
theorem dX8_then_41 : decode cX8_then 41 = .ok (.iload_n 3, 1) := by decide +kernel
theorem dX8_then_42 : decode cX8_then 42 = .ok (.iload_n 1, 1) := by decide +kernel
theorem dX8_then_43 : decode cX8_then 43 = .ok (.if_icmp .ge 16, 3) := by decide +kernel
theorem dX8_then_46 : decode cX8_then 46 = .ok (.aload_n 0, 1) := by decide +kernel
theorem dX8_then_47 : decode cX8_then 47 = .ok (.getfield 31, 3) := by decide +kernel
theorem dX8_then_50 : decode cX8_then 50 = .ok (.invokevirtual 194, 3) := by decide +kernel
theorem dX8_then_53 : decode cX8_then 53 = .ok (.iinc 3 1, 3) := by decide +kernel
theorem dX8_then_56 : decode cX8_then 56 = .ok (.goto (-15), 3) := by decide +kernel
theorem dX8_then_59 : decode cX8_then 59 = .ok (.iload_n 2, 1) := by decide +kernel
theorem dX8_then_60 : decode cX8_then 60 = .ok (.ifCond .ne 13, 3) := by decide +kernel
theorem dX8_then_63 : decode cX8_then 63 = .ok (.aload_n 0, 1) := by decide +kernel
theorem dX8_then_64 : decode cX8_then 64 = .ok (.getfield 31, 3) := by decide +kernel
theorem dX8_then_67 : decode cX8_then 67 = .ok (.invokevirtual 197, 3) := by decide +kernel
theorem dX8_then_70 : decode cX8_then 70 = .ok (.goto 10, 3) := by decide +kernel
theorem dX8_then_73 : decode cX8_then 73 = .ok (.aload_n 0, 1) := by decide +kernel
theorem dX8_then_74 : decode cX8_then 74 = .ok (.getfield 31, 3) := by decide +kernel
theorem dX8_then_77 : decode cX8_then 77 = .ok (.getfield 211, 3) := by decide +kernel
theorem dX8_then_80 : decode cX8_then 80 = .ok (.ireturn, 1) := by decide +kernel
theorem dX8_first_0 : decode cX8_first 0 = .ok (.aload_n 0, 1) := by decide +kernel
theorem dX8_first_1 : decode cX8_first 1 = .ok (.getfield 10, 3) := by decide +kernel
theorem dX8_first_4 : decode cX8_first 4 = .ok (.getfield 79, 3) := by decide +kernel
theorem dX8_first_7 : decode cX8_first 7 = .ok (.iload_n 1, 1) := by decide +kernel
theorem dX8_first_8 : decode cX8_first 8 = .ok (.invokevirtual 121, 3) := by decide +kernel
theorem dX8_first_11 : decode cX8_first 11 = .ok (.ifCond .ne 9, 3) := by decide +kernel
theorem dX8_first_14 : decode cX8_first 14 = .ok (.aload_n 0, 1) := by decide +kernel
theorem dX8_first_15 : decode cX8_first 15 = .ok (.iconst 1, 1) := by decide +kernel
theorem dX8_first_16 : decode cX8_first 16 = .ok (.invokevirtual 75, 3) := by decide +kernel
theorem dX8_first_19 : decode cX8_first 19 = .ok (.ireturn, 1) := by decide +kernel
theorem dX8_first_20 : decode cX8_first 20 = .ok (.aload_n 0, 1) := by decide +kernel
theorem dX8_first_21 : decode cX8_first 21 = .ok (.getfield 31, 3) := by decide +kernel
theorem dX8_first_24 : decode cX8_first 24 = .ok (.aload_n 0, 1) := by decide +kernel
theorem dX8_first_25 : decode cX8_first 25 = .ok (.getfield 10, 3) := by decide +kernel
theorem dX8_first_28 : decode cX8_first 28 = .ok (.getfield 79, 3) := by decide +kernel
theorem dX8_first_31 : decode cX8_first 31 = .ok (.invokevirtual 207, 3) := by decide +kernel
theorem dX8_first_34 : decode cX8_first 34 = .ok (.iconst 0, 1) := by decide +kernel
theorem dX8_first_35 : decode cX8_first 35 = .ok (.istore_n 2, 1) := by decide +kernel
theorem dX8_first_36 : decode cX8_first 36 = .ok (.iload_n 2, 1) := by decide +kernel
theorem dX8_first_37 : decode cX8_first 37 = .ok (.bipush 60, 2) := by decide +kernel
theorem dX8_first_39 : decode cX8_first 39 = .ok (.if_icmp .gt 31, 3) := by decide +kernel
theorem dX8_first_42 : decode cX8_first 42 = .ok (.aload_n 0, 1) := by decide +kernel
theorem dX8_first_43 : decode cX8_first 43 = .ok (.getfield 31, 3) := by decide +kernel
theorem dX8_first_46 : decode cX8_first 46 = .ok (.getfield 133, 3) := by decide +kernel
theorem dX8_first_49 : decode cX8_first 49 = .ok (.iload_n 1, 1) := by decide +kernel
theorem dX8_first_50 : decode cX8_first 50 = .ok (.iaload, 1) := by decide +kernel
theorem dX8_first_51 : decode cX8_first 51 = .ok (.iconst (-1), 1) := by decide +kernel
theorem dX8_first_52 : decode cX8_first 52 = .ok (.if_icmp .ne 5, 3) := by decide +kernel
theorem dX8_first_55 : decode cX8_first 55 = .ok (.iload_n 2, 1) := by decide +kernel
theorem dX8_first_56 : decode cX8_first 56 = .ok (.ireturn, 1) := by decide +kernel
theorem dX8_first_57 : decode cX8_first 57 = .ok (.aload_n 0, 1) := by decide +kernel
theorem dX8_first_58 : decode cX8_first 58 = .ok (.getfield 31, 3) := by decide +kernel
theorem dX8_first_61 : decode cX8_first 61 = .ok (.invokevirtual 194, 3) := by decide +kernel
theorem dX8_first_64 : decode cX8_first 64 = .ok (.iinc 2 1, 3) := by decide +kernel
theorem dX8_first_67 : decode cX8_first 67 = .ok (.goto (-31), 3) := by decide +kernel
theorem dX8_first_70 : decode cX8_first 70 = .ok (.aload_n 0, 1) := by decide +kernel
theorem dX8_first_71 : decode cX8_first 71 = .ok (.iconst 2, 1) := by decide +kernel
theorem dX8_first_72 : decode cX8_first 72 = .ok (.invokevirtual 75, 3) := by decide +kernel
theorem dX8_first_75 : decode cX8_first 75 = .ok (.ireturn, 1) := by decide +kernel
theorem dX8_fewest_0 : decode cX8_fewest 0 = .ok (.aload_n 0, 1) := by decide +kernel
theorem dX8_fewest_1 : decode cX8_fewest 1 = .ok (.getfield 45, 3) := by decide +kernel
theorem dX8_fewest_4 : decode cX8_fewest 4 = .ok (.aload_n 0, 1) := by decide +kernel
theorem dX8_fewest_5 : decode cX8_fewest 5 = .ok (.getfield 10, 3) := by decide +kernel
theorem dX8_fewest_8 : decode cX8_fewest 8 = .ok (.getfield 79, 3) := by decide +kernel
theorem dX8_fewest_11 : decode cX8_fewest 11 = .ok (.invokevirtual 214, 3) := by decide +kernel
theorem dX8_fewest_14 : decode cX8_fewest 14 = .ok (.istore_n 1, 1) := by decide +kernel
theorem dX8_fewest_15 : decode cX8_fewest 15 = .ok (.iload_n 1, 1) := by decide +kernel
theorem dX8_fewest_16 : decode cX8_fewest 16 = .ok (.ifCond .ge 11, 3) := by decide +kernel
theorem dX8_fewest_19 : decode cX8_fewest 19 = .ok (.aload_n 0, 1) := by decide +kernel
theorem dX8_fewest_20 : decode cX8_fewest 20 = .ok (.iconst 2, 1) := by decide +kernel
theorem dX8_fewest_21 : decode cX8_fewest 21 = .ok (.invokevirtual 75, 3) := by decide +kernel
theorem dX8_fewest_24 : decode cX8_fewest 24 = .ok (.goto 4, 3) := by decide +kernel
theorem dX8_fewest_27 : decode cX8_fewest 27 = .ok (.iload_n 1, 1) := by decide +kernel
theorem dX8_fewest_28 : decode cX8_fewest 28 = .ok (.ireturn, 1) := by decide +kernel
theorem dX8_way_0 : decode cX8_way 0 = .ok (.iload_n 1, 1) := by decide +kernel
theorem dX8_way_1 : decode cX8_way 1 = .ok (.invokestatic 142, 3) := by decide +kernel
theorem dX8_way_4 : decode cX8_way 4 = .ok (.ifCond .eq 10, 3) := by decide +kernel
theorem dX8_way_7 : decode cX8_way 7 = .ok (.iload_n 2, 1) := by decide +kernel
theorem dX8_way_8 : decode cX8_way 8 = .ok (.invokestatic 142, 3) := by decide +kernel
theorem dX8_way_11 : decode cX8_way 11 = .ok (.ifCond .ne 9, 3) := by decide +kernel
theorem dX8_way_14 : decode cX8_way 14 = .ok (.aload_n 0, 1) := by decide +kernel
theorem dX8_way_15 : decode cX8_way 15 = .ok (.iconst 1, 1) := by decide +kernel
theorem dX8_way_16 : decode cX8_way 16 = .ok (.invokevirtual 75, 3) := by decide +kernel
theorem dX8_way_19 : decode cX8_way 19 = .ok (.ireturn, 1) := by decide +kernel
theorem dX8_way_20 : decode cX8_way 20 = .ok (.aload_n 0, 1) := by decide +kernel
theorem dX8_way_21 : decode cX8_way 21 = .ok (.getfield 10, 3) := by decide +kernel
theorem dX8_way_24 : decode cX8_way 24 = .ok (.getfield 79, 3) := by decide +kernel
theorem dX8_way_27 : decode cX8_way 27 = .ok (.iload_n 1, 1) := by decide +kernel
theorem dX8_way_28 : decode cX8_way 28 = .ok (.iload_n 2, 1) := by decide +kernel
theorem dX8_way_29 : decode cX8_way 29 = .ok (.invokevirtual 218, 3) := by decide +kernel
theorem dX8_way_32 : decode cX8_way 32 = .ok (.istore_n 3, 1) := by decide +kernel
theorem dX8_way_33 : decode cX8_way 33 = .ok (.iload_n 3, 1) := by decide +kernel
theorem dX8_way_34 : decode cX8_way 34 = .ok (.ifCond .ge 11, 3) := by decide +kernel
theorem dX8_way_37 : decode cX8_way 37 = .ok (.aload_n 0, 1) := by decide +kernel
theorem dX8_way_38 : decode cX8_way 38 = .ok (.iconst 2, 1) := by decide +kernel
theorem dX8_way_39 : decode cX8_way 39 = .ok (.invokevirtual 75, 3) := by decide +kernel
theorem dX8_way_42 : decode cX8_way 42 = .ok (.goto 4, 3) := by decide +kernel
theorem dX8_way_45 : decode cX8_way 45 = .ok (.iload_n 3, 1) := by decide +kernel
theorem dX8_way_46 : decode cX8_way 46 = .ok (.ireturn, 1) := by decide +kernel
theorem dX8_cut_0 : decode cX8_cut 0 = .ok (.iload_n 1, 1) := by decide +kernel
theorem dX8_cut_1 : decode cX8_cut 1 = .ok (.iload_n 2, 1) := by decide +kernel
theorem dX8_cut_2 : decode cX8_cut 2 = .ok (.invokestatic 111, 3) := by decide +kernel
theorem dX8_cut_5 : decode cX8_cut 5 = .ok (.ifCond .eq 12, 3) := by decide +kernel
theorem dX8_cut_8 : decode cX8_cut 8 = .ok (.iload_n 3, 1) := by decide +kernel
theorem dX8_cut_9 : decode cX8_cut 9 = .ok (.ifCond .lt 8, 3) := by decide +kernel
theorem dX8_cut_12 : decode cX8_cut 12 = .ok (.iload_n 3, 1) := by decide +kernel
theorem dX8_cut_13 : decode cX8_cut 13 = .ok (.iconst 1, 1) := by decide +kernel
theorem dX8_cut_14 : decode cX8_cut 14 = .ok (.if_icmp .le 9, 3) := by decide +kernel
theorem dX8_cut_17 : decode cX8_cut 17 = .ok (.aload_n 0, 1) := by decide +kernel
theorem dX8_cut_18 : decode cX8_cut 18 = .ok (.iconst 1, 1) := by decide +kernel
theorem dX8_cut_19 : decode cX8_cut 19 = .ok (.invokevirtual 75, 3) := by decide +kernel
theorem dX8_cut_22 : decode cX8_cut 22 = .ok (.ireturn, 1) := by decide +kernel
theorem dX8_cut_23 : decode cX8_cut 23 = .ok (.aload_n 0, 1) := by decide +kernel
theorem dX8_cut_24 : decode cX8_cut 24 = .ok (.getfield 10, 3) := by decide +kernel
theorem dX8_cut_27 : decode cX8_cut 27 = .ok (.getfield 79, 3) := by decide +kernel
theorem dX8_cut_30 : decode cX8_cut 30 = .ok (.iload_n 1, 1) := by decide +kernel
theorem dX8_cut_31 : decode cX8_cut 31 = .ok (.iload_n 2, 1) := by decide +kernel
theorem dX8_cut_32 : decode cX8_cut 32 = .ok (.invokevirtual 221, 3) := by decide +kernel
theorem dX8_cut_35 : decode cX8_cut 35 = .ok (.istore 4, 2) := by decide +kernel
theorem dX8_cut_37 : decode cX8_cut 37 = .ok (.iload_n 3, 1) := by decide +kernel
theorem dX8_cut_38 : decode cX8_cut 38 = .ok (.ifCond .ne 11, 3) := by decide +kernel
theorem dX8_cut_41 : decode cX8_cut 41 = .ok (.iload 4, 2) := by decide +kernel
theorem dX8_cut_43 : decode cX8_cut 43 = .ok (.invokestatic 224, 3) := by decide +kernel
theorem dX8_cut_46 : decode cX8_cut 46 = .ok (.goto 5, 3) := by decide +kernel
theorem dX8_cut_49 : decode cX8_cut 49 = .ok (.iload 4, 2) := by decide +kernel
theorem dX8_cut_51 : decode cX8_cut 51 = .ok (.ireturn, 1) := by decide +kernel
theorem dX8_roams_0 : decode cX8_roams 0 = .ok (.iload_n 1, 1) := by decide +kernel
theorem dX8_roams_1 : decode cX8_roams 1 = .ok (.invokestatic 142, 3) := by decide +kernel
theorem dX8_roams_4 : decode cX8_roams 4 = .ok (.ifCond .ne 9, 3) := by decide +kernel
theorem dX8_roams_7 : decode cX8_roams 7 = .ok (.aload_n 0, 1) := by decide +kernel
theorem dX8_roams_8 : decode cX8_roams 8 = .ok (.iconst 1, 1) := by decide +kernel
theorem dX8_roams_9 : decode cX8_roams 9 = .ok (.invokevirtual 75, 3) := by decide +kernel
theorem dX8_roams_12 : decode cX8_roams 12 = .ok (.ireturn, 1) := by decide +kernel
theorem dX8_roams_13 : decode cX8_roams 13 = .ok (.aload_n 0, 1) := by decide +kernel
theorem dX8_roams_14 : decode cX8_roams 14 = .ok (.getfield 10, 3) := by decide +kernel
theorem dX8_roams_17 : decode cX8_roams 17 = .ok (.getfield 79, 3) := by decide +kernel
theorem dX8_roams_20 : decode cX8_roams 20 = .ok (.iload_n 1, 1) := by decide +kernel
theorem dX8_roams_21 : decode cX8_roams 21 = .ok (.aload_n 0, 1) := by decide +kernel
theorem dX8_roams_22 : decode cX8_roams 22 = .ok (.getfield 10, 3) := by decide +kernel
theorem dX8_roams_25 : decode cX8_roams 25 = .ok (.getfield 79, 3) := by decide +kernel
theorem dX8_roams_28 : decode cX8_roams 28 = .ok (.invokevirtual 197, 3) := by decide +kernel
theorem dX8_roams_31 : decode cX8_roams 31 = .ok (.invokevirtual 229, 3) := by decide +kernel
theorem dX8_roams_34 : decode cX8_roams 34 = .ok (.ireturn, 1) := by decide +kernel
theorem dX8_odds_0 : decode cX8_odds 0 = .ok (.iload_n 1, 1) := by decide +kernel
theorem dX8_odds_1 : decode cX8_odds 1 = .ok (.invokestatic 142, 3) := by decide +kernel
theorem dX8_odds_4 : decode cX8_odds 4 = .ok (.ifCond .eq 12, 3) := by decide +kernel
theorem dX8_odds_7 : decode cX8_odds 7 = .ok (.iload_n 2, 1) := by decide +kernel
theorem dX8_odds_8 : decode cX8_odds 8 = .ok (.ifCond .lt 8, 3) := by decide +kernel
theorem dX8_odds_11 : decode cX8_odds 11 = .ok (.iload_n 2, 1) := by decide +kernel
theorem dX8_odds_12 : decode cX8_odds 12 = .ok (.iconst 1, 1) := by decide +kernel
theorem dX8_odds_13 : decode cX8_odds 13 = .ok (.if_icmp .le 9, 3) := by decide +kernel
theorem dX8_odds_16 : decode cX8_odds 16 = .ok (.aload_n 0, 1) := by decide +kernel
theorem dX8_odds_17 : decode cX8_odds 17 = .ok (.iconst 1, 1) := by decide +kernel
theorem dX8_odds_18 : decode cX8_odds 18 = .ok (.invokevirtual 75, 3) := by decide +kernel
theorem dX8_odds_21 : decode cX8_odds 21 = .ok (.ireturn, 1) := by decide +kernel
theorem dX8_odds_22 : decode cX8_odds 22 = .ok (.aload_n 0, 1) := by decide +kernel
theorem dX8_odds_23 : decode cX8_odds 23 = .ok (.getfield 10, 3) := by decide +kernel
theorem dX8_odds_26 : decode cX8_odds 26 = .ok (.getfield 79, 3) := by decide +kernel
theorem dX8_odds_29 : decode cX8_odds 29 = .ok (.getfield 114, 3) := by decide +kernel
theorem dX8_odds_32 : decode cX8_odds 32 = .ok (.istore_n 3, 1) := by decide +kernel
theorem dX8_odds_33 : decode cX8_odds 33 = .ok (.iload_n 3, 1) := by decide +kernel
theorem dX8_odds_34 : decode cX8_odds 34 = .ok (.ifCond .gt 9, 3) := by decide +kernel
theorem dX8_odds_37 : decode cX8_odds 37 = .ok (.aload_n 0, 1) := by decide +kernel
theorem dX8_odds_38 : decode cX8_odds 38 = .ok (.iconst 3, 1) := by decide +kernel
theorem dX8_odds_39 : decode cX8_odds 39 = .ok (.invokevirtual 75, 3) := by decide +kernel
theorem dX8_odds_42 : decode cX8_odds 42 = .ok (.ireturn, 1) := by decide +kernel
theorem dX8_odds_43 : decode cX8_odds 43 = .ok (.aload_n 0, 1) := by decide +kernel
theorem dX8_odds_44 : decode cX8_odds 44 = .ok (.getfield 10, 3) := by decide +kernel
theorem dX8_odds_47 : decode cX8_odds 47 = .ok (.getfield 79, 3) := by decide +kernel
theorem dX8_odds_50 : decode cX8_odds 50 = .ok (.iload_n 1, 1) := by decide +kernel
theorem dX8_odds_51 : decode cX8_odds 51 = .ok (.invokevirtual 232, 3) := by decide +kernel
theorem dX8_odds_54 : decode cX8_odds 54 = .ok (.istore 4, 2) := by decide +kernel
theorem dX8_odds_56 : decode cX8_odds 56 = .ok (.iload 4, 2) := by decide +kernel
theorem dX8_odds_58 : decode cX8_odds 58 = .ok (.iload_n 3, 1) := by decide +kernel
theorem dX8_odds_59 : decode cX8_odds 59 = .ok (.invokestatic 235, 3) := by decide +kernel
theorem dX8_odds_62 : decode cX8_odds 62 = .ok (.istore 5, 2) := by decide +kernel
theorem dX8_odds_64 : decode cX8_odds 64 = .ok (.iload_n 2, 1) := by decide +kernel
theorem dX8_odds_65 : decode cX8_odds 65 = .ok (.ifCond .ne 8, 3) := by decide +kernel
theorem dX8_odds_68 : decode cX8_odds 68 = .ok (.iload 4, 2) := by decide +kernel
theorem dX8_odds_70 : decode cX8_odds 70 = .ok (.goto 4, 3) := by decide +kernel
theorem dX8_odds_73 : decode cX8_odds 73 = .ok (.iload_n 3, 1) := by decide +kernel
theorem dX8_odds_74 : decode cX8_odds 74 = .ok (.istore 6, 2) := by decide +kernel
theorem dX8_odds_76 : decode cX8_odds 76 = .ok (.iload 5, 2) := by decide +kernel
theorem dX8_odds_78 : decode cX8_odds 78 = .ok (.iconst 1, 1) := by decide +kernel
theorem dX8_odds_79 : decode cX8_odds 79 = .ok (.if_icmp .le 11, 3) := by decide +kernel
theorem dX8_odds_82 : decode cX8_odds 82 = .ok (.iload 6, 2) := by decide +kernel
theorem dX8_odds_84 : decode cX8_odds 84 = .ok (.iload 5, 2) := by decide +kernel
theorem dX8_odds_86 : decode cX8_odds 86 = .ok (.idiv, 1) := by decide +kernel
theorem dX8_odds_87 : decode cX8_odds 87 = .ok (.goto 5, 3) := by decide +kernel
theorem dX8_odds_90 : decode cX8_odds 90 = .ok (.iload 6, 2) := by decide +kernel
theorem dX8_odds_92 : decode cX8_odds 92 = .ok (.ireturn, 1) := by decide +kernel
theorem dX8_fits_0 : decode cX8_fits 0 = .ok (.iload_n 1, 1) := by decide +kernel
theorem dX8_fits_1 : decode cX8_fits 1 = .ok (.invokestatic 238, 3) := by decide +kernel
theorem dX8_fits_4 : decode cX8_fits 4 = .ok (.ifCond .ne 9, 3) := by decide +kernel
theorem dX8_fits_7 : decode cX8_fits 7 = .ok (.aload_n 0, 1) := by decide +kernel
theorem dX8_fits_8 : decode cX8_fits 8 = .ok (.iconst 1, 1) := by decide +kernel
theorem dX8_fits_9 : decode cX8_fits 9 = .ok (.invokevirtual 75, 3) := by decide +kernel
theorem dX8_fits_12 : decode cX8_fits 12 = .ok (.ireturn, 1) := by decide +kernel
theorem dX8_fits_13 : decode cX8_fits 13 = .ok (.aload_n 0, 1) := by decide +kernel
theorem dX8_fits_14 : decode cX8_fits 14 = .ok (.getfield 58, 3) := by decide +kernel
theorem dX8_fits_17 : decode cX8_fits 17 = .ok (.iload_n 1, 1) := by decide +kernel
theorem dX8_fits_18 : decode cX8_fits 18 = .ok (.aaload, 1) := by decide +kernel
theorem dX8_fits_19 : decode cX8_fits 19 = .ok (.astore_n 2, 1) := by decide +kernel
theorem dX8_fits_20 : decode cX8_fits 20 = .ok (.aload_n 2, 1) := by decide +kernel
theorem dX8_fits_21 : decode cX8_fits 21 = .ok (.invokevirtual 241, 3) := by decide +kernel
theorem dX8_fits_24 : decode cX8_fits 24 = .ok (.ifCond .eq 9, 3) := by decide +kernel
theorem dX8_fits_27 : decode cX8_fits 27 = .ok (.aload_n 0, 1) := by decide +kernel
theorem dX8_fits_28 : decode cX8_fits 28 = .ok (.iconst 2, 1) := by decide +kernel
theorem dX8_fits_29 : decode cX8_fits 29 = .ok (.invokevirtual 75, 3) := by decide +kernel
theorem dX8_fits_32 : decode cX8_fits 32 = .ok (.ireturn, 1) := by decide +kernel
theorem dX8_fits_33 : decode cX8_fits 33 = .ok (.aload_n 0, 1) := by decide +kernel
theorem dX8_fits_34 : decode cX8_fits 34 = .ok (.getfield 31, 3) := by decide +kernel
theorem dX8_fits_37 : decode cX8_fits 37 = .ok (.aload_n 0, 1) := by decide +kernel
theorem dX8_fits_38 : decode cX8_fits 38 = .ok (.getfield 10, 3) := by decide +kernel
theorem dX8_fits_41 : decode cX8_fits 41 = .ok (.getfield 79, 3) := by decide +kernel
theorem dX8_fits_44 : decode cX8_fits 44 = .ok (.invokevirtual 207, 3) := by decide +kernel
theorem dX8_fits_47 : decode cX8_fits 47 = .ok (.iconst 0, 1) := by decide +kernel
theorem dX8_fits_48 : decode cX8_fits 48 = .ok (.istore_n 3, 1) := by decide +kernel
theorem dX8_fits_49 : decode cX8_fits 49 = .ok (.iload_n 3, 1) := by decide +kernel
theorem dX8_fits_50 : decode cX8_fits 50 = .ok (.bipush 60, 2) := by decide +kernel
theorem dX8_fits_52 : decode cX8_fits 52 = .ok (.if_icmp .gt 29, 3) := by decide +kernel
theorem dX8_fits_55 : decode cX8_fits 55 = .ok (.aload_n 2, 1) := by decide +kernel
theorem dX8_fits_56 : decode cX8_fits 56 = .ok (.aload_n 0, 1) := by decide +kernel
theorem dX8_fits_57 : decode cX8_fits 57 = .ok (.getfield 31, 3) := by decide +kernel
theorem dX8_fits_60 : decode cX8_fits 60 = .ok (.invokevirtual 244, 3) := by decide +kernel
theorem dX8_fits_63 : decode cX8_fits 63 = .ok (.ifCond .eq 5, 3) := by decide +kernel
theorem dX8_fits_66 : decode cX8_fits 66 = .ok (.iload_n 3, 1) := by decide +kernel
theorem dX8_fits_67 : decode cX8_fits 67 = .ok (.ireturn, 1) := by decide +kernel
theorem dX8_fits_68 : decode cX8_fits 68 = .ok (.aload_n 0, 1) := by decide +kernel
theorem dX8_fits_69 : decode cX8_fits 69 = .ok (.getfield 31, 3) := by decide +kernel
theorem dX8_fits_72 : decode cX8_fits 72 = .ok (.invokevirtual 194, 3) := by decide +kernel
theorem dX8_fits_75 : decode cX8_fits 75 = .ok (.iinc 3 1, 3) := by decide +kernel
theorem dX8_fits_78 : decode cX8_fits 78 = .ok (.goto (-29), 3) := by decide +kernel
theorem dX8_fits_81 : decode cX8_fits 81 = .ok (.aload_n 0, 1) := by decide +kernel
theorem dX8_fits_82 : decode cX8_fits 82 = .ok (.iconst 2, 1) := by decide +kernel
theorem dX8_fits_83 : decode cX8_fits 83 = .ok (.invokevirtual 75, 3) := by decide +kernel
theorem dX8_fits_86 : decode cX8_fits 86 = .ok (.ireturn, 1) := by decide +kernel
theorem dX8_voice_0 : decode cX8_voice 0 = .ok (.aload_n 0, 1) := by decide +kernel
theorem dX8_voice_1 : decode cX8_voice 1 = .ok (.getfield 10, 3) := by decide +kernel
theorem dX8_voice_4 : decode cX8_voice 4 = .ok (.getfield 79, 3) := by decide +kernel
theorem dX8_voice_7 : decode cX8_voice 7 = .ok (.astore 4, 2) := by decide +kernel
theorem dX8_voice_9 : decode cX8_voice 9 = .ok (.aload 4, 2) := by decide +kernel
theorem dX8_voice_11 : decode cX8_voice 11 = .ok (.iload_n 1, 1) := by decide +kernel
theorem dX8_voice_12 : decode cX8_voice 12 = .ok (.invokevirtual 89, 3) := by decide +kernel
theorem dX8_voice_15 : decode cX8_voice 15 = .ok (.ifCond .eq 12, 3) := by decide +kernel
theorem dX8_voice_18 : decode cX8_voice 18 = .ok (.iload_n 2, 1) := by decide +kernel
theorem dX8_voice_19 : decode cX8_voice 19 = .ok (.ifCond .lt 8, 3) := by decide +kernel
theorem dX8_voice_22 : decode cX8_voice 22 = .ok (.iload_n 2, 1) := by decide +kernel
theorem dX8_voice_23 : decode cX8_voice 23 = .ok (.iconst 4, 1) := by decide +kernel
theorem dX8_voice_24 : decode cX8_voice 24 = .ok (.if_icmp .lt 9, 3) := by decide +kernel
theorem dX8_voice_27 : decode cX8_voice 27 = .ok (.aload_n 0, 1) := by decide +kernel
theorem dX8_voice_28 : decode cX8_voice 28 = .ok (.iconst 1, 1) := by decide +kernel
theorem dX8_voice_29 : decode cX8_voice 29 = .ok (.invokevirtual 75, 3) := by decide +kernel
theorem dX8_voice_32 : decode cX8_voice 32 = .ok (.ireturn, 1) := by decide +kernel
theorem dX8_voice_33 : decode cX8_voice 33 = .ok (.aload_n 0, 1) := by decide +kernel
theorem dX8_voice_34 : decode cX8_voice 34 = .ok (.getfield 52, 3) := by decide +kernel
theorem dX8_voice_37 : decode cX8_voice 37 = .ok (.aload 4, 2) := by decide +kernel
theorem dX8_voice_39 : decode cX8_voice 39 = .ok (.getfield 92, 3) := by decide +kernel
theorem dX8_voice_42 : decode cX8_voice 42 = .ok (.iload_n 1, 1) := by decide +kernel
theorem dX8_voice_43 : decode cX8_voice 43 = .ok (.iaload, 1) := by decide +kernel
theorem dX8_voice_44 : decode cX8_voice 44 = .ok (.iload_n 1, 1) := by decide +kernel
theorem dX8_voice_45 : decode cX8_voice 45 = .ok (.aload 4, 2) := by decide +kernel
theorem dX8_voice_47 : decode cX8_voice 47 = .ok (.getfield 95, 3) := by decide +kernel
theorem dX8_voice_50 : decode cX8_voice 50 = .ok (.iload_n 1, 1) := by decide +kernel
theorem dX8_voice_51 : decode cX8_voice 51 = .ok (.iaload, 1) := by decide +kernel
theorem dX8_voice_52 : decode cX8_voice 52 = .ok (.iload_n 2, 1) := by decide +kernel
theorem dX8_voice_53 : decode cX8_voice 53 = .ok (.iload_n 3, 1) := by decide +kernel
theorem dX8_voice_54 : decode cX8_voice 54 = .ok (.invokevirtual 248, 3) := by decide +kernel
theorem dX8_voice_57 : decode cX8_voice 57 = .ok (.istore 5, 2) := by decide +kernel
theorem dX8_voice_59 : decode cX8_voice 59 = .ok (.aload_n 0, 1) := by decide +kernel
theorem dX8_voice_60 : decode cX8_voice 60 = .ok (.getfield 52, 3) := by decide +kernel
theorem dX8_voice_63 : decode cX8_voice 63 = .ok (.getfield 252, 3) := by decide +kernel
theorem dX8_voice_66 : decode cX8_voice 66 = .ok (.ifCond .eq 12, 3) := by decide +kernel
theorem dX8_voice_69 : decode cX8_voice 69 = .ok (.aload_n 0, 1) := by decide +kernel
theorem dX8_voice_70 : decode cX8_voice 70 = .ok (.bipush 6, 2) := by decide +kernel
theorem dX8_voice_72 : decode cX8_voice 72 = .ok (.invokevirtual 75, 3) := by decide +kernel
theorem dX8_voice_75 : decode cX8_voice 75 = .ok (.goto 5, 3) := by decide +kernel
theorem dX8_voice_78 : decode cX8_voice 78 = .ok (.iload 5, 2) := by decide +kernel
theorem dX8_voice_80 : decode cX8_voice 80 = .ok (.ireturn, 1) := by decide +kernel
theorem dX8_body_0 : decode cX8_body 0 = .ok (.iload_n 1, 1) := by decide +kernel
theorem dX8_body_1 : decode cX8_body 1 = .ok (.ifCond .lt 14, 3) := by decide +kernel
theorem dX8_body_4 : decode cX8_body 4 = .ok (.iload_n 1, 1) := by decide +kernel
theorem dX8_body_5 : decode cX8_body 5 = .ok (.aload_n 0, 1) := by decide +kernel
theorem dX8_body_6 : decode cX8_body 6 = .ok (.getfield 52, 3) := by decide +kernel
theorem dX8_body_9 : decode cX8_body 9 = .ok (.getfield 256, 3) := by decide +kernel
theorem dX8_body_12 : decode cX8_body 12 = .ok (.if_icmp .lt 9, 3) := by decide +kernel
theorem dX8_body_15 : decode cX8_body 15 = .ok (.aload_n 0, 1) := by decide +kernel
theorem dX8_body_16 : decode cX8_body 16 = .ok (.iconst 2, 1) := by decide +kernel
theorem dX8_body_17 : decode cX8_body 17 = .ok (.invokevirtual 75, 3) := by decide +kernel
theorem dX8_body_20 : decode cX8_body 20 = .ok (.ireturn, 1) := by decide +kernel
theorem dX8_body_21 : decode cX8_body 21 = .ok (.aload_n 0, 1) := by decide +kernel
theorem dX8_body_22 : decode cX8_body 22 = .ok (.getfield 52, 3) := by decide +kernel
theorem dX8_body_25 : decode cX8_body 25 = .ok (.getfield 259, 3) := by decide +kernel
theorem dX8_body_28 : decode cX8_body 28 = .ok (.iload_n 1, 1) := by decide +kernel
theorem dX8_body_29 : decode cX8_body 29 = .ok (.iaload, 1) := by decide +kernel
theorem dX8_body_30 : decode cX8_body 30 = .ok (.ireturn, 1) := by decide +kernel
theorem dX8_sheet_0 : decode cX8_sheet 0 = .ok (.iload_n 1, 1) := by decide +kernel
theorem dX8_sheet_1 : decode cX8_sheet 1 = .ok (.invokestatic 238, 3) := by decide +kernel
theorem dX8_sheet_4 : decode cX8_sheet 4 = .ok (.ifCond .eq 10, 3) := by decide +kernel
theorem dX8_sheet_7 : decode cX8_sheet 7 = .ok (.iload_n 2, 1) := by decide +kernel
theorem dX8_sheet_8 : decode cX8_sheet 8 = .ok (.invokestatic 262, 3) := by decide +kernel
theorem dX8_sheet_11 : decode cX8_sheet 11 = .ok (.ifCond .ne 9, 3) := by decide +kernel
theorem dX8_sheet_14 : decode cX8_sheet 14 = .ok (.aload_n 0, 1) := by decide +kernel
theorem dX8_sheet_15 : decode cX8_sheet 15 = .ok (.iconst 1, 1) := by decide +kernel
theorem dX8_sheet_16 : decode cX8_sheet 16 = .ok (.invokevirtual 75, 3) := by decide +kernel
theorem dX8_sheet_19 : decode cX8_sheet 19 = .ok (.ireturn, 1) := by decide +kernel
theorem dX8_sheet_20 : decode cX8_sheet 20 = .ok (.iload_n 2, 1) := by decide +kernel
theorem dX8_sheet_21 : decode cX8_sheet 21 = .ok (.ifCond .ne 16, 3) := by decide +kernel
theorem dX8_sheet_24 : decode cX8_sheet 24 = .ok (.aload_n 0, 1) := by decide +kernel
theorem dX8_sheet_25 : decode cX8_sheet 25 = .ok (.getfield 58, 3) := by decide +kernel
theorem dX8_sheet_28 : decode cX8_sheet 28 = .ok (.iload_n 1, 1) := by decide +kernel
theorem dX8_sheet_29 : decode cX8_sheet 29 = .ok (.aaload, 1) := by decide +kernel
theorem dX8_sheet_30 : decode cX8_sheet 30 = .ok (.iconst 0, 1) := by decide +kernel
theorem dX8_sheet_31 : decode cX8_sheet 31 = .ok (.iconst 0, 1) := by decide +kernel
theorem dX8_sheet_32 : decode cX8_sheet 32 = .ok (.invokevirtual 265, 3) := by decide +kernel
theorem dX8_sheet_35 : decode cX8_sheet 35 = .ok (.iconst 1, 1) := by decide +kernel
theorem dX8_sheet_36 : decode cX8_sheet 36 = .ok (.ireturn, 1) := by decide +kernel
theorem dX8_sheet_37 : decode cX8_sheet 37 = .ok (.iload_n 3, 1) := by decide +kernel
theorem dX8_sheet_38 : decode cX8_sheet 38 = .ok (.ifCond .ge 9, 3) := by decide +kernel
theorem dX8_sheet_41 : decode cX8_sheet 41 = .ok (.aload_n 0, 1) := by decide +kernel
theorem dX8_sheet_42 : decode cX8_sheet 42 = .ok (.iconst 3, 1) := by decide +kernel
theorem dX8_sheet_43 : decode cX8_sheet 43 = .ok (.invokevirtual 75, 3) := by decide +kernel
theorem dX8_sheet_46 : decode cX8_sheet 46 = .ok (.ireturn, 1) := by decide +kernel
theorem dX8_sheet_47 : decode cX8_sheet 47 = .ok (.iload_n 3, 1) := by decide +kernel
theorem dX8_sheet_48 : decode cX8_sheet 48 = .ok (.bipush 24, 2) := by decide +kernel
theorem dX8_sheet_50 : decode cX8_sheet 50 = .ok (.if_icmp .le 9, 3) := by decide +kernel
theorem dX8_sheet_53 : decode cX8_sheet 53 = .ok (.aload_n 0, 1) := by decide +kernel
theorem dX8_sheet_54 : decode cX8_sheet 54 = .ok (.iconst 1, 1) := by decide +kernel
theorem dX8_sheet_55 : decode cX8_sheet 55 = .ok (.invokevirtual 75, 3) := by decide +kernel
theorem dX8_sheet_58 : decode cX8_sheet 58 = .ok (.ireturn, 1) := by decide +kernel
theorem dX8_sheet_59 : decode cX8_sheet 59 = .ok (.aload_n 0, 1) := by decide +kernel
theorem dX8_sheet_60 : decode cX8_sheet 60 = .ok (.getfield 58, 3) := by decide +kernel
theorem dX8_sheet_63 : decode cX8_sheet 63 = .ok (.iload_n 1, 1) := by decide +kernel
theorem dX8_sheet_64 : decode cX8_sheet 64 = .ok (.aaload, 1) := by decide +kernel
theorem dX8_sheet_65 : decode cX8_sheet 65 = .ok (.iload_n 2, 1) := by decide +kernel
theorem dX8_sheet_66 : decode cX8_sheet 66 = .ok (.iload_n 3, 1) := by decide +kernel
theorem dX8_sheet_67 : decode cX8_sheet 67 = .ok (.invokevirtual 265, 3) := by decide +kernel
theorem dX8_sheet_70 : decode cX8_sheet 70 = .ok (.iconst 1, 1) := by decide +kernel
theorem dX8_sheet_71 : decode cX8_sheet 71 = .ok (.ireturn, 1) := by decide +kernel
theorem dX8_put_0 : decode cX8_put 0 = .ok (.iload_n 1, 1) := by decide +kernel
theorem dX8_put_1 : decode cX8_put 1 = .ok (.invokestatic 238, 3) := by decide +kernel
theorem dX8_put_4 : decode cX8_put 4 = .ok (.ifCond .ne 9, 3) := by decide +kernel
theorem dX8_put_7 : decode cX8_put 7 = .ok (.aload_n 0, 1) := by decide +kernel
theorem dX8_put_8 : decode cX8_put 8 = .ok (.iconst 1, 1) := by decide +kernel
theorem dX8_put_9 : decode cX8_put 9 = .ok (.invokevirtual 75, 3) := by decide +kernel
theorem dX8_put_12 : decode cX8_put 12 = .ok (.ireturn, 1) := by decide +kernel
theorem dX8_put_13 : decode cX8_put 13 = .ok (.aload_n 0, 1) := by decide +kernel
theorem dX8_put_14 : decode cX8_put 14 = .ok (.getfield 58, 3) := by decide +kernel
theorem dX8_put_17 : decode cX8_put 17 = .ok (.iload_n 1, 1) := by decide +kernel
theorem dX8_put_18 : decode cX8_put 18 = .ok (.aaload, 1) := by decide +kernel
theorem dX8_put_19 : decode cX8_put 19 = .ok (.astore 4, 2) := by decide +kernel
theorem dX8_put_21 : decode cX8_put 21 = .ok (.aload 4, 2) := by decide +kernel
theorem dX8_put_23 : decode cX8_put 23 = .ok (.invokevirtual 241, 3) := by decide +kernel
theorem dX8_put_26 : decode cX8_put 26 = .ok (.ifCond .eq 9, 3) := by decide +kernel
theorem dX8_put_29 : decode cX8_put 29 = .ok (.aload_n 0, 1) := by decide +kernel
theorem dX8_put_30 : decode cX8_put 30 = .ok (.iconst 2, 1) := by decide +kernel
theorem dX8_put_31 : decode cX8_put 31 = .ok (.invokevirtual 75, 3) := by decide +kernel
theorem dX8_put_34 : decode cX8_put 34 = .ok (.ireturn, 1) := by decide +kernel
theorem dX8_put_35 : decode cX8_put 35 = .ok (.iload_n 2, 1) := by decide +kernel
theorem dX8_put_36 : decode cX8_put 36 = .ok (.ifCond .lt 12, 3) := by decide +kernel
theorem dX8_put_39 : decode cX8_put 39 = .ok (.iload_n 2, 1) := by decide +kernel
theorem dX8_put_40 : decode cX8_put 40 = .ok (.aload 4, 2) := by decide +kernel
theorem dX8_put_42 : decode cX8_put 42 = .ok (.getfield 269, 3) := by decide +kernel
theorem dX8_put_45 : decode cX8_put 45 = .ok (.if_icmp .lt 9, 3) := by decide +kernel
theorem dX8_put_48 : decode cX8_put 48 = .ok (.aload_n 0, 1) := by decide +kernel
theorem dX8_put_49 : decode cX8_put 49 = .ok (.iconst 1, 1) := by decide +kernel
theorem dX8_put_50 : decode cX8_put 50 = .ok (.invokevirtual 75, 3) := by decide +kernel
theorem dX8_put_53 : decode cX8_put 53 = .ok (.ireturn, 1) := by decide +kernel
theorem dX8_put_54 : decode cX8_put 54 = .ok (.aload 4, 2) := by decide +kernel
theorem dX8_put_56 : decode cX8_put 56 = .ok (.getfield 270, 3) := by decide +kernel
theorem dX8_put_59 : decode cX8_put 59 = .ok (.iload_n 2, 1) := by decide +kernel
theorem dX8_put_60 : decode cX8_put 60 = .ok (.aload 4, 2) := by decide +kernel
theorem dX8_put_62 : decode cX8_put 62 = .ok (.iload_n 3, 1) := by decide +kernel
theorem dX8_put_63 : decode cX8_put 63 = .ok (.invokevirtual 273, 3) := by decide +kernel
theorem dX8_put_66 : decode cX8_put 66 = .ok (.iastore, 1) := by decide +kernel
theorem dX8_put_67 : decode cX8_put 67 = .ok (.iconst 1, 1) := by decide +kernel
theorem dX8_put_68 : decode cX8_put 68 = .ok (.ireturn, 1) := by decide +kernel
theorem dX8_move_0 : decode cX8_move 0 = .ok (.iload_n 1, 1) := by decide +kernel
theorem dX8_move_1 : decode cX8_move 1 = .ok (.invokestatic 238, 3) := by decide +kernel
theorem dX8_move_4 : decode cX8_move 4 = .ok (.ifCond .eq 10, 3) := by decide +kernel
theorem dX8_move_7 : decode cX8_move 7 = .ok (.iload_n 3, 1) := by decide +kernel
theorem dX8_move_8 : decode cX8_move 8 = .ok (.invokestatic 238, 3) := by decide +kernel
theorem dX8_move_11 : decode cX8_move 11 = .ok (.ifCond .ne 9, 3) := by decide +kernel
theorem dX8_move_14 : decode cX8_move 14 = .ok (.aload_n 0, 1) := by decide +kernel
theorem dX8_move_15 : decode cX8_move 15 = .ok (.iconst 1, 1) := by decide +kernel
theorem dX8_move_16 : decode cX8_move 16 = .ok (.invokevirtual 75, 3) := by decide +kernel
theorem dX8_move_19 : decode cX8_move 19 = .ok (.ireturn, 1) := by decide +kernel
theorem dX8_move_20 : decode cX8_move 20 = .ok (.aload_n 0, 1) := by decide +kernel
theorem dX8_move_21 : decode cX8_move 21 = .ok (.getfield 58, 3) := by decide +kernel
theorem dX8_move_24 : decode cX8_move 24 = .ok (.iload_n 1, 1) := by decide +kernel
theorem dX8_move_25 : decode cX8_move 25 = .ok (.aaload, 1) := by decide +kernel
theorem dX8_move_26 : decode cX8_move 26 = .ok (.astore 6, 2) := by decide +kernel
theorem dX8_move_28 : decode cX8_move 28 = .ok (.aload_n 0, 1) := by decide +kernel
theorem dX8_move_29 : decode cX8_move 29 = .ok (.getfield 58, 3) := by decide +kernel
theorem dX8_move_32 : decode cX8_move 32 = .ok (.iload_n 3, 1) := by decide +kernel
theorem dX8_move_33 : decode cX8_move 33 = .ok (.aaload, 1) := by decide +kernel
theorem dX8_move_34 : decode cX8_move 34 = .ok (.astore 7, 2) := by decide +kernel
theorem dX8_move_36 : decode cX8_move 36 = .ok (.aload 6, 2) := by decide +kernel
theorem dX8_move_38 : decode cX8_move 38 = .ok (.invokevirtual 241, 3) := by decide +kernel
theorem dX8_move_41 : decode cX8_move 41 = .ok (.ifCond .ne 11, 3) := by decide +kernel
theorem dX8_move_44 : decode cX8_move 44 = .ok (.aload 7, 2) := by decide +kernel
theorem dX8_move_46 : decode cX8_move 46 = .ok (.invokevirtual 241, 3) := by decide +kernel
theorem dX8_move_49 : decode cX8_move 49 = .ok (.ifCond .eq 9, 3) := by decide +kernel
theorem dX8_move_52 : decode cX8_move 52 = .ok (.aload_n 0, 1) := by decide +kernel
theorem dX8_move_53 : decode cX8_move 53 = .ok (.iconst 2, 1) := by decide +kernel
theorem dX8_move_54 : decode cX8_move 54 = .ok (.invokevirtual 75, 3) := by decide +kernel
theorem dX8_move_57 : decode cX8_move 57 = .ok (.ireturn, 1) := by decide +kernel
theorem dX8_move_58 : decode cX8_move 58 = .ok (.aload 6, 2) := by decide +kernel
theorem dX8_move_60 : decode cX8_move 60 = .ok (.getfield 276, 3) := by decide +kernel
theorem dX8_move_63 : decode cX8_move 63 = .ok (.aload 7, 2) := by decide +kernel
theorem dX8_move_65 : decode cX8_move 65 = .ok (.getfield 276, 3) := by decide +kernel
theorem dX8_move_68 : decode cX8_move 68 = .ok (.if_icmp .eq 9, 3) := by decide +kernel
theorem dX8_move_71 : decode cX8_move 71 = .ok (.aload_n 0, 1) := by decide +kernel
theorem dX8_move_72 : decode cX8_move 72 = .ok (.iconst 5, 1) := by decide +kernel
theorem dX8_move_73 : decode cX8_move 73 = .ok (.invokevirtual 75, 3) := by decide +kernel
theorem dX8_move_76 : decode cX8_move 76 = .ok (.ireturn, 1) := by decide +kernel
theorem dX8_move_77 : decode cX8_move 77 = .ok (.aload 6, 2) := by decide +kernel
theorem dX8_move_79 : decode cX8_move 79 = .ok (.iload_n 2, 1) := by decide +kernel
theorem dX8_move_80 : decode cX8_move 80 = .ok (.iload 5, 2) := by decide +kernel
theorem dX8_move_82 : decode cX8_move 82 = .ok (.invokevirtual 279, 3) := by decide +kernel
theorem dX8_move_85 : decode cX8_move 85 = .ok (.ifCond .eq 15, 3) := by decide +kernel
theorem dX8_move_88 : decode cX8_move 88 = .ok (.aload 7, 2) := by decide +kernel
theorem dX8_move_90 : decode cX8_move 90 = .ok (.iload 4, 2) := by decide +kernel
theorem dX8_move_92 : decode cX8_move 92 = .ok (.iload 5, 2) := by decide +kernel
theorem dX8_move_94 : decode cX8_move 94 = .ok (.invokevirtual 279, 3) := by decide +kernel
theorem dX8_move_97 : decode cX8_move 97 = .ok (.ifCond .ne 9, 3) := by decide +kernel
theorem dX8_move_100 : decode cX8_move 100 = .ok (.aload_n 0, 1) := by decide +kernel
theorem dX8_move_101 : decode cX8_move 101 = .ok (.iconst 1, 1) := by decide +kernel
theorem dX8_move_102 : decode cX8_move 102 = .ok (.invokevirtual 75, 3) := by decide +kernel
theorem dX8_move_105 : decode cX8_move 105 = .ok (.ireturn, 1) := by decide +kernel
theorem dX8_move_106 : decode cX8_move 106 = .ok (.aload 6, 2) := by decide +kernel
theorem dX8_move_108 : decode cX8_move 108 = .ok (.getfield 270, 3) := by decide +kernel
theorem dX8_move_111 : decode cX8_move 111 = .ok (.iload_n 2, 1) := by decide +kernel
theorem dX8_move_112 : decode cX8_move 112 = .ok (.aload 7, 2) := by decide +kernel
theorem dX8_move_114 : decode cX8_move 114 = .ok (.getfield 270, 3) := by decide +kernel
theorem dX8_move_117 : decode cX8_move 117 = .ok (.iload 4, 2) := by decide +kernel
theorem dX8_move_119 : decode cX8_move 119 = .ok (.iload 5, 2) := by decide +kernel
theorem dX8_move_121 : decode cX8_move 121 = .ok (.invokestatic 282, 3) := by decide +kernel
theorem dX8_move_124 : decode cX8_move 124 = .ok (.iload 5, 2) := by decide +kernel
theorem dX8_move_126 : decode cX8_move 126 = .ok (.ireturn, 1) := by decide +kernel
theorem dX8_holds_0 : decode cX8_holds 0 = .ok (.iload_n 1, 1) := by decide +kernel
theorem dX8_holds_1 : decode cX8_holds 1 = .ok (.invokestatic 238, 3) := by decide +kernel
theorem dX8_holds_4 : decode cX8_holds 4 = .ok (.ifCond .ne 9, 3) := by decide +kernel
theorem dX8_holds_7 : decode cX8_holds 7 = .ok (.aload_n 0, 1) := by decide +kernel
theorem dX8_holds_8 : decode cX8_holds 8 = .ok (.iconst 1, 1) := by decide +kernel
theorem dX8_holds_9 : decode cX8_holds 9 = .ok (.invokevirtual 75, 3) := by decide +kernel
theorem dX8_holds_12 : decode cX8_holds 12 = .ok (.ireturn, 1) := by decide +kernel
theorem dX8_holds_13 : decode cX8_holds 13 = .ok (.aload_n 0, 1) := by decide +kernel
theorem dX8_holds_14 : decode cX8_holds 14 = .ok (.getfield 58, 3) := by decide +kernel
theorem dX8_holds_17 : decode cX8_holds 17 = .ok (.iload_n 1, 1) := by decide +kernel
theorem dX8_holds_18 : decode cX8_holds 18 = .ok (.aaload, 1) := by decide +kernel
theorem dX8_holds_19 : decode cX8_holds 19 = .ok (.invokevirtual 241, 3) := by decide +kernel
theorem dX8_holds_22 : decode cX8_holds 22 = .ok (.ifCond .eq 9, 3) := by decide +kernel
theorem dX8_holds_25 : decode cX8_holds 25 = .ok (.aload_n 0, 1) := by decide +kernel
theorem dX8_holds_26 : decode cX8_holds 26 = .ok (.iconst 2, 1) := by decide +kernel
theorem dX8_holds_27 : decode cX8_holds 27 = .ok (.invokevirtual 75, 3) := by decide +kernel
theorem dX8_holds_30 : decode cX8_holds 30 = .ok (.ireturn, 1) := by decide +kernel
theorem dX8_holds_31 : decode cX8_holds 31 = .ok (.aload_n 0, 1) := by decide +kernel
theorem dX8_holds_32 : decode cX8_holds 32 = .ok (.getfield 58, 3) := by decide +kernel
theorem dX8_holds_35 : decode cX8_holds 35 = .ok (.iload_n 1, 1) := by decide +kernel
theorem dX8_holds_36 : decode cX8_holds 36 = .ok (.aaload, 1) := by decide +kernel
theorem dX8_holds_37 : decode cX8_holds 37 = .ok (.aload_n 0, 1) := by decide +kernel
theorem dX8_holds_38 : decode cX8_holds 38 = .ok (.getfield 10, 3) := by decide +kernel
theorem dX8_holds_41 : decode cX8_holds 41 = .ok (.getfield 79, 3) := by decide +kernel
theorem dX8_holds_44 : decode cX8_holds 44 = .ok (.invokevirtual 288, 3) := by decide +kernel
theorem dX8_holds_47 : decode cX8_holds 47 = .ok (.ireturn, 1) := by decide +kernel
theorem dX8_judge_0 : decode cX8_judge 0 = .ok (.iload_n 1, 1) := by decide +kernel
theorem dX8_judge_1 : decode cX8_judge 1 = .ok (.invokestatic 238, 3) := by decide +kernel
theorem dX8_judge_4 : decode cX8_judge 4 = .ok (.ifCond .ne 9, 3) := by decide +kernel
theorem dX8_judge_7 : decode cX8_judge 7 = .ok (.aload_n 0, 1) := by decide +kernel
theorem dX8_judge_8 : decode cX8_judge 8 = .ok (.iconst 1, 1) := by decide +kernel
theorem dX8_judge_9 : decode cX8_judge 9 = .ok (.invokevirtual 75, 3) := by decide +kernel
theorem dX8_judge_12 : decode cX8_judge 12 = .ok (.ireturn, 1) := by decide +kernel
theorem dX8_judge_13 : decode cX8_judge 13 = .ok (.aload_n 0, 1) := by decide +kernel
theorem dX8_judge_14 : decode cX8_judge 14 = .ok (.getfield 58, 3) := by decide +kernel
theorem dX8_judge_17 : decode cX8_judge 17 = .ok (.iload_n 1, 1) := by decide +kernel
theorem dX8_judge_18 : decode cX8_judge 18 = .ok (.aaload, 1) := by decide +kernel
theorem dX8_judge_19 : decode cX8_judge 19 = .ok (.invokevirtual 241, 3) := by decide +kernel
theorem dX8_judge_22 : decode cX8_judge 22 = .ok (.ifCond .eq 9, 3) := by decide +kernel
theorem dX8_judge_25 : decode cX8_judge 25 = .ok (.aload_n 0, 1) := by decide +kernel
theorem dX8_judge_26 : decode cX8_judge 26 = .ok (.iconst 2, 1) := by decide +kernel
theorem dX8_judge_27 : decode cX8_judge 27 = .ok (.invokevirtual 75, 3) := by decide +kernel
theorem dX8_judge_30 : decode cX8_judge 30 = .ok (.ireturn, 1) := by decide +kernel
theorem dX8_judge_31 : decode cX8_judge 31 = .ok (.aload_n 0, 1) := by decide +kernel
theorem dX8_judge_32 : decode cX8_judge 32 = .ok (.getfield 58, 3) := by decide +kernel
theorem dX8_judge_35 : decode cX8_judge 35 = .ok (.iload_n 1, 1) := by decide +kernel
theorem dX8_judge_36 : decode cX8_judge 36 = .ok (.aaload, 1) := by decide +kernel
theorem dX8_judge_37 : decode cX8_judge 37 = .ok (.aload_n 0, 1) := by decide +kernel
theorem dX8_judge_38 : decode cX8_judge 38 = .ok (.getfield 10, 3) := by decide +kernel
theorem dX8_judge_41 : decode cX8_judge 41 = .ok (.getfield 79, 3) := by decide +kernel
theorem dX8_judge_44 : decode cX8_judge 44 = .ok (.invokevirtual 291, 3) := by decide +kernel
theorem dX8_judge_47 : decode cX8_judge 47 = .ok (.ireturn, 1) := by decide +kernel
theorem dX8_image_0 : decode cX8_image 0 = .ok (.aload_n 0, 1) := by decide +kernel
theorem dX8_image_1 : decode cX8_image 1 = .ok (.getfield 16, 3) := by decide +kernel
theorem dX8_image_4 : decode cX8_image 4 = .ok (.aload_n 0, 1) := by decide +kernel
theorem dX8_image_5 : decode cX8_image 5 = .ok (.getfield 10, 3) := by decide +kernel
theorem dX8_image_8 : decode cX8_image 8 = .ok (.invokevirtual 294, 3) := by decide +kernel
theorem dX8_image_11 : decode cX8_image 11 = .ok (.aload_n 0, 1) := by decide +kernel
theorem dX8_image_12 : decode cX8_image 12 = .ok (.dup, 1) := by decide +kernel
theorem dX8_image_13 : decode cX8_image 13 = .ok (.getfield 67, 3) := by decide +kernel
theorem dX8_image_16 : decode cX8_image 16 = .ok (.iconst 1, 1) := by decide +kernel
theorem dX8_image_17 : decode cX8_image 17 = .ok (.iadd, 1) := by decide +kernel
theorem dX8_image_18 : decode cX8_image 18 = .ok (.putfield 67, 3) := by decide +kernel
theorem dX8_image_21 : decode cX8_image 21 = .ok (.aload_n 0, 1) := by decide +kernel
theorem dX8_image_22 : decode cX8_image 22 = .ok (.getfield 67, 3) := by decide +kernel
theorem dX8_image_25 : decode cX8_image 25 = .ok (.ireturn, 1) := by decide +kernel
theorem dX8_restore_0 : decode cX8_restore 0 = .ok (.aload_n 0, 1) := by decide +kernel
theorem dX8_restore_1 : decode cX8_restore 1 = .ok (.getfield 67, 3) := by decide +kernel
theorem dX8_restore_4 : decode cX8_restore 4 = .ok (.ifCond .ne 9, 3) := by decide +kernel
theorem dX8_restore_7 : decode cX8_restore 7 = .ok (.aload_n 0, 1) := by decide +kernel
theorem dX8_restore_8 : decode cX8_restore 8 = .ok (.iconst 2, 1) := by decide +kernel
theorem dX8_restore_9 : decode cX8_restore 9 = .ok (.invokevirtual 75, 3) := by decide +kernel
theorem dX8_restore_12 : decode cX8_restore 12 = .ok (.ireturn, 1) := by decide +kernel
theorem dX8_restore_13 : decode cX8_restore 13 = .ok (.aload_n 0, 1) := by decide +kernel
theorem dX8_restore_14 : decode cX8_restore 14 = .ok (.getfield 10, 3) := by decide +kernel
theorem dX8_restore_17 : decode cX8_restore 17 = .ok (.aload_n 0, 1) := by decide +kernel
theorem dX8_restore_18 : decode cX8_restore 18 = .ok (.getfield 16, 3) := by decide +kernel
theorem dX8_restore_21 : decode cX8_restore 21 = .ok (.invokevirtual 294, 3) := by decide +kernel
theorem dX8_restore_24 : decode cX8_restore 24 = .ok (.aload_n 0, 1) := by decide +kernel
theorem dX8_restore_25 : decode cX8_restore 25 = .ok (.getfield 10, 3) := by decide +kernel
theorem dX8_restore_28 : decode cX8_restore 28 = .ok (.getfield 79, 3) := by decide +kernel
theorem dX8_restore_31 : decode cX8_restore 31 = .ok (.getfield 191, 3) := by decide +kernel
theorem dX8_restore_34 : decode cX8_restore 34 = .ok (.ireturn, 1) := by decide +kernel
theorem dX8_tell_0 : decode cX8_tell 0 = .ok (.aload_n 0, 1) := by decide +kernel
theorem dX8_tell_1 : decode cX8_tell 1 = .ok (.getfield 10, 3) := by decide +kernel
theorem dX8_tell_4 : decode cX8_tell 4 = .ok (.getfield 297, 3) := by decide +kernel
theorem dX8_tell_7 : decode cX8_tell 7 = .ok (.bipush 24, 2) := by decide +kernel
theorem dX8_tell_9 : decode cX8_tell 9 = .ok (.if_icmp .lt 9, 3) := by decide +kernel
theorem dX8_tell_12 : decode cX8_tell 12 = .ok (.aload_n 0, 1) := by decide +kernel
theorem dX8_tell_13 : decode cX8_tell 13 = .ok (.iconst 4, 1) := by decide +kernel
theorem dX8_tell_14 : decode cX8_tell 14 = .ok (.invokevirtual 75, 3) := by decide +kernel
theorem dX8_tell_17 : decode cX8_tell 17 = .ok (.ireturn, 1) := by decide +kernel
theorem dX8_tell_18 : decode cX8_tell 18 = .ok (.aload_n 0, 1) := by decide +kernel
theorem dX8_tell_19 : decode cX8_tell 19 = .ok (.getfield 10, 3) := by decide +kernel
theorem dX8_tell_22 : decode cX8_tell 22 = .ok (.getfield 300, 3) := by decide +kernel
theorem dX8_tell_25 : decode cX8_tell 25 = .ok (.aload_n 0, 1) := by decide +kernel
theorem dX8_tell_26 : decode cX8_tell 26 = .ok (.getfield 10, 3) := by decide +kernel
theorem dX8_tell_29 : decode cX8_tell 29 = .ok (.getfield 297, 3) := by decide +kernel
theorem dX8_tell_32 : decode cX8_tell 32 = .ok (.iload_n 1, 1) := by decide +kernel
theorem dX8_tell_33 : decode cX8_tell 33 = .ok (.iastore, 1) := by decide +kernel
theorem dX8_tell_34 : decode cX8_tell 34 = .ok (.aload_n 0, 1) := by decide +kernel
theorem dX8_tell_35 : decode cX8_tell 35 = .ok (.getfield 10, 3) := by decide +kernel
theorem dX8_tell_38 : decode cX8_tell 38 = .ok (.dup, 1) := by decide +kernel
theorem dX8_tell_39 : decode cX8_tell 39 = .ok (.getfield 297, 3) := by decide +kernel
theorem dX8_tell_42 : decode cX8_tell 42 = .ok (.iconst 1, 1) := by decide +kernel
theorem dX8_tell_43 : decode cX8_tell 43 = .ok (.iadd, 1) := by decide +kernel
theorem dX8_tell_44 : decode cX8_tell 44 = .ok (.putfield 297, 3) := by decide +kernel
theorem dX8_tell_47 : decode cX8_tell 47 = .ok (.aload_n 0, 1) := by decide +kernel
theorem dX8_tell_48 : decode cX8_tell 48 = .ok (.getfield 10, 3) := by decide +kernel
theorem dX8_tell_51 : decode cX8_tell 51 = .ok (.getfield 297, 3) := by decide +kernel
theorem dX8_tell_54 : decode cX8_tell 54 = .ok (.ireturn, 1) := by decide +kernel
theorem dX8_check_0 : decode cX8_check 0 = .ok (.aload_n 0, 1) := by decide +kernel
theorem dX8_check_1 : decode cX8_check 1 = .ok (.getfield 10, 3) := by decide +kernel
theorem dX8_check_4 : decode cX8_check 4 = .ok (.invokevirtual 303, 3) := by decide +kernel
theorem dX8_check_7 : decode cX8_check 7 = .ok (.istore_n 1, 1) := by decide +kernel
theorem dX8_check_8 : decode cX8_check 8 = .ok (.aload_n 0, 1) := by decide +kernel
theorem dX8_check_9 : decode cX8_check 9 = .ok (.getfield 10, 3) := by decide +kernel
theorem dX8_check_12 : decode cX8_check 12 = .ok (.iconst 0, 1) := by decide +kernel
theorem dX8_check_13 : decode cX8_check 13 = .ok (.putfield 297, 3) := by decide +kernel
theorem dX8_check_16 : decode cX8_check 16 = .ok (.iload_n 1, 1) := by decide +kernel
theorem dX8_check_17 : decode cX8_check 17 = .ok (.iconst 1, 1) := by decide +kernel
theorem dX8_check_18 : decode cX8_check 18 = .ok (.iadd, 1) := by decide +kernel
theorem dX8_check_19 : decode cX8_check 19 = .ok (.ireturn, 1) := by decide +kernel
theorem dX8_count_0 : decode cX8_count 0 = .ok (.aload_n 0, 1) := by decide +kernel
theorem dX8_count_1 : decode cX8_count 1 = .ok (.getfield 10, 3) := by decide +kernel
theorem dX8_count_4 : decode cX8_count 4 = .ok (.getfield 79, 3) := by decide +kernel
theorem dX8_count_7 : decode cX8_count 7 = .ok (.astore_n 2, 1) := by decide +kernel
theorem dX8_count_8 : decode cX8_count 8 = .ok (.iload_n 1, 1) := by decide +kernel
theorem dX8_count_9 : decode cX8_count 9 = .ok (.tableswitch 120 0 9 #[55, 60, 65, 70, 75, 80, 85, 96, 104, 112], 55) := by decide +kernel
theorem dX8_count_64 : decode cX8_count 64 = .ok (.aload_n 2, 1) := by decide +kernel
theorem dX8_count_65 : decode cX8_count 65 = .ok (.getfield 82, 3) := by decide +kernel
theorem dX8_count_68 : decode cX8_count 68 = .ok (.ireturn, 1) := by decide +kernel
theorem dX8_count_69 : decode cX8_count 69 = .ok (.aload_n 2, 1) := by decide +kernel
theorem dX8_count_70 : decode cX8_count 70 = .ok (.getfield 114, 3) := by decide +kernel
theorem dX8_count_73 : decode cX8_count 73 = .ok (.ireturn, 1) := by decide +kernel
theorem dX8_count_74 : decode cX8_count 74 = .ok (.aload_n 2, 1) := by decide +kernel
theorem dX8_count_75 : decode cX8_count 75 = .ok (.getfield 145, 3) := by decide +kernel
theorem dX8_count_78 : decode cX8_count 78 = .ok (.ireturn, 1) := by decide +kernel
theorem dX8_count_79 : decode cX8_count 79 = .ok (.aload_n 2, 1) := by decide +kernel
theorem dX8_count_80 : decode cX8_count 80 = .ok (.getfield 191, 3) := by decide +kernel
theorem dX8_count_83 : decode cX8_count 83 = .ok (.ireturn, 1) := by decide +kernel
theorem dX8_count_84 : decode cX8_count 84 = .ok (.aload_n 2, 1) := by decide +kernel
theorem dX8_count_85 : decode cX8_count 85 = .ok (.getfield 211, 3) := by decide +kernel
theorem dX8_count_88 : decode cX8_count 88 = .ok (.ireturn, 1) := by decide +kernel
theorem dX8_count_89 : decode cX8_count 89 = .ok (.aload_n 2, 1) := by decide +kernel
theorem dX8_count_90 : decode cX8_count 90 = .ok (.invokevirtual 197, 3) := by decide +kernel
theorem dX8_count_93 : decode cX8_count 93 = .ok (.ireturn, 1) := by decide +kernel
theorem dX8_count_94 : decode cX8_count 94 = .ok (.aload_n 0, 1) := by decide +kernel
theorem dX8_count_95 : decode cX8_count 95 = .ok (.getfield 10, 3) := by decide +kernel
theorem dX8_count_98 : decode cX8_count 98 = .ok (.getfield 157, 3) := by decide +kernel
theorem dX8_count_101 : decode cX8_count 101 = .ok (.getfield 161, 3) := by decide +kernel
theorem dX8_count_104 : decode cX8_count 104 = .ok (.ireturn, 1) := by decide +kernel
theorem dX8_count_105 : decode cX8_count 105 = .ok (.aload_n 0, 1) := by decide +kernel
theorem dX8_count_106 : decode cX8_count 106 = .ok (.getfield 10, 3) := by decide +kernel
theorem dX8_count_109 : decode cX8_count 109 = .ok (.getfield 297, 3) := by decide +kernel
theorem dX8_count_112 : decode cX8_count 112 = .ok (.ireturn, 1) := by decide +kernel
theorem dX8_count_113 : decode cX8_count 113 = .ok (.aload_n 0, 1) := by decide +kernel
theorem dX8_count_114 : decode cX8_count 114 = .ok (.getfield 52, 3) := by decide +kernel
theorem dX8_count_117 : decode cX8_count 117 = .ok (.getfield 256, 3) := by decide +kernel
theorem dX8_count_120 : decode cX8_count 120 = .ok (.ireturn, 1) := by decide +kernel
theorem dX8_count_121 : decode cX8_count 121 = .ok (.aload_n 0, 1) := by decide +kernel
theorem dX8_count_122 : decode cX8_count 122 = .ok (.getfield 10, 3) := by decide +kernel
theorem dX8_count_125 : decode cX8_count 125 = .ok (.getfield 204, 3) := by decide +kernel
theorem dX8_count_128 : decode cX8_count 128 = .ok (.ireturn, 1) := by decide +kernel
theorem dX8_count_129 : decode cX8_count 129 = .ok (.aload_n 0, 1) := by decide +kernel
theorem dX8_count_130 : decode cX8_count 130 = .ok (.iconst 1, 1) := by decide +kernel
theorem dX8_count_131 : decode cX8_count 131 = .ok (.invokevirtual 75, 3) := by decide +kernel
theorem dX8_count_134 : decode cX8_count 134 = .ok (.ireturn, 1) := by decide +kernel
theorem dX8_told_0 : decode cX8_told 0 = .ok (.iload_n 1, 1) := by decide +kernel
theorem dX8_told_1 : decode cX8_told 1 = .ok (.iconst 1, 1) := by decide +kernel
theorem dX8_told_2 : decode cX8_told 2 = .ok (.if_icmp .lt 9, 3) := by decide +kernel
theorem dX8_told_5 : decode cX8_told 5 = .ok (.iload_n 1, 1) := by decide +kernel
theorem dX8_told_6 : decode cX8_told 6 = .ok (.bipush 6, 2) := by decide +kernel
theorem dX8_told_8 : decode cX8_told 8 = .ok (.if_icmp .le 9, 3) := by decide +kernel
theorem dX8_told_11 : decode cX8_told 11 = .ok (.aload_n 0, 1) := by decide +kernel
theorem dX8_told_12 : decode cX8_told 12 = .ok (.iconst 1, 1) := by decide +kernel
theorem dX8_told_13 : decode cX8_told 13 = .ok (.invokevirtual 75, 3) := by decide +kernel
theorem dX8_told_16 : decode cX8_told 16 = .ok (.ireturn, 1) := by decide +kernel
theorem dX8_told_17 : decode cX8_told 17 = .ok (.aload_n 0, 1) := by decide +kernel
theorem dX8_told_18 : decode cX8_told 18 = .ok (.getfield 63, 3) := by decide +kernel
theorem dX8_told_21 : decode cX8_told 21 = .ok (.iload_n 1, 1) := by decide +kernel
theorem dX8_told_22 : decode cX8_told 22 = .ok (.iaload, 1) := by decide +kernel
theorem dX8_told_23 : decode cX8_told 23 = .ok (.ireturn, 1) := by decide +kernel
theorem dX8_fail_0 : decode cX8_fail 0 = .ok (.iload_n 1, 1) := by decide +kernel
theorem dX8_fail_1 : decode cX8_fail 1 = .ok (.ifCond .lt 22, 3) := by decide +kernel
theorem dX8_fail_4 : decode cX8_fail 4 = .ok (.iload_n 1, 1) := by decide +kernel
theorem dX8_fail_5 : decode cX8_fail 5 = .ok (.aload_n 0, 1) := by decide +kernel
theorem dX8_fail_6 : decode cX8_fail 6 = .ok (.getfield 63, 3) := by decide +kernel
theorem dX8_fail_9 : decode cX8_fail 9 = .ok (.arraylength, 1) := by decide +kernel
theorem dX8_fail_10 : decode cX8_fail 10 = .ok (.if_icmp .ge 13, 3) := by decide +kernel
theorem dX8_fail_13 : decode cX8_fail 13 = .ok (.aload_n 0, 1) := by decide +kernel
theorem dX8_fail_14 : decode cX8_fail 14 = .ok (.getfield 63, 3) := by decide +kernel
theorem dX8_fail_17 : decode cX8_fail 17 = .ok (.iload_n 1, 1) := by decide +kernel
theorem dX8_fail_18 : decode cX8_fail 18 = .ok (.dup2, 1) := by decide +kernel
theorem dX8_fail_19 : decode cX8_fail 19 = .ok (.iaload, 1) := by decide +kernel
theorem dX8_fail_20 : decode cX8_fail 20 = .ok (.iconst 1, 1) := by decide +kernel
theorem dX8_fail_21 : decode cX8_fail 21 = .ok (.iadd, 1) := by decide +kernel
theorem dX8_fail_22 : decode cX8_fail 22 = .ok (.iastore, 1) := by decide +kernel
theorem dX8_fail_23 : decode cX8_fail 23 = .ok (.ldc_w 306, 3) := by decide +kernel
theorem dX8_fail_26 : decode cX8_fail 26 = .ok (.iload_n 1, 1) := by decide +kernel
theorem dX8_fail_27 : decode cX8_fail 27 = .ok (.isub, 1) := by decide +kernel
theorem dX8_fail_28 : decode cX8_fail 28 = .ok (.ireturn, 1) := by decide +kernel
theorem dX8_isKindAndNumber_0 : decode cX8_isKindAndNumber 0 = .ok (.iload_n 0, 1) := by decide +kernel
theorem dX8_isKindAndNumber_1 : decode cX8_isKindAndNumber 1 = .ok (.ifCond .lt 13, 3) := by decide +kernel
theorem dX8_isKindAndNumber_4 : decode cX8_isKindAndNumber 4 = .ok (.iload_n 0, 1) := by decide +kernel
theorem dX8_isKindAndNumber_5 : decode cX8_isKindAndNumber 5 = .ok (.bipush 70, 2) := by decide +kernel
theorem dX8_isKindAndNumber_7 : decode cX8_isKindAndNumber 7 = .ok (.if_icmp .ge 7, 3) := by decide +kernel
theorem dX8_isKindAndNumber_10 : decode cX8_isKindAndNumber 10 = .ok (.iconst 1, 1) := by decide +kernel
theorem dX8_isKindAndNumber_11 : decode cX8_isKindAndNumber 11 = .ok (.goto 4, 3) := by decide +kernel
theorem dX8_isKindAndNumber_14 : decode cX8_isKindAndNumber 14 = .ok (.iconst 0, 1) := by decide +kernel
theorem dX8_isKindAndNumber_15 : decode cX8_isKindAndNumber 15 = .ok (.ireturn, 1) := by decide +kernel
theorem dX8_isUnder_0 : decode cX8_isUnder 0 = .ok (.iload_n 0, 1) := by decide +kernel
theorem dX8_isUnder_1 : decode cX8_isUnder 1 = .ok (.istore_n 2, 1) := by decide +kernel
theorem dX8_isUnder_2 : decode cX8_isUnder 2 = .ok (.iconst 0, 1) := by decide +kernel
theorem dX8_isUnder_3 : decode cX8_isUnder 3 = .ok (.istore_n 3, 1) := by decide +kernel
theorem dX8_isUnder_4 : decode cX8_isUnder 4 = .ok (.iload_n 3, 1) := by decide +kernel
theorem dX8_isUnder_5 : decode cX8_isUnder 5 = .ok (.bipush 7, 2) := by decide +kernel
theorem dX8_isUnder_7 : decode cX8_isUnder 7 = .ok (.if_icmp .ge 32, 3) := by decide +kernel
theorem dX8_isUnder_10 : decode cX8_isUnder 10 = .ok (.iload_n 2, 1) := by decide +kernel
theorem dX8_isUnder_11 : decode cX8_isUnder 11 = .ok (.ifCond .lt 28, 3) := by decide +kernel
theorem dX8_isUnder_14 : decode cX8_isUnder 14 = .ok (.iload_n 2, 1) := by decide +kernel
theorem dX8_isUnder_15 : decode cX8_isUnder 15 = .ok (.bipush 7, 2) := by decide +kernel
theorem dX8_isUnder_17 : decode cX8_isUnder 17 = .ok (.if_icmp .ge 22, 3) := by decide +kernel
theorem dX8_isUnder_20 : decode cX8_isUnder 20 = .ok (.iload_n 2, 1) := by decide +kernel
theorem dX8_isUnder_21 : decode cX8_isUnder 21 = .ok (.iload_n 1, 1) := by decide +kernel
theorem dX8_isUnder_22 : decode cX8_isUnder 22 = .ok (.if_icmp .ne 5, 3) := by decide +kernel
theorem dX8_isUnder_25 : decode cX8_isUnder 25 = .ok (.iconst 1, 1) := by decide +kernel
theorem dX8_isUnder_26 : decode cX8_isUnder 26 = .ok (.ireturn, 1) := by decide +kernel
theorem dX8_isUnder_27 : decode cX8_isUnder 27 = .ok (.getstatic 307, 3) := by decide +kernel
theorem dX8_isUnder_30 : decode cX8_isUnder 30 = .ok (.iload_n 2, 1) := by decide +kernel
theorem dX8_isUnder_31 : decode cX8_isUnder 31 = .ok (.iaload, 1) := by decide +kernel
theorem dX8_isUnder_32 : decode cX8_isUnder 32 = .ok (.istore_n 2, 1) := by decide +kernel
theorem dX8_isUnder_33 : decode cX8_isUnder 33 = .ok (.iinc 3 1, 3) := by decide +kernel
theorem dX8_isUnder_36 : decode cX8_isUnder 36 = .ok (.goto (-32), 3) := by decide +kernel
theorem dX8_isUnder_39 : decode cX8_isUnder 39 = .ok (.iconst 0, 1) := by decide +kernel
theorem dX8_isUnder_40 : decode cX8_isUnder 40 = .ok (.ireturn, 1) := by decide +kernel
theorem dX8_isField_0 : decode cX8_isField 0 = .ok (.iload_n 0, 1) := by decide +kernel
theorem dX8_isField_1 : decode cX8_isField 1 = .ok (.ifCond .lt 13, 3) := by decide +kernel
theorem dX8_isField_4 : decode cX8_isField 4 = .ok (.iload_n 0, 1) := by decide +kernel
theorem dX8_isField_5 : decode cX8_isField 5 = .ok (.bipush 7, 2) := by decide +kernel
theorem dX8_isField_7 : decode cX8_isField 7 = .ok (.if_icmp .ge 7, 3) := by decide +kernel
theorem dX8_isField_10 : decode cX8_isField 10 = .ok (.iconst 1, 1) := by decide +kernel
theorem dX8_isField_11 : decode cX8_isField 11 = .ok (.goto 4, 3) := by decide +kernel
theorem dX8_isField_14 : decode cX8_isField 14 = .ok (.iconst 0, 1) := by decide +kernel
theorem dX8_isField_15 : decode cX8_isField 15 = .ok (.ireturn, 1) := by decide +kernel
theorem dX8_areTwoFields_0 : decode cX8_areTwoFields 0 = .ok (.iload_n 0, 1) := by decide +kernel
theorem dX8_areTwoFields_1 : decode cX8_areTwoFields 1 = .ok (.invokestatic 142, 3) := by decide +kernel
theorem dX8_areTwoFields_4 : decode cX8_areTwoFields 4 = .ok (.ifCond .eq 19, 3) := by decide +kernel
theorem dX8_areTwoFields_7 : decode cX8_areTwoFields 7 = .ok (.iload_n 1, 1) := by decide +kernel
theorem dX8_areTwoFields_8 : decode cX8_areTwoFields 8 = .ok (.invokestatic 142, 3) := by decide +kernel
theorem dX8_areTwoFields_11 : decode cX8_areTwoFields 11 = .ok (.ifCond .eq 12, 3) := by decide +kernel
theorem dX8_areTwoFields_14 : decode cX8_areTwoFields 14 = .ok (.iload_n 0, 1) := by decide +kernel
theorem dX8_areTwoFields_15 : decode cX8_areTwoFields 15 = .ok (.iload_n 1, 1) := by decide +kernel
theorem dX8_areTwoFields_16 : decode cX8_areTwoFields 16 = .ok (.if_icmp .eq 7, 3) := by decide +kernel
theorem dX8_areTwoFields_19 : decode cX8_areTwoFields 19 = .ok (.iconst 1, 1) := by decide +kernel
theorem dX8_areTwoFields_20 : decode cX8_areTwoFields 20 = .ok (.goto 4, 3) := by decide +kernel
theorem dX8_areTwoFields_23 : decode cX8_areTwoFields 23 = .ok (.iconst 0, 1) := by decide +kernel
theorem dX8_areTwoFields_24 : decode cX8_areTwoFields 24 = .ok (.ireturn, 1) := by decide +kernel
theorem dX8_isUse_0 : decode cX8_isUse 0 = .ok (.iload_n 0, 1) := by decide +kernel
theorem dX8_isUse_1 : decode cX8_isUse 1 = .ok (.ifCond .lt 12, 3) := by decide +kernel
theorem dX8_isUse_4 : decode cX8_isUse 4 = .ok (.iload_n 0, 1) := by decide +kernel
theorem dX8_isUse_5 : decode cX8_isUse 5 = .ok (.iconst 2, 1) := by decide +kernel
theorem dX8_isUse_6 : decode cX8_isUse 6 = .ok (.if_icmp .ge 7, 3) := by decide +kernel
theorem dX8_isUse_9 : decode cX8_isUse 9 = .ok (.iconst 1, 1) := by decide +kernel
theorem dX8_isUse_10 : decode cX8_isUse 10 = .ok (.goto 4, 3) := by decide +kernel
theorem dX8_isUse_13 : decode cX8_isUse 13 = .ok (.iconst 0, 1) := by decide +kernel
theorem dX8_isUse_14 : decode cX8_isUse 14 = .ok (.ireturn, 1) := by decide +kernel
theorem dX8_isSheet_0 : decode cX8_isSheet 0 = .ok (.iload_n 0, 1) := by decide +kernel
theorem dX8_isSheet_1 : decode cX8_isSheet 1 = .ok (.ifCond .lt 12, 3) := by decide +kernel
theorem dX8_isSheet_4 : decode cX8_isSheet 4 = .ok (.iload_n 0, 1) := by decide +kernel
theorem dX8_isSheet_5 : decode cX8_isSheet 5 = .ok (.iconst 4, 1) := by decide +kernel
theorem dX8_isSheet_6 : decode cX8_isSheet 6 = .ok (.if_icmp .ge 7, 3) := by decide +kernel
theorem dX8_isSheet_9 : decode cX8_isSheet 9 = .ok (.iconst 1, 1) := by decide +kernel
theorem dX8_isSheet_10 : decode cX8_isSheet 10 = .ok (.goto 4, 3) := by decide +kernel
theorem dX8_isSheet_13 : decode cX8_isSheet 13 = .ok (.iconst 0, 1) := by decide +kernel
theorem dX8_isSheet_14 : decode cX8_isSheet 14 = .ok (.ireturn, 1) := by decide +kernel
theorem dX8_isWidth_0 : decode cX8_isWidth 0 = .ok (.iload_n 0, 1) := by decide +kernel
theorem dX8_isWidth_1 : decode cX8_isWidth 1 = .ok (.ifCond .eq 21, 3) := by decide +kernel
theorem dX8_isWidth_4 : decode cX8_isWidth 4 = .ok (.iload_n 0, 1) := by decide +kernel
theorem dX8_isWidth_5 : decode cX8_isWidth 5 = .ok (.bipush 8, 2) := by decide +kernel
theorem dX8_isWidth_7 : decode cX8_isWidth 7 = .ok (.if_icmp .eq 15, 3) := by decide +kernel
theorem dX8_isWidth_10 : decode cX8_isWidth 10 = .ok (.iload_n 0, 1) := by decide +kernel
theorem dX8_isWidth_11 : decode cX8_isWidth 11 = .ok (.bipush 16, 2) := by decide +kernel
theorem dX8_isWidth_13 : decode cX8_isWidth 13 = .ok (.if_icmp .eq 9, 3) := by decide +kernel
theorem dX8_isWidth_16 : decode cX8_isWidth 16 = .ok (.iload_n 0, 1) := by decide +kernel
theorem dX8_isWidth_17 : decode cX8_isWidth 17 = .ok (.bipush 32, 2) := by decide +kernel
theorem dX8_isWidth_19 : decode cX8_isWidth 19 = .ok (.if_icmp .ne 7, 3) := by decide +kernel
theorem dX8_isWidth_22 : decode cX8_isWidth 22 = .ok (.iconst 1, 1) := by decide +kernel
theorem dX8_isWidth_23 : decode cX8_isWidth 23 = .ok (.goto 4, 3) := by decide +kernel
theorem dX8_isWidth_26 : decode cX8_isWidth 26 = .ok (.iconst 0, 1) := by decide +kernel
theorem dX8_isWidth_27 : decode cX8_isWidth 27 = .ok (.ireturn, 1) := by decide +kernel
theorem dX8_commonDivisor_0 : decode cX8_commonDivisor 0 = .ok (.iload_n 1, 1) := by decide +kernel
theorem dX8_commonDivisor_1 : decode cX8_commonDivisor 1 = .ok (.istore_n 2, 1) := by decide +kernel
theorem dX8_commonDivisor_2 : decode cX8_commonDivisor 2 = .ok (.iload_n 2, 1) := by decide +kernel
theorem dX8_commonDivisor_3 : decode cX8_commonDivisor 3 = .ok (.iconst 1, 1) := by decide +kernel
theorem dX8_commonDivisor_4 : decode cX8_commonDivisor 4 = .ok (.if_icmp .le 23, 3) := by decide +kernel
theorem dX8_commonDivisor_7 : decode cX8_commonDivisor 7 = .ok (.iload_n 0, 1) := by decide +kernel
theorem dX8_commonDivisor_8 : decode cX8_commonDivisor 8 = .ok (.iload_n 2, 1) := by decide +kernel
theorem dX8_commonDivisor_9 : decode cX8_commonDivisor 9 = .ok (.irem, 1) := by decide +kernel
theorem dX8_commonDivisor_10 : decode cX8_commonDivisor 10 = .ok (.ifCond .ne 11, 3) := by decide +kernel
theorem dX8_commonDivisor_13 : decode cX8_commonDivisor 13 = .ok (.iload_n 1, 1) := by decide +kernel
theorem dX8_commonDivisor_14 : decode cX8_commonDivisor 14 = .ok (.iload_n 2, 1) := by decide +kernel
theorem dX8_commonDivisor_15 : decode cX8_commonDivisor 15 = .ok (.irem, 1) := by decide +kernel
theorem dX8_commonDivisor_16 : decode cX8_commonDivisor 16 = .ok (.ifCond .ne 5, 3) := by decide +kernel
theorem dX8_commonDivisor_19 : decode cX8_commonDivisor 19 = .ok (.iload_n 2, 1) := by decide +kernel
theorem dX8_commonDivisor_20 : decode cX8_commonDivisor 20 = .ok (.ireturn, 1) := by decide +kernel
theorem dX8_commonDivisor_21 : decode cX8_commonDivisor 21 = .ok (.iinc 2 (-1), 3) := by decide +kernel
theorem dX8_commonDivisor_24 : decode cX8_commonDivisor 24 = .ok (.goto (-22), 3) := by decide +kernel
theorem dX8_commonDivisor_27 : decode cX8_commonDivisor 27 = .ok (.iconst 1, 1) := by decide +kernel
theorem dX8_commonDivisor_28 : decode cX8_commonDivisor 28 = .ok (.ireturn, 1) := by decide +kernel
theorem dX9_init_0 : decode cX9_init 0 = .ok (.aload_n 0, 1) := by decide +kernel
theorem dX9_init_1 : decode cX9_init 1 = .ok (.invokespecial 3, 3) := by decide +kernel
theorem dX9_init_4 : decode cX9_init 4 = .ok (.aload_n 0, 1) := by decide +kernel
theorem dX9_init_5 : decode cX9_init 5 = .ok (.sipush 395, 3) := by decide +kernel
theorem dX9_init_8 : decode cX9_init 8 = .ok (.newarray .int, 2) := by decide +kernel
theorem dX9_init_10 : decode cX9_init 10 = .ok (.putfield 9, 3) := by decide +kernel
theorem dX9_init_13 : decode cX9_init 13 = .ok (.aload_n 0, 1) := by decide +kernel
theorem dX9_init_14 : decode cX9_init 14 = .ok (.sipush 395, 3) := by decide +kernel
theorem dX9_init_17 : decode cX9_init 17 = .ok (.newarray .int, 2) := by decide +kernel
theorem dX9_init_19 : decode cX9_init 19 = .ok (.putfield 13, 3) := by decide +kernel
theorem dX9_init_22 : decode cX9_init 22 = .ok (.aload_n 0, 1) := by decide +kernel
theorem dX9_init_23 : decode cX9_init 23 = .ok (.sipush 395, 3) := by decide +kernel
theorem dX9_init_26 : decode cX9_init 26 = .ok (.newarray .int, 2) := by decide +kernel
theorem dX9_init_28 : decode cX9_init 28 = .ok (.putfield 16, 3) := by decide +kernel
theorem dX9_init_31 : decode cX9_init 31 = .ok (.aload_n 0, 1) := by decide +kernel
theorem dX9_init_32 : decode cX9_init 32 = .ok (.bipush 7, 2) := by decide +kernel
theorem dX9_init_34 : decode cX9_init 34 = .ok (.newarray .int, 2) := by decide +kernel
theorem dX9_init_36 : decode cX9_init 36 = .ok (.putfield 19, 3) := by decide +kernel
theorem dX9_init_39 : decode cX9_init 39 = .ok (.aload_n 0, 1) := by decide +kernel
theorem dX9_init_40 : decode cX9_init 40 = .ok (.iconst 4, 1) := by decide +kernel
theorem dX9_init_41 : decode cX9_init 41 = .ok (.newarray .int, 2) := by decide +kernel
theorem dX9_init_43 : decode cX9_init 43 = .ok (.putfield 22, 3) := by decide +kernel
theorem dX9_init_46 : decode cX9_init 46 = .ok (.aload_n 0, 1) := by decide +kernel
theorem dX9_init_47 : decode cX9_init 47 = .ok (.iconst 4, 1) := by decide +kernel
theorem dX9_init_48 : decode cX9_init 48 = .ok (.newarray .int, 2) := by decide +kernel
theorem dX9_init_50 : decode cX9_init 50 = .ok (.putfield 25, 3) := by decide +kernel
theorem dX9_init_53 : decode cX9_init 53 = .ok (.aload_n 0, 1) := by decide +kernel
theorem dX9_init_54 : decode cX9_init 54 = .ok (.bipush 96, 2) := by decide +kernel
theorem dX9_init_56 : decode cX9_init 56 = .ok (.newarray .int, 2) := by decide +kernel
theorem dX9_init_58 : decode cX9_init 58 = .ok (.putfield 28, 3) := by decide +kernel
theorem dX9_init_61 : decode cX9_init 61 = .ok (.aload_n 0, 1) := by decide +kernel
theorem dX9_init_62 : decode cX9_init 62 = .ok (.bipush 60, 2) := by decide +kernel
theorem dX9_init_64 : decode cX9_init 64 = .ok (.newarray .int, 2) := by decide +kernel
theorem dX9_init_66 : decode cX9_init 66 = .ok (.putfield 31, 3) := by decide +kernel
theorem dX9_init_69 : decode cX9_init 69 = .ok (.aload_n 0, 1) := by decide +kernel
theorem dX9_init_70 : decode cX9_init 70 = .ok (.bipush 60, 2) := by decide +kernel
theorem dX9_init_72 : decode cX9_init 72 = .ok (.newarray .int, 2) := by decide +kernel
theorem dX9_init_74 : decode cX9_init 74 = .ok (.putfield 34, 3) := by decide +kernel
theorem dX9_init_77 : decode cX9_init 77 = .ok (.aload_n 0, 1) := by decide +kernel
theorem dX9_init_78 : decode cX9_init 78 = .ok (.iconst 3, 1) := by decide +kernel
theorem dX9_init_79 : decode cX9_init 79 = .ok (.newarray .int, 2) := by decide +kernel
theorem dX9_init_81 : decode cX9_init 81 = .ok (.putfield 37, 3) := by decide +kernel
theorem dX9_init_84 : decode cX9_init 84 = .ok (.aload_n 0, 1) := by decide +kernel
theorem dX9_init_85 : decode cX9_init 85 = .ok (.bipush 60, 2) := by decide +kernel
theorem dX9_init_87 : decode cX9_init 87 = .ok (.newarray .int, 2) := by decide +kernel
theorem dX9_init_89 : decode cX9_init 89 = .ok (.putfield 40, 3) := by decide +kernel
theorem dX9_init_92 : decode cX9_init 92 = .ok (.aload_n 0, 1) := by decide +kernel
theorem dX9_init_93 : decode cX9_init 93 = .ok (.sipush 512, 3) := by decide +kernel
theorem dX9_init_96 : decode cX9_init 96 = .ok (.newarray .int, 2) := by decide +kernel
theorem dX9_init_98 : decode cX9_init 98 = .ok (.putfield 43, 3) := by decide +kernel
theorem dX9_init_101 : decode cX9_init 101 = .ok (.aload_n 0, 1) := by decide +kernel
theorem dX9_init_102 : decode cX9_init 102 = .ok (.sipush 512, 3) := by decide +kernel
theorem dX9_init_105 : decode cX9_init 105 = .ok (.newarray .int, 2) := by decide +kernel
theorem dX9_init_107 : decode cX9_init 107 = .ok (.putfield 46, 3) := by decide +kernel
theorem dX9_init_110 : decode cX9_init 110 = .ok (.aload_n 0, 1) := by decide +kernel
theorem dX9_init_111 : decode cX9_init 111 = .ok (.sipush 512, 3) := by decide +kernel
theorem dX9_init_114 : decode cX9_init 114 = .ok (.newarray .int, 2) := by decide +kernel
theorem dX9_init_116 : decode cX9_init 116 = .ok (.putfield 49, 3) := by decide +kernel
theorem dX9_init_119 : decode cX9_init 119 = .ok (.aload_n 0, 1) := by decide +kernel
theorem dX9_init_120 : decode cX9_init 120 = .ok (.bipush 30, 2) := by decide +kernel
theorem dX9_init_122 : decode cX9_init 122 = .ok (.newarray .int, 2) := by decide +kernel
theorem dX9_init_124 : decode cX9_init 124 = .ok (.putfield 52, 3) := by decide +kernel
theorem dX9_init_127 : decode cX9_init 127 = .ok (.aload_n 0, 1) := by decide +kernel
theorem dX9_init_128 : decode cX9_init 128 = .ok (.getfield 9, 3) := by decide +kernel
theorem dX9_init_131 : decode cX9_init 131 = .ok (.iconst 1, 1) := by decide +kernel
theorem dX9_init_132 : decode cX9_init 132 = .ok (.iconst 1, 1) := by decide +kernel
theorem dX9_init_133 : decode cX9_init 133 = .ok (.iastore, 1) := by decide +kernel
theorem dX9_init_134 : decode cX9_init 134 = .ok (.iconst 0, 1) := by decide +kernel
theorem dX9_init_135 : decode cX9_init 135 = .ok (.istore_n 1, 1) := by decide +kernel
theorem dX9_init_136 : decode cX9_init 136 = .ok (.iload_n 1, 1) := by decide +kernel
theorem dX9_init_137 : decode cX9_init 137 = .ok (.bipush 7, 2) := by decide +kernel
theorem dX9_init_139 : decode cX9_init 139 = .ok (.if_icmp .ge 20, 3) := by decide +kernel
theorem dX9_init_142 : decode cX9_init 142 = .ok (.aload_n 0, 1) := by decide +kernel
theorem dX9_init_143 : decode cX9_init 143 = .ok (.getfield 9, 3) := by decide +kernel
theorem dX9_init_146 : decode cX9_init 146 = .ok (.bipush 8, 2) := by decide +kernel
theorem dX9_init_148 : decode cX9_init 148 = .ok (.iload_n 1, 1) := by decide +kernel
theorem dX9_init_149 : decode cX9_init 149 = .ok (.iadd, 1) := by decide +kernel
theorem dX9_init_150 : decode cX9_init 150 = .ok (.bipush 20, 2) := by decide +kernel
theorem dX9_init_152 : decode cX9_init 152 = .ok (.iastore, 1) := by decide +kernel
theorem dX9_init_153 : decode cX9_init 153 = .ok (.iinc 1 1, 3) := by decide +kernel
theorem dX9_init_156 : decode cX9_init 156 = .ok (.goto (-20), 3) := by decide +kernel
theorem dX9_init_159 : decode cX9_init 159 = .ok (.return_, 1) := by decide +kernel
theorem dX9_error_0 : decode cX9_error 0 = .ok (.aload_n 0, 1) := by decide +kernel
theorem dX9_error_1 : decode cX9_error 1 = .ok (.getfield 19, 3) := by decide +kernel
theorem dX9_error_4 : decode cX9_error 4 = .ok (.ldc 55, 2) := by decide +kernel
theorem dX9_error_6 : decode cX9_error 6 = .ok (.iload_n 1, 1) := by decide +kernel
theorem dX9_error_7 : decode cX9_error 7 = .ok (.isub, 1) := by decide +kernel
theorem dX9_error_8 : decode cX9_error 8 = .ok (.dup2, 1) := by decide +kernel
theorem dX9_error_9 : decode cX9_error 9 = .ok (.iaload, 1) := by decide +kernel
theorem dX9_error_10 : decode cX9_error 10 = .ok (.iconst 1, 1) := by decide +kernel
theorem dX9_error_11 : decode cX9_error 11 = .ok (.iadd, 1) := by decide +kernel
theorem dX9_error_12 : decode cX9_error 12 = .ok (.iastore, 1) := by decide +kernel
theorem dX9_error_13 : decode cX9_error 13 = .ok (.iload_n 1, 1) := by decide +kernel
theorem dX9_error_14 : decode cX9_error 14 = .ok (.ireturn, 1) := by decide +kernel
theorem dX9_in_0 : decode cX9_in 0 = .ok (.iload_n 0, 1) := by decide +kernel
theorem dX9_in_1 : decode cX9_in 1 = .ok (.iload_n 1, 1) := by decide +kernel
theorem dX9_in_2 : decode cX9_in 2 = .ok (.if_icmp .lt 12, 3) := by decide +kernel
theorem dX9_in_5 : decode cX9_in 5 = .ok (.iload_n 0, 1) := by decide +kernel
theorem dX9_in_6 : decode cX9_in 6 = .ok (.iload_n 2, 1) := by decide +kernel
theorem dX9_in_7 : decode cX9_in 7 = .ok (.if_icmp .gt 7, 3) := by decide +kernel
theorem dX9_in_10 : decode cX9_in 10 = .ok (.iconst 1, 1) := by decide +kernel
theorem dX9_in_11 : decode cX9_in 11 = .ok (.goto 4, 3) := by decide +kernel
theorem dX9_in_14 : decode cX9_in 14 = .ok (.iconst 0, 1) := by decide +kernel
theorem dX9_in_15 : decode cX9_in 15 = .ok (.ireturn, 1) := by decide +kernel
theorem dX9_held_0 : decode cX9_held 0 = .ok (.iload_n 0, 1) := by decide +kernel
theorem dX9_held_1 : decode cX9_held 1 = .ok (.iload_n 1, 1) := by decide +kernel
theorem dX9_held_2 : decode cX9_held 2 = .ok (.if_icmp .ge 7, 3) := by decide +kernel
theorem dX9_held_5 : decode cX9_held 5 = .ok (.iload_n 1, 1) := by decide +kernel
theorem dX9_held_6 : decode cX9_held 6 = .ok (.goto 13, 3) := by decide +kernel
theorem dX9_held_9 : decode cX9_held 9 = .ok (.iload_n 0, 1) := by decide +kernel
theorem dX9_held_10 : decode cX9_held 10 = .ok (.iload_n 2, 1) := by decide +kernel
theorem dX9_held_11 : decode cX9_held 11 = .ok (.if_icmp .le 7, 3) := by decide +kernel
theorem dX9_held_14 : decode cX9_held 14 = .ok (.iload_n 2, 1) := by decide +kernel
theorem dX9_held_15 : decode cX9_held 15 = .ok (.goto 4, 3) := by decide +kernel
theorem dX9_held_18 : decode cX9_held 18 = .ok (.iload_n 0, 1) := by decide +kernel
theorem dX9_held_19 : decode cX9_held 19 = .ok (.ireturn, 1) := by decide +kernel
theorem dX9_copyAll_0 : decode cX9_copyAll 0 = .ok (.iconst 0, 1) := by decide +kernel
theorem dX9_copyAll_1 : decode cX9_copyAll 1 = .ok (.istore_n 2, 1) := by decide +kernel
theorem dX9_copyAll_2 : decode cX9_copyAll 2 = .ok (.iload_n 2, 1) := by decide +kernel
theorem dX9_copyAll_3 : decode cX9_copyAll 3 = .ok (.sipush 395, 3) := by decide +kernel
theorem dX9_copyAll_6 : decode cX9_copyAll 6 = .ok (.if_icmp .ge 15, 3) := by decide +kernel
theorem dX9_copyAll_9 : decode cX9_copyAll 9 = .ok (.aload_n 1, 1) := by decide +kernel
theorem dX9_copyAll_10 : decode cX9_copyAll 10 = .ok (.iload_n 2, 1) := by decide +kernel
theorem dX9_copyAll_11 : decode cX9_copyAll 11 = .ok (.aload_n 0, 1) := by decide +kernel
theorem dX9_copyAll_12 : decode cX9_copyAll 12 = .ok (.iload_n 2, 1) := by decide +kernel
theorem dX9_copyAll_13 : decode cX9_copyAll 13 = .ok (.iaload, 1) := by decide +kernel
theorem dX9_copyAll_14 : decode cX9_copyAll 14 = .ok (.iastore, 1) := by decide +kernel
theorem dX9_copyAll_15 : decode cX9_copyAll 15 = .ok (.iinc 2 1, 3) := by decide +kernel
theorem dX9_copyAll_18 : decode cX9_copyAll 18 = .ok (.goto (-16), 3) := by decide +kernel
theorem dX9_copyAll_21 : decode cX9_copyAll 21 = .ok (.return_, 1) := by decide +kernel
theorem dX9_thinks_0 : decode cX9_thinks 0 = .ok (.aload_n 0, 1) := by decide +kernel
theorem dX9_thinks_1 : decode cX9_thinks 1 = .ok (.getfield 9, 3) := by decide +kernel
theorem dX9_thinks_4 : decode cX9_thinks 4 = .ok (.aload_n 0, 1) := by decide +kernel
theorem dX9_thinks_5 : decode cX9_thinks 5 = .ok (.getfield 16, 3) := by decide +kernel
theorem dX9_thinks_8 : decode cX9_thinks 8 = .ok (.invokestatic 56, 3) := by decide +kernel
theorem dX9_thinks_11 : decode cX9_thinks 11 = .ok (.return_, 1) := by decide +kernel
theorem dX9_putsBack_0 : decode cX9_putsBack 0 = .ok (.aload_n 0, 1) := by decide +kernel
theorem dX9_putsBack_1 : decode cX9_putsBack 1 = .ok (.getfield 16, 3) := by decide +kernel
theorem dX9_putsBack_4 : decode cX9_putsBack 4 = .ok (.aload_n 0, 1) := by decide +kernel
theorem dX9_putsBack_5 : decode cX9_putsBack 5 = .ok (.getfield 9, 3) := by decide +kernel
theorem dX9_putsBack_8 : decode cX9_putsBack 8 = .ok (.invokestatic 56, 3) := by decide +kernel
theorem dX9_putsBack_11 : decode cX9_putsBack 11 = .ok (.return_, 1) := by decide +kernel
theorem dX9_bits_0 : decode cX9_bits 0 = .ok (.iconst 0, 1) := by decide +kernel
theorem dX9_bits_1 : decode cX9_bits 1 = .ok (.istore_n 1, 1) := by decide +kernel
theorem dX9_bits_2 : decode cX9_bits 2 = .ok (.iload_n 0, 1) := by decide +kernel
theorem dX9_bits_3 : decode cX9_bits 3 = .ok (.istore_n 2, 1) := by decide +kernel
theorem dX9_bits_4 : decode cX9_bits 4 = .ok (.iload_n 2, 1) := by decide +kernel
theorem dX9_bits_5 : decode cX9_bits 5 = .ok (.ifCond .eq 15, 3) := by decide +kernel
theorem dX9_bits_8 : decode cX9_bits 8 = .ok (.iinc 1 1, 3) := by decide +kernel
theorem dX9_bits_11 : decode cX9_bits 11 = .ok (.iload_n 2, 1) := by decide +kernel
theorem dX9_bits_12 : decode cX9_bits 12 = .ok (.iload_n 2, 1) := by decide +kernel
theorem dX9_bits_13 : decode cX9_bits 13 = .ok (.iconst 1, 1) := by decide +kernel
theorem dX9_bits_14 : decode cX9_bits 14 = .ok (.isub, 1) := by decide +kernel
theorem dX9_bits_15 : decode cX9_bits 15 = .ok (.iand, 1) := by decide +kernel
theorem dX9_bits_16 : decode cX9_bits 16 = .ok (.istore_n 2, 1) := by decide +kernel
theorem dX9_bits_17 : decode cX9_bits 17 = .ok (.goto (-13), 3) := by decide +kernel
theorem dX9_bits_20 : decode cX9_bits 20 = .ok (.iload_n 1, 1) := by decide +kernel
theorem dX9_bits_21 : decode cX9_bits 21 = .ok (.ireturn, 1) := by decide +kernel
theorem dX9_isPerson_0 : decode cX9_isPerson 0 = .ok (.iload_n 1, 1) := by decide +kernel
theorem dX9_isPerson_1 : decode cX9_isPerson 1 = .ok (.iconst 0, 1) := by decide +kernel
theorem dX9_isPerson_2 : decode cX9_isPerson 2 = .ok (.aload_n 0, 1) := by decide +kernel
theorem dX9_isPerson_3 : decode cX9_isPerson 3 = .ok (.getfield 9, 3) := by decide +kernel
theorem dX9_isPerson_6 : decode cX9_isPerson 6 = .ok (.iconst 2, 1) := by decide +kernel
theorem dX9_isPerson_7 : decode cX9_isPerson 7 = .ok (.iaload, 1) := by decide +kernel
theorem dX9_isPerson_8 : decode cX9_isPerson 8 = .ok (.iconst 1, 1) := by decide +kernel
theorem dX9_isPerson_9 : decode cX9_isPerson 9 = .ok (.isub, 1) := by decide +kernel
theorem dX9_isPerson_10 : decode cX9_isPerson 10 = .ok (.invokestatic 60, 3) := by decide +kernel
theorem dX9_isPerson_13 : decode cX9_isPerson 13 = .ok (.ireturn, 1) := by decide +kernel
theorem dX9_isGate_0 : decode cX9_isGate 0 = .ok (.iload_n 1, 1) := by decide +kernel
theorem dX9_isGate_1 : decode cX9_isGate 1 = .ok (.iconst 0, 1) := by decide +kernel
theorem dX9_isGate_2 : decode cX9_isGate 2 = .ok (.aload_n 0, 1) := by decide +kernel
theorem dX9_isGate_3 : decode cX9_isGate 3 = .ok (.getfield 9, 3) := by decide +kernel
theorem dX9_isGate_6 : decode cX9_isGate 6 = .ok (.iconst 3, 1) := by decide +kernel
theorem dX9_isGate_7 : decode cX9_isGate 7 = .ok (.iaload, 1) := by decide +kernel
theorem dX9_isGate_8 : decode cX9_isGate 8 = .ok (.iconst 1, 1) := by decide +kernel
theorem dX9_isGate_9 : decode cX9_isGate 9 = .ok (.isub, 1) := by decide +kernel
theorem dX9_isGate_10 : decode cX9_isGate 10 = .ok (.invokestatic 60, 3) := by decide +kernel
theorem dX9_isGate_13 : decode cX9_isGate 13 = .ok (.ireturn, 1) := by decide +kernel
theorem dX9_isField_0 : decode cX9_isField 0 = .ok (.iload_n 0, 1) := by decide +kernel
theorem dX9_isField_1 : decode cX9_isField 1 = .ok (.iconst 0, 1) := by decide +kernel
theorem dX9_isField_2 : decode cX9_isField 2 = .ok (.bipush 6, 2) := by decide +kernel
theorem dX9_isField_4 : decode cX9_isField 4 = .ok (.invokestatic 60, 3) := by decide +kernel
theorem dX9_isField_7 : decode cX9_isField 7 = .ok (.ireturn, 1) := by decide +kernel
theorem dX9_areTwo_0 : decode cX9_areTwo 0 = .ok (.iload_n 0, 1) := by decide +kernel
theorem dX9_areTwo_1 : decode cX9_areTwo 1 = .ok (.invokestatic 64, 3) := by decide +kernel
theorem dX9_areTwo_4 : decode cX9_areTwo 4 = .ok (.ifCond .eq 19, 3) := by decide +kernel
theorem dX9_areTwo_7 : decode cX9_areTwo 7 = .ok (.iload_n 1, 1) := by decide +kernel
theorem dX9_areTwo_8 : decode cX9_areTwo 8 = .ok (.invokestatic 64, 3) := by decide +kernel
theorem dX9_areTwo_11 : decode cX9_areTwo 11 = .ok (.ifCond .eq 12, 3) := by decide +kernel
theorem dX9_areTwo_14 : decode cX9_areTwo 14 = .ok (.iload_n 0, 1) := by decide +kernel
theorem dX9_areTwo_15 : decode cX9_areTwo 15 = .ok (.iload_n 1, 1) := by decide +kernel
theorem dX9_areTwo_16 : decode cX9_areTwo 16 = .ok (.if_icmp .eq 7, 3) := by decide +kernel
theorem dX9_areTwo_19 : decode cX9_areTwo 19 = .ok (.iconst 1, 1) := by decide +kernel
theorem dX9_areTwo_20 : decode cX9_areTwo 20 = .ok (.goto 4, 3) := by decide +kernel
theorem dX9_areTwo_23 : decode cX9_areTwo 23 = .ok (.iconst 0, 1) := by decide +kernel
theorem dX9_areTwo_24 : decode cX9_areTwo 24 = .ok (.ireturn, 1) := by decide +kernel
theorem dX9_becomes_0 : decode cX9_becomes 0 = .ok (.aload_n 0, 1) := by decide +kernel
theorem dX9_becomes_1 : decode cX9_becomes 1 = .ok (.getfield 9, 3) := by decide +kernel
theorem dX9_becomes_4 : decode cX9_becomes 4 = .ok (.iload_n 1, 1) := by decide +kernel
theorem dX9_becomes_5 : decode cX9_becomes 5 = .ok (.iaload, 1) := by decide +kernel
theorem dX9_becomes_6 : decode cX9_becomes 6 = .ok (.istore_n 3, 1) := by decide +kernel
theorem dX9_becomes_7 : decode cX9_becomes 7 = .ok (.aload_n 0, 1) := by decide +kernel
theorem dX9_becomes_8 : decode cX9_becomes 8 = .ok (.getfield 9, 3) := by decide +kernel
theorem dX9_becomes_11 : decode cX9_becomes 11 = .ok (.iload_n 1, 1) := by decide +kernel
theorem dX9_becomes_12 : decode cX9_becomes 12 = .ok (.iload_n 2, 1) := by decide +kernel
theorem dX9_becomes_13 : decode cX9_becomes 13 = .ok (.iastore, 1) := by decide +kernel
theorem dX9_becomes_14 : decode cX9_becomes 14 = .ok (.iload_n 3, 1) := by decide +kernel
theorem dX9_becomes_15 : decode cX9_becomes 15 = .ok (.ireturn, 1) := by decide +kernel
theorem dX9_of_0 : decode cX9_of 0 = .ok (.aload_n 0, 1) := by decide +kernel
theorem dX9_of_1 : decode cX9_of 1 = .ok (.getfield 9, 3) := by decide +kernel
theorem dX9_of_4 : decode cX9_of 4 = .ok (.bipush 15, 2) := by decide +kernel
theorem dX9_of_6 : decode cX9_of 6 = .ok (.iconst 2, 1) := by decide +kernel
theorem dX9_of_7 : decode cX9_of 7 = .ok (.iload_n 1, 1) := by decide +kernel
theorem dX9_of_8 : decode cX9_of 8 = .ok (.imul, 1) := by decide +kernel
theorem dX9_of_9 : decode cX9_of 9 = .ok (.iadd, 1) := by decide +kernel
theorem dX9_of_10 : decode cX9_of 10 = .ok (.iload_n 2, 1) := by decide +kernel
theorem dX9_of_11 : decode cX9_of 11 = .ok (.iadd, 1) := by decide +kernel
theorem dX9_of_12 : decode cX9_of 12 = .ok (.iaload, 1) := by decide +kernel
theorem dX9_of_13 : decode cX9_of 13 = .ok (.ireturn, 1) := by decide +kernel
theorem dX9_about_0 : decode cX9_about 0 = .ok (.aload_n 0, 1) := by decide +kernel
theorem dX9_about_1 : decode cX9_about 1 = .ok (.getfield 9, 3) := by decide +kernel
theorem dX9_about_4 : decode cX9_about 4 = .ok (.bipush 27, 2) := by decide +kernel
theorem dX9_about_6 : decode cX9_about 6 = .ok (.iconst 4, 1) := by decide +kernel
theorem dX9_about_7 : decode cX9_about 7 = .ok (.iload_n 1, 1) := by decide +kernel
theorem dX9_about_8 : decode cX9_about 8 = .ok (.imul, 1) := by decide +kernel
theorem dX9_about_9 : decode cX9_about 9 = .ok (.iadd, 1) := by decide +kernel
theorem dX9_about_10 : decode cX9_about 10 = .ok (.iload_n 2, 1) := by decide +kernel
theorem dX9_about_11 : decode cX9_about 11 = .ok (.iadd, 1) := by decide +kernel
theorem dX9_about_12 : decode cX9_about 12 = .ok (.iaload, 1) := by decide +kernel
theorem dX9_about_13 : decode cX9_about 13 = .ok (.ireturn, 1) := by decide +kernel
theorem dX9_lets_0 : decode cX9_lets 0 = .ok (.aload_n 0, 1) := by decide +kernel
theorem dX9_lets_1 : decode cX9_lets 1 = .ok (.getfield 9, 3) := by decide +kernel
theorem dX9_lets_4 : decode cX9_lets 4 = .ok (.bipush 27, 2) := by decide +kernel
theorem dX9_lets_6 : decode cX9_lets 6 = .ok (.iconst 4, 1) := by decide +kernel
theorem dX9_lets_7 : decode cX9_lets 7 = .ok (.iload_n 1, 1) := by decide +kernel
theorem dX9_lets_8 : decode cX9_lets 8 = .ok (.imul, 1) := by decide +kernel
theorem dX9_lets_9 : decode cX9_lets 9 = .ok (.iadd, 1) := by decide +kernel
theorem dX9_lets_10 : decode cX9_lets 10 = .ok (.iload_n 2, 1) := by decide +kernel
theorem dX9_lets_11 : decode cX9_lets 11 = .ok (.iadd, 1) := by decide +kernel
theorem dX9_lets_12 : decode cX9_lets 12 = .ok (.iload_n 3, 1) := by decide +kernel
theorem dX9_lets_13 : decode cX9_lets 13 = .ok (.iastore, 1) := by decide +kernel
theorem dX9_lets_14 : decode cX9_lets 14 = .ok (.return_, 1) := by decide +kernel
theorem dX9_isOpen_0 : decode cX9_isOpen 0 = .ok (.aload_n 0, 1) := by decide +kernel
theorem dX9_isOpen_1 : decode cX9_isOpen 1 = .ok (.iload_n 1, 1) := by decide +kernel
theorem dX9_isOpen_2 : decode cX9_isOpen 2 = .ok (.iconst 3, 1) := by decide +kernel
theorem dX9_isOpen_3 : decode cX9_isOpen 3 = .ok (.invokevirtual 68, 3) := by decide +kernel
theorem dX9_isOpen_6 : decode cX9_isOpen 6 = .ok (.ifCond .ge 7, 3) := by decide +kernel
theorem dX9_isOpen_9 : decode cX9_isOpen 9 = .ok (.iconst 1, 1) := by decide +kernel
theorem dX9_isOpen_10 : decode cX9_isOpen 10 = .ok (.goto 4, 3) := by decide +kernel
theorem dX9_isOpen_13 : decode cX9_isOpen 13 = .ok (.iconst 0, 1) := by decide +kernel
theorem dX9_isOpen_14 : decode cX9_isOpen 14 = .ok (.ireturn, 1) := by decide +kernel
theorem dX9_opened_0 : decode cX9_opened 0 = .ok (.iconst 0, 1) := by decide +kernel
theorem dX9_opened_1 : decode cX9_opened 1 = .ok (.istore_n 1, 1) := by decide +kernel
theorem dX9_opened_2 : decode cX9_opened 2 = .ok (.iconst 0, 1) := by decide +kernel
theorem dX9_opened_3 : decode cX9_opened 3 = .ok (.istore_n 2, 1) := by decide +kernel
theorem dX9_opened_4 : decode cX9_opened 4 = .ok (.iload_n 2, 1) := by decide +kernel
theorem dX9_opened_5 : decode cX9_opened 5 = .ok (.aload_n 0, 1) := by decide +kernel
theorem dX9_opened_6 : decode cX9_opened 6 = .ok (.getfield 9, 3) := by decide +kernel
theorem dX9_opened_9 : decode cX9_opened 9 = .ok (.iconst 3, 1) := by decide +kernel
theorem dX9_opened_10 : decode cX9_opened 10 = .ok (.iaload, 1) := by decide +kernel
theorem dX9_opened_11 : decode cX9_opened 11 = .ok (.if_icmp .ge 27, 3) := by decide +kernel
theorem dX9_opened_14 : decode cX9_opened 14 = .ok (.iload_n 1, 1) := by decide +kernel
theorem dX9_opened_15 : decode cX9_opened 15 = .ok (.aload_n 0, 1) := by decide +kernel
theorem dX9_opened_16 : decode cX9_opened 16 = .ok (.iload_n 2, 1) := by decide +kernel
theorem dX9_opened_17 : decode cX9_opened 17 = .ok (.invokevirtual 72, 3) := by decide +kernel
theorem dX9_opened_20 : decode cX9_opened 20 = .ok (.ifCond .eq 9, 3) := by decide +kernel
theorem dX9_opened_23 : decode cX9_opened 23 = .ok (.iconst 1, 1) := by decide +kernel
theorem dX9_opened_24 : decode cX9_opened 24 = .ok (.iload_n 2, 1) := by decide +kernel
theorem dX9_opened_25 : decode cX9_opened 25 = .ok (.ishl, 1) := by decide +kernel
theorem dX9_opened_26 : decode cX9_opened 26 = .ok (.goto 4, 3) := by decide +kernel
theorem dX9_opened_29 : decode cX9_opened 29 = .ok (.iconst 0, 1) := by decide +kernel
theorem dX9_opened_30 : decode cX9_opened 30 = .ok (.ior, 1) := by decide +kernel
theorem dX9_opened_31 : decode cX9_opened 31 = .ok (.istore_n 1, 1) := by decide +kernel
theorem dX9_opened_32 : decode cX9_opened 32 = .ok (.iinc 2 1, 3) := by decide +kernel
theorem dX9_opened_35 : decode cX9_opened 35 = .ok (.goto (-31), 3) := by decide +kernel
theorem dX9_opened_38 : decode cX9_opened 38 = .ok (.iload_n 1, 1) := by decide +kernel
theorem dX9_opened_39 : decode cX9_opened 39 = .ok (.ireturn, 1) := by decide +kernel
theorem dX9_howManyBy_0 : decode cX9_howManyBy 0 = .ok (.iconst 0, 1) := by decide +kernel
theorem dX9_howManyBy_1 : decode cX9_howManyBy 1 = .ok (.istore_n 2, 1) := by decide +kernel
theorem dX9_howManyBy_2 : decode cX9_howManyBy 2 = .ok (.iconst 0, 1) := by decide +kernel
theorem dX9_howManyBy_3 : decode cX9_howManyBy 3 = .ok (.istore_n 3, 1) := by decide +kernel
theorem dX9_howManyBy_4 : decode cX9_howManyBy 4 = .ok (.iload_n 3, 1) := by decide +kernel
theorem dX9_howManyBy_5 : decode cX9_howManyBy 5 = .ok (.aload_n 0, 1) := by decide +kernel
theorem dX9_howManyBy_6 : decode cX9_howManyBy 6 = .ok (.getfield 9, 3) := by decide +kernel
theorem dX9_howManyBy_9 : decode cX9_howManyBy 9 = .ok (.iconst 3, 1) := by decide +kernel
theorem dX9_howManyBy_10 : decode cX9_howManyBy 10 = .ok (.iaload, 1) := by decide +kernel
theorem dX9_howManyBy_11 : decode cX9_howManyBy 11 = .ok (.if_icmp .ge 27, 3) := by decide +kernel
theorem dX9_howManyBy_14 : decode cX9_howManyBy 14 = .ok (.iload_n 2, 1) := by decide +kernel
theorem dX9_howManyBy_15 : decode cX9_howManyBy 15 = .ok (.aload_n 0, 1) := by decide +kernel
theorem dX9_howManyBy_16 : decode cX9_howManyBy 16 = .ok (.iload_n 3, 1) := by decide +kernel
theorem dX9_howManyBy_17 : decode cX9_howManyBy 17 = .ok (.iconst 3, 1) := by decide +kernel
theorem dX9_howManyBy_18 : decode cX9_howManyBy 18 = .ok (.invokevirtual 68, 3) := by decide +kernel
theorem dX9_howManyBy_21 : decode cX9_howManyBy 21 = .ok (.iload_n 1, 1) := by decide +kernel
theorem dX9_howManyBy_22 : decode cX9_howManyBy 22 = .ok (.if_icmp .ne 7, 3) := by decide +kernel
theorem dX9_howManyBy_25 : decode cX9_howManyBy 25 = .ok (.iconst 1, 1) := by decide +kernel
theorem dX9_howManyBy_26 : decode cX9_howManyBy 26 = .ok (.goto 4, 3) := by decide +kernel
theorem dX9_howManyBy_29 : decode cX9_howManyBy 29 = .ok (.iconst 0, 1) := by decide +kernel
theorem dX9_howManyBy_30 : decode cX9_howManyBy 30 = .ok (.iadd, 1) := by decide +kernel
theorem dX9_howManyBy_31 : decode cX9_howManyBy 31 = .ok (.istore_n 2, 1) := by decide +kernel
theorem dX9_howManyBy_32 : decode cX9_howManyBy 32 = .ok (.iinc 3 1, 3) := by decide +kernel
theorem dX9_howManyBy_35 : decode cX9_howManyBy 35 = .ok (.goto (-31), 3) := by decide +kernel
theorem dX9_howManyBy_38 : decode cX9_howManyBy 38 = .ok (.iload_n 2, 1) := by decide +kernel
theorem dX9_howManyBy_39 : decode cX9_howManyBy 39 = .ok (.ireturn, 1) := by decide +kernel
theorem dX9_roomOf_0 : decode cX9_roomOf 0 = .ok (.bipush 10, 2) := by decide +kernel
theorem dX9_roomOf_2 : decode cX9_roomOf 2 = .ok (.aload_n 0, 1) := by decide +kernel
theorem dX9_roomOf_3 : decode cX9_roomOf 3 = .ok (.iload_n 1, 1) := by decide +kernel
theorem dX9_roomOf_4 : decode cX9_roomOf 4 = .ok (.iconst 1, 1) := by decide +kernel
theorem dX9_roomOf_5 : decode cX9_roomOf 5 = .ok (.invokevirtual 75, 3) := by decide +kernel
theorem dX9_roomOf_8 : decode cX9_roomOf 8 = .ok (.iadd, 1) := by decide +kernel
theorem dX9_roomOf_9 : decode cX9_roomOf 9 = .ok (.istore_n 2, 1) := by decide +kernel
theorem dX9_roomOf_10 : decode cX9_roomOf 10 = .ok (.aload_n 0, 1) := by decide +kernel
theorem dX9_roomOf_11 : decode cX9_roomOf 11 = .ok (.iload_n 1, 1) := by decide +kernel
theorem dX9_roomOf_12 : decode cX9_roomOf 12 = .ok (.iconst 0, 1) := by decide +kernel
theorem dX9_roomOf_13 : decode cX9_roomOf 13 = .ok (.invokevirtual 75, 3) := by decide +kernel
theorem dX9_roomOf_16 : decode cX9_roomOf 16 = .ok (.tableswitch 96 1 6 #[40, 44, 48, 60, 70, 76], 40) := by decide +kernel
theorem dX9_roomOf_56 : decode cX9_roomOf 56 = .ok (.iload_n 2, 1) := by decide +kernel
theorem dX9_roomOf_57 : decode cX9_roomOf 57 = .ok (.iconst 2, 1) := by decide +kernel
theorem dX9_roomOf_58 : decode cX9_roomOf 58 = .ok (.idiv, 1) := by decide +kernel
theorem dX9_roomOf_59 : decode cX9_roomOf 59 = .ok (.ireturn, 1) := by decide +kernel
theorem dX9_roomOf_60 : decode cX9_roomOf 60 = .ok (.iconst 3, 1) := by decide +kernel
theorem dX9_roomOf_61 : decode cX9_roomOf 61 = .ok (.iload_n 2, 1) := by decide +kernel
theorem dX9_roomOf_62 : decode cX9_roomOf 62 = .ok (.imul, 1) := by decide +kernel
theorem dX9_roomOf_63 : decode cX9_roomOf 63 = .ok (.ireturn, 1) := by decide +kernel
theorem dX9_roomOf_64 : decode cX9_roomOf 64 = .ok (.iload_n 2, 1) := by decide +kernel
theorem dX9_roomOf_65 : decode cX9_roomOf 65 = .ok (.aload_n 0, 1) := by decide +kernel
theorem dX9_roomOf_66 : decode cX9_roomOf 66 = .ok (.getfield 9, 3) := by decide +kernel
theorem dX9_roomOf_69 : decode cX9_roomOf 69 = .ok (.iconst 0, 1) := by decide +kernel
theorem dX9_roomOf_70 : decode cX9_roomOf 70 = .ok (.iaload, 1) := by decide +kernel
theorem dX9_roomOf_71 : decode cX9_roomOf 71 = .ok (.bipush 6, 2) := by decide +kernel
theorem dX9_roomOf_73 : decode cX9_roomOf 73 = .ok (.irem, 1) := by decide +kernel
theorem dX9_roomOf_74 : decode cX9_roomOf 74 = .ok (.isub, 1) := by decide +kernel
theorem dX9_roomOf_75 : decode cX9_roomOf 75 = .ok (.ireturn, 1) := by decide +kernel
theorem dX9_roomOf_76 : decode cX9_roomOf 76 = .ok (.iload_n 2, 1) := by decide +kernel
theorem dX9_roomOf_77 : decode cX9_roomOf 77 = .ok (.iconst 2, 1) := by decide +kernel
theorem dX9_roomOf_78 : decode cX9_roomOf 78 = .ok (.idiv, 1) := by decide +kernel
theorem dX9_roomOf_79 : decode cX9_roomOf 79 = .ok (.aload_n 0, 1) := by decide +kernel
theorem dX9_roomOf_80 : decode cX9_roomOf 80 = .ok (.iload_n 1, 1) := by decide +kernel
theorem dX9_roomOf_81 : decode cX9_roomOf 81 = .ok (.invokevirtual 78, 3) := by decide +kernel
theorem dX9_roomOf_84 : decode cX9_roomOf 84 = .ok (.iadd, 1) := by decide +kernel
theorem dX9_roomOf_85 : decode cX9_roomOf 85 = .ok (.ireturn, 1) := by decide +kernel
theorem dX9_roomOf_86 : decode cX9_roomOf 86 = .ok (.iconst 3, 1) := by decide +kernel
theorem dX9_roomOf_87 : decode cX9_roomOf 87 = .ok (.iload_n 2, 1) := by decide +kernel
theorem dX9_roomOf_88 : decode cX9_roomOf 88 = .ok (.imul, 1) := by decide +kernel
theorem dX9_roomOf_89 : decode cX9_roomOf 89 = .ok (.iconst 5, 1) := by decide +kernel
theorem dX9_roomOf_90 : decode cX9_roomOf 90 = .ok (.iadd, 1) := by decide +kernel
theorem dX9_roomOf_91 : decode cX9_roomOf 91 = .ok (.ireturn, 1) := by decide +kernel
theorem dX9_roomOf_92 : decode cX9_roomOf 92 = .ok (.aload_n 0, 1) := by decide +kernel
theorem dX9_roomOf_93 : decode cX9_roomOf 93 = .ok (.getfield 9, 3) := by decide +kernel
theorem dX9_roomOf_96 : decode cX9_roomOf 96 = .ok (.iconst 0, 1) := by decide +kernel
theorem dX9_roomOf_97 : decode cX9_roomOf 97 = .ok (.iaload, 1) := by decide +kernel
theorem dX9_roomOf_98 : decode cX9_roomOf 98 = .ok (.bipush 24, 2) := by decide +kernel
theorem dX9_roomOf_100 : decode cX9_roomOf 100 = .ok (.irem, 1) := by decide +kernel
theorem dX9_roomOf_101 : decode cX9_roomOf 101 = .ok (.bipush 12, 2) := by decide +kernel
theorem dX9_roomOf_103 : decode cX9_roomOf 103 = .ok (.if_icmp .ge 7, 3) := by decide +kernel
theorem dX9_roomOf_106 : decode cX9_roomOf 106 = .ok (.iconst 0, 1) := by decide +kernel
theorem dX9_roomOf_107 : decode cX9_roomOf 107 = .ok (.goto 4, 3) := by decide +kernel
theorem dX9_roomOf_110 : decode cX9_roomOf 110 = .ok (.iload_n 2, 1) := by decide +kernel
theorem dX9_roomOf_111 : decode cX9_roomOf 111 = .ok (.ireturn, 1) := by decide +kernel
theorem dX9_roomOf_112 : decode cX9_roomOf 112 = .ok (.iload_n 2, 1) := by decide +kernel
theorem dX9_roomOf_113 : decode cX9_roomOf 113 = .ok (.ireturn, 1) := by decide +kernel
theorem dX9_costsOf_0 : decode cX9_costsOf 0 = .ok (.aload_n 0, 1) := by decide +kernel
theorem dX9_costsOf_1 : decode cX9_costsOf 1 = .ok (.iload_n 2, 1) := by decide +kernel
theorem dX9_costsOf_2 : decode cX9_costsOf 2 = .ok (.iconst 2, 1) := by decide +kernel
theorem dX9_costsOf_3 : decode cX9_costsOf 3 = .ok (.invokevirtual 68, 3) := by decide +kernel
theorem dX9_costsOf_6 : decode cX9_costsOf 6 = .ok (.istore_n 3, 1) := by decide +kernel
theorem dX9_costsOf_7 : decode cX9_costsOf 7 = .ok (.aload_n 0, 1) := by decide +kernel
theorem dX9_costsOf_8 : decode cX9_costsOf 8 = .ok (.iload_n 1, 1) := by decide +kernel
theorem dX9_costsOf_9 : decode cX9_costsOf 9 = .ok (.iconst 0, 1) := by decide +kernel
theorem dX9_costsOf_10 : decode cX9_costsOf 10 = .ok (.invokevirtual 75, 3) := by decide +kernel
theorem dX9_costsOf_13 : decode cX9_costsOf 13 = .ok (.tableswitch 77 1 6 #[39, 43, 77, 47, 55, 71], 39) := by decide +kernel
theorem dX9_costsOf_52 : decode cX9_costsOf 52 = .ok (.iload_n 3, 1) := by decide +kernel
theorem dX9_costsOf_53 : decode cX9_costsOf 53 = .ok (.iconst 1, 1) := by decide +kernel
theorem dX9_costsOf_54 : decode cX9_costsOf 54 = .ok (.iadd, 1) := by decide +kernel
theorem dX9_costsOf_55 : decode cX9_costsOf 55 = .ok (.ireturn, 1) := by decide +kernel
theorem dX9_costsOf_56 : decode cX9_costsOf 56 = .ok (.iconst 2, 1) := by decide +kernel
theorem dX9_costsOf_57 : decode cX9_costsOf 57 = .ok (.iload_n 3, 1) := by decide +kernel
theorem dX9_costsOf_58 : decode cX9_costsOf 58 = .ok (.imul, 1) := by decide +kernel
theorem dX9_costsOf_59 : decode cX9_costsOf 59 = .ok (.ireturn, 1) := by decide +kernel
theorem dX9_costsOf_60 : decode cX9_costsOf 60 = .ok (.iload_n 3, 1) := by decide +kernel
theorem dX9_costsOf_61 : decode cX9_costsOf 61 = .ok (.iconst 1, 1) := by decide +kernel
theorem dX9_costsOf_62 : decode cX9_costsOf 62 = .ok (.iadd, 1) := by decide +kernel
theorem dX9_costsOf_63 : decode cX9_costsOf 63 = .ok (.iload_n 3, 1) := by decide +kernel
theorem dX9_costsOf_64 : decode cX9_costsOf 64 = .ok (.iconst 2, 1) := by decide +kernel
theorem dX9_costsOf_65 : decode cX9_costsOf 65 = .ok (.idiv, 1) := by decide +kernel
theorem dX9_costsOf_66 : decode cX9_costsOf 66 = .ok (.isub, 1) := by decide +kernel
theorem dX9_costsOf_67 : decode cX9_costsOf 67 = .ok (.ireturn, 1) := by decide +kernel
theorem dX9_costsOf_68 : decode cX9_costsOf 68 = .ok (.aload_n 0, 1) := by decide +kernel
theorem dX9_costsOf_69 : decode cX9_costsOf 69 = .ok (.iload_n 2, 1) := by decide +kernel
theorem dX9_costsOf_70 : decode cX9_costsOf 70 = .ok (.invokevirtual 72, 3) := by decide +kernel
theorem dX9_costsOf_73 : decode cX9_costsOf 73 = .ok (.ifCond .eq 7, 3) := by decide +kernel
theorem dX9_costsOf_76 : decode cX9_costsOf 76 = .ok (.iconst 0, 1) := by decide +kernel
theorem dX9_costsOf_77 : decode cX9_costsOf 77 = .ok (.goto 6, 3) := by decide +kernel
theorem dX9_costsOf_80 : decode cX9_costsOf 80 = .ok (.iconst 2, 1) := by decide +kernel
theorem dX9_costsOf_81 : decode cX9_costsOf 81 = .ok (.iload_n 3, 1) := by decide +kernel
theorem dX9_costsOf_82 : decode cX9_costsOf 82 = .ok (.imul, 1) := by decide +kernel
theorem dX9_costsOf_83 : decode cX9_costsOf 83 = .ok (.ireturn, 1) := by decide +kernel
theorem dX9_costsOf_84 : decode cX9_costsOf 84 = .ok (.iload_n 3, 1) := by decide +kernel
theorem dX9_costsOf_85 : decode cX9_costsOf 85 = .ok (.iload_n 2, 1) := by decide +kernel
theorem dX9_costsOf_86 : decode cX9_costsOf 86 = .ok (.iconst 3, 1) := by decide +kernel
theorem dX9_costsOf_87 : decode cX9_costsOf 87 = .ok (.irem, 1) := by decide +kernel
theorem dX9_costsOf_88 : decode cX9_costsOf 88 = .ok (.iadd, 1) := by decide +kernel
theorem dX9_costsOf_89 : decode cX9_costsOf 89 = .ok (.ireturn, 1) := by decide +kernel
theorem dX9_costsOf_90 : decode cX9_costsOf 90 = .ok (.iload_n 3, 1) := by decide +kernel
theorem dX9_costsOf_91 : decode cX9_costsOf 91 = .ok (.ireturn, 1) := by decide +kernel
theorem dX9_weighsOn_0 : decode cX9_weighsOn 0 = .ok (.aload_n 0, 1) := by decide +kernel
theorem dX9_weighsOn_1 : decode cX9_weighsOn 1 = .ok (.iconst 0, 1) := by decide +kernel
theorem dX9_weighsOn_2 : decode cX9_weighsOn 2 = .ok (.aload_n 0, 1) := by decide +kernel
theorem dX9_weighsOn_3 : decode cX9_weighsOn 3 = .ok (.iload_n 1, 1) := by decide +kernel
theorem dX9_weighsOn_4 : decode cX9_weighsOn 4 = .ok (.iload_n 2, 1) := by decide +kernel
theorem dX9_weighsOn_5 : decode cX9_weighsOn 5 = .ok (.invokevirtual 82, 3) := by decide +kernel
theorem dX9_weighsOn_8 : decode cX9_weighsOn 8 = .ok (.aload_n 0, 1) := by decide +kernel
theorem dX9_weighsOn_9 : decode cX9_weighsOn 9 = .ok (.getfield 9, 3) := by decide +kernel
theorem dX9_weighsOn_12 : decode cX9_weighsOn 12 = .ok (.iconst 0, 1) := by decide +kernel
theorem dX9_weighsOn_13 : decode cX9_weighsOn 13 = .ok (.iaload, 1) := by decide +kernel
theorem dX9_weighsOn_14 : decode cX9_weighsOn 14 = .ok (.bipush 24, 2) := by decide +kernel
theorem dX9_weighsOn_16 : decode cX9_weighsOn 16 = .ok (.irem, 1) := by decide +kernel
theorem dX9_weighsOn_17 : decode cX9_weighsOn 17 = .ok (.iload_n 2, 1) := by decide +kernel
theorem dX9_weighsOn_18 : decode cX9_weighsOn 18 = .ok (.invokevirtual 85, 3) := by decide +kernel
theorem dX9_weighsOn_21 : decode cX9_weighsOn 21 = .ok (.ireturn, 1) := by decide +kernel
theorem dX9_loadOf_0 : decode cX9_loadOf 0 = .ok (.iconst 0, 1) := by decide +kernel
theorem dX9_loadOf_1 : decode cX9_loadOf 1 = .ok (.istore_n 2, 1) := by decide +kernel
theorem dX9_loadOf_2 : decode cX9_loadOf 2 = .ok (.iconst 0, 1) := by decide +kernel
theorem dX9_loadOf_3 : decode cX9_loadOf 3 = .ok (.istore_n 3, 1) := by decide +kernel
theorem dX9_loadOf_4 : decode cX9_loadOf 4 = .ok (.iload_n 3, 1) := by decide +kernel
theorem dX9_loadOf_5 : decode cX9_loadOf 5 = .ok (.aload_n 0, 1) := by decide +kernel
theorem dX9_loadOf_6 : decode cX9_loadOf 6 = .ok (.getfield 9, 3) := by decide +kernel
theorem dX9_loadOf_9 : decode cX9_loadOf 9 = .ok (.iconst 3, 1) := by decide +kernel
theorem dX9_loadOf_10 : decode cX9_loadOf 10 = .ok (.iaload, 1) := by decide +kernel
theorem dX9_loadOf_11 : decode cX9_loadOf 11 = .ok (.if_icmp .ge 32, 3) := by decide +kernel
theorem dX9_loadOf_14 : decode cX9_loadOf 14 = .ok (.iload_n 2, 1) := by decide +kernel
theorem dX9_loadOf_15 : decode cX9_loadOf 15 = .ok (.aload_n 0, 1) := by decide +kernel
theorem dX9_loadOf_16 : decode cX9_loadOf 16 = .ok (.iload_n 3, 1) := by decide +kernel
theorem dX9_loadOf_17 : decode cX9_loadOf 17 = .ok (.iconst 3, 1) := by decide +kernel
theorem dX9_loadOf_18 : decode cX9_loadOf 18 = .ok (.invokevirtual 68, 3) := by decide +kernel
theorem dX9_loadOf_21 : decode cX9_loadOf 21 = .ok (.iload_n 1, 1) := by decide +kernel
theorem dX9_loadOf_22 : decode cX9_loadOf 22 = .ok (.if_icmp .ne 12, 3) := by decide +kernel
theorem dX9_loadOf_25 : decode cX9_loadOf 25 = .ok (.aload_n 0, 1) := by decide +kernel
theorem dX9_loadOf_26 : decode cX9_loadOf 26 = .ok (.iload_n 1, 1) := by decide +kernel
theorem dX9_loadOf_27 : decode cX9_loadOf 27 = .ok (.iload_n 3, 1) := by decide +kernel
theorem dX9_loadOf_28 : decode cX9_loadOf 28 = .ok (.invokevirtual 89, 3) := by decide +kernel
theorem dX9_loadOf_31 : decode cX9_loadOf 31 = .ok (.goto 4, 3) := by decide +kernel
theorem dX9_loadOf_34 : decode cX9_loadOf 34 = .ok (.iconst 0, 1) := by decide +kernel
theorem dX9_loadOf_35 : decode cX9_loadOf 35 = .ok (.iadd, 1) := by decide +kernel
theorem dX9_loadOf_36 : decode cX9_loadOf 36 = .ok (.istore_n 2, 1) := by decide +kernel
theorem dX9_loadOf_37 : decode cX9_loadOf 37 = .ok (.iinc 3 1, 3) := by decide +kernel
theorem dX9_loadOf_40 : decode cX9_loadOf 40 = .ok (.goto (-36), 3) := by decide +kernel
theorem dX9_loadOf_43 : decode cX9_loadOf 43 = .ok (.iload_n 2, 1) := by decide +kernel
theorem dX9_loadOf_44 : decode cX9_loadOf 44 = .ok (.ireturn, 1) := by decide +kernel
theorem dX9_drawsOf_0 : decode cX9_drawsOf 0 = .ok (.aload_n 0, 1) := by decide +kernel
theorem dX9_drawsOf_1 : decode cX9_drawsOf 1 = .ok (.iconst 1, 1) := by decide +kernel
theorem dX9_drawsOf_2 : decode cX9_drawsOf 2 = .ok (.aload_n 0, 1) := by decide +kernel
theorem dX9_drawsOf_3 : decode cX9_drawsOf 3 = .ok (.getfield 9, 3) := by decide +kernel
theorem dX9_drawsOf_6 : decode cX9_drawsOf 6 = .ok (.bipush 8, 2) := by decide +kernel
theorem dX9_drawsOf_8 : decode cX9_drawsOf 8 = .ok (.iload_n 1, 1) := by decide +kernel
theorem dX9_drawsOf_9 : decode cX9_drawsOf 9 = .ok (.iadd, 1) := by decide +kernel
theorem dX9_drawsOf_10 : decode cX9_drawsOf 10 = .ok (.iaload, 1) := by decide +kernel
theorem dX9_drawsOf_11 : decode cX9_drawsOf 11 = .ok (.iload_n 1, 1) := by decide +kernel
theorem dX9_drawsOf_12 : decode cX9_drawsOf 12 = .ok (.aload_n 0, 1) := by decide +kernel
theorem dX9_drawsOf_13 : decode cX9_drawsOf 13 = .ok (.getfield 9, 3) := by decide +kernel
theorem dX9_drawsOf_16 : decode cX9_drawsOf 16 = .ok (.iconst 0, 1) := by decide +kernel
theorem dX9_drawsOf_17 : decode cX9_drawsOf 17 = .ok (.iaload, 1) := by decide +kernel
theorem dX9_drawsOf_18 : decode cX9_drawsOf 18 = .ok (.bipush 24, 2) := by decide +kernel
theorem dX9_drawsOf_20 : decode cX9_drawsOf 20 = .ok (.irem, 1) := by decide +kernel
theorem dX9_drawsOf_21 : decode cX9_drawsOf 21 = .ok (.invokevirtual 85, 3) := by decide +kernel
theorem dX9_drawsOf_24 : decode cX9_drawsOf 24 = .ok (.ireturn, 1) := by decide +kernel
theorem dX9_isKm_0 : decode cX9_isKm 0 = .ok (.iload_n 0, 1) := by decide +kernel
theorem dX9_isKm_1 : decode cX9_isKm 1 = .ok (.iconst 0, 1) := by decide +kernel
theorem dX9_isKm_2 : decode cX9_isKm 2 = .ok (.bipush 69, 2) := by decide +kernel
theorem dX9_isKm_4 : decode cX9_isKm 4 = .ok (.invokestatic 60, 3) := by decide +kernel
theorem dX9_isKm_7 : decode cX9_isKm 7 = .ok (.ireturn, 1) := by decide +kernel
theorem dX9_person_0 : decode cX9_person 0 = .ok (.iload_n 1, 1) := by decide +kernel
theorem dX9_person_1 : decode cX9_person 1 = .ok (.invokestatic 92, 3) := by decide +kernel
theorem dX9_person_4 : decode cX9_person 4 = .ok (.ifCond .ne 10, 3) := by decide +kernel
theorem dX9_person_7 : decode cX9_person 7 = .ok (.aload_n 0, 1) := by decide +kernel
theorem dX9_person_8 : decode cX9_person 8 = .ok (.ldc 95, 2) := by decide +kernel
theorem dX9_person_10 : decode cX9_person 10 = .ok (.invokevirtual 96, 3) := by decide +kernel
theorem dX9_person_13 : decode cX9_person 13 = .ok (.ireturn, 1) := by decide +kernel
theorem dX9_person_14 : decode cX9_person 14 = .ok (.aload_n 0, 1) := by decide +kernel
theorem dX9_person_15 : decode cX9_person 15 = .ok (.getfield 9, 3) := by decide +kernel
theorem dX9_person_18 : decode cX9_person 18 = .ok (.iconst 2, 1) := by decide +kernel
theorem dX9_person_19 : decode cX9_person 19 = .ok (.iaload, 1) := by decide +kernel
theorem dX9_person_20 : decode cX9_person 20 = .ok (.istore_n 2, 1) := by decide +kernel
theorem dX9_person_21 : decode cX9_person 21 = .ok (.iload_n 2, 1) := by decide +kernel
theorem dX9_person_22 : decode cX9_person 22 = .ok (.bipush 6, 2) := by decide +kernel
theorem dX9_person_24 : decode cX9_person 24 = .ok (.if_icmp .ne 10, 3) := by decide +kernel
theorem dX9_person_27 : decode cX9_person 27 = .ok (.aload_n 0, 1) := by decide +kernel
theorem dX9_person_28 : decode cX9_person 28 = .ok (.ldc 99, 2) := by decide +kernel
theorem dX9_person_30 : decode cX9_person 30 = .ok (.invokevirtual 96, 3) := by decide +kernel
theorem dX9_person_33 : decode cX9_person 33 = .ok (.ireturn, 1) := by decide +kernel
theorem dX9_person_34 : decode cX9_person 34 = .ok (.aload_n 0, 1) := by decide +kernel
theorem dX9_person_35 : decode cX9_person 35 = .ok (.getfield 9, 3) := by decide +kernel
theorem dX9_person_38 : decode cX9_person 38 = .ok (.iconst 2, 1) := by decide +kernel
theorem dX9_person_39 : decode cX9_person 39 = .ok (.dup2, 1) := by decide +kernel
theorem dX9_person_40 : decode cX9_person 40 = .ok (.iaload, 1) := by decide +kernel
theorem dX9_person_41 : decode cX9_person 41 = .ok (.iconst 1, 1) := by decide +kernel
theorem dX9_person_42 : decode cX9_person 42 = .ok (.iadd, 1) := by decide +kernel
theorem dX9_person_43 : decode cX9_person 43 = .ok (.iastore, 1) := by decide +kernel
theorem dX9_person_44 : decode cX9_person 44 = .ok (.aload_n 0, 1) := by decide +kernel
theorem dX9_person_45 : decode cX9_person 45 = .ok (.getfield 9, 3) := by decide +kernel
theorem dX9_person_48 : decode cX9_person 48 = .ok (.bipush 15, 2) := by decide +kernel
theorem dX9_person_50 : decode cX9_person 50 = .ok (.iconst 2, 1) := by decide +kernel
theorem dX9_person_51 : decode cX9_person 51 = .ok (.iload_n 2, 1) := by decide +kernel
theorem dX9_person_52 : decode cX9_person 52 = .ok (.imul, 1) := by decide +kernel
theorem dX9_person_53 : decode cX9_person 53 = .ok (.iadd, 1) := by decide +kernel
theorem dX9_person_54 : decode cX9_person 54 = .ok (.iload_n 1, 1) := by decide +kernel
theorem dX9_person_55 : decode cX9_person 55 = .ok (.bipush 10, 2) := by decide +kernel
theorem dX9_person_57 : decode cX9_person 57 = .ok (.idiv, 1) := by decide +kernel
theorem dX9_person_58 : decode cX9_person 58 = .ok (.iastore, 1) := by decide +kernel
theorem dX9_person_59 : decode cX9_person 59 = .ok (.aload_n 0, 1) := by decide +kernel
theorem dX9_person_60 : decode cX9_person 60 = .ok (.getfield 9, 3) := by decide +kernel
theorem dX9_person_63 : decode cX9_person 63 = .ok (.bipush 15, 2) := by decide +kernel
theorem dX9_person_65 : decode cX9_person 65 = .ok (.iconst 2, 1) := by decide +kernel
theorem dX9_person_66 : decode cX9_person 66 = .ok (.iload_n 2, 1) := by decide +kernel
theorem dX9_person_67 : decode cX9_person 67 = .ok (.imul, 1) := by decide +kernel
theorem dX9_person_68 : decode cX9_person 68 = .ok (.iadd, 1) := by decide +kernel
theorem dX9_person_69 : decode cX9_person 69 = .ok (.iconst 1, 1) := by decide +kernel
theorem dX9_person_70 : decode cX9_person 70 = .ok (.iadd, 1) := by decide +kernel
theorem dX9_person_71 : decode cX9_person 71 = .ok (.iload_n 1, 1) := by decide +kernel
theorem dX9_person_72 : decode cX9_person 72 = .ok (.bipush 10, 2) := by decide +kernel
theorem dX9_person_74 : decode cX9_person 74 = .ok (.irem, 1) := by decide +kernel
theorem dX9_person_75 : decode cX9_person 75 = .ok (.iastore, 1) := by decide +kernel
theorem dX9_person_76 : decode cX9_person 76 = .ok (.iload_n 2, 1) := by decide +kernel
theorem dX9_person_77 : decode cX9_person 77 = .ok (.ireturn, 1) := by decide +kernel
theorem dX9_personIs_0 : decode cX9_personIs 0 = .ok (.aload_n 0, 1) := by decide +kernel
theorem dX9_personIs_1 : decode cX9_personIs 1 = .ok (.iload_n 1, 1) := by decide +kernel
theorem dX9_personIs_2 : decode cX9_personIs 2 = .ok (.invokevirtual 100, 3) := by decide +kernel
theorem dX9_personIs_5 : decode cX9_personIs 5 = .ok (.ifCond .ne 10, 3) := by decide +kernel
end
section
theorem dX9_personIs_8 : decode cX9_personIs 8 = .ok (.aload_n 0, 1) := by decide +kernel
theorem dX9_personIs_9 : decode cX9_personIs 9 = .ok (.ldc 95, 2) := by decide +kernel
theorem dX9_personIs_11 : decode cX9_personIs 11 = .ok (.invokevirtual 96, 3) := by decide +kernel
theorem dX9_personIs_14 : decode cX9_personIs 14 = .ok (.ireturn, 1) := by decide +kernel
theorem dX9_personIs_15 : decode cX9_personIs 15 = .ok (.iload_n 2, 1) := by decide +kernel
theorem dX9_personIs_16 : decode cX9_personIs 16 = .ok (.tableswitch 61 0 4 #[36, 36, 43, 49, 55], 36) := by decide +kernel
theorem dX9_personIs_52 : decode cX9_personIs 52 = .ok (.aload_n 0, 1) := by decide +kernel
theorem dX9_personIs_53 : decode cX9_personIs 53 = .ok (.iload_n 1, 1) := by decide +kernel
theorem dX9_personIs_54 : decode cX9_personIs 54 = .ok (.iload_n 2, 1) := by decide +kernel
theorem dX9_personIs_55 : decode cX9_personIs 55 = .ok (.invokevirtual 75, 3) := by decide +kernel
theorem dX9_personIs_58 : decode cX9_personIs 58 = .ok (.ireturn, 1) := by decide +kernel
theorem dX9_personIs_59 : decode cX9_personIs 59 = .ok (.aload_n 0, 1) := by decide +kernel
theorem dX9_personIs_60 : decode cX9_personIs 60 = .ok (.iload_n 1, 1) := by decide +kernel
theorem dX9_personIs_61 : decode cX9_personIs 61 = .ok (.invokevirtual 78, 3) := by decide +kernel
theorem dX9_personIs_64 : decode cX9_personIs 64 = .ok (.ireturn, 1) := by decide +kernel
theorem dX9_personIs_65 : decode cX9_personIs 65 = .ok (.aload_n 0, 1) := by decide +kernel
theorem dX9_personIs_66 : decode cX9_personIs 66 = .ok (.iload_n 1, 1) := by decide +kernel
theorem dX9_personIs_67 : decode cX9_personIs 67 = .ok (.invokevirtual 103, 3) := by decide +kernel
theorem dX9_personIs_70 : decode cX9_personIs 70 = .ok (.ireturn, 1) := by decide +kernel
theorem dX9_personIs_71 : decode cX9_personIs 71 = .ok (.aload_n 0, 1) := by decide +kernel
theorem dX9_personIs_72 : decode cX9_personIs 72 = .ok (.iload_n 1, 1) := by decide +kernel
theorem dX9_personIs_73 : decode cX9_personIs 73 = .ok (.invokevirtual 106, 3) := by decide +kernel
theorem dX9_personIs_76 : decode cX9_personIs 76 = .ok (.ireturn, 1) := by decide +kernel
theorem dX9_personIs_77 : decode cX9_personIs 77 = .ok (.aload_n 0, 1) := by decide +kernel
theorem dX9_personIs_78 : decode cX9_personIs 78 = .ok (.ldc 95, 2) := by decide +kernel
theorem dX9_personIs_80 : decode cX9_personIs 80 = .ok (.invokevirtual 96, 3) := by decide +kernel
theorem dX9_personIs_83 : decode cX9_personIs 83 = .ok (.ireturn, 1) := by decide +kernel
theorem dX9_become_0 : decode cX9_become 0 = .ok (.aload_n 0, 1) := by decide +kernel
theorem dX9_become_1 : decode cX9_become 1 = .ok (.iload_n 1, 1) := by decide +kernel
theorem dX9_become_2 : decode cX9_become 2 = .ok (.invokevirtual 100, 3) := by decide +kernel
theorem dX9_become_5 : decode cX9_become 5 = .ok (.ifCond .eq 10, 3) := by decide +kernel
theorem dX9_become_8 : decode cX9_become 8 = .ok (.iload_n 2, 1) := by decide +kernel
theorem dX9_become_9 : decode cX9_become 9 = .ok (.invokestatic 92, 3) := by decide +kernel
theorem dX9_become_12 : decode cX9_become 12 = .ok (.ifCond .ne 10, 3) := by decide +kernel
theorem dX9_become_15 : decode cX9_become 15 = .ok (.aload_n 0, 1) := by decide +kernel
theorem dX9_become_16 : decode cX9_become 16 = .ok (.ldc 95, 2) := by decide +kernel
theorem dX9_become_18 : decode cX9_become 18 = .ok (.invokevirtual 96, 3) := by decide +kernel
theorem dX9_become_21 : decode cX9_become 21 = .ok (.ireturn, 1) := by decide +kernel
theorem dX9_become_22 : decode cX9_become 22 = .ok (.aload_n 0, 1) := by decide +kernel
theorem dX9_become_23 : decode cX9_become 23 = .ok (.getfield 9, 3) := by decide +kernel
theorem dX9_become_26 : decode cX9_become 26 = .ok (.bipush 15, 2) := by decide +kernel
theorem dX9_become_28 : decode cX9_become 28 = .ok (.iconst 2, 1) := by decide +kernel
theorem dX9_become_29 : decode cX9_become 29 = .ok (.iload_n 1, 1) := by decide +kernel
theorem dX9_become_30 : decode cX9_become 30 = .ok (.imul, 1) := by decide +kernel
theorem dX9_become_31 : decode cX9_become 31 = .ok (.iadd, 1) := by decide +kernel
theorem dX9_become_32 : decode cX9_become 32 = .ok (.iconst 1, 1) := by decide +kernel
theorem dX9_become_33 : decode cX9_become 33 = .ok (.iadd, 1) := by decide +kernel
theorem dX9_become_34 : decode cX9_become 34 = .ok (.iload_n 2, 1) := by decide +kernel
theorem dX9_become_35 : decode cX9_become 35 = .ok (.bipush 10, 2) := by decide +kernel
theorem dX9_become_37 : decode cX9_become 37 = .ok (.irem, 1) := by decide +kernel
theorem dX9_become_38 : decode cX9_become 38 = .ok (.iastore, 1) := by decide +kernel
theorem dX9_become_39 : decode cX9_become 39 = .ok (.aload_n 0, 1) := by decide +kernel
theorem dX9_become_40 : decode cX9_become 40 = .ok (.bipush 15, 2) := by decide +kernel
theorem dX9_become_42 : decode cX9_become 42 = .ok (.iconst 2, 1) := by decide +kernel
theorem dX9_become_43 : decode cX9_become 43 = .ok (.iload_n 1, 1) := by decide +kernel
theorem dX9_become_44 : decode cX9_become 44 = .ok (.imul, 1) := by decide +kernel
theorem dX9_become_45 : decode cX9_become 45 = .ok (.iadd, 1) := by decide +kernel
theorem dX9_become_46 : decode cX9_become 46 = .ok (.iload_n 2, 1) := by decide +kernel
theorem dX9_become_47 : decode cX9_become 47 = .ok (.bipush 10, 2) := by decide +kernel
theorem dX9_become_49 : decode cX9_become 49 = .ok (.idiv, 1) := by decide +kernel
theorem dX9_become_50 : decode cX9_become 50 = .ok (.invokevirtual 109, 3) := by decide +kernel
theorem dX9_become_53 : decode cX9_become 53 = .ok (.ireturn, 1) := by decide +kernel
theorem dX9_as_0 : decode cX9_as 0 = .ok (.aload_n 0, 1) := by decide +kernel
theorem dX9_as_1 : decode cX9_as 1 = .ok (.iload_n 1, 1) := by decide +kernel
theorem dX9_as_2 : decode cX9_as 2 = .ok (.invokevirtual 100, 3) := by decide +kernel
theorem dX9_as_5 : decode cX9_as 5 = .ok (.ifCond .eq 13, 3) := by decide +kernel
theorem dX9_as_8 : decode cX9_as 8 = .ok (.iload_n 2, 1) := by decide +kernel
theorem dX9_as_9 : decode cX9_as 9 = .ok (.iconst 0, 1) := by decide +kernel
theorem dX9_as_10 : decode cX9_as 10 = .ok (.bipush 6, 2) := by decide +kernel
theorem dX9_as_12 : decode cX9_as 12 = .ok (.invokestatic 60, 3) := by decide +kernel
theorem dX9_as_15 : decode cX9_as 15 = .ok (.ifCond .ne 10, 3) := by decide +kernel
theorem dX9_as_18 : decode cX9_as 18 = .ok (.aload_n 0, 1) := by decide +kernel
theorem dX9_as_19 : decode cX9_as 19 = .ok (.ldc 95, 2) := by decide +kernel
theorem dX9_as_21 : decode cX9_as 21 = .ok (.invokevirtual 96, 3) := by decide +kernel
theorem dX9_as_24 : decode cX9_as 24 = .ok (.ireturn, 1) := by decide +kernel
theorem dX9_as_25 : decode cX9_as 25 = .ok (.aload_n 0, 1) := by decide +kernel
theorem dX9_as_26 : decode cX9_as 26 = .ok (.iload_n 1, 1) := by decide +kernel
theorem dX9_as_27 : decode cX9_as 27 = .ok (.iconst 0, 1) := by decide +kernel
theorem dX9_as_28 : decode cX9_as 28 = .ok (.invokevirtual 75, 3) := by decide +kernel
theorem dX9_as_31 : decode cX9_as 31 = .ok (.istore_n 3, 1) := by decide +kernel
theorem dX9_as_32 : decode cX9_as 32 = .ok (.iload_n 2, 1) := by decide +kernel
theorem dX9_as_33 : decode cX9_as 33 = .ok (.ifCond .eq 28, 3) := by decide +kernel
theorem dX9_as_36 : decode cX9_as 36 = .ok (.iload_n 2, 1) := by decide +kernel
theorem dX9_as_37 : decode cX9_as 37 = .ok (.iload_n 3, 1) := by decide +kernel
theorem dX9_as_38 : decode cX9_as 38 = .ok (.if_icmp .eq 23, 3) := by decide +kernel
theorem dX9_as_41 : decode cX9_as 41 = .ok (.iload_n 2, 1) := by decide +kernel
theorem dX9_as_42 : decode cX9_as 42 = .ok (.iconst 1, 1) := by decide +kernel
theorem dX9_as_43 : decode cX9_as 43 = .ok (.if_icmp .ne 8, 3) := by decide +kernel
theorem dX9_as_46 : decode cX9_as 46 = .ok (.iload_n 3, 1) := by decide +kernel
theorem dX9_as_47 : decode cX9_as 47 = .ok (.iconst 4, 1) := by decide +kernel
theorem dX9_as_48 : decode cX9_as 48 = .ok (.if_icmp .eq 13, 3) := by decide +kernel
theorem dX9_as_51 : decode cX9_as 51 = .ok (.iload_n 2, 1) := by decide +kernel
theorem dX9_as_52 : decode cX9_as 52 = .ok (.iconst 2, 1) := by decide +kernel
theorem dX9_as_53 : decode cX9_as 53 = .ok (.if_icmp .ne 12, 3) := by decide +kernel
theorem dX9_as_56 : decode cX9_as 56 = .ok (.iload_n 3, 1) := by decide +kernel
theorem dX9_as_57 : decode cX9_as 57 = .ok (.iconst 5, 1) := by decide +kernel
theorem dX9_as_58 : decode cX9_as 58 = .ok (.if_icmp .ne 7, 3) := by decide +kernel
theorem dX9_as_61 : decode cX9_as 61 = .ok (.iconst 1, 1) := by decide +kernel
theorem dX9_as_62 : decode cX9_as 62 = .ok (.goto 4, 3) := by decide +kernel
theorem dX9_as_65 : decode cX9_as 65 = .ok (.iconst 0, 1) := by decide +kernel
theorem dX9_as_66 : decode cX9_as 66 = .ok (.istore 4, 2) := by decide +kernel
theorem dX9_as_68 : decode cX9_as 68 = .ok (.iload 4, 2) := by decide +kernel
theorem dX9_as_70 : decode cX9_as 70 = .ok (.ifCond .eq 12, 3) := by decide +kernel
theorem dX9_as_73 : decode cX9_as 73 = .ok (.aload_n 0, 1) := by decide +kernel
theorem dX9_as_74 : decode cX9_as 74 = .ok (.iload_n 1, 1) := by decide +kernel
theorem dX9_as_75 : decode cX9_as 75 = .ok (.iconst 1, 1) := by decide +kernel
theorem dX9_as_76 : decode cX9_as 76 = .ok (.invokevirtual 75, 3) := by decide +kernel
theorem dX9_as_79 : decode cX9_as 79 = .ok (.goto 9, 3) := by decide +kernel
theorem dX9_as_82 : decode cX9_as 82 = .ok (.aload_n 0, 1) := by decide +kernel
theorem dX9_as_83 : decode cX9_as 83 = .ok (.ldc 112, 2) := by decide +kernel
theorem dX9_as_85 : decode cX9_as 85 = .ok (.invokevirtual 96, 3) := by decide +kernel
theorem dX9_as_88 : decode cX9_as 88 = .ok (.ireturn, 1) := by decide +kernel
theorem dX9_gate_0 : decode cX9_gate 0 = .ok (.iload_n 1, 1) := by decide +kernel
theorem dX9_gate_1 : decode cX9_gate 1 = .ok (.iload_n 2, 1) := by decide +kernel
theorem dX9_gate_2 : decode cX9_gate 2 = .ok (.invokestatic 113, 3) := by decide +kernel
theorem dX9_gate_5 : decode cX9_gate 5 = .ok (.ifCond .eq 13, 3) := by decide +kernel
theorem dX9_gate_8 : decode cX9_gate 8 = .ok (.iload_n 3, 1) := by decide +kernel
theorem dX9_gate_9 : decode cX9_gate 9 = .ok (.iconst 0, 1) := by decide +kernel
theorem dX9_gate_10 : decode cX9_gate 10 = .ok (.bipush 9, 2) := by decide +kernel
theorem dX9_gate_12 : decode cX9_gate 12 = .ok (.invokestatic 60, 3) := by decide +kernel
theorem dX9_gate_15 : decode cX9_gate 15 = .ok (.ifCond .ne 10, 3) := by decide +kernel
theorem dX9_gate_18 : decode cX9_gate 18 = .ok (.aload_n 0, 1) := by decide +kernel
theorem dX9_gate_19 : decode cX9_gate 19 = .ok (.ldc 95, 2) := by decide +kernel
theorem dX9_gate_21 : decode cX9_gate 21 = .ok (.invokevirtual 96, 3) := by decide +kernel
theorem dX9_gate_24 : decode cX9_gate 24 = .ok (.ireturn, 1) := by decide +kernel
theorem dX9_gate_25 : decode cX9_gate 25 = .ok (.aload_n 0, 1) := by decide +kernel
theorem dX9_gate_26 : decode cX9_gate 26 = .ok (.getfield 9, 3) := by decide +kernel
theorem dX9_gate_29 : decode cX9_gate 29 = .ok (.iconst 3, 1) := by decide +kernel
theorem dX9_gate_30 : decode cX9_gate 30 = .ok (.iaload, 1) := by decide +kernel
theorem dX9_gate_31 : decode cX9_gate 31 = .ok (.istore 4, 2) := by decide +kernel
theorem dX9_gate_33 : decode cX9_gate 33 = .ok (.iload 4, 2) := by decide +kernel
theorem dX9_gate_35 : decode cX9_gate 35 = .ok (.bipush 9, 2) := by decide +kernel
theorem dX9_gate_37 : decode cX9_gate 37 = .ok (.if_icmp .ne 10, 3) := by decide +kernel
theorem dX9_gate_40 : decode cX9_gate 40 = .ok (.aload_n 0, 1) := by decide +kernel
theorem dX9_gate_41 : decode cX9_gate 41 = .ok (.ldc 99, 2) := by decide +kernel
theorem dX9_gate_43 : decode cX9_gate 43 = .ok (.invokevirtual 96, 3) := by decide +kernel
theorem dX9_gate_46 : decode cX9_gate 46 = .ok (.ireturn, 1) := by decide +kernel
theorem dX9_gate_47 : decode cX9_gate 47 = .ok (.aload_n 0, 1) := by decide +kernel
theorem dX9_gate_48 : decode cX9_gate 48 = .ok (.getfield 9, 3) := by decide +kernel
theorem dX9_gate_51 : decode cX9_gate 51 = .ok (.iconst 3, 1) := by decide +kernel
theorem dX9_gate_52 : decode cX9_gate 52 = .ok (.dup2, 1) := by decide +kernel
theorem dX9_gate_53 : decode cX9_gate 53 = .ok (.iaload, 1) := by decide +kernel
theorem dX9_gate_54 : decode cX9_gate 54 = .ok (.iconst 1, 1) := by decide +kernel
theorem dX9_gate_55 : decode cX9_gate 55 = .ok (.iadd, 1) := by decide +kernel
theorem dX9_gate_56 : decode cX9_gate 56 = .ok (.iastore, 1) := by decide +kernel
theorem dX9_gate_57 : decode cX9_gate 57 = .ok (.aload_n 0, 1) := by decide +kernel
theorem dX9_gate_58 : decode cX9_gate 58 = .ok (.iload 4, 2) := by decide +kernel
theorem dX9_gate_60 : decode cX9_gate 60 = .ok (.iconst 0, 1) := by decide +kernel
theorem dX9_gate_61 : decode cX9_gate 61 = .ok (.iload_n 1, 1) := by decide +kernel
theorem dX9_gate_62 : decode cX9_gate 62 = .ok (.invokevirtual 117, 3) := by decide +kernel
theorem dX9_gate_65 : decode cX9_gate 65 = .ok (.aload_n 0, 1) := by decide +kernel
theorem dX9_gate_66 : decode cX9_gate 66 = .ok (.iload 4, 2) := by decide +kernel
theorem dX9_gate_68 : decode cX9_gate 68 = .ok (.iconst 1, 1) := by decide +kernel
theorem dX9_gate_69 : decode cX9_gate 69 = .ok (.iload_n 2, 1) := by decide +kernel
theorem dX9_gate_70 : decode cX9_gate 70 = .ok (.invokevirtual 117, 3) := by decide +kernel
theorem dX9_gate_73 : decode cX9_gate 73 = .ok (.aload_n 0, 1) := by decide +kernel
theorem dX9_gate_74 : decode cX9_gate 74 = .ok (.iload 4, 2) := by decide +kernel
theorem dX9_gate_76 : decode cX9_gate 76 = .ok (.iconst 2, 1) := by decide +kernel
theorem dX9_gate_77 : decode cX9_gate 77 = .ok (.iload_n 3, 1) := by decide +kernel
theorem dX9_gate_78 : decode cX9_gate 78 = .ok (.invokevirtual 117, 3) := by decide +kernel
theorem dX9_gate_81 : decode cX9_gate 81 = .ok (.aload_n 0, 1) := by decide +kernel
theorem dX9_gate_82 : decode cX9_gate 82 = .ok (.iload 4, 2) := by decide +kernel
theorem dX9_gate_84 : decode cX9_gate 84 = .ok (.iconst 3, 1) := by decide +kernel
theorem dX9_gate_85 : decode cX9_gate 85 = .ok (.iconst (-1), 1) := by decide +kernel
theorem dX9_gate_86 : decode cX9_gate 86 = .ok (.invokevirtual 117, 3) := by decide +kernel
theorem dX9_gate_89 : decode cX9_gate 89 = .ok (.iload 4, 2) := by decide +kernel
theorem dX9_gate_91 : decode cX9_gate 91 = .ok (.ireturn, 1) := by decide +kernel
theorem dX9_gateIs_0 : decode cX9_gateIs 0 = .ok (.aload_n 0, 1) := by decide +kernel
theorem dX9_gateIs_1 : decode cX9_gateIs 1 = .ok (.iload_n 1, 1) := by decide +kernel
theorem dX9_gateIs_2 : decode cX9_gateIs 2 = .ok (.invokevirtual 121, 3) := by decide +kernel
theorem dX9_gateIs_5 : decode cX9_gateIs 5 = .ok (.ifCond .eq 21, 3) := by decide +kernel
theorem dX9_gateIs_8 : decode cX9_gateIs 8 = .ok (.iload_n 2, 1) := by decide +kernel
theorem dX9_gateIs_9 : decode cX9_gateIs 9 = .ok (.iconst 0, 1) := by decide +kernel
theorem dX9_gateIs_10 : decode cX9_gateIs 10 = .ok (.iconst 3, 1) := by decide +kernel
theorem dX9_gateIs_11 : decode cX9_gateIs 11 = .ok (.invokestatic 60, 3) := by decide +kernel
theorem dX9_gateIs_14 : decode cX9_gateIs 14 = .ok (.ifCond .eq 12, 3) := by decide +kernel
theorem dX9_gateIs_17 : decode cX9_gateIs 17 = .ok (.aload_n 0, 1) := by decide +kernel
theorem dX9_gateIs_18 : decode cX9_gateIs 18 = .ok (.iload_n 1, 1) := by decide +kernel
theorem dX9_gateIs_19 : decode cX9_gateIs 19 = .ok (.iload_n 2, 1) := by decide +kernel
theorem dX9_gateIs_20 : decode cX9_gateIs 20 = .ok (.invokevirtual 68, 3) := by decide +kernel
theorem dX9_gateIs_23 : decode cX9_gateIs 23 = .ok (.goto 9, 3) := by decide +kernel
theorem dX9_gateIs_26 : decode cX9_gateIs 26 = .ok (.aload_n 0, 1) := by decide +kernel
theorem dX9_gateIs_27 : decode cX9_gateIs 27 = .ok (.ldc 95, 2) := by decide +kernel
theorem dX9_gateIs_29 : decode cX9_gateIs 29 = .ok (.invokevirtual 96, 3) := by decide +kernel
theorem dX9_gateIs_32 : decode cX9_gateIs 32 = .ok (.ireturn, 1) := by decide +kernel
theorem dX9_hold_0 : decode cX9_hold 0 = .ok (.aload_n 0, 1) := by decide +kernel
theorem dX9_hold_1 : decode cX9_hold 1 = .ok (.iload_n 1, 1) := by decide +kernel
theorem dX9_hold_2 : decode cX9_hold 2 = .ok (.invokevirtual 121, 3) := by decide +kernel
theorem dX9_hold_5 : decode cX9_hold 5 = .ok (.ifCond .eq 20, 3) := by decide +kernel
theorem dX9_hold_8 : decode cX9_hold 8 = .ok (.iload_n 2, 1) := by decide +kernel
theorem dX9_hold_9 : decode cX9_hold 9 = .ok (.iconst (-1), 1) := by decide +kernel
theorem dX9_hold_10 : decode cX9_hold 10 = .ok (.if_icmp .eq 11, 3) := by decide +kernel
theorem dX9_hold_13 : decode cX9_hold 13 = .ok (.aload_n 0, 1) := by decide +kernel
theorem dX9_hold_14 : decode cX9_hold 14 = .ok (.iload_n 2, 1) := by decide +kernel
theorem dX9_hold_15 : decode cX9_hold 15 = .ok (.invokevirtual 100, 3) := by decide +kernel
theorem dX9_hold_18 : decode cX9_hold 18 = .ok (.ifCond .eq 7, 3) := by decide +kernel
theorem dX9_hold_21 : decode cX9_hold 21 = .ok (.iconst 1, 1) := by decide +kernel
theorem dX9_hold_22 : decode cX9_hold 22 = .ok (.goto 4, 3) := by decide +kernel
theorem dX9_hold_25 : decode cX9_hold 25 = .ok (.iconst 0, 1) := by decide +kernel
theorem dX9_hold_26 : decode cX9_hold 26 = .ok (.istore_n 3, 1) := by decide +kernel
theorem dX9_hold_27 : decode cX9_hold 27 = .ok (.iload_n 3, 1) := by decide +kernel
theorem dX9_hold_28 : decode cX9_hold 28 = .ok (.ifCond .eq 19, 3) := by decide +kernel
theorem dX9_hold_31 : decode cX9_hold 31 = .ok (.aload_n 0, 1) := by decide +kernel
theorem dX9_hold_32 : decode cX9_hold 32 = .ok (.bipush 27, 2) := by decide +kernel
theorem dX9_hold_34 : decode cX9_hold 34 = .ok (.iconst 4, 1) := by decide +kernel
theorem dX9_hold_35 : decode cX9_hold 35 = .ok (.iload_n 1, 1) := by decide +kernel
theorem dX9_hold_36 : decode cX9_hold 36 = .ok (.imul, 1) := by decide +kernel
theorem dX9_hold_37 : decode cX9_hold 37 = .ok (.iadd, 1) := by decide +kernel
theorem dX9_hold_38 : decode cX9_hold 38 = .ok (.iconst 3, 1) := by decide +kernel
theorem dX9_hold_39 : decode cX9_hold 39 = .ok (.iadd, 1) := by decide +kernel
theorem dX9_hold_40 : decode cX9_hold 40 = .ok (.iload_n 2, 1) := by decide +kernel
theorem dX9_hold_41 : decode cX9_hold 41 = .ok (.invokevirtual 109, 3) := by decide +kernel
theorem dX9_hold_44 : decode cX9_hold 44 = .ok (.goto 9, 3) := by decide +kernel
theorem dX9_hold_47 : decode cX9_hold 47 = .ok (.aload_n 0, 1) := by decide +kernel
theorem dX9_hold_48 : decode cX9_hold 48 = .ok (.ldc 95, 2) := by decide +kernel
theorem dX9_hold_50 : decode cX9_hold 50 = .ok (.invokevirtual 96, 3) := by decide +kernel
theorem dX9_hold_53 : decode cX9_hold 53 = .ok (.ireturn, 1) := by decide +kernel
theorem dX9_pass_0 : decode cX9_pass 0 = .ok (.aload_n 0, 1) := by decide +kernel
theorem dX9_pass_1 : decode cX9_pass 1 = .ok (.iload_n 1, 1) := by decide +kernel
theorem dX9_pass_2 : decode cX9_pass 2 = .ok (.invokevirtual 100, 3) := by decide +kernel
theorem dX9_pass_5 : decode cX9_pass 5 = .ok (.ifCond .eq 16, 3) := by decide +kernel
theorem dX9_pass_8 : decode cX9_pass 8 = .ok (.aload_n 0, 1) := by decide +kernel
theorem dX9_pass_9 : decode cX9_pass 9 = .ok (.iload_n 2, 1) := by decide +kernel
theorem dX9_pass_10 : decode cX9_pass 10 = .ok (.invokevirtual 100, 3) := by decide +kernel
theorem dX9_pass_13 : decode cX9_pass 13 = .ok (.ifCond .eq 8, 3) := by decide +kernel
theorem dX9_pass_16 : decode cX9_pass 16 = .ok (.iload_n 1, 1) := by decide +kernel
theorem dX9_pass_17 : decode cX9_pass 17 = .ok (.iload_n 2, 1) := by decide +kernel
theorem dX9_pass_18 : decode cX9_pass 18 = .ok (.if_icmp .ne 10, 3) := by decide +kernel
theorem dX9_pass_21 : decode cX9_pass 21 = .ok (.aload_n 0, 1) := by decide +kernel
theorem dX9_pass_22 : decode cX9_pass 22 = .ok (.ldc 95, 2) := by decide +kernel
theorem dX9_pass_24 : decode cX9_pass 24 = .ok (.invokevirtual 96, 3) := by decide +kernel
theorem dX9_pass_27 : decode cX9_pass 27 = .ok (.ireturn, 1) := by decide +kernel
theorem dX9_pass_28 : decode cX9_pass 28 = .ok (.iconst 0, 1) := by decide +kernel
theorem dX9_pass_29 : decode cX9_pass 29 = .ok (.istore_n 3, 1) := by decide +kernel
theorem dX9_pass_30 : decode cX9_pass 30 = .ok (.iconst 0, 1) := by decide +kernel
theorem dX9_pass_31 : decode cX9_pass 31 = .ok (.istore 4, 2) := by decide +kernel
theorem dX9_pass_33 : decode cX9_pass 33 = .ok (.iload 4, 2) := by decide +kernel
theorem dX9_pass_35 : decode cX9_pass 35 = .ok (.aload_n 0, 1) := by decide +kernel
theorem dX9_pass_36 : decode cX9_pass 36 = .ok (.getfield 9, 3) := by decide +kernel
theorem dX9_pass_39 : decode cX9_pass 39 = .ok (.iconst 3, 1) := by decide +kernel
theorem dX9_pass_40 : decode cX9_pass 40 = .ok (.iaload, 1) := by decide +kernel
theorem dX9_pass_41 : decode cX9_pass 41 = .ok (.if_icmp .ge 31, 3) := by decide +kernel
theorem dX9_pass_44 : decode cX9_pass 44 = .ok (.aload_n 0, 1) := by decide +kernel
theorem dX9_pass_45 : decode cX9_pass 45 = .ok (.iload 4, 2) := by decide +kernel
theorem dX9_pass_47 : decode cX9_pass 47 = .ok (.iconst 3, 1) := by decide +kernel
theorem dX9_pass_48 : decode cX9_pass 48 = .ok (.invokevirtual 68, 3) := by decide +kernel
theorem dX9_pass_51 : decode cX9_pass 51 = .ok (.iload_n 1, 1) := by decide +kernel
theorem dX9_pass_52 : decode cX9_pass 52 = .ok (.if_icmp .ne 14, 3) := by decide +kernel
theorem dX9_pass_55 : decode cX9_pass 55 = .ok (.aload_n 0, 1) := by decide +kernel
theorem dX9_pass_56 : decode cX9_pass 56 = .ok (.iload 4, 2) := by decide +kernel
theorem dX9_pass_58 : decode cX9_pass 58 = .ok (.iconst 3, 1) := by decide +kernel
theorem dX9_pass_59 : decode cX9_pass 59 = .ok (.iload_n 2, 1) := by decide +kernel
theorem dX9_pass_60 : decode cX9_pass 60 = .ok (.invokevirtual 117, 3) := by decide +kernel
theorem dX9_pass_63 : decode cX9_pass 63 = .ok (.iinc 3 1, 3) := by decide +kernel
theorem dX9_pass_66 : decode cX9_pass 66 = .ok (.iinc 4 1, 3) := by decide +kernel
theorem dX9_pass_69 : decode cX9_pass 69 = .ok (.goto (-36), 3) := by decide +kernel
theorem dX9_pass_72 : decode cX9_pass 72 = .ok (.iload_n 3, 1) := by decide +kernel
theorem dX9_pass_73 : decode cX9_pass 73 = .ok (.ireturn, 1) := by decide +kernel
theorem dX9_stock_0 : decode cX9_stock 0 = .ok (.iload_n 1, 1) := by decide +kernel
theorem dX9_stock_1 : decode cX9_stock 1 = .ok (.invokestatic 64, 3) := by decide +kernel
theorem dX9_stock_4 : decode cX9_stock 4 = .ok (.ifCond .ne 10, 3) := by decide +kernel
theorem dX9_stock_7 : decode cX9_stock 7 = .ok (.aload_n 0, 1) := by decide +kernel
theorem dX9_stock_8 : decode cX9_stock 8 = .ok (.ldc 95, 2) := by decide +kernel
theorem dX9_stock_10 : decode cX9_stock 10 = .ok (.invokevirtual 96, 3) := by decide +kernel
theorem dX9_stock_13 : decode cX9_stock 13 = .ok (.ireturn, 1) := by decide +kernel
theorem dX9_stock_14 : decode cX9_stock 14 = .ok (.aload_n 0, 1) := by decide +kernel
theorem dX9_stock_15 : decode cX9_stock 15 = .ok (.getfield 9, 3) := by decide +kernel
theorem dX9_stock_18 : decode cX9_stock 18 = .ok (.iconst 4, 1) := by decide +kernel
theorem dX9_stock_19 : decode cX9_stock 19 = .ok (.iaload, 1) := by decide +kernel
theorem dX9_stock_20 : decode cX9_stock 20 = .ok (.istore_n 2, 1) := by decide +kernel
theorem dX9_stock_21 : decode cX9_stock 21 = .ok (.iload_n 2, 1) := by decide +kernel
theorem dX9_stock_22 : decode cX9_stock 22 = .ok (.bipush 6, 2) := by decide +kernel
theorem dX9_stock_24 : decode cX9_stock 24 = .ok (.if_icmp .ne 10, 3) := by decide +kernel
theorem dX9_stock_27 : decode cX9_stock 27 = .ok (.aload_n 0, 1) := by decide +kernel
theorem dX9_stock_28 : decode cX9_stock 28 = .ok (.ldc 99, 2) := by decide +kernel
theorem dX9_stock_30 : decode cX9_stock 30 = .ok (.invokevirtual 96, 3) := by decide +kernel
theorem dX9_stock_33 : decode cX9_stock 33 = .ok (.ireturn, 1) := by decide +kernel
theorem dX9_stock_34 : decode cX9_stock 34 = .ok (.aload_n 0, 1) := by decide +kernel
theorem dX9_stock_35 : decode cX9_stock 35 = .ok (.getfield 9, 3) := by decide +kernel
theorem dX9_stock_38 : decode cX9_stock 38 = .ok (.iconst 4, 1) := by decide +kernel
theorem dX9_stock_39 : decode cX9_stock 39 = .ok (.dup2, 1) := by decide +kernel
theorem dX9_stock_40 : decode cX9_stock 40 = .ok (.iaload, 1) := by decide +kernel
theorem dX9_stock_41 : decode cX9_stock 41 = .ok (.iconst 1, 1) := by decide +kernel
theorem dX9_stock_42 : decode cX9_stock 42 = .ok (.iadd, 1) := by decide +kernel
theorem dX9_stock_43 : decode cX9_stock 43 = .ok (.iastore, 1) := by decide +kernel
theorem dX9_stock_44 : decode cX9_stock 44 = .ok (.aload_n 0, 1) := by decide +kernel
theorem dX9_stock_45 : decode cX9_stock 45 = .ok (.getfield 9, 3) := by decide +kernel
theorem dX9_stock_48 : decode cX9_stock 48 = .ok (.bipush 63, 2) := by decide +kernel
theorem dX9_stock_50 : decode cX9_stock 50 = .ok (.iload_n 2, 1) := by decide +kernel
theorem dX9_stock_51 : decode cX9_stock 51 = .ok (.iadd, 1) := by decide +kernel
theorem dX9_stock_52 : decode cX9_stock 52 = .ok (.iload_n 1, 1) := by decide +kernel
theorem dX9_stock_53 : decode cX9_stock 53 = .ok (.iastore, 1) := by decide +kernel
theorem dX9_stock_54 : decode cX9_stock 54 = .ok (.iload_n 2, 1) := by decide +kernel
theorem dX9_stock_55 : decode cX9_stock 55 = .ok (.ireturn, 1) := by decide +kernel
theorem dX9_stockAt_0 : decode cX9_stockAt 0 = .ok (.iload_n 1, 1) := by decide +kernel
theorem dX9_stockAt_1 : decode cX9_stockAt 1 = .ok (.iconst 0, 1) := by decide +kernel
theorem dX9_stockAt_2 : decode cX9_stockAt 2 = .ok (.aload_n 0, 1) := by decide +kernel
theorem dX9_stockAt_3 : decode cX9_stockAt 3 = .ok (.getfield 9, 3) := by decide +kernel
theorem dX9_stockAt_6 : decode cX9_stockAt 6 = .ok (.iconst 4, 1) := by decide +kernel
theorem dX9_stockAt_7 : decode cX9_stockAt 7 = .ok (.iaload, 1) := by decide +kernel
theorem dX9_stockAt_8 : decode cX9_stockAt 8 = .ok (.iconst 1, 1) := by decide +kernel
theorem dX9_stockAt_9 : decode cX9_stockAt 9 = .ok (.isub, 1) := by decide +kernel
theorem dX9_stockAt_10 : decode cX9_stockAt 10 = .ok (.invokestatic 60, 3) := by decide +kernel
theorem dX9_stockAt_13 : decode cX9_stockAt 13 = .ok (.ifCond .eq 15, 3) := by decide +kernel
theorem dX9_stockAt_16 : decode cX9_stockAt 16 = .ok (.aload_n 0, 1) := by decide +kernel
theorem dX9_stockAt_17 : decode cX9_stockAt 17 = .ok (.getfield 9, 3) := by decide +kernel
theorem dX9_stockAt_20 : decode cX9_stockAt 20 = .ok (.bipush 63, 2) := by decide +kernel
theorem dX9_stockAt_22 : decode cX9_stockAt 22 = .ok (.iload_n 1, 1) := by decide +kernel
theorem dX9_stockAt_23 : decode cX9_stockAt 23 = .ok (.iadd, 1) := by decide +kernel
theorem dX9_stockAt_24 : decode cX9_stockAt 24 = .ok (.iaload, 1) := by decide +kernel
theorem dX9_stockAt_25 : decode cX9_stockAt 25 = .ok (.goto 9, 3) := by decide +kernel
theorem dX9_stockAt_28 : decode cX9_stockAt 28 = .ok (.aload_n 0, 1) := by decide +kernel
theorem dX9_stockAt_29 : decode cX9_stockAt 29 = .ok (.ldc 95, 2) := by decide +kernel
theorem dX9_stockAt_31 : decode cX9_stockAt 31 = .ok (.invokevirtual 96, 3) := by decide +kernel
theorem dX9_stockAt_34 : decode cX9_stockAt 34 = .ok (.ireturn, 1) := by decide +kernel
theorem dX9_grass_0 : decode cX9_grass 0 = .ok (.iload_n 1, 1) := by decide +kernel
theorem dX9_grass_1 : decode cX9_grass 1 = .ok (.invokestatic 64, 3) := by decide +kernel
theorem dX9_grass_4 : decode cX9_grass 4 = .ok (.ifCond .eq 25, 3) := by decide +kernel
theorem dX9_grass_7 : decode cX9_grass 7 = .ok (.iload_n 2, 1) := by decide +kernel
theorem dX9_grass_8 : decode cX9_grass 8 = .ok (.iconst 0, 1) := by decide +kernel
theorem dX9_grass_9 : decode cX9_grass 9 = .ok (.bipush 99, 2) := by decide +kernel
theorem dX9_grass_11 : decode cX9_grass 11 = .ok (.invokestatic 60, 3) := by decide +kernel
theorem dX9_grass_14 : decode cX9_grass 14 = .ok (.ifCond .eq 15, 3) := by decide +kernel
theorem dX9_grass_17 : decode cX9_grass 17 = .ok (.aload_n 0, 1) := by decide +kernel
theorem dX9_grass_18 : decode cX9_grass 18 = .ok (.bipush 8, 2) := by decide +kernel
theorem dX9_grass_20 : decode cX9_grass 20 = .ok (.iload_n 1, 1) := by decide +kernel
theorem dX9_grass_21 : decode cX9_grass 21 = .ok (.iadd, 1) := by decide +kernel
theorem dX9_grass_22 : decode cX9_grass 22 = .ok (.iload_n 2, 1) := by decide +kernel
theorem dX9_grass_23 : decode cX9_grass 23 = .ok (.invokevirtual 109, 3) := by decide +kernel
theorem dX9_grass_26 : decode cX9_grass 26 = .ok (.goto 9, 3) := by decide +kernel
theorem dX9_grass_29 : decode cX9_grass 29 = .ok (.aload_n 0, 1) := by decide +kernel
theorem dX9_grass_30 : decode cX9_grass 30 = .ok (.ldc 95, 2) := by decide +kernel
theorem dX9_grass_32 : decode cX9_grass 32 = .ok (.invokevirtual 96, 3) := by decide +kernel
theorem dX9_grass_35 : decode cX9_grass 35 = .ok (.ireturn, 1) := by decide +kernel
theorem dX9_feed_0 : decode cX9_feed 0 = .ok (.iload_n 3, 1) := by decide +kernel
theorem dX9_feed_1 : decode cX9_feed 1 = .ok (.iconst 1, 1) := by decide +kernel
theorem dX9_feed_2 : decode cX9_feed 2 = .ok (.bipush 8, 2) := by decide +kernel
theorem dX9_feed_4 : decode cX9_feed 4 = .ok (.invokestatic 60, 3) := by decide +kernel
theorem dX9_feed_7 : decode cX9_feed 7 = .ok (.ifCond .ne 10, 3) := by decide +kernel
theorem dX9_feed_10 : decode cX9_feed 10 = .ok (.aload_n 0, 1) := by decide +kernel
theorem dX9_feed_11 : decode cX9_feed 11 = .ok (.ldc 95, 2) := by decide +kernel
theorem dX9_feed_13 : decode cX9_feed 13 = .ok (.invokevirtual 96, 3) := by decide +kernel
theorem dX9_feed_16 : decode cX9_feed 16 = .ok (.ireturn, 1) := by decide +kernel
theorem dX9_feed_17 : decode cX9_feed 17 = .ok (.aload_n 0, 1) := by decide +kernel
theorem dX9_feed_18 : decode cX9_feed 18 = .ok (.getfield 9, 3) := by decide +kernel
theorem dX9_feed_21 : decode cX9_feed 21 = .ok (.bipush 6, 2) := by decide +kernel
theorem dX9_feed_23 : decode cX9_feed 23 = .ok (.iaload, 1) := by decide +kernel
theorem dX9_feed_24 : decode cX9_feed 24 = .ok (.iload_n 3, 1) := by decide +kernel
theorem dX9_feed_25 : decode cX9_feed 25 = .ok (.iadd, 1) := by decide +kernel
theorem dX9_feed_26 : decode cX9_feed 26 = .ok (.bipush 60, 2) := by decide +kernel
theorem dX9_feed_28 : decode cX9_feed 28 = .ok (.if_icmp .le 10, 3) := by decide +kernel
theorem dX9_feed_31 : decode cX9_feed 31 = .ok (.aload_n 0, 1) := by decide +kernel
theorem dX9_feed_32 : decode cX9_feed 32 = .ok (.ldc 99, 2) := by decide +kernel
theorem dX9_feed_34 : decode cX9_feed 34 = .ok (.invokevirtual 96, 3) := by decide +kernel
theorem dX9_feed_37 : decode cX9_feed 37 = .ok (.ireturn, 1) := by decide +kernel
theorem dX9_feed_38 : decode cX9_feed 38 = .ok (.iconst 0, 1) := by decide +kernel
theorem dX9_feed_39 : decode cX9_feed 39 = .ok (.istore 4, 2) := by decide +kernel
theorem dX9_feed_41 : decode cX9_feed 41 = .ok (.iload 4, 2) := by decide +kernel
theorem dX9_feed_43 : decode cX9_feed 43 = .ok (.iload_n 3, 1) := by decide +kernel
theorem dX9_feed_44 : decode cX9_feed 44 = .ok (.if_icmp .ge 47, 3) := by decide +kernel
theorem dX9_feed_47 : decode cX9_feed 47 = .ok (.aload_n 0, 1) := by decide +kernel
theorem dX9_feed_48 : decode cX9_feed 48 = .ok (.getfield 9, 3) := by decide +kernel
theorem dX9_feed_51 : decode cX9_feed 51 = .ok (.bipush 69, 2) := by decide +kernel
theorem dX9_feed_53 : decode cX9_feed 53 = .ok (.aload_n 0, 1) := by decide +kernel
theorem dX9_feed_54 : decode cX9_feed 54 = .ok (.getfield 9, 3) := by decide +kernel
theorem dX9_feed_57 : decode cX9_feed 57 = .ok (.bipush 6, 2) := by decide +kernel
theorem dX9_feed_59 : decode cX9_feed 59 = .ok (.iaload, 1) := by decide +kernel
theorem dX9_feed_60 : decode cX9_feed 60 = .ok (.iadd, 1) := by decide +kernel
theorem dX9_feed_61 : decode cX9_feed 61 = .ok (.lload_n 1, 1) := by decide +kernel
theorem dX9_feed_62 : decode cX9_feed 62 = .ok (.bipush 8, 2) := by decide +kernel
theorem dX9_feed_64 : decode cX9_feed 64 = .ok (.iload 4, 2) := by decide +kernel
theorem dX9_feed_66 : decode cX9_feed 66 = .ok (.imul, 1) := by decide +kernel
theorem dX9_feed_67 : decode cX9_feed 67 = .ok (.lshr, 1) := by decide +kernel
theorem dX9_feed_68 : decode cX9_feed 68 = .ok (.ldc2_w 124, 3) := by decide +kernel
theorem dX9_feed_71 : decode cX9_feed 71 = .ok (.land, 1) := by decide +kernel
theorem dX9_feed_72 : decode cX9_feed 72 = .ok (.l2i, 1) := by decide +kernel
theorem dX9_feed_73 : decode cX9_feed 73 = .ok (.iastore, 1) := by decide +kernel
theorem dX9_feed_74 : decode cX9_feed 74 = .ok (.aload_n 0, 1) := by decide +kernel
theorem dX9_feed_75 : decode cX9_feed 75 = .ok (.getfield 9, 3) := by decide +kernel
theorem dX9_feed_78 : decode cX9_feed 78 = .ok (.bipush 6, 2) := by decide +kernel
theorem dX9_feed_80 : decode cX9_feed 80 = .ok (.dup2, 1) := by decide +kernel
theorem dX9_feed_81 : decode cX9_feed 81 = .ok (.iaload, 1) := by decide +kernel
theorem dX9_feed_82 : decode cX9_feed 82 = .ok (.iconst 1, 1) := by decide +kernel
theorem dX9_feed_83 : decode cX9_feed 83 = .ok (.iadd, 1) := by decide +kernel
theorem dX9_feed_84 : decode cX9_feed 84 = .ok (.iastore, 1) := by decide +kernel
theorem dX9_feed_85 : decode cX9_feed 85 = .ok (.iinc 4 1, 3) := by decide +kernel
theorem dX9_feed_88 : decode cX9_feed 88 = .ok (.goto (-47), 3) := by decide +kernel
theorem dX9_feed_91 : decode cX9_feed 91 = .ok (.aload_n 0, 1) := by decide +kernel
theorem dX9_feed_92 : decode cX9_feed 92 = .ok (.getfield 9, 3) := by decide +kernel
theorem dX9_feed_95 : decode cX9_feed 95 = .ok (.bipush 6, 2) := by decide +kernel
theorem dX9_feed_97 : decode cX9_feed 97 = .ok (.iaload, 1) := by decide +kernel
theorem dX9_feed_98 : decode cX9_feed 98 = .ok (.ireturn, 1) := by decide +kernel
theorem dX9_look_0 : decode cX9_look 0 = .ok (.aload_n 0, 1) := by decide +kernel
theorem dX9_look_1 : decode cX9_look 1 = .ok (.getfield 126, 3) := by decide +kernel
theorem dX9_look_4 : decode cX9_look 4 = .ok (.aload_n 0, 1) := by decide +kernel
theorem dX9_look_5 : decode cX9_look 5 = .ok (.getfield 9, 3) := by decide +kernel
theorem dX9_look_8 : decode cX9_look 8 = .ok (.bipush 6, 2) := by decide +kernel
theorem dX9_look_10 : decode cX9_look 10 = .ok (.iaload, 1) := by decide +kernel
theorem dX9_look_11 : decode cX9_look 11 = .ok (.if_icmp .ge 18, 3) := by decide +kernel
theorem dX9_look_14 : decode cX9_look 14 = .ok (.aload_n 0, 1) := by decide +kernel
theorem dX9_look_15 : decode cX9_look 15 = .ok (.getfield 9, 3) := by decide +kernel
theorem dX9_look_18 : decode cX9_look 18 = .ok (.bipush 69, 2) := by decide +kernel
theorem dX9_look_20 : decode cX9_look 20 = .ok (.aload_n 0, 1) := by decide +kernel
theorem dX9_look_21 : decode cX9_look 21 = .ok (.getfield 126, 3) := by decide +kernel
theorem dX9_look_24 : decode cX9_look 24 = .ok (.iadd, 1) := by decide +kernel
theorem dX9_look_25 : decode cX9_look 25 = .ok (.iaload, 1) := by decide +kernel
theorem dX9_look_26 : decode cX9_look 26 = .ok (.goto 4, 3) := by decide +kernel
theorem dX9_look_29 : decode cX9_look 29 = .ok (.iconst (-1), 1) := by decide +kernel
theorem dX9_look_30 : decode cX9_look 30 = .ok (.ireturn, 1) := by decide +kernel
theorem dX9_lays_0 : decode cX9_lays 0 = .ok (.aload_n 0, 1) := by decide +kernel
theorem dX9_lays_1 : decode cX9_lays 1 = .ok (.getfield 130, 3) := by decide +kernel
theorem dX9_lays_4 : decode cX9_lays 4 = .ok (.aload_n 0, 1) := by decide +kernel
theorem dX9_lays_5 : decode cX9_lays 5 = .ok (.getfield 31, 3) := by decide +kernel
theorem dX9_lays_8 : decode cX9_lays 8 = .ok (.arraylength, 1) := by decide +kernel
theorem dX9_lays_9 : decode cX9_lays 9 = .ok (.if_icmp .ge 33, 3) := by decide +kernel
theorem dX9_lays_12 : decode cX9_lays 12 = .ok (.aload_n 0, 1) := by decide +kernel
theorem dX9_lays_13 : decode cX9_lays 13 = .ok (.getfield 31, 3) := by decide +kernel
theorem dX9_lays_16 : decode cX9_lays 16 = .ok (.aload_n 0, 1) := by decide +kernel
theorem dX9_lays_17 : decode cX9_lays 17 = .ok (.getfield 130, 3) := by decide +kernel
theorem dX9_lays_20 : decode cX9_lays 20 = .ok (.iload_n 1, 1) := by decide +kernel
theorem dX9_lays_21 : decode cX9_lays 21 = .ok (.iastore, 1) := by decide +kernel
theorem dX9_lays_22 : decode cX9_lays 22 = .ok (.aload_n 0, 1) := by decide +kernel
theorem dX9_lays_23 : decode cX9_lays 23 = .ok (.getfield 34, 3) := by decide +kernel
theorem dX9_lays_26 : decode cX9_lays 26 = .ok (.aload_n 0, 1) := by decide +kernel
theorem dX9_lays_27 : decode cX9_lays 27 = .ok (.getfield 130, 3) := by decide +kernel
theorem dX9_lays_30 : decode cX9_lays 30 = .ok (.iload_n 2, 1) := by decide +kernel
theorem dX9_lays_31 : decode cX9_lays 31 = .ok (.iastore, 1) := by decide +kernel
theorem dX9_lays_32 : decode cX9_lays 32 = .ok (.aload_n 0, 1) := by decide +kernel
theorem dX9_lays_33 : decode cX9_lays 33 = .ok (.dup, 1) := by decide +kernel
theorem dX9_lays_34 : decode cX9_lays 34 = .ok (.getfield 130, 3) := by decide +kernel
theorem dX9_lays_37 : decode cX9_lays 37 = .ok (.iconst 1, 1) := by decide +kernel
theorem dX9_lays_38 : decode cX9_lays 38 = .ok (.iadd, 1) := by decide +kernel
theorem dX9_lays_39 : decode cX9_lays 39 = .ok (.putfield 130, 3) := by decide +kernel
theorem dX9_lays_42 : decode cX9_lays 42 = .ok (.return_, 1) := by decide +kernel
theorem dX9_nameOf_0 : decode cX9_nameOf 0 = .ok (.iload_n 1, 1) := by decide +kernel
theorem dX9_nameOf_1 : decode cX9_nameOf 1 = .ok (.lookupswitch 111 #[(100, 87), (102, 87), (103, 51), (104, 64), (119, 64)], 51) := by decide +kernel
theorem dX9_nameOf_52 : decode cX9_nameOf 52 = .ok (.aload_n 0, 1) := by decide +kernel
theorem dX9_nameOf_53 : decode cX9_nameOf 53 = .ok (.getfield 133, 3) := by decide +kernel
theorem dX9_nameOf_56 : decode cX9_nameOf 56 = .ok (.ifCond .ne 7, 3) := by decide +kernel
theorem dX9_nameOf_59 : decode cX9_nameOf 59 = .ok (.iconst 2, 1) := by decide +kernel
theorem dX9_nameOf_60 : decode cX9_nameOf 60 = .ok (.goto 4, 3) := by decide +kernel
theorem dX9_nameOf_63 : decode cX9_nameOf 63 = .ok (.iconst 0, 1) := by decide +kernel
theorem dX9_nameOf_64 : decode cX9_nameOf 64 = .ok (.ireturn, 1) := by decide +kernel
theorem dX9_nameOf_65 : decode cX9_nameOf 65 = .ok (.aload_n 0, 1) := by decide +kernel
theorem dX9_nameOf_66 : decode cX9_nameOf 66 = .ok (.getfield 133, 3) := by decide +kernel
theorem dX9_nameOf_69 : decode cX9_nameOf 69 = .ok (.ifCond .eq 7, 3) := by decide +kernel
theorem dX9_nameOf_72 : decode cX9_nameOf 72 = .ok (.iconst (-1), 1) := by decide +kernel
theorem dX9_nameOf_73 : decode cX9_nameOf 73 = .ok (.goto 14, 3) := by decide +kernel
theorem dX9_nameOf_76 : decode cX9_nameOf 76 = .ok (.iload_n 1, 1) := by decide +kernel
theorem dX9_nameOf_77 : decode cX9_nameOf 77 = .ok (.bipush 119, 2) := by decide +kernel
theorem dX9_nameOf_79 : decode cX9_nameOf 79 = .ok (.if_icmp .ne 7, 3) := by decide +kernel
theorem dX9_nameOf_82 : decode cX9_nameOf 82 = .ok (.iconst 0, 1) := by decide +kernel
theorem dX9_nameOf_83 : decode cX9_nameOf 83 = .ok (.goto 4, 3) := by decide +kernel
theorem dX9_nameOf_86 : decode cX9_nameOf 86 = .ok (.iconst 1, 1) := by decide +kernel
theorem dX9_nameOf_87 : decode cX9_nameOf 87 = .ok (.ireturn, 1) := by decide +kernel
theorem dX9_nameOf_88 : decode cX9_nameOf 88 = .ok (.aload_n 0, 1) := by decide +kernel
theorem dX9_nameOf_89 : decode cX9_nameOf 89 = .ok (.getfield 133, 3) := by decide +kernel
theorem dX9_nameOf_92 : decode cX9_nameOf 92 = .ok (.iconst 1, 1) := by decide +kernel
theorem dX9_nameOf_93 : decode cX9_nameOf 93 = .ok (.if_icmp .eq 7, 3) := by decide +kernel
theorem dX9_nameOf_96 : decode cX9_nameOf 96 = .ok (.iconst (-1), 1) := by decide +kernel
theorem dX9_nameOf_97 : decode cX9_nameOf 97 = .ok (.goto 14, 3) := by decide +kernel
theorem dX9_nameOf_100 : decode cX9_nameOf 100 = .ok (.iload_n 1, 1) := by decide +kernel
theorem dX9_nameOf_101 : decode cX9_nameOf 101 = .ok (.bipush 102, 2) := by decide +kernel
theorem dX9_nameOf_103 : decode cX9_nameOf 103 = .ok (.if_icmp .ne 7, 3) := by decide +kernel
theorem dX9_nameOf_106 : decode cX9_nameOf 106 = .ok (.iconst 1, 1) := by decide +kernel
theorem dX9_nameOf_107 : decode cX9_nameOf 107 = .ok (.goto 4, 3) := by decide +kernel
theorem dX9_nameOf_110 : decode cX9_nameOf 110 = .ok (.iconst 2, 1) := by decide +kernel
theorem dX9_nameOf_111 : decode cX9_nameOf 111 = .ok (.ireturn, 1) := by decide +kernel
theorem dX9_nameOf_112 : decode cX9_nameOf 112 = .ok (.iconst (-1), 1) := by decide +kernel
theorem dX9_nameOf_113 : decode cX9_nameOf 113 = .ok (.ireturn, 1) := by decide +kernel
theorem dX9_number_0 : decode cX9_number 0 = .ok (.iconst 0, 1) := by decide +kernel
theorem dX9_number_1 : decode cX9_number 1 = .ok (.istore_n 1, 1) := by decide +kernel
theorem dX9_number_2 : decode cX9_number 2 = .ok (.iconst 0, 1) := by decide +kernel
theorem dX9_number_3 : decode cX9_number 3 = .ok (.istore_n 2, 1) := by decide +kernel
theorem dX9_number_4 : decode cX9_number 4 = .ok (.iload_n 2, 1) := by decide +kernel
theorem dX9_number_5 : decode cX9_number 5 = .ok (.iconst 4, 1) := by decide +kernel
theorem dX9_number_6 : decode cX9_number 6 = .ok (.if_icmp .ge 46, 3) := by decide +kernel
theorem dX9_number_9 : decode cX9_number 9 = .ok (.aload_n 0, 1) := by decide +kernel
theorem dX9_number_10 : decode cX9_number 10 = .ok (.invokevirtual 136, 3) := by decide +kernel
theorem dX9_number_13 : decode cX9_number 13 = .ok (.bipush 48, 2) := by decide +kernel
theorem dX9_number_15 : decode cX9_number 15 = .ok (.bipush 57, 2) := by decide +kernel
theorem dX9_number_17 : decode cX9_number 17 = .ok (.invokestatic 60, 3) := by decide +kernel
theorem dX9_number_20 : decode cX9_number 20 = .ok (.ifCond .eq 32, 3) := by decide +kernel
theorem dX9_number_23 : decode cX9_number 23 = .ok (.bipush 10, 2) := by decide +kernel
theorem dX9_number_25 : decode cX9_number 25 = .ok (.iload_n 1, 1) := by decide +kernel
theorem dX9_number_26 : decode cX9_number 26 = .ok (.imul, 1) := by decide +kernel
theorem dX9_number_27 : decode cX9_number 27 = .ok (.aload_n 0, 1) := by decide +kernel
theorem dX9_number_28 : decode cX9_number 28 = .ok (.invokevirtual 136, 3) := by decide +kernel
theorem dX9_number_31 : decode cX9_number 31 = .ok (.iadd, 1) := by decide +kernel
theorem dX9_number_32 : decode cX9_number 32 = .ok (.bipush 48, 2) := by decide +kernel
theorem dX9_number_34 : decode cX9_number 34 = .ok (.isub, 1) := by decide +kernel
theorem dX9_number_35 : decode cX9_number 35 = .ok (.istore_n 1, 1) := by decide +kernel
theorem dX9_number_36 : decode cX9_number 36 = .ok (.aload_n 0, 1) := by decide +kernel
theorem dX9_number_37 : decode cX9_number 37 = .ok (.dup, 1) := by decide +kernel
theorem dX9_number_38 : decode cX9_number 38 = .ok (.getfield 126, 3) := by decide +kernel
theorem dX9_number_41 : decode cX9_number 41 = .ok (.iconst 1, 1) := by decide +kernel
theorem dX9_number_42 : decode cX9_number 42 = .ok (.iadd, 1) := by decide +kernel
theorem dX9_number_43 : decode cX9_number 43 = .ok (.putfield 126, 3) := by decide +kernel
theorem dX9_number_46 : decode cX9_number 46 = .ok (.iinc 2 1, 3) := by decide +kernel
theorem dX9_number_49 : decode cX9_number 49 = .ok (.goto (-45), 3) := by decide +kernel
theorem dX9_number_52 : decode cX9_number 52 = .ok (.aload_n 0, 1) := by decide +kernel
theorem dX9_number_53 : decode cX9_number 53 = .ok (.iload_n 2, 1) := by decide +kernel
theorem dX9_number_54 : decode cX9_number 54 = .ok (.ifCond .ne 7, 3) := by decide +kernel
theorem dX9_number_57 : decode cX9_number 57 = .ok (.iconst 1, 1) := by decide +kernel
theorem dX9_number_58 : decode cX9_number 58 = .ok (.goto 4, 3) := by decide +kernel
theorem dX9_number_61 : decode cX9_number 61 = .ok (.iconst 0, 1) := by decide +kernel
theorem dX9_number_62 : decode cX9_number 62 = .ok (.putfield 140, 3) := by decide +kernel
theorem dX9_number_65 : decode cX9_number 65 = .ok (.aload_n 0, 1) := by decide +kernel
theorem dX9_number_66 : decode cX9_number 66 = .ok (.iconst 1, 1) := by decide +kernel
theorem dX9_number_67 : decode cX9_number 67 = .ok (.iload_n 1, 1) := by decide +kernel
theorem dX9_number_68 : decode cX9_number 68 = .ok (.invokevirtual 144, 3) := by decide +kernel
theorem dX9_number_71 : decode cX9_number 71 = .ok (.return_, 1) := by decide +kernel
theorem dX9_opens_0 : decode cX9_opens 0 = .ok (.aload_n 0, 1) := by decide +kernel
theorem dX9_opens_1 : decode cX9_opens 1 = .ok (.getfield 148, 3) := by decide +kernel
theorem dX9_opens_4 : decode cX9_opens 4 = .ok (.iconst 5, 1) := by decide +kernel
theorem dX9_opens_5 : decode cX9_opens 5 = .ok (.if_icmp .ne 9, 3) := by decide +kernel
theorem dX9_opens_8 : decode cX9_opens 8 = .ok (.aload_n 0, 1) := by decide +kernel
theorem dX9_opens_9 : decode cX9_opens 9 = .ok (.iconst 1, 1) := by decide +kernel
theorem dX9_opens_10 : decode cX9_opens 10 = .ok (.putfield 140, 3) := by decide +kernel
theorem dX9_opens_13 : decode cX9_opens 13 = .ok (.return_, 1) := by decide +kernel
theorem dX9_opens_14 : decode cX9_opens 14 = .ok (.aload_n 0, 1) := by decide +kernel
theorem dX9_opens_15 : decode cX9_opens 15 = .ok (.dup, 1) := by decide +kernel
theorem dX9_opens_16 : decode cX9_opens 16 = .ok (.getfield 148, 3) := by decide +kernel
theorem dX9_opens_19 : decode cX9_opens 19 = .ok (.iconst 1, 1) := by decide +kernel
theorem dX9_opens_20 : decode cX9_opens 20 = .ok (.iadd, 1) := by decide +kernel
theorem dX9_opens_21 : decode cX9_opens 21 = .ok (.putfield 148, 3) := by decide +kernel
theorem dX9_opens_24 : decode cX9_opens 24 = .ok (.aload_n 0, 1) := by decide +kernel
theorem dX9_opens_25 : decode cX9_opens 25 = .ok (.dup, 1) := by decide +kernel
theorem dX9_opens_26 : decode cX9_opens 26 = .ok (.getfield 126, 3) := by decide +kernel
theorem dX9_opens_29 : decode cX9_opens 29 = .ok (.iconst 1, 1) := by decide +kernel
theorem dX9_opens_30 : decode cX9_opens 30 = .ok (.iadd, 1) := by decide +kernel
theorem dX9_opens_31 : decode cX9_opens 31 = .ok (.putfield 126, 3) := by decide +kernel
theorem dX9_opens_34 : decode cX9_opens 34 = .ok (.iload_n 1, 1) := by decide +kernel
theorem dX9_opens_35 : decode cX9_opens 35 = .ok (.bipush 33, 2) := by decide +kernel
theorem dX9_opens_37 : decode cX9_opens 37 = .ok (.if_icmp .ne 16, 3) := by decide +kernel
theorem dX9_opens_40 : decode cX9_opens 40 = .ok (.aload_n 0, 1) := by decide +kernel
theorem dX9_opens_41 : decode cX9_opens 41 = .ok (.invokevirtual 151, 3) := by decide +kernel
theorem dX9_opens_44 : decode cX9_opens 44 = .ok (.aload_n 0, 1) := by decide +kernel
theorem dX9_opens_45 : decode cX9_opens 45 = .ok (.iconst 3, 1) := by decide +kernel
theorem dX9_opens_46 : decode cX9_opens 46 = .ok (.iconst 0, 1) := by decide +kernel
theorem dX9_opens_47 : decode cX9_opens 47 = .ok (.invokevirtual 144, 3) := by decide +kernel
theorem dX9_opens_50 : decode cX9_opens 50 = .ok (.goto 53, 3) := by decide +kernel
theorem dX9_opens_53 : decode cX9_opens 53 = .ok (.aload_n 0, 1) := by decide +kernel
theorem dX9_opens_54 : decode cX9_opens 54 = .ok (.invokevirtual 154, 3) := by decide +kernel
theorem dX9_opens_57 : decode cX9_opens 57 = .ok (.aload_n 0, 1) := by decide +kernel
theorem dX9_opens_58 : decode cX9_opens 58 = .ok (.aload_n 0, 1) := by decide +kernel
theorem dX9_opens_59 : decode cX9_opens 59 = .ok (.getfield 140, 3) := by decide +kernel
theorem dX9_opens_62 : decode cX9_opens 62 = .ok (.ifCond .ne 12, 3) := by decide +kernel
theorem dX9_opens_65 : decode cX9_opens 65 = .ok (.aload_n 0, 1) := by decide +kernel
theorem dX9_opens_66 : decode cX9_opens 66 = .ok (.invokevirtual 136, 3) := by decide +kernel
theorem dX9_opens_69 : decode cX9_opens 69 = .ok (.bipush 41, 2) := by decide +kernel
theorem dX9_opens_71 : decode cX9_opens 71 = .ok (.if_icmp .eq 7, 3) := by decide +kernel
theorem dX9_opens_74 : decode cX9_opens 74 = .ok (.iconst 1, 1) := by decide +kernel
theorem dX9_opens_75 : decode cX9_opens 75 = .ok (.goto 4, 3) := by decide +kernel
theorem dX9_opens_78 : decode cX9_opens 78 = .ok (.iconst 0, 1) := by decide +kernel
theorem dX9_opens_79 : decode cX9_opens 79 = .ok (.putfield 140, 3) := by decide +kernel
theorem dX9_opens_82 : decode cX9_opens 82 = .ok (.aload_n 0, 1) := by decide +kernel
theorem dX9_opens_83 : decode cX9_opens 83 = .ok (.dup, 1) := by decide +kernel
theorem dX9_opens_84 : decode cX9_opens 84 = .ok (.getfield 126, 3) := by decide +kernel
theorem dX9_opens_87 : decode cX9_opens 87 = .ok (.aload_n 0, 1) := by decide +kernel
theorem dX9_opens_88 : decode cX9_opens 88 = .ok (.getfield 140, 3) := by decide +kernel
theorem dX9_opens_91 : decode cX9_opens 91 = .ok (.ifCond .eq 7, 3) := by decide +kernel
theorem dX9_opens_94 : decode cX9_opens 94 = .ok (.iconst 0, 1) := by decide +kernel
theorem dX9_opens_95 : decode cX9_opens 95 = .ok (.goto 4, 3) := by decide +kernel
theorem dX9_opens_98 : decode cX9_opens 98 = .ok (.iconst 1, 1) := by decide +kernel
theorem dX9_opens_99 : decode cX9_opens 99 = .ok (.iadd, 1) := by decide +kernel
theorem dX9_opens_100 : decode cX9_opens 100 = .ok (.putfield 126, 3) := by decide +kernel
theorem dX9_opens_103 : decode cX9_opens 103 = .ok (.aload_n 0, 1) := by decide +kernel
theorem dX9_opens_104 : decode cX9_opens 104 = .ok (.dup, 1) := by decide +kernel
theorem dX9_opens_105 : decode cX9_opens 105 = .ok (.getfield 148, 3) := by decide +kernel
theorem dX9_opens_108 : decode cX9_opens 108 = .ok (.iconst 1, 1) := by decide +kernel
theorem dX9_opens_109 : decode cX9_opens 109 = .ok (.isub, 1) := by decide +kernel
theorem dX9_opens_110 : decode cX9_opens 110 = .ok (.putfield 148, 3) := by decide +kernel
theorem dX9_opens_113 : decode cX9_opens 113 = .ok (.return_, 1) := by decide +kernel
theorem dX9_one_0 : decode cX9_one 0 = .ok (.aload_n 0, 1) := by decide +kernel
theorem dX9_one_1 : decode cX9_one 1 = .ok (.invokevirtual 136, 3) := by decide +kernel
theorem dX9_one_4 : decode cX9_one 4 = .ok (.istore_n 1, 1) := by decide +kernel
theorem dX9_one_5 : decode cX9_one 5 = .ok (.aload_n 0, 1) := by decide +kernel
theorem dX9_one_6 : decode cX9_one 6 = .ok (.iload_n 1, 1) := by decide +kernel
theorem dX9_one_7 : decode cX9_one 7 = .ok (.invokevirtual 157, 3) := by decide +kernel
theorem dX9_one_10 : decode cX9_one 10 = .ok (.istore_n 2, 1) := by decide +kernel
theorem dX9_one_11 : decode cX9_one 11 = .ok (.iload_n 2, 1) := by decide +kernel
theorem dX9_one_12 : decode cX9_one 12 = .ok (.ifCond .lt 22, 3) := by decide +kernel
theorem dX9_one_15 : decode cX9_one 15 = .ok (.aload_n 0, 1) := by decide +kernel
theorem dX9_one_16 : decode cX9_one 16 = .ok (.dup, 1) := by decide +kernel
theorem dX9_one_17 : decode cX9_one 17 = .ok (.getfield 126, 3) := by decide +kernel
theorem dX9_one_20 : decode cX9_one 20 = .ok (.iconst 1, 1) := by decide +kernel
theorem dX9_one_21 : decode cX9_one 21 = .ok (.iadd, 1) := by decide +kernel
theorem dX9_one_22 : decode cX9_one 22 = .ok (.putfield 126, 3) := by decide +kernel
theorem dX9_one_25 : decode cX9_one 25 = .ok (.aload_n 0, 1) := by decide +kernel
theorem dX9_one_26 : decode cX9_one 26 = .ok (.iconst 2, 1) := by decide +kernel
theorem dX9_one_27 : decode cX9_one 27 = .ok (.iload_n 2, 1) := by decide +kernel
theorem dX9_one_28 : decode cX9_one 28 = .ok (.invokevirtual 144, 3) := by decide +kernel
theorem dX9_one_31 : decode cX9_one 31 = .ok (.goto 27, 3) := by decide +kernel
theorem dX9_one_34 : decode cX9_one 34 = .ok (.iload_n 1, 1) := by decide +kernel
theorem dX9_one_35 : decode cX9_one 35 = .ok (.bipush 33, 2) := by decide +kernel
theorem dX9_one_37 : decode cX9_one 37 = .ok (.if_icmp .eq 9, 3) := by decide +kernel
theorem dX9_one_40 : decode cX9_one 40 = .ok (.iload_n 1, 1) := by decide +kernel
theorem dX9_one_41 : decode cX9_one 41 = .ok (.bipush 40, 2) := by decide +kernel
theorem dX9_one_43 : decode cX9_one 43 = .ok (.if_icmp .ne 11, 3) := by decide +kernel
theorem dX9_one_46 : decode cX9_one 46 = .ok (.aload_n 0, 1) := by decide +kernel
theorem dX9_one_47 : decode cX9_one 47 = .ok (.iload_n 1, 1) := by decide +kernel
theorem dX9_one_48 : decode cX9_one 48 = .ok (.invokevirtual 160, 3) := by decide +kernel
theorem dX9_one_51 : decode cX9_one 51 = .ok (.goto 7, 3) := by decide +kernel
theorem dX9_one_54 : decode cX9_one 54 = .ok (.aload_n 0, 1) := by decide +kernel
theorem dX9_one_55 : decode cX9_one 55 = .ok (.invokevirtual 164, 3) := by decide +kernel
theorem dX9_one_58 : decode cX9_one 58 = .ok (.return_, 1) := by decide +kernel
theorem dX9_times_0 : decode cX9_times 0 = .ok (.aload_n 0, 1) := by decide +kernel
theorem dX9_times_1 : decode cX9_times 1 = .ok (.invokevirtual 151, 3) := by decide +kernel
theorem dX9_times_4 : decode cX9_times 4 = .ok (.aload_n 0, 1) := by decide +kernel
theorem dX9_times_5 : decode cX9_times 5 = .ok (.getfield 140, 3) := by decide +kernel
theorem dX9_times_8 : decode cX9_times 8 = .ok (.ifCond .ne 58, 3) := by decide +kernel
theorem dX9_times_11 : decode cX9_times 11 = .ok (.aload_n 0, 1) := by decide +kernel
theorem dX9_times_12 : decode cX9_times 12 = .ok (.invokevirtual 136, 3) := by decide +kernel
theorem dX9_times_15 : decode cX9_times 15 = .ok (.bipush 42, 2) := by decide +kernel
theorem dX9_times_17 : decode cX9_times 17 = .ok (.if_icmp .eq 21, 3) := by decide +kernel
theorem dX9_times_20 : decode cX9_times 20 = .ok (.aload_n 0, 1) := by decide +kernel
theorem dX9_times_21 : decode cX9_times 21 = .ok (.invokevirtual 136, 3) := by decide +kernel
theorem dX9_times_24 : decode cX9_times 24 = .ok (.bipush 47, 2) := by decide +kernel
theorem dX9_times_26 : decode cX9_times 26 = .ok (.if_icmp .eq 12, 3) := by decide +kernel
theorem dX9_times_29 : decode cX9_times 29 = .ok (.aload_n 0, 1) := by decide +kernel
theorem dX9_times_30 : decode cX9_times 30 = .ok (.invokevirtual 136, 3) := by decide +kernel
theorem dX9_times_33 : decode cX9_times 33 = .ok (.bipush 37, 2) := by decide +kernel
theorem dX9_times_35 : decode cX9_times 35 = .ok (.if_icmp .ne 31, 3) := by decide +kernel
theorem dX9_times_38 : decode cX9_times 38 = .ok (.aload_n 0, 1) := by decide +kernel
theorem dX9_times_39 : decode cX9_times 39 = .ok (.invokevirtual 136, 3) := by decide +kernel
theorem dX9_times_42 : decode cX9_times 42 = .ok (.istore_n 1, 1) := by decide +kernel
theorem dX9_times_43 : decode cX9_times 43 = .ok (.aload_n 0, 1) := by decide +kernel
theorem dX9_times_44 : decode cX9_times 44 = .ok (.dup, 1) := by decide +kernel
theorem dX9_times_45 : decode cX9_times 45 = .ok (.getfield 126, 3) := by decide +kernel
theorem dX9_times_48 : decode cX9_times 48 = .ok (.iconst 1, 1) := by decide +kernel
theorem dX9_times_49 : decode cX9_times 49 = .ok (.iadd, 1) := by decide +kernel
theorem dX9_times_50 : decode cX9_times 50 = .ok (.putfield 126, 3) := by decide +kernel
theorem dX9_times_53 : decode cX9_times 53 = .ok (.aload_n 0, 1) := by decide +kernel
theorem dX9_times_54 : decode cX9_times 54 = .ok (.invokevirtual 151, 3) := by decide +kernel
theorem dX9_times_57 : decode cX9_times 57 = .ok (.aload_n 0, 1) := by decide +kernel
theorem dX9_times_58 : decode cX9_times 58 = .ok (.iload_n 1, 1) := by decide +kernel
theorem dX9_times_59 : decode cX9_times 59 = .ok (.iconst 0, 1) := by decide +kernel
theorem dX9_times_60 : decode cX9_times 60 = .ok (.invokevirtual 144, 3) := by decide +kernel
theorem dX9_times_63 : decode cX9_times 63 = .ok (.goto (-59), 3) := by decide +kernel
theorem dX9_times_66 : decode cX9_times 66 = .ok (.return_, 1) := by decide +kernel
theorem dX9_sum_0 : decode cX9_sum 0 = .ok (.aload_n 0, 1) := by decide +kernel
theorem dX9_sum_1 : decode cX9_sum 1 = .ok (.invokevirtual 167, 3) := by decide +kernel
theorem dX9_sum_4 : decode cX9_sum 4 = .ok (.aload_n 0, 1) := by decide +kernel
theorem dX9_sum_5 : decode cX9_sum 5 = .ok (.getfield 140, 3) := by decide +kernel
theorem dX9_sum_8 : decode cX9_sum 8 = .ok (.ifCond .ne 49, 3) := by decide +kernel
theorem dX9_sum_11 : decode cX9_sum 11 = .ok (.aload_n 0, 1) := by decide +kernel
theorem dX9_sum_12 : decode cX9_sum 12 = .ok (.invokevirtual 136, 3) := by decide +kernel
theorem dX9_sum_15 : decode cX9_sum 15 = .ok (.bipush 43, 2) := by decide +kernel
theorem dX9_sum_17 : decode cX9_sum 17 = .ok (.if_icmp .eq 12, 3) := by decide +kernel
theorem dX9_sum_20 : decode cX9_sum 20 = .ok (.aload_n 0, 1) := by decide +kernel
theorem dX9_sum_21 : decode cX9_sum 21 = .ok (.invokevirtual 136, 3) := by decide +kernel
theorem dX9_sum_24 : decode cX9_sum 24 = .ok (.bipush 45, 2) := by decide +kernel
theorem dX9_sum_26 : decode cX9_sum 26 = .ok (.if_icmp .ne 31, 3) := by decide +kernel
theorem dX9_sum_29 : decode cX9_sum 29 = .ok (.aload_n 0, 1) := by decide +kernel
theorem dX9_sum_30 : decode cX9_sum 30 = .ok (.invokevirtual 136, 3) := by decide +kernel
theorem dX9_sum_33 : decode cX9_sum 33 = .ok (.istore_n 1, 1) := by decide +kernel
theorem dX9_sum_34 : decode cX9_sum 34 = .ok (.aload_n 0, 1) := by decide +kernel
theorem dX9_sum_35 : decode cX9_sum 35 = .ok (.dup, 1) := by decide +kernel
theorem dX9_sum_36 : decode cX9_sum 36 = .ok (.getfield 126, 3) := by decide +kernel
theorem dX9_sum_39 : decode cX9_sum 39 = .ok (.iconst 1, 1) := by decide +kernel
theorem dX9_sum_40 : decode cX9_sum 40 = .ok (.iadd, 1) := by decide +kernel
theorem dX9_sum_41 : decode cX9_sum 41 = .ok (.putfield 126, 3) := by decide +kernel
theorem dX9_sum_44 : decode cX9_sum 44 = .ok (.aload_n 0, 1) := by decide +kernel
theorem dX9_sum_45 : decode cX9_sum 45 = .ok (.invokevirtual 167, 3) := by decide +kernel
theorem dX9_sum_48 : decode cX9_sum 48 = .ok (.aload_n 0, 1) := by decide +kernel
theorem dX9_sum_49 : decode cX9_sum 49 = .ok (.iload_n 1, 1) := by decide +kernel
theorem dX9_sum_50 : decode cX9_sum 50 = .ok (.iconst 0, 1) := by decide +kernel
theorem dX9_sum_51 : decode cX9_sum 51 = .ok (.invokevirtual 144, 3) := by decide +kernel
theorem dX9_sum_54 : decode cX9_sum 54 = .ok (.goto (-50), 3) := by decide +kernel
theorem dX9_sum_57 : decode cX9_sum 57 = .ok (.return_, 1) := by decide +kernel
theorem dX9_compares_0 : decode cX9_compares 0 = .ok (.aload_n 0, 1) := by decide +kernel
theorem dX9_compares_1 : decode cX9_compares 1 = .ok (.invokevirtual 170, 3) := by decide +kernel
theorem dX9_compares_4 : decode cX9_compares 4 = .ok (.aload_n 0, 1) := by decide +kernel
theorem dX9_compares_5 : decode cX9_compares 5 = .ok (.invokevirtual 136, 3) := by decide +kernel
theorem dX9_compares_8 : decode cX9_compares 8 = .ok (.istore_n 1, 1) := by decide +kernel
theorem dX9_compares_9 : decode cX9_compares 9 = .ok (.aload_n 0, 1) := by decide +kernel
theorem dX9_compares_10 : decode cX9_compares 10 = .ok (.getfield 140, 3) := by decide +kernel
theorem dX9_compares_13 : decode cX9_compares 13 = .ok (.ifCond .ne 41, 3) := by decide +kernel
theorem dX9_compares_16 : decode cX9_compares 16 = .ok (.iload_n 1, 1) := by decide +kernel
theorem dX9_compares_17 : decode cX9_compares 17 = .ok (.bipush 60, 2) := by decide +kernel
theorem dX9_compares_19 : decode cX9_compares 19 = .ok (.if_icmp .eq 15, 3) := by decide +kernel
theorem dX9_compares_22 : decode cX9_compares 22 = .ok (.iload_n 1, 1) := by decide +kernel
theorem dX9_compares_23 : decode cX9_compares 23 = .ok (.bipush 61, 2) := by decide +kernel
theorem dX9_compares_25 : decode cX9_compares 25 = .ok (.if_icmp .eq 9, 3) := by decide +kernel
theorem dX9_compares_28 : decode cX9_compares 28 = .ok (.iload_n 1, 1) := by decide +kernel
theorem dX9_compares_29 : decode cX9_compares 29 = .ok (.bipush 62, 2) := by decide +kernel
theorem dX9_compares_31 : decode cX9_compares 31 = .ok (.if_icmp .ne 23, 3) := by decide +kernel
theorem dX9_compares_34 : decode cX9_compares 34 = .ok (.aload_n 0, 1) := by decide +kernel
theorem dX9_compares_35 : decode cX9_compares 35 = .ok (.dup, 1) := by decide +kernel
theorem dX9_compares_36 : decode cX9_compares 36 = .ok (.getfield 126, 3) := by decide +kernel
theorem dX9_compares_39 : decode cX9_compares 39 = .ok (.iconst 1, 1) := by decide +kernel
theorem dX9_compares_40 : decode cX9_compares 40 = .ok (.iadd, 1) := by decide +kernel
theorem dX9_compares_41 : decode cX9_compares 41 = .ok (.putfield 126, 3) := by decide +kernel
theorem dX9_compares_44 : decode cX9_compares 44 = .ok (.aload_n 0, 1) := by decide +kernel
theorem dX9_compares_45 : decode cX9_compares 45 = .ok (.invokevirtual 170, 3) := by decide +kernel
theorem dX9_compares_48 : decode cX9_compares 48 = .ok (.aload_n 0, 1) := by decide +kernel
theorem dX9_compares_49 : decode cX9_compares 49 = .ok (.iload_n 1, 1) := by decide +kernel
theorem dX9_compares_50 : decode cX9_compares 50 = .ok (.iconst 0, 1) := by decide +kernel
theorem dX9_compares_51 : decode cX9_compares 51 = .ok (.invokevirtual 144, 3) := by decide +kernel
theorem dX9_compares_54 : decode cX9_compares 54 = .ok (.return_, 1) := by decide +kernel
theorem dX9_allBy_0 : decode cX9_allBy 0 = .ok (.aload_n 0, 1) := by decide +kernel
theorem dX9_allBy_1 : decode cX9_allBy 1 = .ok (.invokevirtual 173, 3) := by decide +kernel
theorem dX9_allBy_4 : decode cX9_allBy 4 = .ok (.aload_n 0, 1) := by decide +kernel
theorem dX9_allBy_5 : decode cX9_allBy 5 = .ok (.getfield 140, 3) := by decide +kernel
theorem dX9_allBy_8 : decode cX9_allBy 8 = .ok (.ifCond .ne 36, 3) := by decide +kernel
theorem dX9_allBy_11 : decode cX9_allBy 11 = .ok (.aload_n 0, 1) := by decide +kernel
theorem dX9_allBy_12 : decode cX9_allBy 12 = .ok (.invokevirtual 136, 3) := by decide +kernel
theorem dX9_allBy_15 : decode cX9_allBy 15 = .ok (.bipush 38, 2) := by decide +kernel
theorem dX9_allBy_17 : decode cX9_allBy 17 = .ok (.if_icmp .ne 27, 3) := by decide +kernel
theorem dX9_allBy_20 : decode cX9_allBy 20 = .ok (.aload_n 0, 1) := by decide +kernel
theorem dX9_allBy_21 : decode cX9_allBy 21 = .ok (.dup, 1) := by decide +kernel
theorem dX9_allBy_22 : decode cX9_allBy 22 = .ok (.getfield 126, 3) := by decide +kernel
theorem dX9_allBy_25 : decode cX9_allBy 25 = .ok (.iconst 1, 1) := by decide +kernel
theorem dX9_allBy_26 : decode cX9_allBy 26 = .ok (.iadd, 1) := by decide +kernel
theorem dX9_allBy_27 : decode cX9_allBy 27 = .ok (.putfield 126, 3) := by decide +kernel
theorem dX9_allBy_30 : decode cX9_allBy 30 = .ok (.aload_n 0, 1) := by decide +kernel
theorem dX9_allBy_31 : decode cX9_allBy 31 = .ok (.invokevirtual 173, 3) := by decide +kernel
theorem dX9_allBy_34 : decode cX9_allBy 34 = .ok (.aload_n 0, 1) := by decide +kernel
theorem dX9_allBy_35 : decode cX9_allBy 35 = .ok (.bipush 38, 2) := by decide +kernel
theorem dX9_allBy_37 : decode cX9_allBy 37 = .ok (.iconst 0, 1) := by decide +kernel
theorem dX9_allBy_38 : decode cX9_allBy 38 = .ok (.invokevirtual 144, 3) := by decide +kernel
theorem dX9_allBy_41 : decode cX9_allBy 41 = .ok (.goto (-37), 3) := by decide +kernel
theorem dX9_allBy_44 : decode cX9_allBy 44 = .ok (.return_, 1) := by decide +kernel
theorem dX9_any_0 : decode cX9_any 0 = .ok (.aload_n 0, 1) := by decide +kernel
theorem dX9_any_1 : decode cX9_any 1 = .ok (.invokevirtual 176, 3) := by decide +kernel
theorem dX9_any_4 : decode cX9_any 4 = .ok (.aload_n 0, 1) := by decide +kernel
theorem dX9_any_5 : decode cX9_any 5 = .ok (.getfield 140, 3) := by decide +kernel
theorem dX9_any_8 : decode cX9_any 8 = .ok (.ifCond .ne 36, 3) := by decide +kernel
theorem dX9_any_11 : decode cX9_any 11 = .ok (.aload_n 0, 1) := by decide +kernel
theorem dX9_any_12 : decode cX9_any 12 = .ok (.invokevirtual 136, 3) := by decide +kernel
theorem dX9_any_15 : decode cX9_any 15 = .ok (.bipush 124, 2) := by decide +kernel
theorem dX9_any_17 : decode cX9_any 17 = .ok (.if_icmp .ne 27, 3) := by decide +kernel
theorem dX9_any_20 : decode cX9_any 20 = .ok (.aload_n 0, 1) := by decide +kernel
theorem dX9_any_21 : decode cX9_any 21 = .ok (.dup, 1) := by decide +kernel
theorem dX9_any_22 : decode cX9_any 22 = .ok (.getfield 126, 3) := by decide +kernel
theorem dX9_any_25 : decode cX9_any 25 = .ok (.iconst 1, 1) := by decide +kernel
theorem dX9_any_26 : decode cX9_any 26 = .ok (.iadd, 1) := by decide +kernel
theorem dX9_any_27 : decode cX9_any 27 = .ok (.putfield 126, 3) := by decide +kernel
theorem dX9_any_30 : decode cX9_any 30 = .ok (.aload_n 0, 1) := by decide +kernel
theorem dX9_any_31 : decode cX9_any 31 = .ok (.invokevirtual 176, 3) := by decide +kernel
theorem dX9_any_34 : decode cX9_any 34 = .ok (.aload_n 0, 1) := by decide +kernel
theorem dX9_any_35 : decode cX9_any 35 = .ok (.bipush 124, 2) := by decide +kernel
theorem dX9_any_37 : decode cX9_any 37 = .ok (.iconst 0, 1) := by decide +kernel
theorem dX9_any_38 : decode cX9_any 38 = .ok (.invokevirtual 144, 3) := by decide +kernel
theorem dX9_any_41 : decode cX9_any 41 = .ok (.goto (-37), 3) := by decide +kernel
theorem dX9_any_44 : decode cX9_any 44 = .ok (.return_, 1) := by decide +kernel
theorem dX9_text_0 : decode cX9_text 0 = .ok (.iload_n 1, 1) := by decide +kernel
theorem dX9_text_1 : decode cX9_text 1 = .ok (.iconst 0, 1) := by decide +kernel
theorem dX9_text_2 : decode cX9_text 2 = .ok (.iconst 1, 1) := by decide +kernel
theorem dX9_text_3 : decode cX9_text 3 = .ok (.invokestatic 60, 3) := by decide +kernel
theorem dX9_text_6 : decode cX9_text 6 = .ok (.ifCond .ne 10, 3) := by decide +kernel
theorem dX9_text_9 : decode cX9_text 9 = .ok (.aload_n 0, 1) := by decide +kernel
theorem dX9_text_10 : decode cX9_text 10 = .ok (.ldc 95, 2) := by decide +kernel
theorem dX9_text_12 : decode cX9_text 12 = .ok (.invokevirtual 96, 3) := by decide +kernel
theorem dX9_text_15 : decode cX9_text 15 = .ok (.ireturn, 1) := by decide +kernel
theorem dX9_text_16 : decode cX9_text 16 = .ok (.aload_n 0, 1) := by decide +kernel
theorem dX9_text_17 : decode cX9_text 17 = .ok (.iload_n 1, 1) := by decide +kernel
theorem dX9_text_18 : decode cX9_text 18 = .ok (.putfield 133, 3) := by decide +kernel
theorem dX9_text_21 : decode cX9_text 21 = .ok (.aload_n 0, 1) := by decide +kernel
theorem dX9_text_22 : decode cX9_text 22 = .ok (.iconst 0, 1) := by decide +kernel
theorem dX9_text_23 : decode cX9_text 23 = .ok (.putfield 130, 3) := by decide +kernel
theorem dX9_text_26 : decode cX9_text 26 = .ok (.aload_n 0, 1) := by decide +kernel
theorem dX9_text_27 : decode cX9_text 27 = .ok (.iconst 0, 1) := by decide +kernel
theorem dX9_text_28 : decode cX9_text 28 = .ok (.putfield 126, 3) := by decide +kernel
theorem dX9_text_31 : decode cX9_text 31 = .ok (.aload_n 0, 1) := by decide +kernel
theorem dX9_text_32 : decode cX9_text 32 = .ok (.iconst 0, 1) := by decide +kernel
theorem dX9_text_33 : decode cX9_text 33 = .ok (.putfield 148, 3) := by decide +kernel
theorem dX9_text_36 : decode cX9_text 36 = .ok (.aload_n 0, 1) := by decide +kernel
theorem dX9_text_37 : decode cX9_text 37 = .ok (.iconst 0, 1) := by decide +kernel
theorem dX9_text_38 : decode cX9_text 38 = .ok (.putfield 140, 3) := by decide +kernel
theorem dX9_text_41 : decode cX9_text 41 = .ok (.aload_n 0, 1) := by decide +kernel
theorem dX9_text_42 : decode cX9_text 42 = .ok (.invokevirtual 154, 3) := by decide +kernel
theorem dX9_text_45 : decode cX9_text 45 = .ok (.aload_n 0, 1) := by decide +kernel
theorem dX9_text_46 : decode cX9_text 46 = .ok (.aload_n 0, 1) := by decide +kernel
theorem dX9_text_47 : decode cX9_text 47 = .ok (.getfield 140, 3) := by decide +kernel
theorem dX9_text_50 : decode cX9_text 50 = .ok (.ifCond .ne 17, 3) := by decide +kernel
theorem dX9_text_53 : decode cX9_text 53 = .ok (.aload_n 0, 1) := by decide +kernel
theorem dX9_text_54 : decode cX9_text 54 = .ok (.getfield 126, 3) := by decide +kernel
theorem dX9_text_57 : decode cX9_text 57 = .ok (.aload_n 0, 1) := by decide +kernel
theorem dX9_text_58 : decode cX9_text 58 = .ok (.getfield 9, 3) := by decide +kernel
theorem dX9_text_61 : decode cX9_text 61 = .ok (.bipush 6, 2) := by decide +kernel
theorem dX9_text_63 : decode cX9_text 63 = .ok (.iaload, 1) := by decide +kernel
theorem dX9_text_64 : decode cX9_text 64 = .ok (.if_icmp .ge 7, 3) := by decide +kernel
theorem dX9_text_67 : decode cX9_text 67 = .ok (.iconst 1, 1) := by decide +kernel
theorem dX9_text_68 : decode cX9_text 68 = .ok (.goto 4, 3) := by decide +kernel
theorem dX9_text_71 : decode cX9_text 71 = .ok (.iconst 0, 1) := by decide +kernel
theorem dX9_text_72 : decode cX9_text 72 = .ok (.putfield 140, 3) := by decide +kernel
theorem dX9_text_75 : decode cX9_text 75 = .ok (.aload_n 0, 1) := by decide +kernel
theorem dX9_text_76 : decode cX9_text 76 = .ok (.getfield 9, 3) := by decide +kernel
theorem dX9_text_79 : decode cX9_text 79 = .ok (.bipush 6, 2) := by decide +kernel
theorem dX9_text_81 : decode cX9_text 81 = .ok (.iconst 0, 1) := by decide +kernel
theorem dX9_text_82 : decode cX9_text 82 = .ok (.iastore, 1) := by decide +kernel
theorem dX9_text_83 : decode cX9_text 83 = .ok (.aload_n 0, 1) := by decide +kernel
theorem dX9_text_84 : decode cX9_text 84 = .ok (.getfield 140, 3) := by decide +kernel
theorem dX9_text_87 : decode cX9_text 87 = .ok (.ifCond .eq 11, 3) := by decide +kernel
theorem dX9_text_90 : decode cX9_text 90 = .ok (.bipush (-10), 2) := by decide +kernel
theorem dX9_text_92 : decode cX9_text 92 = .ok (.aload_n 0, 1) := by decide +kernel
theorem dX9_text_93 : decode cX9_text 93 = .ok (.getfield 126, 3) := by decide +kernel
theorem dX9_text_96 : decode cX9_text 96 = .ok (.isub, 1) := by decide +kernel
theorem dX9_text_97 : decode cX9_text 97 = .ok (.ireturn, 1) := by decide +kernel
theorem dX9_text_98 : decode cX9_text 98 = .ok (.sipush 153, 3) := by decide +kernel
theorem dX9_text_101 : decode cX9_text 101 = .ok (.bipush 121, 2) := by decide +kernel
theorem dX9_text_103 : decode cX9_text 103 = .ok (.iload_n 1, 1) := by decide +kernel
theorem dX9_text_104 : decode cX9_text 104 = .ok (.imul, 1) := by decide +kernel
theorem dX9_text_105 : decode cX9_text 105 = .ok (.iadd, 1) := by decide +kernel
theorem dX9_text_106 : decode cX9_text 106 = .ok (.istore_n 2, 1) := by decide +kernel
theorem dX9_text_107 : decode cX9_text 107 = .ok (.aload_n 0, 1) := by decide +kernel
theorem dX9_text_108 : decode cX9_text 108 = .ok (.getfield 9, 3) := by decide +kernel
theorem dX9_text_111 : decode cX9_text 111 = .ok (.iload_n 2, 1) := by decide +kernel
theorem dX9_text_112 : decode cX9_text 112 = .ok (.aload_n 0, 1) := by decide +kernel
theorem dX9_text_113 : decode cX9_text 113 = .ok (.getfield 130, 3) := by decide +kernel
theorem dX9_text_116 : decode cX9_text 116 = .ok (.iastore, 1) := by decide +kernel
theorem dX9_text_117 : decode cX9_text 117 = .ok (.iconst 0, 1) := by decide +kernel
theorem dX9_text_118 : decode cX9_text 118 = .ok (.istore_n 3, 1) := by decide +kernel
theorem dX9_text_119 : decode cX9_text 119 = .ok (.iload_n 3, 1) := by decide +kernel
theorem dX9_text_120 : decode cX9_text 120 = .ok (.aload_n 0, 1) := by decide +kernel
theorem dX9_text_121 : decode cX9_text 121 = .ok (.getfield 130, 3) := by decide +kernel
theorem dX9_text_124 : decode cX9_text 124 = .ok (.if_icmp .ge 42, 3) := by decide +kernel
theorem dX9_text_127 : decode cX9_text 127 = .ok (.aload_n 0, 1) := by decide +kernel
theorem dX9_text_128 : decode cX9_text 128 = .ok (.getfield 9, 3) := by decide +kernel
theorem dX9_text_131 : decode cX9_text 131 = .ok (.iload_n 2, 1) := by decide +kernel
theorem dX9_text_132 : decode cX9_text 132 = .ok (.iconst 1, 1) := by decide +kernel
theorem dX9_text_133 : decode cX9_text 133 = .ok (.iadd, 1) := by decide +kernel
theorem dX9_text_134 : decode cX9_text 134 = .ok (.iload_n 3, 1) := by decide +kernel
theorem dX9_text_135 : decode cX9_text 135 = .ok (.iadd, 1) := by decide +kernel
theorem dX9_text_136 : decode cX9_text 136 = .ok (.aload_n 0, 1) := by decide +kernel
theorem dX9_text_137 : decode cX9_text 137 = .ok (.getfield 31, 3) := by decide +kernel
theorem dX9_text_140 : decode cX9_text 140 = .ok (.iload_n 3, 1) := by decide +kernel
theorem dX9_text_141 : decode cX9_text 141 = .ok (.iaload, 1) := by decide +kernel
theorem dX9_text_142 : decode cX9_text 142 = .ok (.iastore, 1) := by decide +kernel
theorem dX9_text_143 : decode cX9_text 143 = .ok (.aload_n 0, 1) := by decide +kernel
theorem dX9_text_144 : decode cX9_text 144 = .ok (.getfield 9, 3) := by decide +kernel
theorem dX9_text_147 : decode cX9_text 147 = .ok (.iload_n 2, 1) := by decide +kernel
theorem dX9_text_148 : decode cX9_text 148 = .ok (.bipush 61, 2) := by decide +kernel
theorem dX9_text_150 : decode cX9_text 150 = .ok (.iadd, 1) := by decide +kernel
theorem dX9_text_151 : decode cX9_text 151 = .ok (.iload_n 3, 1) := by decide +kernel
theorem dX9_text_152 : decode cX9_text 152 = .ok (.iadd, 1) := by decide +kernel
theorem dX9_text_153 : decode cX9_text 153 = .ok (.aload_n 0, 1) := by decide +kernel
theorem dX9_text_154 : decode cX9_text 154 = .ok (.getfield 34, 3) := by decide +kernel
theorem dX9_text_157 : decode cX9_text 157 = .ok (.iload_n 3, 1) := by decide +kernel
theorem dX9_text_158 : decode cX9_text 158 = .ok (.iaload, 1) := by decide +kernel
theorem dX9_text_159 : decode cX9_text 159 = .ok (.iastore, 1) := by decide +kernel
theorem dX9_text_160 : decode cX9_text 160 = .ok (.iinc 3 1, 3) := by decide +kernel
theorem dX9_text_163 : decode cX9_text 163 = .ok (.goto (-44), 3) := by decide +kernel
theorem dX9_text_166 : decode cX9_text 166 = .ok (.iconst 1, 1) := by decide +kernel
theorem dX9_text_167 : decode cX9_text 167 = .ok (.ireturn, 1) := by decide +kernel
theorem dX9_untell_0 : decode cX9_untell 0 = .ok (.iload_n 1, 1) := by decide +kernel
theorem dX9_untell_1 : decode cX9_untell 1 = .ok (.iconst 0, 1) := by decide +kernel
theorem dX9_untell_2 : decode cX9_untell 2 = .ok (.iconst 1, 1) := by decide +kernel
theorem dX9_untell_3 : decode cX9_untell 3 = .ok (.invokestatic 60, 3) := by decide +kernel
theorem dX9_untell_6 : decode cX9_untell 6 = .ok (.ifCond .ne 10, 3) := by decide +kernel
theorem dX9_untell_9 : decode cX9_untell 9 = .ok (.aload_n 0, 1) := by decide +kernel
theorem dX9_untell_10 : decode cX9_untell 10 = .ok (.ldc 95, 2) := by decide +kernel
theorem dX9_untell_12 : decode cX9_untell 12 = .ok (.invokevirtual 96, 3) := by decide +kernel
theorem dX9_untell_15 : decode cX9_untell 15 = .ok (.ireturn, 1) := by decide +kernel
theorem dX9_untell_16 : decode cX9_untell 16 = .ok (.aload_n 0, 1) := by decide +kernel
theorem dX9_untell_17 : decode cX9_untell 17 = .ok (.sipush 153, 3) := by decide +kernel
theorem dX9_untell_20 : decode cX9_untell 20 = .ok (.bipush 121, 2) := by decide +kernel
theorem dX9_untell_22 : decode cX9_untell 22 = .ok (.iload_n 1, 1) := by decide +kernel
theorem dX9_untell_23 : decode cX9_untell 23 = .ok (.imul, 1) := by decide +kernel
theorem dX9_untell_24 : decode cX9_untell 24 = .ok (.iadd, 1) := by decide +kernel
theorem dX9_untell_25 : decode cX9_untell 25 = .ok (.iconst 0, 1) := by decide +kernel
theorem dX9_untell_26 : decode cX9_untell 26 = .ok (.invokevirtual 109, 3) := by decide +kernel
theorem dX9_untell_29 : decode cX9_untell 29 = .ok (.ifCond .le 7, 3) := by decide +kernel
theorem dX9_untell_32 : decode cX9_untell 32 = .ok (.iconst 1, 1) := by decide +kernel
theorem dX9_untell_33 : decode cX9_untell 33 = .ok (.goto 4, 3) := by decide +kernel
theorem dX9_untell_36 : decode cX9_untell 36 = .ok (.iconst 0, 1) := by decide +kernel
theorem dX9_untell_37 : decode cX9_untell 37 = .ok (.ireturn, 1) := by decide +kernel
theorem dX9_twoOf_0 : decode cX9_twoOf 0 = .ok (.iload_n 0, 1) := by decide +kernel
theorem dX9_twoOf_1 : decode cX9_twoOf 1 = .ok (.tableswitch 202 37 62 #[143, 188, 202, 202, 202, 127, 119, 202, 123, 202, 131, 202, 202, 202, 202, 202, 202, 202, 202, 202, 202, 202, 202, 155, 166, 177], 119) := by decide +kernel
theorem dX9_twoOf_120 : decode cX9_twoOf 120 = .ok (.iload_n 1, 1) := by decide +kernel
theorem dX9_twoOf_121 : decode cX9_twoOf 121 = .ok (.iload_n 2, 1) := by decide +kernel
theorem dX9_twoOf_122 : decode cX9_twoOf 122 = .ok (.iadd, 1) := by decide +kernel
theorem dX9_twoOf_123 : decode cX9_twoOf 123 = .ok (.ireturn, 1) := by decide +kernel
theorem dX9_twoOf_124 : decode cX9_twoOf 124 = .ok (.iload_n 1, 1) := by decide +kernel
theorem dX9_twoOf_125 : decode cX9_twoOf 125 = .ok (.iload_n 2, 1) := by decide +kernel
theorem dX9_twoOf_126 : decode cX9_twoOf 126 = .ok (.isub, 1) := by decide +kernel
theorem dX9_twoOf_127 : decode cX9_twoOf 127 = .ok (.ireturn, 1) := by decide +kernel
theorem dX9_twoOf_128 : decode cX9_twoOf 128 = .ok (.iload_n 1, 1) := by decide +kernel
theorem dX9_twoOf_129 : decode cX9_twoOf 129 = .ok (.iload_n 2, 1) := by decide +kernel
theorem dX9_twoOf_130 : decode cX9_twoOf 130 = .ok (.imul, 1) := by decide +kernel
theorem dX9_twoOf_131 : decode cX9_twoOf 131 = .ok (.ireturn, 1) := by decide +kernel
theorem dX9_twoOf_132 : decode cX9_twoOf 132 = .ok (.iload_n 2, 1) := by decide +kernel
theorem dX9_twoOf_133 : decode cX9_twoOf 133 = .ok (.ifCond .ne 7, 3) := by decide +kernel
theorem dX9_twoOf_136 : decode cX9_twoOf 136 = .ok (.iconst 0, 1) := by decide +kernel
theorem dX9_twoOf_137 : decode cX9_twoOf 137 = .ok (.goto 6, 3) := by decide +kernel
theorem dX9_twoOf_140 : decode cX9_twoOf 140 = .ok (.iload_n 1, 1) := by decide +kernel
theorem dX9_twoOf_141 : decode cX9_twoOf 141 = .ok (.iload_n 2, 1) := by decide +kernel
theorem dX9_twoOf_142 : decode cX9_twoOf 142 = .ok (.idiv, 1) := by decide +kernel
theorem dX9_twoOf_143 : decode cX9_twoOf 143 = .ok (.ireturn, 1) := by decide +kernel
theorem dX9_twoOf_144 : decode cX9_twoOf 144 = .ok (.iload_n 2, 1) := by decide +kernel
theorem dX9_twoOf_145 : decode cX9_twoOf 145 = .ok (.ifCond .ne 7, 3) := by decide +kernel
theorem dX9_twoOf_148 : decode cX9_twoOf 148 = .ok (.iconst 0, 1) := by decide +kernel
theorem dX9_twoOf_149 : decode cX9_twoOf 149 = .ok (.goto 6, 3) := by decide +kernel
theorem dX9_twoOf_152 : decode cX9_twoOf 152 = .ok (.iload_n 1, 1) := by decide +kernel
theorem dX9_twoOf_153 : decode cX9_twoOf 153 = .ok (.iload_n 2, 1) := by decide +kernel
theorem dX9_twoOf_154 : decode cX9_twoOf 154 = .ok (.irem, 1) := by decide +kernel
theorem dX9_twoOf_155 : decode cX9_twoOf 155 = .ok (.ireturn, 1) := by decide +kernel
theorem dX9_twoOf_156 : decode cX9_twoOf 156 = .ok (.iload_n 1, 1) := by decide +kernel
theorem dX9_twoOf_157 : decode cX9_twoOf 157 = .ok (.iload_n 2, 1) := by decide +kernel
theorem dX9_twoOf_158 : decode cX9_twoOf 158 = .ok (.if_icmp .ge 7, 3) := by decide +kernel
theorem dX9_twoOf_161 : decode cX9_twoOf 161 = .ok (.iconst 1, 1) := by decide +kernel
theorem dX9_twoOf_162 : decode cX9_twoOf 162 = .ok (.goto 4, 3) := by decide +kernel
theorem dX9_twoOf_165 : decode cX9_twoOf 165 = .ok (.iconst 0, 1) := by decide +kernel
theorem dX9_twoOf_166 : decode cX9_twoOf 166 = .ok (.ireturn, 1) := by decide +kernel
theorem dX9_twoOf_167 : decode cX9_twoOf 167 = .ok (.iload_n 1, 1) := by decide +kernel
theorem dX9_twoOf_168 : decode cX9_twoOf 168 = .ok (.iload_n 2, 1) := by decide +kernel
theorem dX9_twoOf_169 : decode cX9_twoOf 169 = .ok (.if_icmp .ne 7, 3) := by decide +kernel
theorem dX9_twoOf_172 : decode cX9_twoOf 172 = .ok (.iconst 1, 1) := by decide +kernel
theorem dX9_twoOf_173 : decode cX9_twoOf 173 = .ok (.goto 4, 3) := by decide +kernel
theorem dX9_twoOf_176 : decode cX9_twoOf 176 = .ok (.iconst 0, 1) := by decide +kernel
theorem dX9_twoOf_177 : decode cX9_twoOf 177 = .ok (.ireturn, 1) := by decide +kernel
theorem dX9_twoOf_178 : decode cX9_twoOf 178 = .ok (.iload_n 1, 1) := by decide +kernel
theorem dX9_twoOf_179 : decode cX9_twoOf 179 = .ok (.iload_n 2, 1) := by decide +kernel
theorem dX9_twoOf_180 : decode cX9_twoOf 180 = .ok (.if_icmp .le 7, 3) := by decide +kernel
theorem dX9_twoOf_183 : decode cX9_twoOf 183 = .ok (.iconst 1, 1) := by decide +kernel
theorem dX9_twoOf_184 : decode cX9_twoOf 184 = .ok (.goto 4, 3) := by decide +kernel
theorem dX9_twoOf_187 : decode cX9_twoOf 187 = .ok (.iconst 0, 1) := by decide +kernel
theorem dX9_twoOf_188 : decode cX9_twoOf 188 = .ok (.ireturn, 1) := by decide +kernel
theorem dX9_twoOf_189 : decode cX9_twoOf 189 = .ok (.iload_n 1, 1) := by decide +kernel
theorem dX9_twoOf_190 : decode cX9_twoOf 190 = .ok (.ifCond .eq 11, 3) := by decide +kernel
theorem dX9_twoOf_193 : decode cX9_twoOf 193 = .ok (.iload_n 2, 1) := by decide +kernel
theorem dX9_twoOf_194 : decode cX9_twoOf 194 = .ok (.ifCond .eq 7, 3) := by decide +kernel
theorem dX9_twoOf_197 : decode cX9_twoOf 197 = .ok (.iconst 1, 1) := by decide +kernel
theorem dX9_twoOf_198 : decode cX9_twoOf 198 = .ok (.goto 4, 3) := by decide +kernel
theorem dX9_twoOf_201 : decode cX9_twoOf 201 = .ok (.iconst 0, 1) := by decide +kernel
theorem dX9_twoOf_202 : decode cX9_twoOf 202 = .ok (.ireturn, 1) := by decide +kernel
theorem dX9_twoOf_203 : decode cX9_twoOf 203 = .ok (.iload_n 1, 1) := by decide +kernel
theorem dX9_twoOf_204 : decode cX9_twoOf 204 = .ok (.ifCond .ne 7, 3) := by decide +kernel
theorem dX9_twoOf_207 : decode cX9_twoOf 207 = .ok (.iload_n 2, 1) := by decide +kernel
theorem dX9_twoOf_208 : decode cX9_twoOf 208 = .ok (.ifCond .eq 7, 3) := by decide +kernel
theorem dX9_twoOf_211 : decode cX9_twoOf 211 = .ok (.iconst 1, 1) := by decide +kernel
theorem dX9_twoOf_212 : decode cX9_twoOf 212 = .ok (.goto 4, 3) := by decide +kernel
theorem dX9_twoOf_215 : decode cX9_twoOf 215 = .ok (.iconst 0, 1) := by decide +kernel
theorem dX9_twoOf_216 : decode cX9_twoOf 216 = .ok (.ireturn, 1) := by decide +kernel
theorem dX9_works_0 : decode cX9_works 0 = .ok (.iconst 0, 1) := by decide +kernel
theorem dX9_works_1 : decode cX9_works 1 = .ok (.istore_n 2, 1) := by decide +kernel
theorem dX9_works_2 : decode cX9_works 2 = .ok (.iconst 0, 1) := by decide +kernel
theorem dX9_works_3 : decode cX9_works 3 = .ok (.istore_n 3, 1) := by decide +kernel
theorem dX9_works_4 : decode cX9_works 4 = .ok (.iload_n 3, 1) := by decide +kernel
theorem dX9_works_5 : decode cX9_works 5 = .ok (.aload_n 0, 1) := by decide +kernel
theorem dX9_works_6 : decode cX9_works 6 = .ok (.getfield 9, 3) := by decide +kernel
theorem dX9_works_9 : decode cX9_works 9 = .ok (.iload_n 1, 1) := by decide +kernel
theorem dX9_works_10 : decode cX9_works 10 = .ok (.iaload, 1) := by decide +kernel
theorem dX9_works_11 : decode cX9_works 11 = .ok (.if_icmp .ge 144, 3) := by decide +kernel
theorem dX9_works_14 : decode cX9_works 14 = .ok (.aload_n 0, 1) := by decide +kernel
theorem dX9_works_15 : decode cX9_works 15 = .ok (.getfield 9, 3) := by decide +kernel
theorem dX9_works_18 : decode cX9_works 18 = .ok (.iload_n 1, 1) := by decide +kernel
theorem dX9_works_19 : decode cX9_works 19 = .ok (.iconst 1, 1) := by decide +kernel
theorem dX9_works_20 : decode cX9_works 20 = .ok (.iadd, 1) := by decide +kernel
theorem dX9_works_21 : decode cX9_works 21 = .ok (.iload_n 3, 1) := by decide +kernel
theorem dX9_works_22 : decode cX9_works 22 = .ok (.iadd, 1) := by decide +kernel
theorem dX9_works_23 : decode cX9_works 23 = .ok (.iaload, 1) := by decide +kernel
theorem dX9_works_24 : decode cX9_works 24 = .ok (.istore 4, 2) := by decide +kernel
theorem dX9_works_26 : decode cX9_works 26 = .ok (.iload 4, 2) := by decide +kernel
theorem dX9_works_28 : decode cX9_works 28 = .ok (.iconst 1, 1) := by decide +kernel
theorem dX9_works_29 : decode cX9_works 29 = .ok (.if_icmp .eq 9, 3) := by decide +kernel
theorem dX9_works_32 : decode cX9_works 32 = .ok (.iload 4, 2) := by decide +kernel
theorem dX9_works_34 : decode cX9_works 34 = .ok (.iconst 2, 1) := by decide +kernel
theorem dX9_works_35 : decode cX9_works 35 = .ok (.if_icmp .ne 51, 3) := by decide +kernel
theorem dX9_works_38 : decode cX9_works 38 = .ok (.aload_n 0, 1) := by decide +kernel
theorem dX9_works_39 : decode cX9_works 39 = .ok (.getfield 40, 3) := by decide +kernel
theorem dX9_works_42 : decode cX9_works 42 = .ok (.iload_n 2, 1) := by decide +kernel
theorem dX9_works_43 : decode cX9_works 43 = .ok (.iload 4, 2) := by decide +kernel
theorem dX9_works_45 : decode cX9_works 45 = .ok (.iconst 1, 1) := by decide +kernel
theorem dX9_works_46 : decode cX9_works 46 = .ok (.if_icmp .ne 17, 3) := by decide +kernel
theorem dX9_works_49 : decode cX9_works 49 = .ok (.aload_n 0, 1) := by decide +kernel
theorem dX9_works_50 : decode cX9_works 50 = .ok (.getfield 9, 3) := by decide +kernel
theorem dX9_works_53 : decode cX9_works 53 = .ok (.iload_n 1, 1) := by decide +kernel
theorem dX9_works_54 : decode cX9_works 54 = .ok (.bipush 61, 2) := by decide +kernel
theorem dX9_works_56 : decode cX9_works 56 = .ok (.iadd, 1) := by decide +kernel
theorem dX9_works_57 : decode cX9_works 57 = .ok (.iload_n 3, 1) := by decide +kernel
theorem dX9_works_58 : decode cX9_works 58 = .ok (.iadd, 1) := by decide +kernel
theorem dX9_works_59 : decode cX9_works 59 = .ok (.iaload, 1) := by decide +kernel
theorem dX9_works_60 : decode cX9_works 60 = .ok (.goto 19, 3) := by decide +kernel
theorem dX9_works_63 : decode cX9_works 63 = .ok (.aload_n 0, 1) := by decide +kernel
theorem dX9_works_64 : decode cX9_works 64 = .ok (.getfield 37, 3) := by decide +kernel
theorem dX9_works_67 : decode cX9_works 67 = .ok (.aload_n 0, 1) := by decide +kernel
theorem dX9_works_68 : decode cX9_works 68 = .ok (.getfield 9, 3) := by decide +kernel
theorem dX9_works_71 : decode cX9_works 71 = .ok (.iload_n 1, 1) := by decide +kernel
theorem dX9_works_72 : decode cX9_works 72 = .ok (.bipush 61, 2) := by decide +kernel
theorem dX9_works_74 : decode cX9_works 74 = .ok (.iadd, 1) := by decide +kernel
theorem dX9_works_75 : decode cX9_works 75 = .ok (.iload_n 3, 1) := by decide +kernel
theorem dX9_works_76 : decode cX9_works 76 = .ok (.iadd, 1) := by decide +kernel
theorem dX9_works_77 : decode cX9_works 77 = .ok (.iaload, 1) := by decide +kernel
theorem dX9_works_78 : decode cX9_works 78 = .ok (.iaload, 1) := by decide +kernel
theorem dX9_works_79 : decode cX9_works 79 = .ok (.iastore, 1) := by decide +kernel
theorem dX9_works_80 : decode cX9_works 80 = .ok (.iinc 2 1, 3) := by decide +kernel
theorem dX9_works_83 : decode cX9_works 83 = .ok (.goto 66, 3) := by decide +kernel
theorem dX9_works_86 : decode cX9_works 86 = .ok (.iload 4, 2) := by decide +kernel
theorem dX9_works_88 : decode cX9_works 88 = .ok (.iconst 3, 1) := by decide +kernel
theorem dX9_works_89 : decode cX9_works 89 = .ok (.if_icmp .ne 30, 3) := by decide +kernel
theorem dX9_works_92 : decode cX9_works 92 = .ok (.aload_n 0, 1) := by decide +kernel
theorem dX9_works_93 : decode cX9_works 93 = .ok (.getfield 40, 3) := by decide +kernel
theorem dX9_works_96 : decode cX9_works 96 = .ok (.iload_n 2, 1) := by decide +kernel
theorem dX9_works_97 : decode cX9_works 97 = .ok (.iconst 1, 1) := by decide +kernel
theorem dX9_works_98 : decode cX9_works 98 = .ok (.isub, 1) := by decide +kernel
theorem dX9_works_99 : decode cX9_works 99 = .ok (.aload_n 0, 1) := by decide +kernel
theorem dX9_works_100 : decode cX9_works 100 = .ok (.getfield 40, 3) := by decide +kernel
theorem dX9_works_103 : decode cX9_works 103 = .ok (.iload_n 2, 1) := by decide +kernel
theorem dX9_works_104 : decode cX9_works 104 = .ok (.iconst 1, 1) := by decide +kernel
theorem dX9_works_105 : decode cX9_works 105 = .ok (.isub, 1) := by decide +kernel
theorem dX9_works_106 : decode cX9_works 106 = .ok (.iaload, 1) := by decide +kernel
theorem dX9_works_107 : decode cX9_works 107 = .ok (.ifCond .ne 7, 3) := by decide +kernel
theorem dX9_works_110 : decode cX9_works 110 = .ok (.iconst 1, 1) := by decide +kernel
theorem dX9_works_111 : decode cX9_works 111 = .ok (.goto 4, 3) := by decide +kernel
theorem dX9_works_114 : decode cX9_works 114 = .ok (.iconst 0, 1) := by decide +kernel
theorem dX9_works_115 : decode cX9_works 115 = .ok (.iastore, 1) := by decide +kernel
theorem dX9_works_116 : decode cX9_works 116 = .ok (.goto 33, 3) := by decide +kernel
theorem dX9_works_119 : decode cX9_works 119 = .ok (.iinc 2 (-1), 3) := by decide +kernel
theorem dX9_works_122 : decode cX9_works 122 = .ok (.aload_n 0, 1) := by decide +kernel
theorem dX9_works_123 : decode cX9_works 123 = .ok (.getfield 40, 3) := by decide +kernel
theorem dX9_works_126 : decode cX9_works 126 = .ok (.iload_n 2, 1) := by decide +kernel
theorem dX9_works_127 : decode cX9_works 127 = .ok (.iconst 1, 1) := by decide +kernel
theorem dX9_works_128 : decode cX9_works 128 = .ok (.isub, 1) := by decide +kernel
theorem dX9_works_129 : decode cX9_works 129 = .ok (.iload 4, 2) := by decide +kernel
theorem dX9_works_131 : decode cX9_works 131 = .ok (.aload_n 0, 1) := by decide +kernel
theorem dX9_works_132 : decode cX9_works 132 = .ok (.getfield 40, 3) := by decide +kernel
theorem dX9_works_135 : decode cX9_works 135 = .ok (.iload_n 2, 1) := by decide +kernel
theorem dX9_works_136 : decode cX9_works 136 = .ok (.iconst 1, 1) := by decide +kernel
theorem dX9_works_137 : decode cX9_works 137 = .ok (.isub, 1) := by decide +kernel
theorem dX9_works_138 : decode cX9_works 138 = .ok (.iaload, 1) := by decide +kernel
theorem dX9_works_139 : decode cX9_works 139 = .ok (.aload_n 0, 1) := by decide +kernel
theorem dX9_works_140 : decode cX9_works 140 = .ok (.getfield 40, 3) := by decide +kernel
theorem dX9_works_143 : decode cX9_works 143 = .ok (.iload_n 2, 1) := by decide +kernel
theorem dX9_works_144 : decode cX9_works 144 = .ok (.iaload, 1) := by decide +kernel
theorem dX9_works_145 : decode cX9_works 145 = .ok (.invokestatic 179, 3) := by decide +kernel
theorem dX9_works_148 : decode cX9_works 148 = .ok (.iastore, 1) := by decide +kernel
theorem dX9_works_149 : decode cX9_works 149 = .ok (.iinc 3 1, 3) := by decide +kernel
theorem dX9_works_152 : decode cX9_works 152 = .ok (.goto (-148), 3) := by decide +kernel
theorem dX9_works_155 : decode cX9_works 155 = .ok (.aload_n 0, 1) := by decide +kernel
theorem dX9_works_156 : decode cX9_works 156 = .ok (.getfield 40, 3) := by decide +kernel
theorem dX9_works_159 : decode cX9_works 159 = .ok (.iconst 0, 1) := by decide +kernel
theorem dX9_works_160 : decode cX9_works 160 = .ok (.iaload, 1) := by decide +kernel
theorem dX9_works_161 : decode cX9_works 161 = .ok (.ireturn, 1) := by decide +kernel
theorem dX9_gives_0 : decode cX9_gives 0 = .ok (.sipush 153, 3) := by decide +kernel
theorem dX9_gives_3 : decode cX9_gives 3 = .ok (.bipush 121, 2) := by decide +kernel
theorem dX9_gives_5 : decode cX9_gives 5 = .ok (.iload_n 1, 1) := by decide +kernel
theorem dX9_gives_6 : decode cX9_gives 6 = .ok (.imul, 1) := by decide +kernel
theorem dX9_gives_7 : decode cX9_gives 7 = .ok (.iadd, 1) := by decide +kernel
theorem dX9_gives_8 : decode cX9_gives 8 = .ok (.istore 5, 2) := by decide +kernel
theorem dX9_gives_10 : decode cX9_gives 10 = .ok (.aload_n 0, 1) := by decide +kernel
theorem dX9_gives_11 : decode cX9_gives 11 = .ok (.getfield 37, 3) := by decide +kernel
theorem dX9_gives_14 : decode cX9_gives 14 = .ok (.iconst 0, 1) := by decide +kernel
theorem dX9_gives_15 : decode cX9_gives 15 = .ok (.iload_n 2, 1) := by decide +kernel
theorem dX9_gives_16 : decode cX9_gives 16 = .ok (.iastore, 1) := by decide +kernel
theorem dX9_gives_17 : decode cX9_gives 17 = .ok (.aload_n 0, 1) := by decide +kernel
theorem dX9_gives_18 : decode cX9_gives 18 = .ok (.getfield 37, 3) := by decide +kernel
theorem dX9_gives_21 : decode cX9_gives 21 = .ok (.iconst 1, 1) := by decide +kernel
theorem dX9_gives_22 : decode cX9_gives 22 = .ok (.iload_n 3, 1) := by decide +kernel
theorem dX9_gives_23 : decode cX9_gives 23 = .ok (.iastore, 1) := by decide +kernel
theorem dX9_gives_24 : decode cX9_gives 24 = .ok (.aload_n 0, 1) := by decide +kernel
theorem dX9_gives_25 : decode cX9_gives 25 = .ok (.getfield 37, 3) := by decide +kernel
theorem dX9_gives_28 : decode cX9_gives 28 = .ok (.iconst 2, 1) := by decide +kernel
theorem dX9_gives_29 : decode cX9_gives 29 = .ok (.iload 4, 2) := by decide +kernel
theorem dX9_gives_31 : decode cX9_gives 31 = .ok (.iastore, 1) := by decide +kernel
theorem dX9_gives_32 : decode cX9_gives 32 = .ok (.aload_n 0, 1) := by decide +kernel
theorem dX9_gives_33 : decode cX9_gives 33 = .ok (.getfield 9, 3) := by decide +kernel
theorem dX9_gives_36 : decode cX9_gives 36 = .ok (.iload 5, 2) := by decide +kernel
theorem dX9_gives_38 : decode cX9_gives 38 = .ok (.iaload, 1) := by decide +kernel
theorem dX9_gives_39 : decode cX9_gives 39 = .ok (.ifCond .le 12, 3) := by decide +kernel
theorem dX9_gives_42 : decode cX9_gives 42 = .ok (.aload_n 0, 1) := by decide +kernel
theorem dX9_gives_43 : decode cX9_gives 43 = .ok (.iload 5, 2) := by decide +kernel
theorem dX9_gives_45 : decode cX9_gives 45 = .ok (.invokevirtual 183, 3) := by decide +kernel
theorem dX9_gives_48 : decode cX9_gives 48 = .ok (.goto 4, 3) := by decide +kernel
theorem dX9_gives_51 : decode cX9_gives 51 = .ok (.iload_n 2, 1) := by decide +kernel
theorem dX9_gives_52 : decode cX9_gives 52 = .ok (.istore 6, 2) := by decide +kernel
theorem dX9_gives_54 : decode cX9_gives 54 = .ok (.iload_n 1, 1) := by decide +kernel
theorem dX9_gives_55 : decode cX9_gives 55 = .ok (.ifCond .ne 14, 3) := by decide +kernel
theorem dX9_gives_58 : decode cX9_gives 58 = .ok (.iload 6, 2) := by decide +kernel
theorem dX9_gives_60 : decode cX9_gives 60 = .ok (.iconst 0, 1) := by decide +kernel
theorem dX9_gives_61 : decode cX9_gives 61 = .ok (.bipush 19, 2) := by decide +kernel
theorem dX9_gives_63 : decode cX9_gives 63 = .ok (.invokestatic 186, 3) := by decide +kernel
theorem dX9_gives_66 : decode cX9_gives 66 = .ok (.goto 11, 3) := by decide +kernel
theorem dX9_gives_69 : decode cX9_gives 69 = .ok (.iload 6, 2) := by decide +kernel
theorem dX9_gives_71 : decode cX9_gives 71 = .ok (.iconst 0, 1) := by decide +kernel
theorem dX9_gives_72 : decode cX9_gives 72 = .ok (.bipush 99, 2) := by decide +kernel
theorem dX9_gives_74 : decode cX9_gives 74 = .ok (.invokestatic 186, 3) := by decide +kernel
theorem dX9_gives_77 : decode cX9_gives 77 = .ok (.ireturn, 1) := by decide +kernel
theorem dX9_law_0 : decode cX9_law 0 = .ok (.iload_n 1, 1) := by decide +kernel
theorem dX9_law_1 : decode cX9_law 1 = .ok (.iconst 0, 1) := by decide +kernel
theorem dX9_law_2 : decode cX9_law 2 = .ok (.iconst 1, 1) := by decide +kernel
theorem dX9_law_3 : decode cX9_law 3 = .ok (.invokestatic 60, 3) := by decide +kernel
theorem dX9_law_6 : decode cX9_law 6 = .ok (.ifCond .eq 15, 3) := by decide +kernel
theorem dX9_law_9 : decode cX9_law 9 = .ok (.aload_n 0, 1) := by decide +kernel
theorem dX9_law_10 : decode cX9_law 10 = .ok (.iload_n 1, 1) := by decide +kernel
theorem dX9_law_11 : decode cX9_law 11 = .ok (.iload_n 2, 1) := by decide +kernel
theorem dX9_law_12 : decode cX9_law 12 = .ok (.iload_n 3, 1) := by decide +kernel
theorem dX9_law_13 : decode cX9_law 13 = .ok (.iload 4, 2) := by decide +kernel
theorem dX9_law_15 : decode cX9_law 15 = .ok (.invokevirtual 85, 3) := by decide +kernel
theorem dX9_law_18 : decode cX9_law 18 = .ok (.goto 9, 3) := by decide +kernel
theorem dX9_law_21 : decode cX9_law 21 = .ok (.aload_n 0, 1) := by decide +kernel
theorem dX9_law_22 : decode cX9_law 22 = .ok (.ldc 95, 2) := by decide +kernel
theorem dX9_law_24 : decode cX9_law 24 = .ok (.invokevirtual 96, 3) := by decide +kernel
theorem dX9_law_27 : decode cX9_law 27 = .ok (.ireturn, 1) := by decide +kernel
theorem dX9_letsGo_0 : decode cX9_letsGo 0 = .ok (.aload_n 0, 1) := by decide +kernel
theorem dX9_letsGo_1 : decode cX9_letsGo 1 = .ok (.iload_n 1, 1) := by decide +kernel
theorem dX9_letsGo_2 : decode cX9_letsGo 2 = .ok (.invokevirtual 103, 3) := by decide +kernel
theorem dX9_letsGo_5 : decode cX9_letsGo 5 = .ok (.aload_n 0, 1) := by decide +kernel
theorem dX9_letsGo_6 : decode cX9_letsGo 6 = .ok (.iload_n 1, 1) := by decide +kernel
theorem dX9_letsGo_7 : decode cX9_letsGo 7 = .ok (.invokevirtual 106, 3) := by decide +kernel
theorem dX9_letsGo_10 : decode cX9_letsGo 10 = .ok (.if_icmp .gt 4, 3) := by decide +kernel
theorem dX9_letsGo_13 : decode cX9_letsGo 13 = .ok (.return_, 1) := by decide +kernel
theorem dX9_letsGo_14 : decode cX9_letsGo 14 = .ok (.iconst (-1), 1) := by decide +kernel
theorem dX9_letsGo_15 : decode cX9_letsGo 15 = .ok (.istore_n 2, 1) := by decide +kernel
theorem dX9_letsGo_16 : decode cX9_letsGo 16 = .ok (.iconst (-1), 1) := by decide +kernel
theorem dX9_letsGo_17 : decode cX9_letsGo 17 = .ok (.istore_n 3, 1) := by decide +kernel
theorem dX9_letsGo_18 : decode cX9_letsGo 18 = .ok (.iconst 0, 1) := by decide +kernel
theorem dX9_letsGo_19 : decode cX9_letsGo 19 = .ok (.istore 4, 2) := by decide +kernel
theorem dX9_letsGo_21 : decode cX9_letsGo 21 = .ok (.iload 4, 2) := by decide +kernel
theorem dX9_letsGo_23 : decode cX9_letsGo 23 = .ok (.aload_n 0, 1) := by decide +kernel
theorem dX9_letsGo_24 : decode cX9_letsGo 24 = .ok (.getfield 9, 3) := by decide +kernel
theorem dX9_letsGo_27 : decode cX9_letsGo 27 = .ok (.iconst 3, 1) := by decide +kernel
theorem dX9_letsGo_28 : decode cX9_letsGo 28 = .ok (.iaload, 1) := by decide +kernel
theorem dX9_letsGo_29 : decode cX9_letsGo 29 = .ok (.if_icmp .ge 59, 3) := by decide +kernel
theorem dX9_letsGo_32 : decode cX9_letsGo 32 = .ok (.aload_n 0, 1) := by decide +kernel
theorem dX9_letsGo_33 : decode cX9_letsGo 33 = .ok (.iload 4, 2) := by decide +kernel
theorem dX9_letsGo_35 : decode cX9_letsGo 35 = .ok (.iconst 3, 1) := by decide +kernel
theorem dX9_letsGo_36 : decode cX9_letsGo 36 = .ok (.invokevirtual 68, 3) := by decide +kernel
theorem dX9_letsGo_39 : decode cX9_letsGo 39 = .ok (.iload_n 1, 1) := by decide +kernel
theorem dX9_letsGo_40 : decode cX9_letsGo 40 = .ok (.if_icmp .ne 13, 3) := by decide +kernel
theorem dX9_letsGo_43 : decode cX9_letsGo 43 = .ok (.aload_n 0, 1) := by decide +kernel
theorem dX9_letsGo_44 : decode cX9_letsGo 44 = .ok (.iload_n 1, 1) := by decide +kernel
theorem dX9_letsGo_45 : decode cX9_letsGo 45 = .ok (.iload 4, 2) := by decide +kernel
theorem dX9_letsGo_47 : decode cX9_letsGo 47 = .ok (.invokevirtual 89, 3) := by decide +kernel
theorem dX9_letsGo_50 : decode cX9_letsGo 50 = .ok (.goto 4, 3) := by decide +kernel
theorem dX9_letsGo_53 : decode cX9_letsGo 53 = .ok (.iconst (-1), 1) := by decide +kernel
theorem dX9_letsGo_54 : decode cX9_letsGo 54 = .ok (.istore 5, 2) := by decide +kernel
theorem dX9_letsGo_56 : decode cX9_letsGo 56 = .ok (.iload 5, 2) := by decide +kernel
theorem dX9_letsGo_58 : decode cX9_letsGo 58 = .ok (.iload_n 3, 1) := by decide +kernel
theorem dX9_letsGo_59 : decode cX9_letsGo 59 = .ok (.if_icmp .le 8, 3) := by decide +kernel
theorem dX9_letsGo_62 : decode cX9_letsGo 62 = .ok (.iload 4, 2) := by decide +kernel
theorem dX9_letsGo_64 : decode cX9_letsGo 64 = .ok (.goto 4, 3) := by decide +kernel
theorem dX9_letsGo_67 : decode cX9_letsGo 67 = .ok (.iload_n 2, 1) := by decide +kernel
theorem dX9_letsGo_68 : decode cX9_letsGo 68 = .ok (.istore_n 2, 1) := by decide +kernel
theorem dX9_letsGo_69 : decode cX9_letsGo 69 = .ok (.iload 5, 2) := by decide +kernel
theorem dX9_letsGo_71 : decode cX9_letsGo 71 = .ok (.iload_n 3, 1) := by decide +kernel
theorem dX9_letsGo_72 : decode cX9_letsGo 72 = .ok (.if_icmp .le 8, 3) := by decide +kernel
theorem dX9_letsGo_75 : decode cX9_letsGo 75 = .ok (.iload 5, 2) := by decide +kernel
theorem dX9_letsGo_77 : decode cX9_letsGo 77 = .ok (.goto 4, 3) := by decide +kernel
theorem dX9_letsGo_80 : decode cX9_letsGo 80 = .ok (.iload_n 3, 1) := by decide +kernel
theorem dX9_letsGo_81 : decode cX9_letsGo 81 = .ok (.istore_n 3, 1) := by decide +kernel
theorem dX9_letsGo_82 : decode cX9_letsGo 82 = .ok (.iinc 4 1, 3) := by decide +kernel
theorem dX9_letsGo_85 : decode cX9_letsGo 85 = .ok (.goto (-64), 3) := by decide +kernel
theorem dX9_letsGo_88 : decode cX9_letsGo 88 = .ok (.iload_n 2, 1) := by decide +kernel
theorem dX9_letsGo_89 : decode cX9_letsGo 89 = .ok (.ifCond .lt 10, 3) := by decide +kernel
theorem dX9_letsGo_92 : decode cX9_letsGo 92 = .ok (.aload_n 0, 1) := by decide +kernel
theorem dX9_letsGo_93 : decode cX9_letsGo 93 = .ok (.iload_n 2, 1) := by decide +kernel
theorem dX9_letsGo_94 : decode cX9_letsGo 94 = .ok (.iconst 3, 1) := by decide +kernel
theorem dX9_letsGo_95 : decode cX9_letsGo 95 = .ok (.iconst (-1), 1) := by decide +kernel
theorem dX9_letsGo_96 : decode cX9_letsGo 96 = .ok (.invokevirtual 117, 3) := by decide +kernel
theorem dX9_letsGo_99 : decode cX9_letsGo 99 = .ok (.return_, 1) := by decide +kernel
theorem dX9_beyond_0 : decode cX9_beyond 0 = .ok (.aload_n 0, 1) := by decide +kernel
theorem dX9_beyond_1 : decode cX9_beyond 1 = .ok (.iload_n 1, 1) := by decide +kernel
theorem dX9_beyond_2 : decode cX9_beyond 2 = .ok (.iconst 0, 1) := by decide +kernel
theorem dX9_beyond_3 : decode cX9_beyond 3 = .ok (.invokevirtual 68, 3) := by decide +kernel
theorem dX9_beyond_6 : decode cX9_beyond 6 = .ok (.iload_n 2, 1) := by decide +kernel
theorem dX9_beyond_7 : decode cX9_beyond 7 = .ok (.if_icmp .ne 12, 3) := by decide +kernel
theorem dX9_beyond_10 : decode cX9_beyond 10 = .ok (.aload_n 0, 1) := by decide +kernel
theorem dX9_beyond_11 : decode cX9_beyond 11 = .ok (.iload_n 1, 1) := by decide +kernel
theorem dX9_beyond_12 : decode cX9_beyond 12 = .ok (.iconst 1, 1) := by decide +kernel
theorem dX9_beyond_13 : decode cX9_beyond 13 = .ok (.invokevirtual 68, 3) := by decide +kernel
theorem dX9_beyond_16 : decode cX9_beyond 16 = .ok (.goto 23, 3) := by decide +kernel
theorem dX9_beyond_19 : decode cX9_beyond 19 = .ok (.aload_n 0, 1) := by decide +kernel
theorem dX9_beyond_20 : decode cX9_beyond 20 = .ok (.iload_n 1, 1) := by decide +kernel
theorem dX9_beyond_21 : decode cX9_beyond 21 = .ok (.iconst 1, 1) := by decide +kernel
theorem dX9_beyond_22 : decode cX9_beyond 22 = .ok (.invokevirtual 68, 3) := by decide +kernel
theorem dX9_beyond_25 : decode cX9_beyond 25 = .ok (.iload_n 2, 1) := by decide +kernel
theorem dX9_beyond_26 : decode cX9_beyond 26 = .ok (.if_icmp .ne 12, 3) := by decide +kernel
theorem dX9_beyond_29 : decode cX9_beyond 29 = .ok (.aload_n 0, 1) := by decide +kernel
theorem dX9_beyond_30 : decode cX9_beyond 30 = .ok (.iload_n 1, 1) := by decide +kernel
theorem dX9_beyond_31 : decode cX9_beyond 31 = .ok (.iconst 0, 1) := by decide +kernel
theorem dX9_beyond_32 : decode cX9_beyond 32 = .ok (.invokevirtual 68, 3) := by decide +kernel
theorem dX9_beyond_35 : decode cX9_beyond 35 = .ok (.goto 4, 3) := by decide +kernel
theorem dX9_beyond_38 : decode cX9_beyond 38 = .ok (.iconst (-1), 1) := by decide +kernel
theorem dX9_beyond_39 : decode cX9_beyond 39 = .ok (.ireturn, 1) := by decide +kernel
theorem dX9_strays_0 : decode cX9_strays 0 = .ok (.aload_n 0, 1) := by decide +kernel
theorem dX9_strays_1 : decode cX9_strays 1 = .ok (.getfield 9, 3) := by decide +kernel
theorem dX9_strays_4 : decode cX9_strays 4 = .ok (.bipush 63, 2) := by decide +kernel
theorem dX9_strays_6 : decode cX9_strays 6 = .ok (.iload_n 1, 1) := by decide +kernel
theorem dX9_strays_7 : decode cX9_strays 7 = .ok (.iadd, 1) := by decide +kernel
theorem dX9_strays_8 : decode cX9_strays 8 = .ok (.iaload, 1) := by decide +kernel
theorem dX9_strays_9 : decode cX9_strays 9 = .ok (.istore_n 2, 1) := by decide +kernel
theorem dX9_strays_10 : decode cX9_strays 10 = .ok (.iload_n 2, 1) := by decide +kernel
theorem dX9_strays_11 : decode cX9_strays 11 = .ok (.istore_n 3, 1) := by decide +kernel
theorem dX9_strays_12 : decode cX9_strays 12 = .ok (.aload_n 0, 1) := by decide +kernel
theorem dX9_strays_13 : decode cX9_strays 13 = .ok (.iload_n 2, 1) := by decide +kernel
theorem dX9_strays_14 : decode cX9_strays 14 = .ok (.invokevirtual 189, 3) := by decide +kernel
theorem dX9_strays_17 : decode cX9_strays 17 = .ok (.istore 4, 2) := by decide +kernel
theorem dX9_strays_19 : decode cX9_strays 19 = .ok (.iconst 0, 1) := by decide +kernel
theorem dX9_strays_20 : decode cX9_strays 20 = .ok (.istore 5, 2) := by decide +kernel
theorem dX9_strays_22 : decode cX9_strays 22 = .ok (.iload 5, 2) := by decide +kernel
theorem dX9_strays_24 : decode cX9_strays 24 = .ok (.aload_n 0, 1) := by decide +kernel
theorem dX9_strays_25 : decode cX9_strays 25 = .ok (.getfield 9, 3) := by decide +kernel
theorem dX9_strays_28 : decode cX9_strays 28 = .ok (.iconst 3, 1) := by decide +kernel
theorem dX9_strays_29 : decode cX9_strays 29 = .ok (.iaload, 1) := by decide +kernel
theorem dX9_strays_30 : decode cX9_strays 30 = .ok (.if_icmp .ge 78, 3) := by decide +kernel
theorem dX9_strays_33 : decode cX9_strays 33 = .ok (.aload_n 0, 1) := by decide +kernel
theorem dX9_strays_34 : decode cX9_strays 34 = .ok (.iload 5, 2) := by decide +kernel
theorem dX9_strays_36 : decode cX9_strays 36 = .ok (.invokevirtual 72, 3) := by decide +kernel
theorem dX9_strays_39 : decode cX9_strays 39 = .ok (.ifCond .eq 13, 3) := by decide +kernel
theorem dX9_strays_42 : decode cX9_strays 42 = .ok (.aload_n 0, 1) := by decide +kernel
theorem dX9_strays_43 : decode cX9_strays 43 = .ok (.iload 5, 2) := by decide +kernel
theorem dX9_strays_45 : decode cX9_strays 45 = .ok (.iload_n 2, 1) := by decide +kernel
theorem dX9_strays_46 : decode cX9_strays 46 = .ok (.invokevirtual 192, 3) := by decide +kernel
theorem dX9_strays_49 : decode cX9_strays 49 = .ok (.goto 4, 3) := by decide +kernel
theorem dX9_strays_52 : decode cX9_strays 52 = .ok (.iconst (-1), 1) := by decide +kernel
theorem dX9_strays_53 : decode cX9_strays 53 = .ok (.istore 6, 2) := by decide +kernel
theorem dX9_strays_55 : decode cX9_strays 55 = .ok (.iload 6, 2) := by decide +kernel
theorem dX9_strays_57 : decode cX9_strays 57 = .ok (.ifCond .ge 7, 3) := by decide +kernel
theorem dX9_strays_60 : decode cX9_strays 60 = .ok (.iconst (-1), 1) := by decide +kernel
theorem dX9_strays_61 : decode cX9_strays 61 = .ok (.goto 9, 3) := by decide +kernel
theorem dX9_strays_64 : decode cX9_strays 64 = .ok (.aload_n 0, 1) := by decide +kernel
theorem dX9_strays_65 : decode cX9_strays 65 = .ok (.iload 6, 2) := by decide +kernel
theorem dX9_strays_67 : decode cX9_strays 67 = .ok (.invokevirtual 189, 3) := by decide +kernel
theorem dX9_strays_70 : decode cX9_strays 70 = .ok (.istore 7, 2) := by decide +kernel
theorem dX9_strays_72 : decode cX9_strays 72 = .ok (.iload 7, 2) := by decide +kernel
theorem dX9_strays_74 : decode cX9_strays 74 = .ok (.iload 4, 2) := by decide +kernel
theorem dX9_strays_76 : decode cX9_strays 76 = .ok (.if_icmp .le 8, 3) := by decide +kernel
theorem dX9_strays_79 : decode cX9_strays 79 = .ok (.iload 6, 2) := by decide +kernel
theorem dX9_strays_81 : decode cX9_strays 81 = .ok (.goto 4, 3) := by decide +kernel
theorem dX9_strays_84 : decode cX9_strays 84 = .ok (.iload_n 3, 1) := by decide +kernel
theorem dX9_strays_85 : decode cX9_strays 85 = .ok (.istore_n 3, 1) := by decide +kernel
theorem dX9_strays_86 : decode cX9_strays 86 = .ok (.iload 7, 2) := by decide +kernel
theorem dX9_strays_88 : decode cX9_strays 88 = .ok (.iload 4, 2) := by decide +kernel
theorem dX9_strays_90 : decode cX9_strays 90 = .ok (.if_icmp .le 8, 3) := by decide +kernel
theorem dX9_strays_93 : decode cX9_strays 93 = .ok (.iload 7, 2) := by decide +kernel
theorem dX9_strays_95 : decode cX9_strays 95 = .ok (.goto 5, 3) := by decide +kernel
theorem dX9_strays_98 : decode cX9_strays 98 = .ok (.iload 4, 2) := by decide +kernel
theorem dX9_strays_100 : decode cX9_strays 100 = .ok (.istore 4, 2) := by decide +kernel
theorem dX9_strays_102 : decode cX9_strays 102 = .ok (.iinc 5 1, 3) := by decide +kernel
theorem dX9_strays_105 : decode cX9_strays 105 = .ok (.goto (-83), 3) := by decide +kernel
theorem dX9_strays_108 : decode cX9_strays 108 = .ok (.aload_n 0, 1) := by decide +kernel
theorem dX9_strays_109 : decode cX9_strays 109 = .ok (.getfield 9, 3) := by decide +kernel
theorem dX9_strays_112 : decode cX9_strays 112 = .ok (.iconst 5, 1) := by decide +kernel
theorem dX9_strays_113 : decode cX9_strays 113 = .ok (.aload_n 0, 1) := by decide +kernel
theorem dX9_strays_114 : decode cX9_strays 114 = .ok (.getfield 9, 3) := by decide +kernel
theorem dX9_strays_117 : decode cX9_strays 117 = .ok (.iconst 5, 1) := by decide +kernel
theorem dX9_strays_118 : decode cX9_strays 118 = .ok (.iaload, 1) := by decide +kernel
theorem dX9_strays_119 : decode cX9_strays 119 = .ok (.iload_n 3, 1) := by decide +kernel
theorem dX9_strays_120 : decode cX9_strays 120 = .ok (.iload_n 2, 1) := by decide +kernel
theorem dX9_strays_121 : decode cX9_strays 121 = .ok (.if_icmp .ne 7, 3) := by decide +kernel
theorem dX9_strays_124 : decode cX9_strays 124 = .ok (.iconst 0, 1) := by decide +kernel
theorem dX9_strays_125 : decode cX9_strays 125 = .ok (.goto 4, 3) := by decide +kernel
theorem dX9_strays_128 : decode cX9_strays 128 = .ok (.iconst 1, 1) := by decide +kernel
theorem dX9_strays_129 : decode cX9_strays 129 = .ok (.iadd, 1) := by decide +kernel
theorem dX9_strays_130 : decode cX9_strays 130 = .ok (.iconst 0, 1) := by decide +kernel
theorem dX9_strays_131 : decode cX9_strays 131 = .ok (.sipush 9999, 3) := by decide +kernel
theorem dX9_strays_134 : decode cX9_strays 134 = .ok (.invokestatic 186, 3) := by decide +kernel
theorem dX9_strays_137 : decode cX9_strays 137 = .ok (.iastore, 1) := by decide +kernel
theorem dX9_strays_138 : decode cX9_strays 138 = .ok (.aload_n 0, 1) := by decide +kernel
theorem dX9_strays_139 : decode cX9_strays 139 = .ok (.getfield 9, 3) := by decide +kernel
theorem dX9_strays_142 : decode cX9_strays 142 = .ok (.bipush 63, 2) := by decide +kernel
theorem dX9_strays_144 : decode cX9_strays 144 = .ok (.iload_n 1, 1) := by decide +kernel
theorem dX9_strays_145 : decode cX9_strays 145 = .ok (.iadd, 1) := by decide +kernel
theorem dX9_strays_146 : decode cX9_strays 146 = .ok (.iload_n 3, 1) := by decide +kernel
theorem dX9_strays_147 : decode cX9_strays 147 = .ok (.iastore, 1) := by decide +kernel
theorem dX9_strays_148 : decode cX9_strays 148 = .ok (.aload_n 0, 1) := by decide +kernel
theorem dX9_strays_149 : decode cX9_strays 149 = .ok (.getfield 9, 3) := by decide +kernel
theorem dX9_strays_152 : decode cX9_strays 152 = .ok (.bipush 8, 2) := by decide +kernel
theorem dX9_strays_154 : decode cX9_strays 154 = .ok (.iload_n 3, 1) := by decide +kernel
theorem dX9_strays_155 : decode cX9_strays 155 = .ok (.iadd, 1) := by decide +kernel
theorem dX9_strays_156 : decode cX9_strays 156 = .ok (.aload_n 0, 1) := by decide +kernel
theorem dX9_strays_157 : decode cX9_strays 157 = .ok (.getfield 9, 3) := by decide +kernel
theorem dX9_strays_160 : decode cX9_strays 160 = .ok (.bipush 8, 2) := by decide +kernel
theorem dX9_strays_162 : decode cX9_strays 162 = .ok (.iload_n 3, 1) := by decide +kernel
theorem dX9_strays_163 : decode cX9_strays 163 = .ok (.iadd, 1) := by decide +kernel
theorem dX9_strays_164 : decode cX9_strays 164 = .ok (.iaload, 1) := by decide +kernel
theorem dX9_strays_165 : decode cX9_strays 165 = .ok (.iconst 1, 1) := by decide +kernel
theorem dX9_strays_166 : decode cX9_strays 166 = .ok (.isub, 1) := by decide +kernel
theorem dX9_strays_167 : decode cX9_strays 167 = .ok (.iconst 0, 1) := by decide +kernel
theorem dX9_strays_168 : decode cX9_strays 168 = .ok (.bipush 99, 2) := by decide +kernel
theorem dX9_strays_170 : decode cX9_strays 170 = .ok (.invokestatic 186, 3) := by decide +kernel
theorem dX9_strays_173 : decode cX9_strays 173 = .ok (.iastore, 1) := by decide +kernel
theorem dX9_strays_174 : decode cX9_strays 174 = .ok (.return_, 1) := by decide +kernel
theorem dX9_goes_0 : decode cX9_goes 0 = .ok (.iconst 0, 1) := by decide +kernel
theorem dX9_goes_1 : decode cX9_goes 1 = .ok (.istore_n 1, 1) := by decide +kernel
theorem dX9_goes_2 : decode cX9_goes 2 = .ok (.iload_n 1, 1) := by decide +kernel
theorem dX9_goes_3 : decode cX9_goes 3 = .ok (.aload_n 0, 1) := by decide +kernel
theorem dX9_goes_4 : decode cX9_goes 4 = .ok (.getfield 9, 3) := by decide +kernel
theorem dX9_goes_7 : decode cX9_goes 7 = .ok (.iconst 2, 1) := by decide +kernel
theorem dX9_goes_8 : decode cX9_goes 8 = .ok (.iaload, 1) := by decide +kernel
theorem dX9_goes_9 : decode cX9_goes 9 = .ok (.if_icmp .ge 14, 3) := by decide +kernel
theorem dX9_goes_12 : decode cX9_goes 12 = .ok (.aload_n 0, 1) := by decide +kernel
theorem dX9_goes_13 : decode cX9_goes 13 = .ok (.iload_n 1, 1) := by decide +kernel
theorem dX9_goes_14 : decode cX9_goes 14 = .ok (.invokevirtual 195, 3) := by decide +kernel
theorem dX9_goes_17 : decode cX9_goes 17 = .ok (.iinc 1 1, 3) := by decide +kernel
theorem dX9_goes_20 : decode cX9_goes 20 = .ok (.goto (-18), 3) := by decide +kernel
theorem dX9_goes_23 : decode cX9_goes 23 = .ok (.iconst 0, 1) := by decide +kernel
theorem dX9_goes_24 : decode cX9_goes 24 = .ok (.istore_n 1, 1) := by decide +kernel
theorem dX9_goes_25 : decode cX9_goes 25 = .ok (.iload_n 1, 1) := by decide +kernel
theorem dX9_goes_26 : decode cX9_goes 26 = .ok (.aload_n 0, 1) := by decide +kernel
theorem dX9_goes_27 : decode cX9_goes 27 = .ok (.getfield 9, 3) := by decide +kernel
theorem dX9_goes_30 : decode cX9_goes 30 = .ok (.iconst 4, 1) := by decide +kernel
theorem dX9_goes_31 : decode cX9_goes 31 = .ok (.iaload, 1) := by decide +kernel
theorem dX9_goes_32 : decode cX9_goes 32 = .ok (.if_icmp .ge 14, 3) := by decide +kernel
theorem dX9_goes_35 : decode cX9_goes 35 = .ok (.aload_n 0, 1) := by decide +kernel
theorem dX9_goes_36 : decode cX9_goes 36 = .ok (.iload_n 1, 1) := by decide +kernel
theorem dX9_goes_37 : decode cX9_goes 37 = .ok (.invokevirtual 198, 3) := by decide +kernel
theorem dX9_goes_40 : decode cX9_goes 40 = .ok (.iinc 1 1, 3) := by decide +kernel
theorem dX9_goes_43 : decode cX9_goes 43 = .ok (.goto (-18), 3) := by decide +kernel
theorem dX9_goes_46 : decode cX9_goes 46 = .ok (.aload_n 0, 1) := by decide +kernel
theorem dX9_goes_47 : decode cX9_goes 47 = .ok (.getfield 9, 3) := by decide +kernel
theorem dX9_goes_50 : decode cX9_goes 50 = .ok (.iconst 0, 1) := by decide +kernel
theorem dX9_goes_51 : decode cX9_goes 51 = .ok (.dup2, 1) := by decide +kernel
theorem dX9_goes_52 : decode cX9_goes 52 = .ok (.iaload, 1) := by decide +kernel
theorem dX9_goes_53 : decode cX9_goes 53 = .ok (.iconst 1, 1) := by decide +kernel
theorem dX9_goes_54 : decode cX9_goes 54 = .ok (.iadd, 1) := by decide +kernel
theorem dX9_goes_55 : decode cX9_goes 55 = .ok (.iastore, 1) := by decide +kernel
theorem dX9_goes_56 : decode cX9_goes 56 = .ok (.return_, 1) := by decide +kernel
theorem dX9_hours_0 : decode cX9_hours 0 = .ok (.iload_n 1, 1) := by decide +kernel
theorem dX9_hours_1 : decode cX9_hours 1 = .ok (.iconst 1, 1) := by decide +kernel
theorem dX9_hours_2 : decode cX9_hours 2 = .ok (.bipush 60, 2) := by decide +kernel
theorem dX9_hours_4 : decode cX9_hours 4 = .ok (.invokestatic 60, 3) := by decide +kernel
theorem dX9_hours_7 : decode cX9_hours 7 = .ok (.ifCond .ne 10, 3) := by decide +kernel
theorem dX9_hours_10 : decode cX9_hours 10 = .ok (.aload_n 0, 1) := by decide +kernel
theorem dX9_hours_11 : decode cX9_hours 11 = .ok (.ldc 95, 2) := by decide +kernel
theorem dX9_hours_13 : decode cX9_hours 13 = .ok (.invokevirtual 96, 3) := by decide +kernel
theorem dX9_hours_16 : decode cX9_hours 16 = .ok (.ireturn, 1) := by decide +kernel
theorem dX9_hours_17 : decode cX9_hours 17 = .ok (.aload_n 0, 1) := by decide +kernel
theorem dX9_hours_18 : decode cX9_hours 18 = .ok (.getfield 9, 3) := by decide +kernel
theorem dX9_hours_21 : decode cX9_hours 21 = .ok (.iconst 0, 1) := by decide +kernel
theorem dX9_hours_22 : decode cX9_hours 22 = .ok (.iaload, 1) := by decide +kernel
theorem dX9_hours_23 : decode cX9_hours 23 = .ok (.iload_n 1, 1) := by decide +kernel
theorem dX9_hours_24 : decode cX9_hours 24 = .ok (.iadd, 1) := by decide +kernel
theorem dX9_hours_25 : decode cX9_hours 25 = .ok (.sipush 9999, 3) := by decide +kernel
theorem dX9_hours_28 : decode cX9_hours 28 = .ok (.if_icmp .le 10, 3) := by decide +kernel
theorem dX9_hours_31 : decode cX9_hours 31 = .ok (.aload_n 0, 1) := by decide +kernel
theorem dX9_hours_32 : decode cX9_hours 32 = .ok (.ldc 201, 2) := by decide +kernel
theorem dX9_hours_34 : decode cX9_hours 34 = .ok (.invokevirtual 96, 3) := by decide +kernel
theorem dX9_hours_37 : decode cX9_hours 37 = .ok (.ireturn, 1) := by decide +kernel
theorem dX9_hours_38 : decode cX9_hours 38 = .ok (.iconst 0, 1) := by decide +kernel
theorem dX9_hours_39 : decode cX9_hours 39 = .ok (.istore_n 2, 1) := by decide +kernel
theorem dX9_hours_40 : decode cX9_hours 40 = .ok (.iload_n 2, 1) := by decide +kernel
theorem dX9_hours_41 : decode cX9_hours 41 = .ok (.iload_n 1, 1) := by decide +kernel
theorem dX9_hours_42 : decode cX9_hours 42 = .ok (.if_icmp .ge 13, 3) := by decide +kernel
theorem dX9_hours_45 : decode cX9_hours 45 = .ok (.aload_n 0, 1) := by decide +kernel
theorem dX9_hours_46 : decode cX9_hours 46 = .ok (.invokevirtual 202, 3) := by decide +kernel
theorem dX9_hours_49 : decode cX9_hours 49 = .ok (.iinc 2 1, 3) := by decide +kernel
theorem dX9_hours_52 : decode cX9_hours 52 = .ok (.goto (-12), 3) := by decide +kernel
theorem dX9_hours_55 : decode cX9_hours 55 = .ok (.aload_n 0, 1) := by decide +kernel
theorem dX9_hours_56 : decode cX9_hours 56 = .ok (.invokevirtual 205, 3) := by decide +kernel
theorem dX9_hours_59 : decode cX9_hours 59 = .ok (.ireturn, 1) := by decide +kernel
theorem dX9_draw_0 : decode cX9_draw 0 = .ok (.aload_n 0, 1) := by decide +kernel
theorem dX9_draw_1 : decode cX9_draw 1 = .ok (.getfield 9, 3) := by decide +kernel
theorem dX9_draw_4 : decode cX9_draw 4 = .ok (.iconst 1, 1) := by decide +kernel
theorem dX9_draw_5 : decode cX9_draw 5 = .ok (.aload_n 0, 1) := by decide +kernel
theorem dX9_draw_6 : decode cX9_draw 6 = .ok (.getfield 9, 3) := by decide +kernel
theorem dX9_draw_9 : decode cX9_draw 9 = .ok (.iconst 1, 1) := by decide +kernel
theorem dX9_draw_10 : decode cX9_draw 10 = .ok (.iaload, 1) := by decide +kernel
theorem dX9_draw_11 : decode cX9_draw 11 = .ok (.ldc 207, 2) := by decide +kernel
theorem dX9_draw_13 : decode cX9_draw 13 = .ok (.imul, 1) := by decide +kernel
theorem dX9_draw_14 : decode cX9_draw 14 = .ok (.sipush 12345, 3) := by decide +kernel
theorem dX9_draw_17 : decode cX9_draw 17 = .ok (.iadd, 1) := by decide +kernel
theorem dX9_draw_18 : decode cX9_draw 18 = .ok (.iastore, 1) := by decide +kernel
theorem dX9_draw_19 : decode cX9_draw 19 = .ok (.aload_n 0, 1) := by decide +kernel
theorem dX9_draw_20 : decode cX9_draw 20 = .ok (.getfield 9, 3) := by decide +kernel
theorem dX9_draw_23 : decode cX9_draw 23 = .ok (.iconst 1, 1) := by decide +kernel
theorem dX9_draw_24 : decode cX9_draw 24 = .ok (.iaload, 1) := by decide +kernel
theorem dX9_draw_25 : decode cX9_draw 25 = .ok (.bipush 8, 2) := by decide +kernel
theorem dX9_draw_27 : decode cX9_draw 27 = .ok (.iushr, 1) := by decide +kernel
theorem dX9_draw_28 : decode cX9_draw 28 = .ok (.ireturn, 1) := by decide +kernel
theorem dX9_drawn_0 : decode cX9_drawn 0 = .ok (.aload_n 0, 1) := by decide +kernel
theorem dX9_drawn_1 : decode cX9_drawn 1 = .ok (.getfield 9, 3) := by decide +kernel
theorem dX9_drawn_4 : decode cX9_drawn 4 = .ok (.iconst 2, 1) := by decide +kernel
theorem dX9_drawn_5 : decode cX9_drawn 5 = .ok (.iaload, 1) := by decide +kernel
theorem dX9_drawn_6 : decode cX9_drawn 6 = .ok (.ifCond .le 56, 3) := by decide +kernel
theorem dX9_drawn_9 : decode cX9_drawn 9 = .ok (.aload_n 0, 1) := by decide +kernel
theorem dX9_drawn_10 : decode cX9_drawn 10 = .ok (.getfield 9, 3) := by decide +kernel
theorem dX9_drawn_13 : decode cX9_drawn 13 = .ok (.iconst 3, 1) := by decide +kernel
theorem dX9_drawn_14 : decode cX9_drawn 14 = .ok (.iaload, 1) := by decide +kernel
theorem dX9_drawn_15 : decode cX9_drawn 15 = .ok (.ifCond .le 47, 3) := by decide +kernel
theorem dX9_drawn_18 : decode cX9_drawn 18 = .ok (.aload_n 0, 1) := by decide +kernel
theorem dX9_drawn_19 : decode cX9_drawn 19 = .ok (.invokevirtual 208, 3) := by decide +kernel
theorem dX9_drawn_22 : decode cX9_drawn 22 = .ok (.aload_n 0, 1) := by decide +kernel
theorem dX9_drawn_23 : decode cX9_drawn 23 = .ok (.getfield 9, 3) := by decide +kernel
theorem dX9_drawn_26 : decode cX9_drawn 26 = .ok (.iconst 3, 1) := by decide +kernel
theorem dX9_drawn_27 : decode cX9_drawn 27 = .ok (.iaload, 1) := by decide +kernel
theorem dX9_drawn_28 : decode cX9_drawn 28 = .ok (.irem, 1) := by decide +kernel
theorem dX9_drawn_29 : decode cX9_drawn 29 = .ok (.istore_n 1, 1) := by decide +kernel
theorem dX9_drawn_30 : decode cX9_drawn 30 = .ok (.aload_n 0, 1) := by decide +kernel
theorem dX9_drawn_31 : decode cX9_drawn 31 = .ok (.invokevirtual 208, 3) := by decide +kernel
theorem dX9_drawn_34 : decode cX9_drawn 34 = .ok (.aload_n 0, 1) := by decide +kernel
theorem dX9_drawn_35 : decode cX9_drawn 35 = .ok (.getfield 9, 3) := by decide +kernel
theorem dX9_drawn_38 : decode cX9_drawn 38 = .ok (.iconst 2, 1) := by decide +kernel
theorem dX9_drawn_39 : decode cX9_drawn 39 = .ok (.iaload, 1) := by decide +kernel
theorem dX9_drawn_40 : decode cX9_drawn 40 = .ok (.irem, 1) := by decide +kernel
theorem dX9_drawn_41 : decode cX9_drawn 41 = .ok (.istore_n 2, 1) := by decide +kernel
theorem dX9_drawn_42 : decode cX9_drawn 42 = .ok (.aload_n 0, 1) := by decide +kernel
theorem dX9_drawn_43 : decode cX9_drawn 43 = .ok (.iload_n 1, 1) := by decide +kernel
theorem dX9_drawn_44 : decode cX9_drawn 44 = .ok (.iconst 3, 1) := by decide +kernel
theorem dX9_drawn_45 : decode cX9_drawn 45 = .ok (.aload_n 0, 1) := by decide +kernel
theorem dX9_drawn_46 : decode cX9_drawn 46 = .ok (.invokevirtual 208, 3) := by decide +kernel
theorem dX9_drawn_49 : decode cX9_drawn 49 = .ok (.iconst 4, 1) := by decide +kernel
theorem dX9_drawn_50 : decode cX9_drawn 50 = .ok (.irem, 1) := by decide +kernel
theorem dX9_drawn_51 : decode cX9_drawn 51 = .ok (.ifCond .ne 7, 3) := by decide +kernel
theorem dX9_drawn_54 : decode cX9_drawn 54 = .ok (.iconst (-1), 1) := by decide +kernel
theorem dX9_drawn_55 : decode cX9_drawn 55 = .ok (.goto 4, 3) := by decide +kernel
theorem dX9_drawn_58 : decode cX9_drawn 58 = .ok (.iload_n 2, 1) := by decide +kernel
theorem dX9_drawn_59 : decode cX9_drawn 59 = .ok (.invokevirtual 117, 3) := by decide +kernel
theorem dX9_drawn_62 : decode cX9_drawn 62 = .ok (.aload_n 0, 1) := by decide +kernel
theorem dX9_drawn_63 : decode cX9_drawn 63 = .ok (.invokevirtual 202, 3) := by decide +kernel
theorem dX9_drawn_66 : decode cX9_drawn 66 = .ok (.return_, 1) := by decide +kernel
theorem dX9_loose_0 : decode cX9_loose 0 = .ok (.iload_n 1, 1) := by decide +kernel
theorem dX9_loose_1 : decode cX9_loose 1 = .ok (.iconst 1, 1) := by decide +kernel
theorem dX9_loose_2 : decode cX9_loose 2 = .ok (.bipush 30, 2) := by decide +kernel
theorem dX9_loose_4 : decode cX9_loose 4 = .ok (.invokestatic 60, 3) := by decide +kernel
theorem dX9_loose_7 : decode cX9_loose 7 = .ok (.ifCond .ne 10, 3) := by decide +kernel
theorem dX9_loose_10 : decode cX9_loose 10 = .ok (.aload_n 0, 1) := by decide +kernel
theorem dX9_loose_11 : decode cX9_loose 11 = .ok (.ldc 95, 2) := by decide +kernel
theorem dX9_loose_13 : decode cX9_loose 13 = .ok (.invokevirtual 96, 3) := by decide +kernel
theorem dX9_loose_16 : decode cX9_loose 16 = .ok (.ireturn, 1) := by decide +kernel
theorem dX9_loose_17 : decode cX9_loose 17 = .ok (.aload_n 0, 1) := by decide +kernel
theorem dX9_loose_18 : decode cX9_loose 18 = .ok (.getfield 9, 3) := by decide +kernel
theorem dX9_loose_21 : decode cX9_loose 21 = .ok (.iconst 0, 1) := by decide +kernel
theorem dX9_loose_22 : decode cX9_loose 22 = .ok (.iaload, 1) := by decide +kernel
theorem dX9_loose_23 : decode cX9_loose 23 = .ok (.iload_n 1, 1) := by decide +kernel
theorem dX9_loose_24 : decode cX9_loose 24 = .ok (.iadd, 1) := by decide +kernel
theorem dX9_loose_25 : decode cX9_loose 25 = .ok (.sipush 9999, 3) := by decide +kernel
theorem dX9_loose_28 : decode cX9_loose 28 = .ok (.if_icmp .le 10, 3) := by decide +kernel
theorem dX9_loose_31 : decode cX9_loose 31 = .ok (.aload_n 0, 1) := by decide +kernel
theorem dX9_loose_32 : decode cX9_loose 32 = .ok (.ldc 201, 2) := by decide +kernel
theorem dX9_loose_34 : decode cX9_loose 34 = .ok (.invokevirtual 96, 3) := by decide +kernel
theorem dX9_loose_37 : decode cX9_loose 37 = .ok (.ireturn, 1) := by decide +kernel
theorem dX9_loose_38 : decode cX9_loose 38 = .ok (.iconst 0, 1) := by decide +kernel
theorem dX9_loose_39 : decode cX9_loose 39 = .ok (.istore_n 2, 1) := by decide +kernel
theorem dX9_loose_40 : decode cX9_loose 40 = .ok (.iload_n 2, 1) := by decide +kernel
theorem dX9_loose_41 : decode cX9_loose 41 = .ok (.iload_n 1, 1) := by decide +kernel
theorem dX9_loose_42 : decode cX9_loose 42 = .ok (.if_icmp .ge 13, 3) := by decide +kernel
theorem dX9_loose_45 : decode cX9_loose 45 = .ok (.aload_n 0, 1) := by decide +kernel
theorem dX9_loose_46 : decode cX9_loose 46 = .ok (.invokevirtual 211, 3) := by decide +kernel
theorem dX9_loose_49 : decode cX9_loose 49 = .ok (.iinc 2 1, 3) := by decide +kernel
theorem dX9_loose_52 : decode cX9_loose 52 = .ok (.goto (-12), 3) := by decide +kernel
theorem dX9_loose_55 : decode cX9_loose 55 = .ok (.aload_n 0, 1) := by decide +kernel
theorem dX9_loose_56 : decode cX9_loose 56 = .ok (.invokevirtual 205, 3) := by decide +kernel
theorem dX9_loose_59 : decode cX9_loose 59 = .ok (.ireturn, 1) := by decide +kernel
theorem dX9_hour_0 : decode cX9_hour 0 = .ok (.iload_n 1, 1) := by decide +kernel
theorem dX9_hour_1 : decode cX9_hour 1 = .ok (.iconst 0, 1) := by decide +kernel
theorem dX9_hour_2 : decode cX9_hour 2 = .ok (.sipush 9999, 3) := by decide +kernel
theorem dX9_hour_5 : decode cX9_hour 5 = .ok (.invokestatic 60, 3) := by decide +kernel
theorem dX9_hour_8 : decode cX9_hour 8 = .ok (.ifCond .eq 12, 3) := by decide +kernel
theorem dX9_hour_11 : decode cX9_hour 11 = .ok (.aload_n 0, 1) := by decide +kernel
theorem dX9_hour_12 : decode cX9_hour 12 = .ok (.iconst 0, 1) := by decide +kernel
theorem dX9_hour_13 : decode cX9_hour 13 = .ok (.iload_n 1, 1) := by decide +kernel
theorem dX9_hour_14 : decode cX9_hour 14 = .ok (.invokevirtual 109, 3) := by decide +kernel
theorem dX9_hour_17 : decode cX9_hour 17 = .ok (.goto 9, 3) := by decide +kernel
theorem dX9_hour_20 : decode cX9_hour 20 = .ok (.aload_n 0, 1) := by decide +kernel
theorem dX9_hour_21 : decode cX9_hour 21 = .ok (.ldc 95, 2) := by decide +kernel
theorem dX9_hour_23 : decode cX9_hour 23 = .ok (.invokevirtual 96, 3) := by decide +kernel
theorem dX9_hour_26 : decode cX9_hour 26 = .ok (.ireturn, 1) := by decide +kernel
theorem dX9_seed_0 : decode cX9_seed 0 = .ok (.aload_n 0, 1) := by decide +kernel
theorem dX9_seed_1 : decode cX9_seed 1 = .ok (.iconst 1, 1) := by decide +kernel
theorem dX9_seed_2 : decode cX9_seed 2 = .ok (.iload_n 1, 1) := by decide +kernel
theorem dX9_seed_3 : decode cX9_seed 3 = .ok (.invokevirtual 109, 3) := by decide +kernel
theorem dX9_seed_6 : decode cX9_seed 6 = .ok (.ireturn, 1) := by decide +kernel
theorem dX9_then_0 : decode cX9_then 0 = .ok (.iload_n 1, 1) := by decide +kernel
theorem dX9_then_1 : decode cX9_then 1 = .ok (.iconst 0, 1) := by decide +kernel
theorem dX9_then_2 : decode cX9_then 2 = .ok (.bipush 60, 2) := by decide +kernel
theorem dX9_then_4 : decode cX9_then 4 = .ok (.invokestatic 60, 3) := by decide +kernel
theorem dX9_then_7 : decode cX9_then 7 = .ok (.ifCond .eq 12, 3) := by decide +kernel
theorem dX9_then_10 : decode cX9_then 10 = .ok (.iload_n 2, 1) := by decide +kernel
theorem dX9_then_11 : decode cX9_then 11 = .ok (.iconst 0, 1) := by decide +kernel
theorem dX9_then_12 : decode cX9_then 12 = .ok (.iconst 1, 1) := by decide +kernel
theorem dX9_then_13 : decode cX9_then 13 = .ok (.invokestatic 60, 3) := by decide +kernel
theorem dX9_then_16 : decode cX9_then 16 = .ok (.ifCond .ne 10, 3) := by decide +kernel
theorem dX9_then_19 : decode cX9_then 19 = .ok (.aload_n 0, 1) := by decide +kernel
theorem dX9_then_20 : decode cX9_then 20 = .ok (.ldc 95, 2) := by decide +kernel
theorem dX9_then_22 : decode cX9_then 22 = .ok (.invokevirtual 96, 3) := by decide +kernel
theorem dX9_then_25 : decode cX9_then 25 = .ok (.ireturn, 1) := by decide +kernel
theorem dX9_then_26 : decode cX9_then 26 = .ok (.aload_n 0, 1) := by decide +kernel
theorem dX9_then_27 : decode cX9_then 27 = .ok (.invokevirtual 214, 3) := by decide +kernel
theorem dX9_then_30 : decode cX9_then 30 = .ok (.iconst 0, 1) := by decide +kernel
theorem dX9_then_31 : decode cX9_then 31 = .ok (.istore_n 3, 1) := by decide +kernel
theorem dX9_then_32 : decode cX9_then 32 = .ok (.iload_n 3, 1) := by decide +kernel
theorem dX9_then_33 : decode cX9_then 33 = .ok (.iload_n 1, 1) := by decide +kernel
theorem dX9_then_34 : decode cX9_then 34 = .ok (.if_icmp .ge 13, 3) := by decide +kernel
theorem dX9_then_37 : decode cX9_then 37 = .ok (.aload_n 0, 1) := by decide +kernel
theorem dX9_then_38 : decode cX9_then 38 = .ok (.invokevirtual 202, 3) := by decide +kernel
theorem dX9_then_41 : decode cX9_then 41 = .ok (.iinc 3 1, 3) := by decide +kernel
theorem dX9_then_44 : decode cX9_then 44 = .ok (.goto (-12), 3) := by decide +kernel
theorem dX9_then_47 : decode cX9_then 47 = .ok (.iload_n 2, 1) := by decide +kernel
theorem dX9_then_48 : decode cX9_then 48 = .ok (.ifCond .ne 10, 3) := by decide +kernel
theorem dX9_then_51 : decode cX9_then 51 = .ok (.aload_n 0, 1) := by decide +kernel
theorem dX9_then_52 : decode cX9_then 52 = .ok (.invokevirtual 205, 3) := by decide +kernel
theorem dX9_then_55 : decode cX9_then 55 = .ok (.goto 9, 3) := by decide +kernel
theorem dX9_then_58 : decode cX9_then 58 = .ok (.aload_n 0, 1) := by decide +kernel
theorem dX9_then_59 : decode cX9_then 59 = .ok (.getfield 9, 3) := by decide +kernel
theorem dX9_then_62 : decode cX9_then 62 = .ok (.iconst 5, 1) := by decide +kernel
theorem dX9_then_63 : decode cX9_then 63 = .ok (.iaload, 1) := by decide +kernel
theorem dX9_then_64 : decode cX9_then 64 = .ok (.istore_n 3, 1) := by decide +kernel
theorem dX9_then_65 : decode cX9_then 65 = .ok (.aload_n 0, 1) := by decide +kernel
theorem dX9_then_66 : decode cX9_then 66 = .ok (.invokevirtual 217, 3) := by decide +kernel
theorem dX9_then_69 : decode cX9_then 69 = .ok (.iload_n 3, 1) := by decide +kernel
theorem dX9_then_70 : decode cX9_then 70 = .ok (.ireturn, 1) := by decide +kernel
theorem dX9_first_0 : decode cX9_first 0 = .ok (.aload_n 0, 1) := by decide +kernel
theorem dX9_first_1 : decode cX9_first 1 = .ok (.iload_n 1, 1) := by decide +kernel
theorem dX9_first_2 : decode cX9_first 2 = .ok (.invokevirtual 121, 3) := by decide +kernel
theorem dX9_first_5 : decode cX9_first 5 = .ok (.ifCond .ne 10, 3) := by decide +kernel
theorem dX9_first_8 : decode cX9_first 8 = .ok (.aload_n 0, 1) := by decide +kernel
theorem dX9_first_9 : decode cX9_first 9 = .ok (.ldc 95, 2) := by decide +kernel
theorem dX9_first_11 : decode cX9_first 11 = .ok (.invokevirtual 96, 3) := by decide +kernel
theorem dX9_first_14 : decode cX9_first 14 = .ok (.ireturn, 1) := by decide +kernel
theorem dX9_first_15 : decode cX9_first 15 = .ok (.aload_n 0, 1) := by decide +kernel
theorem dX9_first_16 : decode cX9_first 16 = .ok (.invokevirtual 214, 3) := by decide +kernel
theorem dX9_first_19 : decode cX9_first 19 = .ok (.iconst 0, 1) := by decide +kernel
theorem dX9_first_20 : decode cX9_first 20 = .ok (.istore_n 2, 1) := by decide +kernel
theorem dX9_first_21 : decode cX9_first 21 = .ok (.iload_n 2, 1) := by decide +kernel
theorem dX9_first_22 : decode cX9_first 22 = .ok (.bipush 60, 2) := by decide +kernel
theorem dX9_first_24 : decode cX9_first 24 = .ok (.if_icmp .gt 21, 3) := by decide +kernel
theorem dX9_first_27 : decode cX9_first 27 = .ok (.aload_n 0, 1) := by decide +kernel
theorem dX9_first_28 : decode cX9_first 28 = .ok (.iload_n 1, 1) := by decide +kernel
theorem dX9_first_29 : decode cX9_first 29 = .ok (.invokevirtual 72, 3) := by decide +kernel
theorem dX9_first_32 : decode cX9_first 32 = .ok (.ifCond .ne 13, 3) := by decide +kernel
theorem dX9_first_35 : decode cX9_first 35 = .ok (.aload_n 0, 1) := by decide +kernel
theorem dX9_first_36 : decode cX9_first 36 = .ok (.invokevirtual 202, 3) := by decide +kernel
theorem dX9_first_39 : decode cX9_first 39 = .ok (.iinc 2 1, 3) := by decide +kernel
theorem dX9_first_42 : decode cX9_first 42 = .ok (.goto (-21), 3) := by decide +kernel
theorem dX9_first_45 : decode cX9_first 45 = .ok (.aload_n 0, 1) := by decide +kernel
theorem dX9_first_46 : decode cX9_first 46 = .ok (.invokevirtual 217, 3) := by decide +kernel
theorem dX9_first_49 : decode cX9_first 49 = .ok (.iload_n 2, 1) := by decide +kernel
theorem dX9_first_50 : decode cX9_first 50 = .ok (.bipush 60, 2) := by decide +kernel
theorem dX9_first_52 : decode cX9_first 52 = .ok (.if_icmp .le 12, 3) := by decide +kernel
theorem dX9_first_55 : decode cX9_first 55 = .ok (.aload_n 0, 1) := by decide +kernel
theorem dX9_first_56 : decode cX9_first 56 = .ok (.ldc 220, 2) := by decide +kernel
theorem dX9_first_58 : decode cX9_first 58 = .ok (.invokevirtual 96, 3) := by decide +kernel
theorem dX9_first_61 : decode cX9_first 61 = .ok (.goto 4, 3) := by decide +kernel
theorem dX9_first_64 : decode cX9_first 64 = .ok (.iload_n 2, 1) := by decide +kernel
theorem dX9_first_65 : decode cX9_first 65 = .ok (.ireturn, 1) := by decide +kernel
theorem dX9_findWeights_0 : decode cX9_findWeights 0 = .ok (.aload_n 0, 1) := by decide +kernel
theorem dX9_findWeights_1 : decode cX9_findWeights 1 = .ok (.getfield 49, 3) := by decide +kernel
theorem dX9_findWeights_4 : decode cX9_findWeights 4 = .ok (.iconst 0, 1) := by decide +kernel
theorem dX9_findWeights_5 : decode cX9_findWeights 5 = .ok (.iconst 0, 1) := by decide +kernel
theorem dX9_findWeights_6 : decode cX9_findWeights 6 = .ok (.iastore, 1) := by decide +kernel
theorem dX9_findWeights_7 : decode cX9_findWeights 7 = .ok (.iconst 0, 1) := by decide +kernel
theorem dX9_findWeights_8 : decode cX9_findWeights 8 = .ok (.istore_n 2, 1) := by decide +kernel
theorem dX9_findWeights_9 : decode cX9_findWeights 9 = .ok (.iload_n 2, 1) := by decide +kernel
theorem dX9_findWeights_10 : decode cX9_findWeights 10 = .ok (.aload_n 0, 1) := by decide +kernel
theorem dX9_findWeights_11 : decode cX9_findWeights 11 = .ok (.getfield 9, 3) := by decide +kernel
theorem dX9_findWeights_14 : decode cX9_findWeights 14 = .ok (.iconst 3, 1) := by decide +kernel
theorem dX9_findWeights_15 : decode cX9_findWeights 15 = .ok (.iaload, 1) := by decide +kernel
theorem dX9_findWeights_16 : decode cX9_findWeights 16 = .ok (.if_icmp .ge 53, 3) := by decide +kernel
theorem dX9_findWeights_19 : decode cX9_findWeights 19 = .ok (.aload_n 0, 1) := by decide +kernel
theorem dX9_findWeights_20 : decode cX9_findWeights 20 = .ok (.iload_n 1, 1) := by decide +kernel
theorem dX9_findWeights_21 : decode cX9_findWeights 21 = .ok (.iload_n 2, 1) := by decide +kernel
theorem dX9_findWeights_22 : decode cX9_findWeights 22 = .ok (.invokevirtual 89, 3) := by decide +kernel
theorem dX9_findWeights_25 : decode cX9_findWeights 25 = .ok (.istore_n 3, 1) := by decide +kernel
theorem dX9_findWeights_26 : decode cX9_findWeights 26 = .ok (.iconst 0, 1) := by decide +kernel
theorem dX9_findWeights_27 : decode cX9_findWeights 27 = .ok (.istore 4, 2) := by decide +kernel
theorem dX9_findWeights_29 : decode cX9_findWeights 29 = .ok (.iload 4, 2) := by decide +kernel
theorem dX9_findWeights_31 : decode cX9_findWeights 31 = .ok (.iconst 1, 1) := by decide +kernel
theorem dX9_findWeights_32 : decode cX9_findWeights 32 = .ok (.iload_n 2, 1) := by decide +kernel
theorem dX9_findWeights_33 : decode cX9_findWeights 33 = .ok (.ishl, 1) := by decide +kernel
theorem dX9_findWeights_34 : decode cX9_findWeights 34 = .ok (.if_icmp .ge 29, 3) := by decide +kernel
theorem dX9_findWeights_37 : decode cX9_findWeights 37 = .ok (.aload_n 0, 1) := by decide +kernel
theorem dX9_findWeights_38 : decode cX9_findWeights 38 = .ok (.getfield 49, 3) := by decide +kernel
theorem dX9_findWeights_41 : decode cX9_findWeights 41 = .ok (.iload 4, 2) := by decide +kernel
theorem dX9_findWeights_43 : decode cX9_findWeights 43 = .ok (.iconst 1, 1) := by decide +kernel
theorem dX9_findWeights_44 : decode cX9_findWeights 44 = .ok (.iload_n 2, 1) := by decide +kernel
theorem dX9_findWeights_45 : decode cX9_findWeights 45 = .ok (.ishl, 1) := by decide +kernel
theorem dX9_findWeights_46 : decode cX9_findWeights 46 = .ok (.ior, 1) := by decide +kernel
theorem dX9_findWeights_47 : decode cX9_findWeights 47 = .ok (.aload_n 0, 1) := by decide +kernel
theorem dX9_findWeights_48 : decode cX9_findWeights 48 = .ok (.getfield 49, 3) := by decide +kernel
theorem dX9_findWeights_51 : decode cX9_findWeights 51 = .ok (.iload 4, 2) := by decide +kernel
theorem dX9_findWeights_53 : decode cX9_findWeights 53 = .ok (.iaload, 1) := by decide +kernel
theorem dX9_findWeights_54 : decode cX9_findWeights 54 = .ok (.iload_n 3, 1) := by decide +kernel
theorem dX9_findWeights_55 : decode cX9_findWeights 55 = .ok (.iadd, 1) := by decide +kernel
theorem dX9_findWeights_56 : decode cX9_findWeights 56 = .ok (.iastore, 1) := by decide +kernel
theorem dX9_findWeights_57 : decode cX9_findWeights 57 = .ok (.iinc 4 1, 3) := by decide +kernel
theorem dX9_findWeights_60 : decode cX9_findWeights 60 = .ok (.goto (-31), 3) := by decide +kernel
theorem dX9_findWeights_63 : decode cX9_findWeights 63 = .ok (.iinc 2 1, 3) := by decide +kernel
theorem dX9_findWeights_66 : decode cX9_findWeights 66 = .ok (.goto (-57), 3) := by decide +kernel
theorem dX9_findWeights_69 : decode cX9_findWeights 69 = .ok (.return_, 1) := by decide +kernel
theorem dX9_tries_0 : decode cX9_tries 0 = .ok (.aload_n 0, 1) := by decide +kernel
theorem dX9_tries_1 : decode cX9_tries 1 = .ok (.iload_n 1, 1) := by decide +kernel
theorem dX9_tries_2 : decode cX9_tries 2 = .ok (.invokevirtual 106, 3) := by decide +kernel
theorem dX9_tries_5 : decode cX9_tries 5 = .ok (.istore_n 2, 1) := by decide +kernel
theorem dX9_tries_6 : decode cX9_tries 6 = .ok (.aload_n 0, 1) := by decide +kernel
theorem dX9_tries_7 : decode cX9_tries 7 = .ok (.iload_n 1, 1) := by decide +kernel
theorem dX9_tries_8 : decode cX9_tries 8 = .ok (.invokevirtual 221, 3) := by decide +kernel
theorem dX9_tries_11 : decode cX9_tries 11 = .ok (.iconst 0, 1) := by decide +kernel
theorem dX9_tries_12 : decode cX9_tries 12 = .ok (.istore_n 3, 1) := by decide +kernel
theorem dX9_tries_13 : decode cX9_tries 13 = .ok (.iload_n 3, 1) := by decide +kernel
theorem dX9_tries_14 : decode cX9_tries 14 = .ok (.iconst 1, 1) := by decide +kernel
theorem dX9_tries_15 : decode cX9_tries 15 = .ok (.aload_n 0, 1) := by decide +kernel
theorem dX9_tries_16 : decode cX9_tries 16 = .ok (.getfield 9, 3) := by decide +kernel
theorem dX9_tries_19 : decode cX9_tries 19 = .ok (.iconst 3, 1) := by decide +kernel
theorem dX9_tries_20 : decode cX9_tries 20 = .ok (.iaload, 1) := by decide +kernel
theorem dX9_tries_21 : decode cX9_tries 21 = .ok (.ishl, 1) := by decide +kernel
theorem dX9_tries_22 : decode cX9_tries 22 = .ok (.if_icmp .ge 113, 3) := by decide +kernel
theorem dX9_tries_25 : decode cX9_tries 25 = .ok (.aload_n 0, 1) := by decide +kernel
theorem dX9_tries_26 : decode cX9_tries 26 = .ok (.getfield 46, 3) := by decide +kernel
theorem dX9_tries_29 : decode cX9_tries 29 = .ok (.iload_n 3, 1) := by decide +kernel
theorem dX9_tries_30 : decode cX9_tries 30 = .ok (.aload_n 0, 1) := by decide +kernel
theorem dX9_tries_31 : decode cX9_tries 31 = .ok (.getfield 43, 3) := by decide +kernel
theorem dX9_tries_34 : decode cX9_tries 34 = .ok (.iload_n 3, 1) := by decide +kernel
theorem dX9_tries_35 : decode cX9_tries 35 = .ok (.iaload, 1) := by decide +kernel
theorem dX9_tries_36 : decode cX9_tries 36 = .ok (.iastore, 1) := by decide +kernel
theorem dX9_tries_37 : decode cX9_tries 37 = .ok (.iload_n 3, 1) := by decide +kernel
theorem dX9_tries_38 : decode cX9_tries 38 = .ok (.istore 4, 2) := by decide +kernel
theorem dX9_tries_40 : decode cX9_tries 40 = .ok (.iload 4, 2) := by decide +kernel
theorem dX9_tries_42 : decode cX9_tries 42 = .ok (.ifCond .le 87, 3) := by decide +kernel
theorem dX9_tries_45 : decode cX9_tries 45 = .ok (.aload_n 0, 1) := by decide +kernel
theorem dX9_tries_46 : decode cX9_tries 46 = .ok (.getfield 49, 3) := by decide +kernel
theorem dX9_tries_49 : decode cX9_tries 49 = .ok (.iload 4, 2) := by decide +kernel
theorem dX9_tries_51 : decode cX9_tries 51 = .ok (.iaload, 1) := by decide +kernel
theorem dX9_tries_52 : decode cX9_tries 52 = .ok (.iload_n 2, 1) := by decide +kernel
theorem dX9_tries_53 : decode cX9_tries 53 = .ok (.if_icmp .gt 29, 3) := by decide +kernel
theorem dX9_tries_56 : decode cX9_tries 56 = .ok (.aload_n 0, 1) := by decide +kernel
theorem dX9_tries_57 : decode cX9_tries 57 = .ok (.getfield 43, 3) := by decide +kernel
theorem dX9_tries_60 : decode cX9_tries 60 = .ok (.iload_n 3, 1) := by decide +kernel
theorem dX9_tries_61 : decode cX9_tries 61 = .ok (.iload 4, 2) := by decide +kernel
theorem dX9_tries_63 : decode cX9_tries 63 = .ok (.iconst (-1), 1) := by decide +kernel
theorem dX9_tries_64 : decode cX9_tries 64 = .ok (.ixor, 1) := by decide +kernel
theorem dX9_tries_65 : decode cX9_tries 65 = .ok (.iand, 1) := by decide +kernel
theorem dX9_tries_66 : decode cX9_tries 66 = .ok (.iaload, 1) := by decide +kernel
theorem dX9_tries_67 : decode cX9_tries 67 = .ok (.iconst 1, 1) := by decide +kernel
theorem dX9_tries_68 : decode cX9_tries 68 = .ok (.iadd, 1) := by decide +kernel
theorem dX9_tries_69 : decode cX9_tries 69 = .ok (.aload_n 0, 1) := by decide +kernel
theorem dX9_tries_70 : decode cX9_tries 70 = .ok (.getfield 46, 3) := by decide +kernel
theorem dX9_tries_73 : decode cX9_tries 73 = .ok (.iload_n 3, 1) := by decide +kernel
theorem dX9_tries_74 : decode cX9_tries 74 = .ok (.iaload, 1) := by decide +kernel
theorem dX9_tries_75 : decode cX9_tries 75 = .ok (.if_icmp .ge 7, 3) := by decide +kernel
theorem dX9_tries_78 : decode cX9_tries 78 = .ok (.iconst 1, 1) := by decide +kernel
theorem dX9_tries_79 : decode cX9_tries 79 = .ok (.goto 4, 3) := by decide +kernel
theorem dX9_tries_82 : decode cX9_tries 82 = .ok (.iconst 0, 1) := by decide +kernel
theorem dX9_tries_83 : decode cX9_tries 83 = .ok (.istore 5, 2) := by decide +kernel
theorem dX9_tries_85 : decode cX9_tries 85 = .ok (.aload_n 0, 1) := by decide +kernel
theorem dX9_tries_86 : decode cX9_tries 86 = .ok (.getfield 46, 3) := by decide +kernel
theorem dX9_tries_89 : decode cX9_tries 89 = .ok (.iload_n 3, 1) := by decide +kernel
theorem dX9_tries_90 : decode cX9_tries 90 = .ok (.iload 5, 2) := by decide +kernel
theorem dX9_tries_92 : decode cX9_tries 92 = .ok (.ifCond .eq 19, 3) := by decide +kernel
theorem dX9_tries_95 : decode cX9_tries 95 = .ok (.aload_n 0, 1) := by decide +kernel
theorem dX9_tries_96 : decode cX9_tries 96 = .ok (.getfield 43, 3) := by decide +kernel
theorem dX9_tries_99 : decode cX9_tries 99 = .ok (.iload_n 3, 1) := by decide +kernel
theorem dX9_tries_100 : decode cX9_tries 100 = .ok (.iload 4, 2) := by decide +kernel
theorem dX9_tries_102 : decode cX9_tries 102 = .ok (.iconst (-1), 1) := by decide +kernel
theorem dX9_tries_103 : decode cX9_tries 103 = .ok (.ixor, 1) := by decide +kernel
theorem dX9_tries_104 : decode cX9_tries 104 = .ok (.iand, 1) := by decide +kernel
theorem dX9_tries_105 : decode cX9_tries 105 = .ok (.iaload, 1) := by decide +kernel
theorem dX9_tries_106 : decode cX9_tries 106 = .ok (.iconst 1, 1) := by decide +kernel
theorem dX9_tries_107 : decode cX9_tries 107 = .ok (.iadd, 1) := by decide +kernel
theorem dX9_tries_108 : decode cX9_tries 108 = .ok (.goto 9, 3) := by decide +kernel
theorem dX9_tries_111 : decode cX9_tries 111 = .ok (.aload_n 0, 1) := by decide +kernel
theorem dX9_tries_112 : decode cX9_tries 112 = .ok (.getfield 46, 3) := by decide +kernel
theorem dX9_tries_115 : decode cX9_tries 115 = .ok (.iload_n 3, 1) := by decide +kernel
theorem dX9_tries_116 : decode cX9_tries 116 = .ok (.iaload, 1) := by decide +kernel
theorem dX9_tries_117 : decode cX9_tries 117 = .ok (.iastore, 1) := by decide +kernel
theorem dX9_tries_118 : decode cX9_tries 118 = .ok (.iload 4, 2) := by decide +kernel
theorem dX9_tries_120 : decode cX9_tries 120 = .ok (.iconst 1, 1) := by decide +kernel
theorem dX9_tries_121 : decode cX9_tries 121 = .ok (.isub, 1) := by decide +kernel
theorem dX9_tries_122 : decode cX9_tries 122 = .ok (.iload_n 3, 1) := by decide +kernel
theorem dX9_tries_123 : decode cX9_tries 123 = .ok (.iand, 1) := by decide +kernel
theorem dX9_tries_124 : decode cX9_tries 124 = .ok (.istore 4, 2) := by decide +kernel
theorem dX9_tries_126 : decode cX9_tries 126 = .ok (.goto (-86), 3) := by decide +kernel
theorem dX9_tries_129 : decode cX9_tries 129 = .ok (.iinc 3 1, 3) := by decide +kernel
theorem dX9_tries_132 : decode cX9_tries 132 = .ok (.goto (-119), 3) := by decide +kernel
theorem dX9_tries_135 : decode cX9_tries 135 = .ok (.iconst 0, 1) := by decide +kernel
theorem dX9_tries_136 : decode cX9_tries 136 = .ok (.istore_n 3, 1) := by decide +kernel
theorem dX9_tries_137 : decode cX9_tries 137 = .ok (.iload_n 3, 1) := by decide +kernel
theorem dX9_tries_138 : decode cX9_tries 138 = .ok (.iconst 1, 1) := by decide +kernel
theorem dX9_tries_139 : decode cX9_tries 139 = .ok (.aload_n 0, 1) := by decide +kernel
theorem dX9_tries_140 : decode cX9_tries 140 = .ok (.getfield 9, 3) := by decide +kernel
theorem dX9_tries_143 : decode cX9_tries 143 = .ok (.iconst 3, 1) := by decide +kernel
theorem dX9_tries_144 : decode cX9_tries 144 = .ok (.iaload, 1) := by decide +kernel
theorem dX9_tries_145 : decode cX9_tries 145 = .ok (.ishl, 1) := by decide +kernel
theorem dX9_tries_146 : decode cX9_tries 146 = .ok (.if_icmp .ge 21, 3) := by decide +kernel
theorem dX9_tries_149 : decode cX9_tries 149 = .ok (.aload_n 0, 1) := by decide +kernel
theorem dX9_tries_150 : decode cX9_tries 150 = .ok (.getfield 43, 3) := by decide +kernel
theorem dX9_tries_153 : decode cX9_tries 153 = .ok (.iload_n 3, 1) := by decide +kernel
theorem dX9_tries_154 : decode cX9_tries 154 = .ok (.aload_n 0, 1) := by decide +kernel
theorem dX9_tries_155 : decode cX9_tries 155 = .ok (.getfield 46, 3) := by decide +kernel
theorem dX9_tries_158 : decode cX9_tries 158 = .ok (.iload_n 3, 1) := by decide +kernel
theorem dX9_tries_159 : decode cX9_tries 159 = .ok (.iaload, 1) := by decide +kernel
theorem dX9_tries_160 : decode cX9_tries 160 = .ok (.iastore, 1) := by decide +kernel
theorem dX9_tries_161 : decode cX9_tries 161 = .ok (.iinc 3 1, 3) := by decide +kernel
theorem dX9_tries_164 : decode cX9_tries 164 = .ok (.goto (-27), 3) := by decide +kernel
theorem dX9_tries_167 : decode cX9_tries 167 = .ok (.return_, 1) := by decide +kernel
theorem dX9_fewest_0 : decode cX9_fewest 0 = .ok (.iconst 0, 1) := by decide +kernel
theorem dX9_fewest_1 : decode cX9_fewest 1 = .ok (.istore_n 1, 1) := by decide +kernel
theorem dX9_fewest_2 : decode cX9_fewest 2 = .ok (.iload_n 1, 1) := by decide +kernel
theorem dX9_fewest_3 : decode cX9_fewest 3 = .ok (.sipush 512, 3) := by decide +kernel
theorem dX9_fewest_6 : decode cX9_fewest 6 = .ok (.if_icmp .ge 25, 3) := by decide +kernel
theorem dX9_fewest_9 : decode cX9_fewest 9 = .ok (.aload_n 0, 1) := by decide +kernel
theorem dX9_fewest_10 : decode cX9_fewest 10 = .ok (.getfield 43, 3) := by decide +kernel
theorem dX9_fewest_13 : decode cX9_fewest 13 = .ok (.iload_n 1, 1) := by decide +kernel
theorem dX9_fewest_14 : decode cX9_fewest 14 = .ok (.iload_n 1, 1) := by decide +kernel
theorem dX9_fewest_15 : decode cX9_fewest 15 = .ok (.ifCond .ne 7, 3) := by decide +kernel
theorem dX9_fewest_18 : decode cX9_fewest 18 = .ok (.iconst 0, 1) := by decide +kernel
theorem dX9_fewest_19 : decode cX9_fewest 19 = .ok (.goto 5, 3) := by decide +kernel
theorem dX9_fewest_22 : decode cX9_fewest 22 = .ok (.bipush 7, 2) := by decide +kernel
theorem dX9_fewest_24 : decode cX9_fewest 24 = .ok (.iastore, 1) := by decide +kernel
theorem dX9_fewest_25 : decode cX9_fewest 25 = .ok (.iinc 1 1, 3) := by decide +kernel
theorem dX9_fewest_28 : decode cX9_fewest 28 = .ok (.goto (-26), 3) := by decide +kernel
theorem dX9_fewest_31 : decode cX9_fewest 31 = .ok (.iconst 0, 1) := by decide +kernel
theorem dX9_fewest_32 : decode cX9_fewest 32 = .ok (.istore_n 1, 1) := by decide +kernel
theorem dX9_fewest_33 : decode cX9_fewest 33 = .ok (.iload_n 1, 1) := by decide +kernel
theorem dX9_fewest_34 : decode cX9_fewest 34 = .ok (.aload_n 0, 1) := by decide +kernel
theorem dX9_fewest_35 : decode cX9_fewest 35 = .ok (.getfield 9, 3) := by decide +kernel
theorem dX9_fewest_38 : decode cX9_fewest 38 = .ok (.iconst 2, 1) := by decide +kernel
theorem dX9_fewest_39 : decode cX9_fewest 39 = .ok (.iaload, 1) := by decide +kernel
theorem dX9_fewest_40 : decode cX9_fewest 40 = .ok (.if_icmp .ge 14, 3) := by decide +kernel
theorem dX9_fewest_43 : decode cX9_fewest 43 = .ok (.aload_n 0, 1) := by decide +kernel
theorem dX9_fewest_44 : decode cX9_fewest 44 = .ok (.iload_n 1, 1) := by decide +kernel
theorem dX9_fewest_45 : decode cX9_fewest 45 = .ok (.invokevirtual 224, 3) := by decide +kernel
theorem dX9_fewest_48 : decode cX9_fewest 48 = .ok (.iinc 1 1, 3) := by decide +kernel
theorem dX9_fewest_51 : decode cX9_fewest 51 = .ok (.goto (-18), 3) := by decide +kernel
theorem dX9_fewest_54 : decode cX9_fewest 54 = .ok (.aload_n 0, 1) := by decide +kernel
theorem dX9_fewest_55 : decode cX9_fewest 55 = .ok (.getfield 43, 3) := by decide +kernel
theorem dX9_fewest_58 : decode cX9_fewest 58 = .ok (.iconst 1, 1) := by decide +kernel
theorem dX9_fewest_59 : decode cX9_fewest 59 = .ok (.aload_n 0, 1) := by decide +kernel
theorem dX9_fewest_60 : decode cX9_fewest 60 = .ok (.getfield 9, 3) := by decide +kernel
theorem dX9_fewest_63 : decode cX9_fewest 63 = .ok (.iconst 3, 1) := by decide +kernel
theorem dX9_fewest_64 : decode cX9_fewest 64 = .ok (.iaload, 1) := by decide +kernel
theorem dX9_fewest_65 : decode cX9_fewest 65 = .ok (.ishl, 1) := by decide +kernel
theorem dX9_fewest_66 : decode cX9_fewest 66 = .ok (.iconst 1, 1) := by decide +kernel
theorem dX9_fewest_67 : decode cX9_fewest 67 = .ok (.isub, 1) := by decide +kernel
theorem dX9_fewest_68 : decode cX9_fewest 68 = .ok (.iaload, 1) := by decide +kernel
theorem dX9_fewest_69 : decode cX9_fewest 69 = .ok (.istore_n 1, 1) := by decide +kernel
theorem dX9_fewest_70 : decode cX9_fewest 70 = .ok (.iload_n 1, 1) := by decide +kernel
theorem dX9_fewest_71 : decode cX9_fewest 71 = .ok (.bipush 6, 2) := by decide +kernel
theorem dX9_fewest_73 : decode cX9_fewest 73 = .ok (.if_icmp .le 12, 3) := by decide +kernel
theorem dX9_fewest_76 : decode cX9_fewest 76 = .ok (.aload_n 0, 1) := by decide +kernel
theorem dX9_fewest_77 : decode cX9_fewest 77 = .ok (.ldc 220, 2) := by decide +kernel
theorem dX9_fewest_79 : decode cX9_fewest 79 = .ok (.invokevirtual 96, 3) := by decide +kernel
theorem dX9_fewest_82 : decode cX9_fewest 82 = .ok (.goto 4, 3) := by decide +kernel
theorem dX9_fewest_85 : decode cX9_fewest 85 = .ok (.iload_n 1, 1) := by decide +kernel
theorem dX9_fewest_86 : decode cX9_fewest 86 = .ok (.ireturn, 1) := by decide +kernel
theorem dX9_onward_0 : decode cX9_onward 0 = .ok (.iload_n 1, 1) := by decide +kernel
theorem dX9_onward_1 : decode cX9_onward 1 = .ok (.istore_n 3, 1) := by decide +kernel
theorem dX9_onward_2 : decode cX9_onward 2 = .ok (.iconst 0, 1) := by decide +kernel
theorem dX9_onward_3 : decode cX9_onward 3 = .ok (.istore 4, 2) := by decide +kernel
theorem dX9_onward_5 : decode cX9_onward 5 = .ok (.iload 4, 2) := by decide +kernel
theorem dX9_onward_7 : decode cX9_onward 7 = .ok (.aload_n 0, 1) := by decide +kernel
theorem dX9_onward_8 : decode cX9_onward 8 = .ok (.getfield 9, 3) := by decide +kernel
theorem dX9_onward_11 : decode cX9_onward 11 = .ok (.iconst 3, 1) := by decide +kernel
theorem dX9_onward_12 : decode cX9_onward 12 = .ok (.iaload, 1) := by decide +kernel
theorem dX9_onward_13 : decode cX9_onward 13 = .ok (.if_icmp .ge 56, 3) := by decide +kernel
theorem dX9_onward_16 : decode cX9_onward 16 = .ok (.iconst 1, 1) := by decide +kernel
theorem dX9_onward_17 : decode cX9_onward 17 = .ok (.aload_n 0, 1) := by decide +kernel
theorem dX9_onward_18 : decode cX9_onward 18 = .ok (.iload 4, 2) := by decide +kernel
theorem dX9_onward_20 : decode cX9_onward 20 = .ok (.iconst 0, 1) := by decide +kernel
theorem dX9_onward_21 : decode cX9_onward 21 = .ok (.invokevirtual 68, 3) := by decide +kernel
theorem dX9_onward_24 : decode cX9_onward 24 = .ok (.ishl, 1) := by decide +kernel
theorem dX9_onward_25 : decode cX9_onward 25 = .ok (.iconst 1, 1) := by decide +kernel
theorem dX9_onward_26 : decode cX9_onward 26 = .ok (.aload_n 0, 1) := by decide +kernel
theorem dX9_onward_27 : decode cX9_onward 27 = .ok (.iload 4, 2) := by decide +kernel
theorem dX9_onward_29 : decode cX9_onward 29 = .ok (.iconst 1, 1) := by decide +kernel
theorem dX9_onward_30 : decode cX9_onward 30 = .ok (.invokevirtual 68, 3) := by decide +kernel
theorem dX9_onward_33 : decode cX9_onward 33 = .ok (.ishl, 1) := by decide +kernel
theorem dX9_onward_34 : decode cX9_onward 34 = .ok (.ior, 1) := by decide +kernel
theorem dX9_onward_35 : decode cX9_onward 35 = .ok (.istore 5, 2) := by decide +kernel
theorem dX9_onward_37 : decode cX9_onward 37 = .ok (.iload_n 3, 1) := by decide +kernel
theorem dX9_onward_38 : decode cX9_onward 38 = .ok (.iload_n 2, 1) := by decide +kernel
theorem dX9_onward_39 : decode cX9_onward 39 = .ok (.iload 4, 2) := by decide +kernel
theorem dX9_onward_41 : decode cX9_onward 41 = .ok (.ishr, 1) := by decide +kernel
theorem dX9_onward_42 : decode cX9_onward 42 = .ok (.iconst 1, 1) := by decide +kernel
theorem dX9_onward_43 : decode cX9_onward 43 = .ok (.iand, 1) := by decide +kernel
theorem dX9_onward_44 : decode cX9_onward 44 = .ok (.iconst 1, 1) := by decide +kernel
theorem dX9_onward_45 : decode cX9_onward 45 = .ok (.if_icmp .ne 15, 3) := by decide +kernel
theorem dX9_onward_48 : decode cX9_onward 48 = .ok (.iload_n 1, 1) := by decide +kernel
theorem dX9_onward_49 : decode cX9_onward 49 = .ok (.iload 5, 2) := by decide +kernel
theorem dX9_onward_51 : decode cX9_onward 51 = .ok (.iand, 1) := by decide +kernel
theorem dX9_onward_52 : decode cX9_onward 52 = .ok (.ifCond .eq 8, 3) := by decide +kernel
theorem dX9_onward_55 : decode cX9_onward 55 = .ok (.iload 5, 2) := by decide +kernel
theorem dX9_onward_57 : decode cX9_onward 57 = .ok (.goto 4, 3) := by decide +kernel
theorem dX9_onward_60 : decode cX9_onward 60 = .ok (.iconst 0, 1) := by decide +kernel
theorem dX9_onward_61 : decode cX9_onward 61 = .ok (.ior, 1) := by decide +kernel
theorem dX9_onward_62 : decode cX9_onward 62 = .ok (.istore_n 3, 1) := by decide +kernel
theorem dX9_onward_63 : decode cX9_onward 63 = .ok (.iinc 4 1, 3) := by decide +kernel
theorem dX9_onward_66 : decode cX9_onward 66 = .ok (.goto (-61), 3) := by decide +kernel
theorem dX9_onward_69 : decode cX9_onward 69 = .ok (.iload_n 3, 1) := by decide +kernel
theorem dX9_onward_70 : decode cX9_onward 70 = .ok (.ireturn, 1) := by decide +kernel
theorem dX9_roamsBy_0 : decode cX9_roamsBy 0 = .ok (.iconst 1, 1) := by decide +kernel
theorem dX9_roamsBy_1 : decode cX9_roamsBy 1 = .ok (.iload_n 1, 1) := by decide +kernel
theorem dX9_roamsBy_2 : decode cX9_roamsBy 2 = .ok (.ishl, 1) := by decide +kernel
theorem dX9_roamsBy_3 : decode cX9_roamsBy 3 = .ok (.istore_n 3, 1) := by decide +kernel
theorem dX9_roamsBy_4 : decode cX9_roamsBy 4 = .ok (.iconst 0, 1) := by decide +kernel
theorem dX9_roamsBy_5 : decode cX9_roamsBy 5 = .ok (.istore 4, 2) := by decide +kernel
theorem dX9_roamsBy_7 : decode cX9_roamsBy 7 = .ok (.iload_n 3, 1) := by decide +kernel
theorem dX9_roamsBy_8 : decode cX9_roamsBy 8 = .ok (.iload 4, 2) := by decide +kernel
theorem dX9_roamsBy_10 : decode cX9_roamsBy 10 = .ok (.if_icmp .eq 16, 3) := by decide +kernel
theorem dX9_roamsBy_13 : decode cX9_roamsBy 13 = .ok (.iload_n 3, 1) := by decide +kernel
theorem dX9_roamsBy_14 : decode cX9_roamsBy 14 = .ok (.istore 4, 2) := by decide +kernel
theorem dX9_roamsBy_16 : decode cX9_roamsBy 16 = .ok (.aload_n 0, 1) := by decide +kernel
theorem dX9_roamsBy_17 : decode cX9_roamsBy 17 = .ok (.iload_n 3, 1) := by decide +kernel
theorem dX9_roamsBy_18 : decode cX9_roamsBy 18 = .ok (.iload_n 2, 1) := by decide +kernel
theorem dX9_roamsBy_19 : decode cX9_roamsBy 19 = .ok (.invokevirtual 227, 3) := by decide +kernel
theorem dX9_roamsBy_22 : decode cX9_roamsBy 22 = .ok (.istore_n 3, 1) := by decide +kernel
theorem dX9_roamsBy_23 : decode cX9_roamsBy 23 = .ok (.goto (-16), 3) := by decide +kernel
theorem dX9_roamsBy_26 : decode cX9_roamsBy 26 = .ok (.iload_n 3, 1) := by decide +kernel
theorem dX9_roamsBy_27 : decode cX9_roamsBy 27 = .ok (.ireturn, 1) := by decide +kernel
theorem dX9_all_0 : decode cX9_all 0 = .ok (.iconst 1, 1) := by decide +kernel
theorem dX9_all_1 : decode cX9_all 1 = .ok (.aload_n 0, 1) := by decide +kernel
theorem dX9_all_2 : decode cX9_all 2 = .ok (.getfield 9, 3) := by decide +kernel
theorem dX9_all_5 : decode cX9_all 5 = .ok (.iconst 3, 1) := by decide +kernel
theorem dX9_all_6 : decode cX9_all 6 = .ok (.iaload, 1) := by decide +kernel
theorem dX9_all_7 : decode cX9_all 7 = .ok (.ishl, 1) := by decide +kernel
theorem dX9_all_8 : decode cX9_all 8 = .ok (.iconst 1, 1) := by decide +kernel
theorem dX9_all_9 : decode cX9_all 9 = .ok (.isub, 1) := by decide +kernel
theorem dX9_all_10 : decode cX9_all 10 = .ok (.ireturn, 1) := by decide +kernel
theorem dX9_way_0 : decode cX9_way 0 = .ok (.iload_n 1, 1) := by decide +kernel
theorem dX9_way_1 : decode cX9_way 1 = .ok (.invokestatic 64, 3) := by decide +kernel
theorem dX9_way_4 : decode cX9_way 4 = .ok (.ifCond .eq 10, 3) := by decide +kernel
theorem dX9_way_7 : decode cX9_way 7 = .ok (.iload_n 2, 1) := by decide +kernel
theorem dX9_way_8 : decode cX9_way 8 = .ok (.invokestatic 64, 3) := by decide +kernel
theorem dX9_way_11 : decode cX9_way 11 = .ok (.ifCond .ne 10, 3) := by decide +kernel
theorem dX9_way_14 : decode cX9_way 14 = .ok (.aload_n 0, 1) := by decide +kernel
theorem dX9_way_15 : decode cX9_way 15 = .ok (.ldc 95, 2) := by decide +kernel
theorem dX9_way_17 : decode cX9_way 17 = .ok (.invokevirtual 96, 3) := by decide +kernel
theorem dX9_way_20 : decode cX9_way 20 = .ok (.ireturn, 1) := by decide +kernel
theorem dX9_way_21 : decode cX9_way 21 = .ok (.iconst 1, 1) := by decide +kernel
theorem dX9_way_22 : decode cX9_way 22 = .ok (.iload_n 1, 1) := by decide +kernel
theorem dX9_way_23 : decode cX9_way 23 = .ok (.ishl, 1) := by decide +kernel
theorem dX9_way_24 : decode cX9_way 24 = .ok (.istore_n 3, 1) := by decide +kernel
theorem dX9_way_25 : decode cX9_way 25 = .ok (.iconst 0, 1) := by decide +kernel
theorem dX9_way_26 : decode cX9_way 26 = .ok (.istore 4, 2) := by decide +kernel
theorem dX9_way_28 : decode cX9_way 28 = .ok (.iload 4, 2) := by decide +kernel
theorem dX9_way_30 : decode cX9_way 30 = .ok (.bipush 7, 2) := by decide +kernel
theorem dX9_way_32 : decode cX9_way 32 = .ok (.if_icmp .ge 31, 3) := by decide +kernel
theorem dX9_way_35 : decode cX9_way 35 = .ok (.iload_n 3, 1) := by decide +kernel
theorem dX9_way_36 : decode cX9_way 36 = .ok (.iload_n 2, 1) := by decide +kernel
theorem dX9_way_37 : decode cX9_way 37 = .ok (.ishr, 1) := by decide +kernel
theorem dX9_way_38 : decode cX9_way 38 = .ok (.iconst 1, 1) := by decide +kernel
theorem dX9_way_39 : decode cX9_way 39 = .ok (.iand, 1) := by decide +kernel
theorem dX9_way_40 : decode cX9_way 40 = .ok (.iconst 1, 1) := by decide +kernel
theorem dX9_way_41 : decode cX9_way 41 = .ok (.if_icmp .ne 6, 3) := by decide +kernel
theorem dX9_way_44 : decode cX9_way 44 = .ok (.iload 4, 2) := by decide +kernel
theorem dX9_way_46 : decode cX9_way 46 = .ok (.ireturn, 1) := by decide +kernel
theorem dX9_way_47 : decode cX9_way 47 = .ok (.aload_n 0, 1) := by decide +kernel
theorem dX9_way_48 : decode cX9_way 48 = .ok (.iload_n 3, 1) := by decide +kernel
theorem dX9_way_49 : decode cX9_way 49 = .ok (.aload_n 0, 1) := by decide +kernel
theorem dX9_way_50 : decode cX9_way 50 = .ok (.invokevirtual 230, 3) := by decide +kernel
theorem dX9_way_53 : decode cX9_way 53 = .ok (.invokevirtual 227, 3) := by decide +kernel
theorem dX9_way_56 : decode cX9_way 56 = .ok (.istore_n 3, 1) := by decide +kernel
theorem dX9_way_57 : decode cX9_way 57 = .ok (.iinc 4 1, 3) := by decide +kernel
theorem dX9_way_60 : decode cX9_way 60 = .ok (.goto (-32), 3) := by decide +kernel
theorem dX9_way_63 : decode cX9_way 63 = .ok (.aload_n 0, 1) := by decide +kernel
theorem dX9_way_64 : decode cX9_way 64 = .ok (.ldc 220, 2) := by decide +kernel
theorem dX9_way_66 : decode cX9_way 66 = .ok (.invokevirtual 96, 3) := by decide +kernel
theorem dX9_way_69 : decode cX9_way 69 = .ok (.ireturn, 1) := by decide +kernel
theorem dX9_cut_0 : decode cX9_cut 0 = .ok (.iload_n 1, 1) := by decide +kernel
theorem dX9_cut_1 : decode cX9_cut 1 = .ok (.iload_n 2, 1) := by decide +kernel
theorem dX9_cut_2 : decode cX9_cut 2 = .ok (.invokestatic 113, 3) := by decide +kernel
theorem dX9_cut_5 : decode cX9_cut 5 = .ok (.ifCond .eq 12, 3) := by decide +kernel
theorem dX9_cut_8 : decode cX9_cut 8 = .ok (.iload_n 3, 1) := by decide +kernel
theorem dX9_cut_9 : decode cX9_cut 9 = .ok (.iconst 0, 1) := by decide +kernel
theorem dX9_cut_10 : decode cX9_cut 10 = .ok (.iconst 1, 1) := by decide +kernel
theorem dX9_cut_11 : decode cX9_cut 11 = .ok (.invokestatic 60, 3) := by decide +kernel
theorem dX9_cut_14 : decode cX9_cut 14 = .ok (.ifCond .ne 10, 3) := by decide +kernel
theorem dX9_cut_17 : decode cX9_cut 17 = .ok (.aload_n 0, 1) := by decide +kernel
theorem dX9_cut_18 : decode cX9_cut 18 = .ok (.ldc 95, 2) := by decide +kernel
theorem dX9_cut_20 : decode cX9_cut 20 = .ok (.invokevirtual 96, 3) := by decide +kernel
theorem dX9_cut_23 : decode cX9_cut 23 = .ok (.ireturn, 1) := by decide +kernel
theorem dX9_cut_24 : decode cX9_cut 24 = .ok (.iconst (-1), 1) := by decide +kernel
theorem dX9_cut_25 : decode cX9_cut 25 = .ok (.istore 4, 2) := by decide +kernel
theorem dX9_cut_27 : decode cX9_cut 27 = .ok (.iconst 0, 1) := by decide +kernel
theorem dX9_cut_28 : decode cX9_cut 28 = .ok (.istore 5, 2) := by decide +kernel
theorem dX9_cut_30 : decode cX9_cut 30 = .ok (.iload 5, 2) := by decide +kernel
theorem dX9_cut_32 : decode cX9_cut 32 = .ok (.aload_n 0, 1) := by decide +kernel
theorem dX9_cut_33 : decode cX9_cut 33 = .ok (.invokevirtual 230, 3) := by decide +kernel
theorem dX9_cut_36 : decode cX9_cut 36 = .ok (.if_icmp .gt 69, 3) := by decide +kernel
theorem dX9_cut_39 : decode cX9_cut 39 = .ok (.iload 4, 2) := by decide +kernel
theorem dX9_cut_41 : decode cX9_cut 41 = .ok (.ifCond .lt 16, 3) := by decide +kernel
theorem dX9_cut_44 : decode cX9_cut 44 = .ok (.iload 5, 2) := by decide +kernel
theorem dX9_cut_46 : decode cX9_cut 46 = .ok (.invokestatic 233, 3) := by decide +kernel
theorem dX9_cut_49 : decode cX9_cut 49 = .ok (.iload 4, 2) := by decide +kernel
theorem dX9_cut_51 : decode cX9_cut 51 = .ok (.invokestatic 233, 3) := by decide +kernel
theorem dX9_cut_54 : decode cX9_cut 54 = .ok (.if_icmp .ge 7, 3) := by decide +kernel
theorem dX9_cut_57 : decode cX9_cut 57 = .ok (.iconst 1, 1) := by decide +kernel
theorem dX9_cut_58 : decode cX9_cut 58 = .ok (.goto 4, 3) := by decide +kernel
theorem dX9_cut_61 : decode cX9_cut 61 = .ok (.iconst 0, 1) := by decide +kernel
theorem dX9_cut_62 : decode cX9_cut 62 = .ok (.istore 6, 2) := by decide +kernel
theorem dX9_cut_64 : decode cX9_cut 64 = .ok (.iload 6, 2) := by decide +kernel
theorem dX9_cut_66 : decode cX9_cut 66 = .ok (.ifCond .eq 29, 3) := by decide +kernel
theorem dX9_cut_69 : decode cX9_cut 69 = .ok (.aload_n 0, 1) := by decide +kernel
theorem dX9_cut_70 : decode cX9_cut 70 = .ok (.iload_n 1, 1) := by decide +kernel
theorem dX9_cut_71 : decode cX9_cut 71 = .ok (.aload_n 0, 1) := by decide +kernel
theorem dX9_cut_72 : decode cX9_cut 72 = .ok (.invokevirtual 230, 3) := by decide +kernel
theorem dX9_cut_75 : decode cX9_cut 75 = .ok (.iload 5, 2) := by decide +kernel
theorem dX9_cut_77 : decode cX9_cut 77 = .ok (.iconst (-1), 1) := by decide +kernel
theorem dX9_cut_78 : decode cX9_cut 78 = .ok (.ixor, 1) := by decide +kernel
theorem dX9_cut_79 : decode cX9_cut 79 = .ok (.iand, 1) := by decide +kernel
theorem dX9_cut_80 : decode cX9_cut 80 = .ok (.invokevirtual 236, 3) := by decide +kernel
theorem dX9_cut_83 : decode cX9_cut 83 = .ok (.iload_n 2, 1) := by decide +kernel
theorem dX9_cut_84 : decode cX9_cut 84 = .ok (.ishr, 1) := by decide +kernel
theorem dX9_cut_85 : decode cX9_cut 85 = .ok (.iconst 1, 1) := by decide +kernel
theorem dX9_cut_86 : decode cX9_cut 86 = .ok (.iand, 1) := by decide +kernel
theorem dX9_cut_87 : decode cX9_cut 87 = .ok (.ifCond .ne 8, 3) := by decide +kernel
theorem dX9_cut_90 : decode cX9_cut 90 = .ok (.iload 5, 2) := by decide +kernel
theorem dX9_cut_92 : decode cX9_cut 92 = .ok (.goto 5, 3) := by decide +kernel
theorem dX9_cut_95 : decode cX9_cut 95 = .ok (.iload 4, 2) := by decide +kernel
theorem dX9_cut_97 : decode cX9_cut 97 = .ok (.istore 4, 2) := by decide +kernel
theorem dX9_cut_99 : decode cX9_cut 99 = .ok (.iinc 5 1, 3) := by decide +kernel
theorem dX9_cut_102 : decode cX9_cut 102 = .ok (.goto (-72), 3) := by decide +kernel
theorem dX9_cut_105 : decode cX9_cut 105 = .ok (.iload_n 3, 1) := by decide +kernel
theorem dX9_cut_106 : decode cX9_cut 106 = .ok (.ifCond .ne 11, 3) := by decide +kernel
theorem dX9_cut_109 : decode cX9_cut 109 = .ok (.iload 4, 2) := by decide +kernel
theorem dX9_cut_111 : decode cX9_cut 111 = .ok (.invokestatic 233, 3) := by decide +kernel
theorem dX9_cut_114 : decode cX9_cut 114 = .ok (.goto 5, 3) := by decide +kernel
theorem dX9_cut_117 : decode cX9_cut 117 = .ok (.iload 4, 2) := by decide +kernel
theorem dX9_cut_119 : decode cX9_cut 119 = .ok (.ireturn, 1) := by decide +kernel
theorem dX9_roams_0 : decode cX9_roams 0 = .ok (.iload_n 1, 1) := by decide +kernel
theorem dX9_roams_1 : decode cX9_roams 1 = .ok (.invokestatic 64, 3) := by decide +kernel
theorem dX9_roams_4 : decode cX9_roams 4 = .ok (.ifCond .eq 15, 3) := by decide +kernel
theorem dX9_roams_7 : decode cX9_roams 7 = .ok (.aload_n 0, 1) := by decide +kernel
theorem dX9_roams_8 : decode cX9_roams 8 = .ok (.iload_n 1, 1) := by decide +kernel
theorem dX9_roams_9 : decode cX9_roams 9 = .ok (.aload_n 0, 1) := by decide +kernel
theorem dX9_roams_10 : decode cX9_roams 10 = .ok (.invokevirtual 205, 3) := by decide +kernel
theorem dX9_roams_13 : decode cX9_roams 13 = .ok (.invokevirtual 236, 3) := by decide +kernel
theorem dX9_roams_16 : decode cX9_roams 16 = .ok (.goto 9, 3) := by decide +kernel
theorem dX9_roams_19 : decode cX9_roams 19 = .ok (.aload_n 0, 1) := by decide +kernel
theorem dX9_roams_20 : decode cX9_roams 20 = .ok (.ldc 95, 2) := by decide +kernel
theorem dX9_roams_22 : decode cX9_roams 22 = .ok (.invokevirtual 96, 3) := by decide +kernel
theorem dX9_roams_25 : decode cX9_roams 25 = .ok (.ireturn, 1) := by decide +kernel
theorem dX9_odds_0 : decode cX9_odds 0 = .ok (.iload_n 1, 1) := by decide +kernel
theorem dX9_odds_1 : decode cX9_odds 1 = .ok (.invokestatic 64, 3) := by decide +kernel
theorem dX9_odds_4 : decode cX9_odds 4 = .ok (.ifCond .eq 12, 3) := by decide +kernel
theorem dX9_odds_7 : decode cX9_odds 7 = .ok (.iload_n 2, 1) := by decide +kernel
theorem dX9_odds_8 : decode cX9_odds 8 = .ok (.iconst 0, 1) := by decide +kernel
theorem dX9_odds_9 : decode cX9_odds 9 = .ok (.iconst 1, 1) := by decide +kernel
theorem dX9_odds_10 : decode cX9_odds 10 = .ok (.invokestatic 60, 3) := by decide +kernel
theorem dX9_odds_13 : decode cX9_odds 13 = .ok (.ifCond .ne 10, 3) := by decide +kernel
theorem dX9_odds_16 : decode cX9_odds 16 = .ok (.aload_n 0, 1) := by decide +kernel
theorem dX9_odds_17 : decode cX9_odds 17 = .ok (.ldc 95, 2) := by decide +kernel
theorem dX9_odds_19 : decode cX9_odds 19 = .ok (.invokevirtual 96, 3) := by decide +kernel
theorem dX9_odds_22 : decode cX9_odds 22 = .ok (.ireturn, 1) := by decide +kernel
theorem dX9_odds_23 : decode cX9_odds 23 = .ok (.aload_n 0, 1) := by decide +kernel
theorem dX9_odds_24 : decode cX9_odds 24 = .ok (.getfield 9, 3) := by decide +kernel
theorem dX9_odds_27 : decode cX9_odds 27 = .ok (.iconst 3, 1) := by decide +kernel
theorem dX9_odds_28 : decode cX9_odds 28 = .ok (.iaload, 1) := by decide +kernel
theorem dX9_odds_29 : decode cX9_odds 29 = .ok (.istore_n 3, 1) := by decide +kernel
theorem dX9_odds_30 : decode cX9_odds 30 = .ok (.iload_n 3, 1) := by decide +kernel
theorem dX9_odds_31 : decode cX9_odds 31 = .ok (.ifCond .ne 10, 3) := by decide +kernel
theorem dX9_odds_34 : decode cX9_odds 34 = .ok (.aload_n 0, 1) := by decide +kernel
theorem dX9_odds_35 : decode cX9_odds 35 = .ok (.ldc 201, 2) := by decide +kernel
theorem dX9_odds_37 : decode cX9_odds 37 = .ok (.invokevirtual 96, 3) := by decide +kernel
theorem dX9_odds_40 : decode cX9_odds 40 = .ok (.ireturn, 1) := by decide +kernel
theorem dX9_odds_41 : decode cX9_odds 41 = .ok (.aload_n 0, 1) := by decide +kernel
theorem dX9_odds_42 : decode cX9_odds 42 = .ok (.iload_n 1, 1) := by decide +kernel
theorem dX9_odds_43 : decode cX9_odds 43 = .ok (.aload_n 0, 1) := by decide +kernel
theorem dX9_odds_44 : decode cX9_odds 44 = .ok (.invokevirtual 205, 3) := by decide +kernel
theorem dX9_odds_47 : decode cX9_odds 47 = .ok (.invokevirtual 236, 3) := by decide +kernel
theorem dX9_odds_50 : decode cX9_odds 50 = .ok (.istore 4, 2) := by decide +kernel
theorem dX9_odds_52 : decode cX9_odds 52 = .ok (.iconst 0, 1) := by decide +kernel
theorem dX9_odds_53 : decode cX9_odds 53 = .ok (.istore 5, 2) := by decide +kernel
theorem dX9_odds_55 : decode cX9_odds 55 = .ok (.iconst 0, 1) := by decide +kernel
theorem dX9_odds_56 : decode cX9_odds 56 = .ok (.istore 6, 2) := by decide +kernel
theorem dX9_odds_58 : decode cX9_odds 58 = .ok (.iload 6, 2) := by decide +kernel
theorem dX9_odds_60 : decode cX9_odds 60 = .ok (.aload_n 0, 1) := by decide +kernel
theorem dX9_odds_61 : decode cX9_odds 61 = .ok (.getfield 9, 3) := by decide +kernel
theorem dX9_odds_64 : decode cX9_odds 64 = .ok (.iconst 3, 1) := by decide +kernel
theorem dX9_odds_65 : decode cX9_odds 65 = .ok (.iaload, 1) := by decide +kernel
theorem dX9_odds_66 : decode cX9_odds 66 = .ok (.if_icmp .ge 38, 3) := by decide +kernel
theorem dX9_odds_69 : decode cX9_odds 69 = .ok (.iload 5, 2) := by decide +kernel
theorem dX9_odds_71 : decode cX9_odds 71 = .ok (.aload_n 0, 1) := by decide +kernel
theorem dX9_odds_72 : decode cX9_odds 72 = .ok (.iload_n 1, 1) := by decide +kernel
theorem dX9_odds_73 : decode cX9_odds 73 = .ok (.aload_n 0, 1) := by decide +kernel
theorem dX9_odds_74 : decode cX9_odds 74 = .ok (.invokevirtual 205, 3) := by decide +kernel
theorem dX9_odds_77 : decode cX9_odds 77 = .ok (.iconst 1, 1) := by decide +kernel
theorem dX9_odds_78 : decode cX9_odds 78 = .ok (.iload 6, 2) := by decide +kernel
theorem dX9_odds_80 : decode cX9_odds 80 = .ok (.ishl, 1) := by decide +kernel
theorem dX9_odds_81 : decode cX9_odds 81 = .ok (.ior, 1) := by decide +kernel
theorem dX9_odds_82 : decode cX9_odds 82 = .ok (.invokevirtual 236, 3) := by decide +kernel
theorem dX9_odds_85 : decode cX9_odds 85 = .ok (.iload 4, 2) := by decide +kernel
theorem dX9_odds_87 : decode cX9_odds 87 = .ok (.if_icmp .ne 7, 3) := by decide +kernel
theorem dX9_odds_90 : decode cX9_odds 90 = .ok (.iconst 0, 1) := by decide +kernel
theorem dX9_odds_91 : decode cX9_odds 91 = .ok (.goto 4, 3) := by decide +kernel
theorem dX9_odds_94 : decode cX9_odds 94 = .ok (.iconst 1, 1) := by decide +kernel
theorem dX9_odds_95 : decode cX9_odds 95 = .ok (.iadd, 1) := by decide +kernel
theorem dX9_odds_96 : decode cX9_odds 96 = .ok (.istore 5, 2) := by decide +kernel
theorem dX9_odds_98 : decode cX9_odds 98 = .ok (.iinc 6 1, 3) := by decide +kernel
theorem dX9_odds_101 : decode cX9_odds 101 = .ok (.goto (-43), 3) := by decide +kernel
theorem dX9_odds_104 : decode cX9_odds 104 = .ok (.iload_n 3, 1) := by decide +kernel
theorem dX9_odds_105 : decode cX9_odds 105 = .ok (.istore 6, 2) := by decide +kernel
theorem dX9_odds_107 : decode cX9_odds 107 = .ok (.iload 6, 2) := by decide +kernel
theorem dX9_odds_109 : decode cX9_odds 109 = .ok (.iconst 1, 1) := by decide +kernel
theorem dX9_odds_110 : decode cX9_odds 110 = .ok (.if_icmp .le 36, 3) := by decide +kernel
theorem dX9_odds_113 : decode cX9_odds 113 = .ok (.iload 5, 2) := by decide +kernel
theorem dX9_odds_115 : decode cX9_odds 115 = .ok (.iload 6, 2) := by decide +kernel
theorem dX9_odds_117 : decode cX9_odds 117 = .ok (.irem, 1) := by decide +kernel
theorem dX9_odds_118 : decode cX9_odds 118 = .ok (.ifCond .ne 22, 3) := by decide +kernel
theorem dX9_odds_121 : decode cX9_odds 121 = .ok (.iload_n 3, 1) := by decide +kernel
theorem dX9_odds_122 : decode cX9_odds 122 = .ok (.iload 6, 2) := by decide +kernel
theorem dX9_odds_124 : decode cX9_odds 124 = .ok (.irem, 1) := by decide +kernel
theorem dX9_odds_125 : decode cX9_odds 125 = .ok (.ifCond .ne 15, 3) := by decide +kernel
theorem dX9_odds_128 : decode cX9_odds 128 = .ok (.iload 5, 2) := by decide +kernel
theorem dX9_odds_130 : decode cX9_odds 130 = .ok (.iload 6, 2) := by decide +kernel
theorem dX9_odds_132 : decode cX9_odds 132 = .ok (.idiv, 1) := by decide +kernel
theorem dX9_odds_133 : decode cX9_odds 133 = .ok (.istore 5, 2) := by decide +kernel
theorem dX9_odds_135 : decode cX9_odds 135 = .ok (.iload_n 3, 1) := by decide +kernel
theorem dX9_odds_136 : decode cX9_odds 136 = .ok (.iload 6, 2) := by decide +kernel
theorem dX9_odds_138 : decode cX9_odds 138 = .ok (.idiv, 1) := by decide +kernel
theorem dX9_odds_139 : decode cX9_odds 139 = .ok (.istore_n 3, 1) := by decide +kernel
theorem dX9_odds_140 : decode cX9_odds 140 = .ok (.iinc 6 (-1), 3) := by decide +kernel
theorem dX9_odds_143 : decode cX9_odds 143 = .ok (.goto (-36), 3) := by decide +kernel
theorem dX9_odds_146 : decode cX9_odds 146 = .ok (.iload_n 2, 1) := by decide +kernel
theorem dX9_odds_147 : decode cX9_odds 147 = .ok (.ifCond .ne 8, 3) := by decide +kernel
theorem dX9_odds_150 : decode cX9_odds 150 = .ok (.iload 5, 2) := by decide +kernel
theorem dX9_odds_152 : decode cX9_odds 152 = .ok (.goto 4, 3) := by decide +kernel
theorem dX9_odds_155 : decode cX9_odds 155 = .ok (.iload_n 3, 1) := by decide +kernel
theorem dX9_odds_156 : decode cX9_odds 156 = .ok (.ireturn, 1) := by decide +kernel
theorem dX9_isSo_0 : decode cX9_isSo 0 = .ok (.iconst 1, 1) := by decide +kernel
theorem dX9_isSo_1 : decode cX9_isSo 1 = .ok (.istore_n 2, 1) := by decide +kernel
theorem dX9_isSo_2 : decode cX9_isSo 2 = .ok (.iconst 0, 1) := by decide +kernel
theorem dX9_isSo_3 : decode cX9_isSo 3 = .ok (.istore_n 3, 1) := by decide +kernel
theorem dX9_isSo_4 : decode cX9_isSo 4 = .ok (.iload_n 3, 1) := by decide +kernel
theorem dX9_isSo_5 : decode cX9_isSo 5 = .ok (.aload_n 0, 1) := by decide +kernel
theorem dX9_isSo_6 : decode cX9_isSo 6 = .ok (.getfield 25, 3) := by decide +kernel
theorem dX9_isSo_9 : decode cX9_isSo 9 = .ok (.iload_n 1, 1) := by decide +kernel
theorem dX9_isSo_10 : decode cX9_isSo 10 = .ok (.iaload, 1) := by decide +kernel
theorem dX9_isSo_11 : decode cX9_isSo 11 = .ok (.if_icmp .ge 39, 3) := by decide +kernel
theorem dX9_isSo_14 : decode cX9_isSo 14 = .ok (.iload_n 2, 1) := by decide +kernel
theorem dX9_isSo_15 : decode cX9_isSo 15 = .ok (.ifCond .eq 35, 3) := by decide +kernel
theorem dX9_isSo_18 : decode cX9_isSo 18 = .ok (.aload_n 0, 1) := by decide +kernel
theorem dX9_isSo_19 : decode cX9_isSo 19 = .ok (.getfield 28, 3) := by decide +kernel
theorem dX9_isSo_22 : decode cX9_isSo 22 = .ok (.bipush 24, 2) := by decide +kernel
theorem dX9_isSo_24 : decode cX9_isSo 24 = .ok (.iload_n 1, 1) := by decide +kernel
theorem dX9_isSo_25 : decode cX9_isSo 25 = .ok (.imul, 1) := by decide +kernel
theorem dX9_isSo_26 : decode cX9_isSo 26 = .ok (.iload_n 3, 1) := by decide +kernel
theorem dX9_isSo_27 : decode cX9_isSo 27 = .ok (.iadd, 1) := by decide +kernel
theorem dX9_isSo_28 : decode cX9_isSo 28 = .ok (.iaload, 1) := by decide +kernel
theorem dX9_isSo_29 : decode cX9_isSo 29 = .ok (.aload_n 0, 1) := by decide +kernel
theorem dX9_isSo_30 : decode cX9_isSo 30 = .ok (.iload_n 3, 1) := by decide +kernel
theorem dX9_isSo_31 : decode cX9_isSo 31 = .ok (.iconst 3, 1) := by decide +kernel
theorem dX9_isSo_32 : decode cX9_isSo 32 = .ok (.invokevirtual 68, 3) := by decide +kernel
theorem dX9_isSo_35 : decode cX9_isSo 35 = .ok (.if_icmp .ne 7, 3) := by decide +kernel
theorem dX9_isSo_38 : decode cX9_isSo 38 = .ok (.iconst 1, 1) := by decide +kernel
theorem dX9_isSo_39 : decode cX9_isSo 39 = .ok (.goto 4, 3) := by decide +kernel
theorem dX9_isSo_42 : decode cX9_isSo 42 = .ok (.iconst 0, 1) := by decide +kernel
theorem dX9_isSo_43 : decode cX9_isSo 43 = .ok (.istore_n 2, 1) := by decide +kernel
theorem dX9_isSo_44 : decode cX9_isSo 44 = .ok (.iinc 3 1, 3) := by decide +kernel
theorem dX9_isSo_47 : decode cX9_isSo 47 = .ok (.goto (-43), 3) := by decide +kernel
theorem dX9_isSo_50 : decode cX9_isSo 50 = .ok (.iload_n 2, 1) := by decide +kernel
theorem dX9_isSo_51 : decode cX9_isSo 51 = .ok (.ireturn, 1) := by decide +kernel
theorem dX9_fits_0 : decode cX9_fits 0 = .ok (.aload_n 0, 1) := by decide +kernel
theorem dX9_fits_1 : decode cX9_fits 1 = .ok (.iload_n 1, 1) := by decide +kernel
theorem dX9_fits_2 : decode cX9_fits 2 = .ok (.invokevirtual 239, 3) := by decide +kernel
theorem dX9_fits_5 : decode cX9_fits 5 = .ok (.istore_n 2, 1) := by decide +kernel
theorem dX9_fits_6 : decode cX9_fits 6 = .ok (.iload_n 2, 1) := by decide +kernel
theorem dX9_fits_7 : decode cX9_fits 7 = .ok (.ifCond .eq 9, 3) := by decide +kernel
theorem dX9_fits_10 : decode cX9_fits 10 = .ok (.aload_n 0, 1) := by decide +kernel
theorem dX9_fits_11 : decode cX9_fits 11 = .ok (.iload_n 2, 1) := by decide +kernel
theorem dX9_fits_12 : decode cX9_fits 12 = .ok (.invokevirtual 96, 3) := by decide +kernel
theorem dX9_fits_15 : decode cX9_fits 15 = .ok (.ireturn, 1) := by decide +kernel
theorem dX9_fits_16 : decode cX9_fits 16 = .ok (.aload_n 0, 1) := by decide +kernel
theorem dX9_fits_17 : decode cX9_fits 17 = .ok (.getfield 25, 3) := by decide +kernel
theorem dX9_fits_20 : decode cX9_fits 20 = .ok (.iload_n 1, 1) := by decide +kernel
theorem dX9_fits_21 : decode cX9_fits 21 = .ok (.iaload, 1) := by decide +kernel
theorem dX9_fits_22 : decode cX9_fits 22 = .ok (.aload_n 0, 1) := by decide +kernel
theorem dX9_fits_23 : decode cX9_fits 23 = .ok (.getfield 9, 3) := by decide +kernel
theorem dX9_fits_26 : decode cX9_fits 26 = .ok (.iconst 3, 1) := by decide +kernel
theorem dX9_fits_27 : decode cX9_fits 27 = .ok (.iaload, 1) := by decide +kernel
theorem dX9_fits_28 : decode cX9_fits 28 = .ok (.if_icmp .le 10, 3) := by decide +kernel
theorem dX9_fits_31 : decode cX9_fits 31 = .ok (.aload_n 0, 1) := by decide +kernel
theorem dX9_fits_32 : decode cX9_fits 32 = .ok (.ldc 220, 2) := by decide +kernel
theorem dX9_fits_34 : decode cX9_fits 34 = .ok (.invokevirtual 96, 3) := by decide +kernel
theorem dX9_fits_37 : decode cX9_fits 37 = .ok (.ireturn, 1) := by decide +kernel
theorem dX9_fits_38 : decode cX9_fits 38 = .ok (.aload_n 0, 1) := by decide +kernel
theorem dX9_fits_39 : decode cX9_fits 39 = .ok (.invokevirtual 214, 3) := by decide +kernel
theorem dX9_fits_42 : decode cX9_fits 42 = .ok (.iconst 0, 1) := by decide +kernel
theorem dX9_fits_43 : decode cX9_fits 43 = .ok (.istore_n 3, 1) := by decide +kernel
theorem dX9_fits_44 : decode cX9_fits 44 = .ok (.iload_n 3, 1) := by decide +kernel
theorem dX9_fits_45 : decode cX9_fits 45 = .ok (.bipush 60, 2) := by decide +kernel
theorem dX9_fits_47 : decode cX9_fits 47 = .ok (.if_icmp .gt 21, 3) := by decide +kernel
theorem dX9_fits_50 : decode cX9_fits 50 = .ok (.aload_n 0, 1) := by decide +kernel
theorem dX9_fits_51 : decode cX9_fits 51 = .ok (.iload_n 1, 1) := by decide +kernel
theorem dX9_fits_52 : decode cX9_fits 52 = .ok (.invokevirtual 242, 3) := by decide +kernel
theorem dX9_fits_55 : decode cX9_fits 55 = .ok (.ifCond .ne 13, 3) := by decide +kernel
theorem dX9_fits_58 : decode cX9_fits 58 = .ok (.aload_n 0, 1) := by decide +kernel
theorem dX9_fits_59 : decode cX9_fits 59 = .ok (.invokevirtual 202, 3) := by decide +kernel
theorem dX9_fits_62 : decode cX9_fits 62 = .ok (.iinc 3 1, 3) := by decide +kernel
theorem dX9_fits_65 : decode cX9_fits 65 = .ok (.goto (-21), 3) := by decide +kernel
theorem dX9_fits_68 : decode cX9_fits 68 = .ok (.aload_n 0, 1) := by decide +kernel
theorem dX9_fits_69 : decode cX9_fits 69 = .ok (.invokevirtual 217, 3) := by decide +kernel
theorem dX9_fits_72 : decode cX9_fits 72 = .ok (.iload_n 3, 1) := by decide +kernel
theorem dX9_fits_73 : decode cX9_fits 73 = .ok (.bipush 60, 2) := by decide +kernel
theorem dX9_fits_75 : decode cX9_fits 75 = .ok (.if_icmp .le 12, 3) := by decide +kernel
theorem dX9_fits_78 : decode cX9_fits 78 = .ok (.aload_n 0, 1) := by decide +kernel
theorem dX9_fits_79 : decode cX9_fits 79 = .ok (.ldc 220, 2) := by decide +kernel
theorem dX9_fits_81 : decode cX9_fits 81 = .ok (.invokevirtual 96, 3) := by decide +kernel
theorem dX9_fits_84 : decode cX9_fits 84 = .ok (.goto 4, 3) := by decide +kernel
theorem dX9_fits_87 : decode cX9_fits 87 = .ok (.iload_n 3, 1) := by decide +kernel
theorem dX9_fits_88 : decode cX9_fits 88 = .ok (.ireturn, 1) := by decide +kernel
theorem dX9_begins_0 : decode cX9_begins 0 = .ok (.aload_n 0, 1) := by decide +kernel
theorem dX9_begins_1 : decode cX9_begins 1 = .ok (.getfield 245, 3) := by decide +kernel
theorem dX9_begins_4 : decode cX9_begins 4 = .ok (.bipush 30, 2) := by decide +kernel
theorem dX9_begins_6 : decode cX9_begins 6 = .ok (.if_icmp .ge 23, 3) := by decide +kernel
theorem dX9_begins_9 : decode cX9_begins 9 = .ok (.aload_n 0, 1) := by decide +kernel
theorem dX9_begins_10 : decode cX9_begins 10 = .ok (.getfield 52, 3) := by decide +kernel
theorem dX9_begins_13 : decode cX9_begins 13 = .ok (.aload_n 0, 1) := by decide +kernel
theorem dX9_begins_14 : decode cX9_begins 14 = .ok (.getfield 245, 3) := by decide +kernel
theorem dX9_begins_17 : decode cX9_begins 17 = .ok (.iload_n 1, 1) := by decide +kernel
theorem dX9_begins_18 : decode cX9_begins 18 = .ok (.iastore, 1) := by decide +kernel
theorem dX9_begins_19 : decode cX9_begins 19 = .ok (.aload_n 0, 1) := by decide +kernel
theorem dX9_begins_20 : decode cX9_begins 20 = .ok (.dup, 1) := by decide +kernel
theorem dX9_begins_21 : decode cX9_begins 21 = .ok (.getfield 245, 3) := by decide +kernel
theorem dX9_begins_24 : decode cX9_begins 24 = .ok (.iconst 1, 1) := by decide +kernel
theorem dX9_begins_25 : decode cX9_begins 25 = .ok (.iadd, 1) := by decide +kernel
theorem dX9_begins_26 : decode cX9_begins 26 = .ok (.putfield 245, 3) := by decide +kernel
theorem dX9_begins_29 : decode cX9_begins 29 = .ok (.return_, 1) := by decide +kernel
theorem dX9_plainNods_0 : decode cX9_plainNods 0 = .ok (.aload_n 0, 1) := by decide +kernel
theorem dX9_plainNods_1 : decode cX9_plainNods 1 = .ok (.bipush 10, 2) := by decide +kernel
theorem dX9_plainNods_3 : decode cX9_plainNods 3 = .ok (.invokevirtual 248, 3) := by decide +kernel
theorem dX9_plainNods_6 : decode cX9_plainNods 6 = .ok (.iload_n 2, 1) := by decide +kernel
theorem dX9_plainNods_7 : decode cX9_plainNods 7 = .ok (.iload_n 1, 1) := by decide +kernel
theorem dX9_plainNods_8 : decode cX9_plainNods 8 = .ok (.iadd, 1) := by decide +kernel
theorem dX9_plainNods_9 : decode cX9_plainNods 9 = .ok (.ireturn, 1) := by decide +kernel
theorem dX9_loverNods_0 : decode cX9_loverNods 0 = .ok (.aload_n 0, 1) := by decide +kernel
theorem dX9_loverNods_1 : decode cX9_loverNods 1 = .ok (.bipush 20, 2) := by decide +kernel
theorem dX9_loverNods_3 : decode cX9_loverNods 3 = .ok (.invokevirtual 248, 3) := by decide +kernel
theorem dX9_loverNods_6 : decode cX9_loverNods 6 = .ok (.aload_n 0, 1) := by decide +kernel
end
section
theorem dX9_loverNods_7 : decode cX9_loverNods 7 = .ok (.iload_n 1, 1) := by decide +kernel
theorem dX9_loverNods_8 : decode cX9_loverNods 8 = .ok (.iload_n 2, 1) := by decide +kernel
theorem dX9_loverNods_9 : decode cX9_loverNods 9 = .ok (.invokevirtual 251, 3) := by decide +kernel
theorem dX9_loverNods_12 : decode cX9_loverNods 12 = .ok (.iconst 4, 1) := by decide +kernel
theorem dX9_loverNods_13 : decode cX9_loverNods 13 = .ok (.isub, 1) := by decide +kernel
theorem dX9_loverNods_14 : decode cX9_loverNods 14 = .ok (.ireturn, 1) := by decide +kernel
theorem dX9_nods_0 : decode cX9_nods 0 = .ok (.aload_n 0, 1) := by decide +kernel
theorem dX9_nods_1 : decode cX9_nods 1 = .ok (.iload_n 1, 1) := by decide +kernel
theorem dX9_nods_2 : decode cX9_nods 2 = .ok (.iconst 0, 1) := by decide +kernel
theorem dX9_nods_3 : decode cX9_nods 3 = .ok (.invokevirtual 75, 3) := by decide +kernel
theorem dX9_nods_6 : decode cX9_nods 6 = .ok (.lookupswitch 65 #[(1, 34), (4, 41), (6, 56)], 34) := by decide +kernel
theorem dX9_nods_40 : decode cX9_nods 40 = .ok (.aload_n 0, 1) := by decide +kernel
theorem dX9_nods_41 : decode cX9_nods 41 = .ok (.iload_n 1, 1) := by decide +kernel
theorem dX9_nods_42 : decode cX9_nods 42 = .ok (.iload_n 2, 1) := by decide +kernel
theorem dX9_nods_43 : decode cX9_nods 43 = .ok (.invokevirtual 254, 3) := by decide +kernel
theorem dX9_nods_46 : decode cX9_nods 46 = .ok (.ireturn, 1) := by decide +kernel
theorem dX9_nods_47 : decode cX9_nods 47 = .ok (.aload_n 0, 1) := by decide +kernel
theorem dX9_nods_48 : decode cX9_nods 48 = .ok (.bipush 50, 2) := by decide +kernel
theorem dX9_nods_50 : decode cX9_nods 50 = .ok (.invokevirtual 248, 3) := by decide +kernel
theorem dX9_nods_53 : decode cX9_nods 53 = .ok (.aload_n 0, 1) := by decide +kernel
theorem dX9_nods_54 : decode cX9_nods 54 = .ok (.iload_n 1, 1) := by decide +kernel
theorem dX9_nods_55 : decode cX9_nods 55 = .ok (.iload_n 2, 1) := by decide +kernel
theorem dX9_nods_56 : decode cX9_nods 56 = .ok (.invokevirtual 254, 3) := by decide +kernel
theorem dX9_nods_59 : decode cX9_nods 59 = .ok (.iconst 3, 1) := by decide +kernel
theorem dX9_nods_60 : decode cX9_nods 60 = .ok (.imul, 1) := by decide +kernel
theorem dX9_nods_61 : decode cX9_nods 61 = .ok (.ireturn, 1) := by decide +kernel
theorem dX9_nods_62 : decode cX9_nods 62 = .ok (.aload_n 0, 1) := by decide +kernel
theorem dX9_nods_63 : decode cX9_nods 63 = .ok (.bipush 70, 2) := by decide +kernel
theorem dX9_nods_65 : decode cX9_nods 65 = .ok (.invokevirtual 248, 3) := by decide +kernel
theorem dX9_nods_68 : decode cX9_nods 68 = .ok (.bipush 9, 2) := by decide +kernel
theorem dX9_nods_70 : decode cX9_nods 70 = .ok (.ireturn, 1) := by decide +kernel
theorem dX9_nods_71 : decode cX9_nods 71 = .ok (.aload_n 0, 1) := by decide +kernel
theorem dX9_nods_72 : decode cX9_nods 72 = .ok (.iload_n 1, 1) := by decide +kernel
theorem dX9_nods_73 : decode cX9_nods 73 = .ok (.iload_n 2, 1) := by decide +kernel
theorem dX9_nods_74 : decode cX9_nods 74 = .ok (.invokevirtual 251, 3) := by decide +kernel
theorem dX9_nods_77 : decode cX9_nods 77 = .ok (.ireturn, 1) := by decide +kernel
theorem dX9_plainMinds_0 : decode cX9_plainMinds 0 = .ok (.aload_n 0, 1) := by decide +kernel
theorem dX9_plainMinds_1 : decode cX9_plainMinds 1 = .ok (.bipush 11, 2) := by decide +kernel
theorem dX9_plainMinds_3 : decode cX9_plainMinds 3 = .ok (.invokevirtual 248, 3) := by decide +kernel
theorem dX9_plainMinds_6 : decode cX9_plainMinds 6 = .ok (.aload_n 0, 1) := by decide +kernel
theorem dX9_plainMinds_7 : decode cX9_plainMinds 7 = .ok (.iload_n 1, 1) := by decide +kernel
theorem dX9_plainMinds_8 : decode cX9_plainMinds 8 = .ok (.iload_n 2, 1) := by decide +kernel
theorem dX9_plainMinds_9 : decode cX9_plainMinds 9 = .ok (.invokevirtual 257, 3) := by decide +kernel
theorem dX9_plainMinds_12 : decode cX9_plainMinds 12 = .ok (.iconst 2, 1) := by decide +kernel
theorem dX9_plainMinds_13 : decode cX9_plainMinds 13 = .ok (.imul, 1) := by decide +kernel
theorem dX9_plainMinds_14 : decode cX9_plainMinds 14 = .ok (.ireturn, 1) := by decide +kernel
theorem dX9_thinkerMinds_0 : decode cX9_thinkerMinds 0 = .ok (.aload_n 0, 1) := by decide +kernel
theorem dX9_thinkerMinds_1 : decode cX9_thinkerMinds 1 = .ok (.bipush 30, 2) := by decide +kernel
theorem dX9_thinkerMinds_3 : decode cX9_thinkerMinds 3 = .ok (.invokevirtual 248, 3) := by decide +kernel
theorem dX9_thinkerMinds_6 : decode cX9_thinkerMinds 6 = .ok (.aload_n 0, 1) := by decide +kernel
theorem dX9_thinkerMinds_7 : decode cX9_thinkerMinds 7 = .ok (.iload_n 1, 1) := by decide +kernel
theorem dX9_thinkerMinds_8 : decode cX9_thinkerMinds 8 = .ok (.iload_n 2, 1) := by decide +kernel
theorem dX9_thinkerMinds_9 : decode cX9_thinkerMinds 9 = .ok (.invokevirtual 260, 3) := by decide +kernel
theorem dX9_thinkerMinds_12 : decode cX9_thinkerMinds 12 = .ok (.ineg, 1) := by decide +kernel
theorem dX9_thinkerMinds_13 : decode cX9_thinkerMinds 13 = .ok (.ireturn, 1) := by decide +kernel
theorem dX9_minds_0 : decode cX9_minds 0 = .ok (.aload_n 0, 1) := by decide +kernel
theorem dX9_minds_1 : decode cX9_minds 1 = .ok (.iload_n 1, 1) := by decide +kernel
theorem dX9_minds_2 : decode cX9_minds 2 = .ok (.iconst 0, 1) := by decide +kernel
theorem dX9_minds_3 : decode cX9_minds 3 = .ok (.invokevirtual 75, 3) := by decide +kernel
theorem dX9_minds_6 : decode cX9_minds 6 = .ok (.tableswitch 76 2 6 #[34, 76, 76, 41, 56], 34) := by decide +kernel
theorem dX9_minds_40 : decode cX9_minds 40 = .ok (.aload_n 0, 1) := by decide +kernel
theorem dX9_minds_41 : decode cX9_minds 41 = .ok (.iload_n 1, 1) := by decide +kernel
theorem dX9_minds_42 : decode cX9_minds 42 = .ok (.iload_n 2, 1) := by decide +kernel
theorem dX9_minds_43 : decode cX9_minds 43 = .ok (.invokevirtual 263, 3) := by decide +kernel
theorem dX9_minds_46 : decode cX9_minds 46 = .ok (.ireturn, 1) := by decide +kernel
theorem dX9_minds_47 : decode cX9_minds 47 = .ok (.aload_n 0, 1) := by decide +kernel
theorem dX9_minds_48 : decode cX9_minds 48 = .ok (.bipush 60, 2) := by decide +kernel
theorem dX9_minds_50 : decode cX9_minds 50 = .ok (.invokevirtual 248, 3) := by decide +kernel
theorem dX9_minds_53 : decode cX9_minds 53 = .ok (.aload_n 0, 1) := by decide +kernel
theorem dX9_minds_54 : decode cX9_minds 54 = .ok (.iload_n 1, 1) := by decide +kernel
theorem dX9_minds_55 : decode cX9_minds 55 = .ok (.iload_n 2, 1) := by decide +kernel
theorem dX9_minds_56 : decode cX9_minds 56 = .ok (.iconst 1, 1) := by decide +kernel
theorem dX9_minds_57 : decode cX9_minds 57 = .ok (.iadd, 1) := by decide +kernel
theorem dX9_minds_58 : decode cX9_minds 58 = .ok (.invokevirtual 263, 3) := by decide +kernel
theorem dX9_minds_61 : decode cX9_minds 61 = .ok (.ireturn, 1) := by decide +kernel
theorem dX9_minds_62 : decode cX9_minds 62 = .ok (.aload_n 0, 1) := by decide +kernel
theorem dX9_minds_63 : decode cX9_minds 63 = .ok (.bipush 71, 2) := by decide +kernel
theorem dX9_minds_65 : decode cX9_minds 65 = .ok (.invokevirtual 248, 3) := by decide +kernel
theorem dX9_minds_68 : decode cX9_minds 68 = .ok (.aload_n 0, 1) := by decide +kernel
theorem dX9_minds_69 : decode cX9_minds 69 = .ok (.iload_n 1, 1) := by decide +kernel
theorem dX9_minds_70 : decode cX9_minds 70 = .ok (.iload_n 2, 1) := by decide +kernel
theorem dX9_minds_71 : decode cX9_minds 71 = .ok (.invokevirtual 260, 3) := by decide +kernel
theorem dX9_minds_74 : decode cX9_minds 74 = .ok (.aload_n 0, 1) := by decide +kernel
theorem dX9_minds_75 : decode cX9_minds 75 = .ok (.iload_n 1, 1) := by decide +kernel
theorem dX9_minds_76 : decode cX9_minds 76 = .ok (.iconst 1, 1) := by decide +kernel
theorem dX9_minds_77 : decode cX9_minds 77 = .ok (.invokevirtual 75, 3) := by decide +kernel
theorem dX9_minds_80 : decode cX9_minds 80 = .ok (.iadd, 1) := by decide +kernel
theorem dX9_minds_81 : decode cX9_minds 81 = .ok (.ireturn, 1) := by decide +kernel
theorem dX9_minds_82 : decode cX9_minds 82 = .ok (.aload_n 0, 1) := by decide +kernel
theorem dX9_minds_83 : decode cX9_minds 83 = .ok (.iload_n 1, 1) := by decide +kernel
theorem dX9_minds_84 : decode cX9_minds 84 = .ok (.iload_n 2, 1) := by decide +kernel
theorem dX9_minds_85 : decode cX9_minds 85 = .ok (.invokevirtual 260, 3) := by decide +kernel
theorem dX9_minds_88 : decode cX9_minds 88 = .ok (.ireturn, 1) := by decide +kernel
theorem dX9_plainWhistles_0 : decode cX9_plainWhistles 0 = .ok (.aload_n 0, 1) := by decide +kernel
theorem dX9_plainWhistles_1 : decode cX9_plainWhistles 1 = .ok (.bipush 12, 2) := by decide +kernel
theorem dX9_plainWhistles_3 : decode cX9_plainWhistles 3 = .ok (.invokevirtual 248, 3) := by decide +kernel
theorem dX9_plainWhistles_6 : decode cX9_plainWhistles 6 = .ok (.aload_n 0, 1) := by decide +kernel
theorem dX9_plainWhistles_7 : decode cX9_plainWhistles 7 = .ok (.iload_n 1, 1) := by decide +kernel
theorem dX9_plainWhistles_8 : decode cX9_plainWhistles 8 = .ok (.iload_n 2, 1) := by decide +kernel
theorem dX9_plainWhistles_9 : decode cX9_plainWhistles 9 = .ok (.invokevirtual 266, 3) := by decide +kernel
theorem dX9_plainWhistles_12 : decode cX9_plainWhistles 12 = .ok (.aload_n 0, 1) := by decide +kernel
theorem dX9_plainWhistles_13 : decode cX9_plainWhistles 13 = .ok (.iload_n 1, 1) := by decide +kernel
theorem dX9_plainWhistles_14 : decode cX9_plainWhistles 14 = .ok (.iconst 1, 1) := by decide +kernel
theorem dX9_plainWhistles_15 : decode cX9_plainWhistles 15 = .ok (.invokevirtual 75, 3) := by decide +kernel
theorem dX9_plainWhistles_18 : decode cX9_plainWhistles 18 = .ok (.isub, 1) := by decide +kernel
theorem dX9_plainWhistles_19 : decode cX9_plainWhistles 19 = .ok (.ireturn, 1) := by decide +kernel
theorem dX9_whistles_0 : decode cX9_whistles 0 = .ok (.aload_n 0, 1) := by decide +kernel
theorem dX9_whistles_1 : decode cX9_whistles 1 = .ok (.iload_n 1, 1) := by decide +kernel
theorem dX9_whistles_2 : decode cX9_whistles 2 = .ok (.iconst 0, 1) := by decide +kernel
theorem dX9_whistles_3 : decode cX9_whistles 3 = .ok (.invokevirtual 75, 3) := by decide +kernel
theorem dX9_whistles_6 : decode cX9_whistles 6 = .ok (.lookupswitch 56 #[(3, 26), (4, 41)], 26) := by decide +kernel
theorem dX9_whistles_32 : decode cX9_whistles 32 = .ok (.aload_n 0, 1) := by decide +kernel
theorem dX9_whistles_33 : decode cX9_whistles 33 = .ok (.bipush 40, 2) := by decide +kernel
theorem dX9_whistles_35 : decode cX9_whistles 35 = .ok (.invokevirtual 248, 3) := by decide +kernel
theorem dX9_whistles_38 : decode cX9_whistles 38 = .ok (.aload_n 0, 1) := by decide +kernel
theorem dX9_whistles_39 : decode cX9_whistles 39 = .ok (.iload_n 1, 1) := by decide +kernel
theorem dX9_whistles_40 : decode cX9_whistles 40 = .ok (.iload_n 2, 1) := by decide +kernel
theorem dX9_whistles_41 : decode cX9_whistles 41 = .ok (.iconst 2, 1) := by decide +kernel
theorem dX9_whistles_42 : decode cX9_whistles 42 = .ok (.idiv, 1) := by decide +kernel
theorem dX9_whistles_43 : decode cX9_whistles 43 = .ok (.invokevirtual 269, 3) := by decide +kernel
theorem dX9_whistles_46 : decode cX9_whistles 46 = .ok (.ireturn, 1) := by decide +kernel
theorem dX9_whistles_47 : decode cX9_whistles 47 = .ok (.aload_n 0, 1) := by decide +kernel
theorem dX9_whistles_48 : decode cX9_whistles 48 = .ok (.bipush 51, 2) := by decide +kernel
theorem dX9_whistles_50 : decode cX9_whistles 50 = .ok (.invokevirtual 248, 3) := by decide +kernel
theorem dX9_whistles_53 : decode cX9_whistles 53 = .ok (.aload_n 0, 1) := by decide +kernel
theorem dX9_whistles_54 : decode cX9_whistles 54 = .ok (.iload_n 1, 1) := by decide +kernel
theorem dX9_whistles_55 : decode cX9_whistles 55 = .ok (.iload_n 2, 1) := by decide +kernel
theorem dX9_whistles_56 : decode cX9_whistles 56 = .ok (.invokevirtual 269, 3) := by decide +kernel
theorem dX9_whistles_59 : decode cX9_whistles 59 = .ok (.iload_n 1, 1) := by decide +kernel
theorem dX9_whistles_60 : decode cX9_whistles 60 = .ok (.ixor, 1) := by decide +kernel
theorem dX9_whistles_61 : decode cX9_whistles 61 = .ok (.ireturn, 1) := by decide +kernel
theorem dX9_whistles_62 : decode cX9_whistles 62 = .ok (.aload_n 0, 1) := by decide +kernel
theorem dX9_whistles_63 : decode cX9_whistles 63 = .ok (.iload_n 1, 1) := by decide +kernel
theorem dX9_whistles_64 : decode cX9_whistles 64 = .ok (.iload_n 2, 1) := by decide +kernel
theorem dX9_whistles_65 : decode cX9_whistles 65 = .ok (.invokevirtual 269, 3) := by decide +kernel
theorem dX9_whistles_68 : decode cX9_whistles 68 = .ok (.ireturn, 1) := by decide +kernel
theorem dX9_plainParts_0 : decode cX9_plainParts 0 = .ok (.aload_n 0, 1) := by decide +kernel
theorem dX9_plainParts_1 : decode cX9_plainParts 1 = .ok (.bipush 13, 2) := by decide +kernel
theorem dX9_plainParts_3 : decode cX9_plainParts 3 = .ok (.invokevirtual 248, 3) := by decide +kernel
theorem dX9_plainParts_6 : decode cX9_plainParts 6 = .ok (.aload_n 0, 1) := by decide +kernel
theorem dX9_plainParts_7 : decode cX9_plainParts 7 = .ok (.iload_n 1, 1) := by decide +kernel
theorem dX9_plainParts_8 : decode cX9_plainParts 8 = .ok (.iconst 1, 1) := by decide +kernel
theorem dX9_plainParts_9 : decode cX9_plainParts 9 = .ok (.invokevirtual 75, 3) := by decide +kernel
theorem dX9_plainParts_12 : decode cX9_plainParts 12 = .ok (.iload_n 1, 1) := by decide +kernel
theorem dX9_plainParts_13 : decode cX9_plainParts 13 = .ok (.isub, 1) := by decide +kernel
theorem dX9_plainParts_14 : decode cX9_plainParts 14 = .ok (.istore_n 3, 1) := by decide +kernel
theorem dX9_plainParts_15 : decode cX9_plainParts 15 = .ok (.aload_n 0, 1) := by decide +kernel
theorem dX9_plainParts_16 : decode cX9_plainParts 16 = .ok (.iload_n 3, 1) := by decide +kernel
theorem dX9_plainParts_17 : decode cX9_plainParts 17 = .ok (.ifCond .ne 7, 3) := by decide +kernel
theorem dX9_plainParts_20 : decode cX9_plainParts 20 = .ok (.iconst 1, 1) := by decide +kernel
theorem dX9_plainParts_21 : decode cX9_plainParts 21 = .ok (.goto 4, 3) := by decide +kernel
theorem dX9_plainParts_24 : decode cX9_plainParts 24 = .ok (.iconst 0, 1) := by decide +kernel
theorem dX9_plainParts_25 : decode cX9_plainParts 25 = .ok (.putfield 272, 3) := by decide +kernel
theorem dX9_plainParts_28 : decode cX9_plainParts 28 = .ok (.aload_n 0, 1) := by decide +kernel
theorem dX9_plainParts_29 : decode cX9_plainParts 29 = .ok (.getfield 272, 3) := by decide +kernel
theorem dX9_plainParts_32 : decode cX9_plainParts 32 = .ok (.ifCond .eq 7, 3) := by decide +kernel
theorem dX9_plainParts_35 : decode cX9_plainParts 35 = .ok (.iconst 0, 1) := by decide +kernel
theorem dX9_plainParts_36 : decode cX9_plainParts 36 = .ok (.goto 6, 3) := by decide +kernel
theorem dX9_plainParts_39 : decode cX9_plainParts 39 = .ok (.iload_n 2, 1) := by decide +kernel
theorem dX9_plainParts_40 : decode cX9_plainParts 40 = .ok (.iload_n 3, 1) := by decide +kernel
theorem dX9_plainParts_41 : decode cX9_plainParts 41 = .ok (.idiv, 1) := by decide +kernel
theorem dX9_plainParts_42 : decode cX9_plainParts 42 = .ok (.ireturn, 1) := by decide +kernel
theorem dX9_partsBy_0 : decode cX9_partsBy 0 = .ok (.aload_n 0, 1) := by decide +kernel
theorem dX9_partsBy_1 : decode cX9_partsBy 1 = .ok (.iload_n 1, 1) := by decide +kernel
theorem dX9_partsBy_2 : decode cX9_partsBy 2 = .ok (.iconst 0, 1) := by decide +kernel
theorem dX9_partsBy_3 : decode cX9_partsBy 3 = .ok (.invokevirtual 75, 3) := by decide +kernel
theorem dX9_partsBy_6 : decode cX9_partsBy 6 = .ok (.iconst 1, 1) := by decide +kernel
theorem dX9_partsBy_7 : decode cX9_partsBy 7 = .ok (.if_icmp .eq 13, 3) := by decide +kernel
theorem dX9_partsBy_10 : decode cX9_partsBy 10 = .ok (.aload_n 0, 1) := by decide +kernel
theorem dX9_partsBy_11 : decode cX9_partsBy 11 = .ok (.iload_n 1, 1) := by decide +kernel
theorem dX9_partsBy_12 : decode cX9_partsBy 12 = .ok (.iconst 0, 1) := by decide +kernel
theorem dX9_partsBy_13 : decode cX9_partsBy 13 = .ok (.invokevirtual 75, 3) := by decide +kernel
theorem dX9_partsBy_16 : decode cX9_partsBy 16 = .ok (.iconst 4, 1) := by decide +kernel
theorem dX9_partsBy_17 : decode cX9_partsBy 17 = .ok (.if_icmp .ne 36, 3) := by decide +kernel
theorem dX9_partsBy_20 : decode cX9_partsBy 20 = .ok (.aload_n 0, 1) := by decide +kernel
theorem dX9_partsBy_21 : decode cX9_partsBy 21 = .ok (.bipush 21, 2) := by decide +kernel
theorem dX9_partsBy_23 : decode cX9_partsBy 23 = .ok (.invokevirtual 248, 3) := by decide +kernel
theorem dX9_partsBy_26 : decode cX9_partsBy 26 = .ok (.aload_n 0, 1) := by decide +kernel
theorem dX9_partsBy_27 : decode cX9_partsBy 27 = .ok (.iload_n 1, 1) := by decide +kernel
theorem dX9_partsBy_28 : decode cX9_partsBy 28 = .ok (.iload_n 2, 1) := by decide +kernel
theorem dX9_partsBy_29 : decode cX9_partsBy 29 = .ok (.invokevirtual 275, 3) := by decide +kernel
theorem dX9_partsBy_32 : decode cX9_partsBy 32 = .ok (.istore_n 3, 1) := by decide +kernel
theorem dX9_partsBy_33 : decode cX9_partsBy 33 = .ok (.aload_n 0, 1) := by decide +kernel
theorem dX9_partsBy_34 : decode cX9_partsBy 34 = .ok (.getfield 272, 3) := by decide +kernel
theorem dX9_partsBy_37 : decode cX9_partsBy 37 = .ok (.ifCond .eq 7, 3) := by decide +kernel
theorem dX9_partsBy_40 : decode cX9_partsBy 40 = .ok (.iconst 0, 1) := by decide +kernel
theorem dX9_partsBy_41 : decode cX9_partsBy 41 = .ok (.goto 11, 3) := by decide +kernel
theorem dX9_partsBy_44 : decode cX9_partsBy 44 = .ok (.iload_n 3, 1) := by decide +kernel
theorem dX9_partsBy_45 : decode cX9_partsBy 45 = .ok (.aload_n 0, 1) := by decide +kernel
theorem dX9_partsBy_46 : decode cX9_partsBy 46 = .ok (.iload_n 1, 1) := by decide +kernel
theorem dX9_partsBy_47 : decode cX9_partsBy 47 = .ok (.iconst 1, 1) := by decide +kernel
theorem dX9_partsBy_48 : decode cX9_partsBy 48 = .ok (.invokevirtual 266, 3) := by decide +kernel
theorem dX9_partsBy_51 : decode cX9_partsBy 51 = .ok (.iadd, 1) := by decide +kernel
theorem dX9_partsBy_52 : decode cX9_partsBy 52 = .ok (.ireturn, 1) := by decide +kernel
theorem dX9_partsBy_53 : decode cX9_partsBy 53 = .ok (.aload_n 0, 1) := by decide +kernel
theorem dX9_partsBy_54 : decode cX9_partsBy 54 = .ok (.iload_n 1, 1) := by decide +kernel
theorem dX9_partsBy_55 : decode cX9_partsBy 55 = .ok (.iload_n 2, 1) := by decide +kernel
theorem dX9_partsBy_56 : decode cX9_partsBy 56 = .ok (.invokevirtual 275, 3) := by decide +kernel
theorem dX9_partsBy_59 : decode cX9_partsBy 59 = .ok (.ireturn, 1) := by decide +kernel
theorem dX9_voice_0 : decode cX9_voice 0 = .ok (.aload_n 0, 1) := by decide +kernel
theorem dX9_voice_1 : decode cX9_voice 1 = .ok (.iload_n 1, 1) := by decide +kernel
theorem dX9_voice_2 : decode cX9_voice 2 = .ok (.invokevirtual 100, 3) := by decide +kernel
theorem dX9_voice_5 : decode cX9_voice 5 = .ok (.ifCond .eq 12, 3) := by decide +kernel
theorem dX9_voice_8 : decode cX9_voice 8 = .ok (.iload_n 2, 1) := by decide +kernel
theorem dX9_voice_9 : decode cX9_voice 9 = .ok (.iconst 0, 1) := by decide +kernel
theorem dX9_voice_10 : decode cX9_voice 10 = .ok (.iconst 3, 1) := by decide +kernel
theorem dX9_voice_11 : decode cX9_voice 11 = .ok (.invokestatic 60, 3) := by decide +kernel
theorem dX9_voice_14 : decode cX9_voice 14 = .ok (.ifCond .ne 10, 3) := by decide +kernel
theorem dX9_voice_17 : decode cX9_voice 17 = .ok (.aload_n 0, 1) := by decide +kernel
theorem dX9_voice_18 : decode cX9_voice 18 = .ok (.ldc 95, 2) := by decide +kernel
theorem dX9_voice_20 : decode cX9_voice 20 = .ok (.invokevirtual 96, 3) := by decide +kernel
theorem dX9_voice_23 : decode cX9_voice 23 = .ok (.ireturn, 1) := by decide +kernel
theorem dX9_voice_24 : decode cX9_voice 24 = .ok (.aload_n 0, 1) := by decide +kernel
theorem dX9_voice_25 : decode cX9_voice 25 = .ok (.iconst 0, 1) := by decide +kernel
theorem dX9_voice_26 : decode cX9_voice 26 = .ok (.putfield 245, 3) := by decide +kernel
theorem dX9_voice_29 : decode cX9_voice 29 = .ok (.aload_n 0, 1) := by decide +kernel
theorem dX9_voice_30 : decode cX9_voice 30 = .ok (.iconst 0, 1) := by decide +kernel
theorem dX9_voice_31 : decode cX9_voice 31 = .ok (.putfield 272, 3) := by decide +kernel
theorem dX9_voice_34 : decode cX9_voice 34 = .ok (.iload_n 2, 1) := by decide +kernel
theorem dX9_voice_35 : decode cX9_voice 35 = .ok (.ifCond .ne 12, 3) := by decide +kernel
theorem dX9_voice_38 : decode cX9_voice 38 = .ok (.aload_n 0, 1) := by decide +kernel
theorem dX9_voice_39 : decode cX9_voice 39 = .ok (.iload_n 1, 1) := by decide +kernel
theorem dX9_voice_40 : decode cX9_voice 40 = .ok (.iload_n 3, 1) := by decide +kernel
theorem dX9_voice_41 : decode cX9_voice 41 = .ok (.invokevirtual 257, 3) := by decide +kernel
theorem dX9_voice_44 : decode cX9_voice 44 = .ok (.goto 37, 3) := by decide +kernel
theorem dX9_voice_47 : decode cX9_voice 47 = .ok (.iload_n 2, 1) := by decide +kernel
theorem dX9_voice_48 : decode cX9_voice 48 = .ok (.iconst 1, 1) := by decide +kernel
theorem dX9_voice_49 : decode cX9_voice 49 = .ok (.if_icmp .ne 12, 3) := by decide +kernel
theorem dX9_voice_52 : decode cX9_voice 52 = .ok (.aload_n 0, 1) := by decide +kernel
theorem dX9_voice_53 : decode cX9_voice 53 = .ok (.iload_n 1, 1) := by decide +kernel
theorem dX9_voice_54 : decode cX9_voice 54 = .ok (.iload_n 3, 1) := by decide +kernel
theorem dX9_voice_55 : decode cX9_voice 55 = .ok (.invokevirtual 266, 3) := by decide +kernel
theorem dX9_voice_58 : decode cX9_voice 58 = .ok (.goto 23, 3) := by decide +kernel
theorem dX9_voice_61 : decode cX9_voice 61 = .ok (.iload_n 2, 1) := by decide +kernel
theorem dX9_voice_62 : decode cX9_voice 62 = .ok (.iconst 2, 1) := by decide +kernel
theorem dX9_voice_63 : decode cX9_voice 63 = .ok (.if_icmp .ne 12, 3) := by decide +kernel
theorem dX9_voice_66 : decode cX9_voice 66 = .ok (.aload_n 0, 1) := by decide +kernel
theorem dX9_voice_67 : decode cX9_voice 67 = .ok (.iload_n 1, 1) := by decide +kernel
theorem dX9_voice_68 : decode cX9_voice 68 = .ok (.iload_n 3, 1) := by decide +kernel
theorem dX9_voice_69 : decode cX9_voice 69 = .ok (.invokevirtual 278, 3) := by decide +kernel
theorem dX9_voice_72 : decode cX9_voice 72 = .ok (.goto 9, 3) := by decide +kernel
theorem dX9_voice_75 : decode cX9_voice 75 = .ok (.aload_n 0, 1) := by decide +kernel
theorem dX9_voice_76 : decode cX9_voice 76 = .ok (.iload_n 1, 1) := by decide +kernel
theorem dX9_voice_77 : decode cX9_voice 77 = .ok (.iload_n 3, 1) := by decide +kernel
theorem dX9_voice_78 : decode cX9_voice 78 = .ok (.invokevirtual 281, 3) := by decide +kernel
theorem dX9_voice_81 : decode cX9_voice 81 = .ok (.istore 4, 2) := by decide +kernel
theorem dX9_voice_83 : decode cX9_voice 83 = .ok (.aload_n 0, 1) := by decide +kernel
theorem dX9_voice_84 : decode cX9_voice 84 = .ok (.getfield 272, 3) := by decide +kernel
theorem dX9_voice_87 : decode cX9_voice 87 = .ok (.ifCond .eq 13, 3) := by decide +kernel
theorem dX9_voice_90 : decode cX9_voice 90 = .ok (.aload_n 0, 1) := by decide +kernel
theorem dX9_voice_91 : decode cX9_voice 91 = .ok (.ldc_w 284, 3) := by decide +kernel
theorem dX9_voice_94 : decode cX9_voice 94 = .ok (.invokevirtual 96, 3) := by decide +kernel
theorem dX9_voice_97 : decode cX9_voice 97 = .ok (.goto 5, 3) := by decide +kernel
theorem dX9_voice_100 : decode cX9_voice 100 = .ok (.iload 4, 2) := by decide +kernel
theorem dX9_voice_102 : decode cX9_voice 102 = .ok (.ireturn, 1) := by decide +kernel
theorem dX9_body_0 : decode cX9_body 0 = .ok (.iload_n 1, 1) := by decide +kernel
theorem dX9_body_1 : decode cX9_body 1 = .ok (.iconst 0, 1) := by decide +kernel
theorem dX9_body_2 : decode cX9_body 2 = .ok (.aload_n 0, 1) := by decide +kernel
theorem dX9_body_3 : decode cX9_body 3 = .ok (.getfield 245, 3) := by decide +kernel
theorem dX9_body_6 : decode cX9_body 6 = .ok (.iconst 1, 1) := by decide +kernel
theorem dX9_body_7 : decode cX9_body 7 = .ok (.isub, 1) := by decide +kernel
theorem dX9_body_8 : decode cX9_body 8 = .ok (.invokestatic 60, 3) := by decide +kernel
theorem dX9_body_11 : decode cX9_body 11 = .ok (.ifCond .eq 12, 3) := by decide +kernel
theorem dX9_body_14 : decode cX9_body 14 = .ok (.aload_n 0, 1) := by decide +kernel
theorem dX9_body_15 : decode cX9_body 15 = .ok (.getfield 52, 3) := by decide +kernel
theorem dX9_body_18 : decode cX9_body 18 = .ok (.iload_n 1, 1) := by decide +kernel
theorem dX9_body_19 : decode cX9_body 19 = .ok (.iaload, 1) := by decide +kernel
theorem dX9_body_20 : decode cX9_body 20 = .ok (.goto 9, 3) := by decide +kernel
theorem dX9_body_23 : decode cX9_body 23 = .ok (.aload_n 0, 1) := by decide +kernel
theorem dX9_body_24 : decode cX9_body 24 = .ok (.ldc 220, 2) := by decide +kernel
theorem dX9_body_26 : decode cX9_body 26 = .ok (.invokevirtual 96, 3) := by decide +kernel
theorem dX9_body_29 : decode cX9_body 29 = .ok (.ireturn, 1) := by decide +kernel
theorem dX9_isSheet_0 : decode cX9_isSheet 0 = .ok (.iload_n 0, 1) := by decide +kernel
theorem dX9_isSheet_1 : decode cX9_isSheet 1 = .ok (.iconst 0, 1) := by decide +kernel
theorem dX9_isSheet_2 : decode cX9_isSheet 2 = .ok (.iconst 3, 1) := by decide +kernel
theorem dX9_isSheet_3 : decode cX9_isSheet 3 = .ok (.invokestatic 60, 3) := by decide +kernel
theorem dX9_isSheet_6 : decode cX9_isSheet 6 = .ok (.ireturn, 1) := by decide +kernel
theorem dX9_sheet_0 : decode cX9_sheet 0 = .ok (.iload_n 1, 1) := by decide +kernel
theorem dX9_sheet_1 : decode cX9_sheet 1 = .ok (.invokestatic 285, 3) := by decide +kernel
theorem dX9_sheet_4 : decode cX9_sheet 4 = .ok (.ifCond .eq 25, 3) := by decide +kernel
theorem dX9_sheet_7 : decode cX9_sheet 7 = .ok (.iload_n 2, 1) := by decide +kernel
theorem dX9_sheet_8 : decode cX9_sheet 8 = .ok (.ifCond .eq 28, 3) := by decide +kernel
theorem dX9_sheet_11 : decode cX9_sheet 11 = .ok (.iload_n 2, 1) := by decide +kernel
theorem dX9_sheet_12 : decode cX9_sheet 12 = .ok (.bipush 8, 2) := by decide +kernel
theorem dX9_sheet_14 : decode cX9_sheet 14 = .ok (.if_icmp .eq 22, 3) := by decide +kernel
theorem dX9_sheet_17 : decode cX9_sheet 17 = .ok (.iload_n 2, 1) := by decide +kernel
theorem dX9_sheet_18 : decode cX9_sheet 18 = .ok (.bipush 16, 2) := by decide +kernel
theorem dX9_sheet_20 : decode cX9_sheet 20 = .ok (.if_icmp .eq 16, 3) := by decide +kernel
theorem dX9_sheet_23 : decode cX9_sheet 23 = .ok (.iload_n 2, 1) := by decide +kernel
theorem dX9_sheet_24 : decode cX9_sheet 24 = .ok (.bipush 32, 2) := by decide +kernel
theorem dX9_sheet_26 : decode cX9_sheet 26 = .ok (.if_icmp .eq 10, 3) := by decide +kernel
theorem dX9_sheet_29 : decode cX9_sheet 29 = .ok (.aload_n 0, 1) := by decide +kernel
theorem dX9_sheet_30 : decode cX9_sheet 30 = .ok (.ldc 95, 2) := by decide +kernel
theorem dX9_sheet_32 : decode cX9_sheet 32 = .ok (.invokevirtual 96, 3) := by decide +kernel
theorem dX9_sheet_35 : decode cX9_sheet 35 = .ok (.ireturn, 1) := by decide +kernel
theorem dX9_sheet_36 : decode cX9_sheet 36 = .ok (.iload_n 2, 1) := by decide +kernel
theorem dX9_sheet_37 : decode cX9_sheet 37 = .ok (.ifCond .le 14, 3) := by decide +kernel
theorem dX9_sheet_40 : decode cX9_sheet 40 = .ok (.iload_n 3, 1) := by decide +kernel
theorem dX9_sheet_41 : decode cX9_sheet 41 = .ok (.ifCond .ge 10, 3) := by decide +kernel
theorem dX9_sheet_44 : decode cX9_sheet 44 = .ok (.aload_n 0, 1) := by decide +kernel
theorem dX9_sheet_45 : decode cX9_sheet 45 = .ok (.ldc 201, 2) := by decide +kernel
theorem dX9_sheet_47 : decode cX9_sheet 47 = .ok (.invokevirtual 96, 3) := by decide +kernel
theorem dX9_sheet_50 : decode cX9_sheet 50 = .ok (.ireturn, 1) := by decide +kernel
theorem dX9_sheet_51 : decode cX9_sheet 51 = .ok (.iload_n 2, 1) := by decide +kernel
theorem dX9_sheet_52 : decode cX9_sheet 52 = .ok (.ifCond .le 16, 3) := by decide +kernel
theorem dX9_sheet_55 : decode cX9_sheet 55 = .ok (.iload_n 3, 1) := by decide +kernel
theorem dX9_sheet_56 : decode cX9_sheet 56 = .ok (.bipush 24, 2) := by decide +kernel
theorem dX9_sheet_58 : decode cX9_sheet 58 = .ok (.if_icmp .le 10, 3) := by decide +kernel
theorem dX9_sheet_61 : decode cX9_sheet 61 = .ok (.aload_n 0, 1) := by decide +kernel
theorem dX9_sheet_62 : decode cX9_sheet 62 = .ok (.ldc 95, 2) := by decide +kernel
theorem dX9_sheet_64 : decode cX9_sheet 64 = .ok (.invokevirtual 96, 3) := by decide +kernel
theorem dX9_sheet_67 : decode cX9_sheet 67 = .ok (.ireturn, 1) := by decide +kernel
theorem dX9_sheet_68 : decode cX9_sheet 68 = .ok (.aload_n 0, 1) := by decide +kernel
theorem dX9_sheet_69 : decode cX9_sheet 69 = .ok (.getfield 22, 3) := by decide +kernel
theorem dX9_sheet_72 : decode cX9_sheet 72 = .ok (.iload_n 1, 1) := by decide +kernel
theorem dX9_sheet_73 : decode cX9_sheet 73 = .ok (.iload_n 2, 1) := by decide +kernel
theorem dX9_sheet_74 : decode cX9_sheet 74 = .ok (.iastore, 1) := by decide +kernel
theorem dX9_sheet_75 : decode cX9_sheet 75 = .ok (.aload_n 0, 1) := by decide +kernel
theorem dX9_sheet_76 : decode cX9_sheet 76 = .ok (.getfield 25, 3) := by decide +kernel
theorem dX9_sheet_79 : decode cX9_sheet 79 = .ok (.iload_n 1, 1) := by decide +kernel
theorem dX9_sheet_80 : decode cX9_sheet 80 = .ok (.iload_n 2, 1) := by decide +kernel
theorem dX9_sheet_81 : decode cX9_sheet 81 = .ok (.ifCond .ne 7, 3) := by decide +kernel
theorem dX9_sheet_84 : decode cX9_sheet 84 = .ok (.iconst 0, 1) := by decide +kernel
theorem dX9_sheet_85 : decode cX9_sheet 85 = .ok (.goto 4, 3) := by decide +kernel
theorem dX9_sheet_88 : decode cX9_sheet 88 = .ok (.iload_n 3, 1) := by decide +kernel
theorem dX9_sheet_89 : decode cX9_sheet 89 = .ok (.iastore, 1) := by decide +kernel
theorem dX9_sheet_90 : decode cX9_sheet 90 = .ok (.iconst 0, 1) := by decide +kernel
theorem dX9_sheet_91 : decode cX9_sheet 91 = .ok (.istore 4, 2) := by decide +kernel
theorem dX9_sheet_93 : decode cX9_sheet 93 = .ok (.iload 4, 2) := by decide +kernel
theorem dX9_sheet_95 : decode cX9_sheet 95 = .ok (.bipush 24, 2) := by decide +kernel
theorem dX9_sheet_97 : decode cX9_sheet 97 = .ok (.if_icmp .ge 22, 3) := by decide +kernel
theorem dX9_sheet_100 : decode cX9_sheet 100 = .ok (.aload_n 0, 1) := by decide +kernel
theorem dX9_sheet_101 : decode cX9_sheet 101 = .ok (.getfield 28, 3) := by decide +kernel
theorem dX9_sheet_104 : decode cX9_sheet 104 = .ok (.bipush 24, 2) := by decide +kernel
theorem dX9_sheet_106 : decode cX9_sheet 106 = .ok (.iload_n 1, 1) := by decide +kernel
theorem dX9_sheet_107 : decode cX9_sheet 107 = .ok (.imul, 1) := by decide +kernel
theorem dX9_sheet_108 : decode cX9_sheet 108 = .ok (.iload 4, 2) := by decide +kernel
theorem dX9_sheet_110 : decode cX9_sheet 110 = .ok (.iadd, 1) := by decide +kernel
theorem dX9_sheet_111 : decode cX9_sheet 111 = .ok (.iconst 0, 1) := by decide +kernel
theorem dX9_sheet_112 : decode cX9_sheet 112 = .ok (.iastore, 1) := by decide +kernel
theorem dX9_sheet_113 : decode cX9_sheet 113 = .ok (.iinc 4 1, 3) := by decide +kernel
theorem dX9_sheet_116 : decode cX9_sheet 116 = .ok (.goto (-23), 3) := by decide +kernel
theorem dX9_sheet_119 : decode cX9_sheet 119 = .ok (.iconst 1, 1) := by decide +kernel
theorem dX9_sheet_120 : decode cX9_sheet 120 = .ok (.ireturn, 1) := by decide +kernel
theorem dX9_notThere_0 : decode cX9_notThere 0 = .ok (.iload_n 1, 1) := by decide +kernel
theorem dX9_notThere_1 : decode cX9_notThere 1 = .ok (.invokestatic 285, 3) := by decide +kernel
theorem dX9_notThere_4 : decode cX9_notThere 4 = .ok (.ifCond .ne 8, 3) := by decide +kernel
theorem dX9_notThere_7 : decode cX9_notThere 7 = .ok (.ldc 95, 2) := by decide +kernel
theorem dX9_notThere_9 : decode cX9_notThere 9 = .ok (.goto 18, 3) := by decide +kernel
theorem dX9_notThere_12 : decode cX9_notThere 12 = .ok (.aload_n 0, 1) := by decide +kernel
theorem dX9_notThere_13 : decode cX9_notThere 13 = .ok (.getfield 22, 3) := by decide +kernel
theorem dX9_notThere_16 : decode cX9_notThere 16 = .ok (.iload_n 1, 1) := by decide +kernel
theorem dX9_notThere_17 : decode cX9_notThere 17 = .ok (.iaload, 1) := by decide +kernel
theorem dX9_notThere_18 : decode cX9_notThere 18 = .ok (.ifCond .ne 8, 3) := by decide +kernel
theorem dX9_notThere_21 : decode cX9_notThere 21 = .ok (.ldc 220, 2) := by decide +kernel
theorem dX9_notThere_23 : decode cX9_notThere 23 = .ok (.goto 4, 3) := by decide +kernel
theorem dX9_notThere_26 : decode cX9_notThere 26 = .ok (.iconst 0, 1) := by decide +kernel
theorem dX9_notThere_27 : decode cX9_notThere 27 = .ok (.ireturn, 1) := by decide +kernel
theorem dX9_put_0 : decode cX9_put 0 = .ok (.aload_n 0, 1) := by decide +kernel
theorem dX9_put_1 : decode cX9_put 1 = .ok (.iload_n 1, 1) := by decide +kernel
theorem dX9_put_2 : decode cX9_put 2 = .ok (.invokevirtual 239, 3) := by decide +kernel
theorem dX9_put_5 : decode cX9_put 5 = .ok (.istore 4, 2) := by decide +kernel
theorem dX9_put_7 : decode cX9_put 7 = .ok (.iload 4, 2) := by decide +kernel
theorem dX9_put_9 : decode cX9_put 9 = .ok (.ifCond .ne 24, 3) := by decide +kernel
theorem dX9_put_12 : decode cX9_put 12 = .ok (.iload_n 2, 1) := by decide +kernel
theorem dX9_put_13 : decode cX9_put 13 = .ok (.iconst 0, 1) := by decide +kernel
theorem dX9_put_14 : decode cX9_put 14 = .ok (.aload_n 0, 1) := by decide +kernel
theorem dX9_put_15 : decode cX9_put 15 = .ok (.getfield 25, 3) := by decide +kernel
theorem dX9_put_18 : decode cX9_put 18 = .ok (.iload_n 1, 1) := by decide +kernel
theorem dX9_put_19 : decode cX9_put 19 = .ok (.iaload, 1) := by decide +kernel
theorem dX9_put_20 : decode cX9_put 20 = .ok (.iconst 1, 1) := by decide +kernel
theorem dX9_put_21 : decode cX9_put 21 = .ok (.isub, 1) := by decide +kernel
theorem dX9_put_22 : decode cX9_put 22 = .ok (.invokestatic 60, 3) := by decide +kernel
theorem dX9_put_25 : decode cX9_put 25 = .ok (.ifCond .ne 8, 3) := by decide +kernel
theorem dX9_put_28 : decode cX9_put 28 = .ok (.ldc 95, 2) := by decide +kernel
theorem dX9_put_30 : decode cX9_put 30 = .ok (.goto 5, 3) := by decide +kernel
theorem dX9_put_33 : decode cX9_put 33 = .ok (.iload 4, 2) := by decide +kernel
theorem dX9_put_35 : decode cX9_put 35 = .ok (.istore 4, 2) := by decide +kernel
theorem dX9_put_37 : decode cX9_put 37 = .ok (.iload 4, 2) := by decide +kernel
theorem dX9_put_39 : decode cX9_put 39 = .ok (.ifCond .eq 10, 3) := by decide +kernel
theorem dX9_put_42 : decode cX9_put 42 = .ok (.aload_n 0, 1) := by decide +kernel
theorem dX9_put_43 : decode cX9_put 43 = .ok (.iload 4, 2) := by decide +kernel
theorem dX9_put_45 : decode cX9_put 45 = .ok (.invokevirtual 96, 3) := by decide +kernel
theorem dX9_put_48 : decode cX9_put 48 = .ok (.ireturn, 1) := by decide +kernel
theorem dX9_put_49 : decode cX9_put 49 = .ok (.aload_n 0, 1) := by decide +kernel
theorem dX9_put_50 : decode cX9_put 50 = .ok (.getfield 28, 3) := by decide +kernel
theorem dX9_put_53 : decode cX9_put 53 = .ok (.bipush 24, 2) := by decide +kernel
theorem dX9_put_55 : decode cX9_put 55 = .ok (.iload_n 1, 1) := by decide +kernel
theorem dX9_put_56 : decode cX9_put 56 = .ok (.imul, 1) := by decide +kernel
theorem dX9_put_57 : decode cX9_put 57 = .ok (.iload_n 2, 1) := by decide +kernel
theorem dX9_put_58 : decode cX9_put 58 = .ok (.iadd, 1) := by decide +kernel
theorem dX9_put_59 : decode cX9_put 59 = .ok (.aload_n 0, 1) := by decide +kernel
theorem dX9_put_60 : decode cX9_put 60 = .ok (.getfield 22, 3) := by decide +kernel
theorem dX9_put_63 : decode cX9_put 63 = .ok (.iload_n 1, 1) := by decide +kernel
theorem dX9_put_64 : decode cX9_put 64 = .ok (.iaload, 1) := by decide +kernel
theorem dX9_put_65 : decode cX9_put 65 = .ok (.bipush 8, 2) := by decide +kernel
theorem dX9_put_67 : decode cX9_put 67 = .ok (.if_icmp .ne 8, 3) := by decide +kernel
theorem dX9_put_70 : decode cX9_put 70 = .ok (.iload_n 3, 1) := by decide +kernel
theorem dX9_put_71 : decode cX9_put 71 = .ok (.i2b, 1) := by decide +kernel
theorem dX9_put_72 : decode cX9_put 72 = .ok (.goto 20, 3) := by decide +kernel
theorem dX9_put_75 : decode cX9_put 75 = .ok (.aload_n 0, 1) := by decide +kernel
theorem dX9_put_76 : decode cX9_put 76 = .ok (.getfield 22, 3) := by decide +kernel
theorem dX9_put_79 : decode cX9_put 79 = .ok (.iload_n 1, 1) := by decide +kernel
theorem dX9_put_80 : decode cX9_put 80 = .ok (.iaload, 1) := by decide +kernel
theorem dX9_put_81 : decode cX9_put 81 = .ok (.bipush 16, 2) := by decide +kernel
theorem dX9_put_83 : decode cX9_put 83 = .ok (.if_icmp .ne 8, 3) := by decide +kernel
theorem dX9_put_86 : decode cX9_put 86 = .ok (.iload_n 3, 1) := by decide +kernel
theorem dX9_put_87 : decode cX9_put 87 = .ok (.i2s, 1) := by decide +kernel
theorem dX9_put_88 : decode cX9_put 88 = .ok (.goto 4, 3) := by decide +kernel
theorem dX9_put_91 : decode cX9_put 91 = .ok (.iload_n 3, 1) := by decide +kernel
theorem dX9_put_92 : decode cX9_put 92 = .ok (.iastore, 1) := by decide +kernel
theorem dX9_put_93 : decode cX9_put 93 = .ok (.iconst 1, 1) := by decide +kernel
theorem dX9_put_94 : decode cX9_put 94 = .ok (.ireturn, 1) := by decide +kernel
theorem dX9_notMoved_0 : decode cX9_notMoved 0 = .ok (.iload_n 1, 1) := by decide +kernel
theorem dX9_notMoved_1 : decode cX9_notMoved 1 = .ok (.invokestatic 285, 3) := by decide +kernel
theorem dX9_notMoved_4 : decode cX9_notMoved 4 = .ok (.ifCond .eq 10, 3) := by decide +kernel
theorem dX9_notMoved_7 : decode cX9_notMoved 7 = .ok (.iload_n 3, 1) := by decide +kernel
theorem dX9_notMoved_8 : decode cX9_notMoved 8 = .ok (.invokestatic 285, 3) := by decide +kernel
theorem dX9_notMoved_11 : decode cX9_notMoved 11 = .ok (.ifCond .ne 6, 3) := by decide +kernel
theorem dX9_notMoved_14 : decode cX9_notMoved 14 = .ok (.ldc 95, 2) := by decide +kernel
theorem dX9_notMoved_16 : decode cX9_notMoved 16 = .ok (.ireturn, 1) := by decide +kernel
theorem dX9_notMoved_17 : decode cX9_notMoved 17 = .ok (.aload_n 0, 1) := by decide +kernel
theorem dX9_notMoved_18 : decode cX9_notMoved 18 = .ok (.getfield 22, 3) := by decide +kernel
theorem dX9_notMoved_21 : decode cX9_notMoved 21 = .ok (.iload_n 1, 1) := by decide +kernel
theorem dX9_notMoved_22 : decode cX9_notMoved 22 = .ok (.iaload, 1) := by decide +kernel
theorem dX9_notMoved_23 : decode cX9_notMoved 23 = .ok (.ifCond .eq 12, 3) := by decide +kernel
theorem dX9_notMoved_26 : decode cX9_notMoved 26 = .ok (.aload_n 0, 1) := by decide +kernel
theorem dX9_notMoved_27 : decode cX9_notMoved 27 = .ok (.getfield 22, 3) := by decide +kernel
theorem dX9_notMoved_30 : decode cX9_notMoved 30 = .ok (.iload_n 3, 1) := by decide +kernel
theorem dX9_notMoved_31 : decode cX9_notMoved 31 = .ok (.iaload, 1) := by decide +kernel
theorem dX9_notMoved_32 : decode cX9_notMoved 32 = .ok (.ifCond .ne 6, 3) := by decide +kernel
theorem dX9_notMoved_35 : decode cX9_notMoved 35 = .ok (.ldc 220, 2) := by decide +kernel
theorem dX9_notMoved_37 : decode cX9_notMoved 37 = .ok (.ireturn, 1) := by decide +kernel
theorem dX9_notMoved_38 : decode cX9_notMoved 38 = .ok (.aload_n 0, 1) := by decide +kernel
theorem dX9_notMoved_39 : decode cX9_notMoved 39 = .ok (.getfield 22, 3) := by decide +kernel
theorem dX9_notMoved_42 : decode cX9_notMoved 42 = .ok (.iload_n 1, 1) := by decide +kernel
theorem dX9_notMoved_43 : decode cX9_notMoved 43 = .ok (.iaload, 1) := by decide +kernel
theorem dX9_notMoved_44 : decode cX9_notMoved 44 = .ok (.aload_n 0, 1) := by decide +kernel
theorem dX9_notMoved_45 : decode cX9_notMoved 45 = .ok (.getfield 22, 3) := by decide +kernel
theorem dX9_notMoved_48 : decode cX9_notMoved 48 = .ok (.iload_n 3, 1) := by decide +kernel
theorem dX9_notMoved_49 : decode cX9_notMoved 49 = .ok (.iaload, 1) := by decide +kernel
theorem dX9_notMoved_50 : decode cX9_notMoved 50 = .ok (.if_icmp .eq 6, 3) := by decide +kernel
theorem dX9_notMoved_53 : decode cX9_notMoved 53 = .ok (.ldc 112, 2) := by decide +kernel
theorem dX9_notMoved_55 : decode cX9_notMoved 55 = .ok (.ireturn, 1) := by decide +kernel
theorem dX9_notMoved_56 : decode cX9_notMoved 56 = .ok (.iload 5, 2) := by decide +kernel
theorem dX9_notMoved_58 : decode cX9_notMoved 58 = .ok (.ifCond .lt 43, 3) := by decide +kernel
theorem dX9_notMoved_61 : decode cX9_notMoved 61 = .ok (.iload_n 2, 1) := by decide +kernel
theorem dX9_notMoved_62 : decode cX9_notMoved 62 = .ok (.ifCond .lt 39, 3) := by decide +kernel
theorem dX9_notMoved_65 : decode cX9_notMoved 65 = .ok (.iload 4, 2) := by decide +kernel
theorem dX9_notMoved_67 : decode cX9_notMoved 67 = .ok (.ifCond .lt 34, 3) := by decide +kernel
theorem dX9_notMoved_70 : decode cX9_notMoved 70 = .ok (.iload 5, 2) := by decide +kernel
theorem dX9_notMoved_72 : decode cX9_notMoved 72 = .ok (.aload_n 0, 1) := by decide +kernel
theorem dX9_notMoved_73 : decode cX9_notMoved 73 = .ok (.getfield 25, 3) := by decide +kernel
theorem dX9_notMoved_76 : decode cX9_notMoved 76 = .ok (.iload_n 1, 1) := by decide +kernel
theorem dX9_notMoved_77 : decode cX9_notMoved 77 = .ok (.iaload, 1) := by decide +kernel
theorem dX9_notMoved_78 : decode cX9_notMoved 78 = .ok (.iload_n 2, 1) := by decide +kernel
theorem dX9_notMoved_79 : decode cX9_notMoved 79 = .ok (.isub, 1) := by decide +kernel
theorem dX9_notMoved_80 : decode cX9_notMoved 80 = .ok (.if_icmp .gt 21, 3) := by decide +kernel
theorem dX9_notMoved_83 : decode cX9_notMoved 83 = .ok (.iload 5, 2) := by decide +kernel
theorem dX9_notMoved_85 : decode cX9_notMoved 85 = .ok (.aload_n 0, 1) := by decide +kernel
theorem dX9_notMoved_86 : decode cX9_notMoved 86 = .ok (.getfield 25, 3) := by decide +kernel
theorem dX9_notMoved_89 : decode cX9_notMoved 89 = .ok (.iload_n 3, 1) := by decide +kernel
theorem dX9_notMoved_90 : decode cX9_notMoved 90 = .ok (.iaload, 1) := by decide +kernel
theorem dX9_notMoved_91 : decode cX9_notMoved 91 = .ok (.iload 4, 2) := by decide +kernel
theorem dX9_notMoved_93 : decode cX9_notMoved 93 = .ok (.isub, 1) := by decide +kernel
theorem dX9_notMoved_94 : decode cX9_notMoved 94 = .ok (.if_icmp .gt 7, 3) := by decide +kernel
theorem dX9_notMoved_97 : decode cX9_notMoved 97 = .ok (.iconst 1, 1) := by decide +kernel
theorem dX9_notMoved_98 : decode cX9_notMoved 98 = .ok (.goto 4, 3) := by decide +kernel
theorem dX9_notMoved_101 : decode cX9_notMoved 101 = .ok (.iconst 0, 1) := by decide +kernel
theorem dX9_notMoved_102 : decode cX9_notMoved 102 = .ok (.istore 6, 2) := by decide +kernel
theorem dX9_notMoved_104 : decode cX9_notMoved 104 = .ok (.iload 6, 2) := by decide +kernel
theorem dX9_notMoved_106 : decode cX9_notMoved 106 = .ok (.ifCond .eq 7, 3) := by decide +kernel
theorem dX9_notMoved_109 : decode cX9_notMoved 109 = .ok (.iconst 0, 1) := by decide +kernel
theorem dX9_notMoved_110 : decode cX9_notMoved 110 = .ok (.goto 5, 3) := by decide +kernel
theorem dX9_notMoved_113 : decode cX9_notMoved 113 = .ok (.ldc 95, 2) := by decide +kernel
theorem dX9_notMoved_115 : decode cX9_notMoved 115 = .ok (.ireturn, 1) := by decide +kernel
theorem dX9_move_0 : decode cX9_move 0 = .ok (.aload_n 0, 1) := by decide +kernel
theorem dX9_move_1 : decode cX9_move 1 = .ok (.iload_n 1, 1) := by decide +kernel
theorem dX9_move_2 : decode cX9_move 2 = .ok (.iload_n 2, 1) := by decide +kernel
theorem dX9_move_3 : decode cX9_move 3 = .ok (.iload_n 3, 1) := by decide +kernel
theorem dX9_move_4 : decode cX9_move 4 = .ok (.iload 4, 2) := by decide +kernel
theorem dX9_move_6 : decode cX9_move 6 = .ok (.iload 5, 2) := by decide +kernel
theorem dX9_move_8 : decode cX9_move 8 = .ok (.invokevirtual 288, 3) := by decide +kernel
theorem dX9_move_11 : decode cX9_move 11 = .ok (.istore 6, 2) := by decide +kernel
theorem dX9_move_13 : decode cX9_move 13 = .ok (.iload 6, 2) := by decide +kernel
theorem dX9_move_15 : decode cX9_move 15 = .ok (.ifCond .eq 10, 3) := by decide +kernel
theorem dX9_move_18 : decode cX9_move 18 = .ok (.aload_n 0, 1) := by decide +kernel
theorem dX9_move_19 : decode cX9_move 19 = .ok (.iload 6, 2) := by decide +kernel
theorem dX9_move_21 : decode cX9_move 21 = .ok (.invokevirtual 96, 3) := by decide +kernel
theorem dX9_move_24 : decode cX9_move 24 = .ok (.ireturn, 1) := by decide +kernel
theorem dX9_move_25 : decode cX9_move 25 = .ok (.iconst 0, 1) := by decide +kernel
theorem dX9_move_26 : decode cX9_move 26 = .ok (.istore 7, 2) := by decide +kernel
theorem dX9_move_28 : decode cX9_move 28 = .ok (.iload 7, 2) := by decide +kernel
theorem dX9_move_30 : decode cX9_move 30 = .ok (.iload 5, 2) := by decide +kernel
theorem dX9_move_32 : decode cX9_move 32 = .ok (.if_icmp .ge 58, 3) := by decide +kernel
theorem dX9_move_35 : decode cX9_move 35 = .ok (.iload_n 2, 1) := by decide +kernel
theorem dX9_move_36 : decode cX9_move 36 = .ok (.iload 4, 2) := by decide +kernel
theorem dX9_move_38 : decode cX9_move 38 = .ok (.if_icmp .ge 13, 3) := by decide +kernel
theorem dX9_move_41 : decode cX9_move 41 = .ok (.iload 5, 2) := by decide +kernel
theorem dX9_move_43 : decode cX9_move 43 = .ok (.iconst 1, 1) := by decide +kernel
theorem dX9_move_44 : decode cX9_move 44 = .ok (.isub, 1) := by decide +kernel
theorem dX9_move_45 : decode cX9_move 45 = .ok (.iload 7, 2) := by decide +kernel
theorem dX9_move_47 : decode cX9_move 47 = .ok (.isub, 1) := by decide +kernel
theorem dX9_move_48 : decode cX9_move 48 = .ok (.goto 5, 3) := by decide +kernel
theorem dX9_move_51 : decode cX9_move 51 = .ok (.iload 7, 2) := by decide +kernel
theorem dX9_move_53 : decode cX9_move 53 = .ok (.istore 8, 2) := by decide +kernel
theorem dX9_move_55 : decode cX9_move 55 = .ok (.aload_n 0, 1) := by decide +kernel
theorem dX9_move_56 : decode cX9_move 56 = .ok (.getfield 28, 3) := by decide +kernel
theorem dX9_move_59 : decode cX9_move 59 = .ok (.bipush 24, 2) := by decide +kernel
theorem dX9_move_61 : decode cX9_move 61 = .ok (.iload_n 3, 1) := by decide +kernel
theorem dX9_move_62 : decode cX9_move 62 = .ok (.imul, 1) := by decide +kernel
theorem dX9_move_63 : decode cX9_move 63 = .ok (.iload 4, 2) := by decide +kernel
theorem dX9_move_65 : decode cX9_move 65 = .ok (.iadd, 1) := by decide +kernel
theorem dX9_move_66 : decode cX9_move 66 = .ok (.iload 8, 2) := by decide +kernel
theorem dX9_move_68 : decode cX9_move 68 = .ok (.iadd, 1) := by decide +kernel
theorem dX9_move_69 : decode cX9_move 69 = .ok (.aload_n 0, 1) := by decide +kernel
theorem dX9_move_70 : decode cX9_move 70 = .ok (.getfield 28, 3) := by decide +kernel
theorem dX9_move_73 : decode cX9_move 73 = .ok (.bipush 24, 2) := by decide +kernel
theorem dX9_move_75 : decode cX9_move 75 = .ok (.iload_n 1, 1) := by decide +kernel
theorem dX9_move_76 : decode cX9_move 76 = .ok (.imul, 1) := by decide +kernel
theorem dX9_move_77 : decode cX9_move 77 = .ok (.iload_n 2, 1) := by decide +kernel
theorem dX9_move_78 : decode cX9_move 78 = .ok (.iadd, 1) := by decide +kernel
theorem dX9_move_79 : decode cX9_move 79 = .ok (.iload 8, 2) := by decide +kernel
theorem dX9_move_81 : decode cX9_move 81 = .ok (.iadd, 1) := by decide +kernel
theorem dX9_move_82 : decode cX9_move 82 = .ok (.iaload, 1) := by decide +kernel
theorem dX9_move_83 : decode cX9_move 83 = .ok (.iastore, 1) := by decide +kernel
theorem dX9_move_84 : decode cX9_move 84 = .ok (.iinc 7 1, 3) := by decide +kernel
theorem dX9_move_87 : decode cX9_move 87 = .ok (.goto (-59), 3) := by decide +kernel
theorem dX9_move_90 : decode cX9_move 90 = .ok (.iload 5, 2) := by decide +kernel
theorem dX9_move_92 : decode cX9_move 92 = .ok (.ireturn, 1) := by decide +kernel
theorem dX9_holds_0 : decode cX9_holds 0 = .ok (.aload_n 0, 1) := by decide +kernel
theorem dX9_holds_1 : decode cX9_holds 1 = .ok (.iload_n 1, 1) := by decide +kernel
theorem dX9_holds_2 : decode cX9_holds 2 = .ok (.invokevirtual 239, 3) := by decide +kernel
theorem dX9_holds_5 : decode cX9_holds 5 = .ok (.istore_n 2, 1) := by decide +kernel
theorem dX9_holds_6 : decode cX9_holds 6 = .ok (.iload_n 2, 1) := by decide +kernel
theorem dX9_holds_7 : decode cX9_holds 7 = .ok (.ifCond .eq 9, 3) := by decide +kernel
theorem dX9_holds_10 : decode cX9_holds 10 = .ok (.aload_n 0, 1) := by decide +kernel
theorem dX9_holds_11 : decode cX9_holds 11 = .ok (.iload_n 2, 1) := by decide +kernel
theorem dX9_holds_12 : decode cX9_holds 12 = .ok (.invokevirtual 96, 3) := by decide +kernel
theorem dX9_holds_15 : decode cX9_holds 15 = .ok (.ireturn, 1) := by decide +kernel
theorem dX9_holds_16 : decode cX9_holds 16 = .ok (.iconst 0, 1) := by decide +kernel
theorem dX9_holds_17 : decode cX9_holds 17 = .ok (.istore_n 3, 1) := by decide +kernel
theorem dX9_holds_18 : decode cX9_holds 18 = .ok (.iload_n 3, 1) := by decide +kernel
theorem dX9_holds_19 : decode cX9_holds 19 = .ok (.aload_n 0, 1) := by decide +kernel
theorem dX9_holds_20 : decode cX9_holds 20 = .ok (.getfield 25, 3) := by decide +kernel
theorem dX9_holds_23 : decode cX9_holds 23 = .ok (.iload_n 1, 1) := by decide +kernel
theorem dX9_holds_24 : decode cX9_holds 24 = .ok (.iaload, 1) := by decide +kernel
theorem dX9_holds_25 : decode cX9_holds 25 = .ok (.if_icmp .ge 62, 3) := by decide +kernel
theorem dX9_holds_28 : decode cX9_holds 28 = .ok (.iload_n 3, 1) := by decide +kernel
theorem dX9_holds_29 : decode cX9_holds 29 = .ok (.aload_n 0, 1) := by decide +kernel
theorem dX9_holds_30 : decode cX9_holds 30 = .ok (.getfield 9, 3) := by decide +kernel
theorem dX9_holds_33 : decode cX9_holds 33 = .ok (.iconst 3, 1) := by decide +kernel
theorem dX9_holds_34 : decode cX9_holds 34 = .ok (.iaload, 1) := by decide +kernel
theorem dX9_holds_35 : decode cX9_holds 35 = .ok (.if_icmp .ge 52, 3) := by decide +kernel
theorem dX9_holds_38 : decode cX9_holds 38 = .ok (.aload_n 0, 1) := by decide +kernel
theorem dX9_holds_39 : decode cX9_holds 39 = .ok (.getfield 28, 3) := by decide +kernel
theorem dX9_holds_42 : decode cX9_holds 42 = .ok (.bipush 24, 2) := by decide +kernel
theorem dX9_holds_44 : decode cX9_holds 44 = .ok (.iload_n 1, 1) := by decide +kernel
theorem dX9_holds_45 : decode cX9_holds 45 = .ok (.imul, 1) := by decide +kernel
theorem dX9_holds_46 : decode cX9_holds 46 = .ok (.iload_n 3, 1) := by decide +kernel
theorem dX9_holds_47 : decode cX9_holds 47 = .ok (.iadd, 1) := by decide +kernel
theorem dX9_holds_48 : decode cX9_holds 48 = .ok (.iaload, 1) := by decide +kernel
theorem dX9_holds_49 : decode cX9_holds 49 = .ok (.iconst (-1), 1) := by decide +kernel
theorem dX9_holds_50 : decode cX9_holds 50 = .ok (.aload_n 0, 1) := by decide +kernel
theorem dX9_holds_51 : decode cX9_holds 51 = .ok (.getfield 9, 3) := by decide +kernel
theorem dX9_holds_54 : decode cX9_holds 54 = .ok (.iconst 2, 1) := by decide +kernel
theorem dX9_holds_55 : decode cX9_holds 55 = .ok (.iaload, 1) := by decide +kernel
theorem dX9_holds_56 : decode cX9_holds 56 = .ok (.iconst 1, 1) := by decide +kernel
theorem dX9_holds_57 : decode cX9_holds 57 = .ok (.isub, 1) := by decide +kernel
theorem dX9_holds_58 : decode cX9_holds 58 = .ok (.invokestatic 60, 3) := by decide +kernel
theorem dX9_holds_61 : decode cX9_holds 61 = .ok (.ifCond .eq 26, 3) := by decide +kernel
theorem dX9_holds_64 : decode cX9_holds 64 = .ok (.aload_n 0, 1) := by decide +kernel
theorem dX9_holds_65 : decode cX9_holds 65 = .ok (.iload_n 3, 1) := by decide +kernel
theorem dX9_holds_66 : decode cX9_holds 66 = .ok (.iconst 3, 1) := by decide +kernel
theorem dX9_holds_67 : decode cX9_holds 67 = .ok (.aload_n 0, 1) := by decide +kernel
theorem dX9_holds_68 : decode cX9_holds 68 = .ok (.getfield 28, 3) := by decide +kernel
theorem dX9_holds_71 : decode cX9_holds 71 = .ok (.bipush 24, 2) := by decide +kernel
theorem dX9_holds_73 : decode cX9_holds 73 = .ok (.iload_n 1, 1) := by decide +kernel
theorem dX9_holds_74 : decode cX9_holds 74 = .ok (.imul, 1) := by decide +kernel
theorem dX9_holds_75 : decode cX9_holds 75 = .ok (.iload_n 3, 1) := by decide +kernel
theorem dX9_holds_76 : decode cX9_holds 76 = .ok (.iadd, 1) := by decide +kernel
theorem dX9_holds_77 : decode cX9_holds 77 = .ok (.iaload, 1) := by decide +kernel
theorem dX9_holds_78 : decode cX9_holds 78 = .ok (.invokevirtual 117, 3) := by decide +kernel
theorem dX9_holds_81 : decode cX9_holds 81 = .ok (.iinc 3 1, 3) := by decide +kernel
theorem dX9_holds_84 : decode cX9_holds 84 = .ok (.goto (-66), 3) := by decide +kernel
theorem dX9_holds_87 : decode cX9_holds 87 = .ok (.iload_n 3, 1) := by decide +kernel
theorem dX9_holds_88 : decode cX9_holds 88 = .ok (.ireturn, 1) := by decide +kernel
theorem dX9_judge_0 : decode cX9_judge 0 = .ok (.aload_n 0, 1) := by decide +kernel
theorem dX9_judge_1 : decode cX9_judge 1 = .ok (.iload_n 1, 1) := by decide +kernel
theorem dX9_judge_2 : decode cX9_judge 2 = .ok (.invokevirtual 239, 3) := by decide +kernel
theorem dX9_judge_5 : decode cX9_judge 5 = .ok (.istore_n 2, 1) := by decide +kernel
theorem dX9_judge_6 : decode cX9_judge 6 = .ok (.iload_n 2, 1) := by decide +kernel
theorem dX9_judge_7 : decode cX9_judge 7 = .ok (.ifCond .eq 9, 3) := by decide +kernel
theorem dX9_judge_10 : decode cX9_judge 10 = .ok (.aload_n 0, 1) := by decide +kernel
theorem dX9_judge_11 : decode cX9_judge 11 = .ok (.iload_n 2, 1) := by decide +kernel
theorem dX9_judge_12 : decode cX9_judge 12 = .ok (.invokevirtual 96, 3) := by decide +kernel
theorem dX9_judge_15 : decode cX9_judge 15 = .ok (.ireturn, 1) := by decide +kernel
theorem dX9_judge_16 : decode cX9_judge 16 = .ok (.iconst 0, 1) := by decide +kernel
theorem dX9_judge_17 : decode cX9_judge 17 = .ok (.istore_n 3, 1) := by decide +kernel
theorem dX9_judge_18 : decode cX9_judge 18 = .ok (.iload_n 3, 1) := by decide +kernel
theorem dX9_judge_19 : decode cX9_judge 19 = .ok (.aload_n 0, 1) := by decide +kernel
theorem dX9_judge_20 : decode cX9_judge 20 = .ok (.getfield 25, 3) := by decide +kernel
theorem dX9_judge_23 : decode cX9_judge 23 = .ok (.iload_n 1, 1) := by decide +kernel
theorem dX9_judge_24 : decode cX9_judge 24 = .ok (.iaload, 1) := by decide +kernel
theorem dX9_judge_25 : decode cX9_judge 25 = .ok (.if_icmp .ge 38, 3) := by decide +kernel
theorem dX9_judge_28 : decode cX9_judge 28 = .ok (.iload_n 3, 1) := by decide +kernel
theorem dX9_judge_29 : decode cX9_judge 29 = .ok (.bipush 7, 2) := by decide +kernel
theorem dX9_judge_31 : decode cX9_judge 31 = .ok (.if_icmp .ge 32, 3) := by decide +kernel
theorem dX9_judge_34 : decode cX9_judge 34 = .ok (.aload_n 0, 1) := by decide +kernel
theorem dX9_judge_35 : decode cX9_judge 35 = .ok (.getfield 28, 3) := by decide +kernel
theorem dX9_judge_38 : decode cX9_judge 38 = .ok (.bipush 24, 2) := by decide +kernel
theorem dX9_judge_40 : decode cX9_judge 40 = .ok (.iload_n 1, 1) := by decide +kernel
theorem dX9_judge_41 : decode cX9_judge 41 = .ok (.imul, 1) := by decide +kernel
theorem dX9_judge_42 : decode cX9_judge 42 = .ok (.iload_n 3, 1) := by decide +kernel
theorem dX9_judge_43 : decode cX9_judge 43 = .ok (.iadd, 1) := by decide +kernel
theorem dX9_judge_44 : decode cX9_judge 44 = .ok (.iaload, 1) := by decide +kernel
theorem dX9_judge_45 : decode cX9_judge 45 = .ok (.aload_n 0, 1) := by decide +kernel
theorem dX9_judge_46 : decode cX9_judge 46 = .ok (.getfield 9, 3) := by decide +kernel
theorem dX9_judge_49 : decode cX9_judge 49 = .ok (.bipush 8, 2) := by decide +kernel
theorem dX9_judge_51 : decode cX9_judge 51 = .ok (.iload_n 3, 1) := by decide +kernel
theorem dX9_judge_52 : decode cX9_judge 52 = .ok (.iadd, 1) := by decide +kernel
theorem dX9_judge_53 : decode cX9_judge 53 = .ok (.iaload, 1) := by decide +kernel
theorem dX9_judge_54 : decode cX9_judge 54 = .ok (.if_icmp .ne 9, 3) := by decide +kernel
theorem dX9_judge_57 : decode cX9_judge 57 = .ok (.iinc 3 1, 3) := by decide +kernel
theorem dX9_judge_60 : decode cX9_judge 60 = .ok (.goto (-42), 3) := by decide +kernel
theorem dX9_judge_63 : decode cX9_judge 63 = .ok (.iload_n 3, 1) := by decide +kernel
theorem dX9_judge_64 : decode cX9_judge 64 = .ok (.ireturn, 1) := by decide +kernel
theorem dX9_image_0 : decode cX9_image 0 = .ok (.aload_n 0, 1) := by decide +kernel
theorem dX9_image_1 : decode cX9_image 1 = .ok (.getfield 9, 3) := by decide +kernel
theorem dX9_image_4 : decode cX9_image 4 = .ok (.aload_n 0, 1) := by decide +kernel
theorem dX9_image_5 : decode cX9_image 5 = .ok (.getfield 13, 3) := by decide +kernel
theorem dX9_image_8 : decode cX9_image 8 = .ok (.invokestatic 56, 3) := by decide +kernel
theorem dX9_image_11 : decode cX9_image 11 = .ok (.aload_n 0, 1) := by decide +kernel
theorem dX9_image_12 : decode cX9_image 12 = .ok (.dup, 1) := by decide +kernel
theorem dX9_image_13 : decode cX9_image 13 = .ok (.getfield 292, 3) := by decide +kernel
theorem dX9_image_16 : decode cX9_image 16 = .ok (.iconst 1, 1) := by decide +kernel
theorem dX9_image_17 : decode cX9_image 17 = .ok (.iadd, 1) := by decide +kernel
theorem dX9_image_18 : decode cX9_image 18 = .ok (.putfield 292, 3) := by decide +kernel
theorem dX9_image_21 : decode cX9_image 21 = .ok (.aload_n 0, 1) := by decide +kernel
theorem dX9_image_22 : decode cX9_image 22 = .ok (.getfield 292, 3) := by decide +kernel
theorem dX9_image_25 : decode cX9_image 25 = .ok (.ireturn, 1) := by decide +kernel
theorem dX9_restore_0 : decode cX9_restore 0 = .ok (.aload_n 0, 1) := by decide +kernel
theorem dX9_restore_1 : decode cX9_restore 1 = .ok (.getfield 292, 3) := by decide +kernel
theorem dX9_restore_4 : decode cX9_restore 4 = .ok (.ifCond .ne 10, 3) := by decide +kernel
theorem dX9_restore_7 : decode cX9_restore 7 = .ok (.aload_n 0, 1) := by decide +kernel
theorem dX9_restore_8 : decode cX9_restore 8 = .ok (.ldc 220, 2) := by decide +kernel
theorem dX9_restore_10 : decode cX9_restore 10 = .ok (.invokevirtual 96, 3) := by decide +kernel
theorem dX9_restore_13 : decode cX9_restore 13 = .ok (.ireturn, 1) := by decide +kernel
theorem dX9_restore_14 : decode cX9_restore 14 = .ok (.aload_n 0, 1) := by decide +kernel
theorem dX9_restore_15 : decode cX9_restore 15 = .ok (.getfield 13, 3) := by decide +kernel
theorem dX9_restore_18 : decode cX9_restore 18 = .ok (.aload_n 0, 1) := by decide +kernel
theorem dX9_restore_19 : decode cX9_restore 19 = .ok (.getfield 9, 3) := by decide +kernel
theorem dX9_restore_22 : decode cX9_restore 22 = .ok (.invokestatic 56, 3) := by decide +kernel
theorem dX9_restore_25 : decode cX9_restore 25 = .ok (.aload_n 0, 1) := by decide +kernel
theorem dX9_restore_26 : decode cX9_restore 26 = .ok (.getfield 9, 3) := by decide +kernel
theorem dX9_restore_29 : decode cX9_restore 29 = .ok (.iconst 0, 1) := by decide +kernel
theorem dX9_restore_30 : decode cX9_restore 30 = .ok (.iaload, 1) := by decide +kernel
theorem dX9_restore_31 : decode cX9_restore 31 = .ok (.ireturn, 1) := by decide +kernel
theorem dX9_tell_0 : decode cX9_tell 0 = .ok (.aload_n 0, 1) := by decide +kernel
theorem dX9_tell_1 : decode cX9_tell 1 = .ok (.getfield 9, 3) := by decide +kernel
theorem dX9_tell_4 : decode cX9_tell 4 = .ok (.bipush 7, 2) := by decide +kernel
theorem dX9_tell_6 : decode cX9_tell 6 = .ok (.iaload, 1) := by decide +kernel
theorem dX9_tell_7 : decode cX9_tell 7 = .ok (.bipush 24, 2) := by decide +kernel
theorem dX9_tell_9 : decode cX9_tell 9 = .ok (.if_icmp .ne 10, 3) := by decide +kernel
theorem dX9_tell_12 : decode cX9_tell 12 = .ok (.aload_n 0, 1) := by decide +kernel
theorem dX9_tell_13 : decode cX9_tell 13 = .ok (.ldc 99, 2) := by decide +kernel
theorem dX9_tell_15 : decode cX9_tell 15 = .ok (.invokevirtual 96, 3) := by decide +kernel
theorem dX9_tell_18 : decode cX9_tell 18 = .ok (.ireturn, 1) := by decide +kernel
theorem dX9_tell_19 : decode cX9_tell 19 = .ok (.aload_n 0, 1) := by decide +kernel
theorem dX9_tell_20 : decode cX9_tell 20 = .ok (.getfield 9, 3) := by decide +kernel
theorem dX9_tell_23 : decode cX9_tell 23 = .ok (.sipush 129, 3) := by decide +kernel
theorem dX9_tell_26 : decode cX9_tell 26 = .ok (.aload_n 0, 1) := by decide +kernel
theorem dX9_tell_27 : decode cX9_tell 27 = .ok (.getfield 9, 3) := by decide +kernel
theorem dX9_tell_30 : decode cX9_tell 30 = .ok (.bipush 7, 2) := by decide +kernel
theorem dX9_tell_32 : decode cX9_tell 32 = .ok (.iaload, 1) := by decide +kernel
theorem dX9_tell_33 : decode cX9_tell 33 = .ok (.iadd, 1) := by decide +kernel
theorem dX9_tell_34 : decode cX9_tell 34 = .ok (.iload_n 1, 1) := by decide +kernel
theorem dX9_tell_35 : decode cX9_tell 35 = .ok (.iastore, 1) := by decide +kernel
theorem dX9_tell_36 : decode cX9_tell 36 = .ok (.aload_n 0, 1) := by decide +kernel
theorem dX9_tell_37 : decode cX9_tell 37 = .ok (.getfield 9, 3) := by decide +kernel
theorem dX9_tell_40 : decode cX9_tell 40 = .ok (.bipush 7, 2) := by decide +kernel
theorem dX9_tell_42 : decode cX9_tell 42 = .ok (.dup2, 1) := by decide +kernel
theorem dX9_tell_43 : decode cX9_tell 43 = .ok (.iaload, 1) := by decide +kernel
theorem dX9_tell_44 : decode cX9_tell 44 = .ok (.iconst 1, 1) := by decide +kernel
theorem dX9_tell_45 : decode cX9_tell 45 = .ok (.iadd, 1) := by decide +kernel
theorem dX9_tell_46 : decode cX9_tell 46 = .ok (.iastore, 1) := by decide +kernel
theorem dX9_tell_47 : decode cX9_tell 47 = .ok (.aload_n 0, 1) := by decide +kernel
theorem dX9_tell_48 : decode cX9_tell 48 = .ok (.getfield 9, 3) := by decide +kernel
theorem dX9_tell_51 : decode cX9_tell 51 = .ok (.bipush 7, 2) := by decide +kernel
theorem dX9_tell_53 : decode cX9_tell 53 = .ok (.iaload, 1) := by decide +kernel
theorem dX9_tell_54 : decode cX9_tell 54 = .ok (.ireturn, 1) := by decide +kernel
theorem dX9_check_0 : decode cX9_check 0 = .ok (.aload_n 0, 1) := by decide +kernel
theorem dX9_check_1 : decode cX9_check 1 = .ok (.getfield 9, 3) := by decide +kernel
theorem dX9_check_4 : decode cX9_check 4 = .ok (.bipush 7, 2) := by decide +kernel
theorem dX9_check_6 : decode cX9_check 6 = .ok (.iaload, 1) := by decide +kernel
theorem dX9_check_7 : decode cX9_check 7 = .ok (.istore_n 1, 1) := by decide +kernel
theorem dX9_check_8 : decode cX9_check 8 = .ok (.aload_n 0, 1) := by decide +kernel
theorem dX9_check_9 : decode cX9_check 9 = .ok (.getfield 9, 3) := by decide +kernel
theorem dX9_check_12 : decode cX9_check 12 = .ok (.bipush 7, 2) := by decide +kernel
theorem dX9_check_14 : decode cX9_check 14 = .ok (.iconst 0, 1) := by decide +kernel
theorem dX9_check_15 : decode cX9_check 15 = .ok (.iastore, 1) := by decide +kernel
theorem dX9_check_16 : decode cX9_check 16 = .ok (.iconst 0, 1) := by decide +kernel
theorem dX9_check_17 : decode cX9_check 17 = .ok (.istore_n 2, 1) := by decide +kernel
theorem dX9_check_18 : decode cX9_check 18 = .ok (.iload_n 2, 1) := by decide +kernel
theorem dX9_check_19 : decode cX9_check 19 = .ok (.iload_n 1, 1) := by decide +kernel
theorem dX9_check_20 : decode cX9_check 20 = .ok (.if_icmp .ge 39, 3) := by decide +kernel
theorem dX9_check_23 : decode cX9_check 23 = .ok (.aload_n 0, 1) := by decide +kernel
theorem dX9_check_24 : decode cX9_check 24 = .ok (.iload_n 2, 1) := by decide +kernel
theorem dX9_check_25 : decode cX9_check 25 = .ok (.invokevirtual 100, 3) := by decide +kernel
theorem dX9_check_28 : decode cX9_check 28 = .ok (.ifCond .eq 21, 3) := by decide +kernel
theorem dX9_check_31 : decode cX9_check 31 = .ok (.aload_n 0, 1) := by decide +kernel
theorem dX9_check_32 : decode cX9_check 32 = .ok (.getfield 9, 3) := by decide +kernel
theorem dX9_check_35 : decode cX9_check 35 = .ok (.sipush 129, 3) := by decide +kernel
theorem dX9_check_38 : decode cX9_check 38 = .ok (.iload_n 2, 1) := by decide +kernel
theorem dX9_check_39 : decode cX9_check 39 = .ok (.iadd, 1) := by decide +kernel
theorem dX9_check_40 : decode cX9_check 40 = .ok (.iaload, 1) := by decide +kernel
theorem dX9_check_41 : decode cX9_check 41 = .ok (.aload_n 0, 1) := by decide +kernel
theorem dX9_check_42 : decode cX9_check 42 = .ok (.iload_n 2, 1) := by decide +kernel
theorem dX9_check_43 : decode cX9_check 43 = .ok (.invokevirtual 103, 3) := by decide +kernel
theorem dX9_check_46 : decode cX9_check 46 = .ok (.if_icmp .eq 7, 3) := by decide +kernel
theorem dX9_check_49 : decode cX9_check 49 = .ok (.iconst 1, 1) := by decide +kernel
theorem dX9_check_50 : decode cX9_check 50 = .ok (.iload_n 2, 1) := by decide +kernel
theorem dX9_check_51 : decode cX9_check 51 = .ok (.iadd, 1) := by decide +kernel
theorem dX9_check_52 : decode cX9_check 52 = .ok (.ireturn, 1) := by decide +kernel
theorem dX9_check_53 : decode cX9_check 53 = .ok (.iinc 2 1, 3) := by decide +kernel
theorem dX9_check_56 : decode cX9_check 56 = .ok (.goto (-38), 3) := by decide +kernel
theorem dX9_check_59 : decode cX9_check 59 = .ok (.iconst 0, 1) := by decide +kernel
theorem dX9_check_60 : decode cX9_check 60 = .ok (.ireturn, 1) := by decide +kernel
theorem dX9_count_0 : decode cX9_count 0 = .ok (.iload_n 1, 1) := by decide +kernel
theorem dX9_count_1 : decode cX9_count 1 = .ok (.tableswitch 123 0 9 #[55, 62, 69, 76, 83, 90, 95, 103, 111, 116], 55) := by decide +kernel
theorem dX9_count_56 : decode cX9_count 56 = .ok (.aload_n 0, 1) := by decide +kernel
theorem dX9_count_57 : decode cX9_count 57 = .ok (.getfield 9, 3) := by decide +kernel
theorem dX9_count_60 : decode cX9_count 60 = .ok (.iconst 2, 1) := by decide +kernel
theorem dX9_count_61 : decode cX9_count 61 = .ok (.iaload, 1) := by decide +kernel
theorem dX9_count_62 : decode cX9_count 62 = .ok (.ireturn, 1) := by decide +kernel
theorem dX9_count_63 : decode cX9_count 63 = .ok (.aload_n 0, 1) := by decide +kernel
theorem dX9_count_64 : decode cX9_count 64 = .ok (.getfield 9, 3) := by decide +kernel
theorem dX9_count_67 : decode cX9_count 67 = .ok (.iconst 3, 1) := by decide +kernel
theorem dX9_count_68 : decode cX9_count 68 = .ok (.iaload, 1) := by decide +kernel
theorem dX9_count_69 : decode cX9_count 69 = .ok (.ireturn, 1) := by decide +kernel
theorem dX9_count_70 : decode cX9_count 70 = .ok (.aload_n 0, 1) := by decide +kernel
theorem dX9_count_71 : decode cX9_count 71 = .ok (.getfield 9, 3) := by decide +kernel
theorem dX9_count_74 : decode cX9_count 74 = .ok (.iconst 4, 1) := by decide +kernel
theorem dX9_count_75 : decode cX9_count 75 = .ok (.iaload, 1) := by decide +kernel
theorem dX9_count_76 : decode cX9_count 76 = .ok (.ireturn, 1) := by decide +kernel
theorem dX9_count_77 : decode cX9_count 77 = .ok (.aload_n 0, 1) := by decide +kernel
theorem dX9_count_78 : decode cX9_count 78 = .ok (.getfield 9, 3) := by decide +kernel
theorem dX9_count_81 : decode cX9_count 81 = .ok (.iconst 0, 1) := by decide +kernel
theorem dX9_count_82 : decode cX9_count 82 = .ok (.iaload, 1) := by decide +kernel
theorem dX9_count_83 : decode cX9_count 83 = .ok (.ireturn, 1) := by decide +kernel
theorem dX9_count_84 : decode cX9_count 84 = .ok (.aload_n 0, 1) := by decide +kernel
theorem dX9_count_85 : decode cX9_count 85 = .ok (.getfield 9, 3) := by decide +kernel
theorem dX9_count_88 : decode cX9_count 88 = .ok (.iconst 5, 1) := by decide +kernel
theorem dX9_count_89 : decode cX9_count 89 = .ok (.iaload, 1) := by decide +kernel
theorem dX9_count_90 : decode cX9_count 90 = .ok (.ireturn, 1) := by decide +kernel
theorem dX9_count_91 : decode cX9_count 91 = .ok (.aload_n 0, 1) := by decide +kernel
theorem dX9_count_92 : decode cX9_count 92 = .ok (.invokevirtual 205, 3) := by decide +kernel
theorem dX9_count_95 : decode cX9_count 95 = .ok (.ireturn, 1) := by decide +kernel
theorem dX9_count_96 : decode cX9_count 96 = .ok (.aload_n 0, 1) := by decide +kernel
theorem dX9_count_97 : decode cX9_count 97 = .ok (.getfield 9, 3) := by decide +kernel
theorem dX9_count_100 : decode cX9_count 100 = .ok (.bipush 6, 2) := by decide +kernel
theorem dX9_count_102 : decode cX9_count 102 = .ok (.iaload, 1) := by decide +kernel
theorem dX9_count_103 : decode cX9_count 103 = .ok (.ireturn, 1) := by decide +kernel
theorem dX9_count_104 : decode cX9_count 104 = .ok (.aload_n 0, 1) := by decide +kernel
theorem dX9_count_105 : decode cX9_count 105 = .ok (.getfield 9, 3) := by decide +kernel
theorem dX9_count_108 : decode cX9_count 108 = .ok (.bipush 7, 2) := by decide +kernel
theorem dX9_count_110 : decode cX9_count 110 = .ok (.iaload, 1) := by decide +kernel
theorem dX9_count_111 : decode cX9_count 111 = .ok (.ireturn, 1) := by decide +kernel
theorem dX9_count_112 : decode cX9_count 112 = .ok (.aload_n 0, 1) := by decide +kernel
theorem dX9_count_113 : decode cX9_count 113 = .ok (.getfield 245, 3) := by decide +kernel
theorem dX9_count_116 : decode cX9_count 116 = .ok (.ireturn, 1) := by decide +kernel
theorem dX9_count_117 : decode cX9_count 117 = .ok (.aload_n 0, 1) := by decide +kernel
theorem dX9_count_118 : decode cX9_count 118 = .ok (.getfield 9, 3) := by decide +kernel
theorem dX9_count_121 : decode cX9_count 121 = .ok (.iconst 1, 1) := by decide +kernel
theorem dX9_count_122 : decode cX9_count 122 = .ok (.iaload, 1) := by decide +kernel
theorem dX9_count_123 : decode cX9_count 123 = .ok (.ireturn, 1) := by decide +kernel
theorem dX9_count_124 : decode cX9_count 124 = .ok (.aload_n 0, 1) := by decide +kernel
theorem dX9_count_125 : decode cX9_count 125 = .ok (.ldc 95, 2) := by decide +kernel
theorem dX9_count_127 : decode cX9_count 127 = .ok (.invokevirtual 96, 3) := by decide +kernel
theorem dX9_count_130 : decode cX9_count 130 = .ok (.ireturn, 1) := by decide +kernel
theorem dX9_told_0 : decode cX9_told 0 = .ok (.iload_n 1, 1) := by decide +kernel
theorem dX9_told_1 : decode cX9_told 1 = .ok (.iconst 1, 1) := by decide +kernel
theorem dX9_told_2 : decode cX9_told 2 = .ok (.bipush 6, 2) := by decide +kernel
theorem dX9_told_4 : decode cX9_told 4 = .ok (.invokestatic 60, 3) := by decide +kernel
theorem dX9_told_7 : decode cX9_told 7 = .ok (.ifCond .eq 12, 3) := by decide +kernel
theorem dX9_told_10 : decode cX9_told 10 = .ok (.aload_n 0, 1) := by decide +kernel
theorem dX9_told_11 : decode cX9_told 11 = .ok (.getfield 19, 3) := by decide +kernel
theorem dX9_told_14 : decode cX9_told 14 = .ok (.iload_n 1, 1) := by decide +kernel
theorem dX9_told_15 : decode cX9_told 15 = .ok (.iaload, 1) := by decide +kernel
theorem dX9_told_16 : decode cX9_told 16 = .ok (.goto 9, 3) := by decide +kernel
theorem dX9_told_19 : decode cX9_told 19 = .ok (.aload_n 0, 1) := by decide +kernel
theorem dX9_told_20 : decode cX9_told 20 = .ok (.ldc 95, 2) := by decide +kernel
theorem dX9_told_22 : decode cX9_told 22 = .ok (.invokevirtual 96, 3) := by decide +kernel
theorem dX9_told_25 : decode cX9_told 25 = .ok (.ireturn, 1) := by decide +kernel
theorem dJ11_isValidCodePoint_9a6ad_0 : decode cJ11_isValidCodePoint_9a6ad 0 = .ok (.iload_n 0, 1) := by decide +kernel
theorem dJ11_isValidCodePoint_9a6ad_1 : decode cJ11_isValidCodePoint_9a6ad 1 = .ok (.bipush 16, 2) := by decide +kernel
theorem dJ11_isValidCodePoint_9a6ad_3 : decode cJ11_isValidCodePoint_9a6ad 3 = .ok (.iushr, 1) := by decide +kernel
theorem dJ11_isValidCodePoint_9a6ad_4 : decode cJ11_isValidCodePoint_9a6ad 4 = .ok (.istore_n 1, 1) := by decide +kernel
theorem dJ11_isValidCodePoint_9a6ad_5 : decode cJ11_isValidCodePoint_9a6ad 5 = .ok (.iload_n 1, 1) := by decide +kernel
theorem dJ11_isValidCodePoint_9a6ad_6 : decode cJ11_isValidCodePoint_9a6ad 6 = .ok (.bipush 17, 2) := by decide +kernel
theorem dJ11_isValidCodePoint_9a6ad_8 : decode cJ11_isValidCodePoint_9a6ad 8 = .ok (.if_icmp .ge 7, 3) := by decide +kernel
theorem dJ11_isValidCodePoint_9a6ad_11 : decode cJ11_isValidCodePoint_9a6ad 11 = .ok (.iconst 1, 1) := by decide +kernel
theorem dJ11_isValidCodePoint_9a6ad_12 : decode cJ11_isValidCodePoint_9a6ad 12 = .ok (.goto 4, 3) := by decide +kernel
theorem dJ11_isValidCodePoint_9a6ad_15 : decode cJ11_isValidCodePoint_9a6ad 15 = .ok (.iconst 0, 1) := by decide +kernel
theorem dJ11_isValidCodePoint_9a6ad_16 : decode cJ11_isValidCodePoint_9a6ad 16 = .ok (.ireturn, 1) := by decide +kernel
theorem dJ11_highSurrogate_5068e_0 : decode cJ11_highSurrogate_5068e 0 = .ok (.iload_n 0, 1) := by decide +kernel
theorem dJ11_highSurrogate_5068e_1 : decode cJ11_highSurrogate_5068e 1 = .ok (.bipush 10, 2) := by decide +kernel
theorem dJ11_highSurrogate_5068e_3 : decode cJ11_highSurrogate_5068e 3 = .ok (.iushr, 1) := by decide +kernel
theorem dJ11_highSurrogate_5068e_4 : decode cJ11_highSurrogate_5068e 4 = .ok (.ldc 110, 2) := by decide +kernel
theorem dJ11_highSurrogate_5068e_6 : decode cJ11_highSurrogate_5068e 6 = .ok (.iadd, 1) := by decide +kernel
theorem dJ11_highSurrogate_5068e_7 : decode cJ11_highSurrogate_5068e 7 = .ok (.i2c, 1) := by decide +kernel
theorem dJ11_highSurrogate_5068e_8 : decode cJ11_highSurrogate_5068e 8 = .ok (.ireturn, 1) := by decide +kernel
theorem dJ11_lowSurrogate_5068e_0 : decode cJ11_lowSurrogate_5068e 0 = .ok (.iload_n 0, 1) := by decide +kernel
theorem dJ11_lowSurrogate_5068e_1 : decode cJ11_lowSurrogate_5068e 1 = .ok (.sipush 1023, 3) := by decide +kernel
theorem dJ11_lowSurrogate_5068e_4 : decode cJ11_lowSurrogate_5068e 4 = .ok (.iand, 1) := by decide +kernel
theorem dJ11_lowSurrogate_5068e_5 : decode cJ11_lowSurrogate_5068e 5 = .ok (.ldc 76, 2) := by decide +kernel
theorem dJ11_lowSurrogate_5068e_7 : decode cJ11_lowSurrogate_5068e 7 = .ok (.iadd, 1) := by decide +kernel
theorem dJ11_lowSurrogate_5068e_8 : decode cJ11_lowSurrogate_5068e 8 = .ok (.i2c, 1) := by decide +kernel
theorem dJ11_lowSurrogate_5068e_9 : decode cJ11_lowSurrogate_5068e 9 = .ok (.ireturn, 1) := by decide +kernel
theorem dJ6_bitCount_0f7a4_0 : decode cJ6_bitCount_0f7a4 0 = .ok (.iload_n 0, 1) := by decide +kernel
theorem dJ6_bitCount_0f7a4_1 : decode cJ6_bitCount_0f7a4 1 = .ok (.iload_n 0, 1) := by decide +kernel
theorem dJ6_bitCount_0f7a4_2 : decode cJ6_bitCount_0f7a4 2 = .ok (.iconst 1, 1) := by decide +kernel
theorem dJ6_bitCount_0f7a4_3 : decode cJ6_bitCount_0f7a4 3 = .ok (.iushr, 1) := by decide +kernel
theorem dJ6_bitCount_0f7a4_4 : decode cJ6_bitCount_0f7a4 4 = .ok (.ldc_w 265, 3) := by decide +kernel
theorem dJ6_bitCount_0f7a4_7 : decode cJ6_bitCount_0f7a4 7 = .ok (.iand, 1) := by decide +kernel
theorem dJ6_bitCount_0f7a4_8 : decode cJ6_bitCount_0f7a4 8 = .ok (.isub, 1) := by decide +kernel
theorem dJ6_bitCount_0f7a4_9 : decode cJ6_bitCount_0f7a4 9 = .ok (.istore_n 0, 1) := by decide +kernel
theorem dJ6_bitCount_0f7a4_10 : decode cJ6_bitCount_0f7a4 10 = .ok (.iload_n 0, 1) := by decide +kernel
theorem dJ6_bitCount_0f7a4_11 : decode cJ6_bitCount_0f7a4 11 = .ok (.ldc_w 266, 3) := by decide +kernel
theorem dJ6_bitCount_0f7a4_14 : decode cJ6_bitCount_0f7a4 14 = .ok (.iand, 1) := by decide +kernel
theorem dJ6_bitCount_0f7a4_15 : decode cJ6_bitCount_0f7a4 15 = .ok (.iload_n 0, 1) := by decide +kernel
theorem dJ6_bitCount_0f7a4_16 : decode cJ6_bitCount_0f7a4 16 = .ok (.iconst 2, 1) := by decide +kernel
theorem dJ6_bitCount_0f7a4_17 : decode cJ6_bitCount_0f7a4 17 = .ok (.iushr, 1) := by decide +kernel
theorem dJ6_bitCount_0f7a4_18 : decode cJ6_bitCount_0f7a4 18 = .ok (.ldc_w 266, 3) := by decide +kernel
theorem dJ6_bitCount_0f7a4_21 : decode cJ6_bitCount_0f7a4 21 = .ok (.iand, 1) := by decide +kernel
theorem dJ6_bitCount_0f7a4_22 : decode cJ6_bitCount_0f7a4 22 = .ok (.iadd, 1) := by decide +kernel
theorem dJ6_bitCount_0f7a4_23 : decode cJ6_bitCount_0f7a4 23 = .ok (.istore_n 0, 1) := by decide +kernel
theorem dJ6_bitCount_0f7a4_24 : decode cJ6_bitCount_0f7a4 24 = .ok (.iload_n 0, 1) := by decide +kernel
theorem dJ6_bitCount_0f7a4_25 : decode cJ6_bitCount_0f7a4 25 = .ok (.iload_n 0, 1) := by decide +kernel
theorem dJ6_bitCount_0f7a4_26 : decode cJ6_bitCount_0f7a4 26 = .ok (.iconst 4, 1) := by decide +kernel
theorem dJ6_bitCount_0f7a4_27 : decode cJ6_bitCount_0f7a4 27 = .ok (.iushr, 1) := by decide +kernel
theorem dJ6_bitCount_0f7a4_28 : decode cJ6_bitCount_0f7a4 28 = .ok (.iadd, 1) := by decide +kernel
theorem dJ6_bitCount_0f7a4_29 : decode cJ6_bitCount_0f7a4 29 = .ok (.ldc_w 267, 3) := by decide +kernel
theorem dJ6_bitCount_0f7a4_32 : decode cJ6_bitCount_0f7a4 32 = .ok (.iand, 1) := by decide +kernel
theorem dJ6_bitCount_0f7a4_33 : decode cJ6_bitCount_0f7a4 33 = .ok (.istore_n 0, 1) := by decide +kernel
theorem dJ6_bitCount_0f7a4_34 : decode cJ6_bitCount_0f7a4 34 = .ok (.iload_n 0, 1) := by decide +kernel
theorem dJ6_bitCount_0f7a4_35 : decode cJ6_bitCount_0f7a4 35 = .ok (.iload_n 0, 1) := by decide +kernel
theorem dJ6_bitCount_0f7a4_36 : decode cJ6_bitCount_0f7a4 36 = .ok (.bipush 8, 2) := by decide +kernel
theorem dJ6_bitCount_0f7a4_38 : decode cJ6_bitCount_0f7a4 38 = .ok (.iushr, 1) := by decide +kernel
theorem dJ6_bitCount_0f7a4_39 : decode cJ6_bitCount_0f7a4 39 = .ok (.iadd, 1) := by decide +kernel
theorem dJ6_bitCount_0f7a4_40 : decode cJ6_bitCount_0f7a4 40 = .ok (.istore_n 0, 1) := by decide +kernel
theorem dJ6_bitCount_0f7a4_41 : decode cJ6_bitCount_0f7a4 41 = .ok (.iload_n 0, 1) := by decide +kernel
theorem dJ6_bitCount_0f7a4_42 : decode cJ6_bitCount_0f7a4 42 = .ok (.iload_n 0, 1) := by decide +kernel
theorem dJ6_bitCount_0f7a4_43 : decode cJ6_bitCount_0f7a4 43 = .ok (.bipush 16, 2) := by decide +kernel
theorem dJ6_bitCount_0f7a4_45 : decode cJ6_bitCount_0f7a4 45 = .ok (.iushr, 1) := by decide +kernel
theorem dJ6_bitCount_0f7a4_46 : decode cJ6_bitCount_0f7a4 46 = .ok (.iadd, 1) := by decide +kernel
theorem dJ6_bitCount_0f7a4_47 : decode cJ6_bitCount_0f7a4 47 = .ok (.istore_n 0, 1) := by decide +kernel
theorem dJ6_bitCount_0f7a4_48 : decode cJ6_bitCount_0f7a4 48 = .ok (.iload_n 0, 1) := by decide +kernel
theorem dJ6_bitCount_0f7a4_49 : decode cJ6_bitCount_0f7a4 49 = .ok (.bipush 63, 2) := by decide +kernel
theorem dJ6_bitCount_0f7a4_51 : decode cJ6_bitCount_0f7a4 51 = .ok (.iand, 1) := by decide +kernel
theorem dJ6_bitCount_0f7a4_52 : decode cJ6_bitCount_0f7a4 52 = .ok (.ireturn, 1) := by decide +kernel
theorem dJ9_max_7cf53_0 : decode cJ9_max_7cf53 0 = .ok (.iload_n 0, 1) := by decide +kernel
theorem dJ9_max_7cf53_1 : decode cJ9_max_7cf53 1 = .ok (.iload_n 1, 1) := by decide +kernel
theorem dJ9_max_7cf53_2 : decode cJ9_max_7cf53 2 = .ok (.if_icmp .lt 7, 3) := by decide +kernel
theorem dJ9_max_7cf53_5 : decode cJ9_max_7cf53 5 = .ok (.iload_n 0, 1) := by decide +kernel
theorem dJ9_max_7cf53_6 : decode cJ9_max_7cf53 6 = .ok (.goto 4, 3) := by decide +kernel
theorem dJ9_max_7cf53_9 : decode cJ9_max_7cf53 9 = .ok (.iload_n 1, 1) := by decide +kernel
theorem dJ9_max_7cf53_10 : decode cJ9_max_7cf53 10 = .ok (.ireturn, 1) := by decide +kernel
theorem dJ9_min_7cf53_0 : decode cJ9_min_7cf53 0 = .ok (.iload_n 0, 1) := by decide +kernel
theorem dJ9_min_7cf53_1 : decode cJ9_min_7cf53 1 = .ok (.iload_n 1, 1) := by decide +kernel
theorem dJ9_min_7cf53_2 : decode cJ9_min_7cf53 2 = .ok (.if_icmp .gt 7, 3) := by decide +kernel
theorem dJ9_min_7cf53_5 : decode cJ9_min_7cf53 5 = .ok (.iload_n 0, 1) := by decide +kernel
theorem dJ9_min_7cf53_6 : decode cJ9_min_7cf53 6 = .ok (.goto 4, 3) := by decide +kernel
theorem dJ9_min_7cf53_9 : decode cJ9_min_7cf53 9 = .ok (.iload_n 1, 1) := by decide +kernel
theorem dJ9_min_7cf53_10 : decode cJ9_min_7cf53 10 = .ok (.ireturn, 1) := by decide +kernel
theorem dJ0_length_8abf5_0 : decode cJ0_length_8abf5 0 = .ok (.aload_n 0, 1) := by decide +kernel
theorem dJ0_length_8abf5_1 : decode cJ0_length_8abf5 1 = .ok (.getfield 9, 3) := by decide +kernel
theorem dJ0_length_8abf5_4 : decode cJ0_length_8abf5 4 = .ok (.arraylength, 1) := by decide +kernel
theorem dJ0_length_8abf5_5 : decode cJ0_length_8abf5 5 = .ok (.aload_n 0, 1) := by decide +kernel
theorem dJ0_length_8abf5_6 : decode cJ0_length_8abf5 6 = .ok (.invokevirtual 335, 3) := by decide +kernel
theorem dJ0_length_8abf5_9 : decode cJ0_length_8abf5 9 = .ok (.ishr, 1) := by decide +kernel
theorem dJ0_length_8abf5_10 : decode cJ0_length_8abf5 10 = .ok (.ireturn, 1) := by decide +kernel
theorem dJ0_indexOf_0f7a4_0 : decode cJ0_indexOf_0f7a4 0 = .ok (.aload_n 0, 1) := by decide +kernel
theorem dJ0_indexOf_0f7a4_1 : decode cJ0_indexOf_0f7a4 1 = .ok (.iload_n 1, 1) := by decide +kernel
theorem dJ0_indexOf_0f7a4_2 : decode cJ0_indexOf_0f7a4 2 = .ok (.iconst 0, 1) := by decide +kernel
theorem dJ0_indexOf_0f7a4_3 : decode cJ0_indexOf_0f7a4 3 = .ok (.invokevirtual 633, 3) := by decide +kernel
theorem dJ0_indexOf_0f7a4_6 : decode cJ0_indexOf_0f7a4 6 = .ok (.ireturn, 1) := by decide +kernel
theorem dJ0_indexOf_7cf53_0 : decode cJ0_indexOf_7cf53 0 = .ok (.aload_n 0, 1) := by decide +kernel
theorem dJ0_indexOf_7cf53_1 : decode cJ0_indexOf_7cf53 1 = .ok (.invokevirtual 492, 3) := by decide +kernel
theorem dJ0_indexOf_7cf53_4 : decode cJ0_indexOf_7cf53 4 = .ok (.ifCond .eq 19, 3) := by decide +kernel
theorem dJ0_indexOf_7cf53_7 : decode cJ0_indexOf_7cf53 7 = .ok (.aload_n 0, 1) := by decide +kernel
theorem dJ0_indexOf_7cf53_8 : decode cJ0_indexOf_7cf53 8 = .ok (.getfield 9, 3) := by decide +kernel
theorem dJ0_indexOf_7cf53_11 : decode cJ0_indexOf_7cf53 11 = .ok (.iload_n 1, 1) := by decide +kernel
theorem dJ0_indexOf_7cf53_12 : decode cJ0_indexOf_7cf53 12 = .ok (.iload_n 2, 1) := by decide +kernel
theorem dJ0_indexOf_7cf53_13 : decode cJ0_indexOf_7cf53 13 = .ok (.aload_n 0, 1) := by decide +kernel
theorem dJ0_indexOf_7cf53_14 : decode cJ0_indexOf_7cf53 14 = .ok (.invokevirtual 505, 3) := by decide +kernel
theorem dJ0_indexOf_7cf53_17 : decode cJ0_indexOf_7cf53 17 = .ok (.invokestatic 637, 3) := by decide +kernel
theorem dJ0_indexOf_7cf53_20 : decode cJ0_indexOf_7cf53 20 = .ok (.goto 16, 3) := by decide +kernel
theorem dJ0_indexOf_7cf53_23 : decode cJ0_indexOf_7cf53 23 = .ok (.aload_n 0, 1) := by decide +kernel
theorem dJ0_indexOf_7cf53_24 : decode cJ0_indexOf_7cf53 24 = .ok (.getfield 9, 3) := by decide +kernel
theorem dJ0_indexOf_7cf53_27 : decode cJ0_indexOf_7cf53 27 = .ok (.iload_n 1, 1) := by decide +kernel
theorem dJ0_indexOf_7cf53_28 : decode cJ0_indexOf_7cf53 28 = .ok (.iload_n 2, 1) := by decide +kernel
theorem dJ0_indexOf_7cf53_29 : decode cJ0_indexOf_7cf53 29 = .ok (.aload_n 0, 1) := by decide +kernel
theorem dJ0_indexOf_7cf53_30 : decode cJ0_indexOf_7cf53 30 = .ok (.invokevirtual 505, 3) := by decide +kernel
theorem dJ0_indexOf_7cf53_33 : decode cJ0_indexOf_7cf53 33 = .ok (.invokestatic 640, 3) := by decide +kernel
theorem dJ0_indexOf_7cf53_36 : decode cJ0_indexOf_7cf53 36 = .ok (.ireturn, 1) := by decide +kernel
theorem dJ0_coder_7d493_0 : decode cJ0_coder_7d493 0 = .ok (.getstatic 38, 3) := by decide +kernel
theorem dJ0_coder_7d493_3 : decode cJ0_coder_7d493 3 = .ok (.ifCond .eq 10, 3) := by decide +kernel
theorem dJ0_coder_7d493_6 : decode cJ0_coder_7d493 6 = .ok (.aload_n 0, 1) := by decide +kernel
theorem dJ0_coder_7d493_7 : decode cJ0_coder_7d493 7 = .ok (.getfield 15, 3) := by decide +kernel
theorem dJ0_coder_7d493_10 : decode cJ0_coder_7d493 10 = .ok (.goto 4, 3) := by decide +kernel
theorem dJ0_coder_7d493_13 : decode cJ0_coder_7d493 13 = .ok (.iconst 1, 1) := by decide +kernel
theorem dJ0_coder_7d493_14 : decode cJ0_coder_7d493 14 = .ok (.ireturn, 1) := by decide +kernel
theorem dJ0_isLatin1_aae02_0 : decode cJ0_isLatin1_aae02 0 = .ok (.getstatic 38, 3) := by decide +kernel
theorem dJ0_isLatin1_aae02_3 : decode cJ0_isLatin1_aae02 3 = .ok (.ifCond .eq 14, 3) := by decide +kernel
theorem dJ0_isLatin1_aae02_6 : decode cJ0_isLatin1_aae02 6 = .ok (.aload_n 0, 1) := by decide +kernel
theorem dJ0_isLatin1_aae02_7 : decode cJ0_isLatin1_aae02 7 = .ok (.getfield 15, 3) := by decide +kernel
theorem dJ0_isLatin1_aae02_10 : decode cJ0_isLatin1_aae02 10 = .ok (.ifCond .ne 7, 3) := by decide +kernel
theorem dJ0_isLatin1_aae02_13 : decode cJ0_isLatin1_aae02 13 = .ok (.iconst 1, 1) := by decide +kernel
theorem dJ0_isLatin1_aae02_14 : decode cJ0_isLatin1_aae02 14 = .ok (.goto 4, 3) := by decide +kernel
theorem dJ0_isLatin1_aae02_17 : decode cJ0_isLatin1_aae02 17 = .ok (.iconst 0, 1) := by decide +kernel
theorem dJ0_isLatin1_aae02_18 : decode cJ0_isLatin1_aae02 18 = .ok (.ireturn, 1) := by decide +kernel
theorem dJ0_checkBoundsBeginEnd_23922_0 : decode cJ0_checkBoundsBeginEnd_23922 0 = .ok (.iload_n 0, 1) := by decide +kernel
theorem dJ0_checkBoundsBeginEnd_23922_1 : decode cJ0_checkBoundsBeginEnd_23922 1 = .ok (.iload_n 1, 1) := by decide +kernel
theorem dJ0_checkBoundsBeginEnd_23922_2 : decode cJ0_checkBoundsBeginEnd_23922 2 = .ok (.iload_n 2, 1) := by decide +kernel
theorem dJ0_checkBoundsBeginEnd_23922_3 : decode cJ0_checkBoundsBeginEnd_23922 3 = .ok (.getstatic 1053, 3) := by decide +kernel
theorem dJ0_checkBoundsBeginEnd_23922_6 : decode cJ0_checkBoundsBeginEnd_23922 6 = .ok (.invokestatic 1062, 3) := by decide +kernel
theorem dJ0_checkBoundsBeginEnd_23922_9 : decode cJ0_checkBoundsBeginEnd_23922 9 = .ok (.pop, 1) := by decide +kernel
theorem dJ0_checkBoundsBeginEnd_23922_10 : decode cJ0_checkBoundsBeginEnd_23922 10 = .ok (.return_, 1) := by decide +kernel
theorem dJ1_canEncode_9a6ad_0 : decode cJ1_canEncode_9a6ad 0 = .ok (.iload_n 0, 1) := by decide +kernel
theorem dJ1_canEncode_9a6ad_1 : decode cJ1_canEncode_9a6ad 1 = .ok (.ifCond .lt 14, 3) := by decide +kernel
theorem dJ1_canEncode_9a6ad_4 : decode cJ1_canEncode_9a6ad 4 = .ok (.iload_n 0, 1) := by decide +kernel
theorem dJ1_canEncode_9a6ad_5 : decode cJ1_canEncode_9a6ad 5 = .ok (.sipush 255, 3) := by decide +kernel
theorem dJ1_canEncode_9a6ad_8 : decode cJ1_canEncode_9a6ad 8 = .ok (.if_icmp .gt 7, 3) := by decide +kernel
theorem dJ1_canEncode_9a6ad_11 : decode cJ1_canEncode_9a6ad 11 = .ok (.iconst 1, 1) := by decide +kernel
theorem dJ1_canEncode_9a6ad_12 : decode cJ1_canEncode_9a6ad 12 = .ok (.goto 4, 3) := by decide +kernel
theorem dJ1_canEncode_9a6ad_15 : decode cJ1_canEncode_9a6ad 15 = .ok (.iconst 0, 1) := by decide +kernel
theorem dJ1_canEncode_9a6ad_16 : decode cJ1_canEncode_9a6ad 16 = .ok (.ireturn, 1) := by decide +kernel
theorem dJ1_indexOf_4cfef_0 : decode cJ1_indexOf_4cfef 0 = .ok (.iload_n 1, 1) := by decide +kernel
theorem dJ1_indexOf_4cfef_1 : decode cJ1_indexOf_4cfef 1 = .ok (.invokestatic 88, 3) := by decide +kernel
theorem dJ1_indexOf_4cfef_4 : decode cJ1_indexOf_4cfef 4 = .ok (.ifCond .ne 5, 3) := by decide +kernel
theorem dJ1_indexOf_4cfef_7 : decode cJ1_indexOf_4cfef 7 = .ok (.iconst (-1), 1) := by decide +kernel
theorem dJ1_indexOf_4cfef_8 : decode cJ1_indexOf_4cfef 8 = .ok (.ireturn, 1) := by decide +kernel
theorem dJ1_indexOf_4cfef_9 : decode cJ1_indexOf_4cfef 9 = .ok (.iload_n 2, 1) := by decide +kernel
theorem dJ1_indexOf_4cfef_10 : decode cJ1_indexOf_4cfef 10 = .ok (.iconst 0, 1) := by decide +kernel
theorem dJ1_indexOf_4cfef_11 : decode cJ1_indexOf_4cfef 11 = .ok (.invokestatic 92, 3) := by decide +kernel
theorem dJ1_indexOf_4cfef_14 : decode cJ1_indexOf_4cfef 14 = .ok (.istore_n 2, 1) := by decide +kernel
theorem dJ1_indexOf_4cfef_15 : decode cJ1_indexOf_4cfef 15 = .ok (.iload_n 3, 1) := by decide +kernel
theorem dJ1_indexOf_4cfef_16 : decode cJ1_indexOf_4cfef 16 = .ok (.aload_n 0, 1) := by decide +kernel
theorem dJ1_indexOf_4cfef_17 : decode cJ1_indexOf_4cfef 17 = .ok (.arraylength, 1) := by decide +kernel
theorem dJ1_indexOf_4cfef_18 : decode cJ1_indexOf_4cfef 18 = .ok (.invokestatic 38, 3) := by decide +kernel
theorem dJ1_indexOf_4cfef_21 : decode cJ1_indexOf_4cfef 21 = .ok (.istore_n 3, 1) := by decide +kernel
theorem dJ1_indexOf_4cfef_22 : decode cJ1_indexOf_4cfef 22 = .ok (.iload_n 2, 1) := by decide +kernel
theorem dJ1_indexOf_4cfef_23 : decode cJ1_indexOf_4cfef 23 = .ok (.iload_n 3, 1) := by decide +kernel
theorem dJ1_indexOf_4cfef_24 : decode cJ1_indexOf_4cfef 24 = .ok (.if_icmp .lt 5, 3) := by decide +kernel
theorem dJ1_indexOf_4cfef_27 : decode cJ1_indexOf_4cfef 27 = .ok (.iconst (-1), 1) := by decide +kernel
theorem dJ1_indexOf_4cfef_28 : decode cJ1_indexOf_4cfef 28 = .ok (.ireturn, 1) := by decide +kernel
theorem dJ1_indexOf_4cfef_29 : decode cJ1_indexOf_4cfef 29 = .ok (.aload_n 0, 1) := by decide +kernel
theorem dJ1_indexOf_4cfef_30 : decode cJ1_indexOf_4cfef 30 = .ok (.iload_n 1, 1) := by decide +kernel
theorem dJ1_indexOf_4cfef_31 : decode cJ1_indexOf_4cfef 31 = .ok (.iload_n 2, 1) := by decide +kernel
theorem dJ1_indexOf_4cfef_32 : decode cJ1_indexOf_4cfef 32 = .ok (.iload_n 3, 1) := by decide +kernel
theorem dJ1_indexOf_4cfef_33 : decode cJ1_indexOf_4cfef 33 = .ok (.invokestatic 95, 3) := by decide +kernel
theorem dJ1_indexOf_4cfef_36 : decode cJ1_indexOf_4cfef 36 = .ok (.ireturn, 1) := by decide +kernel
theorem dJ1_indexOfChar_4cfef_0 : decode cJ1_indexOfChar_4cfef 0 = .ok (.iload_n 1, 1) := by decide +kernel
theorem dJ1_indexOfChar_4cfef_1 : decode cJ1_indexOfChar_4cfef 1 = .ok (.i2b, 1) := by decide +kernel
theorem dJ1_indexOfChar_4cfef_2 : decode cJ1_indexOfChar_4cfef 2 = .ok (.istore 4, 2) := by decide +kernel
theorem dJ1_indexOfChar_4cfef_4 : decode cJ1_indexOfChar_4cfef 4 = .ok (.iload_n 2, 1) := by decide +kernel
theorem dJ1_indexOfChar_4cfef_5 : decode cJ1_indexOfChar_4cfef 5 = .ok (.istore 5, 2) := by decide +kernel
theorem dJ1_indexOfChar_4cfef_7 : decode cJ1_indexOfChar_4cfef 7 = .ok (.iload 5, 2) := by decide +kernel
theorem dJ1_indexOfChar_4cfef_9 : decode cJ1_indexOfChar_4cfef 9 = .ok (.iload_n 3, 1) := by decide +kernel
theorem dJ1_indexOfChar_4cfef_10 : decode cJ1_indexOfChar_4cfef 10 = .ok (.if_icmp .ge 21, 3) := by decide +kernel
theorem dJ1_indexOfChar_4cfef_13 : decode cJ1_indexOfChar_4cfef 13 = .ok (.aload_n 0, 1) := by decide +kernel
theorem dJ1_indexOfChar_4cfef_14 : decode cJ1_indexOfChar_4cfef 14 = .ok (.iload 5, 2) := by decide +kernel
theorem dJ1_indexOfChar_4cfef_16 : decode cJ1_indexOfChar_4cfef 16 = .ok (.baload, 1) := by decide +kernel
theorem dJ1_indexOfChar_4cfef_17 : decode cJ1_indexOfChar_4cfef 17 = .ok (.iload 4, 2) := by decide +kernel
theorem dJ1_indexOfChar_4cfef_19 : decode cJ1_indexOfChar_4cfef 19 = .ok (.if_icmp .ne 6, 3) := by decide +kernel
theorem dJ1_indexOfChar_4cfef_22 : decode cJ1_indexOfChar_4cfef 22 = .ok (.iload 5, 2) := by decide +kernel
theorem dJ1_indexOfChar_4cfef_24 : decode cJ1_indexOfChar_4cfef 24 = .ok (.ireturn, 1) := by decide +kernel
theorem dJ1_indexOfChar_4cfef_25 : decode cJ1_indexOfChar_4cfef 25 = .ok (.iinc 5 1, 3) := by decide +kernel
theorem dJ1_indexOfChar_4cfef_28 : decode cJ1_indexOfChar_4cfef 28 = .ok (.goto (-21), 3) := by decide +kernel
theorem dJ1_indexOfChar_4cfef_31 : decode cJ1_indexOfChar_4cfef 31 = .ok (.iconst (-1), 1) := by decide +kernel
theorem dJ1_indexOfChar_4cfef_32 : decode cJ1_indexOfChar_4cfef 32 = .ok (.ireturn, 1) := by decide +kernel
theorem dJ2_getChar_3b067_0 : decode cJ2_getChar_3b067 0 = .ok (.getstatic 44, 3) := by decide +kernel
theorem dJ2_getChar_3b067_3 : decode cJ2_getChar_3b067 3 = .ok (.ifCond .ne 25, 3) := by decide +kernel
theorem dJ2_getChar_3b067_6 : decode cJ2_getChar_3b067 6 = .ok (.iload_n 1, 1) := by decide +kernel
theorem dJ2_getChar_3b067_7 : decode cJ2_getChar_3b067 7 = .ok (.ifCond .lt 11, 3) := by decide +kernel
theorem dJ2_getChar_3b067_10 : decode cJ2_getChar_3b067 10 = .ok (.iload_n 1, 1) := by decide +kernel
theorem dJ2_getChar_3b067_11 : decode cJ2_getChar_3b067 11 = .ok (.aload_n 0, 1) := by decide +kernel
theorem dJ2_getChar_3b067_12 : decode cJ2_getChar_3b067 12 = .ok (.invokestatic 48, 3) := by decide +kernel
theorem dJ2_getChar_3b067_15 : decode cJ2_getChar_3b067 15 = .ok (.if_icmp .lt 13, 3) := by decide +kernel
theorem dJ2_getChar_3b067_18 : decode cJ2_getChar_3b067 18 = .ok (.new 52, 3) := by decide +kernel
theorem dJ2_getChar_3b067_21 : decode cJ2_getChar_3b067 21 = .ok (.dup, 1) := by decide +kernel
theorem dJ2_getChar_3b067_22 : decode cJ2_getChar_3b067 22 = .ok (.ldc 54, 2) := by decide +kernel
theorem dJ2_getChar_3b067_24 : decode cJ2_getChar_3b067 24 = .ok (.invokespecial 56, 3) := by decide +kernel
theorem dJ2_getChar_3b067_27 : decode cJ2_getChar_3b067 27 = .ok (.athrow, 1) := by decide +kernel
theorem dJ2_getChar_3b067_28 : decode cJ2_getChar_3b067 28 = .ok (.iload_n 1, 1) := by decide +kernel
theorem dJ2_getChar_3b067_29 : decode cJ2_getChar_3b067 29 = .ok (.iconst 1, 1) := by decide +kernel
theorem dJ2_getChar_3b067_30 : decode cJ2_getChar_3b067 30 = .ok (.ishl, 1) := by decide +kernel
theorem dJ2_getChar_3b067_31 : decode cJ2_getChar_3b067 31 = .ok (.istore_n 1, 1) := by decide +kernel
theorem dJ2_getChar_3b067_32 : decode cJ2_getChar_3b067 32 = .ok (.aload_n 0, 1) := by decide +kernel
theorem dJ2_getChar_3b067_33 : decode cJ2_getChar_3b067 33 = .ok (.iload_n 1, 1) := by decide +kernel
theorem dJ2_getChar_3b067_34 : decode cJ2_getChar_3b067 34 = .ok (.iinc 1 1, 3) := by decide +kernel
theorem dJ2_getChar_3b067_37 : decode cJ2_getChar_3b067 37 = .ok (.baload, 1) := by decide +kernel
theorem dJ2_getChar_3b067_38 : decode cJ2_getChar_3b067 38 = .ok (.sipush 255, 3) := by decide +kernel
theorem dJ2_getChar_3b067_41 : decode cJ2_getChar_3b067 41 = .ok (.iand, 1) := by decide +kernel
theorem dJ2_getChar_3b067_42 : decode cJ2_getChar_3b067 42 = .ok (.getstatic 59, 3) := by decide +kernel
theorem dJ2_getChar_3b067_45 : decode cJ2_getChar_3b067 45 = .ok (.ishl, 1) := by decide +kernel
theorem dJ2_getChar_3b067_46 : decode cJ2_getChar_3b067 46 = .ok (.aload_n 0, 1) := by decide +kernel
theorem dJ2_getChar_3b067_47 : decode cJ2_getChar_3b067 47 = .ok (.iload_n 1, 1) := by decide +kernel
theorem dJ2_getChar_3b067_48 : decode cJ2_getChar_3b067 48 = .ok (.baload, 1) := by decide +kernel
theorem dJ2_getChar_3b067_49 : decode cJ2_getChar_3b067 49 = .ok (.sipush 255, 3) := by decide +kernel
theorem dJ2_getChar_3b067_52 : decode cJ2_getChar_3b067 52 = .ok (.iand, 1) := by decide +kernel
theorem dJ2_getChar_3b067_53 : decode cJ2_getChar_3b067 53 = .ok (.getstatic 63, 3) := by decide +kernel
theorem dJ2_getChar_3b067_56 : decode cJ2_getChar_3b067 56 = .ok (.ishl, 1) := by decide +kernel
theorem dJ2_getChar_3b067_57 : decode cJ2_getChar_3b067 57 = .ok (.ior, 1) := by decide +kernel
theorem dJ2_getChar_3b067_58 : decode cJ2_getChar_3b067 58 = .ok (.i2c, 1) := by decide +kernel
theorem dJ2_getChar_3b067_59 : decode cJ2_getChar_3b067 59 = .ok (.ireturn, 1) := by decide +kernel
theorem dJ2_length_9d52b_0 : decode cJ2_length_9d52b 0 = .ok (.aload_n 0, 1) := by decide +kernel
theorem dJ2_length_9d52b_1 : decode cJ2_length_9d52b 1 = .ok (.arraylength, 1) := by decide +kernel
theorem dJ2_length_9d52b_2 : decode cJ2_length_9d52b 2 = .ok (.iconst 1, 1) := by decide +kernel
theorem dJ2_length_9d52b_3 : decode cJ2_length_9d52b 3 = .ok (.ishr, 1) := by decide +kernel
theorem dJ2_length_9d52b_4 : decode cJ2_length_9d52b 4 = .ok (.ireturn, 1) := by decide +kernel
theorem dJ2_indexOf_4cfef_0 : decode cJ2_indexOf_4cfef 0 = .ok (.iload_n 2, 1) := by decide +kernel
theorem dJ2_indexOf_4cfef_1 : decode cJ2_indexOf_4cfef 1 = .ok (.iconst 0, 1) := by decide +kernel
theorem dJ2_indexOf_4cfef_2 : decode cJ2_indexOf_4cfef 2 = .ok (.invokestatic 224, 3) := by decide +kernel
theorem dJ2_indexOf_4cfef_5 : decode cJ2_indexOf_4cfef 5 = .ok (.istore_n 2, 1) := by decide +kernel
theorem dJ2_indexOf_4cfef_6 : decode cJ2_indexOf_4cfef 6 = .ok (.iload_n 3, 1) := by decide +kernel
theorem dJ2_indexOf_4cfef_7 : decode cJ2_indexOf_4cfef 7 = .ok (.aload_n 0, 1) := by decide +kernel
theorem dJ2_indexOf_4cfef_8 : decode cJ2_indexOf_4cfef 8 = .ok (.arraylength, 1) := by decide +kernel
theorem dJ2_indexOf_4cfef_9 : decode cJ2_indexOf_4cfef 9 = .ok (.iconst 1, 1) := by decide +kernel
theorem dJ2_indexOf_4cfef_10 : decode cJ2_indexOf_4cfef 10 = .ok (.ishr, 1) := by decide +kernel
theorem dJ2_indexOf_4cfef_11 : decode cJ2_indexOf_4cfef 11 = .ok (.invokestatic 183, 3) := by decide +kernel
theorem dJ2_indexOf_4cfef_14 : decode cJ2_indexOf_4cfef 14 = .ok (.istore_n 3, 1) := by decide +kernel
theorem dJ2_indexOf_4cfef_15 : decode cJ2_indexOf_4cfef 15 = .ok (.iload_n 2, 1) := by decide +kernel
theorem dJ2_indexOf_4cfef_16 : decode cJ2_indexOf_4cfef 16 = .ok (.iload_n 3, 1) := by decide +kernel
theorem dJ2_indexOf_4cfef_17 : decode cJ2_indexOf_4cfef 17 = .ok (.if_icmp .lt 5, 3) := by decide +kernel
theorem dJ2_indexOf_4cfef_20 : decode cJ2_indexOf_4cfef 20 = .ok (.iconst (-1), 1) := by decide +kernel
theorem dJ2_indexOf_4cfef_21 : decode cJ2_indexOf_4cfef 21 = .ok (.ireturn, 1) := by decide +kernel
theorem dJ2_indexOf_4cfef_22 : decode cJ2_indexOf_4cfef 22 = .ok (.iload_n 1, 1) := by decide +kernel
theorem dJ2_indexOf_4cfef_23 : decode cJ2_indexOf_4cfef 23 = .ok (.ldc 227, 2) := by decide +kernel
theorem dJ2_indexOf_4cfef_25 : decode cJ2_indexOf_4cfef 25 = .ok (.if_icmp .ge 11, 3) := by decide +kernel
theorem dJ2_indexOf_4cfef_28 : decode cJ2_indexOf_4cfef 28 = .ok (.aload_n 0, 1) := by decide +kernel
theorem dJ2_indexOf_4cfef_29 : decode cJ2_indexOf_4cfef 29 = .ok (.iload_n 1, 1) := by decide +kernel
theorem dJ2_indexOf_4cfef_30 : decode cJ2_indexOf_4cfef 30 = .ok (.iload_n 2, 1) := by decide +kernel
theorem dJ2_indexOf_4cfef_31 : decode cJ2_indexOf_4cfef 31 = .ok (.iload_n 3, 1) := by decide +kernel
theorem dJ2_indexOf_4cfef_32 : decode cJ2_indexOf_4cfef 32 = .ok (.invokestatic 228, 3) := by decide +kernel
theorem dJ2_indexOf_4cfef_35 : decode cJ2_indexOf_4cfef 35 = .ok (.ireturn, 1) := by decide +kernel
theorem dJ2_indexOf_4cfef_36 : decode cJ2_indexOf_4cfef 36 = .ok (.aload_n 0, 1) := by decide +kernel
theorem dJ2_indexOf_4cfef_37 : decode cJ2_indexOf_4cfef 37 = .ok (.iload_n 1, 1) := by decide +kernel
theorem dJ2_indexOf_4cfef_38 : decode cJ2_indexOf_4cfef 38 = .ok (.iload_n 2, 1) := by decide +kernel
theorem dJ2_indexOf_4cfef_39 : decode cJ2_indexOf_4cfef 39 = .ok (.iload_n 3, 1) := by decide +kernel
theorem dJ2_indexOf_4cfef_40 : decode cJ2_indexOf_4cfef 40 = .ok (.invokestatic 232, 3) := by decide +kernel
theorem dJ2_indexOf_4cfef_43 : decode cJ2_indexOf_4cfef 43 = .ok (.ireturn, 1) := by decide +kernel
theorem dJ2_indexOfChar_4cfef_0 : decode cJ2_indexOfChar_4cfef 0 = .ok (.iload_n 2, 1) := by decide +kernel
theorem dJ2_indexOfChar_4cfef_1 : decode cJ2_indexOfChar_4cfef 1 = .ok (.iload_n 3, 1) := by decide +kernel
theorem dJ2_indexOfChar_4cfef_2 : decode cJ2_indexOfChar_4cfef 2 = .ok (.aload_n 0, 1) := by decide +kernel
theorem dJ2_indexOfChar_4cfef_3 : decode cJ2_indexOfChar_4cfef 3 = .ok (.invokestatic 96, 3) := by decide +kernel
theorem dJ2_indexOfChar_4cfef_6 : decode cJ2_indexOfChar_4cfef 6 = .ok (.aload_n 0, 1) := by decide +kernel
theorem dJ2_indexOfChar_4cfef_7 : decode cJ2_indexOfChar_4cfef 7 = .ok (.iload_n 1, 1) := by decide +kernel
theorem dJ2_indexOfChar_4cfef_8 : decode cJ2_indexOfChar_4cfef 8 = .ok (.iload_n 2, 1) := by decide +kernel
theorem dJ2_indexOfChar_4cfef_9 : decode cJ2_indexOfChar_4cfef 9 = .ok (.iload_n 3, 1) := by decide +kernel
theorem dJ2_indexOfChar_4cfef_10 : decode cJ2_indexOfChar_4cfef 10 = .ok (.invokestatic 244, 3) := by decide +kernel
theorem dJ2_indexOfChar_4cfef_13 : decode cJ2_indexOfChar_4cfef 13 = .ok (.ireturn, 1) := by decide +kernel
theorem dJ2_indexOfCharUnsafe_4cfef_0 : decode cJ2_indexOfCharUnsafe_4cfef 0 = .ok (.iload_n 2, 1) := by decide +kernel
theorem dJ2_indexOfCharUnsafe_4cfef_1 : decode cJ2_indexOfCharUnsafe_4cfef 1 = .ok (.istore 4, 2) := by decide +kernel
theorem dJ2_indexOfCharUnsafe_4cfef_3 : decode cJ2_indexOfCharUnsafe_4cfef 3 = .ok (.iload 4, 2) := by decide +kernel
theorem dJ2_indexOfCharUnsafe_4cfef_5 : decode cJ2_indexOfCharUnsafe_4cfef 5 = .ok (.iload_n 3, 1) := by decide +kernel
theorem dJ2_indexOfCharUnsafe_4cfef_6 : decode cJ2_indexOfCharUnsafe_4cfef 6 = .ok (.if_icmp .ge 22, 3) := by decide +kernel
theorem dJ2_indexOfCharUnsafe_4cfef_9 : decode cJ2_indexOfCharUnsafe_4cfef 9 = .ok (.aload_n 0, 1) := by decide +kernel
theorem dJ2_indexOfCharUnsafe_4cfef_10 : decode cJ2_indexOfCharUnsafe_4cfef 10 = .ok (.iload 4, 2) := by decide +kernel
theorem dJ2_indexOfCharUnsafe_4cfef_12 : decode cJ2_indexOfCharUnsafe_4cfef 12 = .ok (.invokestatic 71, 3) := by decide +kernel
theorem dJ2_indexOfCharUnsafe_4cfef_15 : decode cJ2_indexOfCharUnsafe_4cfef 15 = .ok (.iload_n 1, 1) := by decide +kernel
theorem dJ2_indexOfCharUnsafe_4cfef_16 : decode cJ2_indexOfCharUnsafe_4cfef 16 = .ok (.if_icmp .ne 6, 3) := by decide +kernel
theorem dJ2_indexOfCharUnsafe_4cfef_19 : decode cJ2_indexOfCharUnsafe_4cfef 19 = .ok (.iload 4, 2) := by decide +kernel
theorem dJ2_indexOfCharUnsafe_4cfef_21 : decode cJ2_indexOfCharUnsafe_4cfef 21 = .ok (.ireturn, 1) := by decide +kernel
theorem dJ2_indexOfCharUnsafe_4cfef_22 : decode cJ2_indexOfCharUnsafe_4cfef 22 = .ok (.iinc 4 1, 3) := by decide +kernel
theorem dJ2_indexOfCharUnsafe_4cfef_25 : decode cJ2_indexOfCharUnsafe_4cfef 25 = .ok (.goto (-22), 3) := by decide +kernel
theorem dJ2_indexOfCharUnsafe_4cfef_28 : decode cJ2_indexOfCharUnsafe_4cfef 28 = .ok (.iconst (-1), 1) := by decide +kernel
theorem dJ2_indexOfCharUnsafe_4cfef_29 : decode cJ2_indexOfCharUnsafe_4cfef 29 = .ok (.ireturn, 1) := by decide +kernel
theorem dJ2_indexOfSupplementary_4cfef_0 : decode cJ2_indexOfSupplementary_4cfef 0 = .ok (.iload_n 1, 1) := by decide +kernel
theorem dJ2_indexOfSupplementary_4cfef_1 : decode cJ2_indexOfSupplementary_4cfef 1 = .ok (.invokestatic 164, 3) := by decide +kernel
theorem dJ2_indexOfSupplementary_4cfef_4 : decode cJ2_indexOfSupplementary_4cfef 4 = .ok (.ifCond .eq 65, 3) := by decide +kernel
theorem dJ2_indexOfSupplementary_4cfef_7 : decode cJ2_indexOfSupplementary_4cfef 7 = .ok (.iload_n 1, 1) := by decide +kernel
theorem dJ2_indexOfSupplementary_4cfef_8 : decode cJ2_indexOfSupplementary_4cfef 8 = .ok (.invokestatic 157, 3) := by decide +kernel
theorem dJ2_indexOfSupplementary_4cfef_11 : decode cJ2_indexOfSupplementary_4cfef 11 = .ok (.istore 4, 2) := by decide +kernel
theorem dJ2_indexOfSupplementary_4cfef_13 : decode cJ2_indexOfSupplementary_4cfef 13 = .ok (.iload_n 1, 1) := by decide +kernel
theorem dJ2_indexOfSupplementary_4cfef_14 : decode cJ2_indexOfSupplementary_4cfef 14 = .ok (.invokestatic 161, 3) := by decide +kernel
theorem dJ2_indexOfSupplementary_4cfef_17 : decode cJ2_indexOfSupplementary_4cfef 17 = .ok (.istore 5, 2) := by decide +kernel
theorem dJ2_indexOfSupplementary_4cfef_19 : decode cJ2_indexOfSupplementary_4cfef 19 = .ok (.iload_n 2, 1) := by decide +kernel
theorem dJ2_indexOfSupplementary_4cfef_20 : decode cJ2_indexOfSupplementary_4cfef 20 = .ok (.iload_n 3, 1) := by decide +kernel
theorem dJ2_indexOfSupplementary_4cfef_21 : decode cJ2_indexOfSupplementary_4cfef 21 = .ok (.aload_n 0, 1) := by decide +kernel
theorem dJ2_indexOfSupplementary_4cfef_22 : decode cJ2_indexOfSupplementary_4cfef 22 = .ok (.invokestatic 96, 3) := by decide +kernel
theorem dJ2_indexOfSupplementary_4cfef_25 : decode cJ2_indexOfSupplementary_4cfef 25 = .ok (.iload_n 2, 1) := by decide +kernel
theorem dJ2_indexOfSupplementary_4cfef_26 : decode cJ2_indexOfSupplementary_4cfef 26 = .ok (.istore 6, 2) := by decide +kernel
theorem dJ2_indexOfSupplementary_4cfef_28 : decode cJ2_indexOfSupplementary_4cfef 28 = .ok (.iload 6, 2) := by decide +kernel
theorem dJ2_indexOfSupplementary_4cfef_30 : decode cJ2_indexOfSupplementary_4cfef 30 = .ok (.iload_n 3, 1) := by decide +kernel
theorem dJ2_indexOfSupplementary_4cfef_31 : decode cJ2_indexOfSupplementary_4cfef 31 = .ok (.iconst 1, 1) := by decide +kernel
theorem dJ2_indexOfSupplementary_4cfef_32 : decode cJ2_indexOfSupplementary_4cfef 32 = .ok (.isub, 1) := by decide +kernel
theorem dJ2_indexOfSupplementary_4cfef_33 : decode cJ2_indexOfSupplementary_4cfef 33 = .ok (.if_icmp .ge 36, 3) := by decide +kernel
theorem dJ2_indexOfSupplementary_4cfef_36 : decode cJ2_indexOfSupplementary_4cfef 36 = .ok (.aload_n 0, 1) := by decide +kernel
theorem dJ2_indexOfSupplementary_4cfef_37 : decode cJ2_indexOfSupplementary_4cfef 37 = .ok (.iload 6, 2) := by decide +kernel
theorem dJ2_indexOfSupplementary_4cfef_39 : decode cJ2_indexOfSupplementary_4cfef 39 = .ok (.invokestatic 71, 3) := by decide +kernel
theorem dJ2_indexOfSupplementary_4cfef_42 : decode cJ2_indexOfSupplementary_4cfef 42 = .ok (.iload 4, 2) := by decide +kernel
theorem dJ2_indexOfSupplementary_4cfef_44 : decode cJ2_indexOfSupplementary_4cfef 44 = .ok (.if_icmp .ne 19, 3) := by decide +kernel
theorem dJ2_indexOfSupplementary_4cfef_47 : decode cJ2_indexOfSupplementary_4cfef 47 = .ok (.aload_n 0, 1) := by decide +kernel
theorem dJ2_indexOfSupplementary_4cfef_48 : decode cJ2_indexOfSupplementary_4cfef 48 = .ok (.iload 6, 2) := by decide +kernel
theorem dJ2_indexOfSupplementary_4cfef_50 : decode cJ2_indexOfSupplementary_4cfef 50 = .ok (.iconst 1, 1) := by decide +kernel
theorem dJ2_indexOfSupplementary_4cfef_51 : decode cJ2_indexOfSupplementary_4cfef 51 = .ok (.iadd, 1) := by decide +kernel
theorem dJ2_indexOfSupplementary_4cfef_52 : decode cJ2_indexOfSupplementary_4cfef 52 = .ok (.invokestatic 71, 3) := by decide +kernel
theorem dJ2_indexOfSupplementary_4cfef_55 : decode cJ2_indexOfSupplementary_4cfef 55 = .ok (.iload 5, 2) := by decide +kernel
theorem dJ2_indexOfSupplementary_4cfef_57 : decode cJ2_indexOfSupplementary_4cfef 57 = .ok (.if_icmp .ne 6, 3) := by decide +kernel
theorem dJ2_indexOfSupplementary_4cfef_60 : decode cJ2_indexOfSupplementary_4cfef 60 = .ok (.iload 6, 2) := by decide +kernel
theorem dJ2_indexOfSupplementary_4cfef_62 : decode cJ2_indexOfSupplementary_4cfef 62 = .ok (.ireturn, 1) := by decide +kernel
theorem dJ2_indexOfSupplementary_4cfef_63 : decode cJ2_indexOfSupplementary_4cfef 63 = .ok (.iinc 6 1, 3) := by decide +kernel
theorem dJ2_indexOfSupplementary_4cfef_66 : decode cJ2_indexOfSupplementary_4cfef 66 = .ok (.goto (-38), 3) := by decide +kernel
theorem dJ2_indexOfSupplementary_4cfef_69 : decode cJ2_indexOfSupplementary_4cfef 69 = .ok (.iconst (-1), 1) := by decide +kernel
theorem dJ2_indexOfSupplementary_4cfef_70 : decode cJ2_indexOfSupplementary_4cfef 70 = .ok (.ireturn, 1) := by decide +kernel
theorem dJ2_checkBoundsBeginEnd_d044e_0 : decode cJ2_checkBoundsBeginEnd_d044e 0 = .ok (.iload_n 0, 1) := by decide +kernel
theorem dJ2_checkBoundsBeginEnd_d044e_1 : decode cJ2_checkBoundsBeginEnd_d044e 1 = .ok (.iload_n 1, 1) := by decide +kernel
theorem dJ2_checkBoundsBeginEnd_d044e_2 : decode cJ2_checkBoundsBeginEnd_d044e 2 = .ok (.aload_n 2, 1) := by decide +kernel
theorem dJ2_checkBoundsBeginEnd_d044e_3 : decode cJ2_checkBoundsBeginEnd_d044e 3 = .ok (.invokestatic 48, 3) := by decide +kernel
theorem dJ2_checkBoundsBeginEnd_d044e_6 : decode cJ2_checkBoundsBeginEnd_d044e 6 = .ok (.invokestatic 241, 3) := by decide +kernel
theorem dJ2_checkBoundsBeginEnd_d044e_9 : decode cJ2_checkBoundsBeginEnd_d044e 9 = .ok (.return_, 1) := by decide +kernel
theorem dJ3_checkFromToIndex_8c36e_0 : decode cJ3_checkFromToIndex_8c36e 0 = .ok (.iload_n 0, 1) := by decide +kernel
theorem dJ3_checkFromToIndex_8c36e_1 : decode cJ3_checkFromToIndex_8c36e 1 = .ok (.ifCond .lt 13, 3) := by decide +kernel
theorem dJ3_checkFromToIndex_8c36e_4 : decode cJ3_checkFromToIndex_8c36e 4 = .ok (.iload_n 0, 1) := by decide +kernel
theorem dJ3_checkFromToIndex_8c36e_5 : decode cJ3_checkFromToIndex_8c36e 5 = .ok (.iload_n 1, 1) := by decide +kernel
theorem dJ3_checkFromToIndex_8c36e_6 : decode cJ3_checkFromToIndex_8c36e 6 = .ok (.if_icmp .gt 8, 3) := by decide +kernel
theorem dJ3_checkFromToIndex_8c36e_9 : decode cJ3_checkFromToIndex_8c36e 9 = .ok (.iload_n 1, 1) := by decide +kernel
theorem dJ3_checkFromToIndex_8c36e_10 : decode cJ3_checkFromToIndex_8c36e 10 = .ok (.iload_n 2, 1) := by decide +kernel
theorem dJ3_checkFromToIndex_8c36e_11 : decode cJ3_checkFromToIndex_8c36e 11 = .ok (.if_icmp .le 11, 3) := by decide +kernel
theorem dJ3_checkFromToIndex_8c36e_14 : decode cJ3_checkFromToIndex_8c36e 14 = .ok (.aload_n 3, 1) := by decide +kernel
theorem dJ3_checkFromToIndex_8c36e_15 : decode cJ3_checkFromToIndex_8c36e 15 = .ok (.iload_n 0, 1) := by decide +kernel
theorem dJ3_checkFromToIndex_8c36e_16 : decode cJ3_checkFromToIndex_8c36e 16 = .ok (.iload_n 1, 1) := by decide +kernel
theorem dJ3_checkFromToIndex_8c36e_17 : decode cJ3_checkFromToIndex_8c36e 17 = .ok (.iload_n 2, 1) := by decide +kernel
theorem dJ3_checkFromToIndex_8c36e_18 : decode cJ3_checkFromToIndex_8c36e 18 = .ok (.invokestatic 99, 3) := by decide +kernel
theorem dJ3_checkFromToIndex_8c36e_21 : decode cJ3_checkFromToIndex_8c36e 21 = .ok (.athrow, 1) := by decide +kernel
theorem dJ3_checkFromToIndex_8c36e_22 : decode cJ3_checkFromToIndex_8c36e 22 = .ok (.iload_n 0, 1) := by decide +kernel
theorem dJ3_checkFromToIndex_8c36e_23 : decode cJ3_checkFromToIndex_8c36e 23 = .ok (.ireturn, 1) := by decide +kernel
theorem dL_law_0 : decode cL_law 0 = .ok (.new 7, 3) := by decide +kernel
theorem dL_law_3 : decode cL_law 3 = .ok (.dup, 1) := by decide +kernel
theorem dL_law_4 : decode cL_law 4 = .ok (.invokespecial 9, 3) := by decide +kernel
theorem dL_law_7 : decode cL_law 7 = .ok (.astore_n 1, 1) := by decide +kernel
theorem dL_law_8 : decode cL_law 8 = .ok (.new 10, 3) := by decide +kernel
theorem dL_law_11 : decode cL_law 11 = .ok (.dup, 1) := by decide +kernel
theorem dL_law_12 : decode cL_law 12 = .ok (.invokespecial 12, 3) := by decide +kernel
theorem dL_law_15 : decode cL_law 15 = .ok (.astore_n 2, 1) := by decide +kernel
theorem dL_law_16 : decode cL_law 16 = .ok (.iconst 0, 1) := by decide +kernel
theorem dL_law_17 : decode cL_law 17 = .ok (.istore_n 3, 1) := by decide +kernel
theorem dL_law_18 : decode cL_law 18 = .ok (.iload_n 3, 1) := by decide +kernel
theorem dL_law_19 : decode cL_law 19 = .ok (.aload_n 0, 1) := by decide +kernel
theorem dL_law_20 : decode cL_law 20 = .ok (.arraylength, 1) := by decide +kernel
theorem dL_law_21 : decode cL_law 21 = .ok (.bipush 6, 2) := by decide +kernel
theorem dL_law_23 : decode cL_law 23 = .ok (.isub, 1) := by decide +kernel
theorem dL_law_24 : decode cL_law 24 = .ok (.if_icmp .gt 1380, 3) := by decide +kernel
theorem dL_law_27 : decode cL_law 27 = .ok (.aload_n 0, 1) := by decide +kernel
theorem dL_law_28 : decode cL_law 28 = .ok (.iload_n 3, 1) := by decide +kernel
theorem dL_law_29 : decode cL_law 29 = .ok (.iaload, 1) := by decide +kernel
theorem dL_law_30 : decode cL_law 30 = .ok (.bipush 63, 2) := by decide +kernel
theorem dL_law_32 : decode cL_law 32 = .ok (.iand, 1) := by decide +kernel
theorem dL_law_33 : decode cL_law 33 = .ok (.tableswitch 1365 0 39 #[175, 198, 231, 264, 297, 340, 373, 406, 439, 462, 485, 518, 581, 604, 627, 680, 703, 726, 749, 772, 805, 828, 841, 874, 917, 940, 973, 996, 1039, 1062, 1105, 1148, 1211, 1234, 1257, 1270, 1283, 1306, 1319, 1342], 175) := by decide +kernel
theorem dL_law_208 : decode cL_law 208 = .ok (.aload_n 1, 1) := by decide +kernel
theorem dL_law_209 : decode cL_law 209 = .ok (.aload_n 0, 1) := by decide +kernel
theorem dL_law_210 : decode cL_law 210 = .ok (.iload_n 3, 1) := by decide +kernel
theorem dL_law_211 : decode cL_law 211 = .ok (.iconst 1, 1) := by decide +kernel
theorem dL_law_212 : decode cL_law 212 = .ok (.iadd, 1) := by decide +kernel
theorem dL_law_213 : decode cL_law 213 = .ok (.iaload, 1) := by decide +kernel
theorem dL_law_214 : decode cL_law 214 = .ok (.invokevirtual 13, 3) := by decide +kernel
theorem dL_law_217 : decode cL_law 217 = .ok (.aload_n 2, 1) := by decide +kernel
theorem dL_law_218 : decode cL_law 218 = .ok (.aload_n 0, 1) := by decide +kernel
theorem dL_law_219 : decode cL_law 219 = .ok (.iload_n 3, 1) := by decide +kernel
theorem dL_law_220 : decode cL_law 220 = .ok (.iconst 1, 1) := by decide +kernel
theorem dL_law_221 : decode cL_law 221 = .ok (.iadd, 1) := by decide +kernel
theorem dL_law_222 : decode cL_law 222 = .ok (.iaload, 1) := by decide +kernel
theorem dL_law_223 : decode cL_law 223 = .ok (.invokevirtual 17, 3) := by decide +kernel
theorem dL_law_226 : decode cL_law 226 = .ok (.if_icmp .eq 1172, 3) := by decide +kernel
theorem dL_law_229 : decode cL_law 229 = .ok (.iconst 0, 1) := by decide +kernel
theorem dL_law_230 : decode cL_law 230 = .ok (.ireturn, 1) := by decide +kernel
theorem dL_law_231 : decode cL_law 231 = .ok (.aload_n 1, 1) := by decide +kernel
theorem dL_law_232 : decode cL_law 232 = .ok (.aload_n 0, 1) := by decide +kernel
theorem dL_law_233 : decode cL_law 233 = .ok (.iload_n 3, 1) := by decide +kernel
theorem dL_law_234 : decode cL_law 234 = .ok (.iconst 1, 1) := by decide +kernel
theorem dL_law_235 : decode cL_law 235 = .ok (.iadd, 1) := by decide +kernel
theorem dL_law_236 : decode cL_law 236 = .ok (.iaload, 1) := by decide +kernel
theorem dL_law_237 : decode cL_law 237 = .ok (.aload_n 0, 1) := by decide +kernel
theorem dL_law_238 : decode cL_law 238 = .ok (.iload_n 3, 1) := by decide +kernel
theorem dL_law_239 : decode cL_law 239 = .ok (.iconst 2, 1) := by decide +kernel
theorem dL_law_240 : decode cL_law 240 = .ok (.iadd, 1) := by decide +kernel
theorem dL_law_241 : decode cL_law 241 = .ok (.iaload, 1) := by decide +kernel
theorem dL_law_242 : decode cL_law 242 = .ok (.invokevirtual 18, 3) := by decide +kernel
theorem dL_law_245 : decode cL_law 245 = .ok (.aload_n 2, 1) := by decide +kernel
theorem dL_law_246 : decode cL_law 246 = .ok (.aload_n 0, 1) := by decide +kernel
theorem dL_law_247 : decode cL_law 247 = .ok (.iload_n 3, 1) := by decide +kernel
theorem dL_law_248 : decode cL_law 248 = .ok (.iconst 1, 1) := by decide +kernel
theorem dL_law_249 : decode cL_law 249 = .ok (.iadd, 1) := by decide +kernel
theorem dL_law_250 : decode cL_law 250 = .ok (.iaload, 1) := by decide +kernel
theorem dL_law_251 : decode cL_law 251 = .ok (.aload_n 0, 1) := by decide +kernel
theorem dL_law_252 : decode cL_law 252 = .ok (.iload_n 3, 1) := by decide +kernel
theorem dL_law_253 : decode cL_law 253 = .ok (.iconst 2, 1) := by decide +kernel
theorem dL_law_254 : decode cL_law 254 = .ok (.iadd, 1) := by decide +kernel
theorem dL_law_255 : decode cL_law 255 = .ok (.iaload, 1) := by decide +kernel
theorem dL_law_256 : decode cL_law 256 = .ok (.invokevirtual 22, 3) := by decide +kernel
theorem dL_law_259 : decode cL_law 259 = .ok (.if_icmp .eq 1139, 3) := by decide +kernel
theorem dL_law_262 : decode cL_law 262 = .ok (.iconst 0, 1) := by decide +kernel
theorem dL_law_263 : decode cL_law 263 = .ok (.ireturn, 1) := by decide +kernel
theorem dL_law_264 : decode cL_law 264 = .ok (.aload_n 1, 1) := by decide +kernel
theorem dL_law_265 : decode cL_law 265 = .ok (.aload_n 0, 1) := by decide +kernel
theorem dL_law_266 : decode cL_law 266 = .ok (.iload_n 3, 1) := by decide +kernel
theorem dL_law_267 : decode cL_law 267 = .ok (.iconst 1, 1) := by decide +kernel
theorem dL_law_268 : decode cL_law 268 = .ok (.iadd, 1) := by decide +kernel
theorem dL_law_269 : decode cL_law 269 = .ok (.iaload, 1) := by decide +kernel
theorem dL_law_270 : decode cL_law 270 = .ok (.aload_n 0, 1) := by decide +kernel
theorem dL_law_271 : decode cL_law 271 = .ok (.iload_n 3, 1) := by decide +kernel
theorem dL_law_272 : decode cL_law 272 = .ok (.iconst 2, 1) := by decide +kernel
theorem dL_law_273 : decode cL_law 273 = .ok (.iadd, 1) := by decide +kernel
theorem dL_law_274 : decode cL_law 274 = .ok (.iaload, 1) := by decide +kernel
theorem dL_law_275 : decode cL_law 275 = .ok (.invokevirtual 23, 3) := by decide +kernel
theorem dL_law_278 : decode cL_law 278 = .ok (.aload_n 2, 1) := by decide +kernel
theorem dL_law_279 : decode cL_law 279 = .ok (.aload_n 0, 1) := by decide +kernel
theorem dL_law_280 : decode cL_law 280 = .ok (.iload_n 3, 1) := by decide +kernel
theorem dL_law_281 : decode cL_law 281 = .ok (.iconst 1, 1) := by decide +kernel
theorem dL_law_282 : decode cL_law 282 = .ok (.iadd, 1) := by decide +kernel
theorem dL_law_283 : decode cL_law 283 = .ok (.iaload, 1) := by decide +kernel
theorem dL_law_284 : decode cL_law 284 = .ok (.aload_n 0, 1) := by decide +kernel
theorem dL_law_285 : decode cL_law 285 = .ok (.iload_n 3, 1) := by decide +kernel
theorem dL_law_286 : decode cL_law 286 = .ok (.iconst 2, 1) := by decide +kernel
theorem dL_law_287 : decode cL_law 287 = .ok (.iadd, 1) := by decide +kernel
theorem dL_law_288 : decode cL_law 288 = .ok (.iaload, 1) := by decide +kernel
theorem dL_law_289 : decode cL_law 289 = .ok (.invokevirtual 26, 3) := by decide +kernel
theorem dL_law_292 : decode cL_law 292 = .ok (.if_icmp .eq 1106, 3) := by decide +kernel
theorem dL_law_295 : decode cL_law 295 = .ok (.iconst 0, 1) := by decide +kernel
theorem dL_law_296 : decode cL_law 296 = .ok (.ireturn, 1) := by decide +kernel
theorem dL_law_297 : decode cL_law 297 = .ok (.aload_n 1, 1) := by decide +kernel
theorem dL_law_298 : decode cL_law 298 = .ok (.aload_n 0, 1) := by decide +kernel
theorem dL_law_299 : decode cL_law 299 = .ok (.iload_n 3, 1) := by decide +kernel
theorem dL_law_300 : decode cL_law 300 = .ok (.iconst 1, 1) := by decide +kernel
theorem dL_law_301 : decode cL_law 301 = .ok (.iadd, 1) := by decide +kernel
theorem dL_law_302 : decode cL_law 302 = .ok (.iaload, 1) := by decide +kernel
theorem dL_law_303 : decode cL_law 303 = .ok (.aload_n 0, 1) := by decide +kernel
theorem dL_law_304 : decode cL_law 304 = .ok (.iload_n 3, 1) := by decide +kernel
theorem dL_law_305 : decode cL_law 305 = .ok (.iconst 2, 1) := by decide +kernel
theorem dL_law_306 : decode cL_law 306 = .ok (.iadd, 1) := by decide +kernel
theorem dL_law_307 : decode cL_law 307 = .ok (.iaload, 1) := by decide +kernel
theorem dL_law_308 : decode cL_law 308 = .ok (.invokevirtual 27, 3) := by decide +kernel
theorem dL_law_311 : decode cL_law 311 = .ok (.aload_n 2, 1) := by decide +kernel
theorem dL_law_312 : decode cL_law 312 = .ok (.aload_n 0, 1) := by decide +kernel
theorem dL_law_313 : decode cL_law 313 = .ok (.iload_n 3, 1) := by decide +kernel
theorem dL_law_314 : decode cL_law 314 = .ok (.iconst 1, 1) := by decide +kernel
theorem dL_law_315 : decode cL_law 315 = .ok (.iadd, 1) := by decide +kernel
theorem dL_law_316 : decode cL_law 316 = .ok (.iaload, 1) := by decide +kernel
theorem dL_law_317 : decode cL_law 317 = .ok (.aload_n 0, 1) := by decide +kernel
theorem dL_law_318 : decode cL_law 318 = .ok (.iload_n 3, 1) := by decide +kernel
theorem dL_law_319 : decode cL_law 319 = .ok (.iconst 2, 1) := by decide +kernel
theorem dL_law_320 : decode cL_law 320 = .ok (.iadd, 1) := by decide +kernel
theorem dL_law_321 : decode cL_law 321 = .ok (.iaload, 1) := by decide +kernel
theorem dL_law_322 : decode cL_law 322 = .ok (.invokevirtual 30, 3) := by decide +kernel
theorem dL_law_325 : decode cL_law 325 = .ok (.if_icmp .eq 1073, 3) := by decide +kernel
theorem dL_law_328 : decode cL_law 328 = .ok (.iconst 0, 1) := by decide +kernel
theorem dL_law_329 : decode cL_law 329 = .ok (.ireturn, 1) := by decide +kernel
theorem dL_law_330 : decode cL_law 330 = .ok (.aload_n 1, 1) := by decide +kernel
theorem dL_law_331 : decode cL_law 331 = .ok (.aload_n 0, 1) := by decide +kernel
theorem dL_law_332 : decode cL_law 332 = .ok (.iload_n 3, 1) := by decide +kernel
theorem dL_law_333 : decode cL_law 333 = .ok (.iconst 1, 1) := by decide +kernel
theorem dL_law_334 : decode cL_law 334 = .ok (.iadd, 1) := by decide +kernel
theorem dL_law_335 : decode cL_law 335 = .ok (.iaload, 1) := by decide +kernel
theorem dL_law_336 : decode cL_law 336 = .ok (.aload_n 0, 1) := by decide +kernel
theorem dL_law_337 : decode cL_law 337 = .ok (.iload_n 3, 1) := by decide +kernel
theorem dL_law_338 : decode cL_law 338 = .ok (.iconst 2, 1) := by decide +kernel
theorem dL_law_339 : decode cL_law 339 = .ok (.iadd, 1) := by decide +kernel
theorem dL_law_340 : decode cL_law 340 = .ok (.iaload, 1) := by decide +kernel
theorem dL_law_341 : decode cL_law 341 = .ok (.aload_n 0, 1) := by decide +kernel
theorem dL_law_342 : decode cL_law 342 = .ok (.iload_n 3, 1) := by decide +kernel
theorem dL_law_343 : decode cL_law 343 = .ok (.iconst 3, 1) := by decide +kernel
theorem dL_law_344 : decode cL_law 344 = .ok (.iadd, 1) := by decide +kernel
theorem dL_law_345 : decode cL_law 345 = .ok (.iaload, 1) := by decide +kernel
theorem dL_law_346 : decode cL_law 346 = .ok (.invokevirtual 31, 3) := by decide +kernel
theorem dL_law_349 : decode cL_law 349 = .ok (.aload_n 2, 1) := by decide +kernel
theorem dL_law_350 : decode cL_law 350 = .ok (.aload_n 0, 1) := by decide +kernel
theorem dL_law_351 : decode cL_law 351 = .ok (.iload_n 3, 1) := by decide +kernel
theorem dL_law_352 : decode cL_law 352 = .ok (.iconst 1, 1) := by decide +kernel
theorem dL_law_353 : decode cL_law 353 = .ok (.iadd, 1) := by decide +kernel
theorem dL_law_354 : decode cL_law 354 = .ok (.iaload, 1) := by decide +kernel
theorem dL_law_355 : decode cL_law 355 = .ok (.aload_n 0, 1) := by decide +kernel
theorem dL_law_356 : decode cL_law 356 = .ok (.iload_n 3, 1) := by decide +kernel
theorem dL_law_357 : decode cL_law 357 = .ok (.iconst 2, 1) := by decide +kernel
theorem dL_law_358 : decode cL_law 358 = .ok (.iadd, 1) := by decide +kernel
theorem dL_law_359 : decode cL_law 359 = .ok (.iaload, 1) := by decide +kernel
theorem dL_law_360 : decode cL_law 360 = .ok (.aload_n 0, 1) := by decide +kernel
theorem dL_law_361 : decode cL_law 361 = .ok (.iload_n 3, 1) := by decide +kernel
theorem dL_law_362 : decode cL_law 362 = .ok (.iconst 3, 1) := by decide +kernel
theorem dL_law_363 : decode cL_law 363 = .ok (.iadd, 1) := by decide +kernel
theorem dL_law_364 : decode cL_law 364 = .ok (.iaload, 1) := by decide +kernel
theorem dL_law_365 : decode cL_law 365 = .ok (.invokevirtual 35, 3) := by decide +kernel
theorem dL_law_368 : decode cL_law 368 = .ok (.if_icmp .eq 1030, 3) := by decide +kernel
theorem dL_law_371 : decode cL_law 371 = .ok (.iconst 0, 1) := by decide +kernel
theorem dL_law_372 : decode cL_law 372 = .ok (.ireturn, 1) := by decide +kernel
theorem dL_law_373 : decode cL_law 373 = .ok (.aload_n 1, 1) := by decide +kernel
theorem dL_law_374 : decode cL_law 374 = .ok (.aload_n 0, 1) := by decide +kernel
theorem dL_law_375 : decode cL_law 375 = .ok (.iload_n 3, 1) := by decide +kernel
theorem dL_law_376 : decode cL_law 376 = .ok (.iconst 1, 1) := by decide +kernel
theorem dL_law_377 : decode cL_law 377 = .ok (.iadd, 1) := by decide +kernel
theorem dL_law_378 : decode cL_law 378 = .ok (.iaload, 1) := by decide +kernel
theorem dL_law_379 : decode cL_law 379 = .ok (.aload_n 0, 1) := by decide +kernel
theorem dL_law_380 : decode cL_law 380 = .ok (.iload_n 3, 1) := by decide +kernel
theorem dL_law_381 : decode cL_law 381 = .ok (.iconst 2, 1) := by decide +kernel
theorem dL_law_382 : decode cL_law 382 = .ok (.iadd, 1) := by decide +kernel
theorem dL_law_383 : decode cL_law 383 = .ok (.iaload, 1) := by decide +kernel
theorem dL_law_384 : decode cL_law 384 = .ok (.invokevirtual 36, 3) := by decide +kernel
theorem dL_law_387 : decode cL_law 387 = .ok (.aload_n 2, 1) := by decide +kernel
theorem dL_law_388 : decode cL_law 388 = .ok (.aload_n 0, 1) := by decide +kernel
theorem dL_law_389 : decode cL_law 389 = .ok (.iload_n 3, 1) := by decide +kernel
theorem dL_law_390 : decode cL_law 390 = .ok (.iconst 1, 1) := by decide +kernel
theorem dL_law_391 : decode cL_law 391 = .ok (.iadd, 1) := by decide +kernel
theorem dL_law_392 : decode cL_law 392 = .ok (.iaload, 1) := by decide +kernel
theorem dL_law_393 : decode cL_law 393 = .ok (.aload_n 0, 1) := by decide +kernel
theorem dL_law_394 : decode cL_law 394 = .ok (.iload_n 3, 1) := by decide +kernel
theorem dL_law_395 : decode cL_law 395 = .ok (.iconst 2, 1) := by decide +kernel
theorem dL_law_396 : decode cL_law 396 = .ok (.iadd, 1) := by decide +kernel
theorem dL_law_397 : decode cL_law 397 = .ok (.iaload, 1) := by decide +kernel
theorem dL_law_398 : decode cL_law 398 = .ok (.invokevirtual 39, 3) := by decide +kernel
theorem dL_law_401 : decode cL_law 401 = .ok (.if_icmp .eq 997, 3) := by decide +kernel
theorem dL_law_404 : decode cL_law 404 = .ok (.iconst 0, 1) := by decide +kernel
theorem dL_law_405 : decode cL_law 405 = .ok (.ireturn, 1) := by decide +kernel
theorem dL_law_406 : decode cL_law 406 = .ok (.aload_n 1, 1) := by decide +kernel
theorem dL_law_407 : decode cL_law 407 = .ok (.aload_n 0, 1) := by decide +kernel
theorem dL_law_408 : decode cL_law 408 = .ok (.iload_n 3, 1) := by decide +kernel
theorem dL_law_409 : decode cL_law 409 = .ok (.iconst 1, 1) := by decide +kernel
theorem dL_law_410 : decode cL_law 410 = .ok (.iadd, 1) := by decide +kernel
theorem dL_law_411 : decode cL_law 411 = .ok (.iaload, 1) := by decide +kernel
theorem dL_law_412 : decode cL_law 412 = .ok (.aload_n 0, 1) := by decide +kernel
theorem dL_law_413 : decode cL_law 413 = .ok (.iload_n 3, 1) := by decide +kernel
theorem dL_law_414 : decode cL_law 414 = .ok (.iconst 2, 1) := by decide +kernel
theorem dL_law_415 : decode cL_law 415 = .ok (.iadd, 1) := by decide +kernel
theorem dL_law_416 : decode cL_law 416 = .ok (.iaload, 1) := by decide +kernel
theorem dL_law_417 : decode cL_law 417 = .ok (.invokevirtual 40, 3) := by decide +kernel
theorem dL_law_420 : decode cL_law 420 = .ok (.aload_n 2, 1) := by decide +kernel
theorem dL_law_421 : decode cL_law 421 = .ok (.aload_n 0, 1) := by decide +kernel
theorem dL_law_422 : decode cL_law 422 = .ok (.iload_n 3, 1) := by decide +kernel
theorem dL_law_423 : decode cL_law 423 = .ok (.iconst 1, 1) := by decide +kernel
theorem dL_law_424 : decode cL_law 424 = .ok (.iadd, 1) := by decide +kernel
theorem dL_law_425 : decode cL_law 425 = .ok (.iaload, 1) := by decide +kernel
theorem dL_law_426 : decode cL_law 426 = .ok (.aload_n 0, 1) := by decide +kernel
theorem dL_law_427 : decode cL_law 427 = .ok (.iload_n 3, 1) := by decide +kernel
theorem dL_law_428 : decode cL_law 428 = .ok (.iconst 2, 1) := by decide +kernel
theorem dL_law_429 : decode cL_law 429 = .ok (.iadd, 1) := by decide +kernel
theorem dL_law_430 : decode cL_law 430 = .ok (.iaload, 1) := by decide +kernel
theorem dL_law_431 : decode cL_law 431 = .ok (.invokevirtual 43, 3) := by decide +kernel
theorem dL_law_434 : decode cL_law 434 = .ok (.if_icmp .eq 964, 3) := by decide +kernel
theorem dL_law_437 : decode cL_law 437 = .ok (.iconst 0, 1) := by decide +kernel
theorem dL_law_438 : decode cL_law 438 = .ok (.ireturn, 1) := by decide +kernel
theorem dL_law_439 : decode cL_law 439 = .ok (.aload_n 1, 1) := by decide +kernel
theorem dL_law_440 : decode cL_law 440 = .ok (.aload_n 0, 1) := by decide +kernel
theorem dL_law_441 : decode cL_law 441 = .ok (.iload_n 3, 1) := by decide +kernel
theorem dL_law_442 : decode cL_law 442 = .ok (.iconst 1, 1) := by decide +kernel
theorem dL_law_443 : decode cL_law 443 = .ok (.iadd, 1) := by decide +kernel
theorem dL_law_444 : decode cL_law 444 = .ok (.iaload, 1) := by decide +kernel
theorem dL_law_445 : decode cL_law 445 = .ok (.aload_n 0, 1) := by decide +kernel
theorem dL_law_446 : decode cL_law 446 = .ok (.iload_n 3, 1) := by decide +kernel
theorem dL_law_447 : decode cL_law 447 = .ok (.iconst 2, 1) := by decide +kernel
theorem dL_law_448 : decode cL_law 448 = .ok (.iadd, 1) := by decide +kernel
theorem dL_law_449 : decode cL_law 449 = .ok (.iaload, 1) := by decide +kernel
theorem dL_law_450 : decode cL_law 450 = .ok (.invokevirtual 44, 3) := by decide +kernel
theorem dL_law_453 : decode cL_law 453 = .ok (.aload_n 2, 1) := by decide +kernel
theorem dL_law_454 : decode cL_law 454 = .ok (.aload_n 0, 1) := by decide +kernel
theorem dL_law_455 : decode cL_law 455 = .ok (.iload_n 3, 1) := by decide +kernel
theorem dL_law_456 : decode cL_law 456 = .ok (.iconst 1, 1) := by decide +kernel
theorem dL_law_457 : decode cL_law 457 = .ok (.iadd, 1) := by decide +kernel
theorem dL_law_458 : decode cL_law 458 = .ok (.iaload, 1) := by decide +kernel
theorem dL_law_459 : decode cL_law 459 = .ok (.aload_n 0, 1) := by decide +kernel
theorem dL_law_460 : decode cL_law 460 = .ok (.iload_n 3, 1) := by decide +kernel
theorem dL_law_461 : decode cL_law 461 = .ok (.iconst 2, 1) := by decide +kernel
theorem dL_law_462 : decode cL_law 462 = .ok (.iadd, 1) := by decide +kernel
theorem dL_law_463 : decode cL_law 463 = .ok (.iaload, 1) := by decide +kernel
theorem dL_law_464 : decode cL_law 464 = .ok (.invokevirtual 47, 3) := by decide +kernel
theorem dL_law_467 : decode cL_law 467 = .ok (.if_icmp .eq 931, 3) := by decide +kernel
theorem dL_law_470 : decode cL_law 470 = .ok (.iconst 0, 1) := by decide +kernel
theorem dL_law_471 : decode cL_law 471 = .ok (.ireturn, 1) := by decide +kernel
theorem dL_law_472 : decode cL_law 472 = .ok (.aload_n 1, 1) := by decide +kernel
theorem dL_law_473 : decode cL_law 473 = .ok (.aload_n 0, 1) := by decide +kernel
theorem dL_law_474 : decode cL_law 474 = .ok (.iload_n 3, 1) := by decide +kernel
theorem dL_law_475 : decode cL_law 475 = .ok (.iconst 1, 1) := by decide +kernel
theorem dL_law_476 : decode cL_law 476 = .ok (.iadd, 1) := by decide +kernel
theorem dL_law_477 : decode cL_law 477 = .ok (.iaload, 1) := by decide +kernel
theorem dL_law_478 : decode cL_law 478 = .ok (.invokevirtual 48, 3) := by decide +kernel
theorem dL_law_481 : decode cL_law 481 = .ok (.aload_n 2, 1) := by decide +kernel
theorem dL_law_482 : decode cL_law 482 = .ok (.aload_n 0, 1) := by decide +kernel
theorem dL_law_483 : decode cL_law 483 = .ok (.iload_n 3, 1) := by decide +kernel
theorem dL_law_484 : decode cL_law 484 = .ok (.iconst 1, 1) := by decide +kernel
theorem dL_law_485 : decode cL_law 485 = .ok (.iadd, 1) := by decide +kernel
theorem dL_law_486 : decode cL_law 486 = .ok (.iaload, 1) := by decide +kernel
theorem dL_law_487 : decode cL_law 487 = .ok (.invokevirtual 51, 3) := by decide +kernel
theorem dL_law_490 : decode cL_law 490 = .ok (.if_icmp .eq 908, 3) := by decide +kernel
theorem dL_law_493 : decode cL_law 493 = .ok (.iconst 0, 1) := by decide +kernel
theorem dL_law_494 : decode cL_law 494 = .ok (.ireturn, 1) := by decide +kernel
theorem dL_law_495 : decode cL_law 495 = .ok (.aload_n 1, 1) := by decide +kernel
theorem dL_law_496 : decode cL_law 496 = .ok (.aload_n 0, 1) := by decide +kernel
theorem dL_law_497 : decode cL_law 497 = .ok (.iload_n 3, 1) := by decide +kernel
theorem dL_law_498 : decode cL_law 498 = .ok (.iconst 1, 1) := by decide +kernel
theorem dL_law_499 : decode cL_law 499 = .ok (.iadd, 1) := by decide +kernel
theorem dL_law_500 : decode cL_law 500 = .ok (.iaload, 1) := by decide +kernel
theorem dL_law_501 : decode cL_law 501 = .ok (.invokevirtual 52, 3) := by decide +kernel
theorem dL_law_504 : decode cL_law 504 = .ok (.aload_n 2, 1) := by decide +kernel
theorem dL_law_505 : decode cL_law 505 = .ok (.aload_n 0, 1) := by decide +kernel
theorem dL_law_506 : decode cL_law 506 = .ok (.iload_n 3, 1) := by decide +kernel
theorem dL_law_507 : decode cL_law 507 = .ok (.iconst 1, 1) := by decide +kernel
theorem dL_law_508 : decode cL_law 508 = .ok (.iadd, 1) := by decide +kernel
theorem dL_law_509 : decode cL_law 509 = .ok (.iaload, 1) := by decide +kernel
theorem dL_law_510 : decode cL_law 510 = .ok (.invokevirtual 55, 3) := by decide +kernel
theorem dL_law_513 : decode cL_law 513 = .ok (.if_icmp .eq 885, 3) := by decide +kernel
theorem dL_law_516 : decode cL_law 516 = .ok (.iconst 0, 1) := by decide +kernel
theorem dL_law_517 : decode cL_law 517 = .ok (.ireturn, 1) := by decide +kernel
theorem dL_law_518 : decode cL_law 518 = .ok (.aload_n 1, 1) := by decide +kernel
theorem dL_law_519 : decode cL_law 519 = .ok (.aload_n 0, 1) := by decide +kernel
theorem dL_law_520 : decode cL_law 520 = .ok (.iload_n 3, 1) := by decide +kernel
theorem dL_law_521 : decode cL_law 521 = .ok (.iconst 1, 1) := by decide +kernel
theorem dL_law_522 : decode cL_law 522 = .ok (.iadd, 1) := by decide +kernel
theorem dL_law_523 : decode cL_law 523 = .ok (.iaload, 1) := by decide +kernel
theorem dL_law_524 : decode cL_law 524 = .ok (.aload_n 0, 1) := by decide +kernel
theorem dL_law_525 : decode cL_law 525 = .ok (.iload_n 3, 1) := by decide +kernel
theorem dL_law_526 : decode cL_law 526 = .ok (.iconst 2, 1) := by decide +kernel
theorem dL_law_527 : decode cL_law 527 = .ok (.iadd, 1) := by decide +kernel
theorem dL_law_528 : decode cL_law 528 = .ok (.iaload, 1) := by decide +kernel
theorem dL_law_529 : decode cL_law 529 = .ok (.invokevirtual 56, 3) := by decide +kernel
theorem dL_law_532 : decode cL_law 532 = .ok (.aload_n 2, 1) := by decide +kernel
theorem dL_law_533 : decode cL_law 533 = .ok (.aload_n 0, 1) := by decide +kernel
theorem dL_law_534 : decode cL_law 534 = .ok (.iload_n 3, 1) := by decide +kernel
theorem dL_law_535 : decode cL_law 535 = .ok (.iconst 1, 1) := by decide +kernel
theorem dL_law_536 : decode cL_law 536 = .ok (.iadd, 1) := by decide +kernel
theorem dL_law_537 : decode cL_law 537 = .ok (.iaload, 1) := by decide +kernel
theorem dL_law_538 : decode cL_law 538 = .ok (.aload_n 0, 1) := by decide +kernel
theorem dL_law_539 : decode cL_law 539 = .ok (.iload_n 3, 1) := by decide +kernel
theorem dL_law_540 : decode cL_law 540 = .ok (.iconst 2, 1) := by decide +kernel
theorem dL_law_541 : decode cL_law 541 = .ok (.iadd, 1) := by decide +kernel
theorem dL_law_542 : decode cL_law 542 = .ok (.iaload, 1) := by decide +kernel
theorem dL_law_543 : decode cL_law 543 = .ok (.invokevirtual 59, 3) := by decide +kernel
theorem dL_law_546 : decode cL_law 546 = .ok (.if_icmp .eq 852, 3) := by decide +kernel
theorem dL_law_549 : decode cL_law 549 = .ok (.iconst 0, 1) := by decide +kernel
theorem dL_law_550 : decode cL_law 550 = .ok (.ireturn, 1) := by decide +kernel
theorem dL_law_551 : decode cL_law 551 = .ok (.aload_n 1, 1) := by decide +kernel
theorem dL_law_552 : decode cL_law 552 = .ok (.aload_n 0, 1) := by decide +kernel
theorem dL_law_553 : decode cL_law 553 = .ok (.iload_n 3, 1) := by decide +kernel
theorem dL_law_554 : decode cL_law 554 = .ok (.iconst 1, 1) := by decide +kernel
theorem dL_law_555 : decode cL_law 555 = .ok (.iadd, 1) := by decide +kernel
theorem dL_law_556 : decode cL_law 556 = .ok (.iaload, 1) := by decide +kernel
theorem dL_law_557 : decode cL_law 557 = .ok (.i2l, 1) := by decide +kernel
theorem dL_law_558 : decode cL_law 558 = .ok (.bipush 32, 2) := by decide +kernel
theorem dL_law_560 : decode cL_law 560 = .ok (.lshl, 1) := by decide +kernel
theorem dL_law_561 : decode cL_law 561 = .ok (.aload_n 0, 1) := by decide +kernel
theorem dL_law_562 : decode cL_law 562 = .ok (.iload_n 3, 1) := by decide +kernel
theorem dL_law_563 : decode cL_law 563 = .ok (.iconst 2, 1) := by decide +kernel
theorem dL_law_564 : decode cL_law 564 = .ok (.iadd, 1) := by decide +kernel
theorem dL_law_565 : decode cL_law 565 = .ok (.iaload, 1) := by decide +kernel
theorem dL_law_566 : decode cL_law 566 = .ok (.i2l, 1) := by decide +kernel
theorem dL_law_567 : decode cL_law 567 = .ok (.ldc2_w 60, 3) := by decide +kernel
theorem dL_law_570 : decode cL_law 570 = .ok (.land, 1) := by decide +kernel
theorem dL_law_571 : decode cL_law 571 = .ok (.lor, 1) := by decide +kernel
theorem dL_law_572 : decode cL_law 572 = .ok (.aload_n 0, 1) := by decide +kernel
theorem dL_law_573 : decode cL_law 573 = .ok (.iload_n 3, 1) := by decide +kernel
theorem dL_law_574 : decode cL_law 574 = .ok (.iconst 3, 1) := by decide +kernel
theorem dL_law_575 : decode cL_law 575 = .ok (.iadd, 1) := by decide +kernel
theorem dL_law_576 : decode cL_law 576 = .ok (.iaload, 1) := by decide +kernel
theorem dL_law_577 : decode cL_law 577 = .ok (.invokevirtual 62, 3) := by decide +kernel
theorem dL_law_580 : decode cL_law 580 = .ok (.aload_n 2, 1) := by decide +kernel
theorem dL_law_581 : decode cL_law 581 = .ok (.aload_n 0, 1) := by decide +kernel
theorem dL_law_582 : decode cL_law 582 = .ok (.iload_n 3, 1) := by decide +kernel
theorem dL_law_583 : decode cL_law 583 = .ok (.iconst 1, 1) := by decide +kernel
theorem dL_law_584 : decode cL_law 584 = .ok (.iadd, 1) := by decide +kernel
theorem dL_law_585 : decode cL_law 585 = .ok (.iaload, 1) := by decide +kernel
theorem dL_law_586 : decode cL_law 586 = .ok (.i2l, 1) := by decide +kernel
theorem dL_law_587 : decode cL_law 587 = .ok (.bipush 32, 2) := by decide +kernel
theorem dL_law_589 : decode cL_law 589 = .ok (.lshl, 1) := by decide +kernel
theorem dL_law_590 : decode cL_law 590 = .ok (.aload_n 0, 1) := by decide +kernel
theorem dL_law_591 : decode cL_law 591 = .ok (.iload_n 3, 1) := by decide +kernel
theorem dL_law_592 : decode cL_law 592 = .ok (.iconst 2, 1) := by decide +kernel
theorem dL_law_593 : decode cL_law 593 = .ok (.iadd, 1) := by decide +kernel
theorem dL_law_594 : decode cL_law 594 = .ok (.iaload, 1) := by decide +kernel
theorem dL_law_595 : decode cL_law 595 = .ok (.i2l, 1) := by decide +kernel
theorem dL_law_596 : decode cL_law 596 = .ok (.ldc2_w 60, 3) := by decide +kernel
theorem dL_law_599 : decode cL_law 599 = .ok (.land, 1) := by decide +kernel
theorem dL_law_600 : decode cL_law 600 = .ok (.lor, 1) := by decide +kernel
theorem dL_law_601 : decode cL_law 601 = .ok (.aload_n 0, 1) := by decide +kernel
theorem dL_law_602 : decode cL_law 602 = .ok (.iload_n 3, 1) := by decide +kernel
theorem dL_law_603 : decode cL_law 603 = .ok (.iconst 3, 1) := by decide +kernel
theorem dL_law_604 : decode cL_law 604 = .ok (.iadd, 1) := by decide +kernel
theorem dL_law_605 : decode cL_law 605 = .ok (.iaload, 1) := by decide +kernel
theorem dL_law_606 : decode cL_law 606 = .ok (.invokevirtual 66, 3) := by decide +kernel
theorem dL_law_609 : decode cL_law 609 = .ok (.if_icmp .eq 789, 3) := by decide +kernel
theorem dL_law_612 : decode cL_law 612 = .ok (.iconst 0, 1) := by decide +kernel
theorem dL_law_613 : decode cL_law 613 = .ok (.ireturn, 1) := by decide +kernel
theorem dL_law_614 : decode cL_law 614 = .ok (.aload_n 1, 1) := by decide +kernel
theorem dL_law_615 : decode cL_law 615 = .ok (.aload_n 0, 1) := by decide +kernel
theorem dL_law_616 : decode cL_law 616 = .ok (.iload_n 3, 1) := by decide +kernel
theorem dL_law_617 : decode cL_law 617 = .ok (.iconst 1, 1) := by decide +kernel
theorem dL_law_618 : decode cL_law 618 = .ok (.iadd, 1) := by decide +kernel
theorem dL_law_619 : decode cL_law 619 = .ok (.iaload, 1) := by decide +kernel
theorem dL_law_620 : decode cL_law 620 = .ok (.invokevirtual 67, 3) := by decide +kernel
theorem dL_law_623 : decode cL_law 623 = .ok (.aload_n 2, 1) := by decide +kernel
theorem dL_law_624 : decode cL_law 624 = .ok (.aload_n 0, 1) := by decide +kernel
theorem dL_law_625 : decode cL_law 625 = .ok (.iload_n 3, 1) := by decide +kernel
theorem dL_law_626 : decode cL_law 626 = .ok (.iconst 1, 1) := by decide +kernel
theorem dL_law_627 : decode cL_law 627 = .ok (.iadd, 1) := by decide +kernel
theorem dL_law_628 : decode cL_law 628 = .ok (.iaload, 1) := by decide +kernel
theorem dL_law_629 : decode cL_law 629 = .ok (.invokevirtual 70, 3) := by decide +kernel
theorem dL_law_632 : decode cL_law 632 = .ok (.if_icmp .eq 766, 3) := by decide +kernel
theorem dL_law_635 : decode cL_law 635 = .ok (.iconst 0, 1) := by decide +kernel
theorem dL_law_636 : decode cL_law 636 = .ok (.ireturn, 1) := by decide +kernel
theorem dL_law_637 : decode cL_law 637 = .ok (.aload_n 1, 1) := by decide +kernel
theorem dL_law_638 : decode cL_law 638 = .ok (.aload_n 0, 1) := by decide +kernel
theorem dL_law_639 : decode cL_law 639 = .ok (.iload_n 3, 1) := by decide +kernel
theorem dL_law_640 : decode cL_law 640 = .ok (.iconst 1, 1) := by decide +kernel
theorem dL_law_641 : decode cL_law 641 = .ok (.iadd, 1) := by decide +kernel
theorem dL_law_642 : decode cL_law 642 = .ok (.iaload, 1) := by decide +kernel
theorem dL_law_643 : decode cL_law 643 = .ok (.invokevirtual 71, 3) := by decide +kernel
theorem dL_law_646 : decode cL_law 646 = .ok (.aload_n 2, 1) := by decide +kernel
theorem dL_law_647 : decode cL_law 647 = .ok (.aload_n 0, 1) := by decide +kernel
theorem dL_law_648 : decode cL_law 648 = .ok (.iload_n 3, 1) := by decide +kernel
theorem dL_law_649 : decode cL_law 649 = .ok (.iconst 1, 1) := by decide +kernel
theorem dL_law_650 : decode cL_law 650 = .ok (.iadd, 1) := by decide +kernel
theorem dL_law_651 : decode cL_law 651 = .ok (.iaload, 1) := by decide +kernel
theorem dL_law_652 : decode cL_law 652 = .ok (.invokevirtual 74, 3) := by decide +kernel
theorem dL_law_655 : decode cL_law 655 = .ok (.if_icmp .eq 743, 3) := by decide +kernel
theorem dL_law_658 : decode cL_law 658 = .ok (.iconst 0, 1) := by decide +kernel
theorem dL_law_659 : decode cL_law 659 = .ok (.ireturn, 1) := by decide +kernel
theorem dL_law_660 : decode cL_law 660 = .ok (.aload_n 1, 1) := by decide +kernel
theorem dL_law_661 : decode cL_law 661 = .ok (.aload_n 0, 1) := by decide +kernel
theorem dL_law_662 : decode cL_law 662 = .ok (.iload_n 3, 1) := by decide +kernel
theorem dL_law_663 : decode cL_law 663 = .ok (.iconst 1, 1) := by decide +kernel
theorem dL_law_664 : decode cL_law 664 = .ok (.iadd, 1) := by decide +kernel
theorem dL_law_665 : decode cL_law 665 = .ok (.iaload, 1) := by decide +kernel
theorem dL_law_666 : decode cL_law 666 = .ok (.aload_n 0, 1) := by decide +kernel
theorem dL_law_667 : decode cL_law 667 = .ok (.iload_n 3, 1) := by decide +kernel
theorem dL_law_668 : decode cL_law 668 = .ok (.iconst 2, 1) := by decide +kernel
theorem dL_law_669 : decode cL_law 669 = .ok (.iadd, 1) := by decide +kernel
theorem dL_law_670 : decode cL_law 670 = .ok (.iaload, 1) := by decide +kernel
theorem dL_law_671 : decode cL_law 671 = .ok (.aload_n 0, 1) := by decide +kernel
theorem dL_law_672 : decode cL_law 672 = .ok (.iload_n 3, 1) := by decide +kernel
theorem dL_law_673 : decode cL_law 673 = .ok (.iconst 3, 1) := by decide +kernel
theorem dL_law_674 : decode cL_law 674 = .ok (.iadd, 1) := by decide +kernel
theorem dL_law_675 : decode cL_law 675 = .ok (.iaload, 1) := by decide +kernel
theorem dL_law_676 : decode cL_law 676 = .ok (.aload_n 0, 1) := by decide +kernel
theorem dL_law_677 : decode cL_law 677 = .ok (.iload_n 3, 1) := by decide +kernel
theorem dL_law_678 : decode cL_law 678 = .ok (.iconst 4, 1) := by decide +kernel
theorem dL_law_679 : decode cL_law 679 = .ok (.iadd, 1) := by decide +kernel
theorem dL_law_680 : decode cL_law 680 = .ok (.iaload, 1) := by decide +kernel
theorem dL_law_681 : decode cL_law 681 = .ok (.invokevirtual 75, 3) := by decide +kernel
theorem dL_law_684 : decode cL_law 684 = .ok (.aload_n 2, 1) := by decide +kernel
theorem dL_law_685 : decode cL_law 685 = .ok (.aload_n 0, 1) := by decide +kernel
theorem dL_law_686 : decode cL_law 686 = .ok (.iload_n 3, 1) := by decide +kernel
theorem dL_law_687 : decode cL_law 687 = .ok (.iconst 1, 1) := by decide +kernel
theorem dL_law_688 : decode cL_law 688 = .ok (.iadd, 1) := by decide +kernel
theorem dL_law_689 : decode cL_law 689 = .ok (.iaload, 1) := by decide +kernel
theorem dL_law_690 : decode cL_law 690 = .ok (.aload_n 0, 1) := by decide +kernel
theorem dL_law_691 : decode cL_law 691 = .ok (.iload_n 3, 1) := by decide +kernel
theorem dL_law_692 : decode cL_law 692 = .ok (.iconst 2, 1) := by decide +kernel
theorem dL_law_693 : decode cL_law 693 = .ok (.iadd, 1) := by decide +kernel
theorem dL_law_694 : decode cL_law 694 = .ok (.iaload, 1) := by decide +kernel
theorem dL_law_695 : decode cL_law 695 = .ok (.aload_n 0, 1) := by decide +kernel
theorem dL_law_696 : decode cL_law 696 = .ok (.iload_n 3, 1) := by decide +kernel
theorem dL_law_697 : decode cL_law 697 = .ok (.iconst 3, 1) := by decide +kernel
theorem dL_law_698 : decode cL_law 698 = .ok (.iadd, 1) := by decide +kernel
theorem dL_law_699 : decode cL_law 699 = .ok (.iaload, 1) := by decide +kernel
theorem dL_law_700 : decode cL_law 700 = .ok (.aload_n 0, 1) := by decide +kernel
theorem dL_law_701 : decode cL_law 701 = .ok (.iload_n 3, 1) := by decide +kernel
theorem dL_law_702 : decode cL_law 702 = .ok (.iconst 4, 1) := by decide +kernel
theorem dL_law_703 : decode cL_law 703 = .ok (.iadd, 1) := by decide +kernel
theorem dL_law_704 : decode cL_law 704 = .ok (.iaload, 1) := by decide +kernel
theorem dL_law_705 : decode cL_law 705 = .ok (.invokevirtual 79, 3) := by decide +kernel
theorem dL_law_708 : decode cL_law 708 = .ok (.if_icmp .eq 690, 3) := by decide +kernel
theorem dL_law_711 : decode cL_law 711 = .ok (.iconst 0, 1) := by decide +kernel
theorem dL_law_712 : decode cL_law 712 = .ok (.ireturn, 1) := by decide +kernel
theorem dL_law_713 : decode cL_law 713 = .ok (.aload_n 1, 1) := by decide +kernel
theorem dL_law_714 : decode cL_law 714 = .ok (.aload_n 0, 1) := by decide +kernel
theorem dL_law_715 : decode cL_law 715 = .ok (.iload_n 3, 1) := by decide +kernel
theorem dL_law_716 : decode cL_law 716 = .ok (.iconst 1, 1) := by decide +kernel
theorem dL_law_717 : decode cL_law 717 = .ok (.iadd, 1) := by decide +kernel
theorem dL_law_718 : decode cL_law 718 = .ok (.iaload, 1) := by decide +kernel
theorem dL_law_719 : decode cL_law 719 = .ok (.invokevirtual 80, 3) := by decide +kernel
theorem dL_law_722 : decode cL_law 722 = .ok (.aload_n 2, 1) := by decide +kernel
theorem dL_law_723 : decode cL_law 723 = .ok (.aload_n 0, 1) := by decide +kernel
theorem dL_law_724 : decode cL_law 724 = .ok (.iload_n 3, 1) := by decide +kernel
theorem dL_law_725 : decode cL_law 725 = .ok (.iconst 1, 1) := by decide +kernel
theorem dL_law_726 : decode cL_law 726 = .ok (.iadd, 1) := by decide +kernel
theorem dL_law_727 : decode cL_law 727 = .ok (.iaload, 1) := by decide +kernel
theorem dL_law_728 : decode cL_law 728 = .ok (.invokevirtual 83, 3) := by decide +kernel
theorem dL_law_731 : decode cL_law 731 = .ok (.if_icmp .eq 667, 3) := by decide +kernel
theorem dL_law_734 : decode cL_law 734 = .ok (.iconst 0, 1) := by decide +kernel
theorem dL_law_735 : decode cL_law 735 = .ok (.ireturn, 1) := by decide +kernel
theorem dL_law_736 : decode cL_law 736 = .ok (.aload_n 1, 1) := by decide +kernel
theorem dL_law_737 : decode cL_law 737 = .ok (.aload_n 0, 1) := by decide +kernel
theorem dL_law_738 : decode cL_law 738 = .ok (.iload_n 3, 1) := by decide +kernel
theorem dL_law_739 : decode cL_law 739 = .ok (.iconst 1, 1) := by decide +kernel
theorem dL_law_740 : decode cL_law 740 = .ok (.iadd, 1) := by decide +kernel
theorem dL_law_741 : decode cL_law 741 = .ok (.iaload, 1) := by decide +kernel
theorem dL_law_742 : decode cL_law 742 = .ok (.invokevirtual 84, 3) := by decide +kernel
theorem dL_law_745 : decode cL_law 745 = .ok (.aload_n 2, 1) := by decide +kernel
theorem dL_law_746 : decode cL_law 746 = .ok (.aload_n 0, 1) := by decide +kernel
theorem dL_law_747 : decode cL_law 747 = .ok (.iload_n 3, 1) := by decide +kernel
theorem dL_law_748 : decode cL_law 748 = .ok (.iconst 1, 1) := by decide +kernel
theorem dL_law_749 : decode cL_law 749 = .ok (.iadd, 1) := by decide +kernel
theorem dL_law_750 : decode cL_law 750 = .ok (.iaload, 1) := by decide +kernel
theorem dL_law_751 : decode cL_law 751 = .ok (.invokevirtual 87, 3) := by decide +kernel
theorem dL_law_754 : decode cL_law 754 = .ok (.if_icmp .eq 644, 3) := by decide +kernel
theorem dL_law_757 : decode cL_law 757 = .ok (.iconst 0, 1) := by decide +kernel
theorem dL_law_758 : decode cL_law 758 = .ok (.ireturn, 1) := by decide +kernel
theorem dL_law_759 : decode cL_law 759 = .ok (.aload_n 1, 1) := by decide +kernel
theorem dL_law_760 : decode cL_law 760 = .ok (.aload_n 0, 1) := by decide +kernel
theorem dL_law_761 : decode cL_law 761 = .ok (.iload_n 3, 1) := by decide +kernel
theorem dL_law_762 : decode cL_law 762 = .ok (.iconst 1, 1) := by decide +kernel
theorem dL_law_763 : decode cL_law 763 = .ok (.iadd, 1) := by decide +kernel
theorem dL_law_764 : decode cL_law 764 = .ok (.iaload, 1) := by decide +kernel
theorem dL_law_765 : decode cL_law 765 = .ok (.invokevirtual 88, 3) := by decide +kernel
theorem dL_law_768 : decode cL_law 768 = .ok (.aload_n 2, 1) := by decide +kernel
theorem dL_law_769 : decode cL_law 769 = .ok (.aload_n 0, 1) := by decide +kernel
theorem dL_law_770 : decode cL_law 770 = .ok (.iload_n 3, 1) := by decide +kernel
theorem dL_law_771 : decode cL_law 771 = .ok (.iconst 1, 1) := by decide +kernel
theorem dL_law_772 : decode cL_law 772 = .ok (.iadd, 1) := by decide +kernel
theorem dL_law_773 : decode cL_law 773 = .ok (.iaload, 1) := by decide +kernel
theorem dL_law_774 : decode cL_law 774 = .ok (.invokevirtual 91, 3) := by decide +kernel
theorem dL_law_777 : decode cL_law 777 = .ok (.if_icmp .eq 621, 3) := by decide +kernel
theorem dL_law_780 : decode cL_law 780 = .ok (.iconst 0, 1) := by decide +kernel
theorem dL_law_781 : decode cL_law 781 = .ok (.ireturn, 1) := by decide +kernel
theorem dL_law_782 : decode cL_law 782 = .ok (.aload_n 1, 1) := by decide +kernel
theorem dL_law_783 : decode cL_law 783 = .ok (.aload_n 0, 1) := by decide +kernel
theorem dL_law_784 : decode cL_law 784 = .ok (.iload_n 3, 1) := by decide +kernel
theorem dL_law_785 : decode cL_law 785 = .ok (.iconst 1, 1) := by decide +kernel
theorem dL_law_786 : decode cL_law 786 = .ok (.iadd, 1) := by decide +kernel
theorem dL_law_787 : decode cL_law 787 = .ok (.iaload, 1) := by decide +kernel
theorem dL_law_788 : decode cL_law 788 = .ok (.invokevirtual 92, 3) := by decide +kernel
theorem dL_law_791 : decode cL_law 791 = .ok (.aload_n 2, 1) := by decide +kernel
theorem dL_law_792 : decode cL_law 792 = .ok (.aload_n 0, 1) := by decide +kernel
theorem dL_law_793 : decode cL_law 793 = .ok (.iload_n 3, 1) := by decide +kernel
theorem dL_law_794 : decode cL_law 794 = .ok (.iconst 1, 1) := by decide +kernel
theorem dL_law_795 : decode cL_law 795 = .ok (.iadd, 1) := by decide +kernel
theorem dL_law_796 : decode cL_law 796 = .ok (.iaload, 1) := by decide +kernel
theorem dL_law_797 : decode cL_law 797 = .ok (.invokevirtual 95, 3) := by decide +kernel
theorem dL_law_800 : decode cL_law 800 = .ok (.if_icmp .eq 598, 3) := by decide +kernel
theorem dL_law_803 : decode cL_law 803 = .ok (.iconst 0, 1) := by decide +kernel
theorem dL_law_804 : decode cL_law 804 = .ok (.ireturn, 1) := by decide +kernel
theorem dL_law_805 : decode cL_law 805 = .ok (.aload_n 1, 1) := by decide +kernel
theorem dL_law_806 : decode cL_law 806 = .ok (.aload_n 0, 1) := by decide +kernel
theorem dL_law_807 : decode cL_law 807 = .ok (.iload_n 3, 1) := by decide +kernel
theorem dL_law_808 : decode cL_law 808 = .ok (.iconst 1, 1) := by decide +kernel
theorem dL_law_809 : decode cL_law 809 = .ok (.iadd, 1) := by decide +kernel
theorem dL_law_810 : decode cL_law 810 = .ok (.iaload, 1) := by decide +kernel
theorem dL_law_811 : decode cL_law 811 = .ok (.aload_n 0, 1) := by decide +kernel
theorem dL_law_812 : decode cL_law 812 = .ok (.iload_n 3, 1) := by decide +kernel
theorem dL_law_813 : decode cL_law 813 = .ok (.iconst 2, 1) := by decide +kernel
theorem dL_law_814 : decode cL_law 814 = .ok (.iadd, 1) := by decide +kernel
theorem dL_law_815 : decode cL_law 815 = .ok (.iaload, 1) := by decide +kernel
theorem dL_law_816 : decode cL_law 816 = .ok (.invokevirtual 96, 3) := by decide +kernel
theorem dL_law_819 : decode cL_law 819 = .ok (.aload_n 2, 1) := by decide +kernel
theorem dL_law_820 : decode cL_law 820 = .ok (.aload_n 0, 1) := by decide +kernel
theorem dL_law_821 : decode cL_law 821 = .ok (.iload_n 3, 1) := by decide +kernel
theorem dL_law_822 : decode cL_law 822 = .ok (.iconst 1, 1) := by decide +kernel
theorem dL_law_823 : decode cL_law 823 = .ok (.iadd, 1) := by decide +kernel
theorem dL_law_824 : decode cL_law 824 = .ok (.iaload, 1) := by decide +kernel
theorem dL_law_825 : decode cL_law 825 = .ok (.aload_n 0, 1) := by decide +kernel
theorem dL_law_826 : decode cL_law 826 = .ok (.iload_n 3, 1) := by decide +kernel
theorem dL_law_827 : decode cL_law 827 = .ok (.iconst 2, 1) := by decide +kernel
theorem dL_law_828 : decode cL_law 828 = .ok (.iadd, 1) := by decide +kernel
theorem dL_law_829 : decode cL_law 829 = .ok (.iaload, 1) := by decide +kernel
theorem dL_law_830 : decode cL_law 830 = .ok (.invokevirtual 99, 3) := by decide +kernel
theorem dL_law_833 : decode cL_law 833 = .ok (.if_icmp .eq 565, 3) := by decide +kernel
theorem dL_law_836 : decode cL_law 836 = .ok (.iconst 0, 1) := by decide +kernel
theorem dL_law_837 : decode cL_law 837 = .ok (.ireturn, 1) := by decide +kernel
theorem dL_law_838 : decode cL_law 838 = .ok (.aload_n 1, 1) := by decide +kernel
theorem dL_law_839 : decode cL_law 839 = .ok (.aload_n 0, 1) := by decide +kernel
theorem dL_law_840 : decode cL_law 840 = .ok (.iload_n 3, 1) := by decide +kernel
theorem dL_law_841 : decode cL_law 841 = .ok (.iconst 1, 1) := by decide +kernel
theorem dL_law_842 : decode cL_law 842 = .ok (.iadd, 1) := by decide +kernel
theorem dL_law_843 : decode cL_law 843 = .ok (.iaload, 1) := by decide +kernel
theorem dL_law_844 : decode cL_law 844 = .ok (.invokevirtual 100, 3) := by decide +kernel
theorem dL_law_847 : decode cL_law 847 = .ok (.aload_n 2, 1) := by decide +kernel
theorem dL_law_848 : decode cL_law 848 = .ok (.aload_n 0, 1) := by decide +kernel
theorem dL_law_849 : decode cL_law 849 = .ok (.iload_n 3, 1) := by decide +kernel
theorem dL_law_850 : decode cL_law 850 = .ok (.iconst 1, 1) := by decide +kernel
theorem dL_law_851 : decode cL_law 851 = .ok (.iadd, 1) := by decide +kernel
theorem dL_law_852 : decode cL_law 852 = .ok (.iaload, 1) := by decide +kernel
theorem dL_law_853 : decode cL_law 853 = .ok (.invokevirtual 103, 3) := by decide +kernel
theorem dL_law_856 : decode cL_law 856 = .ok (.if_icmp .eq 542, 3) := by decide +kernel
theorem dL_law_859 : decode cL_law 859 = .ok (.iconst 0, 1) := by decide +kernel
theorem dL_law_860 : decode cL_law 860 = .ok (.ireturn, 1) := by decide +kernel
theorem dL_law_861 : decode cL_law 861 = .ok (.aload_n 1, 1) := by decide +kernel
theorem dL_law_862 : decode cL_law 862 = .ok (.invokevirtual 104, 3) := by decide +kernel
theorem dL_law_865 : decode cL_law 865 = .ok (.aload_n 2, 1) := by decide +kernel
theorem dL_law_866 : decode cL_law 866 = .ok (.invokevirtual 108, 3) := by decide +kernel
theorem dL_law_869 : decode cL_law 869 = .ok (.if_icmp .eq 529, 3) := by decide +kernel
theorem dL_law_872 : decode cL_law 872 = .ok (.iconst 0, 1) := by decide +kernel
theorem dL_law_873 : decode cL_law 873 = .ok (.ireturn, 1) := by decide +kernel
theorem dL_law_874 : decode cL_law 874 = .ok (.aload_n 1, 1) := by decide +kernel
theorem dL_law_875 : decode cL_law 875 = .ok (.aload_n 0, 1) := by decide +kernel
theorem dL_law_876 : decode cL_law 876 = .ok (.iload_n 3, 1) := by decide +kernel
theorem dL_law_877 : decode cL_law 877 = .ok (.iconst 1, 1) := by decide +kernel
theorem dL_law_878 : decode cL_law 878 = .ok (.iadd, 1) := by decide +kernel
theorem dL_law_879 : decode cL_law 879 = .ok (.iaload, 1) := by decide +kernel
theorem dL_law_880 : decode cL_law 880 = .ok (.aload_n 0, 1) := by decide +kernel
theorem dL_law_881 : decode cL_law 881 = .ok (.iload_n 3, 1) := by decide +kernel
theorem dL_law_882 : decode cL_law 882 = .ok (.iconst 2, 1) := by decide +kernel
theorem dL_law_883 : decode cL_law 883 = .ok (.iadd, 1) := by decide +kernel
theorem dL_law_884 : decode cL_law 884 = .ok (.iaload, 1) := by decide +kernel
theorem dL_law_885 : decode cL_law 885 = .ok (.invokevirtual 109, 3) := by decide +kernel
theorem dL_law_888 : decode cL_law 888 = .ok (.aload_n 2, 1) := by decide +kernel
theorem dL_law_889 : decode cL_law 889 = .ok (.aload_n 0, 1) := by decide +kernel
theorem dL_law_890 : decode cL_law 890 = .ok (.iload_n 3, 1) := by decide +kernel
theorem dL_law_891 : decode cL_law 891 = .ok (.iconst 1, 1) := by decide +kernel
theorem dL_law_892 : decode cL_law 892 = .ok (.iadd, 1) := by decide +kernel
theorem dL_law_893 : decode cL_law 893 = .ok (.iaload, 1) := by decide +kernel
theorem dL_law_894 : decode cL_law 894 = .ok (.aload_n 0, 1) := by decide +kernel
theorem dL_law_895 : decode cL_law 895 = .ok (.iload_n 3, 1) := by decide +kernel
theorem dL_law_896 : decode cL_law 896 = .ok (.iconst 2, 1) := by decide +kernel
theorem dL_law_897 : decode cL_law 897 = .ok (.iadd, 1) := by decide +kernel
theorem dL_law_898 : decode cL_law 898 = .ok (.iaload, 1) := by decide +kernel
theorem dL_law_899 : decode cL_law 899 = .ok (.invokevirtual 112, 3) := by decide +kernel
theorem dL_law_902 : decode cL_law 902 = .ok (.if_icmp .eq 496, 3) := by decide +kernel
theorem dL_law_905 : decode cL_law 905 = .ok (.iconst 0, 1) := by decide +kernel
theorem dL_law_906 : decode cL_law 906 = .ok (.ireturn, 1) := by decide +kernel
theorem dL_law_907 : decode cL_law 907 = .ok (.aload_n 1, 1) := by decide +kernel
theorem dL_law_908 : decode cL_law 908 = .ok (.aload_n 0, 1) := by decide +kernel
theorem dL_law_909 : decode cL_law 909 = .ok (.iload_n 3, 1) := by decide +kernel
theorem dL_law_910 : decode cL_law 910 = .ok (.iconst 1, 1) := by decide +kernel
theorem dL_law_911 : decode cL_law 911 = .ok (.iadd, 1) := by decide +kernel
theorem dL_law_912 : decode cL_law 912 = .ok (.iaload, 1) := by decide +kernel
theorem dL_law_913 : decode cL_law 913 = .ok (.aload_n 0, 1) := by decide +kernel
theorem dL_law_914 : decode cL_law 914 = .ok (.iload_n 3, 1) := by decide +kernel
theorem dL_law_915 : decode cL_law 915 = .ok (.iconst 2, 1) := by decide +kernel
theorem dL_law_916 : decode cL_law 916 = .ok (.iadd, 1) := by decide +kernel
theorem dL_law_917 : decode cL_law 917 = .ok (.iaload, 1) := by decide +kernel
theorem dL_law_918 : decode cL_law 918 = .ok (.aload_n 0, 1) := by decide +kernel
theorem dL_law_919 : decode cL_law 919 = .ok (.iload_n 3, 1) := by decide +kernel
theorem dL_law_920 : decode cL_law 920 = .ok (.iconst 3, 1) := by decide +kernel
theorem dL_law_921 : decode cL_law 921 = .ok (.iadd, 1) := by decide +kernel
theorem dL_law_922 : decode cL_law 922 = .ok (.iaload, 1) := by decide +kernel
theorem dL_law_923 : decode cL_law 923 = .ok (.invokevirtual 113, 3) := by decide +kernel
theorem dL_law_926 : decode cL_law 926 = .ok (.aload_n 2, 1) := by decide +kernel
theorem dL_law_927 : decode cL_law 927 = .ok (.aload_n 0, 1) := by decide +kernel
theorem dL_law_928 : decode cL_law 928 = .ok (.iload_n 3, 1) := by decide +kernel
theorem dL_law_929 : decode cL_law 929 = .ok (.iconst 1, 1) := by decide +kernel
theorem dL_law_930 : decode cL_law 930 = .ok (.iadd, 1) := by decide +kernel
theorem dL_law_931 : decode cL_law 931 = .ok (.iaload, 1) := by decide +kernel
theorem dL_law_932 : decode cL_law 932 = .ok (.aload_n 0, 1) := by decide +kernel
theorem dL_law_933 : decode cL_law 933 = .ok (.iload_n 3, 1) := by decide +kernel
theorem dL_law_934 : decode cL_law 934 = .ok (.iconst 2, 1) := by decide +kernel
theorem dL_law_935 : decode cL_law 935 = .ok (.iadd, 1) := by decide +kernel
theorem dL_law_936 : decode cL_law 936 = .ok (.iaload, 1) := by decide +kernel
theorem dL_law_937 : decode cL_law 937 = .ok (.aload_n 0, 1) := by decide +kernel
theorem dL_law_938 : decode cL_law 938 = .ok (.iload_n 3, 1) := by decide +kernel
theorem dL_law_939 : decode cL_law 939 = .ok (.iconst 3, 1) := by decide +kernel
theorem dL_law_940 : decode cL_law 940 = .ok (.iadd, 1) := by decide +kernel
theorem dL_law_941 : decode cL_law 941 = .ok (.iaload, 1) := by decide +kernel
theorem dL_law_942 : decode cL_law 942 = .ok (.invokevirtual 116, 3) := by decide +kernel
theorem dL_law_945 : decode cL_law 945 = .ok (.if_icmp .eq 453, 3) := by decide +kernel
theorem dL_law_948 : decode cL_law 948 = .ok (.iconst 0, 1) := by decide +kernel
theorem dL_law_949 : decode cL_law 949 = .ok (.ireturn, 1) := by decide +kernel
theorem dL_law_950 : decode cL_law 950 = .ok (.aload_n 1, 1) := by decide +kernel
theorem dL_law_951 : decode cL_law 951 = .ok (.aload_n 0, 1) := by decide +kernel
theorem dL_law_952 : decode cL_law 952 = .ok (.iload_n 3, 1) := by decide +kernel
theorem dL_law_953 : decode cL_law 953 = .ok (.iconst 1, 1) := by decide +kernel
theorem dL_law_954 : decode cL_law 954 = .ok (.iadd, 1) := by decide +kernel
theorem dL_law_955 : decode cL_law 955 = .ok (.iaload, 1) := by decide +kernel
theorem dL_law_956 : decode cL_law 956 = .ok (.invokevirtual 117, 3) := by decide +kernel
theorem dL_law_959 : decode cL_law 959 = .ok (.aload_n 2, 1) := by decide +kernel
theorem dL_law_960 : decode cL_law 960 = .ok (.aload_n 0, 1) := by decide +kernel
theorem dL_law_961 : decode cL_law 961 = .ok (.iload_n 3, 1) := by decide +kernel
theorem dL_law_962 : decode cL_law 962 = .ok (.iconst 1, 1) := by decide +kernel
theorem dL_law_963 : decode cL_law 963 = .ok (.iadd, 1) := by decide +kernel
theorem dL_law_964 : decode cL_law 964 = .ok (.iaload, 1) := by decide +kernel
theorem dL_law_965 : decode cL_law 965 = .ok (.invokevirtual 120, 3) := by decide +kernel
theorem dL_law_968 : decode cL_law 968 = .ok (.if_icmp .eq 430, 3) := by decide +kernel
theorem dL_law_971 : decode cL_law 971 = .ok (.iconst 0, 1) := by decide +kernel
theorem dL_law_972 : decode cL_law 972 = .ok (.ireturn, 1) := by decide +kernel
theorem dL_law_973 : decode cL_law 973 = .ok (.aload_n 1, 1) := by decide +kernel
theorem dL_law_974 : decode cL_law 974 = .ok (.aload_n 0, 1) := by decide +kernel
theorem dL_law_975 : decode cL_law 975 = .ok (.iload_n 3, 1) := by decide +kernel
theorem dL_law_976 : decode cL_law 976 = .ok (.iconst 1, 1) := by decide +kernel
theorem dL_law_977 : decode cL_law 977 = .ok (.iadd, 1) := by decide +kernel
theorem dL_law_978 : decode cL_law 978 = .ok (.iaload, 1) := by decide +kernel
theorem dL_law_979 : decode cL_law 979 = .ok (.aload_n 0, 1) := by decide +kernel
theorem dL_law_980 : decode cL_law 980 = .ok (.iload_n 3, 1) := by decide +kernel
theorem dL_law_981 : decode cL_law 981 = .ok (.iconst 2, 1) := by decide +kernel
theorem dL_law_982 : decode cL_law 982 = .ok (.iadd, 1) := by decide +kernel
theorem dL_law_983 : decode cL_law 983 = .ok (.iaload, 1) := by decide +kernel
theorem dL_law_984 : decode cL_law 984 = .ok (.invokevirtual 121, 3) := by decide +kernel
theorem dL_law_987 : decode cL_law 987 = .ok (.aload_n 2, 1) := by decide +kernel
theorem dL_law_988 : decode cL_law 988 = .ok (.aload_n 0, 1) := by decide +kernel
theorem dL_law_989 : decode cL_law 989 = .ok (.iload_n 3, 1) := by decide +kernel
theorem dL_law_990 : decode cL_law 990 = .ok (.iconst 1, 1) := by decide +kernel
theorem dL_law_991 : decode cL_law 991 = .ok (.iadd, 1) := by decide +kernel
theorem dL_law_992 : decode cL_law 992 = .ok (.iaload, 1) := by decide +kernel
theorem dL_law_993 : decode cL_law 993 = .ok (.aload_n 0, 1) := by decide +kernel
theorem dL_law_994 : decode cL_law 994 = .ok (.iload_n 3, 1) := by decide +kernel
theorem dL_law_995 : decode cL_law 995 = .ok (.iconst 2, 1) := by decide +kernel
theorem dL_law_996 : decode cL_law 996 = .ok (.iadd, 1) := by decide +kernel
theorem dL_law_997 : decode cL_law 997 = .ok (.iaload, 1) := by decide +kernel
theorem dL_law_998 : decode cL_law 998 = .ok (.invokevirtual 124, 3) := by decide +kernel
theorem dL_law_1001 : decode cL_law 1001 = .ok (.if_icmp .eq 397, 3) := by decide +kernel
theorem dL_law_1004 : decode cL_law 1004 = .ok (.iconst 0, 1) := by decide +kernel
theorem dL_law_1005 : decode cL_law 1005 = .ok (.ireturn, 1) := by decide +kernel
theorem dL_law_1006 : decode cL_law 1006 = .ok (.aload_n 1, 1) := by decide +kernel
theorem dL_law_1007 : decode cL_law 1007 = .ok (.aload_n 0, 1) := by decide +kernel
theorem dL_law_1008 : decode cL_law 1008 = .ok (.iload_n 3, 1) := by decide +kernel
theorem dL_law_1009 : decode cL_law 1009 = .ok (.iconst 1, 1) := by decide +kernel
theorem dL_law_1010 : decode cL_law 1010 = .ok (.iadd, 1) := by decide +kernel
theorem dL_law_1011 : decode cL_law 1011 = .ok (.iaload, 1) := by decide +kernel
theorem dL_law_1012 : decode cL_law 1012 = .ok (.invokevirtual 125, 3) := by decide +kernel
theorem dL_law_1015 : decode cL_law 1015 = .ok (.aload_n 2, 1) := by decide +kernel
theorem dL_law_1016 : decode cL_law 1016 = .ok (.aload_n 0, 1) := by decide +kernel
theorem dL_law_1017 : decode cL_law 1017 = .ok (.iload_n 3, 1) := by decide +kernel
theorem dL_law_1018 : decode cL_law 1018 = .ok (.iconst 1, 1) := by decide +kernel
theorem dL_law_1019 : decode cL_law 1019 = .ok (.iadd, 1) := by decide +kernel
theorem dL_law_1020 : decode cL_law 1020 = .ok (.iaload, 1) := by decide +kernel
theorem dL_law_1021 : decode cL_law 1021 = .ok (.invokevirtual 128, 3) := by decide +kernel
theorem dL_law_1024 : decode cL_law 1024 = .ok (.if_icmp .eq 374, 3) := by decide +kernel
theorem dL_law_1027 : decode cL_law 1027 = .ok (.iconst 0, 1) := by decide +kernel
theorem dL_law_1028 : decode cL_law 1028 = .ok (.ireturn, 1) := by decide +kernel
theorem dL_law_1029 : decode cL_law 1029 = .ok (.aload_n 1, 1) := by decide +kernel
theorem dL_law_1030 : decode cL_law 1030 = .ok (.aload_n 0, 1) := by decide +kernel
theorem dL_law_1031 : decode cL_law 1031 = .ok (.iload_n 3, 1) := by decide +kernel
theorem dL_law_1032 : decode cL_law 1032 = .ok (.iconst 1, 1) := by decide +kernel
theorem dL_law_1033 : decode cL_law 1033 = .ok (.iadd, 1) := by decide +kernel
theorem dL_law_1034 : decode cL_law 1034 = .ok (.iaload, 1) := by decide +kernel
theorem dL_law_1035 : decode cL_law 1035 = .ok (.aload_n 0, 1) := by decide +kernel
theorem dL_law_1036 : decode cL_law 1036 = .ok (.iload_n 3, 1) := by decide +kernel
theorem dL_law_1037 : decode cL_law 1037 = .ok (.iconst 2, 1) := by decide +kernel
theorem dL_law_1038 : decode cL_law 1038 = .ok (.iadd, 1) := by decide +kernel
theorem dL_law_1039 : decode cL_law 1039 = .ok (.iaload, 1) := by decide +kernel
theorem dL_law_1040 : decode cL_law 1040 = .ok (.aload_n 0, 1) := by decide +kernel
theorem dL_law_1041 : decode cL_law 1041 = .ok (.iload_n 3, 1) := by decide +kernel
theorem dL_law_1042 : decode cL_law 1042 = .ok (.iconst 3, 1) := by decide +kernel
theorem dL_law_1043 : decode cL_law 1043 = .ok (.iadd, 1) := by decide +kernel
theorem dL_law_1044 : decode cL_law 1044 = .ok (.iaload, 1) := by decide +kernel
theorem dL_law_1045 : decode cL_law 1045 = .ok (.invokevirtual 129, 3) := by decide +kernel
theorem dL_law_1048 : decode cL_law 1048 = .ok (.aload_n 2, 1) := by decide +kernel
theorem dL_law_1049 : decode cL_law 1049 = .ok (.aload_n 0, 1) := by decide +kernel
theorem dL_law_1050 : decode cL_law 1050 = .ok (.iload_n 3, 1) := by decide +kernel
theorem dL_law_1051 : decode cL_law 1051 = .ok (.iconst 1, 1) := by decide +kernel
theorem dL_law_1052 : decode cL_law 1052 = .ok (.iadd, 1) := by decide +kernel
theorem dL_law_1053 : decode cL_law 1053 = .ok (.iaload, 1) := by decide +kernel
theorem dL_law_1054 : decode cL_law 1054 = .ok (.aload_n 0, 1) := by decide +kernel
theorem dL_law_1055 : decode cL_law 1055 = .ok (.iload_n 3, 1) := by decide +kernel
theorem dL_law_1056 : decode cL_law 1056 = .ok (.iconst 2, 1) := by decide +kernel
theorem dL_law_1057 : decode cL_law 1057 = .ok (.iadd, 1) := by decide +kernel
theorem dL_law_1058 : decode cL_law 1058 = .ok (.iaload, 1) := by decide +kernel
theorem dL_law_1059 : decode cL_law 1059 = .ok (.aload_n 0, 1) := by decide +kernel
theorem dL_law_1060 : decode cL_law 1060 = .ok (.iload_n 3, 1) := by decide +kernel
theorem dL_law_1061 : decode cL_law 1061 = .ok (.iconst 3, 1) := by decide +kernel
theorem dL_law_1062 : decode cL_law 1062 = .ok (.iadd, 1) := by decide +kernel
theorem dL_law_1063 : decode cL_law 1063 = .ok (.iaload, 1) := by decide +kernel
theorem dL_law_1064 : decode cL_law 1064 = .ok (.invokevirtual 132, 3) := by decide +kernel
theorem dL_law_1067 : decode cL_law 1067 = .ok (.if_icmp .eq 331, 3) := by decide +kernel
theorem dL_law_1070 : decode cL_law 1070 = .ok (.iconst 0, 1) := by decide +kernel
theorem dL_law_1071 : decode cL_law 1071 = .ok (.ireturn, 1) := by decide +kernel
theorem dL_law_1072 : decode cL_law 1072 = .ok (.aload_n 1, 1) := by decide +kernel
theorem dL_law_1073 : decode cL_law 1073 = .ok (.aload_n 0, 1) := by decide +kernel
theorem dL_law_1074 : decode cL_law 1074 = .ok (.iload_n 3, 1) := by decide +kernel
theorem dL_law_1075 : decode cL_law 1075 = .ok (.iconst 1, 1) := by decide +kernel
theorem dL_law_1076 : decode cL_law 1076 = .ok (.iadd, 1) := by decide +kernel
theorem dL_law_1077 : decode cL_law 1077 = .ok (.iaload, 1) := by decide +kernel
theorem dL_law_1078 : decode cL_law 1078 = .ok (.invokevirtual 133, 3) := by decide +kernel
theorem dL_law_1081 : decode cL_law 1081 = .ok (.aload_n 2, 1) := by decide +kernel
theorem dL_law_1082 : decode cL_law 1082 = .ok (.aload_n 0, 1) := by decide +kernel
theorem dL_law_1083 : decode cL_law 1083 = .ok (.iload_n 3, 1) := by decide +kernel
theorem dL_law_1084 : decode cL_law 1084 = .ok (.iconst 1, 1) := by decide +kernel
theorem dL_law_1085 : decode cL_law 1085 = .ok (.iadd, 1) := by decide +kernel
theorem dL_law_1086 : decode cL_law 1086 = .ok (.iaload, 1) := by decide +kernel
theorem dL_law_1087 : decode cL_law 1087 = .ok (.invokevirtual 136, 3) := by decide +kernel
theorem dL_law_1090 : decode cL_law 1090 = .ok (.if_icmp .eq 308, 3) := by decide +kernel
theorem dL_law_1093 : decode cL_law 1093 = .ok (.iconst 0, 1) := by decide +kernel
theorem dL_law_1094 : decode cL_law 1094 = .ok (.ireturn, 1) := by decide +kernel
theorem dL_law_1095 : decode cL_law 1095 = .ok (.aload_n 1, 1) := by decide +kernel
theorem dL_law_1096 : decode cL_law 1096 = .ok (.aload_n 0, 1) := by decide +kernel
theorem dL_law_1097 : decode cL_law 1097 = .ok (.iload_n 3, 1) := by decide +kernel
theorem dL_law_1098 : decode cL_law 1098 = .ok (.iconst 1, 1) := by decide +kernel
theorem dL_law_1099 : decode cL_law 1099 = .ok (.iadd, 1) := by decide +kernel
theorem dL_law_1100 : decode cL_law 1100 = .ok (.iaload, 1) := by decide +kernel
theorem dL_law_1101 : decode cL_law 1101 = .ok (.aload_n 0, 1) := by decide +kernel
theorem dL_law_1102 : decode cL_law 1102 = .ok (.iload_n 3, 1) := by decide +kernel
theorem dL_law_1103 : decode cL_law 1103 = .ok (.iconst 2, 1) := by decide +kernel
theorem dL_law_1104 : decode cL_law 1104 = .ok (.iadd, 1) := by decide +kernel
theorem dL_law_1105 : decode cL_law 1105 = .ok (.iaload, 1) := by decide +kernel
theorem dL_law_1106 : decode cL_law 1106 = .ok (.aload_n 0, 1) := by decide +kernel
theorem dL_law_1107 : decode cL_law 1107 = .ok (.iload_n 3, 1) := by decide +kernel
theorem dL_law_1108 : decode cL_law 1108 = .ok (.iconst 3, 1) := by decide +kernel
theorem dL_law_1109 : decode cL_law 1109 = .ok (.iadd, 1) := by decide +kernel
theorem dL_law_1110 : decode cL_law 1110 = .ok (.iaload, 1) := by decide +kernel
theorem dL_law_1111 : decode cL_law 1111 = .ok (.invokevirtual 137, 3) := by decide +kernel
theorem dL_law_1114 : decode cL_law 1114 = .ok (.aload_n 2, 1) := by decide +kernel
theorem dL_law_1115 : decode cL_law 1115 = .ok (.aload_n 0, 1) := by decide +kernel
theorem dL_law_1116 : decode cL_law 1116 = .ok (.iload_n 3, 1) := by decide +kernel
theorem dL_law_1117 : decode cL_law 1117 = .ok (.iconst 1, 1) := by decide +kernel
theorem dL_law_1118 : decode cL_law 1118 = .ok (.iadd, 1) := by decide +kernel
theorem dL_law_1119 : decode cL_law 1119 = .ok (.iaload, 1) := by decide +kernel
theorem dL_law_1120 : decode cL_law 1120 = .ok (.aload_n 0, 1) := by decide +kernel
theorem dL_law_1121 : decode cL_law 1121 = .ok (.iload_n 3, 1) := by decide +kernel
theorem dL_law_1122 : decode cL_law 1122 = .ok (.iconst 2, 1) := by decide +kernel
theorem dL_law_1123 : decode cL_law 1123 = .ok (.iadd, 1) := by decide +kernel
theorem dL_law_1124 : decode cL_law 1124 = .ok (.iaload, 1) := by decide +kernel
theorem dL_law_1125 : decode cL_law 1125 = .ok (.aload_n 0, 1) := by decide +kernel
theorem dL_law_1126 : decode cL_law 1126 = .ok (.iload_n 3, 1) := by decide +kernel
theorem dL_law_1127 : decode cL_law 1127 = .ok (.iconst 3, 1) := by decide +kernel
theorem dL_law_1128 : decode cL_law 1128 = .ok (.iadd, 1) := by decide +kernel
theorem dL_law_1129 : decode cL_law 1129 = .ok (.iaload, 1) := by decide +kernel
theorem dL_law_1130 : decode cL_law 1130 = .ok (.invokevirtual 140, 3) := by decide +kernel
theorem dL_law_1133 : decode cL_law 1133 = .ok (.if_icmp .eq 265, 3) := by decide +kernel
theorem dL_law_1136 : decode cL_law 1136 = .ok (.iconst 0, 1) := by decide +kernel
theorem dL_law_1137 : decode cL_law 1137 = .ok (.ireturn, 1) := by decide +kernel
theorem dL_law_1138 : decode cL_law 1138 = .ok (.aload_n 1, 1) := by decide +kernel
theorem dL_law_1139 : decode cL_law 1139 = .ok (.aload_n 0, 1) := by decide +kernel
theorem dL_law_1140 : decode cL_law 1140 = .ok (.iload_n 3, 1) := by decide +kernel
theorem dL_law_1141 : decode cL_law 1141 = .ok (.iconst 1, 1) := by decide +kernel
theorem dL_law_1142 : decode cL_law 1142 = .ok (.iadd, 1) := by decide +kernel
theorem dL_law_1143 : decode cL_law 1143 = .ok (.iaload, 1) := by decide +kernel
theorem dL_law_1144 : decode cL_law 1144 = .ok (.aload_n 0, 1) := by decide +kernel
theorem dL_law_1145 : decode cL_law 1145 = .ok (.iload_n 3, 1) := by decide +kernel
theorem dL_law_1146 : decode cL_law 1146 = .ok (.iconst 2, 1) := by decide +kernel
theorem dL_law_1147 : decode cL_law 1147 = .ok (.iadd, 1) := by decide +kernel
theorem dL_law_1148 : decode cL_law 1148 = .ok (.iaload, 1) := by decide +kernel
theorem dL_law_1149 : decode cL_law 1149 = .ok (.aload_n 0, 1) := by decide +kernel
theorem dL_law_1150 : decode cL_law 1150 = .ok (.iload_n 3, 1) := by decide +kernel
theorem dL_law_1151 : decode cL_law 1151 = .ok (.iconst 3, 1) := by decide +kernel
theorem dL_law_1152 : decode cL_law 1152 = .ok (.iadd, 1) := by decide +kernel
theorem dL_law_1153 : decode cL_law 1153 = .ok (.iaload, 1) := by decide +kernel
theorem dL_law_1154 : decode cL_law 1154 = .ok (.invokevirtual 141, 3) := by decide +kernel
theorem dL_law_1157 : decode cL_law 1157 = .ok (.aload_n 2, 1) := by decide +kernel
theorem dL_law_1158 : decode cL_law 1158 = .ok (.aload_n 0, 1) := by decide +kernel
theorem dL_law_1159 : decode cL_law 1159 = .ok (.iload_n 3, 1) := by decide +kernel
theorem dL_law_1160 : decode cL_law 1160 = .ok (.iconst 1, 1) := by decide +kernel
theorem dL_law_1161 : decode cL_law 1161 = .ok (.iadd, 1) := by decide +kernel
theorem dL_law_1162 : decode cL_law 1162 = .ok (.iaload, 1) := by decide +kernel
theorem dL_law_1163 : decode cL_law 1163 = .ok (.aload_n 0, 1) := by decide +kernel
theorem dL_law_1164 : decode cL_law 1164 = .ok (.iload_n 3, 1) := by decide +kernel
theorem dL_law_1165 : decode cL_law 1165 = .ok (.iconst 2, 1) := by decide +kernel
theorem dL_law_1166 : decode cL_law 1166 = .ok (.iadd, 1) := by decide +kernel
theorem dL_law_1167 : decode cL_law 1167 = .ok (.iaload, 1) := by decide +kernel
theorem dL_law_1168 : decode cL_law 1168 = .ok (.aload_n 0, 1) := by decide +kernel
theorem dL_law_1169 : decode cL_law 1169 = .ok (.iload_n 3, 1) := by decide +kernel
theorem dL_law_1170 : decode cL_law 1170 = .ok (.iconst 3, 1) := by decide +kernel
theorem dL_law_1171 : decode cL_law 1171 = .ok (.iadd, 1) := by decide +kernel
theorem dL_law_1172 : decode cL_law 1172 = .ok (.iaload, 1) := by decide +kernel
theorem dL_law_1173 : decode cL_law 1173 = .ok (.invokevirtual 144, 3) := by decide +kernel
theorem dL_law_1176 : decode cL_law 1176 = .ok (.if_icmp .eq 222, 3) := by decide +kernel
theorem dL_law_1179 : decode cL_law 1179 = .ok (.iconst 0, 1) := by decide +kernel
theorem dL_law_1180 : decode cL_law 1180 = .ok (.ireturn, 1) := by decide +kernel
theorem dL_law_1181 : decode cL_law 1181 = .ok (.aload_n 1, 1) := by decide +kernel
theorem dL_law_1182 : decode cL_law 1182 = .ok (.aload_n 0, 1) := by decide +kernel
theorem dL_law_1183 : decode cL_law 1183 = .ok (.iload_n 3, 1) := by decide +kernel
theorem dL_law_1184 : decode cL_law 1184 = .ok (.iconst 1, 1) := by decide +kernel
theorem dL_law_1185 : decode cL_law 1185 = .ok (.iadd, 1) := by decide +kernel
theorem dL_law_1186 : decode cL_law 1186 = .ok (.iaload, 1) := by decide +kernel
theorem dL_law_1187 : decode cL_law 1187 = .ok (.aload_n 0, 1) := by decide +kernel
theorem dL_law_1188 : decode cL_law 1188 = .ok (.iload_n 3, 1) := by decide +kernel
theorem dL_law_1189 : decode cL_law 1189 = .ok (.iconst 2, 1) := by decide +kernel
theorem dL_law_1190 : decode cL_law 1190 = .ok (.iadd, 1) := by decide +kernel
theorem dL_law_1191 : decode cL_law 1191 = .ok (.iaload, 1) := by decide +kernel
theorem dL_law_1192 : decode cL_law 1192 = .ok (.aload_n 0, 1) := by decide +kernel
theorem dL_law_1193 : decode cL_law 1193 = .ok (.iload_n 3, 1) := by decide +kernel
theorem dL_law_1194 : decode cL_law 1194 = .ok (.iconst 3, 1) := by decide +kernel
theorem dL_law_1195 : decode cL_law 1195 = .ok (.iadd, 1) := by decide +kernel
theorem dL_law_1196 : decode cL_law 1196 = .ok (.iaload, 1) := by decide +kernel
theorem dL_law_1197 : decode cL_law 1197 = .ok (.aload_n 0, 1) := by decide +kernel
theorem dL_law_1198 : decode cL_law 1198 = .ok (.iload_n 3, 1) := by decide +kernel
theorem dL_law_1199 : decode cL_law 1199 = .ok (.iconst 4, 1) := by decide +kernel
theorem dL_law_1200 : decode cL_law 1200 = .ok (.iadd, 1) := by decide +kernel
theorem dL_law_1201 : decode cL_law 1201 = .ok (.iaload, 1) := by decide +kernel
theorem dL_law_1202 : decode cL_law 1202 = .ok (.aload_n 0, 1) := by decide +kernel
theorem dL_law_1203 : decode cL_law 1203 = .ok (.iload_n 3, 1) := by decide +kernel
theorem dL_law_1204 : decode cL_law 1204 = .ok (.iconst 5, 1) := by decide +kernel
theorem dL_law_1205 : decode cL_law 1205 = .ok (.iadd, 1) := by decide +kernel
theorem dL_law_1206 : decode cL_law 1206 = .ok (.iaload, 1) := by decide +kernel
theorem dL_law_1207 : decode cL_law 1207 = .ok (.invokevirtual 145, 3) := by decide +kernel
theorem dL_law_1210 : decode cL_law 1210 = .ok (.aload_n 2, 1) := by decide +kernel
theorem dL_law_1211 : decode cL_law 1211 = .ok (.aload_n 0, 1) := by decide +kernel
theorem dL_law_1212 : decode cL_law 1212 = .ok (.iload_n 3, 1) := by decide +kernel
theorem dL_law_1213 : decode cL_law 1213 = .ok (.iconst 1, 1) := by decide +kernel
theorem dL_law_1214 : decode cL_law 1214 = .ok (.iadd, 1) := by decide +kernel
theorem dL_law_1215 : decode cL_law 1215 = .ok (.iaload, 1) := by decide +kernel
theorem dL_law_1216 : decode cL_law 1216 = .ok (.aload_n 0, 1) := by decide +kernel
theorem dL_law_1217 : decode cL_law 1217 = .ok (.iload_n 3, 1) := by decide +kernel
theorem dL_law_1218 : decode cL_law 1218 = .ok (.iconst 2, 1) := by decide +kernel
theorem dL_law_1219 : decode cL_law 1219 = .ok (.iadd, 1) := by decide +kernel
theorem dL_law_1220 : decode cL_law 1220 = .ok (.iaload, 1) := by decide +kernel
theorem dL_law_1221 : decode cL_law 1221 = .ok (.aload_n 0, 1) := by decide +kernel
theorem dL_law_1222 : decode cL_law 1222 = .ok (.iload_n 3, 1) := by decide +kernel
theorem dL_law_1223 : decode cL_law 1223 = .ok (.iconst 3, 1) := by decide +kernel
theorem dL_law_1224 : decode cL_law 1224 = .ok (.iadd, 1) := by decide +kernel
theorem dL_law_1225 : decode cL_law 1225 = .ok (.iaload, 1) := by decide +kernel
theorem dL_law_1226 : decode cL_law 1226 = .ok (.aload_n 0, 1) := by decide +kernel
theorem dL_law_1227 : decode cL_law 1227 = .ok (.iload_n 3, 1) := by decide +kernel
theorem dL_law_1228 : decode cL_law 1228 = .ok (.iconst 4, 1) := by decide +kernel
theorem dL_law_1229 : decode cL_law 1229 = .ok (.iadd, 1) := by decide +kernel
theorem dL_law_1230 : decode cL_law 1230 = .ok (.iaload, 1) := by decide +kernel
theorem dL_law_1231 : decode cL_law 1231 = .ok (.aload_n 0, 1) := by decide +kernel
theorem dL_law_1232 : decode cL_law 1232 = .ok (.iload_n 3, 1) := by decide +kernel
theorem dL_law_1233 : decode cL_law 1233 = .ok (.iconst 5, 1) := by decide +kernel
theorem dL_law_1234 : decode cL_law 1234 = .ok (.iadd, 1) := by decide +kernel
theorem dL_law_1235 : decode cL_law 1235 = .ok (.iaload, 1) := by decide +kernel
theorem dL_law_1236 : decode cL_law 1236 = .ok (.invokevirtual 149, 3) := by decide +kernel
theorem dL_law_1239 : decode cL_law 1239 = .ok (.if_icmp .eq 159, 3) := by decide +kernel
theorem dL_law_1242 : decode cL_law 1242 = .ok (.iconst 0, 1) := by decide +kernel
theorem dL_law_1243 : decode cL_law 1243 = .ok (.ireturn, 1) := by decide +kernel
theorem dL_law_1244 : decode cL_law 1244 = .ok (.aload_n 1, 1) := by decide +kernel
theorem dL_law_1245 : decode cL_law 1245 = .ok (.aload_n 0, 1) := by decide +kernel
theorem dL_law_1246 : decode cL_law 1246 = .ok (.iload_n 3, 1) := by decide +kernel
theorem dL_law_1247 : decode cL_law 1247 = .ok (.iconst 1, 1) := by decide +kernel
theorem dL_law_1248 : decode cL_law 1248 = .ok (.iadd, 1) := by decide +kernel
theorem dL_law_1249 : decode cL_law 1249 = .ok (.iaload, 1) := by decide +kernel
theorem dL_law_1250 : decode cL_law 1250 = .ok (.invokevirtual 150, 3) := by decide +kernel
theorem dL_law_1253 : decode cL_law 1253 = .ok (.aload_n 2, 1) := by decide +kernel
theorem dL_law_1254 : decode cL_law 1254 = .ok (.aload_n 0, 1) := by decide +kernel
theorem dL_law_1255 : decode cL_law 1255 = .ok (.iload_n 3, 1) := by decide +kernel
theorem dL_law_1256 : decode cL_law 1256 = .ok (.iconst 1, 1) := by decide +kernel
theorem dL_law_1257 : decode cL_law 1257 = .ok (.iadd, 1) := by decide +kernel
theorem dL_law_1258 : decode cL_law 1258 = .ok (.iaload, 1) := by decide +kernel
theorem dL_law_1259 : decode cL_law 1259 = .ok (.invokevirtual 153, 3) := by decide +kernel
theorem dL_law_1262 : decode cL_law 1262 = .ok (.if_icmp .eq 136, 3) := by decide +kernel
theorem dL_law_1265 : decode cL_law 1265 = .ok (.iconst 0, 1) := by decide +kernel
theorem dL_law_1266 : decode cL_law 1266 = .ok (.ireturn, 1) := by decide +kernel
theorem dL_law_1267 : decode cL_law 1267 = .ok (.aload_n 1, 1) := by decide +kernel
theorem dL_law_1268 : decode cL_law 1268 = .ok (.aload_n 0, 1) := by decide +kernel
theorem dL_law_1269 : decode cL_law 1269 = .ok (.iload_n 3, 1) := by decide +kernel
theorem dL_law_1270 : decode cL_law 1270 = .ok (.iconst 1, 1) := by decide +kernel
theorem dL_law_1271 : decode cL_law 1271 = .ok (.iadd, 1) := by decide +kernel
theorem dL_law_1272 : decode cL_law 1272 = .ok (.iaload, 1) := by decide +kernel
theorem dL_law_1273 : decode cL_law 1273 = .ok (.invokevirtual 154, 3) := by decide +kernel
theorem dL_law_1276 : decode cL_law 1276 = .ok (.aload_n 2, 1) := by decide +kernel
theorem dL_law_1277 : decode cL_law 1277 = .ok (.aload_n 0, 1) := by decide +kernel
theorem dL_law_1278 : decode cL_law 1278 = .ok (.iload_n 3, 1) := by decide +kernel
theorem dL_law_1279 : decode cL_law 1279 = .ok (.iconst 1, 1) := by decide +kernel
theorem dL_law_1280 : decode cL_law 1280 = .ok (.iadd, 1) := by decide +kernel
theorem dL_law_1281 : decode cL_law 1281 = .ok (.iaload, 1) := by decide +kernel
theorem dL_law_1282 : decode cL_law 1282 = .ok (.invokevirtual 157, 3) := by decide +kernel
theorem dL_law_1285 : decode cL_law 1285 = .ok (.if_icmp .eq 113, 3) := by decide +kernel
theorem dL_law_1288 : decode cL_law 1288 = .ok (.iconst 0, 1) := by decide +kernel
theorem dL_law_1289 : decode cL_law 1289 = .ok (.ireturn, 1) := by decide +kernel
theorem dL_law_1290 : decode cL_law 1290 = .ok (.aload_n 1, 1) := by decide +kernel
theorem dL_law_1291 : decode cL_law 1291 = .ok (.invokevirtual 158, 3) := by decide +kernel
theorem dL_law_1294 : decode cL_law 1294 = .ok (.aload_n 2, 1) := by decide +kernel
theorem dL_law_1295 : decode cL_law 1295 = .ok (.invokevirtual 161, 3) := by decide +kernel
theorem dL_law_1298 : decode cL_law 1298 = .ok (.if_icmp .eq 100, 3) := by decide +kernel
theorem dL_law_1301 : decode cL_law 1301 = .ok (.iconst 0, 1) := by decide +kernel
theorem dL_law_1302 : decode cL_law 1302 = .ok (.ireturn, 1) := by decide +kernel
theorem dL_law_1303 : decode cL_law 1303 = .ok (.aload_n 1, 1) := by decide +kernel
theorem dL_law_1304 : decode cL_law 1304 = .ok (.invokevirtual 162, 3) := by decide +kernel
theorem dL_law_1307 : decode cL_law 1307 = .ok (.aload_n 2, 1) := by decide +kernel
theorem dL_law_1308 : decode cL_law 1308 = .ok (.invokevirtual 165, 3) := by decide +kernel
theorem dL_law_1311 : decode cL_law 1311 = .ok (.if_icmp .eq 87, 3) := by decide +kernel
theorem dL_law_1314 : decode cL_law 1314 = .ok (.iconst 0, 1) := by decide +kernel
theorem dL_law_1315 : decode cL_law 1315 = .ok (.ireturn, 1) := by decide +kernel
theorem dL_law_1316 : decode cL_law 1316 = .ok (.aload_n 1, 1) := by decide +kernel
theorem dL_law_1317 : decode cL_law 1317 = .ok (.aload_n 0, 1) := by decide +kernel
theorem dL_law_1318 : decode cL_law 1318 = .ok (.iload_n 3, 1) := by decide +kernel
theorem dL_law_1319 : decode cL_law 1319 = .ok (.iconst 1, 1) := by decide +kernel
theorem dL_law_1320 : decode cL_law 1320 = .ok (.iadd, 1) := by decide +kernel
theorem dL_law_1321 : decode cL_law 1321 = .ok (.iaload, 1) := by decide +kernel
theorem dL_law_1322 : decode cL_law 1322 = .ok (.invokevirtual 166, 3) := by decide +kernel
theorem dL_law_1325 : decode cL_law 1325 = .ok (.aload_n 2, 1) := by decide +kernel
theorem dL_law_1326 : decode cL_law 1326 = .ok (.aload_n 0, 1) := by decide +kernel
theorem dL_law_1327 : decode cL_law 1327 = .ok (.iload_n 3, 1) := by decide +kernel
theorem dL_law_1328 : decode cL_law 1328 = .ok (.iconst 1, 1) := by decide +kernel
theorem dL_law_1329 : decode cL_law 1329 = .ok (.iadd, 1) := by decide +kernel
theorem dL_law_1330 : decode cL_law 1330 = .ok (.iaload, 1) := by decide +kernel
theorem dL_law_1331 : decode cL_law 1331 = .ok (.invokevirtual 169, 3) := by decide +kernel
theorem dL_law_1334 : decode cL_law 1334 = .ok (.if_icmp .eq 64, 3) := by decide +kernel
theorem dL_law_1337 : decode cL_law 1337 = .ok (.iconst 0, 1) := by decide +kernel
theorem dL_law_1338 : decode cL_law 1338 = .ok (.ireturn, 1) := by decide +kernel
theorem dL_law_1339 : decode cL_law 1339 = .ok (.aload_n 1, 1) := by decide +kernel
theorem dL_law_1340 : decode cL_law 1340 = .ok (.invokevirtual 170, 3) := by decide +kernel
theorem dL_law_1343 : decode cL_law 1343 = .ok (.aload_n 2, 1) := by decide +kernel
theorem dL_law_1344 : decode cL_law 1344 = .ok (.invokevirtual 173, 3) := by decide +kernel
theorem dL_law_1347 : decode cL_law 1347 = .ok (.if_icmp .eq 51, 3) := by decide +kernel
theorem dL_law_1350 : decode cL_law 1350 = .ok (.iconst 0, 1) := by decide +kernel
theorem dL_law_1351 : decode cL_law 1351 = .ok (.ireturn, 1) := by decide +kernel
theorem dL_law_1352 : decode cL_law 1352 = .ok (.aload_n 1, 1) := by decide +kernel
theorem dL_law_1353 : decode cL_law 1353 = .ok (.aload_n 0, 1) := by decide +kernel
theorem dL_law_1354 : decode cL_law 1354 = .ok (.iload_n 3, 1) := by decide +kernel
theorem dL_law_1355 : decode cL_law 1355 = .ok (.iconst 1, 1) := by decide +kernel
theorem dL_law_1356 : decode cL_law 1356 = .ok (.iadd, 1) := by decide +kernel
theorem dL_law_1357 : decode cL_law 1357 = .ok (.iaload, 1) := by decide +kernel
theorem dL_law_1358 : decode cL_law 1358 = .ok (.invokevirtual 174, 3) := by decide +kernel
theorem dL_law_1361 : decode cL_law 1361 = .ok (.aload_n 2, 1) := by decide +kernel
theorem dL_law_1362 : decode cL_law 1362 = .ok (.aload_n 0, 1) := by decide +kernel
theorem dL_law_1363 : decode cL_law 1363 = .ok (.iload_n 3, 1) := by decide +kernel
theorem dL_law_1364 : decode cL_law 1364 = .ok (.iconst 1, 1) := by decide +kernel
theorem dL_law_1365 : decode cL_law 1365 = .ok (.iadd, 1) := by decide +kernel
theorem dL_law_1366 : decode cL_law 1366 = .ok (.iaload, 1) := by decide +kernel
theorem dL_law_1367 : decode cL_law 1367 = .ok (.invokevirtual 177, 3) := by decide +kernel
theorem dL_law_1370 : decode cL_law 1370 = .ok (.if_icmp .eq 28, 3) := by decide +kernel
theorem dL_law_1373 : decode cL_law 1373 = .ok (.iconst 0, 1) := by decide +kernel
theorem dL_law_1374 : decode cL_law 1374 = .ok (.ireturn, 1) := by decide +kernel
theorem dL_law_1375 : decode cL_law 1375 = .ok (.aload_n 1, 1) := by decide +kernel
theorem dL_law_1376 : decode cL_law 1376 = .ok (.aload_n 0, 1) := by decide +kernel
theorem dL_law_1377 : decode cL_law 1377 = .ok (.iload_n 3, 1) := by decide +kernel
theorem dL_law_1378 : decode cL_law 1378 = .ok (.iconst 1, 1) := by decide +kernel
theorem dL_law_1379 : decode cL_law 1379 = .ok (.iadd, 1) := by decide +kernel
theorem dL_law_1380 : decode cL_law 1380 = .ok (.iaload, 1) := by decide +kernel
theorem dL_law_1381 : decode cL_law 1381 = .ok (.invokevirtual 178, 3) := by decide +kernel
theorem dL_law_1384 : decode cL_law 1384 = .ok (.aload_n 2, 1) := by decide +kernel
theorem dL_law_1385 : decode cL_law 1385 = .ok (.aload_n 0, 1) := by decide +kernel
theorem dL_law_1386 : decode cL_law 1386 = .ok (.iload_n 3, 1) := by decide +kernel
theorem dL_law_1387 : decode cL_law 1387 = .ok (.iconst 1, 1) := by decide +kernel
theorem dL_law_1388 : decode cL_law 1388 = .ok (.iadd, 1) := by decide +kernel
theorem dL_law_1389 : decode cL_law 1389 = .ok (.iaload, 1) := by decide +kernel
theorem dL_law_1390 : decode cL_law 1390 = .ok (.invokevirtual 181, 3) := by decide +kernel
theorem dL_law_1393 : decode cL_law 1393 = .ok (.if_icmp .eq 5, 3) := by decide +kernel
theorem dL_law_1396 : decode cL_law 1396 = .ok (.iconst 0, 1) := by decide +kernel
theorem dL_law_1397 : decode cL_law 1397 = .ok (.ireturn, 1) := by decide +kernel
theorem dL_law_1398 : decode cL_law 1398 = .ok (.iinc 3 6, 3) := by decide +kernel
theorem dL_law_1401 : decode cL_law 1401 = .ok (.goto (-1383), 3) := by decide +kernel
theorem dL_law_1404 : decode cL_law 1404 = .ok (.iconst 1, 1) := by decide +kernel
theorem dL_law_1405 : decode cL_law 1405 = .ok (.ireturn, 1) := by decide +kernel
end
section
def kdL_c : List Nat := [8, 0, 1, 10, 10, 1, 10, 10, 2, 10, 10, 10, 10, 10, 10, 10, 10, 7, 11, 10, 0, 1, 10, 10, 1, 10, 10, 2, 10, 10, 10, 10, 10, 10, 10, 10, 7, 11, 10, 2, 10, 10, 10, 10, 10, 10, 10, 10, 4, 10, 7, 11, 3, 10, 10, 6, 10, 12, 5, 10, 5, 10, 5, 10, 5, 10, 10]
def lnL_c : List Nat := [9, 7, 5, 60, 60, 5, 60, 60, 15, 6, 6, 9, 9, 9, 9, 6, 7, 2, 60, 24, 7, 5, 60, 60, 5, 60, 60, 15, 6, 6, 9, 9, 9, 9, 6, 7, 2, 60, 24, 15, 6, 6, 9, 9, 9, 9, 6, 7, 6, 60, 2, 60, 2, 512, 512, 6, 30, 4, 3, 24, 3, 24, 3, 24, 3, 24, 7]
def srL_c : List (List Nat) := [[1, 20, 39, 48, 52, 55, 57, 66, 0], [2, 5, 8, 17, 19, 0, 0], [110, 0, 3, 4, 0], [], [], [111, 0, 6, 7, 0], [], [], [2, 5, 9, 10, 11, 12, 13, 14, 15, 16, 0, 0, 0, 0, 0], [], [], [], [], [], [], [], [], [18, 0], [], [], [21, 24, 27, 36, 38, 0, 0], [110, 0, 22, 23, 0], [], [], [111, 0, 25, 26, 0], [], [], [21, 24, 28, 29, 30, 31, 32, 33, 34, 35, 0, 0, 0, 0, 0], [], [], [], [], [], [], [], [], [37, 0], [], [], [2, 5, 40, 41, 42, 43, 44, 45, 46, 47, 0, 0, 0, 0, 0], [], [], [], [], [], [], [], [], [49, 50, 112, 0, 0, 0], [], [51, 0], [], [53, 54], [], [], [56, 0, 0, 0, 0, 0], [], [58, 60, 62, 64], [59, 0, 0], [], [61, 0, 0], [], [63, 0, 0], [], [65, 0, 0], [], []]
/-- what is not 0 at first -/
def mu0L_c : List (Nat × Nat × Int32) := [(1, 6, 1), (2, 1, 19), (5, 1, 99), (16, 0, 20), (16, 1, 20), (16, 2, 20), (16, 3, 20), (16, 4, 20), (16, 5, 20), (16, 6, 20), (20, 6, 1), (21, 1, 19), (24, 1, 99), (35, 0, 20), (35, 1, 20), (35, 2, 20), (35, 3, 20), (35, 4, 20), (35, 5, 20), (35, 6, 20), (47, 0, 20), (47, 1, 20), (47, 2, 20), (47, 3, 20), (47, 4, 20), (47, 5, 20), (47, 6, 20), (48, 1, 50), (48, 2, 112)]
def cnt_c : Nat := 67
def kdL_r : List Nat := [9, 10, 10, 10, 10, 10, 10, 10, 10, 10, 10, 10, 10, 10, 10, 10]
def lnL_r : List Nat := [23, 395, 395, 395, 7, 4, 4, 96, 60, 60, 3, 60, 512, 512, 512, 30]
def srL_r : List (List Nat) := [[1, 2, 3, 0, 4, 5, 6, 7, 8, 9, 10, 11, 0, 0, 0, 0, 0, 12, 13, 14, 15, 0, 0], [], [], [], [], [], [], [], [], [], [], [], [], [], [], []]
/-- what is not 0 at first -/
def mu0L_r : List (Nat × Nat × Int32) := [(1, 1, 1), (1, 8, 20), (1, 9, 20), (1, 10, 20), (1, 11, 20), (1, 12, 20), (1, 13, 20), (1, 14, 20)]
def cnt_r : Nat := 16
def kd (b : Bool) (i : Nat) : Nat := (bif b then kdL_c else kdL_r).getD i 99
def ln (b : Bool) (i : Nat) : Nat := (bif b then lnL_c else lnL_r).getD i 0
def sr (b : Bool) (i k : Nat) : Nat := ((bif b then srL_c else srL_r).getD i []).getD k 0
def cnt (b : Bool) : Nat := bif b then cnt_c else cnt_r
def tfL : List (List Nat) := [[1, 1, 1, 1, 1, 0, 0], [1, 0, 1, 1, 0], [1, 1, 1, 1, 1, 1, 1, 1, 1, 1, 0, 0, 0, 0, 0], [1, 1], [1, 2, 2, 0, 0, 0], [1, 0, 0], [1, 0, 0, 0, 0, 0], [1, 0], [1, 1, 1, 1, 1, 1, 1, 1, 0], [1, 1, 1, 0, 1, 1, 1, 1, 1, 1, 1, 1, 0, 0, 0, 0, 0, 1, 1, 1, 1, 0, 0]]
def tf (c k : Nat) : Nat := (tfL.getD c []).getD k 0
def nf (c : Nat) : Nat := (tfL.getD c []).length
abbrev Mem : Type := Nat → Nat → Int32
def up (μ : Mem) (i j : Nat) (v : Int32) : Mem := fun a b => if a = i ∧ b = j then v else μ a b
def mu0 (b : Bool) : Mem := fun i k => match (bif b then mu0L_c else mu0L_r).find? (fun t => t.1 == i && t.2.1 == k) with | some t => t.2.2 | none => 0
/-- links to what is private in a class of the same nest -/
def nestL : List Cond := [.fieldLinkNest "GateMinds$Speech" 43 "GateMinds" "KIND_ABOVE" "[I" "GateMinds", .methodLinkNest "GateMinds$Moor" 89 ⟨"GateMinds", "isField", "(I)Z"⟩ "GateMinds", .methodLinkNest "GateMinds$Sheet" 34 ⟨"GateMinds", "isField", "(I)Z"⟩ "GateMinds"]
end
section
/-! THE WORLD: all cells of one side (b: the class's, else the reference's), at addresses D.1 0, D.1 1, ..; what stands in them is told by a memory μ; and a judgement G over it -/
abbrev DT : Type := (Nat → Nat) × (Nat → ClassId) × (Nat → Nat → Nat) × (Nat → ClassId)
abbrev tysD (D : DT) : List (ClassId × FieldType) := [(D.2.2.2 0, .int), (D.2.2.2 1, .byte), (D.2.2.2 2, .object RX5)]
abbrev gD (D : DT) : va_G := (D.2.1, D.2.2.1)
/-- a field's value -/
def fv (D : DT) (b : Bool) (μ : Mem) (i c k : Nat) : Value := if tf c k = 0 then .int (μ i k) else if tf c k = 1 then .ref (D.1 (sr b i k)) else .ref (D.1 (μ i k).toNatClampNeg)
def ent (D : DT) (b : Bool) (μ : Mem) (i : Nat) : va_E :=
  if kd b i < 10 then .inr (kd b i, (List.range (nf (kd b i))).map (fv D b μ i (kd b i)))
  else if kd b i = 10 then .inl (D.2.2.2 0, ln b i, .inl (μ i))
  else if kd b i = 11 then .inl (D.2.2.2 1, ln b i, .inl (μ i))
  else .inl (D.2.2.2 2, ln b i, .inr (.inr (.inr (.inr (fun j => some (D.1 (sr b i j)))))))
def cellsD (D : DT) (b : Bool) (μ : Mem) : va_W := (List.range (cnt b)).map (fun i => (D.1 i, ent D b μ i))
def AI (D : DT) (b : Bool) : Nat → Prop := fun a => ∃ i, i < cnt b ∧ a = D.1 i
def inB (x : Int32) : Prop := fits .byte (.int x) = true
def Wd (D : DT) (b : Bool) (μ : Mem) (H : Heap) : Prop := va_P (gD D) vwCl (cellsD D b μ) H ∧ va_D (AI D b) (cellsD D b μ) ∧ ∀ i j, kd b i = 11 → inB (μ i j)
theorem kd_lt {b : Bool} {i k : Nat} (h : kd b i = k) (hk : k < 20) : i < cnt b := by
  rcases Nat.lt_or_ge i (cnt b) with q | q
  · exact q
  · exfalso
    have h2 : kd b i = 99 := by
      unfold kd
      cases b
      · exact (by rw [List.getD_eq_getElem?_getD, List.getElem?_eq_none (show kdL_r.length ≤ i from q)]; rfl : kdL_r.getD i 99 = 99)
      · exact (by rw [List.getD_eq_getElem?_getD, List.getElem?_eq_none (show kdL_c.length ≤ i from q)]; rfl : kdL_c.getD i 99 = 99)
    omega
theorem cellsD_at {D : DT} {b : Bool} {μ : Mem} {i : Nat} (h : i < cnt b) : (cellsD D b μ)[i]? = some (D.1 i, ent D b μ i) := by
  unfold cellsD
  rw [List.getElem?_map, List.getElem?_range h]
  rfl
theorem up_s {μ : Mem} {i j : Nat} {v : Int32} : up μ i j v i j = v := by simp [up]
theorem up_n {μ : Mem} {i j a c : Nat} {v : Int32} (h : ¬ (a = i ∧ c = j)) : up μ i j v a c = μ a c := by simp [up, h]
theorem ent_up {D : DT} {b : Bool} {μ : Mem} {i j a : Nat} {v : Int32} (h : a ≠ i) : ent D b (up μ i j v) a = ent D b μ a := by
  have h1 : (up μ i j v) a = μ a := by funext c; exact up_n (fun q => h q.1)
  have h2 : fv D b (up μ i j v) a (kd b a) = fv D b μ a (kd b a) := by funext c; simp only [fv, h1]
  simp only [ent, h1, h2]
theorem cellsD_set {D : DT} {b : Bool} {μ μ2 : Mem} {i : Nat} {e : va_E} (h : i < cnt b) (he : ent D b μ2 i = e) (ho : ∀ a, a ≠ i → ent D b μ2 a = ent D b μ a) : (cellsD D b μ).set i (D.1 i, e) = cellsD D b μ2 := by
  apply List.ext_getElem?
  intro k
  unfold cellsD
  rw [List.getElem?_set, List.getElem?_map, List.getElem?_map]
  by_cases hk : i = k
  · subst hk
    rw [if_pos rfl, List.length_map, List.length_range, if_pos h, List.getElem?_range h]
    simp [he]
  · rw [if_neg hk]
    by_cases hl : k < cnt b
    · rw [List.getElem?_range hl]
      simp [ho k (fun q => hk q.symm)]
    · rw [List.getElem?_eq_none (by simpa using Nat.not_lt.mp hl)]
      rfl
theorem flds_set {D : DT} {b : Bool} {μ : Mem} {i c k N : Nat} {v : Int32} (hk : k < N) (w : Value) (hw : fv D b (up μ i k v) i c k = w) : ((List.range N).map (fv D b μ i c)).set k w = (List.range N).map (fv D b (up μ i k v) i c) := by
  apply List.ext_getElem?
  intro n
  rw [List.getElem?_set, List.getElem?_map, List.getElem?_map]
  by_cases hn : k = n
  · subst hn
    rw [if_pos rfl, List.length_map, List.length_range, if_pos hk, List.getElem?_range hk, Option.map_some, hw]
  · rw [if_neg hn]
    by_cases hl : n < N
    · rw [List.getElem?_range hl, Option.map_some, Option.map_some]
      have h1 : (up μ i k v) i n = μ i n := up_n (fun q => hn q.2.symm)
      unfold fv
      rw [h1]
    · rw [List.getElem?_eq_none (by simpa using Nat.not_lt.mp hl), Option.map_none, Option.map_none]
/-! what is fixed: statics and texts that nobody writes -/
def KA : List Int32 := [-1, 0, 0, 0, 1, 2, 0]
def BO : List Int32 := [10, 11, 12, 13, 20, 0, 0, 21, 0, 30, 0, 0, 0, 0, 40, 0, 50, 0, 51, 0, 0, 60, 0, 0, 70, 71, 0, 0]
def sLen : List Nat := [3, 3, 0]
def sByt : List (List Int32) := [[119, 104, 103], [103, 102, 100], []]
def EnvD (D : DT) (A : Nat → Prop) (s : State) : Prop :=
  va_Z "GateMinds" "KIND_ABOVE" "[I" (.ref (D.1 100)) A s s.heap ∧ va_T .int (D.1 100) 7 (fun j => .int (KA.getD j 0)) A s s.heap ∧
  va_Z "GateMinds$Speech" "BODIES" "[I" (.ref (D.1 101)) A s s.heap ∧ va_T .int (D.1 101) 28 (fun j => .int (BO.getD j 0)) A s s.heap ∧
  va_Z "java/lang/String" "COMPACT_STRINGS" "Z" (.int 1) A s s.heap ∧
  vk_S 3 sLen sByt (fun i => D.1 (110 + i)) (fun i => D.1 (120 + i)) A s s.heap ∧
  vk_R RX0 11 "whg" (D.1 110) s ∧ vk_R RX0 22 "gfd" (D.1 111) s ∧ vk_R RX4 22 "" (D.1 112) s ∧ ∀ w ∈ nestL, va_Nw w s
/-- a contract's start -/
def Sg (D : DT) (b : Bool) (μ : Mem) (U : State) : Prop := Wd D b μ U.heap ∧ va_K (gD D) vwCl (tysD D) U ∧ (b = true → EnvD D (AI D true) U)
def Qr (D : DT) (b : Bool) (v : Option Value) (μ' : Mem) : Array Value → State → Outcome → State → Prop := fun _ st o t => o = .returned v ∧ Wd D b μ' t.heap ∧ va_F (AI D b) st t
def rmD (d : Nat) : Room := { frames := d, cells := 0, slots := 0, locals := 40 * d }
/-! words -/
def BIG : List Cond := lw_tbl.filter goodWord
def wsA (y : MethodName) (cc : ByteArray) (nL : Nat) (ret : Option FieldType) : List Cond := .code y cc nL ret :: BIG
theorem bigAt {w : Cond} (i : Nat) (h : lw_tbl[i]? = some w) (hg : goodWord w = true) : w ∈ BIG := List.mem_filter.mpr ⟨List.mem_of_getElem? h, hg⟩
theorem big_good {w : Cond} (h : w ∈ BIG) : (w.onTables && w.keeps) = true ∨ ∃ ty, w = .arrayClass ty := good_of_word (List.mem_filter.mp h).2
theorem goodA {y y2 : MethodName} {cc cc2 : ByteArray} {nL nL2 : Nat} {ret ret2 : Option FieldType} (h : Cond.code y2 cc2 nL2 ret2 ∈ BIG) : GoodIn (wsA y cc nL ret) (wsA y2 cc2 nL2 ret2) := by
  intro w hw
  have hb : w ∈ BIG := by
    rcases List.mem_cons.mp hw with rfl | q
    · exact h
    · exact q
  exact ⟨List.mem_cons_of_mem _ hb, big_good hb⟩
theorem goodL {y2 : MethodName} {cc2 : ByteArray} {nL2 : Nat} {ret2 : Option FieldType} (h : Cond.code y2 cc2 nL2 ret2 ∈ BIG) : GoodIn lw_tbl (wsA y2 cc2 nL2 ret2) := by
  intro w hw
  have hb : w ∈ BIG := by
    rcases List.mem_cons.mp hw with rfl | q
    · exact h
    · exact q
  exact ⟨(List.mem_filter.mp hb).1, big_good hb⟩
/-! locals by places -/
def toA : Nat → List (Option Value) → List (Nat × Value)
  | _, [] => []
  | i, some v :: l => (i, v) :: toA (i + 1) l
  | i, none :: l => toA (i + 1) l
theorem toA_mem {l : List (Option Value)} : ∀ {i k : Nat} {v : Value}, (k, v) ∈ toA i l ↔ ∃ j, k = i + j ∧ l[j]? = some (some v) := by
  induction l with
  | nil => intro i k v; simp [toA]
  | cons a l ih =>
    intro i k v
    cases a with
    | none =>
      simp only [toA, ih]
      constructor
      · rintro ⟨j, rfl, h⟩
        exact ⟨j + 1, by omega, by simpa using h⟩
      · rintro ⟨j, rfl, h⟩
        cases j with
        | zero => simp at h
        | succ j => exact ⟨j, by omega, by simpa using h⟩
    | some a =>
      simp only [toA, List.mem_cons, Prod.mk.injEq, ih]
      constructor
      · rintro (⟨rfl, rfl⟩ | ⟨j, rfl, h⟩)
        · exact ⟨0, rfl, by simp⟩
        · exact ⟨j + 1, by omega, by simpa using h⟩
      · rintro ⟨j, rfl, h⟩
        cases j with
        | zero => left; simp at h; exact ⟨rfl, h.symm⟩
        | succ j => right; exact ⟨j, by omega, by simpa using h⟩
def lvP (ls : Array Slot) (nL : Nat) (l : List (Option Value)) : Prop := lv_has ls nL (toA 0 l)
theorem lvP_at {ls : Array Slot} {nL i : Nat} {l : List (Option Value)} {v : Value} (h : lvP ls nL l) (hi : l[i]? = some (some v)) : ls[i]? = some (.val v) := h.2.2 (i, v) (toA_mem.mpr ⟨i, by omega, hi⟩)
/-- the place ahead of i holds no wide value -/
def okP (l : List (Option Value)) (i : Nat) : Bool := match i with
  | 0 => true
  | j + 1 => match l[j]? with
    | some (some v) => v.category == 1
    | _ => true
theorem lvP_of {ls : Array Slot} {nL : Nat} {lv : List (Nat × Value)} {l : List (Option Value)} (h : lv_has ls nL lv) (hs : ∀ q ∈ toA 0 l, q ∈ lv) : lvP ls nL l := ⟨h.1, h.2.1, fun q hq => h.2.2 q (hs q hq)⟩
theorem set_sub {l : List (Option Value)} {i : Nat} {v : Value} (hp : okP l i = true) : ∀ q ∈ toA 0 (l.set i (some v)), q ∈ (i, v) :: (toA 0 l).filter (fun q => !(q.1 == i) && !(q.1 + 1 == i && q.2.category == 2)) := by
  rintro ⟨k, w⟩ hq
  obtain ⟨j, rfl, hj⟩ := toA_mem.mp hq
  rw [Nat.zero_add]
  rw [List.getElem?_set] at hj
  by_cases hij : i = j
  · subst hij
    rw [if_pos rfl] at hj
    split at hj
    · cases hj; exact List.mem_cons_self
    · cases hj
  · rw [if_neg hij] at hj
    refine List.mem_cons_of_mem _ (List.mem_filter.mpr ⟨toA_mem.mpr ⟨j, by omega, hj⟩, ?_⟩)
    have h1 : (j == i) = false := by simpa using fun q => hij q.symm
    simp only [h1, Bool.not_false, Bool.true_and]
    by_cases h2 : j + 1 = i
    · subst h2
      simp only [okP, hj] at hp
      have : (w.category == 2) = false := by
        have h3 := eq_of_beq hp
        rw [h3]; rfl
      simp [this]
    · have : (j + 1 == i) = false := by simpa using h2
      simp [this]
theorem lvP_set {ls : Array Slot} {nL i : Nat} {l l' : List (Option Value)} {v : Value} (h : lv_has ls nL ((i, v) :: (toA 0 l).filter (fun q => !(q.1 == i) && !(q.1 + 1 == i && q.2.category == 2)))) (hp : okP l i = true) (hl : l.set i (some v) = l') : lvP ls nL l' := by
  subst hl
  exact lvP_of h (set_sub hp)
def entL : List Value → List (Option Value)
  | [] => []
  | v :: vs => if v.category = 2 then some v :: none :: entL vs else some v :: entL vs
theorem entL_sub : ∀ (vs : List Value) (i : Nat), toA i (entL vs) = lv_args i vs
  | [], i => rfl
  | v :: vs, i => by
    unfold entL lv_args
    by_cases h : v.category = 2
    · rw [if_pos h, if_pos h]
      simp only [toA]
      rw [entL_sub vs (i + 1 + 1)]
    · rw [if_neg h, if_neg h]
      simp only [toA]
      rw [entL_sub vs (i + 1)]
theorem toA_app (l : List (Option Value)) (n : Nat) : ∀ i, toA i (l ++ List.replicate n none) = toA i l := by
  induction l with
  | nil =>
    intro i
    induction n generalizing i with
    | zero => rfl
    | succ n ih =>
      show toA i (none :: ([] ++ List.replicate n none)) = _
      simp only [toA]
      rw [ih]
      rfl
  | cons a l ih =>
    intro i
    cases a with
    | none => simp only [List.cons_append, toA, ih]
    | some a => simp only [List.cons_append, toA, ih]
/-! the judgement -/
abbrev XT : Type := Program × Env × Room × State × MethodId × Array Value × List Frame × Method × Code
def Cx (l : Launch) (D : DT) (b : Bool) (X : XT) (d : Nat) (own : String) (cc : ByteArray) (nL : Nat) (ret : Option FieldType) : Prop := match X with
  | (p, _, R, s, m, args, _, meth, c) => p.tables.exec = Jvm.exec ∧ c.code = cc ∧ c.maxLocals = nL ∧ s.vm.findClass own = some m.cls ∧ (∀ w ∈ BIG, w.before args s = true) ∧ meth.sig.returnType = ret ∧ meth.locks = false ∧ R = rmD d ∧ va_K (gD D) vwCl (tysD D) s ∧ (b = true → EnvD D (AI D true) s)
def G (l : Launch) (D : DT) (b : Bool) (X : XT) (nL : Nat) (v : Option Value) (μ' : Mem) (pc : Nat) (lc : List (Option Value)) (st : List Value) (μ : Mem) : Prop := match X with
  | (p, e, R, s, m, args, below, meth, c) => ∀ (H : Heap) (locs : List Loc) (ls : Array Slot), Wd D b μ H → va_S (AI D b) s.heap H locs → lvP ls nL lc → W p l e R s m args below meth c H locs 0 0 (MQ below (Qr D b v μ') args s 0 0 (AI D b)) (F0 m pc ls st)
def Ct (l : Launch) (D : DT) (b : Bool) (d : Nat) (y : MethodName) (cc : ByteArray) (nL : Nat) (ret : Option FieldType) (as : List Value) (μ : Mem) (v : Option Value) (μ' : Mem) : Prop :=
  Met l y (wsA y cc nL ret) (rmD d) (va_Pc as (Sg D b μ)) (Qr D b v μ') 0 0 (AI D b)
end
section
section GR
variable {l : Launch} {D : DT} {b : Bool} {X : XT} {d : Nat} {own : String} {cc : ByteArray} {nL : Nat} {ret : Option FieldType} {v : Option Value} {μ μ' : Mem} {pc : Nat} {lc lc' : List (Option Value)} {st : List Value}

theorem g_iconst {n : Int} {x : Int32} (hX : Cx l D b X d own cc nL ret) (hd : decode cc pc = .ok (.iconst n, 1)) (hv : Int32.ofInt n = x) (k : G l D b X nL v μ' (pc + 1) lc (.int x :: st) μ) : G l D b X nL v μ' pc lc st μ := by
  obtain ⟨p, e, R, s, m, args, below, meth, c⟩ := X
  exact fun H locs ls hW hS hl => lv_iconst hX.1 hX.2.1 hd hv (k H locs ls hW hS hl)
theorem g_bipush {n : Int} {x : Int32} (hX : Cx l D b X d own cc nL ret) (hd : decode cc pc = .ok (.bipush n, 2)) (hv : (Int8.ofInt n).toInt32 = x) (k : G l D b X nL v μ' (pc + 2) lc (.int x :: st) μ) : G l D b X nL v μ' pc lc st μ := by
  obtain ⟨p, e, R, s, m, args, below, meth, c⟩ := X
  exact fun H locs ls hW hS hl => lv_bipush hX.1 hX.2.1 hd hv (k H locs ls hW hS hl)
theorem g_sipush {n : Int} {x : Int32} (hX : Cx l D b X d own cc nL ret) (hd : decode cc pc = .ok (.sipush n, 3)) (hv : (Int16.ofInt n).toInt32 = x) (k : G l D b X nL v μ' (pc + 3) lc (.int x :: st) μ) : G l D b X nL v μ' pc lc st μ := by
  obtain ⟨p, e, R, s, m, args, below, meth, c⟩ := X
  exact fun H locs ls hW hS hl => lv_sipush hX.1 hX.2.1 hd hv (k H locs ls hW hS hl)
theorem g_ldc {index : Nat} {x : Int32} (hX : Cx l D b X d own cc nL ret) (hd : decode cc pc = .ok (.ldc index, 2)) (hw : Cond.constant own index x ∈ BIG) (k : G l D b X nL v μ' (pc + 2) lc (.int x :: st) μ) : G l D b X nL v μ' pc lc st μ := by
  obtain ⟨p, e, R, s, m, args, below, meth, c⟩ := X
  exact fun H locs ls hW hS hl => lv_ldc hX.1 hX.2.1 hX.2.2.2.1 (hX.2.2.2.2.1 _ hw) hd (k H locs ls hW hS hl)
theorem g_ldcw {index : Nat} {x : Int32} (hX : Cx l D b X d own cc nL ret) (hd : decode cc pc = .ok (.ldc_w index, 3)) (hw : Cond.constant own index x ∈ BIG) (k : G l D b X nL v μ' (pc + 3) lc (.int x :: st) μ) : G l D b X nL v μ' pc lc st μ := by
  obtain ⟨p, e, R, s, m, args, below, meth, c⟩ := X
  exact fun H locs ls hW hS hl => lv_ldcw hX.1 hX.2.1 hX.2.2.2.1 (hX.2.2.2.2.1 _ hw) hd (k H locs ls hW hS hl)
theorem g_ldc2 {index : Nat} {x : Int64} (hX : Cx l D b X d own cc nL ret) (hd : decode cc pc = .ok (.ldc2_w index, 3)) (hw : Cond.constantLong own index x ∈ BIG) (k : G l D b X nL v μ' (pc + 3) lc (.long x :: st) μ) : G l D b X nL v μ' pc lc st μ := by
  obtain ⟨p, e, R, s, m, args, below, meth, c⟩ := X
  exact fun H locs ls hW hS hl => lv_ldc2 hX.1 hX.2.1 hX.2.2.2.1 (hX.2.2.2.2.1 _ hw) hd (k H locs ls hW hS hl)
theorem g_iload_n {i : Fin 4} {n : Nat} {x : Int32} (hX : Cx l D b X d own cc nL ret) (hd : decode cc pc = .ok (.iload_n i, 1)) (hi : (i : Nat) = n) (hl0 : lc[n]? = some (some (.int x))) (k : G l D b X nL v μ' (pc + 1) lc (.int x :: st) μ) : G l D b X nL v μ' pc lc st μ := by
  obtain ⟨p, e, R, s, m, args, below, meth, c⟩ := X
  exact fun H locs ls hW hS hl => lv_iload_n hX.1 hX.2.1 hd hi (lvP_at hl hl0) (k H locs ls hW hS hl)
theorem g_iload {n : Nat} {x : Int32} (hX : Cx l D b X d own cc nL ret) (hd : decode cc pc = .ok (.iload n, 2)) (hl0 : lc[n]? = some (some (.int x))) (k : G l D b X nL v μ' (pc + 2) lc (.int x :: st) μ) : G l D b X nL v μ' pc lc st μ := by
  obtain ⟨p, e, R, s, m, args, below, meth, c⟩ := X
  exact fun H locs ls hW hS hl => lv_iload hX.1 hX.2.1 hd (lvP_at hl hl0) (k H locs ls hW hS hl)
theorem g_aload_n {i : Fin 4} {n : Nat} {x : Nat} (hX : Cx l D b X d own cc nL ret) (hd : decode cc pc = .ok (.aload_n i, 1)) (hi : (i : Nat) = n) (hl0 : lc[n]? = some (some (.ref x))) (k : G l D b X nL v μ' (pc + 1) lc (.ref x :: st) μ) : G l D b X nL v μ' pc lc st μ := by
  obtain ⟨p, e, R, s, m, args, below, meth, c⟩ := X
  exact fun H locs ls hW hS hl => lv_aload_n hX.1 hX.2.1 hd hi (lvP_at hl hl0) (k H locs ls hW hS hl)
theorem g_aload {n : Nat} {x : Nat} (hX : Cx l D b X d own cc nL ret) (hd : decode cc pc = .ok (.aload n, 2)) (hl0 : lc[n]? = some (some (.ref x))) (k : G l D b X nL v μ' (pc + 2) lc (.ref x :: st) μ) : G l D b X nL v μ' pc lc st μ := by
  obtain ⟨p, e, R, s, m, args, below, meth, c⟩ := X
  exact fun H locs ls hW hS hl => lv_aload hX.1 hX.2.1 hd (lvP_at hl hl0) (k H locs ls hW hS hl)
theorem g_lload_n {i : Fin 4} {n : Nat} {x : Int64} (hX : Cx l D b X d own cc nL ret) (hd : decode cc pc = .ok (.lload_n i, 1)) (hi : (i : Nat) = n) (hl0 : lc[n]? = some (some (.long x))) (k : G l D b X nL v μ' (pc + 1) lc (.long x :: st) μ) : G l D b X nL v μ' pc lc st μ := by
  obtain ⟨p, e, R, s, m, args, below, meth, c⟩ := X
  exact fun H locs ls hW hS hl => lv_lload_n hX.1 hX.2.1 hd hi (lvP_at hl hl0) (k H locs ls hW hS hl)
theorem g_lload {n : Nat} {x : Int64} (hX : Cx l D b X d own cc nL ret) (hd : decode cc pc = .ok (.lload n, 2)) (hl0 : lc[n]? = some (some (.long x))) (k : G l D b X nL v μ' (pc + 2) lc (.long x :: st) μ) : G l D b X nL v μ' pc lc st μ := by
  obtain ⟨p, e, R, s, m, args, below, meth, c⟩ := X
  exact fun H locs ls hW hS hl => lv_lload hX.1 hX.2.1 hd (lvP_at hl hl0) (k H locs ls hW hS hl)
theorem g_istore_n {i : Fin 4} {n : Nat} {x : Int32} (hX : Cx l D b X d own cc nL ret) (hd : decode cc pc = .ok (.istore_n i, 1)) (hi : (i : Nat) = n) (hn : n < nL) (hp : okP lc n = true) (hl0 : lc.set n (some (.int x)) = lc') (k : G l D b X nL v μ' (pc + 1) lc' st μ) : G l D b X nL v μ' pc lc (.int x :: st) μ := by
  obtain ⟨p, e, R, s, m, args, below, meth, c⟩ := X
  exact fun H locs ls hW hS hl => lv_istore_n hX.1 hX.2.1 hd hi hl hn rfl (fun ls' hl' => k H locs ls' hW hS (lvP_set hl' hp hl0))
theorem g_istore {n : Nat} {x : Int32} (hX : Cx l D b X d own cc nL ret) (hd : decode cc pc = .ok (.istore n, 2)) (hn : n < nL) (hp : okP lc n = true) (hl0 : lc.set n (some (.int x)) = lc') (k : G l D b X nL v μ' (pc + 2) lc' st μ) : G l D b X nL v μ' pc lc (.int x :: st) μ := by
  obtain ⟨p, e, R, s, m, args, below, meth, c⟩ := X
  exact fun H locs ls hW hS hl => lv_istore hX.1 hX.2.1 hd hl hn rfl (fun ls' hl' => k H locs ls' hW hS (lvP_set hl' hp hl0))
theorem g_astore_n {i : Fin 4} {n : Nat} {x : Nat} (hX : Cx l D b X d own cc nL ret) (hd : decode cc pc = .ok (.astore_n i, 1)) (hi : (i : Nat) = n) (hn : n < nL) (hp : okP lc n = true) (hl0 : lc.set n (some (.ref x)) = lc') (k : G l D b X nL v μ' (pc + 1) lc' st μ) : G l D b X nL v μ' pc lc (.ref x :: st) μ := by
  obtain ⟨p, e, R, s, m, args, below, meth, c⟩ := X
  exact fun H locs ls hW hS hl => lv_astore_n hX.1 hX.2.1 hd hi hl hn rfl (fun ls' hl' => k H locs ls' hW hS (lvP_set hl' hp hl0))
theorem g_astore {n : Nat} {x : Nat} (hX : Cx l D b X d own cc nL ret) (hd : decode cc pc = .ok (.astore n, 2)) (hn : n < nL) (hp : okP lc n = true) (hl0 : lc.set n (some (.ref x)) = lc') (k : G l D b X nL v μ' (pc + 2) lc' st μ) : G l D b X nL v μ' pc lc (.ref x :: st) μ := by
  obtain ⟨p, e, R, s, m, args, below, meth, c⟩ := X
  exact fun H locs ls hW hS hl => lv_astore hX.1 hX.2.1 hd hl hn rfl (fun ls' hl' => k H locs ls' hW hS (lvP_set hl' hp hl0))
theorem toA_at {l : List (Option Value)} {i : Nat} {v : Value} (h : l[i]? = some (some v)) : ∃ k : Nat, (toA 0 l)[k]? = some (i, v) := List.getElem?_of_mem (toA_mem.mpr ⟨i, by omega, h⟩)
theorem g_iinc {n : Nat} {i : Int} {x y : Int32} (hX : Cx l D b X d own cc nL ret) (hd : decode cc pc = .ok (.iinc n i, 3)) (hn : n < nL) (hx : lc[n]? = some (some (.int x))) (hy : x + Int32.ofInt i = y) (hp : okP lc n = true) (hl0 : lc.set n (some (.int y)) = lc') (k : G l D b X nL v μ' (pc + 3) lc' st μ) : G l D b X nL v μ' pc lc st μ := by
  obtain ⟨p, e, R, s, m, args, below, meth, c⟩ := X
  intro H locs ls hW hS hl
  obtain ⟨k0, hk0⟩ := toA_at hx
  exact lv_iinc hX.1 hX.2.1 hd hl hk0 hy hn rfl (fun ls' hl' => k H locs ls' hW hS (lvP_set hl' hp hl0))
theorem g_iadd {x y : Int32} (hX : Cx l D b X d own cc nL ret) (hd : decode cc pc = .ok (.iadd, 1)) (k : G l D b X nL v μ' (pc + 1) lc (.int (x + y) :: st) μ) : G l D b X nL v μ' pc lc (.int y :: .int x :: st) μ := by
  obtain ⟨p, e, R, s, m, args, below, meth, c⟩ := X
  exact fun H locs ls hW hS hl => lv_iadd hX.1 hX.2.1 hd (k H locs ls hW hS hl)
theorem g_isub {x y : Int32} (hX : Cx l D b X d own cc nL ret) (hd : decode cc pc = .ok (.isub, 1)) (k : G l D b X nL v μ' (pc + 1) lc (.int (x - y) :: st) μ) : G l D b X nL v μ' pc lc (.int y :: .int x :: st) μ := by
  obtain ⟨p, e, R, s, m, args, below, meth, c⟩ := X
  exact fun H locs ls hW hS hl => lv_isub hX.1 hX.2.1 hd (k H locs ls hW hS hl)
theorem g_imul {x y : Int32} (hX : Cx l D b X d own cc nL ret) (hd : decode cc pc = .ok (.imul, 1)) (k : G l D b X nL v μ' (pc + 1) lc (.int (x * y) :: st) μ) : G l D b X nL v μ' pc lc (.int y :: .int x :: st) μ := by
  obtain ⟨p, e, R, s, m, args, below, meth, c⟩ := X
  exact fun H locs ls hW hS hl => lv_imul hX.1 hX.2.1 hd (k H locs ls hW hS hl)
theorem g_iand {x y : Int32} (hX : Cx l D b X d own cc nL ret) (hd : decode cc pc = .ok (.iand, 1)) (k : G l D b X nL v μ' (pc + 1) lc (.int (x &&& y) :: st) μ) : G l D b X nL v μ' pc lc (.int y :: .int x :: st) μ := by
  obtain ⟨p, e, R, s, m, args, below, meth, c⟩ := X
  exact fun H locs ls hW hS hl => lv_iand hX.1 hX.2.1 hd (k H locs ls hW hS hl)
theorem g_ior {x y : Int32} (hX : Cx l D b X d own cc nL ret) (hd : decode cc pc = .ok (.ior, 1)) (k : G l D b X nL v μ' (pc + 1) lc (.int (x ||| y) :: st) μ) : G l D b X nL v μ' pc lc (.int y :: .int x :: st) μ := by
  obtain ⟨p, e, R, s, m, args, below, meth, c⟩ := X
  exact fun H locs ls hW hS hl => lv_ior hX.1 hX.2.1 hd (k H locs ls hW hS hl)
theorem g_ixor {x y : Int32} (hX : Cx l D b X d own cc nL ret) (hd : decode cc pc = .ok (.ixor, 1)) (k : G l D b X nL v μ' (pc + 1) lc (.int (x ^^^ y) :: st) μ) : G l D b X nL v μ' pc lc (.int y :: .int x :: st) μ := by
  obtain ⟨p, e, R, s, m, args, below, meth, c⟩ := X
  exact fun H locs ls hW hS hl => lv_ixor hX.1 hX.2.1 hd (k H locs ls hW hS hl)
theorem g_ishl {x y : Int32} (hX : Cx l D b X d own cc nL ret) (hd : decode cc pc = .ok (.ishl, 1)) (k : G l D b X nL v μ' (pc + 1) lc (.int (x <<< (y &&& 31)) :: st) μ) : G l D b X nL v μ' pc lc (.int y :: .int x :: st) μ := by
  obtain ⟨p, e, R, s, m, args, below, meth, c⟩ := X
  exact fun H locs ls hW hS hl => lv_ishl hX.1 hX.2.1 hd (k H locs ls hW hS hl)
theorem g_ishr {x y : Int32} (hX : Cx l D b X d own cc nL ret) (hd : decode cc pc = .ok (.ishr, 1)) (k : G l D b X nL v μ' (pc + 1) lc (.int (x >>> (y &&& 31)) :: st) μ) : G l D b X nL v μ' pc lc (.int y :: .int x :: st) μ := by
  obtain ⟨p, e, R, s, m, args, below, meth, c⟩ := X
  exact fun H locs ls hW hS hl => lv_ishr hX.1 hX.2.1 hd (k H locs ls hW hS hl)
theorem g_idiv {x y : Int32} (hX : Cx l D b X d own cc nL ret) (hne : ¬ y = 0) (hd : decode cc pc = .ok (.idiv, 1)) (k : G l D b X nL v μ' (pc + 1) lc (.int (x / y) :: st) μ) : G l D b X nL v μ' pc lc (.int y :: .int x :: st) μ := by
  obtain ⟨p, e, R, s, m, args, below, meth, c⟩ := X
  exact fun H locs ls hW hS hl => lv_idiv hX.1 hX.2.1 hd hne (k H locs ls hW hS hl)
theorem g_irem {x y : Int32} (hX : Cx l D b X d own cc nL ret) (hne : ¬ y = 0) (hd : decode cc pc = .ok (.irem, 1)) (k : G l D b X nL v μ' (pc + 1) lc (.int (x - x / y * y) :: st) μ) : G l D b X nL v μ' pc lc (.int y :: .int x :: st) μ := by
  obtain ⟨p, e, R, s, m, args, below, meth, c⟩ := X
  exact fun H locs ls hW hS hl => lv_irem hX.1 hX.2.1 hd hne (k H locs ls hW hS hl)
theorem g_iushr {x y : Int32} (hX : Cx l D b X d own cc nL ret) (hd : decode cc pc = .ok (.iushr, 1)) (k : G l D b X nL v μ' (pc + 1) lc (.int ((x.toUInt32 >>> (y.toUInt32 &&& Int32.toUInt32 31)).toInt32) :: st) μ) : G l D b X nL v μ' pc lc (.int y :: .int x :: st) μ := by
  obtain ⟨p, e, R, s, m, args, below, meth, c⟩ := X
  exact fun H locs ls hW hS hl => lv_iushr hX.1 hX.2.1 hd rfl (k H locs ls hW hS hl)
theorem g_ineg {x : Int32} (hX : Cx l D b X d own cc nL ret) (hd : decode cc pc = .ok (.ineg, 1)) (k : G l D b X nL v μ' (pc + 1) lc (.int (-x) :: st) μ) : G l D b X nL v μ' pc lc (.int x :: st) μ := by
  obtain ⟨p, e, R, s, m, args, below, meth, c⟩ := X
  exact fun H locs ls hW hS hl => lv_ineg hX.1 hX.2.1 hd (k H locs ls hW hS hl)
theorem g_i2b {x : Int32} (hX : Cx l D b X d own cc nL ret) (hd : decode cc pc = .ok (.i2b, 1)) (k : G l D b X nL v μ' (pc + 1) lc (.int (x.toInt8.toInt32) :: st) μ) : G l D b X nL v μ' pc lc (.int x :: st) μ := by
  obtain ⟨p, e, R, s, m, args, below, meth, c⟩ := X
  exact fun H locs ls hW hS hl => lv_i2b hX.1 hX.2.1 hd rfl (k H locs ls hW hS hl)
theorem g_i2s {x : Int32} (hX : Cx l D b X d own cc nL ret) (hd : decode cc pc = .ok (.i2s, 1)) (k : G l D b X nL v μ' (pc + 1) lc (.int (x.toInt16.toInt32) :: st) μ) : G l D b X nL v μ' pc lc (.int x :: st) μ := by
  obtain ⟨p, e, R, s, m, args, below, meth, c⟩ := X
  exact fun H locs ls hW hS hl => lv_i2s hX.1 hX.2.1 hd rfl (k H locs ls hW hS hl)
theorem g_i2c {x : Int32} (hX : Cx l D b X d own cc nL ret) (hd : decode cc pc = .ok (.i2c, 1)) (k : G l D b X nL v μ' (pc + 1) lc (.int ((x.toUInt32 % 65536).toInt32) :: st) μ) : G l D b X nL v μ' pc lc (.int x :: st) μ := by
  obtain ⟨p, e, R, s, m, args, below, meth, c⟩ := X
  exact fun H locs ls hW hS hl => lv_i2c hX.1 hX.2.1 hd rfl (k H locs ls hW hS hl)
theorem g_l2i {x : Int64} (hX : Cx l D b X d own cc nL ret) (hd : decode cc pc = .ok (.l2i, 1)) (k : G l D b X nL v μ' (pc + 1) lc (.int x.toInt32 :: st) μ) : G l D b X nL v μ' pc lc (.long x :: st) μ := by
  obtain ⟨p, e, R, s, m, args, below, meth, c⟩ := X
  exact fun H locs ls hW hS hl => lv_l2i hX.1 hX.2.1 hd rfl (k H locs ls hW hS hl)
theorem g_i2l {x : Int32} (hX : Cx l D b X d own cc nL ret) (hd : decode cc pc = .ok (.i2l, 1)) (k : G l D b X nL v μ' (pc + 1) lc (.long x.toInt64 :: st) μ) : G l D b X nL v μ' pc lc (.int x :: st) μ := by
  obtain ⟨p, e, R, s, m, args, below, meth, c⟩ := X
  exact fun H locs ls hW hS hl => lv_i2l hX.1 hX.2.1 hd rfl (k H locs ls hW hS hl)
theorem g_lushr {x : Int64} {y : Int32} (hX : Cx l D b X d own cc nL ret) (hd : decode cc pc = .ok (.lushr, 1)) (k : G l D b X nL v μ' (pc + 1) lc (.long ((x.toUInt64 >>> (y.toInt64.toUInt64 &&& Int64.toUInt64 63)).toInt64) :: st) μ) : G l D b X nL v μ' pc lc (.int y :: .long x :: st) μ := by
  obtain ⟨p, e, R, s, m, args, below, meth, c⟩ := X
  exact fun H locs ls hW hS hl => lv_lushr hX.1 hX.2.1 hd rfl (k H locs ls hW hS hl)
theorem g_lshr {x : Int64} {y : Int32} (hX : Cx l D b X d own cc nL ret) (hd : decode cc pc = .ok (.lshr, 1)) (k : G l D b X nL v μ' (pc + 1) lc (.long (x >>> (y.toInt64 &&& 63)) :: st) μ) : G l D b X nL v μ' pc lc (.int y :: .long x :: st) μ := by
  obtain ⟨p, e, R, s, m, args, below, meth, c⟩ := X
  exact fun H locs ls hW hS hl => lv_lshr hX.1 hX.2.1 hd rfl (k H locs ls hW hS hl)
theorem g_lshl {x : Int64} {y : Int32} (hX : Cx l D b X d own cc nL ret) (hd : decode cc pc = .ok (.lshl, 1)) (k : G l D b X nL v μ' (pc + 1) lc (.long (x <<< (y.toInt64 &&& 63)) :: st) μ) : G l D b X nL v μ' pc lc (.int y :: .long x :: st) μ := by
  obtain ⟨p, e, R, s, m, args, below, meth, c⟩ := X
  exact fun H locs ls hW hS hl => lv_lshl hX.1 hX.2.1 hd rfl (k H locs ls hW hS hl)
theorem g_land {x y : Int64} (hX : Cx l D b X d own cc nL ret) (hd : decode cc pc = .ok (.land, 1)) (k : G l D b X nL v μ' (pc + 1) lc (.long (x &&& y) :: st) μ) : G l D b X nL v μ' pc lc (.long y :: .long x :: st) μ := by
  obtain ⟨p, e, R, s, m, args, below, meth, c⟩ := X
  exact fun H locs ls hW hS hl => lv_land hX.1 hX.2.1 hd (k H locs ls hW hS hl)
theorem g_lor {x y : Int64} (hX : Cx l D b X d own cc nL ret) (hd : decode cc pc = .ok (.lor, 1)) (k : G l D b X nL v μ' (pc + 1) lc (.long (x ||| y) :: st) μ) : G l D b X nL v μ' pc lc (.long y :: .long x :: st) μ := by
  obtain ⟨p, e, R, s, m, args, below, meth, c⟩ := X
  exact fun H locs ls hW hS hl => lv_lor hX.1 hX.2.1 hd (k H locs ls hW hS hl)
theorem g_dup {a : Value} (hX : Cx l D b X d own cc nL ret) (hd : decode cc pc = .ok (.dup, 1)) (ha : a.category = 1) (k : G l D b X nL v μ' (pc + 1) lc (a :: a :: st) μ) : G l D b X nL v μ' pc lc (a :: st) μ := by
  obtain ⟨p, e, R, s, m, args, below, meth, c⟩ := X
  exact fun H locs ls hW hS hl => lv_dup hX.1 hX.2.1 hd ha (k H locs ls hW hS hl)
theorem g_pop {a : Value} (hX : Cx l D b X d own cc nL ret) (hd : decode cc pc = .ok (.pop, 1)) (ha : a.category = 1) (k : G l D b X nL v μ' (pc + 1) lc st μ) : G l D b X nL v μ' pc lc (a :: st) μ := by
  obtain ⟨p, e, R, s, m, args, below, meth, c⟩ := X
  exact fun H locs ls hW hS hl => lv_pop hX.1 hX.2.1 hd ha (k H locs ls hW hS hl)
theorem g_dup2 {a a2 : Value} (hX : Cx l D b X d own cc nL ret) (hd : decode cc pc = .ok (.dup2, 1)) (ha : a.category = 1) (ha2 : a2.category = 1) (k : G l D b X nL v μ' (pc + 1) lc (a :: a2 :: a :: a2 :: st) μ) : G l D b X nL v μ' pc lc (a :: a2 :: st) μ := by
  obtain ⟨p, e, R, s, m, args, below, meth, c⟩ := X
  exact fun H locs ls hW hS hl => lv_dup2_11 hX.1 hX.2.1 hd ha ha2 (k H locs ls hW hS hl)
theorem g_if_eq {off : Int} {tgt : Nat} {x : Int32} (hX : Cx l D b X d own cc nL ret) (hd : decode cc pc = .ok (.ifCond .eq off, 3)) (ht : (pc : Int) + off = (tgt : Int)) (kt : x = 0 → G l D b X nL v μ' tgt lc st μ) (kf : ¬ x = 0 → G l D b X nL v μ' (pc + 3) lc st μ) : G l D b X nL v μ' pc lc (.int x :: st) μ := by
  obtain ⟨p, e, R, s, m, args, below, meth, c⟩ := X
  exact fun H locs ls hW hS hl => lv_if_eq hX.1 hX.2.1 hd ht (fun q => kt q H locs ls hW hS hl) (fun q => kf q H locs ls hW hS hl)
theorem g_if_ne {off : Int} {tgt : Nat} {x : Int32} (hX : Cx l D b X d own cc nL ret) (hd : decode cc pc = .ok (.ifCond .ne off, 3)) (ht : (pc : Int) + off = (tgt : Int)) (kt : ¬ x = 0 → G l D b X nL v μ' tgt lc st μ) (kf : x = 0 → G l D b X nL v μ' (pc + 3) lc st μ) : G l D b X nL v μ' pc lc (.int x :: st) μ := by
  obtain ⟨p, e, R, s, m, args, below, meth, c⟩ := X
  exact fun H locs ls hW hS hl => lv_if_ne hX.1 hX.2.1 hd ht (fun q => kt q H locs ls hW hS hl) (fun q => kf q H locs ls hW hS hl)
theorem g_if_lt {off : Int} {tgt : Nat} {x : Int32} (hX : Cx l D b X d own cc nL ret) (hd : decode cc pc = .ok (.ifCond .lt off, 3)) (ht : (pc : Int) + off = (tgt : Int)) (kt : x < 0 → G l D b X nL v μ' tgt lc st μ) (kf : ¬ x < 0 → G l D b X nL v μ' (pc + 3) lc st μ) : G l D b X nL v μ' pc lc (.int x :: st) μ := by
  obtain ⟨p, e, R, s, m, args, below, meth, c⟩ := X
  exact fun H locs ls hW hS hl => lv_if_lt hX.1 hX.2.1 hd ht (fun q => kt q H locs ls hW hS hl) (fun q => kf q H locs ls hW hS hl)
theorem g_if_ge {off : Int} {tgt : Nat} {x : Int32} (hX : Cx l D b X d own cc nL ret) (hd : decode cc pc = .ok (.ifCond .ge off, 3)) (ht : (pc : Int) + off = (tgt : Int)) (kt : 0 ≤ x → G l D b X nL v μ' tgt lc st μ) (kf : ¬ 0 ≤ x → G l D b X nL v μ' (pc + 3) lc st μ) : G l D b X nL v μ' pc lc (.int x :: st) μ := by
  obtain ⟨p, e, R, s, m, args, below, meth, c⟩ := X
  exact fun H locs ls hW hS hl => lv_if_ge hX.1 hX.2.1 hd ht (fun q => kt q H locs ls hW hS hl) (fun q => kf q H locs ls hW hS hl)
theorem g_if_gt {off : Int} {tgt : Nat} {x : Int32} (hX : Cx l D b X d own cc nL ret) (hd : decode cc pc = .ok (.ifCond .gt off, 3)) (ht : (pc : Int) + off = (tgt : Int)) (kt : 0 < x → G l D b X nL v μ' tgt lc st μ) (kf : ¬ 0 < x → G l D b X nL v μ' (pc + 3) lc st μ) : G l D b X nL v μ' pc lc (.int x :: st) μ := by
  obtain ⟨p, e, R, s, m, args, below, meth, c⟩ := X
  exact fun H locs ls hW hS hl => lv_if_gt hX.1 hX.2.1 hd ht (fun q => kt q H locs ls hW hS hl) (fun q => kf q H locs ls hW hS hl)
theorem g_if_le {off : Int} {tgt : Nat} {x : Int32} (hX : Cx l D b X d own cc nL ret) (hd : decode cc pc = .ok (.ifCond .le off, 3)) (ht : (pc : Int) + off = (tgt : Int)) (kt : x ≤ 0 → G l D b X nL v μ' tgt lc st μ) (kf : ¬ x ≤ 0 → G l D b X nL v μ' (pc + 3) lc st μ) : G l D b X nL v μ' pc lc (.int x :: st) μ := by
  obtain ⟨p, e, R, s, m, args, below, meth, c⟩ := X
  exact fun H locs ls hW hS hl => lv_if_le hX.1 hX.2.1 hd ht (fun q => kt q H locs ls hW hS hl) (fun q => kf q H locs ls hW hS hl)
theorem g_icmp_eq {off : Int} {tgt : Nat} {x y : Int32} (hX : Cx l D b X d own cc nL ret) (hd : decode cc pc = .ok (.if_icmp .eq off, 3)) (ht : (pc : Int) + off = (tgt : Int)) (kt : x = y → G l D b X nL v μ' tgt lc st μ) (kf : ¬ x = y → G l D b X nL v μ' (pc + 3) lc st μ) : G l D b X nL v μ' pc lc (.int y :: .int x :: st) μ := by
  obtain ⟨p, e, R, s, m, args, below, meth, c⟩ := X
  exact fun H locs ls hW hS hl => lv_icmp_eq hX.1 hX.2.1 hd ht (fun q => kt q H locs ls hW hS hl) (fun q => kf q H locs ls hW hS hl)
theorem g_icmp_ne {off : Int} {tgt : Nat} {x y : Int32} (hX : Cx l D b X d own cc nL ret) (hd : decode cc pc = .ok (.if_icmp .ne off, 3)) (ht : (pc : Int) + off = (tgt : Int)) (kt : ¬ x = y → G l D b X nL v μ' tgt lc st μ) (kf : x = y → G l D b X nL v μ' (pc + 3) lc st μ) : G l D b X nL v μ' pc lc (.int y :: .int x :: st) μ := by
  obtain ⟨p, e, R, s, m, args, below, meth, c⟩ := X
  exact fun H locs ls hW hS hl => lv_icmp_ne hX.1 hX.2.1 hd ht (fun q => kt q H locs ls hW hS hl) (fun q => kf q H locs ls hW hS hl)
theorem g_icmp_lt {off : Int} {tgt : Nat} {x y : Int32} (hX : Cx l D b X d own cc nL ret) (hd : decode cc pc = .ok (.if_icmp .lt off, 3)) (ht : (pc : Int) + off = (tgt : Int)) (kt : x < y → G l D b X nL v μ' tgt lc st μ) (kf : ¬ x < y → G l D b X nL v μ' (pc + 3) lc st μ) : G l D b X nL v μ' pc lc (.int y :: .int x :: st) μ := by
  obtain ⟨p, e, R, s, m, args, below, meth, c⟩ := X
  exact fun H locs ls hW hS hl => lv_icmp_lt hX.1 hX.2.1 hd ht (fun q => kt q H locs ls hW hS hl) (fun q => kf q H locs ls hW hS hl)
theorem g_icmp_ge {off : Int} {tgt : Nat} {x y : Int32} (hX : Cx l D b X d own cc nL ret) (hd : decode cc pc = .ok (.if_icmp .ge off, 3)) (ht : (pc : Int) + off = (tgt : Int)) (kt : y ≤ x → G l D b X nL v μ' tgt lc st μ) (kf : ¬ y ≤ x → G l D b X nL v μ' (pc + 3) lc st μ) : G l D b X nL v μ' pc lc (.int y :: .int x :: st) μ := by
  obtain ⟨p, e, R, s, m, args, below, meth, c⟩ := X
  exact fun H locs ls hW hS hl => lv_icmp_ge hX.1 hX.2.1 hd ht (fun q => kt q H locs ls hW hS hl) (fun q => kf q H locs ls hW hS hl)
theorem g_icmp_gt {off : Int} {tgt : Nat} {x y : Int32} (hX : Cx l D b X d own cc nL ret) (hd : decode cc pc = .ok (.if_icmp .gt off, 3)) (ht : (pc : Int) + off = (tgt : Int)) (kt : y < x → G l D b X nL v μ' tgt lc st μ) (kf : ¬ y < x → G l D b X nL v μ' (pc + 3) lc st μ) : G l D b X nL v μ' pc lc (.int y :: .int x :: st) μ := by
  obtain ⟨p, e, R, s, m, args, below, meth, c⟩ := X
  exact fun H locs ls hW hS hl => lv_icmp_gt hX.1 hX.2.1 hd ht (fun q => kt q H locs ls hW hS hl) (fun q => kf q H locs ls hW hS hl)
theorem g_icmp_le {off : Int} {tgt : Nat} {x y : Int32} (hX : Cx l D b X d own cc nL ret) (hd : decode cc pc = .ok (.if_icmp .le off, 3)) (ht : (pc : Int) + off = (tgt : Int)) (kt : x ≤ y → G l D b X nL v μ' tgt lc st μ) (kf : ¬ x ≤ y → G l D b X nL v μ' (pc + 3) lc st μ) : G l D b X nL v μ' pc lc (.int y :: .int x :: st) μ := by
  obtain ⟨p, e, R, s, m, args, below, meth, c⟩ := X
  exact fun H locs ls hW hS hl => lv_icmp_le hX.1 hX.2.1 hd ht (fun q => kt q H locs ls hW hS hl) (fun q => kf q H locs ls hW hS hl)
theorem g_goto {off : Int} {tgt : Nat} (hX : Cx l D b X d own cc nL ret) (hd : decode cc pc = .ok (.goto off, 3)) (ht : (pc : Int) + off = (tgt : Int)) (k : G l D b X nL v μ' tgt lc st μ) : G l D b X nL v μ' pc lc st μ := by
  obtain ⟨p, e, R, s, m, args, below, meth, c⟩ := X
  exact fun H locs ls hW hS hl => lv_goto hX.1 hX.2.1 hd ht (k H locs ls hW hS hl)
theorem g_tsIn {dflt lo hi off : Int} {offs : Array Int} {len tgt : Nat} {x : Int32} (hX : Cx l D b X d own cc nL ret) (hd : decode cc pc = .ok (.tableswitch dflt lo hi offs, len)) (h1 : ¬ x.toInt < lo) (h2 : ¬ hi < x.toInt) (ho : offs[(x.toInt - lo).toNat]? = some off) (ht : (pc : Int) + off = (tgt : Int)) (k : G l D b X nL v μ' tgt lc st μ) : G l D b X nL v μ' pc lc (.int x :: st) μ := by
  obtain ⟨p, e, R, s, m, args, below, meth, c⟩ := X
  exact fun H locs ls hW hS hl => lv_tableIn hX.1 hX.2.1 hd h1 h2 ho ht (k H locs ls hW hS hl)
theorem g_tsOut {dflt lo hi : Int} {offs : Array Int} {len tgt : Nat} {x : Int32} (hX : Cx l D b X d own cc nL ret) (hd : decode cc pc = .ok (.tableswitch dflt lo hi offs, len)) (h : x.toInt < lo ∨ hi < x.toInt) (ht : (pc : Int) + dflt = (tgt : Int)) (k : G l D b X nL v μ' tgt lc st μ) : G l D b X nL v μ' pc lc (.int x :: st) μ := by
  obtain ⟨p, e, R, s, m, args, below, meth, c⟩ := X
  exact fun H locs ls hW hS hl => lv_tableOut hX.1 hX.2.1 hd h ht (k H locs ls hW hS hl)
theorem g_ls {dflt off : Int} {ps : Array (Int × Int)} {len tgt : Nat} {x : Int32} (hX : Cx l D b X d own cc nL ret) (hd : decode cc pc = .ok (.lookupswitch dflt ps, len)) (hp : (ps.toList.zip (ps.toList.drop 1)).all (fun (a, next) => a.1 < next.1) = true) (ho : Op.lookupswitch.offset ps.toList dflt x.toInt = off) (ht : (pc : Int) + off = (tgt : Int)) (k : G l D b X nL v μ' tgt lc st μ) : G l D b X nL v μ' pc lc (.int x :: st) μ := by
  obtain ⟨p, e, R, s, m, args, below, meth, c⟩ := X
  exact fun H locs ls hW hS hl => lv_lookup hX.1 hX.2.1 hd hp ho ht (k H locs ls hW hS hl)
theorem g_iret {x : Int32} {ty : FieldType} (hX : Cx l D b X d own cc nL ret) (hr : ret = some ty) (hn : narrow ty (.int x) = .int x) (hd : decode cc pc = .ok (.ireturn, 1)) : G l D b X nL (some (.int x)) μ pc lc [.int x] μ := by
  obtain ⟨p, e, R, s, m, args, below, meth, c⟩ := X
  subst hr
  exact fun H locs ls hW hS hl => W.zret hX.1 hX.2.1 hX.2.2.2.2.2.1 hn (fun t ht _ => ⟨rfl, by rw [ht]; exact hW, hS.F ht⟩) hS.2.2 hd hX.2.2.2.2.2.2.1
theorem g_vret (hX : Cx l D b X d own cc nL ret) (hr : ret = none) (hd : decode cc pc = .ok (.return_, 1)) : G l D b X nL none μ pc lc [] μ := by
  obtain ⟨p, e, R, s, m, args, below, meth, c⟩ := X
  subst hr
  exact fun H locs ls hW hS hl => W.vret hX.1 hX.2.1 hX.2.2.2.2.2.1 (fun t ht _ => ⟨rfl, by rw [ht]; exact hW, hS.F ht⟩) hS.2.2 hd hX.2.2.2.2.2.2.1
theorem g_aret {x : Nat} {n : String} (hX : Cx l D b X d own cc nL ret) (hr : ret = some (.object n)) (hd : decode cc pc = .ok (.areturn, 1)) : G l D b X nL (some (.ref x)) μ pc lc [.ref x] μ := by
  obtain ⟨p, e, R, s, m, args, below, meth, c⟩ := X
  subst hr
  exact fun H locs ls hW hS hl => W.aret hX.1 hX.2.1 hX.2.2.2.2.2.1 (Or.inl ⟨_, rfl⟩) (Or.inr ⟨_, rfl⟩) (fun t ht _ => ⟨rfl, by rw [ht]; exact hW, hS.F ht⟩) hS.2.2 hd hX.2.2.2.2.2.2.1
/-- what is known of field k of class number c -/
def FG (ci k : Nat) (R : String) (T : u_T) (ty : FieldType) : Prop := vwCl[ci]? = some (R, T, nf ci) ∧ k < nf ci ∧ ci < 10 ∧ (∀ w ∈ u_ws R T (nf ci), w ∈ BIG) ∧ parseFieldDescriptor (T k).2.2.1 = some ty
theorem ent_obj {D : DT} {b : Bool} {μ : Mem} {i ci : Nat} (hi : kd b i = ci) (hc : ci < 10) : ent D b μ i = .inr (ci, (List.range (nf ci)).map (fv D b μ i ci)) := by
  subst hi
  unfold ent
  rw [if_pos hc]
theorem FG_at {D : DT} {b : Bool} {μ : Mem} {i ci k : Nat} {R : String} {T : u_T} {ty : FieldType} (h : FG ci k R T ty) (hi : kd b i = ci) : (cellsD D b μ)[i]? = some (D.1 i, .inr (ci, (List.range (nf ci)).map (fv D b μ i ci))) := by
  rw [cellsD_at (kd_lt hi (by have := h.2.2.1; omega)), ent_obj hi h.2.2.1]
theorem fv_at {D : DT} {b : Bool} {μ : Mem} {i ci k N : Nat} (h : k < N) : ((List.range N).map (fv D b μ i ci))[k]? = some (fv D b μ i ci k) := by
  rw [List.getElem?_map, List.getElem?_range h]
  rfl
theorem g_get {h ci j index : Nat} {R : String} {T : u_T} {ty : FieldType} {w : Value} (hX : Cx l D b X d own cc nL ret) (hh : kd b h = ci) (hf : FG ci j R T ty) (hw : Cond.fieldLink own index (T j).1 (T j).2.1 (T j).2.2.1 ∈ BIG) (hd : decode cc pc = .ok (.getfield index, 3)) (hv : fv D b μ h ci j = w)
    (k : G l D b X nL v μ' (pc + 3) lc (w :: st) μ) : G l D b X nL v μ' pc lc (.ref (D.1 h) :: st) μ := by
  obtain ⟨p, e, R, s, m, args, below, meth, c⟩ := X
  subst hv
  exact fun H locs ls hW hS hl => va_get hX.1 hX.2.1 hX.2.2.2.2.1 hf.2.2.2.1 hX.2.2.2.1 hX.2.2.2.2.2.2.2.2.1 hW.1 h (FG_at hf hh) hf.1 _ hf.2.1 (hX.2.2.2.2.1 _ hw) (fun x q => q) (fv_at hf.2.1) hd (k H locs ls hW hS hl)
theorem g_put {h ci j index : Nat} {R : String} {T : u_T} {ty : FieldType} {w : Value} {x : Int32} {ty0 : Nat → FieldType} (hX : Cx l D b X d own cc nL ret) (hh : kd b h = ci) (hf : FG ci j R T ty) (hty : ∀ k, k < nf ci → parseFieldDescriptor (T k).2.2.1 = some (ty0 k)) (hnm : ∀ a, a < nf ci → ∀ b, b < nf ci → a ≠ b → (T a).2.1 ≠ (T b).2.1) (hfin : (T j).2.2.2 = false) (hw : Cond.fieldLink own index (T j).1 (T j).2.1 (T j).2.2.1 ∈ BIG) (hd : decode cc pc = .ok (.putfield index, 3)) (hv : ∀ μ : Mem, fv D b (up μ h j x) h ci j = w) (hn : narrow ty w = w) (hfit : fits ty w = true)
    (k : G l D b X nL v μ' (pc + 3) lc st (up μ h j x)) : G l D b X nL v μ' pc lc (w :: .ref (D.1 h) :: st) μ := by
  obtain ⟨p, e, R, s, m, args, below, meth, c⟩ := X
  intro H locs ls hW hS hl
  have hc := kd_lt hh (by have := hf.2.2.1; omega)
  refine va_put hX.1 hX.2.1 hX.2.2.2.2.1 hf.2.2.2.1 ty0 hty hnm hX.2.2.2.1 hX.2.2.2.2.2.2.2.2.1 hW.1 hW.2.1 hS h (FG_at hf hh) hf.1 _ hf.2.1 (hX.2.2.2.2.1 _ hw) (fun x q => q) hfin hf.2.2.2.2 hn hfit (by rw [List.length_map, List.length_range]; exact hf.2.1) hd (fun H1 locs1 hP hD hS1 => ?_)
  rw [flds_set hf.2.1 w (hv μ)] at hP hD
  have he : (cellsD D b μ).set h (D.1 h, .inr (ci, (List.range (nf ci)).map (fv D b (up μ h j x) h ci))) = cellsD D b (up μ h j x) := cellsD_set hc (ent_obj hh hf.2.2.1) (fun a q => ent_up q)
  rw [he] at hP hD
  refine k H1 locs1 ls ⟨hP, hD, fun i j hi => ?_⟩ hS1 hl
  rw [up_n (fun q => by rw [q.1, hh] at hi; have := hf.2.2.1; omega)]
  exact hW.2.2 i j hi
/-! arrays -/
def inb (j : Int32) (n : Nat) : Bool := decide (0 ≤ j.toInt) && decide (j.toInt < n)
theorem inb_vp {j : Int32} {n : Nat} (h : inb j n = true) : vp_in j n := by
  simp only [inb, Bool.and_eq_true, decide_eq_true_eq] at h
  exact vp_in_iff.mpr h
abbrev ix (j : Int32) : Nat := j.toNatClampNeg
theorem arr_at {D : DT} {b : Bool} {μ : Mem} {a : Nat} (h : kd b a = 10) : (cellsD D b μ)[a]? = some (D.1 a, .inl (D.2.2.2 0, ln b a, .inl (μ a))) := by
  rw [cellsD_at (kd_lt h (by omega))]
  unfold ent
  rw [if_neg (by omega), if_pos h]
theorem arrB_at {D : DT} {b : Bool} {μ : Mem} {a : Nat} (h : kd b a = 11) : (cellsD D b μ)[a]? = some (D.1 a, .inl (D.2.2.2 1, ln b a, .inl (μ a))) := by
  rw [cellsD_at (kd_lt h (by omega))]
  unfold ent
  rw [if_neg (by omega), if_neg (by omega), if_pos h]
theorem arrQ_at {D : DT} {b : Bool} {μ : Mem} {a : Nat} (h : kd b a = 12) : (cellsD D b μ)[a]? = some (D.1 a, .inl (D.2.2.2 2, ln b a, .inr (.inr (.inr (.inr (fun j => some (D.1 (sr b a j)))))))) := by
  rw [cellsD_at (kd_lt h (by omega))]
  unfold ent
  rw [if_neg (by omega), if_neg (by omega), if_neg (by omega)]
theorem g_iald {a n : Nat} {j : Int32} (hX : Cx l D b X d own cc nL ret) (ha : kd b a = 10) (hn : ln b a = n) (hin : inb j n = true) (hd : decode cc pc = .ok (.iaload, 1)) (k : G l D b X nL v μ' (pc + 1) lc (.int (μ a (ix j)) :: st) μ) : G l D b X nL v μ' pc lc (.int j :: .ref (D.1 a) :: st) μ := by
  obtain ⟨p, e, R, s, m, args, below, meth, c⟩ := X
  subst hn
  exact fun H locs ls hW hS hl => va_iald hX.1 hX.2.1 hX.2.2.2.2.2.2.2.2.1 hW.1 a 0 (arr_at ha) rfl (inb_vp hin) hd (k H locs ls hW hS hl)
theorem g_bald {a n : Nat} {j : Int32} (hX : Cx l D b X d own cc nL ret) (ha : kd b a = 11) (hn : ln b a = n) (hin : inb j n = true) (hd : decode cc pc = .ok (.baload, 1)) (k : G l D b X nL v μ' (pc + 1) lc (.int (μ a (ix j)) :: st) μ) : G l D b X nL v μ' pc lc (.int j :: .ref (D.1 a) :: st) μ := by
  obtain ⟨p, e, R, s, m, args, below, meth, c⟩ := X
  subst hn
  exact fun H locs ls hW hS hl => va_bald hX.1 hX.2.1 hX.2.2.2.2.2.2.2.2.1 hW.1 a 1 (arrB_at ha) rfl (inb_vp hin) hd (k H locs ls hW hS hl)
theorem g_aald {a n : Nat} {j : Int32} (hX : Cx l D b X d own cc nL ret) (ha : kd b a = 12) (hn : ln b a = n) (hin : inb j n = true) (hd : decode cc pc = .ok (.aaload, 1)) (k : G l D b X nL v μ' (pc + 1) lc (.ref (D.1 (sr b a (ix j))) :: st) μ) : G l D b X nL v μ' pc lc (.int j :: .ref (D.1 a) :: st) μ := by
  obtain ⟨p, e, R, s, m, args, below, meth, c⟩ := X
  subst hn
  exact fun H locs ls hW hS hl => va_aldq hX.1 hX.2.1 hX.2.2.2.2.2.2.2.2.1 hW.1 a 2 (arrQ_at ha) rfl (inb_vp hin) hd (k H locs ls hW hS hl)
theorem up_upd {μ : Mem} {a j : Nat} {x : Int32} : (up μ a j x) a = upd (μ a) j x := by
  funext k
  simp [up, upd]
theorem g_iast {a n : Nat} {j x : Int32} (hX : Cx l D b X d own cc nL ret) (ha : kd b a = 10) (hn : ln b a = n) (hin : inb j n = true) (hd : decode cc pc = .ok (.iastore, 1)) (k : G l D b X nL v μ' (pc + 1) lc st (up μ a (ix j) x)) : G l D b X nL v μ' pc lc (.int x :: .int j :: .ref (D.1 a) :: st) μ := by
  obtain ⟨p, e, R, s, m, args, below, meth, c⟩ := X
  subst hn
  intro H locs ls hW hS hl
  refine va_iast hX.1 hX.2.1 hX.2.2.2.2.2.2.2.2.1 hW.1 hW.2.1 hS a 0 (arr_at ha) rfl (inb_vp hin) hd (fun H1 locs1 hP hD hS1 => ?_)
  have he : (cellsD D b μ).set a (D.1 a, .inl (D.2.2.2 0, ln b a, .inl (upd (μ a) j.toNatClampNeg x))) = cellsD D b (up μ a (ix j) x) := cellsD_set (kd_lt ha (by omega)) (by unfold ent; rw [if_neg (by omega), if_pos ha, up_upd]) (fun i q => ent_up q)
  rw [he] at hP hD
  refine k H1 locs1 ls ⟨hP, hD, fun i j hi => ?_⟩ hS1 hl
  rw [up_n (fun q => by rw [q.1, ha] at hi; omega)]
  exact hW.2.2 i j hi
theorem inB_nar (x : Int32) : inB (vp_nar .byte x) := by
  rw [vp_nar_byte]
  exact pk_fb x
theorem g_bast {a n : Nat} {j x : Int32} (hX : Cx l D b X d own cc nL ret) (ha : kd b a = 11) (hn : ln b a = n) (hin : inb j n = true) (hd : decode cc pc = .ok (.bastore, 1)) (k : G l D b X nL v μ' (pc + 1) lc st (up μ a (ix j) x.toInt8.toInt32)) : G l D b X nL v μ' pc lc (.int x :: .int j :: .ref (D.1 a) :: st) μ := by
  obtain ⟨p, e, R, s, m, args, below, meth, c⟩ := X
  subst hn
  intro H locs ls hW hS hl
  refine va_bast hX.1 hX.2.1 hX.2.2.2.2.2.2.2.2.1 hW.1 hW.2.1 hS a 1 (arrB_at ha) rfl (inb_vp hin) hd (fun H1 locs1 hP hD hS1 => ?_)
  have he : (cellsD D b μ).set a (D.1 a, .inl (D.2.2.2 1, ln b a, .inl (upd (μ a) j.toNatClampNeg (vp_nar .byte x)))) = cellsD D b (up μ a (ix j) x.toInt8.toInt32) := cellsD_set (kd_lt ha (by omega)) (by unfold ent; rw [if_neg (by omega), if_neg (by omega), if_pos ha, up_upd, vp_nar_byte]) (fun i q => ent_up q)
  rw [he] at hP hD
  refine k H1 locs1 ls ⟨hP, hD, fun i j2 hi => ?_⟩ hS1 hl
  by_cases q : i = a ∧ j2 = ix j
  · obtain ⟨rfl, rfl⟩ := q
    rw [up_s, ← vp_nar_byte]
    exact inB_nar x
  · rw [up_n q]
    exact hW.2.2 i j2 hi
theorem g_alen {a n : Nat} {x : Int32} (hX : Cx l D b X d own cc nL ret) (ha : kd b a = 10) (hn : ln b a = n) (hx : Int32.ofNat n = x) (hd : decode cc pc = .ok (.arraylength, 1)) (k : G l D b X nL v μ' (pc + 1) lc (.int x :: st) μ) : G l D b X nL v μ' pc lc (.ref (D.1 a) :: st) μ := by
  obtain ⟨p, e, R, s, m, args, below, meth, c⟩ := X
  subst hn
  exact fun H locs ls hW hS hl => va_alen hX.1 hX.2.1 hX.2.2.2.2.2.2.2.2.1 hW.1 a 0 (arr_at ha) rfl hx hd (k H locs ls hW hS hl)
theorem g_alenB {a n : Nat} {x : Int32} (hX : Cx l D b X d own cc nL ret) (ha : kd b a = 11) (hn : ln b a = n) (hx : Int32.ofNat n = x) (hd : decode cc pc = .ok (.arraylength, 1)) (k : G l D b X nL v μ' (pc + 1) lc (.int x :: st) μ) : G l D b X nL v μ' pc lc (.ref (D.1 a) :: st) μ := by
  obtain ⟨p, e, R, s, m, args, below, meth, c⟩ := X
  subst hn
  exact fun H locs ls hW hS hl => va_alen hX.1 hX.2.1 hX.2.2.2.2.2.2.2.2.1 hW.1 a 1 (arrB_at ha) rfl hx hd (k H locs ls hW hS hl)
end GR
end
section
def nestOk : Cond → Bool
  | .methodLinkNest .. => true
  | .fieldLinkNest .. => true
  | _ => false
theorem nestL_ok : ∀ w ∈ nestL, nestOk w = true := by decide +kernel
theorem nest_warm {w : Cond} {s U : State} (hw : nestOk w = true) (hW : s.WarmedH U.vm) (h : va_Nw w s) : va_Nw w U := by
  cases w <;> first | exact va_Nw.warmM hW h | exact va_Nw.warmF hW h | cases hw
theorem nest_same {w : Cond} {s U : State} (hw : nestOk w = true) (hv : s.vm = U.vm) (h : va_Nw w s) : va_Nw w U := by
  cases w <;> first | exact va_Nw.same rfl hv h | cases hw
theorem EnvD_call {D : DT} {A : Nat → Prop} {s U : State} {H : Heap} {locs : List Loc} (h : EnvD D A s) (hS : va_S A s.heap H locs) (hH : U.heap = H) (hW : s.WarmedH U.vm) : EnvD D A U := by
  subst hH
  obtain ⟨h1, h2, h3, h4, h5, h6, h7, h8, h9, h10⟩ := h
  have hv := hW.alike
  exact ⟨va_Z.moved hv (h1.kept hS.2.1), va_T.moved hv (h2.kept hS.2.1), va_Z.moved hv (h3.kept hS.2.1), va_T.moved hv (h4.kept hS.2.1), va_Z.moved hv (h5.kept hS.2.1), vk_S.moved hv (h6.kept hS.2.1), vk_R.warm hW h7, vk_R.warm hW h8, vk_R.warm hW h9, fun w hw => nest_warm (nestL_ok w hw) hW (h10 w hw)⟩
theorem EnvD_calling {D : DT} {A : Nat → Prop} {U : State} {g : JFrame} {mk : MethodId} {a : Array Value} (h : EnvD D A U) : EnvD D A (U.calling g mk a) := by
  obtain ⟨h1, h2, h3, h4, h5, h6, h7, h8, h9, h10⟩ := h
  have hv : U.vm.Alike (U.calling g mk a).vm := Vm.Alike.refl U.vm
  exact ⟨va_Z.moved hv h1, va_T.moved hv h2, va_Z.moved hv h3, va_T.moved hv h4, va_Z.moved hv h5, vk_S.moved hv h6, vk_R.same rfl h7, vk_R.same rfl h8, vk_R.same rfl h9, fun w hw => nest_same (s := U) (U := U.calling g mk a) (nestL_ok w hw) rfl (h10 w hw)⟩
theorem Sg_blind {D : DT} {b : Bool} {μ : Mem} {as : List Value} : FrameBlind (va_Pc as (Sg D b μ)) := fun a U g mk q => ⟨q.1, q.2.1, va_K.moved (u := U) (U := U.calling g mk a) (Vm.Alike.refl U.vm) q.2.2.1, fun hb => EnvD_calling (q.2.2.2 hb)⟩
/-- a method as a callee -/
def MV (y : MethodName) (cc : ByteArray) (nL : Nat) (ret : Option FieldType) (n : Nat) : Prop := Cond.instanceMethod y ∈ BIG ∧ Cond.selects y.cls y y ∈ BIG ∧ Cond.initialized y.cls ∈ BIG ∧ Cond.code y cc nL ret ∈ BIG ∧ nL ≤ 21 ∧ y.cls ≠ "java/lang/invoke/MethodHandle" ∧ y.cls ≠ "java/lang/invoke/VarHandle" ∧ (parseMethodDescriptor y.desc).map (fun d => d.parameters.length) = some n
def MS (y : MethodName) (cc : ByteArray) (nL : Nat) (ret : Option FieldType) (n : Nat) : Prop := Cond.static y ∈ BIG ∧ Cond.initialized y.cls ∈ BIG ∧ Cond.code y cc nL ret ∈ BIG ∧ nL ≤ 21 ∧ y.cls ≠ "java/lang/invoke/MethodHandle" ∧ y.cls ≠ "java/lang/invoke/VarHandle" ∧ (parseMethodDescriptor y.desc).map (fun d => d.parameters.length) = some n
theorem goodB {y : MethodName} {cc : ByteArray} {nL : Nat} {ret : Option FieldType} (h : Cond.code y cc nL ret ∈ BIG) : GoodIn BIG (wsA y cc nL ret) := by
  intro w hw
  have hb : w ∈ BIG := by
    rcases List.mem_cons.mp hw with rfl | q
    · exact h
    · exact q
  exact ⟨hb, big_good hb⟩
theorem goodOf {ws : List Cond} (h : ∀ w ∈ ws, w ∈ BIG) : GoodIn BIG ws := fun w hw => ⟨h w hw, big_good (h w hw)⟩

section GR
variable {l : Launch} {D : DT} {b : Bool} {X : XT} {d : Nat} {own : String} {cc : ByteArray} {nL : Nat} {ret : Option FieldType} {v : Option Value} {μ μ' : Mem} {pc : Nat} {lc lc' : List (Option Value)} {st : List Value}

theorem g_run {st0 : List Value} {v1 : Option Value} {μ1 : Mem} {a : Array Value} (hX : ∀ (p : Program) (e : Env) (R : Room) (s : State) (m : MethodId) (args : Array Value) (below : List Frame) (meth : Method) (c : Code), X = (p, e, R, s, m, args, below, meth, c) → ∀ (H : Heap) (locs : List Loc) (ls : Array Slot), Wd D b μ H → va_S (AI D b) s.heap H locs → lvP ls nL lc → va_Run p l e R s m args below meth c H locs 0 0 0 0 (F0 m pc ls st0) st (Qr D b v1 μ1 a) (AI D b))
    (k : G l D b X nL v μ' (pc + 3) lc (v1.toList ++ st) μ1) : G l D b X nL v μ' pc lc st0 μ := by
  obtain ⟨p, e, R, s, m, args, below, meth, c⟩ := X
  intro H locs ls hW hS hl T hT Y
  obtain ⟨v, s0, t, T', L, h0, Y', hL, e1, e2, ⟨hv, hW1, hF⟩, go⟩ := hX _ _ _ _ _ _ _ _ _ rfl H locs ls hW hS hl T hT Y
  cases hv
  obtain ⟨z, a1, b1⟩ := k T'.heap (locs ++ L) ls (by rw [e1]; exact hW1) ⟨Nat.le_trans hS.1 (by rw [e1, ← h0]; exact hF.1), fun q g1 g2 => by
      rw [e1, hF.2 q (by rw [h0]; exact Nat.lt_of_lt_of_le g1 hS.1) g2, h0]
      exact hS.2.1 q g1 g2, fun q hq => by
      rcases List.mem_append.mp hq with h | h
      · exact hS.2.2 q h
      · exact hL q h⟩ hl T' rfl Y'
  exact ⟨z, go z a1, b1⟩
theorem lvP_size {ls : Array Slot} {nL : Nat} {l : List (Option Value)} (h : lvP ls nL l) : ls.size = nL := h.1
theorem g_callV {d1 nL1 n index : Nat} {y1 : MethodName} {cc1 : ByteArray} {ret1 : Option FieldType} {v1 : Option Value} {μ1 : Mem} {as : List Value} {st0 : List Value} {h ci : Nat} (hX : Cx l D b X d own cc nL ret) (hM : Ct l D b d1 y1 cc1 nL1 ret1 (.ref (D.1 h) :: as) μ v1 μ1) (mv : MV y1 cc1 nL1 ret1 n) (hw : Cond.methodLink own index y1 ∈ BIG) (hh : kd b h = ci) (hc : (vwCl[ci]?).map (fun r => r.1) = some y1.cls) (hci : ci < 10) (hd1 : d1 + 1 ≤ d) (hn : as.length = n) (hst : st0 = as.reverse ++ .ref (D.1 h) :: st) (hsum : (st.map fun v => v.category).sum ≤ 8) (hd : decode cc pc = .ok (.invokevirtual index, 3))
    (k : G l D b X nL v μ' (pc + 3) lc (v1.toList ++ st) μ1) : G l D b X nL v μ' pc lc st0 μ := by
  refine g_run (a := (Value.ref (D.1 h) :: as).toArray) ?_ k
  rintro p e R s m args below meth c rfl H locs ls hW hS hl
  obtain ⟨m1, m2, m3, m4, m5, m6, m7, m8⟩ := mv
  have hR : R = rmD d := hX.2.2.2.2.2.2.2.1
  subst hR
  have cw : CallW (rmD d) s args own y1.cls index y1 cc1 nL1 ret1 (wsA y1 cc1 nL1 ret1) (rmD d1) 0 0 n :=
    cwV (Ts := BIG) n hX.2.2.2.2.1 (goodOf (by
      intro w hw2
      unfold wsV at hw2
      rcases List.mem_append.mp hw2 with q | q
      · simp only [List.mem_cons, List.not_mem_nil, or_false] at q
        rcases q with rfl | rfl | rfl | rfl
        · exact hw
        · exact m1
        · exact m2
        · exact m3
      · exact (goodB m4 w q).1)) rfl rfl rfl ⟨rfl, m6, m7, m8⟩ ⟨hd1, by show 8 + (nL1 + 11) + 40 * d1 ≤ 40 * d; omega⟩
  obtain ⟨r, hr1, hr2⟩ := Option.map_eq_some_iff.mp hc
  have hrecv := va_recv (ci := ci) (q0 := h) (ws := cellsD D b μ) (H := H) hX.2.2.2.2.2.2.2.2.1 hW.1 hr1 (by rw [cellsD_at (kd_lt hh (by omega)), ent_obj hh hci])
  rw [hr2] at hrecv
  exact va_runV (own := own) (g := F0 m pc ls st0) ⟨hX.1, hX.2.1, hX.2.2.1, hX.2.2.2.1, hX.2.2.2.2.1⟩ hM cw ⟨Sg_blind, hrecv, fun U hU hWm => ⟨rfl, by rw [hU]; exact hW, va_K.moved hWm.alike hX.2.2.2.2.2.2.2.2.1, fun hb => by subst hb; exact EnvD_call (hX.2.2.2.2.2.2.2.2.2 rfl) hS hU hWm⟩⟩ rfl hn hl.1 hst (lv_room hsum) hd ⟨Nat.le_refl _, Nat.le_refl _⟩
theorem g_callS {d1 nL1 n index : Nat} {y1 : MethodName} {cc1 : ByteArray} {ret1 : Option FieldType} {v1 : Option Value} {μ1 : Mem} {as : List Value} {st0 : List Value} (hX : Cx l D b X d own cc nL ret) (hM : Ct l D b d1 y1 cc1 nL1 ret1 as μ v1 μ1) (mv : MS y1 cc1 nL1 ret1 n) (hw : Cond.methodLink own index y1 ∈ BIG) (hd1 : d1 + 1 ≤ d) (hn : as.length = n) (hst : st0 = as.reverse ++ st) (hsum : (st.map fun v => v.category).sum ≤ 8) (hd : decode cc pc = .ok (.invokestatic index, 3))
    (k : G l D b X nL v μ' (pc + 3) lc (v1.toList ++ st) μ1) : G l D b X nL v μ' pc lc st0 μ := by
  refine g_run (a := as.toArray) ?_ k
  rintro p e R s m args below meth c rfl H locs ls hW hS hl
  obtain ⟨m2, m3, m4, m5, m6, m7, m8⟩ := mv
  have hR : R = rmD d := hX.2.2.2.2.2.2.2.1
  subst hR
  have cw := va_cwS (R := rmD d) (s := s) (args := args) (own := own) (index := index) (y := y1) (bytes := cc1) (maxL := nL1) (ret := ret1) (ws := wsA y1 cc1 nL1 ret1) (rm := rmD d1) (mc := 0) (ms := 0) (Ts := BIG) n hX.2.2.2.2.1 (goodOf (by
      intro w hw2
      unfold va_wsS at hw2
      rcases List.mem_append.mp hw2 with q | q
      · simp only [List.mem_cons, List.not_mem_nil, or_false] at q
        rcases q with rfl | rfl | rfl
        · exact hw
        · exact m2
        · exact m3
      · exact (goodB m4 w q).1)) rfl rfl rfl ⟨m6, m7, m8⟩ ⟨hd1, by show 8 + (nL1 + 11) + 40 * d1 ≤ 40 * d; omega⟩
  exact va_runS (own := own) (g := F0 m pc ls st0) ⟨hX.1, hX.2.1, hX.2.2.1, hX.2.2.2.1, hX.2.2.2.2.1⟩ hM cw ⟨Sg_blind, fun U hU hWm => ⟨rfl, by rw [hU]; exact hW, va_K.moved hWm.alike hX.2.2.2.2.2.2.2.2.1, fun hb => by subst hb; exact EnvD_call (hX.2.2.2.2.2.2.2.2.2 rfl) hS hU hWm⟩⟩ rfl hn hl.1 hst (lv_room hsum) hd ⟨Nat.le_refl _, Nat.le_refl _⟩
theorem g_callSN {d1 nL1 n index : Nat} {y1 : MethodName} {cc1 : ByteArray} {ret1 : Option FieldType} {v1 : Option Value} {μ1 : Mem} {as : List Value} {st0 : List Value} {host : String} (hX : Cx l D true X d own cc nL ret) (hM : Ct l D true d1 y1 cc1 nL1 ret1 as μ v1 μ1) (mv : MS y1 cc1 nL1 ret1 n) (hw : Cond.methodLinkNest own index y1 host ∈ nestL) (hd1 : d1 + 1 ≤ d) (hn : as.length = n) (hst : st0 = as.reverse ++ st) (hsum : (st.map fun v => v.category).sum ≤ 8) (hd : decode cc pc = .ok (.invokestatic index, 3))
    (k : G l D true X nL v μ' (pc + 3) lc (v1.toList ++ st) μ1) : G l D true X nL v μ' pc lc st0 μ := by
  refine g_run (a := as.toArray) ?_ k
  rintro p e R s m args below meth c rfl H locs ls hW hS hl
  obtain ⟨m2, m3, m4, m5, m6, m7, m8⟩ := mv
  have hR : R = rmD d := hX.2.2.2.2.2.2.2.1
  subst hR
  have hE := hX.2.2.2.2.2.2.2.2.2 rfl
  have cw := va_cnB (R := rmD d) (s := s) (args := args) (own := own) (index := index) (y := y1) (bytes := cc1) (maxL := nL1) (ret := ret1) (ws := wsA y1 cc1 nL1 ret1) (rm := rmD d1) (mc := 0) (ms := 0) (Ts := BIG) (host := host) n hX.2.2.2.2.1 (goodB m4) rfl rfl rfl (hE.2.2.2.2.2.2.2.2.2 _ hw) (hX.2.2.2.2.1 _ m3) ⟨m6, m7, m8⟩ ⟨hd1, by show 8 + (nL1 + 11) + 40 * d1 ≤ 40 * d; omega⟩
  exact va_runSN (own := own) (g := F0 m pc ls st0) ⟨hX.1, hX.2.1, hX.2.2.1, hX.2.2.2.1, hX.2.2.2.2.1⟩ hM ⟨cw, hX.2.2.2.2.1 _ m2, trivial⟩ ⟨Sg_blind, fun U hU hWm => ⟨rfl, by rw [hU]; exact hW, va_K.moved hWm.alike hX.2.2.2.2.2.2.2.2.1, fun _ => EnvD_call hE hS hU hWm⟩⟩ rfl hn hl.1 hst (lv_room hsum) hd ⟨Nat.le_refl _, Nat.le_refl _⟩
/-- a contract from a walk -/
theorem Ct.of {y : MethodName} {as : List Value} {lc0 : List (Option Value)} (hy : plainName y.cls = true) (hown : y.cls = own) (hnl : (lg_sl as).length ≤ nL) (hlc : entL as ++ List.replicate (nL - (entL as).length) none = lc0) (hbig : Cond.code y cc nL ret ∈ BIG)
    (h : ∀ X : XT, Cx l D b X d own cc nL ret → G l D b X nL v μ' 0 lc0 [] μ) : Ct l D b d y cc nL ret as μ v μ' := by
  subst hown
  refine Met.ofW (cc := cc) (maxL := nL) (ret := ret) (ws' := BIG) hy rfl ?_
  intro p e s m args below meth c s₁ B hml hv
  obtain ⟨rfl, hW, hK, hE⟩ := hv
  have hts := atoms_spec (ws := wsA y cc nL ret) B.pre
  have hl := lv_entry as hnl
  have hg := h (p, e, rmD d, s, m, as.toArray, below, meth, c) ⟨B.exec, B.bytes, hml, findClass_of_methodNamed B.named, fun w hw => hts w (List.mem_cons_of_mem _ hw), B.returns, B.notSynchronized, rfl, hK, hE⟩
  rw [lg_entry_eq]
  refine hg s.heap [] _ hW va_S.rf ?_
  subst hlc
  show lv_has _ _ _
  rw [toA_app, entL_sub]
  exact hl

end GR
end
section
section GR
variable {l : Launch} {D : DT} {b : Bool} {X : XT} {d : Nat} {own : String} {cc : ByteArray} {nL : Nat} {ret : Option FieldType} {v : Option Value} {μ μ' : Mem} {pc : Nat} {lc lc' : List (Option Value)} {st : List Value}

/-! statics -/
theorem g_KA {index : Nat} (hX : Cx l D true X d own cc nL ret) (hw : Cond.fieldLink own index "GateMinds" "KIND_ABOVE" "[I" ∈ BIG) (hd : decode cc pc = .ok (.getstatic index, 3)) (k : G l D true X nL v μ' (pc + 3) lc (.ref (D.1 100) :: st) μ) : G l D true X nL v μ' pc lc st μ := by
  obtain ⟨p, e, R, s, m, args, below, meth, c⟩ := X
  have hE := hX.2.2.2.2.2.2.2.2.2 rfl
  exact fun H locs ls hW hS hl => va_gets hX.1 hX.2.1 hE.1 hS hX.2.2.2.1 (hX.2.2.2.2.1 _ hw) (fun x q => q) hd (k H locs ls hW hS hl)
theorem g_KAN {index : Nat} {host : String} (hX : Cx l D true X d own cc nL ret) (hw : Cond.fieldLinkNest own index "GateMinds" "KIND_ABOVE" "[I" host ∈ nestL) (hd : decode cc pc = .ok (.getstatic index, 3)) (k : G l D true X nL v μ' (pc + 3) lc (.ref (D.1 100) :: st) μ) : G l D true X nL v μ' pc lc st μ := by
  obtain ⟨p, e, R, s, m, args, below, meth, c⟩ := X
  have hE := hX.2.2.2.2.2.2.2.2.2 rfl
  exact fun H locs ls hW hS hl => va_getsN hX.1 hX.2.1 hE.1 hS hX.2.2.2.1 (va_Nw.use rfl (hE.2.2.2.2.2.2.2.2.2 _ hw)) (fun x q => q) hd (k H locs ls hW hS hl)
theorem g_BO {index : Nat} (hX : Cx l D true X d own cc nL ret) (hw : Cond.fieldLink own index "GateMinds$Speech" "BODIES" "[I" ∈ BIG) (hd : decode cc pc = .ok (.getstatic index, 3)) (k : G l D true X nL v μ' (pc + 3) lc (.ref (D.1 101) :: st) μ) : G l D true X nL v μ' pc lc st μ := by
  obtain ⟨p, e, R, s, m, args, below, meth, c⟩ := X
  have hE := hX.2.2.2.2.2.2.2.2.2 rfl
  exact fun H locs ls hW hS hl => va_gets hX.1 hX.2.1 hE.2.2.1 hS hX.2.2.2.1 (hX.2.2.2.2.1 _ hw) (fun x q => q) hd (k H locs ls hW hS hl)
theorem g_CS {index : Nat} (hX : Cx l D true X d own cc nL ret) (hw : Cond.fieldLink own index "java/lang/String" "COMPACT_STRINGS" "Z" ∈ BIG) (hd : decode cc pc = .ok (.getstatic index, 3)) (k : G l D true X nL v μ' (pc + 3) lc (.int 1 :: st) μ) : G l D true X nL v μ' pc lc st μ := by
  obtain ⟨p, e, R, s, m, args, below, meth, c⟩ := X
  have hE := hX.2.2.2.2.2.2.2.2.2 rfl
  exact fun H locs ls hW hS hl => va_gets hX.1 hX.2.1 hE.2.2.2.2.1 hS hX.2.2.2.1 (hX.2.2.2.2.1 _ hw) (fun x q => q) hd (k H locs ls hW hS hl)
def kAb (j : Int32) : Int32 := KA.getD (ix j) 0
def bOd (j : Int32) : Int32 := BO.getD (ix j) 0
theorem g_KAld {j : Int32} (hX : Cx l D true X d own cc nL ret) (hin : inb j 7 = true) (hd : decode cc pc = .ok (.iaload, 1)) (k : G l D true X nL v μ' (pc + 1) lc (.int (kAb j) :: st) μ) : G l D true X nL v μ' pc lc (.int j :: .ref (D.1 100) :: st) μ := by
  obtain ⟨p, e, R, s, m, args, below, meth, c⟩ := X
  have hE := hX.2.2.2.2.2.2.2.2.2 rfl
  exact fun H locs ls hW hS hl => va_ti hX.1 hX.2.1 hE.2.1 hS (inb_vp hin) rfl hd (k H locs ls hW hS hl)
theorem g_BOld {j : Int32} (hX : Cx l D true X d own cc nL ret) (hin : inb j 28 = true) (hd : decode cc pc = .ok (.iaload, 1)) (k : G l D true X nL v μ' (pc + 1) lc (.int (bOd j) :: st) μ) : G l D true X nL v μ' pc lc (.int j :: .ref (D.1 101) :: st) μ := by
  obtain ⟨p, e, R, s, m, args, below, meth, c⟩ := X
  have hE := hX.2.2.2.2.2.2.2.2.2 rfl
  exact fun H locs ls hW hS hl => va_ti hX.1 hX.2.1 hE.2.2.2.1 hS (inb_vp hin) rfl hd (k H locs ls hW hS hl)
theorem g_KAlen (hX : Cx l D true X d own cc nL ret) (hd : decode cc pc = .ok (.arraylength, 1)) (k : G l D true X nL v μ' (pc + 1) lc (.int 7 :: st) μ) : G l D true X nL v μ' pc lc (.ref (D.1 100) :: st) μ := by
  obtain ⟨p, e, R, s, m, args, below, meth, c⟩ := X
  have hE := hX.2.2.2.2.2.2.2.2.2 rfl
  exact fun H locs ls hW hS hl => va_tlen hX.1 hX.2.1 hE.2.1 hS (by decide) hd (k H locs ls hW hS hl)
theorem g_BOlen (hX : Cx l D true X d own cc nL ret) (hd : decode cc pc = .ok (.arraylength, 1)) (k : G l D true X nL v μ' (pc + 1) lc (.int 28 :: st) μ) : G l D true X nL v μ' pc lc (.ref (D.1 101) :: st) μ := by
  obtain ⟨p, e, R, s, m, args, below, meth, c⟩ := X
  have hE := hX.2.2.2.2.2.2.2.2.2 rfl
  exact fun H locs ls hW hS hl => va_tlen hX.1 hX.2.1 hE.2.2.2.1 hS (by decide) hd (k H locs ls hW hS hl)
/-! texts -/
theorem g_sVal {i index : Nat} (hX : Cx l D true X d own cc nL ret) (hi : i < 3) (hw : Cond.fieldLink own index "java/lang/String" "value" "[B" ∈ BIG) (hd : decode cc pc = .ok (.getfield index, 3)) (k : G l D true X nL v μ' (pc + 3) lc (.ref (D.1 (120 + i)) :: st) μ) : G l D true X nL v μ' pc lc (.ref (D.1 (110 + i)) :: st) μ := by
  obtain ⟨p, e, R, s, m, args, below, meth, c⟩ := X
  have hE := hX.2.2.2.2.2.2.2.2.2 rfl
  exact fun H locs ls hW hS hl => vk_getf hX.1 hX.2.1 (hE.2.2.2.2.2.1.1 i hi).2.2.1 hS hX.2.2.2.1 (hX.2.2.2.2.1 _ hw) (fun x q => q) hd (k H locs ls hW hS hl)
theorem g_sCod {i index : Nat} (hX : Cx l D true X d own cc nL ret) (hi : i < 3) (hw : Cond.fieldLink own index "java/lang/String" "coder" "B" ∈ BIG) (hd : decode cc pc = .ok (.getfield index, 3)) (k : G l D true X nL v μ' (pc + 3) lc (.int 0 :: st) μ) : G l D true X nL v μ' pc lc (.ref (D.1 (110 + i)) :: st) μ := by
  obtain ⟨p, e, R, s, m, args, below, meth, c⟩ := X
  have hE := hX.2.2.2.2.2.2.2.2.2 rfl
  exact fun H locs ls hW hS hl => vk_getf hX.1 hX.2.1 (hE.2.2.2.2.2.1.1 i hi).2.1 hS hX.2.2.2.1 (hX.2.2.2.2.1 _ hw) (fun x q => q) hd (k H locs ls hW hS hl)
def sB (i : Nat) (j : Int32) : Int32 := (sByt.getD i []).getD (ix j) 0
def sL (i : Nat) : Int32 := Int32.ofNat (sLen.getD i 0)
theorem g_sByte {i : Nat} {j : Int32} (hX : Cx l D true X d own cc nL ret) (hi : i < 3) (hin : inb j (sLen.getD i 0) = true) (hd : decode cc pc = .ok (.baload, 1)) (k : G l D true X nL v μ' (pc + 1) lc (.int (sB i j) :: st) μ) : G l D true X nL v μ' pc lc (.int j :: .ref (D.1 (120 + i)) :: st) μ := by
  obtain ⟨p, e, R, s, m, args, below, meth, c⟩ := X
  have hE := hX.2.2.2.2.2.2.2.2.2 rfl
  exact fun H locs ls hW hS hl => va_tb hX.1 hX.2.1 (hE.2.2.2.2.2.1.1 i hi).2.2.2 hS (inb_vp hin) rfl hd (k H locs ls hW hS hl)
theorem g_sLen {i : Nat} (hX : Cx l D true X d own cc nL ret) (hi : i < 3) (hd : decode cc pc = .ok (.arraylength, 1)) (k : G l D true X nL v μ' (pc + 1) lc (.int (sL i) :: st) μ) : G l D true X nL v μ' pc lc (.ref (D.1 (120 + i)) :: st) μ := by
  obtain ⟨p, e, R, s, m, args, below, meth, c⟩ := X
  have hE := hX.2.2.2.2.2.2.2.2.2 rfl
  exact fun H locs ls hW hS hl => va_tlen hX.1 hX.2.1 (hE.2.2.2.2.2.1.1 i hi).2.2.2 hS rfl hd (k H locs ls hW hS hl)
theorem g_callVS {d1 nL1 n index i : Nat} {y1 : MethodName} {cc1 : ByteArray} {ret1 : Option FieldType} {v1 : Option Value} {μ1 : Mem} {as : List Value} {st0 : List Value} (hX : Cx l D true X d own cc nL ret) (hM : Ct l D true d1 y1 cc1 nL1 ret1 (.ref (D.1 (110 + i)) :: as) μ v1 μ1) (mv : MV y1 cc1 nL1 ret1 n) (hw : Cond.methodLink own index y1 ∈ BIG) (hi : i < 3) (hc : y1.cls = "java/lang/String") (hd1 : d1 + 1 ≤ d) (hn : as.length = n) (hst : st0 = as.reverse ++ .ref (D.1 (110 + i)) :: st) (hsum : (st.map fun v => v.category).sum ≤ 8) (hd : decode cc pc = .ok (.invokevirtual index, 3))
    (k : G l D true X nL v μ' (pc + 3) lc (v1.toList ++ st) μ1) : G l D true X nL v μ' pc lc st0 μ := by
  refine g_run (a := (Value.ref (D.1 (110 + i)) :: as).toArray) ?_ k
  rintro p e R s m args below meth c rfl H locs ls hW hS hl
  obtain ⟨m1, m2, m3, m4, m5, m6, m7, m8⟩ := mv
  have hR : R = rmD d := hX.2.2.2.2.2.2.2.1
  subst hR
  have hE := hX.2.2.2.2.2.2.2.2.2 rfl
  have cw : CallW (rmD d) s args own y1.cls index y1 cc1 nL1 ret1 (wsA y1 cc1 nL1 ret1) (rmD d1) 0 0 n :=
    cwV (Ts := BIG) n hX.2.2.2.2.1 (goodOf (by
      intro w hw2
      unfold wsV at hw2
      rcases List.mem_append.mp hw2 with q | q
      · simp only [List.mem_cons, List.not_mem_nil, or_false] at q
        rcases q with rfl | rfl | rfl | rfl
        · exact hw
        · exact m1
        · exact m2
        · exact m3
      · exact (goodB m4 w q).1)) rfl rfl rfl ⟨rfl, m6, m7, m8⟩ ⟨hd1, by show 8 + (nL1 + 11) + 40 * d1 ≤ 40 * d; omega⟩
  have hrecv := vk_recv (i := i) (H := H) (locs := locs) hE.2.2.2.2.2.1 hi hS
  rw [← hc] at hrecv
  exact va_runV (own := own) (g := F0 m pc ls st0) ⟨hX.1, hX.2.1, hX.2.2.1, hX.2.2.2.1, hX.2.2.2.2.1⟩ hM cw ⟨Sg_blind, hrecv, fun U hU hWm => ⟨rfl, by rw [hU]; exact hW, va_K.moved hWm.alike hX.2.2.2.2.2.2.2.2.1, fun _ => EnvD_call hE hS hU hWm⟩⟩ rfl hn hl.1 hst (lv_room hsum) hd ⟨Nat.le_refl _, Nat.le_refl _⟩
/-! System.arraycopy -/
def inC (sp dp n : Int32) (n0 n1 : Nat) : Bool := decide (0 ≤ sp.toInt) && (decide (0 ≤ dp.toInt) && (decide (0 ≤ n.toInt) && (decide (sp.toInt + n.toInt ≤ n0) && decide (dp.toInt + n.toInt ≤ n1))))
def cpM (μ : Mem) (a0 sp a dp n : Nat) : Mem := fun i k => if i = a then va_cpy (μ a0) (μ a) sp dp n k else μ i k
theorem ent_cp {D : DT} {b : Bool} {μ : Mem} {a0 sp a dp n i : Nat} (h : i ≠ a) : ent D b (cpM μ a0 sp a dp n) i = ent D b μ i := by
  have h1 : (cpM μ a0 sp a dp n) i = μ i := by funext c; simp [cpM, h]
  have h2 : fv D b (cpM μ a0 sp a dp n) i (kd b i) = fv D b μ i (kd b i) := by funext c; simp only [fv, h1]
  simp only [ent, h1, h2]
theorem inC_sp {sp dp n : Int32} {n0 n1 : Nat} (h : inC sp dp n n0 n1 = true) : ¬ sp < 0 ∧ ¬ dp < 0 ∧ ¬ n < 0 ∧ ix sp + ix n ≤ n0 ∧ ix dp + ix n ≤ n1 := by
  simp only [inC, Bool.and_eq_true, decide_eq_true_eq] at h
  obtain ⟨h1, h2, h3, h4, h5⟩ := h
  have e : ∀ z : Int32, 0 ≤ z.toInt → ((ix z : Nat) : Int) = z.toInt := fun z hz => by
    show ((z.toInt.toNat : Nat) : Int) = _
    omega
  have f : ∀ z : Int32, 0 ≤ z.toInt → ¬ z < 0 := fun z hz q => by
    have := Int32.lt_iff_toInt_lt.mp q
    simp at this
    omega
  refine ⟨f _ h1, f _ h2, f _ h3, ?_, ?_⟩
  · have := e _ h1; have := e _ h3; omega
  · have := e _ h2; have := e _ h3; omega
theorem nfw : nativeFrameWords "java/lang/System" "arraycopy" 5 ≤ 41 := by decide +kernel
def cpW : Prop := Cond.native arraycopyName ∈ BIG ∧ Cond.static arraycopyName ∈ BIG ∧ Cond.initialized "java/lang/System" ∈ BIG
theorem g_copy {a0 a index : Nat} {sp dp n : Int32} (hX : Cx l D b X d own cc nL ret) (hcp : cpW) (hw : Cond.methodLink own index arraycopyName ∈ BIG) (h0 : kd b a0 = 10) (h1 : kd b a = 10) (hin : inC sp dp n (ln b a0) (ln b a) = true) (hsum : (st.map fun v => v.category).sum ≤ 8) (hd2 : 2 ≤ d) (hd : decode cc pc = .ok (.invokestatic index, 3))
    (k : G l D b X nL v μ' (pc + 3) lc st (cpM μ a0 (ix sp) a (ix dp) (ix n))) : G l D b X nL v μ' pc lc (.int n :: .int dp :: .ref (D.1 a) :: .int sp :: .ref (D.1 a0) :: st) μ := by
  obtain ⟨p, e, R, s, m, args, below, meth, c⟩ := X
  have hR : R = rmD d := hX.2.2.2.2.2.2.2.1
  subst hR
  obtain ⟨c1, c2, c3, c4, c5⟩ := inC_sp hin
  have hnf := nfw
  intro H locs ls hW hS hl
  refine va_copyi hX.1 hX.2.1 (hX.2.2.1.trans hl.1.symm) hX.2.2.2.1 (hX.2.2.2.2.1 _ hw) (hX.2.2.2.2.1 _ hcp.1) (hX.2.2.2.2.1 _ hcp.2.1) (hX.2.2.2.2.1 _ hcp.2.2) hX.2.2.2.2.2.2.2.2.1 hW.1 hW.2.1 hS a0 a 0 0 (arr_at h0) (arr_at h1) rfl rfl rfl c1 c2 c3 c4 c5 (fun _ _ => rfl) (show 1 ≤ d by omega) (show _ ≤ 40 * d by omega) hd (fun H1 locs1 hP hD hS1 => ?_)
  have he : (cellsD D b μ).set a (D.1 a, .inl (D.2.2.2 0, ln b a, .inl (va_cpy (μ a0) (μ a) sp.toNatClampNeg dp.toNatClampNeg n.toNatClampNeg))) = cellsD D b (cpM μ a0 (ix sp) a (ix dp) (ix n)) := cellsD_set (kd_lt h1 (by omega)) (by
    have e : (cpM μ a0 (ix sp) a (ix dp) (ix n)) a = va_cpy (μ a0) (μ a) sp.toNatClampNeg dp.toNatClampNeg n.toNatClampNeg := by funext c; simp [cpM]
    unfold ent; rw [if_neg (by omega), if_pos h1, e]) (fun i q => ent_cp q)
  rw [he] at hP hD
  refine k H1 locs1 ls ⟨hP, hD, fun i j hi => ?_⟩ hS1 hl
  have hne : i ≠ a := fun q => by rw [q, h1] at hi; omega
  have e : (cpM μ a0 (ix sp) a (ix dp) (ix n)) i j = μ i j := by simp [cpM, hne]
  rw [e]
  exact hW.2.2 i j hi
theorem g_copyB {a0 a index : Nat} {sp dp n : Int32} (hX : Cx l D b X d own cc nL ret) (hcp : cpW) (hw : Cond.methodLink own index arraycopyName ∈ BIG) (h0 : kd b a0 = 11) (h1 : kd b a = 11) (hin : inC sp dp n (ln b a0) (ln b a) = true) (hsum : (st.map fun v => v.category).sum ≤ 8) (hd2 : 2 ≤ d) (hd : decode cc pc = .ok (.invokestatic index, 3))
    (k : G l D b X nL v μ' (pc + 3) lc st (cpM μ a0 (ix sp) a (ix dp) (ix n))) : G l D b X nL v μ' pc lc (.int n :: .int dp :: .ref (D.1 a) :: .int sp :: .ref (D.1 a0) :: st) μ := by
  obtain ⟨p, e, R, s, m, args, below, meth, c⟩ := X
  have hR : R = rmD d := hX.2.2.2.2.2.2.2.1
  subst hR
  obtain ⟨c1, c2, c3, c4, c5⟩ := inC_sp hin
  have hnf := nfw
  intro H locs ls hW hS hl
  refine va_copyi hX.1 hX.2.1 (hX.2.2.1.trans hl.1.symm) hX.2.2.2.1 (hX.2.2.2.2.1 _ hw) (hX.2.2.2.2.1 _ hcp.1) (hX.2.2.2.2.1 _ hcp.2.1) (hX.2.2.2.2.1 _ hcp.2.2) hX.2.2.2.2.2.2.2.2.1 hW.1 hW.2.1 hS a0 a 1 1 (arrB_at h0) (arrB_at h1) rfl rfl rfl c1 c2 c3 c4 c5 (fun i _ => hW.2.2 a0 _ h0) (show 1 ≤ d by omega) (show _ ≤ 40 * d by omega) hd (fun H1 locs1 hP hD hS1 => ?_)
  have he : (cellsD D b μ).set a (D.1 a, .inl (D.2.2.2 1, ln b a, .inl (va_cpy (μ a0) (μ a) sp.toNatClampNeg dp.toNatClampNeg n.toNatClampNeg))) = cellsD D b (cpM μ a0 (ix sp) a (ix dp) (ix n)) := cellsD_set (kd_lt h1 (by omega)) (by
    have e : (cpM μ a0 (ix sp) a (ix dp) (ix n)) a = va_cpy (μ a0) (μ a) sp.toNatClampNeg dp.toNatClampNeg n.toNatClampNeg := by funext c; simp [cpM]
    unfold ent; rw [if_neg (by omega), if_neg (by omega), if_pos h1, e]) (fun i q => ent_cp q)
  rw [he] at hP hD
  refine k H1 locs1 ls ⟨hP, hD, fun i j hi => ?_⟩ hS1 hl
  by_cases hne : i = a
  · subst hne
    have e : (cpM μ a0 (ix sp) i (ix dp) (ix n)) i j = va_cpy (μ a0) (μ i) (ix sp) (ix dp) (ix n) j := by simp [cpM]
    rw [e]
    unfold va_cpy
    split
    · exact hW.2.2 a0 _ h0
    · exact hW.2.2 i _ hi
  · have e : (cpM μ a0 (ix sp) a (ix dp) (ix n)) i j = μ i j := by simp [cpM, hne]
    rw [e]
    exact hW.2.2 i j hi

end GR
end
section
/-! words of the pure functions -/
def ck {α : Type} (c : Bool) (o : Option α) : Option α := bif c then o else none
theorem ck_some {α : Type} {c : Bool} {o : Option α} {r : α} (h : ck c o = some r) : c = true ∧ o = some r := by
  cases c
  · exact absurd h (by simp [ck])
  · exact ⟨rfl, h⟩
def bd {α β : Type} (o : Option α) (f : α → Option β) : Option β := match o with
  | some a => f a
  | none => none
theorem bd_some {α β : Type} {o : Option α} {f : α → Option β} {r : β} (h : bd o f = some r) : ∃ a, o = some a ∧ f a = some r := by
  cases o with
  | none => exact absurd h (by simp [bd])
  | some a => exact ⟨a, rfl, h⟩
def bd2 {α γ β : Type} (o : Option (α × γ)) (f : α → γ → Option β) : Option β := match o with
  | some q => f q.1 q.2
  | none => none
theorem bd2_some {α γ β : Type} {o : Option (α × γ)} {f : α → γ → Option β} {r : β} (h : bd2 o f = some r) : ∃ a m, o = some (a, m) ∧ f a m = some r := by
  cases o with
  | none => exact absurd h (by simp [bd2])
  | some q => exact ⟨q.1, q.2, rfl, h⟩
def wr {β : Type} (μ : Mem) (i j : Nat) (x : Int32) (f : Mem → β) : β := f (up μ i j x)
theorem wr_some {β : Type} {μ : Mem} {i j : Nat} {x : Int32} {f : Mem → β} {r : β} (h : wr μ i j x f = r) : ∃ μ1, up μ i j x = μ1 ∧ f μ1 = r := ⟨_, rfl, h⟩
def cpy {β : Type} (μ : Mem) (a0 sp a dp n : Nat) (f : Mem → β) : β := f (cpM μ a0 sp a dp n)
theorem cpy_some {β : Type} {μ : Mem} {a0 sp a dp n : Nat} {f : Mem → β} {r : β} (h : cpy μ a0 sp a dp n f = r) : ∃ μ1, cpM μ a0 sp a dp n = μ1 ∧ f μ1 = r := ⟨_, rfl, h⟩
def nm {α β : Type} (a : α) (f : α → β) : β := f a
theorem nm_some {α β : Type} {a : α} {f : α → β} {r : β} (h : nm a f = r) : ∃ x, a = x ∧ f x = r := ⟨_, rfl, h⟩
abbrev jshl (x y : Int32) : Int32 := x <<< (y &&& 31)
abbrev jshr (x y : Int32) : Int32 := x >>> (y &&& 31)
abbrev jushr (x y : Int32) : Int32 := (x.toUInt32 >>> (y.toUInt32 &&& Int32.toUInt32 31)).toInt32
abbrev jrem (x y : Int32) : Int32 := x - x / y * y
abbrev jbyte (x : Int32) : Int32 := x.toInt8.toInt32
abbrev jshort (x : Int32) : Int32 := x.toInt16.toInt32
abbrev jchar (x : Int32) : Int32 := (x.toUInt32 % 65536).toInt32
abbrev jlushr (x : Int64) (y : Int32) : Int64 := (x.toUInt64 >>> (y.toInt64.toUInt64 &&& Int64.toUInt64 63)).toInt64
abbrev jlshr (x : Int64) (y : Int32) : Int64 := x >>> (y.toInt64 &&& 63)
abbrev jlshl (x : Int64) (y : Int32) : Int64 := x <<< (y.toInt64 &&& 63)
def nz (x : Int32) : Bool := !(x == 0)
theorem nz_ne {x : Int32} (h : nz x = true) : ¬ x = 0 := fun e => by subst e; exact absurd h (by decide)
def bl (x : Int32) : Bool := x == 0 || x == 1
theorem nar_bl {x : Int32} (h : bl x = true) : narrow .boolean (.int x) = .int x := by
  simp only [bl, Bool.or_eq_true, beq_iff_eq] at h
  rcases h with rfl | rfl <;> rfl
def isStr (i : Nat) : Bool := decide (110 ≤ i) && decide (i < 113)
theorem isStr_lt {i : Nat} (h : isStr i = true) : i - 110 < 3 := by
  simp only [isStr, Bool.and_eq_true, decide_eq_true_eq] at h
  omega
theorem isStr_eq {i : Nat} (h : isStr i = true) : 110 + (i - 110) = i := by
  simp only [isStr, Bool.and_eq_true, decide_eq_true_eq] at h
  omega
theorem kd_31 {b : Bool} {i k : Nat} (h : kd b i = k) (hk : k < 20) : i < 2 ^ 31 := by
  have h1 := kd_lt h hk
  have h2 : cnt b ≤ 100 := by cases b <;> decide
  omega
theorem ix_ofNat {i : Nat} (h : i < 2 ^ 31) : (Int32.ofNat i).toNatClampNeg = i := Int32.toNatClampNeg_ofNat_of_lt h
theorem ts_ne {x c : Int32} {k : Int} (h : ¬ x = c) (hc : c.toInt = k) : x.toInt ≠ k := fun e => h (Int32.toInt_inj.mp (e.trans hc.symm))
theorem ls_ne {x c : Int32} {k : Int} (h : ¬ x = c) (hc : c.toInt = k) : ¬ k = x.toInt := fun e => h (Int32.toInt_inj.mp (e.symm.trans hc.symm))
theorem sheet_kd {j : Int32} (h : inb j 4 = true) : kd true (58 + 2 * ix j) = 5 := by
  have h1 := inb_vp h
  obtain ⟨k, hk, rfl⟩ := vp_in_of h1 (by decide)
  rw [show ix (nI k) = k from nI_clamp (by omega)]
  rcases (show k = 0 ∨ k = 1 ∨ k = 2 ∨ k = 3 by omega) with rfl | rfl | rfl | rfl <;> decide +kernel
theorem sheet_sr {j : Int32} (h : inb j 4 = true) : sr true 57 (ix j) = 58 + 2 * ix j := by
  have h1 := inb_vp h
  obtain ⟨k, hk, rfl⟩ := vp_in_of h1 (by decide)
  rw [show ix (nI k) = k from nI_clamp (by omega)]
  rcases (show k = 0 ∨ k = 1 ∨ k = 2 ∨ k = 3 by omega) with rfl | rfl | rfl | rfl <;> decide +kernel
def subL : List (Option Value) → List (Option Value) → Prop
  | [], _ => True
  | none :: l', _ :: l => subL l' l
  | some v :: l', some w :: l => v = w ∧ subL l' l
  | _, _ => False
theorem subL_at : ∀ {l' l : List (Option Value)} (h : subL l' l) {i : Nat} {v : Value}, l'[i]? = some (some v) → l[i]? = some (some v)
  | [], _, _, i, v, h => by simp at h
  | none :: l', [], h, _, _, _ => h.elim
  | none :: l', a :: l, h, i, v, e => by
    cases i with
    | zero => simp at e
    | succ i => simp at e ⊢; exact subL_at (l' := l') (l := l) (by cases a <;> exact h) e
  | some w :: l', [], h, _, _, _ => h.elim
  | some w :: l', none :: l, h, _, _, _ => h.elim
  | some w :: l', some w2 :: l, h, i, v, e => by
    cases i with
    | zero => simp at e ⊢; exact h.1.symm.trans e
    | succ i => simp at e ⊢; exact subL_at h.2 e

section GR
variable {l : Launch} {D : DT} {b : Bool} {X : XT} {d : Nat} {own : String} {cc : ByteArray} {nL : Nat} {ret : Option FieldType} {v : Option Value} {μ μ' : Mem} {pc : Nat} {lc lc' : List (Option Value)} {st : List Value}

theorem g_weak (h : subL lc' lc) (k : G l D b X nL v μ' pc lc' st μ) : G l D b X nL v μ' pc lc st μ := by
  obtain ⟨p, e, R, s, m, args, below, meth, c⟩ := X
  exact fun H locs ls hW hS hl => k H locs ls hW hS (lvP_of hl (fun q hq => by
    obtain ⟨i, v⟩ := q
    obtain ⟨j, rfl, hj⟩ := toA_mem.mp hq
    exact toA_mem.mpr ⟨j, rfl, subL_at h hj⟩))
theorem g_istore_n' {i : Fin 4} {n : Nat} {x x' : Int32} (hX : Cx l D b X d own cc nL ret) (he : x = x') (hd : decode cc pc = .ok (.istore_n i, 1)) (hi : (i : Nat) = n) (hn : n < nL) (hp : okP lc n = true) (hl0 : lc.set n (some (.int x')) = lc') (k : G l D b X nL v μ' (pc + 1) lc' st μ) : G l D b X nL v μ' pc lc (.int x :: st) μ := by
  subst he
  exact g_istore_n hX hd hi hn hp hl0 k
theorem g_istore' {n : Nat} {x x' : Int32} (hX : Cx l D b X d own cc nL ret) (he : x = x') (hd : decode cc pc = .ok (.istore n, 2)) (hn : n < nL) (hp : okP lc n = true) (hl0 : lc.set n (some (.int x')) = lc') (k : G l D b X nL v μ' (pc + 2) lc' st μ) : G l D b X nL v μ' pc lc (.int x :: st) μ := by
  subst he
  exact g_istore hX hd hn hp hl0 k
theorem g_geti {o ci j index : Nat} {R : String} {T : u_T} {ty : FieldType} (hX : Cx l D b X d own cc nL ret) (ho : kd b o = ci) (hf : FG ci j R T ty) (ht : tf ci j = 0) (hw : Cond.fieldLink own index (T j).1 (T j).2.1 (T j).2.2.1 ∈ BIG) (hd : decode cc pc = .ok (.getfield index, 3))
    (k : G l D b X nL v μ' (pc + 3) lc (.int (μ o j) :: st) μ) : G l D b X nL v μ' pc lc (.ref (D.1 o) :: st) μ := g_get hX ho hf hw hd (by rw [fv, if_pos ht]) k
theorem g_getr {o ci j index a : Nat} {R : String} {T : u_T} {ty : FieldType} (hX : Cx l D b X d own cc nL ret) (ho : kd b o = ci) (hf : FG ci j R T ty) (ht : tf ci j = 1) (hw : Cond.fieldLink own index (T j).1 (T j).2.1 (T j).2.2.1 ∈ BIG) (hs : sr b o j = a) (hd : decode cc pc = .ok (.getfield index, 3))
    (k : G l D b X nL v μ' (pc + 3) lc (.ref (D.1 a) :: st) μ) : G l D b X nL v μ' pc lc (.ref (D.1 o) :: st) μ := g_get hX ho hf hw hd (by rw [fv, if_neg (by omega), if_pos ht, hs]) k
theorem g_getd {o ci j index : Nat} {R : String} {T : u_T} {ty : FieldType} (hX : Cx l D b X d own cc nL ret) (ho : kd b o = ci) (hf : FG ci j R T ty) (ht : tf ci j = 2) (hw : Cond.fieldLink own index (T j).1 (T j).2.1 (T j).2.2.1 ∈ BIG) (hd : decode cc pc = .ok (.getfield index, 3))
    (k : G l D b X nL v μ' (pc + 3) lc (.ref (D.1 (ix (μ o j))) :: st) μ) : G l D b X nL v μ' pc lc (.ref (D.1 o) :: st) μ := g_get hX ho hf hw hd (by rw [fv, if_neg (by omega), if_neg (by omega)]) k
theorem g_gets {o ci j index : Nat} {R : String} {T : u_T} {ty : FieldType} (hX : Cx l D b X d own cc nL ret) (ho : kd b o = ci) (hf : FG ci j R T ty) (ht : tf ci j = 2) (hw : Cond.fieldLink own index (T j).1 (T j).2.1 (T j).2.2.1 ∈ BIG) (hs : isStr (ix (μ o j)) = true) (hd : decode cc pc = .ok (.getfield index, 3))
    (k : G l D b X nL v μ' (pc + 3) lc (.ref (D.1 (110 + (ix (μ o j) - 110))) :: st) μ) : G l D b X nL v μ' pc lc (.ref (D.1 o) :: st) μ := g_get hX ho hf hw hd (by rw [fv, if_neg (by omega), if_neg (by omega), isStr_eq hs]) k

theorem g_puti {o ci j index : Nat} {R : String} {T : u_T} {ty0 : Nat → FieldType} {x : Int32} {μ2 : Mem} (hX : Cx l D b X d own cc nL ret) (ho : kd b o = ci) (hf : FG ci j R T .int) (ht : tf ci j = 0) (hty : ∀ k, k < nf ci → parseFieldDescriptor (T k).2.2.1 = some (ty0 k)) (hnm : ∀ a, a < nf ci → ∀ b, b < nf ci → a ≠ b → (T a).2.1 ≠ (T b).2.1) (hfin : (T j).2.2.2 = false) (hw : Cond.fieldLink own index (T j).1 (T j).2.1 (T j).2.2.1 ∈ BIG) (hd : decode cc pc = .ok (.putfield index, 3)) (hμ : up μ o j x = μ2) (k : G l D b X nL v μ' (pc + 3) lc st μ2) : G l D b X nL v μ' pc lc (.int x :: .ref (D.1 o) :: st) μ := by
  subst hμ
  exact g_put hX ho hf hty hnm hfin hw hd (fun μ => by rw [fv, if_pos ht, up_s]) rfl rfl k
theorem g_putz {o ci j index : Nat} {R : String} {T : u_T} {ty0 : Nat → FieldType} {x : Int32} {μ2 : Mem} (hX : Cx l D b X d own cc nL ret) (hb : bl x = true) (ho : kd b o = ci) (hf : FG ci j R T .boolean) (ht : tf ci j = 0) (hty : ∀ k, k < nf ci → parseFieldDescriptor (T k).2.2.1 = some (ty0 k)) (hnm : ∀ a, a < nf ci → ∀ b, b < nf ci → a ≠ b → (T a).2.1 ≠ (T b).2.1) (hfin : (T j).2.2.2 = false) (hw : Cond.fieldLink own index (T j).1 (T j).2.1 (T j).2.2.1 ∈ BIG) (hd : decode cc pc = .ok (.putfield index, 3)) (hμ : up μ o j x = μ2) (k : G l D b X nL v μ' (pc + 3) lc st μ2) : G l D b X nL v μ' pc lc (.int x :: .ref (D.1 o) :: st) μ := by
  subst hμ
  refine g_put hX ho hf hty hnm hfin hw hd (fun μ => by rw [fv, if_pos ht, up_s]) (nar_bl hb) ?_ k
  simp only [bl, Bool.or_eq_true, beq_iff_eq] at hb
  rcases hb with rfl | rfl <;> rfl
theorem g_putd {a : Nat} {C : String} {o ci j index : Nat} {R : String} {T : u_T} {ty0 : Nat → FieldType} {μ2 : Mem} (hX : Cx l D b X d own cc nL ret) (ha : a < 2 ^ 31) (ho : kd b o = ci) (hf : FG ci j R T (.object C)) (ht : tf ci j = 2) (hty : ∀ k, k < nf ci → parseFieldDescriptor (T k).2.2.1 = some (ty0 k)) (hnm : ∀ a, a < nf ci → ∀ b, b < nf ci → a ≠ b → (T a).2.1 ≠ (T b).2.1) (hfin : (T j).2.2.2 = false) (hw : Cond.fieldLink own index (T j).1 (T j).2.1 (T j).2.2.1 ∈ BIG) (hd : decode cc pc = .ok (.putfield index, 3)) (hμ : up μ o j (Int32.ofNat a) = μ2) (k : G l D b X nL v μ' (pc + 3) lc st μ2) : G l D b X nL v μ' pc lc (.ref (D.1 a) :: .ref (D.1 o) :: st) μ := by
  subst hμ
  exact g_put hX ho hf hty hnm hfin hw hd (fun μ => by rw [fv, if_neg (by omega), if_neg (by omega), up_s, ix_ofNat ha]) rfl rfl k
theorem g_sheet {j : Int32} (hX : Cx l D true X d own cc nL ret) (hin : inb j 4 = true) (hd : decode cc pc = .ok (.aaload, 1)) (k : G l D true X nL v μ' (pc + 1) lc (.ref (D.1 (58 + 2 * ix j)) :: st) μ) : G l D true X nL v μ' pc lc (.int j :: .ref (D.1 57) :: st) μ := by
  refine g_aald (n := 4) hX (by decide +kernel) (by decide +kernel) hin hd ?_
  rw [sheet_sr hin]
  exact k
theorem g_iastM {a n : Nat} {j x : Int32} {μ2 : Mem} (hX : Cx l D b X d own cc nL ret) (ha : kd b a = 10) (hn : ln b a = n) (hin : inb j n = true) (hd : decode cc pc = .ok (.iastore, 1)) (hμ : up μ a (ix j) x = μ2) (k : G l D b X nL v μ' (pc + 1) lc st μ2) : G l D b X nL v μ' pc lc (.int x :: .int j :: .ref (D.1 a) :: st) μ := by
  subst hμ
  exact g_iast hX ha hn hin hd k
theorem g_bastM {a n : Nat} {j x : Int32} {μ2 : Mem} (hX : Cx l D b X d own cc nL ret) (ha : kd b a = 11) (hn : ln b a = n) (hin : inb j n = true) (hd : decode cc pc = .ok (.bastore, 1)) (hμ : up μ a (ix j) x.toInt8.toInt32 = μ2) (k : G l D b X nL v μ' (pc + 1) lc st μ2) : G l D b X nL v μ' pc lc (.int x :: .int j :: .ref (D.1 a) :: st) μ := by
  subst hμ
  exact g_bast hX ha hn hin hd k
theorem g_copyM {a0 a index : Nat} {sp dp n : Int32} {μ2 : Mem} (hX : Cx l D b X d own cc nL ret) (hcp : cpW) (hw : Cond.methodLink own index arraycopyName ∈ BIG) (h0 : kd b a0 = 10) (h1 : kd b a = 10) (hin : inC sp dp n (ln b a0) (ln b a) = true) (hsum : (st.map fun v => v.category).sum ≤ 8) (hd2 : 2 ≤ d) (hd : decode cc pc = .ok (.invokestatic index, 3)) (hμ : cpM μ a0 (ix sp) a (ix dp) (ix n) = μ2)
    (k : G l D b X nL v μ' (pc + 3) lc st μ2) : G l D b X nL v μ' pc lc (.int n :: .int dp :: .ref (D.1 a) :: .int sp :: .ref (D.1 a0) :: st) μ := by
  subst hμ
  exact g_copy hX hcp hw h0 h1 hin hsum hd2 hd k
theorem g_copyBM {a0 a index : Nat} {sp dp n : Int32} {μ2 : Mem} (hX : Cx l D b X d own cc nL ret) (hcp : cpW) (hw : Cond.methodLink own index arraycopyName ∈ BIG) (h0 : kd b a0 = 11) (h1 : kd b a = 11) (hin : inC sp dp n (ln b a0) (ln b a) = true) (hsum : (st.map fun v => v.category).sum ≤ 8) (hd2 : 2 ≤ d) (hd : decode cc pc = .ok (.invokestatic index, 3)) (hμ : cpM μ a0 (ix sp) a (ix dp) (ix n) = μ2)
    (k : G l D b X nL v μ' (pc + 3) lc st μ2) : G l D b X nL v μ' pc lc (.int n :: .int dp :: .ref (D.1 a) :: .int sp :: .ref (D.1 a0) :: st) μ := by
  subst hμ
  exact g_copyB hX hcp hw h0 h1 hin hsum hd2 hd k
theorem g_tsD {dflt lo hi : Int} {offs : Array Int} {len tgt : Nat} {x : Int32} (hX : Cx l D b X d own cc nL ret) (hd : decode cc pc = .ok (.tableswitch dflt lo hi offs, len)) (h : (x.toInt < lo ∨ hi < x.toInt) ∨ (¬ x.toInt < lo ∧ ¬ hi < x.toInt ∧ offs[(x.toInt - lo).toNat]? = some dflt)) (ht : (pc : Int) + dflt = (tgt : Int)) (k : G l D b X nL v μ' tgt lc st μ) : G l D b X nL v μ' pc lc (.int x :: st) μ := by
  rcases h with h | ⟨h1, h2, h3⟩
  · exact g_tsOut hX hd h ht k
  · exact g_tsIn hX hd h1 h2 h3 ht k

theorem g_callVi {d1 nL1 n index : Nat} {y1 : MethodName} {cc1 : ByteArray} {ret1 : Option FieldType} {r : Int32} {μ1 : Mem} {as : List Value} {st0 : List Value} {o ci : Nat} (hX : Cx l D b X d own cc nL ret) (hM : Ct l D b d1 y1 cc1 nL1 ret1 (.ref (D.1 o) :: as) μ (some (.int r)) μ1) (mv : MV y1 cc1 nL1 ret1 n) (hw : Cond.methodLink own index y1 ∈ BIG) (ho : kd b o = ci) (hc : (vwCl[ci]?).map (fun r => r.1) = some y1.cls) (hci : ci < 10) (hd1 : d1 + 1 ≤ d) (hn : as.length = n) (hst : st0 = as.reverse ++ .ref (D.1 o) :: st) (hsum : (st.map fun v => v.category).sum ≤ 8) (hd : decode cc pc = .ok (.invokevirtual index, 3))
    (k : G l D b X nL v μ' (pc + 3) lc (.int r :: st) μ1) : G l D b X nL v μ' pc lc st0 μ := g_callV hX hM mv hw ho hc hci hd1 hn hst hsum hd k
theorem g_callSi {d1 nL1 n index : Nat} {y1 : MethodName} {cc1 : ByteArray} {ret1 : Option FieldType} {r : Int32} {μ1 : Mem} {as : List Value} {st0 : List Value} (hX : Cx l D b X d own cc nL ret) (hM : Ct l D b d1 y1 cc1 nL1 ret1 as μ (some (.int r)) μ1) (mv : MS y1 cc1 nL1 ret1 n) (hw : Cond.methodLink own index y1 ∈ BIG) (hd1 : d1 + 1 ≤ d) (hn : as.length = n) (hst : st0 = as.reverse ++ st) (hsum : (st.map fun v => v.category).sum ≤ 8) (hd : decode cc pc = .ok (.invokestatic index, 3))
    (k : G l D b X nL v μ' (pc + 3) lc (.int r :: st) μ1) : G l D b X nL v μ' pc lc st0 μ := g_callS hX hM mv hw hd1 hn hst hsum hd k
theorem g_callSNi {d1 nL1 n index : Nat} {y1 : MethodName} {cc1 : ByteArray} {ret1 : Option FieldType} {r : Int32} {μ1 : Mem} {as : List Value} {st0 : List Value} {host : String} (hX : Cx l D true X d own cc nL ret) (hM : Ct l D true d1 y1 cc1 nL1 ret1 as μ (some (.int r)) μ1) (mv : MS y1 cc1 nL1 ret1 n) (hw : Cond.methodLinkNest own index y1 host ∈ nestL) (hd1 : d1 + 1 ≤ d) (hn : as.length = n) (hst : st0 = as.reverse ++ st) (hsum : (st.map fun v => v.category).sum ≤ 8) (hd : decode cc pc = .ok (.invokestatic index, 3))
    (k : G l D true X nL v μ' (pc + 3) lc (.int r :: st) μ1) : G l D true X nL v μ' pc lc st0 μ := g_callSN hX hM mv hw hd1 hn hst hsum hd k
theorem g_callVSi {d1 nL1 n index : Nat} {y1 : MethodName} {cc1 : ByteArray} {ret1 : Option FieldType} {r : Int32} {μ1 : Mem} {as : List Value} {st0 : List Value} {i : Nat} (hX : Cx l D true X d own cc nL ret) (hM : Ct l D true d1 y1 cc1 nL1 ret1 (.ref (D.1 (110 + i)) :: as) μ (some (.int r)) μ1) (mv : MV y1 cc1 nL1 ret1 n) (hw : Cond.methodLink own index y1 ∈ BIG) (hi : i < 3) (hc : y1.cls = "java/lang/String") (hd1 : d1 + 1 ≤ d) (hn : as.length = n) (hst : st0 = as.reverse ++ .ref (D.1 (110 + i)) :: st) (hsum : (st.map fun v => v.category).sum ≤ 8) (hd : decode cc pc = .ok (.invokevirtual index, 3))
    (k : G l D true X nL v μ' (pc + 3) lc (.int r :: st) μ1) : G l D true X nL v μ' pc lc st0 μ := g_callVS hX hM mv hw hi hc hd1 hn hst hsum hd k

theorem g_callVv {d1 nL1 n index : Nat} {y1 : MethodName} {cc1 : ByteArray} {ret1 : Option FieldType} {μ1 : Mem} {as : List Value} {st0 : List Value} {o ci : Nat} (hX : Cx l D b X d own cc nL ret) (hM : Ct l D b d1 y1 cc1 nL1 ret1 (.ref (D.1 o) :: as) μ none μ1) (mv : MV y1 cc1 nL1 ret1 n) (hw : Cond.methodLink own index y1 ∈ BIG) (ho : kd b o = ci) (hc : (vwCl[ci]?).map (fun r => r.1) = some y1.cls) (hci : ci < 10) (hd1 : d1 + 1 ≤ d) (hn : as.length = n) (hst : st0 = as.reverse ++ .ref (D.1 o) :: st) (hsum : (st.map fun v => v.category).sum ≤ 8) (hd : decode cc pc = .ok (.invokevirtual index, 3))
    (k : G l D b X nL v μ' (pc + 3) lc st μ1) : G l D b X nL v μ' pc lc st0 μ := g_callV hX hM mv hw ho hc hci hd1 hn hst hsum hd k
theorem g_callSv {d1 nL1 n index : Nat} {y1 : MethodName} {cc1 : ByteArray} {ret1 : Option FieldType} {μ1 : Mem} {as : List Value} {st0 : List Value} (hX : Cx l D b X d own cc nL ret) (hM : Ct l D b d1 y1 cc1 nL1 ret1 as μ none μ1) (mv : MS y1 cc1 nL1 ret1 n) (hw : Cond.methodLink own index y1 ∈ BIG) (hd1 : d1 + 1 ≤ d) (hn : as.length = n) (hst : st0 = as.reverse ++ st) (hsum : (st.map fun v => v.category).sum ≤ 8) (hd : decode cc pc = .ok (.invokestatic index, 3))
    (k : G l D b X nL v μ' (pc + 3) lc st μ1) : G l D b X nL v μ' pc lc st0 μ := g_callS hX hM mv hw hd1 hn hst hsum hd k
theorem g_callSNv {d1 nL1 n index : Nat} {y1 : MethodName} {cc1 : ByteArray} {ret1 : Option FieldType} {μ1 : Mem} {as : List Value} {st0 : List Value} {host : String} (hX : Cx l D true X d own cc nL ret) (hM : Ct l D true d1 y1 cc1 nL1 ret1 as μ none μ1) (mv : MS y1 cc1 nL1 ret1 n) (hw : Cond.methodLinkNest own index y1 host ∈ nestL) (hd1 : d1 + 1 ≤ d) (hn : as.length = n) (hst : st0 = as.reverse ++ st) (hsum : (st.map fun v => v.category).sum ≤ 8) (hd : decode cc pc = .ok (.invokestatic index, 3))
    (k : G l D true X nL v μ' (pc + 3) lc st μ1) : G l D true X nL v μ' pc lc st0 μ := g_callSN hX hM mv hw hd1 hn hst hsum hd k
theorem g_callVSv {d1 nL1 n index : Nat} {y1 : MethodName} {cc1 : ByteArray} {ret1 : Option FieldType} {μ1 : Mem} {as : List Value} {st0 : List Value} {i : Nat} (hX : Cx l D true X d own cc nL ret) (hM : Ct l D true d1 y1 cc1 nL1 ret1 (.ref (D.1 (110 + i)) :: as) μ none μ1) (mv : MV y1 cc1 nL1 ret1 n) (hw : Cond.methodLink own index y1 ∈ BIG) (hi : i < 3) (hc : y1.cls = "java/lang/String") (hd1 : d1 + 1 ≤ d) (hn : as.length = n) (hst : st0 = as.reverse ++ .ref (D.1 (110 + i)) :: st) (hsum : (st.map fun v => v.category).sum ≤ 8) (hd : decode cc pc = .ok (.invokevirtual index, 3))
    (k : G l D true X nL v μ' (pc + 3) lc st μ1) : G l D true X nL v μ' pc lc st0 μ := g_callVS hX hM mv hw hi hc hd1 hn hst hsum hd k

theorem g_callVr {d1 nL1 n index : Nat} {y1 : MethodName} {cc1 : ByteArray} {ret1 : Option FieldType} {r : Nat} {μ1 : Mem} {as : List Value} {st0 : List Value} {o ci : Nat} (hX : Cx l D b X d own cc nL ret) (hM : Ct l D b d1 y1 cc1 nL1 ret1 (.ref (D.1 o) :: as) μ (some (.ref r)) μ1) (mv : MV y1 cc1 nL1 ret1 n) (hw : Cond.methodLink own index y1 ∈ BIG) (ho : kd b o = ci) (hc : (vwCl[ci]?).map (fun r => r.1) = some y1.cls) (hci : ci < 10) (hd1 : d1 + 1 ≤ d) (hn : as.length = n) (hst : st0 = as.reverse ++ .ref (D.1 o) :: st) (hsum : (st.map fun v => v.category).sum ≤ 8) (hd : decode cc pc = .ok (.invokevirtual index, 3))
    (k : G l D b X nL v μ' (pc + 3) lc (.ref r :: st) μ1) : G l D b X nL v μ' pc lc st0 μ := g_callV hX hM mv hw ho hc hci hd1 hn hst hsum hd k
theorem g_callSr {d1 nL1 n index : Nat} {y1 : MethodName} {cc1 : ByteArray} {ret1 : Option FieldType} {r : Nat} {μ1 : Mem} {as : List Value} {st0 : List Value} (hX : Cx l D b X d own cc nL ret) (hM : Ct l D b d1 y1 cc1 nL1 ret1 as μ (some (.ref r)) μ1) (mv : MS y1 cc1 nL1 ret1 n) (hw : Cond.methodLink own index y1 ∈ BIG) (hd1 : d1 + 1 ≤ d) (hn : as.length = n) (hst : st0 = as.reverse ++ st) (hsum : (st.map fun v => v.category).sum ≤ 8) (hd : decode cc pc = .ok (.invokestatic index, 3))
    (k : G l D b X nL v μ' (pc + 3) lc (.ref r :: st) μ1) : G l D b X nL v μ' pc lc st0 μ := g_callS hX hM mv hw hd1 hn hst hsum hd k
theorem g_callSNr {d1 nL1 n index : Nat} {y1 : MethodName} {cc1 : ByteArray} {ret1 : Option FieldType} {r : Nat} {μ1 : Mem} {as : List Value} {st0 : List Value} {host : String} (hX : Cx l D true X d own cc nL ret) (hM : Ct l D true d1 y1 cc1 nL1 ret1 as μ (some (.ref r)) μ1) (mv : MS y1 cc1 nL1 ret1 n) (hw : Cond.methodLinkNest own index y1 host ∈ nestL) (hd1 : d1 + 1 ≤ d) (hn : as.length = n) (hst : st0 = as.reverse ++ st) (hsum : (st.map fun v => v.category).sum ≤ 8) (hd : decode cc pc = .ok (.invokestatic index, 3))
    (k : G l D true X nL v μ' (pc + 3) lc (.ref r :: st) μ1) : G l D true X nL v μ' pc lc st0 μ := g_callSN hX hM mv hw hd1 hn hst hsum hd k
theorem g_callVSr {d1 nL1 n index : Nat} {y1 : MethodName} {cc1 : ByteArray} {ret1 : Option FieldType} {r : Nat} {μ1 : Mem} {as : List Value} {st0 : List Value} {i : Nat} (hX : Cx l D true X d own cc nL ret) (hM : Ct l D true d1 y1 cc1 nL1 ret1 (.ref (D.1 (110 + i)) :: as) μ (some (.ref r)) μ1) (mv : MV y1 cc1 nL1 ret1 n) (hw : Cond.methodLink own index y1 ∈ BIG) (hi : i < 3) (hc : y1.cls = "java/lang/String") (hd1 : d1 + 1 ≤ d) (hn : as.length = n) (hst : st0 = as.reverse ++ .ref (D.1 (110 + i)) :: st) (hsum : (st.map fun v => v.category).sum ≤ 8) (hd : decode cc pc = .ok (.invokevirtual index, 3))
    (k : G l D true X nL v μ' (pc + 3) lc (.ref r :: st) μ1) : G l D true X nL v μ' pc lc st0 μ := g_callVS hX hM mv hw hi hc hd1 hn hst hsum hd k

end GR
end
