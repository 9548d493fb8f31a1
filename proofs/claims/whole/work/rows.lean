section
-- ===== PART A: goes FIRST, ahead of the names: the tables' words, and 'selects' of the private methods out of them =====
/-- a private method of a class that the tables say can be made, by its rows of tables_1 -/
def lw_okq (q : MethodName × Nat) : Prop := (q.1.cls ≠ "java/lang/invoke/MethodHandle" ∧ q.1.cls ≠ "java/lang/invoke/VarHandle") ∧ Cond.instantiable q.1.cls q.2 ∈ tables_1 ∧ Cond.privateMethod q.1 ∈ tables_1 ∧ Cond.instanceMethod q.1 ∈ tables_1
theorem lw_p0 : lw_okq (⟨"BorderGuards", "survey", "()V"⟩, 14) := ⟨⟨by decide +kernel, by decide +kernel⟩, List.mem_of_getElem? (i := 16) (by decide +kernel), List.mem_of_getElem? (i := 268) (by decide +kernel), List.mem_of_getElem? (i := 269) (by decide +kernel)⟩
theorem lw_p1 : lw_okq (⟨"BorderGuards$Ways", "add", "(LBorderGuards$Land;I)V"⟩, 6) := ⟨⟨by decide +kernel, by decide +kernel⟩, List.mem_of_getElem? (i := 123) (by decide +kernel), List.mem_of_getElem? (i := 286) (by decide +kernel), List.mem_of_getElem? (i := 287) (by decide +kernel)⟩
theorem lw_p2 : lw_okq (⟨"BorderGuards$Script", "nextByte", "()I"⟩, 4) := ⟨⟨by decide +kernel, by decide +kernel⟩, List.mem_of_getElem? (i := 24) (by decide +kernel), List.mem_of_getElem? (i := 366) (by decide +kernel), List.mem_of_getElem? (i := 367) (by decide +kernel)⟩
theorem lw_p3 : lw_okq (⟨"BorderGuards$Script", "readNumbers", "()I"⟩, 4) := ⟨⟨by decide +kernel, by decide +kernel⟩, List.mem_of_getElem? (i := 24) (by decide +kernel), List.mem_of_getElem? (i := 370) (by decide +kernel), List.mem_of_getElem? (i := 371) (by decide +kernel)⟩
theorem lw_p4 : lw_okq (⟨"BorderGuards$Script", "readNumber", "()I"⟩, 4) := ⟨⟨by decide +kernel, by decide +kernel⟩, List.mem_of_getElem? (i := 24) (by decide +kernel), List.mem_of_getElem? (i := 374) (by decide +kernel), List.mem_of_getElem? (i := 375) (by decide +kernel)⟩
theorem lw_p5 : lw_okq (⟨"BorderGuards$Land", "takesPath", "([I)Z"⟩, 8) := ⟨⟨by decide +kernel, by decide +kernel⟩, List.mem_of_getElem? (i := 45) (by decide +kernel), List.mem_of_getElem? (i := 388) (by decide +kernel), List.mem_of_getElem? (i := 389) (by decide +kernel)⟩
theorem lw_p6 : lw_okq (⟨"BorderGuards$Land", "takesTower", "(III)Z"⟩, 8) := ⟨⟨by decide +kernel, by decide +kernel⟩, List.mem_of_getElem? (i := 45) (by decide +kernel), List.mem_of_getElem? (i := 394) (by decide +kernel), List.mem_of_getElem? (i := 395) (by decide +kernel)⟩
theorem lw_p7 : lw_okq (⟨"BorderGuards$Land", "takesNumber", "(II)Z"⟩, 8) := ⟨⟨by decide +kernel, by decide +kernel⟩, List.mem_of_getElem? (i := 45) (by decide +kernel), List.mem_of_getElem? (i := 402) (by decide +kernel), List.mem_of_getElem? (i := 403) (by decide +kernel)⟩
theorem lw_p8 : lw_okq (⟨"BorderGuards", "mostBy", "(II)I"⟩, 14) := ⟨⟨by decide +kernel, by decide +kernel⟩, List.mem_of_getElem? (i := 16) (by decide +kernel), List.mem_of_getElem? (i := 460) (by decide +kernel), List.mem_of_getElem? (i := 461) (by decide +kernel)⟩
theorem lw_p9 : lw_okq (⟨"BorderGuards$Cuts", "sumOver", "(I)I"⟩, 4) := ⟨⟨by decide +kernel, by decide +kernel⟩, List.mem_of_getElem? (i := 101) (by decide +kernel), List.mem_of_getElem? (i := 470) (by decide +kernel), List.mem_of_getElem? (i := 471) (by decide +kernel)⟩
theorem lw_p10 : lw_okq (⟨"BorderGuards$Plans", "lowerMost", "(LBorderGuards$Land;I)V"⟩, 12) := ⟨⟨by decide +kernel, by decide +kernel⟩, List.mem_of_getElem? (i := 149) (by decide +kernel), List.mem_of_getElem? (i := 507) (by decide +kernel), List.mem_of_getElem? (i := 508) (by decide +kernel)⟩
theorem lw_p11 : lw_okq (⟨"BorderGuards$Plans", "sumAddends", "(I)V"⟩, 12) := ⟨⟨by decide +kernel, by decide +kernel⟩, List.mem_of_getElem? (i := 149) (by decide +kernel), List.mem_of_getElem? (i := 512) (by decide +kernel), List.mem_of_getElem? (i := 513) (by decide +kernel)⟩
theorem lw_p12 : lw_okq (⟨"BorderGuards$Plans", "sumNumbers", "(LBorderGuards$Land;I)V"⟩, 12) := ⟨⟨by decide +kernel, by decide +kernel⟩, List.mem_of_getElem? (i := 149) (by decide +kernel), List.mem_of_getElem? (i := 516) (by decide +kernel), List.mem_of_getElem? (i := 517) (by decide +kernel)⟩
theorem lw_p13 : lw_okq (⟨"BorderGuards$Plans", "offerAll", "(LBorderGuards$Land;I)V"⟩, 12) := ⟨⟨by decide +kernel, by decide +kernel⟩, List.mem_of_getElem? (i := 149) (by decide +kernel), List.mem_of_getElem? (i := 520) (by decide +kernel), List.mem_of_getElem? (i := 521) (by decide +kernel)⟩
theorem lw_p14 : lw_okq (⟨"BorderGuards$Plans", "spreadBest", "()V"⟩, 12) := ⟨⟨by decide +kernel, by decide +kernel⟩, List.mem_of_getElem? (i := 149) (by decide +kernel), List.mem_of_getElem? (i := 526) (by decide +kernel), List.mem_of_getElem? (i := 527) (by decide +kernel)⟩
theorem lw_p15 : lw_okq (⟨"BorderGuards", "playGame", "()Z"⟩, 14) := ⟨⟨by decide +kernel, by decide +kernel⟩, List.mem_of_getElem? (i := 16) (by decide +kernel), List.mem_of_getElem? (i := 634) (by decide +kernel), List.mem_of_getElem? (i := 635) (by decide +kernel)⟩
def lw_privs_1 : List (MethodName × Nat) := [(⟨"BorderGuards", "survey", "()V"⟩, 14), (⟨"BorderGuards$Ways", "add", "(LBorderGuards$Land;I)V"⟩, 6), (⟨"BorderGuards$Script", "nextByte", "()I"⟩, 4), (⟨"BorderGuards$Script", "readNumbers", "()I"⟩, 4), (⟨"BorderGuards$Script", "readNumber", "()I"⟩, 4), (⟨"BorderGuards$Land", "takesPath", "([I)Z"⟩, 8), (⟨"BorderGuards$Land", "takesTower", "(III)Z"⟩, 8), (⟨"BorderGuards$Land", "takesNumber", "(II)Z"⟩, 8), (⟨"BorderGuards", "mostBy", "(II)I"⟩, 14), (⟨"BorderGuards$Cuts", "sumOver", "(I)I"⟩, 4), (⟨"BorderGuards$Plans", "lowerMost", "(LBorderGuards$Land;I)V"⟩, 12), (⟨"BorderGuards$Plans", "sumAddends", "(I)V"⟩, 12), (⟨"BorderGuards$Plans", "sumNumbers", "(LBorderGuards$Land;I)V"⟩, 12), (⟨"BorderGuards$Plans", "offerAll", "(LBorderGuards$Land;I)V"⟩, 12), (⟨"BorderGuards$Plans", "spreadBest", "()V"⟩, 12), (⟨"BorderGuards", "playGame", "()Z"⟩, 14)]
theorem lw_r1 : ∀ q ∈ lw_privs_1, lw_okq q := List.forall_mem_cons.mpr ⟨lw_p0, List.forall_mem_cons.mpr ⟨lw_p1, List.forall_mem_cons.mpr ⟨lw_p2, List.forall_mem_cons.mpr ⟨lw_p3, List.forall_mem_cons.mpr ⟨lw_p4, List.forall_mem_cons.mpr ⟨lw_p5, List.forall_mem_cons.mpr ⟨lw_p6, List.forall_mem_cons.mpr ⟨lw_p7, List.forall_mem_cons.mpr ⟨lw_p8, List.forall_mem_cons.mpr ⟨lw_p9, List.forall_mem_cons.mpr ⟨lw_p10, List.forall_mem_cons.mpr ⟨lw_p11, List.forall_mem_cons.mpr ⟨lw_p12, List.forall_mem_cons.mpr ⟨lw_p13, List.forall_mem_cons.mpr ⟨lw_p14, List.forall_mem_cons.mpr ⟨lw_p15, fun _ h => absurd h List.not_mem_nil⟩⟩⟩⟩⟩⟩⟩⟩⟩⟩⟩⟩⟩⟩⟩⟩
theorem lw_p16 : lw_okq (⟨"BorderGuards", "setUpGame", "()V"⟩, 14) := ⟨⟨by decide +kernel, by decide +kernel⟩, List.mem_of_getElem? (i := 16) (by decide +kernel), List.mem_of_getElem? (i := 638) (by decide +kernel), List.mem_of_getElem? (i := 639) (by decide +kernel)⟩
theorem lw_p17 : lw_okq (⟨"BorderGuards$Game", "findCarriers", "(IIII)Z"⟩, 6) := ⟨⟨by decide +kernel, by decide +kernel⟩, List.mem_of_getElem? (i := 214) (by decide +kernel), List.mem_of_getElem? (i := 666) (by decide +kernel), List.mem_of_getElem? (i := 667) (by decide +kernel)⟩
theorem lw_p18 : lw_okq (⟨"BorderGuards$Game", "mixes", "(II)Z"⟩, 6) := ⟨⟨by decide +kernel, by decide +kernel⟩, List.mem_of_getElem? (i := 214) (by decide +kernel), List.mem_of_getElem? (i := 670) (by decide +kernel), List.mem_of_getElem? (i := 671) (by decide +kernel)⟩
theorem lw_p19 : lw_okq (⟨"BorderGuards$Game", "signedMinor", "(IIII)J"⟩, 6) := ⟨⟨by decide +kernel, by decide +kernel⟩, List.mem_of_getElem? (i := 214) (by decide +kernel), List.mem_of_getElem? (i := 677) (by decide +kernel), List.mem_of_getElem? (i := 678) (by decide +kernel)⟩
theorem lw_p20 : lw_okq (⟨"BorderGuards$Game", "fillLine", "(III)V"⟩, 6) := ⟨⟨by decide +kernel, by decide +kernel⟩, List.mem_of_getElem? (i := 214) (by decide +kernel), List.mem_of_getElem? (i := 681) (by decide +kernel), List.mem_of_getElem? (i := 682) (by decide +kernel)⟩
theorem lw_p21 : lw_okq (⟨"BorderGuards$Game", "minorOf", "(I)J"⟩, 6) := ⟨⟨by decide +kernel, by decide +kernel⟩, List.mem_of_getElem? (i := 214) (by decide +kernel), List.mem_of_getElem? (i := 685) (by decide +kernel), List.mem_of_getElem? (i := 686) (by decide +kernel)⟩
theorem lw_p22 : lw_okq (⟨"BorderGuards$Game", "turnSigns", "()V"⟩, 6) := ⟨⟨by decide +kernel, by decide +kernel⟩, List.mem_of_getElem? (i := 214) (by decide +kernel), List.mem_of_getElem? (i := 689) (by decide +kernel), List.mem_of_getElem? (i := 690) (by decide +kernel)⟩
theorem lw_p23 : lw_okq (⟨"BorderGuards$Game", "meanBy", "(I)J"⟩, 6) := ⟨⟨by decide +kernel, by decide +kernel⟩, List.mem_of_getElem? (i := 214) (by decide +kernel), List.mem_of_getElem? (i := 700) (by decide +kernel), List.mem_of_getElem? (i := 701) (by decide +kernel)⟩
theorem lw_p24 : lw_okq (⟨"BorderGuards$Game", "noneDoesBetter", "(II)Z"⟩, 6) := ⟨⟨by decide +kernel, by decide +kernel⟩, List.mem_of_getElem? (i := 214) (by decide +kernel), List.mem_of_getElem? (i := 704) (by decide +kernel), List.mem_of_getElem? (i := 705) (by decide +kernel)⟩
theorem lw_p25 : lw_okq (⟨"BorderGuards$Game", "meanOf", "(I)J"⟩, 6) := ⟨⟨by decide +kernel, by decide +kernel⟩, List.mem_of_getElem? (i := 214) (by decide +kernel), List.mem_of_getElem? (i := 708) (by decide +kernel), List.mem_of_getElem? (i := 709) (by decide +kernel)⟩
theorem lw_p26 : lw_okq (⟨"BorderGuards$Rounds", "leastBefore", "(IIZ)I"⟩, 4) := ⟨⟨by decide +kernel, by decide +kernel⟩, List.mem_of_getElem? (i := 247) (by decide +kernel), List.mem_of_getElem? (i := 748) (by decide +kernel), List.mem_of_getElem? (i := 749) (by decide +kernel)⟩
theorem lw_p27 : lw_okq (⟨"BorderGuardsModel", "noLand", "(I)V"⟩, 33) := ⟨⟨by decide +kernel, by decide +kernel⟩, List.mem_of_getElem? (i := 773) (by decide +kernel), List.mem_of_getElem? (i := 779) (by decide +kernel), List.mem_of_getElem? (i := 780) (by decide +kernel)⟩
theorem lw_p28 : lw_okq (⟨"BorderGuardsModel", "noPlayers", "()V"⟩, 33) := ⟨⟨by decide +kernel, by decide +kernel⟩, List.mem_of_getElem? (i := 773) (by decide +kernel), List.mem_of_getElem? (i := 783) (by decide +kernel), List.mem_of_getElem? (i := 784) (by decide +kernel)⟩
theorem lw_p29 : lw_okq (⟨"BorderGuardsModel", "readAll", "()I"⟩, 33) := ⟨⟨by decide +kernel, by decide +kernel⟩, List.mem_of_getElem? (i := 773) (by decide +kernel), List.mem_of_getElem? (i := 904) (by decide +kernel), List.mem_of_getElem? (i := 905) (by decide +kernel)⟩
theorem lw_p30 : lw_okq (⟨"BorderGuardsModel", "item", "()Z"⟩, 33) := ⟨⟨by decide +kernel, by decide +kernel⟩, List.mem_of_getElem? (i := 773) (by decide +kernel), List.mem_of_getElem? (i := 908) (by decide +kernel), List.mem_of_getElem? (i := 909) (by decide +kernel)⟩
theorem lw_p31 : lw_okq (⟨"BorderGuardsModel", "byteAt", "(I)I"⟩, 33) := ⟨⟨by decide +kernel, by decide +kernel⟩, List.mem_of_getElem? (i := 773) (by decide +kernel), List.mem_of_getElem? (i := 912) (by decide +kernel), List.mem_of_getElem? (i := 913) (by decide +kernel)⟩
def lw_privs_2 : List (MethodName × Nat) := [(⟨"BorderGuards", "setUpGame", "()V"⟩, 14), (⟨"BorderGuards$Game", "findCarriers", "(IIII)Z"⟩, 6), (⟨"BorderGuards$Game", "mixes", "(II)Z"⟩, 6), (⟨"BorderGuards$Game", "signedMinor", "(IIII)J"⟩, 6), (⟨"BorderGuards$Game", "fillLine", "(III)V"⟩, 6), (⟨"BorderGuards$Game", "minorOf", "(I)J"⟩, 6), (⟨"BorderGuards$Game", "turnSigns", "()V"⟩, 6), (⟨"BorderGuards$Game", "meanBy", "(I)J"⟩, 6), (⟨"BorderGuards$Game", "noneDoesBetter", "(II)Z"⟩, 6), (⟨"BorderGuards$Game", "meanOf", "(I)J"⟩, 6), (⟨"BorderGuards$Rounds", "leastBefore", "(IIZ)I"⟩, 4), (⟨"BorderGuardsModel", "noLand", "(I)V"⟩, 33), (⟨"BorderGuardsModel", "noPlayers", "()V"⟩, 33), (⟨"BorderGuardsModel", "readAll", "()I"⟩, 33), (⟨"BorderGuardsModel", "item", "()Z"⟩, 33), (⟨"BorderGuardsModel", "byteAt", "(I)I"⟩, 33)]
theorem lw_r2 : ∀ q ∈ lw_privs_2, lw_okq q := List.forall_mem_cons.mpr ⟨lw_p16, List.forall_mem_cons.mpr ⟨lw_p17, List.forall_mem_cons.mpr ⟨lw_p18, List.forall_mem_cons.mpr ⟨lw_p19, List.forall_mem_cons.mpr ⟨lw_p20, List.forall_mem_cons.mpr ⟨lw_p21, List.forall_mem_cons.mpr ⟨lw_p22, List.forall_mem_cons.mpr ⟨lw_p23, List.forall_mem_cons.mpr ⟨lw_p24, List.forall_mem_cons.mpr ⟨lw_p25, List.forall_mem_cons.mpr ⟨lw_p26, List.forall_mem_cons.mpr ⟨lw_p27, List.forall_mem_cons.mpr ⟨lw_p28, List.forall_mem_cons.mpr ⟨lw_p29, List.forall_mem_cons.mpr ⟨lw_p30, List.forall_mem_cons.mpr ⟨lw_p31, fun _ h => absurd h List.not_mem_nil⟩⟩⟩⟩⟩⟩⟩⟩⟩⟩⟩⟩⟩⟩⟩⟩
theorem lw_p32 : lw_okq (⟨"BorderGuardsModel", "pathItem", "()Z"⟩, 33) := ⟨⟨by decide +kernel, by decide +kernel⟩, List.mem_of_getElem? (i := 773) (by decide +kernel), List.mem_of_getElem? (i := 916) (by decide +kernel), List.mem_of_getElem? (i := 917) (by decide +kernel)⟩
theorem lw_p33 : lw_okq (⟨"BorderGuardsModel", "figures", "(I)Z"⟩, 33) := ⟨⟨by decide +kernel, by decide +kernel⟩, List.mem_of_getElem? (i := 773) (by decide +kernel), List.mem_of_getElem? (i := 920) (by decide +kernel), List.mem_of_getElem? (i := 921) (by decide +kernel)⟩
theorem lw_p34 : lw_okq (⟨"BorderGuardsModel", "towerItem", "()Z"⟩, 33) := ⟨⟨by decide +kernel, by decide +kernel⟩, List.mem_of_getElem? (i := 773) (by decide +kernel), List.mem_of_getElem? (i := 927) (by decide +kernel), List.mem_of_getElem? (i := 928) (by decide +kernel)⟩
theorem lw_p35 : lw_okq (⟨"BorderGuardsModel", "copyLand", "(II)V"⟩, 33) := ⟨⟨by decide +kernel, by decide +kernel⟩, List.mem_of_getElem? (i := 773) (by decide +kernel), List.mem_of_getElem? (i := 935) (by decide +kernel), List.mem_of_getElem? (i := 936) (by decide +kernel)⟩
theorem lw_p36 : lw_okq (⟨"BorderGuardsModel", "isPath", "(I)Z"⟩, 33) := ⟨⟨by decide +kernel, by decide +kernel⟩, List.mem_of_getElem? (i := 773) (by decide +kernel), List.mem_of_getElem? (i := 943) (by decide +kernel), List.mem_of_getElem? (i := 944) (by decide +kernel)⟩
theorem lw_p37 : lw_okq (⟨"BorderGuardsModel", "arePosts", "(I)Z"⟩, 33) := ⟨⟨by decide +kernel, by decide +kernel⟩, List.mem_of_getElem? (i := 773) (by decide +kernel), List.mem_of_getElem? (i := 952) (by decide +kernel), List.mem_of_getElem? (i := 953) (by decide +kernel)⟩
theorem lw_p38 : lw_okq (⟨"BorderGuardsModel", "costOf", "(I)I"⟩, 33) := ⟨⟨by decide +kernel, by decide +kernel⟩, List.mem_of_getElem? (i := 773) (by decide +kernel), List.mem_of_getElem? (i := 957) (by decide +kernel), List.mem_of_getElem? (i := 958) (by decide +kernel)⟩
theorem lw_p39 : lw_okq (⟨"BorderGuardsModel", "heldBy", "(I)I"⟩, 33) := ⟨⟨by decide +kernel, by decide +kernel⟩, List.mem_of_getElem? (i := 773) (by decide +kernel), List.mem_of_getElem? (i := 964) (by decide +kernel), List.mem_of_getElem? (i := 965) (by decide +kernel)⟩
theorem lw_p40 : lw_okq (⟨"BorderGuardsModel", "waitsBy", "(I)I"⟩, 33) := ⟨⟨by decide +kernel, by decide +kernel⟩, List.mem_of_getElem? (i := 773) (by decide +kernel), List.mem_of_getElem? (i := 968) (by decide +kernel), List.mem_of_getElem? (i := 969) (by decide +kernel)⟩
theorem lw_p41 : lw_okq (⟨"BorderGuardsModel", "bearsWith", "(III)I"⟩, 33) := ⟨⟨by decide +kernel, by decide +kernel⟩, List.mem_of_getElem? (i := 773) (by decide +kernel), List.mem_of_getElem? (i := 976) (by decide +kernel), List.mem_of_getElem? (i := 977) (by decide +kernel)⟩
theorem lw_p42 : lw_okq (⟨"BorderGuardsModel", "flow", "(II)I"⟩, 33) := ⟨⟨by decide +kernel, by decide +kernel⟩, List.mem_of_getElem? (i := 773) (by decide +kernel), List.mem_of_getElem? (i := 984) (by decide +kernel), List.mem_of_getElem? (i := 985) (by decide +kernel)⟩
theorem lw_p43 : lw_okq (⟨"BorderGuardsModel", "spread", "()Z"⟩, 33) := ⟨⟨by decide +kernel, by decide +kernel⟩, List.mem_of_getElem? (i := 773) (by decide +kernel), List.mem_of_getElem? (i := 988) (by decide +kernel), List.mem_of_getElem? (i := 989) (by decide +kernel)⟩
theorem lw_p44 : lw_okq (⟨"BorderGuardsModel", "push", "()I"⟩, 33) := ⟨⟨by decide +kernel, by decide +kernel⟩, List.mem_of_getElem? (i := 773) (by decide +kernel), List.mem_of_getElem? (i := 992) (by decide +kernel), List.mem_of_getElem? (i := 993) (by decide +kernel)⟩
theorem lw_p45 : lw_okq (⟨"BorderGuardsModel", "comeTo", "(I)I"⟩, 33) := ⟨⟨by decide +kernel, by decide +kernel⟩, List.mem_of_getElem? (i := 773) (by decide +kernel), List.mem_of_getElem? (i := 1007) (by decide +kernel), List.mem_of_getElem? (i := 1008) (by decide +kernel)⟩
theorem lw_p46 : lw_okq (⟨"BorderGuardsModel", "bestFor", "(I)I"⟩, 33) := ⟨⟨by decide +kernel, by decide +kernel⟩, List.mem_of_getElem? (i := 773) (by decide +kernel), List.mem_of_getElem? (i := 1016) (by decide +kernel), List.mem_of_getElem? (i := 1017) (by decide +kernel)⟩
theorem lw_p47 : lw_okq (⟨"BorderGuardsModel", "setMany", "()I"⟩, 33) := ⟨⟨by decide +kernel, by decide +kernel⟩, List.mem_of_getElem? (i := 773) (by decide +kernel), List.mem_of_getElem? (i := 1020) (by decide +kernel), List.mem_of_getElem? (i := 1021) (by decide +kernel)⟩
def lw_privs_3 : List (MethodName × Nat) := [(⟨"BorderGuardsModel", "pathItem", "()Z"⟩, 33), (⟨"BorderGuardsModel", "figures", "(I)Z"⟩, 33), (⟨"BorderGuardsModel", "towerItem", "()Z"⟩, 33), (⟨"BorderGuardsModel", "copyLand", "(II)V"⟩, 33), (⟨"BorderGuardsModel", "isPath", "(I)Z"⟩, 33), (⟨"BorderGuardsModel", "arePosts", "(I)Z"⟩, 33), (⟨"BorderGuardsModel", "costOf", "(I)I"⟩, 33), (⟨"BorderGuardsModel", "heldBy", "(I)I"⟩, 33), (⟨"BorderGuardsModel", "waitsBy", "(I)I"⟩, 33), (⟨"BorderGuardsModel", "bearsWith", "(III)I"⟩, 33), (⟨"BorderGuardsModel", "flow", "(II)I"⟩, 33), (⟨"BorderGuardsModel", "spread", "()Z"⟩, 33), (⟨"BorderGuardsModel", "push", "()I"⟩, 33), (⟨"BorderGuardsModel", "comeTo", "(I)I"⟩, 33), (⟨"BorderGuardsModel", "bestFor", "(I)I"⟩, 33), (⟨"BorderGuardsModel", "setMany", "()I"⟩, 33)]
theorem lw_r3 : ∀ q ∈ lw_privs_3, lw_okq q := List.forall_mem_cons.mpr ⟨lw_p32, List.forall_mem_cons.mpr ⟨lw_p33, List.forall_mem_cons.mpr ⟨lw_p34, List.forall_mem_cons.mpr ⟨lw_p35, List.forall_mem_cons.mpr ⟨lw_p36, List.forall_mem_cons.mpr ⟨lw_p37, List.forall_mem_cons.mpr ⟨lw_p38, List.forall_mem_cons.mpr ⟨lw_p39, List.forall_mem_cons.mpr ⟨lw_p40, List.forall_mem_cons.mpr ⟨lw_p41, List.forall_mem_cons.mpr ⟨lw_p42, List.forall_mem_cons.mpr ⟨lw_p43, List.forall_mem_cons.mpr ⟨lw_p44, List.forall_mem_cons.mpr ⟨lw_p45, List.forall_mem_cons.mpr ⟨lw_p46, List.forall_mem_cons.mpr ⟨lw_p47, fun _ h => absurd h List.not_mem_nil⟩⟩⟩⟩⟩⟩⟩⟩⟩⟩⟩⟩⟩⟩⟩⟩
theorem lw_p48 : lw_okq (⟨"BorderGuardsModel", "mostBy", "(I)I"⟩, 33) := ⟨⟨by decide +kernel, by decide +kernel⟩, List.mem_of_getElem? (i := 773) (by decide +kernel), List.mem_of_getElem? (i := 1024) (by decide +kernel), List.mem_of_getElem? (i := 1025) (by decide +kernel)⟩
theorem lw_p49 : lw_okq (⟨"BorderGuardsModel", "weigh", "(III)I"⟩, 33) := ⟨⟨by decide +kernel, by decide +kernel⟩, List.mem_of_getElem? (i := 773) (by decide +kernel), List.mem_of_getElem? (i := 1045) (by decide +kernel), List.mem_of_getElem? (i := 1046) (by decide +kernel)⟩
theorem lw_p50 : lw_okq (⟨"BorderGuardsModel", "layWays", "()V"⟩, 33) := ⟨⟨by decide +kernel, by decide +kernel⟩, List.mem_of_getElem? (i := 773) (by decide +kernel), List.mem_of_getElem? (i := 1053) (by decide +kernel), List.mem_of_getElem? (i := 1054) (by decide +kernel)⟩
theorem lw_p51 : lw_okq (⟨"BorderGuardsModel", "seenBy", "(I)I"⟩, 33) := ⟨⟨by decide +kernel, by decide +kernel⟩, List.mem_of_getElem? (i := 773) (by decide +kernel), List.mem_of_getElem? (i := 1057) (by decide +kernel), List.mem_of_getElem? (i := 1058) (by decide +kernel)⟩
theorem lw_p52 : lw_okq (⟨"BorderGuardsModel", "noteWay", "(I)V"⟩, 33) := ⟨⟨by decide +kernel, by decide +kernel⟩, List.mem_of_getElem? (i := 773) (by decide +kernel), List.mem_of_getElem? (i := 1061) (by decide +kernel), List.mem_of_getElem? (i := 1062) (by decide +kernel)⟩
theorem lw_p53 : lw_okq (⟨"BorderGuardsModel", "throughBy", "(II)I"⟩, 33) := ⟨⟨by decide +kernel, by decide +kernel⟩, List.mem_of_getElem? (i := 773) (by decide +kernel), List.mem_of_getElem? (i := 1069) (by decide +kernel), List.mem_of_getElem? (i := 1070) (by decide +kernel)⟩
theorem lw_p54 : lw_okq (⟨"BorderGuardsModel", "gainBy", "(II)J"⟩, 33) := ⟨⟨by decide +kernel, by decide +kernel⟩, List.mem_of_getElem? (i := 773) (by decide +kernel), List.mem_of_getElem? (i := 1078) (by decide +kernel), List.mem_of_getElem? (i := 1079) (by decide +kernel)⟩
theorem lw_p55 : lw_okq (⟨"BorderGuardsModel", "bestWayBy", "(I)I"⟩, 33) := ⟨⟨by decide +kernel, by decide +kernel⟩, List.mem_of_getElem? (i := 773) (by decide +kernel), List.mem_of_getElem? (i := 1089) (by decide +kernel), List.mem_of_getElem? (i := 1090) (by decide +kernel)⟩
theorem lw_p56 : lw_okq (⟨"BorderGuardsModel", "elseParts", "()J"⟩, 33) := ⟨⟨by decide +kernel, by decide +kernel⟩, List.mem_of_getElem? (i := 773) (by decide +kernel), List.mem_of_getElem? (i := 1093) (by decide +kernel), List.mem_of_getElem? (i := 1094) (by decide +kernel)⟩
theorem lw_p57 : lw_okq (⟨"BorderGuardsModel", "play", "()Z"⟩, 33) := ⟨⟨by decide +kernel, by decide +kernel⟩, List.mem_of_getElem? (i := 773) (by decide +kernel), List.mem_of_getElem? (i := 1114) (by decide +kernel), List.mem_of_getElem? (i := 1115) (by decide +kernel)⟩
theorem lw_p58 : lw_okq (⟨"BorderGuardsModel", "toldOnes", "(I)I"⟩, 33) := ⟨⟨by decide +kernel, by decide +kernel⟩, List.mem_of_getElem? (i := 773) (by decide +kernel), List.mem_of_getElem? (i := 1118) (by decide +kernel), List.mem_of_getElem? (i := 1119) (by decide +kernel)⟩
theorem lw_p59 : lw_okq (⟨"BorderGuardsModel", "isSupport", "(II)Z"⟩, 33) := ⟨⟨by decide +kernel, by decide +kernel⟩, List.mem_of_getElem? (i := 773) (by decide +kernel), List.mem_of_getElem? (i := 1125) (by decide +kernel), List.mem_of_getElem? (i := 1126) (by decide +kernel)⟩
theorem lw_p60 : lw_okq (⟨"BorderGuardsModel", "layMembers", "(II)V"⟩, 33) := ⟨⟨by decide +kernel, by decide +kernel⟩, List.mem_of_getElem? (i := 773) (by decide +kernel), List.mem_of_getElem? (i := 1129) (by decide +kernel), List.mem_of_getElem? (i := 1130) (by decide +kernel)⟩
theorem lw_p61 : lw_okq (⟨"BorderGuardsModel", "solve", "(I)Z"⟩, 33) := ⟨⟨by decide +kernel, by decide +kernel⟩, List.mem_of_getElem? (i := 773) (by decide +kernel), List.mem_of_getElem? (i := 1133) (by decide +kernel), List.mem_of_getElem? (i := 1134) (by decide +kernel)⟩
theorem lw_p62 : lw_okq (⟨"BorderGuardsModel", "layCells", "(III)V"⟩, 33) := ⟨⟨by decide +kernel, by decide +kernel⟩, List.mem_of_getElem? (i := 773) (by decide +kernel), List.mem_of_getElem? (i := 1137) (by decide +kernel), List.mem_of_getElem? (i := 1138) (by decide +kernel)⟩
theorem lw_p63 : lw_okq (⟨"BorderGuardsModel", "game", "(II)I"⟩, 33) := ⟨⟨by decide +kernel, by decide +kernel⟩, List.mem_of_getElem? (i := 773) (by decide +kernel), List.mem_of_getElem? (i := 1141) (by decide +kernel), List.mem_of_getElem? (i := 1142) (by decide +kernel)⟩
def lw_privs_4 : List (MethodName × Nat) := [(⟨"BorderGuardsModel", "mostBy", "(I)I"⟩, 33), (⟨"BorderGuardsModel", "weigh", "(III)I"⟩, 33), (⟨"BorderGuardsModel", "layWays", "()V"⟩, 33), (⟨"BorderGuardsModel", "seenBy", "(I)I"⟩, 33), (⟨"BorderGuardsModel", "noteWay", "(I)V"⟩, 33), (⟨"BorderGuardsModel", "throughBy", "(II)I"⟩, 33), (⟨"BorderGuardsModel", "gainBy", "(II)J"⟩, 33), (⟨"BorderGuardsModel", "bestWayBy", "(I)I"⟩, 33), (⟨"BorderGuardsModel", "elseParts", "()J"⟩, 33), (⟨"BorderGuardsModel", "play", "()Z"⟩, 33), (⟨"BorderGuardsModel", "toldOnes", "(I)I"⟩, 33), (⟨"BorderGuardsModel", "isSupport", "(II)Z"⟩, 33), (⟨"BorderGuardsModel", "layMembers", "(II)V"⟩, 33), (⟨"BorderGuardsModel", "solve", "(I)Z"⟩, 33), (⟨"BorderGuardsModel", "layCells", "(III)V"⟩, 33), (⟨"BorderGuardsModel", "game", "(II)I"⟩, 33)]
theorem lw_r4 : ∀ q ∈ lw_privs_4, lw_okq q := List.forall_mem_cons.mpr ⟨lw_p48, List.forall_mem_cons.mpr ⟨lw_p49, List.forall_mem_cons.mpr ⟨lw_p50, List.forall_mem_cons.mpr ⟨lw_p51, List.forall_mem_cons.mpr ⟨lw_p52, List.forall_mem_cons.mpr ⟨lw_p53, List.forall_mem_cons.mpr ⟨lw_p54, List.forall_mem_cons.mpr ⟨lw_p55, List.forall_mem_cons.mpr ⟨lw_p56, List.forall_mem_cons.mpr ⟨lw_p57, List.forall_mem_cons.mpr ⟨lw_p58, List.forall_mem_cons.mpr ⟨lw_p59, List.forall_mem_cons.mpr ⟨lw_p60, List.forall_mem_cons.mpr ⟨lw_p61, List.forall_mem_cons.mpr ⟨lw_p62, List.forall_mem_cons.mpr ⟨lw_p63, fun _ h => absurd h List.not_mem_nil⟩⟩⟩⟩⟩⟩⟩⟩⟩⟩⟩⟩⟩⟩⟩⟩
theorem lw_p64 : lw_okq (⟨"BorderGuardsModel", "determinant", "(I)J"⟩, 33) := ⟨⟨by decide +kernel, by decide +kernel⟩, List.mem_of_getElem? (i := 773) (by decide +kernel), List.mem_of_getElem? (i := 1145) (by decide +kernel), List.mem_of_getElem? (i := 1146) (by decide +kernel)⟩
theorem lw_p65 : lw_okq (⟨"BorderGuardsModel", "holds", "()Z"⟩, 33) := ⟨⟨by decide +kernel, by decide +kernel⟩, List.mem_of_getElem? (i := 773) (by decide +kernel), List.mem_of_getElem? (i := 1149) (by decide +kernel), List.mem_of_getElem? (i := 1150) (by decide +kernel)⟩
theorem lw_p66 : lw_okq (⟨"BorderGuardsModel", "copy", "(II)V"⟩, 33) := ⟨⟨by decide +kernel, by decide +kernel⟩, List.mem_of_getElem? (i := 773) (by decide +kernel), List.mem_of_getElem? (i := 1183) (by decide +kernel), List.mem_of_getElem? (i := 1184) (by decide +kernel)⟩
def lw_privs_5 : List (MethodName × Nat) := [(⟨"BorderGuardsModel", "determinant", "(I)J"⟩, 33), (⟨"BorderGuardsModel", "holds", "()Z"⟩, 33), (⟨"BorderGuardsModel", "copy", "(II)V"⟩, 33)]
theorem lw_r5 : ∀ q ∈ lw_privs_5, lw_okq q := List.forall_mem_cons.mpr ⟨lw_p64, List.forall_mem_cons.mpr ⟨lw_p65, List.forall_mem_cons.mpr ⟨lw_p66, fun _ h => absurd h List.not_mem_nil⟩⟩⟩
def lw_privs : List (MethodName × Nat) := lw_privs_1 ++ (lw_privs_2 ++ (lw_privs_3 ++ (lw_privs_4 ++ (lw_privs_5))))
def lw_tbl : List Cond := k2_sels lw_privs ++ tables_1
theorem lw_privs_ok : ∀ q ∈ lw_privs, lw_okq q := by
  show ∀ q ∈ lw_privs_1 ++ (lw_privs_2 ++ (lw_privs_3 ++ (lw_privs_4 ++ (lw_privs_5)))), lw_okq q
  exact List.forall_mem_append.mpr ⟨lw_r1, List.forall_mem_append.mpr ⟨lw_r2, List.forall_mem_append.mpr ⟨lw_r3, List.forall_mem_append.mpr ⟨lw_r4, lw_r5⟩⟩⟩⟩
end
section
def bg_R0 : String := "BorderGuards$Cuts"
def bg_T0 : u_T := fun k => match k with
  | 0 => ("BorderGuards$Cuts", "pathsOut", "[I", true)
  | 1 => ("BorderGuards$Cuts", "bearings", "[I", true)
  | 2 => ("BorderGuards$Cuts", "least", "I", false)
  | _ => ("BorderGuards$Cuts", "shore", "I", false)
def bg_ty0 : Nat → FieldType := fun k => match k with
  | 0 => .array .int
  | 1 => .array .int
  | 2 => .int
  | _ => .int
theorem bg_nm0 : ∀ a, a < 4 → ∀ b, b < 4 → a ≠ b → (bg_T0 a).2.1 ≠ (bg_T0 b).2.1 := by decide +kernel
theorem bg_tk0 : ∀ k, k < 4 → parseFieldDescriptor (bg_T0 k).2.2.1 = some (bg_ty0 k) := by decide +kernel
theorem bg_in0 : ∀ w ∈ u_ws bg_R0 bg_T0 4, w ∈ lw_tbl := by decide +kernel
def bg_R1 : String := "BorderGuards$Game"
def bg_T1 : u_T := fun k => match k with
  | 0 => ("BorderGuards$Game", "brings", "[[I", true)
  | 1 => ("BorderGuards$Game", "guardParts", "[J", true)
  | 2 => ("BorderGuards$Game", "carrierParts", "[J", true)
  | 3 => ("BorderGuards$Game", "rest", "[[J", true)
  | 4 => ("BorderGuards$Game", "whole", "J", false)
  | _ => ("BorderGuards$Game", "valueParts", "J", false)
def bg_ty1 : Nat → FieldType := fun k => match k with
  | 0 => .array (.array .int)
  | 1 => .array .long
  | 2 => .array .long
  | 3 => .array (.array .long)
  | 4 => .long
  | _ => .long
theorem bg_nm1 : ∀ a, a < 6 → ∀ b, b < 6 → a ≠ b → (bg_T1 a).2.1 ≠ (bg_T1 b).2.1 := by decide +kernel
theorem bg_tk1 : ∀ k, k < 6 → parseFieldDescriptor (bg_T1 k).2.2.1 = some (bg_ty1 k) := by decide +kernel
theorem bg_in1 : ∀ w ∈ u_ws bg_R1 bg_T1 6, w ∈ lw_tbl := by decide +kernel
def bg_R2 : String := "BorderGuards$Land"
def bg_T2 : u_T := fun k => match k with
  | 0 => ("BorderGuards$Land", "paths", "[[I", true)
  | 1 => ("BorderGuards$Land", "towerSees", "[I", true)
  | 2 => ("BorderGuards$Land", "towerCost", "[I", true)
  | 3 => ("BorderGuards$Land", "pathCount", "I", false)
  | 4 => ("BorderGuards$Land", "towerCount", "I", false)
  | 5 => ("BorderGuards$Land", "coin", "I", false)
  | 6 => ("BorderGuards$Land", "worth", "I", false)
  | _ => ("BorderGuards$Land", "other", "I", false)
def bg_ty2 : Nat → FieldType := fun k => match k with
  | 0 => .array (.array .int)
  | 1 => .array .int
  | 2 => .array .int
  | 3 => .int
  | 4 => .int
  | 5 => .int
  | 6 => .int
  | _ => .int
theorem bg_nm2 : ∀ a, a < 8 → ∀ b, b < 8 → a ≠ b → (bg_T2 a).2.1 ≠ (bg_T2 b).2.1 := by decide +kernel
theorem bg_tk2 : ∀ k, k < 8 → parseFieldDescriptor (bg_T2 k).2.2.1 = some (bg_ty2 k) := by decide +kernel
theorem bg_in2 : ∀ w ∈ u_ws bg_R2 bg_T2 8, w ∈ lw_tbl := by decide +kernel
def bg_R3 : String := "BorderGuards$Lots"
def bg_T3 : u_T := fun k => match k with
  | 0 => ("BorderGuards$Lots", "guards", "[I", true)
  | _ => ("BorderGuards$Lots", "carriers", "[I", true)
def bg_ty3 : Nat → FieldType := fun k => match k with
  | 0 => .array .int
  | _ => .array .int
theorem bg_nm3 : ∀ a, a < 2 → ∀ b, b < 2 → a ≠ b → (bg_T3 a).2.1 ≠ (bg_T3 b).2.1 := by decide +kernel
theorem bg_tk3 : ∀ k, k < 2 → parseFieldDescriptor (bg_T3 k).2.2.1 = some (bg_ty3 k) := by decide +kernel
theorem bg_in3 : ∀ w ∈ u_ws bg_R3 bg_T3 2, w ∈ lw_tbl := by decide +kernel
def bg_R4 : String := "BorderGuards$Plans"
def bg_T4 : u_T := fun k => match k with
  | 0 => ("BorderGuards$Plans", "mostByHeld", "[I", true)
  | 1 => ("BorderGuards$Plans", "affordable", "[I", true)
  | 2 => ("BorderGuards$Plans", "sums", "[I", true)
  | 3 => ("BorderGuards$Plans", "addends", "[I", true)
  | 4 => ("BorderGuards$Plans", "bestPosts", "[I", true)
  | 5 => ("BorderGuards$Plans", "bestMost", "[I", true)
  | 6 => ("BorderGuards$Plans", "sets", "I", false)
  | 7 => ("BorderGuards$Plans", "ready", "Z", false)
  | 8 => ("BorderGuards$Plans", "paying", "I", false)
  | 9 => ("BorderGuards$Plans", "payingReady", "Z", false)
  | 10 => ("BorderGuards$Plans", "foundPosts", "I", false)
  | _ => ("BorderGuards$Plans", "foundSum", "I", false)
def bg_ty4 : Nat → FieldType := fun k => match k with
  | 0 => .array .int
  | 1 => .array .int
  | 2 => .array .int
  | 3 => .array .int
  | 4 => .array .int
  | 5 => .array .int
  | 6 => .int
  | 7 => .boolean
  | 8 => .int
  | 9 => .boolean
  | 10 => .int
  | _ => .int
theorem bg_nm4 : ∀ a, a < 12 → ∀ b, b < 12 → a ≠ b → (bg_T4 a).2.1 ≠ (bg_T4 b).2.1 := by decide +kernel
theorem bg_tk4 : ∀ k, k < 12 → parseFieldDescriptor (bg_T4 k).2.2.1 = some (bg_ty4 k) := by decide +kernel
theorem bg_in4 : ∀ w ∈ u_ws bg_R4 bg_T4 12, w ∈ lw_tbl := by decide +kernel
def bg_R5 : String := "BorderGuards$Rounds"
def bg_T5 : u_T := fun k => match k with
  | 0 => ("BorderGuards$Rounds", "postsOf", "[I", true)
  | 1 => ("BorderGuards$Rounds", "costOf", "[I", true)
  | 2 => ("BorderGuards$Rounds", "sums", "[I", true)
  | _ => ("BorderGuards$Rounds", "nextSums", "[I", true)
def bg_ty5 : Nat → FieldType := fun k => match k with
  | 0 => .array .int
  | 1 => .array .int
  | 2 => .array .int
  | _ => .array .int
theorem bg_nm5 : ∀ a, a < 4 → ∀ b, b < 4 → a ≠ b → (bg_T5 a).2.1 ≠ (bg_T5 b).2.1 := by decide +kernel
theorem bg_tk5 : ∀ k, k < 4 → parseFieldDescriptor (bg_T5 k).2.2.1 = some (bg_ty5 k) := by decide +kernel
theorem bg_in5 : ∀ w ∈ u_ws bg_R5 bg_T5 4, w ∈ lw_tbl := by decide +kernel
def bg_R6 : String := "BorderGuards$Script"
def bg_T6 : u_T := fun k => match k with
  | 0 => ("BorderGuards$Script", "bytes", "[I", true)
  | 1 => ("BorderGuards$Script", "numbers", "[I", true)
  | 2 => ("BorderGuards$Script", "at", "I", false)
  | _ => ("BorderGuards$Script", "length", "I", false)
def bg_ty6 : Nat → FieldType := fun k => match k with
  | 0 => .array .int
  | 1 => .array .int
  | 2 => .int
  | _ => .int
theorem bg_nm6 : ∀ a, a < 4 → ∀ b, b < 4 → a ≠ b → (bg_T6 a).2.1 ≠ (bg_T6 b).2.1 := by decide +kernel
theorem bg_tk6 : ∀ k, k < 4 → parseFieldDescriptor (bg_T6 k).2.2.1 = some (bg_ty6 k) := by decide +kernel
theorem bg_in6 : ∀ w ∈ u_ws bg_R6 bg_T6 4, w ∈ lw_tbl := by decide +kernel
def bg_R7 : String := "BorderGuards$Ways"
def bg_T7 : u_T := fun k => match k with
  | 0 => ("BorderGuards$Ways", "steps", "[I", true)
  | 1 => ("BorderGuards$Ways", "lengths", "[I", true)
  | 2 => ("BorderGuards$Ways", "carrying", "[I", true)
  | 3 => ("BorderGuards$Ways", "trail", "[I", true)
  | 4 => ("BorderGuards$Ways", "hardest", "I", false)
  | _ => ("BorderGuards$Ways", "size", "I", false)
def bg_ty7 : Nat → FieldType := fun k => match k with
  | 0 => .array .int
  | 1 => .array .int
  | 2 => .array .int
  | 3 => .array .int
  | 4 => .int
  | _ => .int
theorem bg_nm7 : ∀ a, a < 6 → ∀ b, b < 6 → a ≠ b → (bg_T7 a).2.1 ≠ (bg_T7 b).2.1 := by decide +kernel
theorem bg_tk7 : ∀ k, k < 6 → parseFieldDescriptor (bg_T7 k).2.2.1 = some (bg_ty7 k) := by decide +kernel
theorem bg_in7 : ∀ w ∈ u_ws bg_R7 bg_T7 6, w ∈ lw_tbl := by decide +kernel
def bg_R8 : String := "BorderGuards"
def bg_T8 : u_T := fun k => match k with
  | 0 => ("BorderGuards", "script", "LBorderGuards$Script;", true)
  | 1 => ("BorderGuards", "draft", "LBorderGuards$Land;", true)
  | 2 => ("BorderGuards", "land", "LBorderGuards$Land;", true)
  | 3 => ("BorderGuards", "cuts", "LBorderGuards$Cuts;", true)
  | 4 => ("BorderGuards", "ways", "LBorderGuards$Ways;", true)
  | 5 => ("BorderGuards", "plans", "LBorderGuards$Plans;", true)
  | 6 => ("BorderGuards", "lots", "LBorderGuards$Lots;", true)
  | 7 => ("BorderGuards", "game", "LBorderGuards$Game;", true)
  | 8 => ("BorderGuards", "rounds", "LBorderGuards$Rounds;", true)
  | 9 => ("BorderGuards", "loadRow", "[I", true)
  | 10 => ("BorderGuards", "tenthRow", "[I", true)
  | 11 => ("BorderGuards", "keptLands", "[LBorderGuards$Land;", true)
  | 12 => ("BorderGuards", "keptLots", "[LBorderGuards$Lots;", true)
  | _ => ("BorderGuards", "keptCount", "I", false)
def bg_ty8 : Nat → FieldType := fun k => match k with
  | 0 => .object "BorderGuards$Script"
  | 1 => .object "BorderGuards$Land"
  | 2 => .object "BorderGuards$Land"
  | 3 => .object "BorderGuards$Cuts"
  | 4 => .object "BorderGuards$Ways"
  | 5 => .object "BorderGuards$Plans"
  | 6 => .object "BorderGuards$Lots"
  | 7 => .object "BorderGuards$Game"
  | 8 => .object "BorderGuards$Rounds"
  | 9 => .array .int
  | 10 => .array .int
  | 11 => .array (.object "BorderGuards$Land")
  | 12 => .array (.object "BorderGuards$Lots")
  | _ => .int
theorem bg_nm8 : ∀ a, a < 14 → ∀ b, b < 14 → a ≠ b → (bg_T8 a).2.1 ≠ (bg_T8 b).2.1 := by decide +kernel
theorem bg_tk8 : ∀ k, k < 14 → parseFieldDescriptor (bg_T8 k).2.2.1 = some (bg_ty8 k) := by decide +kernel
theorem bg_in8 : ∀ w ∈ u_ws bg_R8 bg_T8 14, w ∈ lw_tbl := by decide +kernel
def bg_R9 : String := "BorderGuardsModel"
def bg_T9 : u_T := fun k => match k with
  | 0 => ("BorderGuardsModel", "length", "I", false)
  | 1 => ("BorderGuardsModel", "text", "[I", true)
  | 2 => ("BorderGuardsModel", "pathMany", "[I", true)
  | 3 => ("BorderGuardsModel", "paths", "[I", true)
  | 4 => ("BorderGuardsModel", "towerMany", "[I", true)
  | 5 => ("BorderGuardsModel", "towers", "[I", true)
  | 6 => ("BorderGuardsModel", "money", "[I", true)
  | 7 => ("BorderGuardsModel", "guards", "[I", true)
  | 8 => ("BorderGuardsModel", "carriers", "[I", true)
  | 9 => ("BorderGuardsModel", "keptMany", "I", false)
  | 10 => ("BorderGuardsModel", "loads", "[I", true)
  | 11 => ("BorderGuardsModel", "tenths", "[I", true)
  | 12 => ("BorderGuardsModel", "mostsLie", "Z", false)
  | 13 => ("BorderGuardsModel", "mosts", "[I", true)
  | 14 => ("BorderGuardsModel", "waysLie", "Z", false)
  | 15 => ("BorderGuardsModel", "wayMany", "I", false)
  | 16 => ("BorderGuardsModel", "wayLong", "[I", true)
  | 17 => ("BorderGuardsModel", "ways", "[I", true)
  | 18 => ("BorderGuardsModel", "place", "I", false)
  | 19 => ("BorderGuardsModel", "numbers", "[I", true)
  | 20 => ("BorderGuardsModel", "room", "[I", true)
  | 21 => ("BorderGuardsModel", "gone", "[I", true)
  | 22 => ("BorderGuardsModel", "cameBy", "[I", true)
  | 23 => ("BorderGuardsModel", "shore", "I", false)
  | 24 => ("BorderGuardsModel", "trail", "[I", true)
  | 25 => ("BorderGuardsModel", "pays", "[J", true)
  | 26 => ("BorderGuardsModel", "cells", "[J", true)
  | 27 => ("BorderGuardsModel", "above", "[J", true)
  | 28 => ("BorderGuardsModel", "worthAbove", "J", false)
  | 29 => ("BorderGuardsModel", "below", "J", false)
  | 30 => ("BorderGuardsModel", "members", "[I", true)
  | 31 => ("BorderGuardsModel", "sums", "[I", true)
  | _ => ("BorderGuardsModel", "nextSums", "[I", true)
def bg_ty9 : Nat → FieldType := fun k => match k with
  | 0 => .int
  | 1 => .array .int
  | 2 => .array .int
  | 3 => .array .int
  | 4 => .array .int
  | 5 => .array .int
  | 6 => .array .int
  | 7 => .array .int
  | 8 => .array .int
  | 9 => .int
  | 10 => .array .int
  | 11 => .array .int
  | 12 => .boolean
  | 13 => .array .int
  | 14 => .boolean
  | 15 => .int
  | 16 => .array .int
  | 17 => .array .int
  | 18 => .int
  | 19 => .array .int
  | 20 => .array .int
  | 21 => .array .int
  | 22 => .array .int
  | 23 => .int
  | 24 => .array .int
  | 25 => .array .long
  | 26 => .array .long
  | 27 => .array .long
  | 28 => .long
  | 29 => .long
  | 30 => .array .int
  | 31 => .array .int
  | _ => .array .int
theorem bg_nm9 : ∀ a, a < 33 → ∀ b, b < 33 → a ≠ b → (bg_T9 a).2.1 ≠ (bg_T9 b).2.1 := by decide +kernel
theorem bg_tk9 : ∀ k, k < 33 → parseFieldDescriptor (bg_T9 k).2.2.1 = some (bg_ty9 k) := by decide +kernel
theorem bg_in9 : ∀ w ∈ u_ws bg_R9 bg_T9 33, w ∈ lw_tbl := by decide +kernel
abbrev bg_cls : List vw_C := [(bg_R0, bg_T0, 4), (bg_R1, bg_T1, 6), (bg_R2, bg_T2, 8), (bg_R3, bg_T3, 2), (bg_R4, bg_T4, 12), (bg_R5, bg_T5, 4), (bg_R6, bg_T6, 4), (bg_R7, bg_T7, 6), (bg_R8, bg_T8, 14), (bg_R9, bg_T9, 33)]
/-- the kinds of the fields: 0 int, 1 long, 2 reference, 3 boolean -/
def bg_tags : List (List Nat) := [[2, 2, 0, 0], [2, 2, 2, 2, 1, 1], [2, 2, 2, 0, 0, 0, 0, 0], [2, 2], [2, 2, 2, 2, 2, 2, 0, 3, 0, 3, 0, 0], [2, 2, 2, 2], [2, 2, 0, 0], [2, 2, 2, 2, 0, 0], [2, 2, 2, 2, 2, 2, 2, 2, 2, 2, 2, 2, 2, 0], [0, 2, 2, 2, 2, 2, 2, 2, 2, 0, 2, 2, 3, 2, 3, 0, 2, 2, 0, 2, 2, 2, 2, 0, 2, 2, 2, 2, 1, 1, 2, 2, 2]]
end
section
/-! AN ABSTRACT MACHINE for the instructions that the claim's methods have: values are whole numbers (an int or a long stands for its class modulo 2^32, 2^64) or the number of a cell; a heap is a list of shapes and a function of whole numbers. -/
abbrev bg_V : Type := Int ⊕ (Int ⊕ Option Nat)
abbrev bg_C : Type := Nat × (Nat × List (Option Nat))
abbrev bg_G : Type := Nat → Int → Int
abbrev bg_H : Type := List bg_C × bg_G
abbrev bg_L : Type := List (Option bg_V)
abbrev bg_F : Type := Nat × bg_L × List bg_V × bg_H × (Nat × Nat)
abbrev bg_I : Type := Instr × Nat × (Nat × Nat × Nat × Int × List (Int × Nat))
abbrev bg_K : Type := List (Nat × List (Nat × bg_I))
abbrev bg_R : Type := Option bg_V → bg_H → Prop
abbrev bg_M : Type := MethodName × ByteArray × Nat × Option FieldType × bg_K × (Nat × Nat) × Nat
def bg_nth {α : Type} : List α → Nat → Option α
  | [], _ => none
  | a :: _, 0 => some a
  | _ :: l, n + 1 => bg_nth l n
theorem bg_nth_eq {α : Type} : ∀ (l : List α) (n : Nat), bg_nth l n = l[n]?
  | [], _ => by simp [bg_nth]
  | a :: l, 0 => by simp [bg_nth]
  | a :: l, n + 1 => by simp [bg_nth, bg_nth_eq l n]
def bg_w (x : Int) : Int := (Int32.ofInt x).toInt
def bg_W (x : Int) : Int := (Int64.ofInt x).toInt
def bg_and (x y : Int) : Int := (Int32.ofInt x &&& Int32.ofInt y).toInt
def bg_or (x y : Int) : Int := (Int32.ofInt x ||| Int32.ofInt y).toInt
def bg_xor (x y : Int) : Int := (Int32.ofInt x ^^^ Int32.ofInt y).toInt
def bg_shl (x y : Int) : Int := (Int32.ofInt x <<< (Int32.ofInt y &&& 31)).toInt
def bg_shr (x y : Int) : Int := (Int32.ofInt x >>> (Int32.ofInt y &&& 31)).toInt
def bg_ushr (x y : Int) : Int := ((Int32.ofInt x).toUInt32 >>> ((Int32.ofInt y).toUInt32 &&& Int32.toUInt32 31)).toInt32.toInt
def bg_div (x y : Int) : Int := (Int32.ofInt x / Int32.ofInt y).toInt
def bg_rem (x y : Int) : Int := (Int32.ofInt x - Int32.ofInt x / Int32.ofInt y * Int32.ofInt y).toInt
def bg_And (x y : Int) : Int := (Int64.ofInt x &&& Int64.ofInt y).toInt
def bg_Or (x y : Int) : Int := (Int64.ofInt x ||| Int64.ofInt y).toInt
def bg_Shl (x y : Int) : Int := (Int64.ofInt x <<< ((Int32.ofInt y).toInt64 &&& 63)).toInt
def bg_Shr (x y : Int) : Int := (Int64.ofInt x >>> ((Int32.ofInt y).toInt64 &&& 63)).toInt
def bg_Ushr (x y : Int) : Int := ((Int64.ofInt x).toUInt64 >>> ((Int32.ofInt y).toInt64.toUInt64 &&& Int64.toUInt64 63)).toInt64.toInt
def bg_Div (x y : Int) : Int := (Int64.ofInt x / Int64.ofInt y).toInt
def bg_Rem (x y : Int) : Int := (Int64.ofInt x - Int64.ofInt x / Int64.ofInt y * Int64.ofInt y).toInt
def bg_Cmp (x y : Int) : Int := if bg_W y < bg_W x then 1 else if bg_W x = bg_W y then 0 else -1
def bg_clr : Option bg_V → Option bg_V
  | some (.inr (.inl _)) => none
  | x => x
def bg_sto : bg_L → Nat → bg_V → bg_L
  | [], _, _ => []
  | _ :: l, 0, v => some v :: l
  | a :: l, 1, v => bg_clr a :: bg_sto l 0 v
  | a :: l, n + 2, v => a :: bg_sto l (n + 1) v
def bg_sto2 : bg_L → Nat → bg_V → bg_L
  | _ :: _ :: l, 0, v => some v :: none :: l
  | a :: l, 1, v => bg_clr a :: bg_sto2 l 0 v
  | a :: l, n + 2, v => a :: bg_sto2 l (n + 1) v
  | _, _, _ => []
def bg_up (h : bg_G) (k : Nat) (i v : Int) : bg_G := fun k' j => if k' = k then (if j = i then v else h k' j) else h k' j
def bg_zero (h : bg_G) (n m : Nat) : bg_G := fun k j => if n ≤ k ∧ k < n + m then 0 else h k j
def bg_cpy (h : bg_G) (ks kd : Nat) (sp dp n : Int) : bg_G := fun k j => if k = kd then (if dp ≤ j ∧ j < dp + n then h ks (sp + (j - dp)) else h k j) else h k j
def bg_cats : List bg_V → Nat
  | [] => 0
  | .inr (.inl _) :: l => 2 + bg_cats l
  | _ :: l => 1 + bg_cats l
def bg_pop : Nat → List bg_V → List bg_V → Option (List bg_V × List bg_V)
  | 0, st, acc => some (acc, st)
  | n + 1, v :: st, acc => bg_pop n st (v :: acc)
  | _ + 1, [], _ => none
def bg_push : Option bg_V → List bg_V → List bg_V
  | some v, st => v :: st
  | none, st => st
def bg_ldi (ls : bg_L) (i : Nat) (f : Int → Prop) : Prop := match bg_nth ls i with
  | some (some (.inl x)) => f x
  | _ => False
def bg_ldl (ls : bg_L) (i : Nat) (f : Int → Prop) : Prop := match bg_nth ls i with
  | some (some (.inr (.inl x))) => f x
  | _ => False
def bg_lda (ls : bg_L) (i : Nat) (f : Option Nat → Prop) : Prop := match bg_nth ls i with
  | some (some (.inr (.inr r))) => f r
  | _ => False
def bg_p1 (st : List bg_V) (f : Int → List bg_V → Prop) : Prop := match st with
  | .inl x :: r => f x r
  | _ => False
def bg_p2 (st : List bg_V) (f : Int → Int → List bg_V → Prop) : Prop := match st with
  | .inl y :: .inl x :: r => f x y r
  | _ => False
def bg_q1 (st : List bg_V) (f : Int → List bg_V → Prop) : Prop := match st with
  | .inr (.inl x) :: r => f x r
  | _ => False
def bg_q2 (st : List bg_V) (f : Int → Int → List bg_V → Prop) : Prop := match st with
  | .inr (.inl y) :: .inr (.inl x) :: r => f x y r
  | _ => False
def bg_pq (st : List bg_V) (f : Int → Int → List bg_V → Prop) : Prop := match st with
  | .inl y :: .inr (.inl x) :: r => f x y r
  | _ => False
def bg_r1 (st : List bg_V) (f : Nat → List bg_V → Prop) : Prop := match st with
  | .inr (.inr (some k)) :: r => f k r
  | _ => False
def bg_pr (st : List bg_V) (f : Int → Nat → List bg_V → Prop) : Prop := match st with
  | .inl i :: .inr (.inr (some k)) :: r => f i k r
  | _ => False
def bg_at (H : bg_H) (k : Nat) (f : Nat → Nat → List (Option Nat) → Prop) : Prop := match bg_nth H.1 k with
  | some (c, n, rs) => f c n rs
  | none => False
def bg_if (b : Bool) (f : Prop) : Prop := match b with
  | true => f
  | false => False
def bg_sw (v : Int) (d : Nat) (K : Nat → Prop) : List (Int × Nat) → Prop
  | [] => K d
  | (c, t) :: r => (v = c → K t) ∧ (v ≠ c → bg_sw v d K r)
/-- what the constructors of the kinds 0 to 9 make: cells, slots -/
def bg_mc (k : Nat) : Nat × Nat := match bg_nth [(2, 76), (11, 40), (15, 102), (2, 8), (6, 12902), (4, 16), (2, 407), (4, 3607), (112, 17574), (24, 12320)] k with
  | some p => p
  | none => (0, 0)
def bg_call (C : Nat → List bg_V → bg_H → bg_R → Prop) (mx : Nat × Nat) (k : Nat) (as : List bg_V) (nx : Nat) (ls : bg_L) (rest : List bg_V) (H : bg_H) (cn : Nat × Nat) (K : bg_F → Prop) : Prop :=
  bg_if (Nat.ble (bg_cats rest) 8 && Nat.ble (cn.1 + (bg_mc k).1) mx.1 && Nat.ble (cn.2 + (bg_mc k).2) mx.2) (C k as H (fun r H' => K (nx, ls, bg_push r rest, H', (cn.1 + (bg_mc k).1, cn.2 + (bg_mc k).2))))
set_option maxHeartbeats 1000000 in
/-- what one instruction needs, so that K holds behind it (Rt at a return) -/
def bg_wp (C : Nat → List bg_V → bg_H → bg_R → Prop) (mx : Nat × Nat) (q : bg_I) (ls : bg_L) (st : List bg_V) (H : bg_H) (cn : Nat × Nat) (K : bg_F → Prop) (Rt : bg_R) : Prop :=
  match q with
  | (.iconst _, nx, (_, _, _, d, _)) => K (nx, ls, .inl d :: st, H, cn)
  | (.bipush _, nx, (_, _, _, d, _)) => K (nx, ls, .inl d :: st, H, cn)
  | (.sipush _, nx, (_, _, _, d, _)) => K (nx, ls, .inl d :: st, H, cn)
  | (.ldc _, nx, (_, _, _, d, _)) => K (nx, ls, .inl d :: st, H, cn)
  | (.ldc_w _, nx, (_, _, _, d, _)) => K (nx, ls, .inl d :: st, H, cn)
  | (.lconst _, nx, (_, _, _, d, _)) => K (nx, ls, .inr (.inl d) :: st, H, cn)
  | (.ldc2_w _, nx, (_, _, _, d, _)) => K (nx, ls, .inr (.inl d) :: st, H, cn)
  | (.iload _, nx, (a, _)) => bg_ldi ls a fun x => K (nx, ls, .inl x :: st, H, cn)
  | (.iload_n _, nx, (a, _)) => bg_ldi ls a fun x => K (nx, ls, .inl x :: st, H, cn)
  | (.lload _, nx, (a, _)) => bg_ldl ls a fun x => K (nx, ls, .inr (.inl x) :: st, H, cn)
  | (.lload_n _, nx, (a, _)) => bg_ldl ls a fun x => K (nx, ls, .inr (.inl x) :: st, H, cn)
  | (.aload _, nx, (a, _)) => bg_lda ls a fun r => K (nx, ls, .inr (.inr r) :: st, H, cn)
  | (.aload_n _, nx, (a, _)) => bg_lda ls a fun r => K (nx, ls, .inr (.inr r) :: st, H, cn)
  | (.istore _, nx, (a, _)) => bg_p1 st fun x r => K (nx, bg_sto ls a (.inl x), r, H, cn)
  | (.istore_n _, nx, (a, _)) => bg_p1 st fun x r => K (nx, bg_sto ls a (.inl x), r, H, cn)
  | (.lstore _, nx, (a, _)) => bg_q1 st fun x r => K (nx, bg_sto2 ls a (.inr (.inl x)), r, H, cn)
  | (.lstore_n _, nx, (a, _)) => bg_q1 st fun x r => K (nx, bg_sto2 ls a (.inr (.inl x)), r, H, cn)
  | (.astore_n _, nx, (a, _)) => bg_r1 st fun k r => K (nx, bg_sto ls a (.inr (.inr (some k))), r, H, cn)
  | (.iinc _ _, nx, (a, _, _, d, _)) => bg_ldi ls a fun x => K (nx, bg_sto ls a (.inl (x + d)), st, H, cn)
  | (.iadd, nx, _) => bg_p2 st fun x y r => K (nx, ls, .inl (x + y) :: r, H, cn)
  | (.isub, nx, _) => bg_p2 st fun x y r => K (nx, ls, .inl (x - y) :: r, H, cn)
  | (.imul, nx, _) => bg_p2 st fun x y r => K (nx, ls, .inl (x * y) :: r, H, cn)
  | (.ineg, nx, _) => bg_p1 st fun x r => K (nx, ls, .inl (-x) :: r, H, cn)
  | (.iand, nx, _) => bg_p2 st fun x y r => K (nx, ls, .inl (bg_and x y) :: r, H, cn)
  | (.ior, nx, _) => bg_p2 st fun x y r => K (nx, ls, .inl (bg_or x y) :: r, H, cn)
  | (.ixor, nx, _) => bg_p2 st fun x y r => K (nx, ls, .inl (bg_xor x y) :: r, H, cn)
  | (.ishl, nx, _) => bg_p2 st fun x y r => K (nx, ls, .inl (bg_shl x y) :: r, H, cn)
  | (.ishr, nx, _) => bg_p2 st fun x y r => K (nx, ls, .inl (bg_shr x y) :: r, H, cn)
  | (.iushr, nx, _) => bg_p2 st fun x y r => K (nx, ls, .inl (bg_ushr x y) :: r, H, cn)
  | (.idiv, nx, _) => bg_p2 st fun x y r => bg_w y ≠ 0 ∧ K (nx, ls, .inl (bg_div x y) :: r, H, cn)
  | (.irem, nx, _) => bg_p2 st fun x y r => bg_w y ≠ 0 ∧ K (nx, ls, .inl (bg_rem x y) :: r, H, cn)
  | (.ladd, nx, _) => bg_q2 st fun x y r => K (nx, ls, .inr (.inl (x + y)) :: r, H, cn)
  | (.lsub, nx, _) => bg_q2 st fun x y r => K (nx, ls, .inr (.inl (x - y)) :: r, H, cn)
  | (.lmul, nx, _) => bg_q2 st fun x y r => K (nx, ls, .inr (.inl (x * y)) :: r, H, cn)
  | (.lneg, nx, _) => bg_q1 st fun x r => K (nx, ls, .inr (.inl (-x)) :: r, H, cn)
  | (.land, nx, _) => bg_q2 st fun x y r => K (nx, ls, .inr (.inl (bg_And x y)) :: r, H, cn)
  | (.lor, nx, _) => bg_q2 st fun x y r => K (nx, ls, .inr (.inl (bg_Or x y)) :: r, H, cn)
  | (.lshl, nx, _) => bg_pq st fun x y r => K (nx, ls, .inr (.inl (bg_Shl x y)) :: r, H, cn)
  | (.lshr, nx, _) => bg_pq st fun x y r => K (nx, ls, .inr (.inl (bg_Shr x y)) :: r, H, cn)
  | (.lushr, nx, _) => bg_pq st fun x y r => K (nx, ls, .inr (.inl (bg_Ushr x y)) :: r, H, cn)
  | (.ldiv, nx, _) => bg_q2 st fun x y r => bg_W y ≠ 0 ∧ K (nx, ls, .inr (.inl (bg_Div x y)) :: r, H, cn)
  | (.lrem, nx, _) => bg_q2 st fun x y r => bg_W y ≠ 0 ∧ K (nx, ls, .inr (.inl (bg_Rem x y)) :: r, H, cn)
  | (.lcmp, nx, _) => bg_q2 st fun x y r => K (nx, ls, .inl (bg_Cmp x y) :: r, H, cn)
  | (.i2l, nx, _) => bg_p1 st fun x r => K (nx, ls, .inr (.inl (bg_w x)) :: r, H, cn)
  | (.l2i, nx, _) => bg_q1 st fun x r => K (nx, ls, .inl x :: r, H, cn)
  | (.dup, nx, _) => (match st with
    | .inl x :: r => K (nx, ls, .inl x :: .inl x :: r, H, cn)
    | .inr (.inr x) :: r => K (nx, ls, .inr (.inr x) :: .inr (.inr x) :: r, H, cn)
    | _ => False)
  | (.dup2, nx, _) => (match st with
    | .inl i :: .inr (.inr x) :: r => K (nx, ls, .inl i :: .inr (.inr x) :: .inl i :: .inr (.inr x) :: r, H, cn)
    | .inr (.inl x) :: r => K (nx, ls, .inr (.inl x) :: .inr (.inl x) :: r, H, cn)
    | _ => False)
  | (.goto _, _, (a, _)) => K (a, ls, st, H, cn)
  | (.ifCond .eq _, nx, (a, _)) => bg_p1 st fun x r => (bg_w x = 0 → K (a, ls, r, H, cn)) ∧ (¬ bg_w x = 0 → K (nx, ls, r, H, cn))
  | (.ifCond .ne _, nx, (a, _)) => bg_p1 st fun x r => (¬ bg_w x = 0 → K (a, ls, r, H, cn)) ∧ (bg_w x = 0 → K (nx, ls, r, H, cn))
  | (.ifCond .lt _, nx, (a, _)) => bg_p1 st fun x r => (bg_w x < 0 → K (a, ls, r, H, cn)) ∧ (¬ bg_w x < 0 → K (nx, ls, r, H, cn))
  | (.ifCond .ge _, nx, (a, _)) => bg_p1 st fun x r => (¬ bg_w x < 0 → K (a, ls, r, H, cn)) ∧ (bg_w x < 0 → K (nx, ls, r, H, cn))
  | (.ifCond .gt _, nx, (a, _)) => bg_p1 st fun x r => (0 < bg_w x → K (a, ls, r, H, cn)) ∧ (¬ 0 < bg_w x → K (nx, ls, r, H, cn))
  | (.ifCond .le _, nx, (a, _)) => bg_p1 st fun x r => (¬ 0 < bg_w x → K (a, ls, r, H, cn)) ∧ (0 < bg_w x → K (nx, ls, r, H, cn))
  | (.if_icmp .eq _, nx, (a, _)) => bg_p2 st fun x y r => (bg_w x = bg_w y → K (a, ls, r, H, cn)) ∧ (¬ bg_w x = bg_w y → K (nx, ls, r, H, cn))
  | (.if_icmp .ne _, nx, (a, _)) => bg_p2 st fun x y r => (¬ bg_w x = bg_w y → K (a, ls, r, H, cn)) ∧ (bg_w x = bg_w y → K (nx, ls, r, H, cn))
  | (.if_icmp .lt _, nx, (a, _)) => bg_p2 st fun x y r => (bg_w x < bg_w y → K (a, ls, r, H, cn)) ∧ (¬ bg_w x < bg_w y → K (nx, ls, r, H, cn))
  | (.if_icmp .ge _, nx, (a, _)) => bg_p2 st fun x y r => (¬ bg_w x < bg_w y → K (a, ls, r, H, cn)) ∧ (bg_w x < bg_w y → K (nx, ls, r, H, cn))
  | (.if_icmp .gt _, nx, (a, _)) => bg_p2 st fun x y r => (bg_w y < bg_w x → K (a, ls, r, H, cn)) ∧ (¬ bg_w y < bg_w x → K (nx, ls, r, H, cn))
  | (.if_icmp .le _, nx, (a, _)) => bg_p2 st fun x y r => (¬ bg_w y < bg_w x → K (a, ls, r, H, cn)) ∧ (bg_w y < bg_w x → K (nx, ls, r, H, cn))
  | (.tableswitch _ _ _ _, _, (a, _, _, _, ps)) => bg_p1 st fun x r => bg_sw (bg_w x) a (fun t => K (t, ls, r, H, cn)) ps
  | (.lookupswitch _ _, _, (a, _, _, _, ps)) => bg_p1 st fun x r => bg_sw (bg_w x) a (fun t => K (t, ls, r, H, cn)) ps
  | (.getstatic _, nx, _) => K (nx, ls, .inr (.inr (some 1)) :: st, H, cn)
  | (.getfield _, nx, (a, b, t, _)) => bg_r1 st fun k r => bg_at H k fun c _ rs => bg_if (Nat.beq c a) (match t with
    | 0 => K (nx, ls, .inl (H.2 k b) :: r, H, cn)
    | 1 => K (nx, ls, .inr (.inl (H.2 k b)) :: r, H, cn)
    | _ => (match bg_nth rs b with
      | some o => K (nx, ls, .inr (.inr o) :: r, H, cn)
      | none => False))
  | (.putfield _, nx, (a, b, t, _)) => (match st with
    | .inl x :: .inr (.inr (some k)) :: r => bg_at H k fun c _ _ => bg_if (Nat.beq c a) (match t with
      | 0 => K (nx, ls, r, (H.1, bg_up H.2 k b x), cn)
      | 3 => (x = 0 ∨ x = 1) ∧ K (nx, ls, r, (H.1, bg_up H.2 k b x), cn)
      | _ => False)
    | .inr (.inl x) :: .inr (.inr (some k)) :: r => bg_at H k fun c _ _ => bg_if (Nat.beq c a && Nat.beq t 1) (K (nx, ls, r, (H.1, bg_up H.2 k b x), cn))
    | .inr (.inr o) :: .inr (.inr (some k)) :: r => bg_at H k fun c n rs => bg_if (Nat.beq c a && Nat.beq t 2 && Nat.blt b rs.length) (K (nx, ls, r, (H.1.set k (c, n, rs.set b o), H.2), cn))
    | _ => False)
  | (.arraylength, nx, _) => bg_r1 st fun k r => bg_at H k fun c n _ => bg_if (Nat.ble 10 c) (K (nx, ls, .inl (n : Int) :: r, H, cn))
  | (.iaload, nx, _) => bg_pr st fun i k r => bg_at H k fun c n _ => bg_if (Nat.beq c 10 || Nat.beq c 16) ((0 ≤ bg_w i ∧ bg_w i < n) ∧ K (nx, ls, .inl (H.2 k (bg_w i)) :: r, H, cn))
  | (.laload, nx, _) => bg_pr st fun i k r => bg_at H k fun c n _ => bg_if (Nat.beq c 11) ((0 ≤ bg_w i ∧ bg_w i < n) ∧ K (nx, ls, .inr (.inl (H.2 k (bg_w i))) :: r, H, cn))
  | (.aaload, nx, _) => bg_pr st fun i k r => bg_at H k fun c n rs => bg_if (Nat.ble 12 c && Nat.ble c 15) ((0 ≤ bg_w i ∧ bg_w i < n) ∧ (match bg_nth rs (bg_w i).toNat with
    | some o => K (nx, ls, .inr (.inr o) :: r, H, cn)
    | none => False))
  | (.iastore, nx, _) => (match st with
    | .inl x :: .inl i :: .inr (.inr (some k)) :: r => bg_at H k fun c n _ => bg_if (Nat.beq c 10) ((0 ≤ bg_w i ∧ bg_w i < n) ∧ K (nx, ls, r, (H.1, bg_up H.2 k (bg_w i) x), cn))
    | _ => False)
  | (.lastore, nx, _) => (match st with
    | .inr (.inl x) :: .inl i :: .inr (.inr (some k)) :: r => bg_at H k fun c n _ => bg_if (Nat.beq c 11) ((0 ≤ bg_w i ∧ bg_w i < n) ∧ K (nx, ls, r, (H.1, bg_up H.2 k (bg_w i) x), cn))
    | _ => False)
  | (.aastore, nx, _) => (match st with
    | .inr (.inr (some v)) :: .inl i :: .inr (.inr (some k)) :: r => bg_at H k fun c n rs => bg_at H v fun cv _ _ => bg_if ((Nat.beq c 12 && Nat.beq cv 2) || (Nat.beq c 13 && Nat.beq cv 3)) ((0 ≤ bg_w i ∧ bg_w i < n) ∧ K (nx, ls, r, (H.1.set k (c, n, rs.set (bg_w i).toNat (some v)), H.2), cn))
    | _ => False)
  | (.new _, nx, (a, b, _)) => bg_if (Nat.ble (cn.1 + 1) mx.1 && Nat.ble (cn.2 + b) mx.2) (K (nx, ls, .inr (.inr (some H.1.length)) :: st, (H.1 ++ [(a, b, List.replicate b none)], bg_zero H.2 H.1.length 1), (cn.1 + 1, cn.2 + b)))
  | (.newarray _, nx, (a, b, _)) => bg_p1 st fun x r => bg_if (Nat.ble (cn.1 + 1) mx.1 && Nat.ble (cn.2 + b) mx.2) (x = b ∧ K (nx, ls, .inr (.inr (some H.1.length)) :: r, (H.1 ++ [(a, b, [])], bg_zero H.2 H.1.length 1), (cn.1 + 1, cn.2 + b)))
  | (.anewarray _, nx, (a, b, _)) => bg_p1 st fun x r => bg_if (Nat.ble (cn.1 + 1) mx.1 && Nat.ble (cn.2 + b) mx.2) (x = b ∧ K (nx, ls, .inr (.inr (some H.1.length)) :: r, (H.1 ++ [(a, b, List.replicate b none)], bg_zero H.2 H.1.length 1), (cn.1 + 1, cn.2 + b)))
  | (.multianewarray _ _, nx, (a, b, e, _)) => bg_p2 st fun x y r => bg_if (Nat.ble (cn.1 + 1 + b) mx.1 && Nat.ble (cn.2 + b + b * e) mx.2) ((x = b ∧ y = e) ∧ K (nx, ls, .inr (.inr (some H.1.length)) :: r, (H.1 ++ (a, b, (List.range b).map (fun i => some (H.1.length + 1 + i))) :: List.replicate b (a - 4, e, []), bg_zero H.2 H.1.length (1 + b)), (cn.1 + 1 + b, cn.2 + b + b * e)))
  | (.invokevirtual _, nx, (a, b, t, _)) => (match bg_pop (b + 1) st [] with
    | some (.inr (.inr (some k)) :: as, rest) => bg_at H k fun c _ _ => bg_if (Nat.beq c t) (bg_call C mx a (.inr (.inr (some k)) :: as) nx ls rest H cn K)
    | _ => False)
  | (.invokestatic _, nx, (a, b, t, _)) => (match t with
    | 1 => (match st with
      | .inl n :: .inl dp :: .inr (.inr (some kd)) :: .inl sp :: .inr (.inr (some ks)) :: r => bg_at H ks fun c0 n0 _ => bg_at H kd fun c1 n1 _ => bg_if (Nat.beq c0 10 && Nat.beq c1 10 && Nat.ble (bg_cats r) 8) ((0 ≤ bg_w sp ∧ 0 ≤ bg_w dp ∧ 0 ≤ bg_w n ∧ bg_w sp + bg_w n ≤ n0 ∧ bg_w dp + bg_w n ≤ n1) ∧ K (nx, ls, r, (H.1, bg_cpy H.2 ks kd (bg_w sp) (bg_w dp) (bg_w n)), cn))
      | _ => False)
    | 2 => bg_p2 st fun x y r => bg_if (Nat.ble (bg_cats r) 8 && Nat.ble cn.1 mx.1 && Nat.ble cn.2 mx.2) (K (nx, ls, .inl (if bg_w x < bg_w y then y else x) :: r, H, cn))
    | 3 => bg_p2 st fun x y r => bg_if (Nat.ble (bg_cats r) 8 && Nat.ble cn.1 mx.1 && Nat.ble cn.2 mx.2) (K (nx, ls, .inl (if bg_w y < bg_w x then y else x) :: r, H, cn))
    | 4 => bg_q2 st fun x y r => bg_if (Nat.ble (bg_cats r) 8 && Nat.ble cn.1 mx.1 && Nat.ble cn.2 mx.2) (K (nx, ls, .inr (.inl (if bg_W y < bg_W x then x else y)) :: r, H, cn))
    | _ => (match bg_pop b st [] with
      | some (as, rest) => bg_call C mx a as nx ls rest H cn K
      | none => False))
  | (.invokespecial _, nx, (a, b, t, _)) => (match t with
    | 1 => bg_r1 st fun _ r => bg_if (Nat.ble (bg_cats r) 8) (K (nx, ls, r, H, cn))
    | _ => (match bg_pop (b + 1) st [] with
      | some (.inr (.inr (some k)) :: as, rest) => bg_call C mx a (.inr (.inr (some k)) :: as) nx ls rest H cn K
      | _ => False))
  | (.ireturn, _, (_, _, t, _)) => (match st with
    | [.inl x] => bg_if (Nat.ble cn.1 mx.1 && Nat.ble cn.2 mx.2) (match t with
      | 0 => Rt (some (.inl x)) H
      | _ => (x = 0 ∨ x = 1) ∧ Rt (some (.inl x)) H)
    | _ => False)
  | (.lreturn, _, _) => (match st with
    | [.inr (.inl x)] => bg_if (Nat.ble cn.1 mx.1 && Nat.ble cn.2 mx.2) (Rt (some (.inr (.inl x))) H)
    | _ => False)
  | (.return_, _, _) => (match st with
    | [] => bg_if (Nat.ble cn.1 mx.1 && Nat.ble cn.2 mx.2) (Rt none H)
    | _ => False)
  | _ => False
def bg_in : List (Nat × bg_I) → Nat → Option bg_I
  | [], _ => none
  | (i, q) :: l, pc => match Nat.beq pc i with
    | true => some q
    | false => bg_in l pc
def bg_look : bg_K → Nat → Option bg_I
  | [], _ => none
  | (m, l) :: r, pc => match Nat.ble pc m with
    | true => bg_in l pc
    | false => bg_look r pc
def bg_st (C : Nat → List bg_V → bg_H → bg_R → Prop) (cd : bg_K) (mx : Nat × Nat) (f : bg_F) (K : bg_F → Prop) (Rt : bg_R) : Prop := match f with
  | (pc, ls, st, H, cn) => (match bg_look cd pc with
    | some q => bg_wp C mx q ls st H cn K Rt
    | none => False)
/-- the least set of frames that is closed under single instructions backwards -/
def bg_run (C : Nat → List bg_V → bg_H → bg_R → Prop) (cd : bg_K) (mx : Nat × Nat) (f : bg_F) (Rt : bg_R) : Prop := ∀ X : bg_F → Prop, (∀ g, bg_st C cd mx g X Rt → X g) → X f
def bg_lay : List bg_V → Nat → bg_L
  | [], 0 => []
  | [], n + 1 => none :: bg_lay [] n
  | .inr (.inl x) :: vs, n => some (.inr (.inl x)) :: none :: bg_lay vs (n - 2)
  | v :: vs, n => some v :: bg_lay vs (n - 1)
/-- method k at depth d: from these arguments and this heap it returns, with Rt -/
def bg_Ca (MS : List bg_M) : Nat → Nat → List bg_V → bg_H → bg_R → Prop
  | 0, _, _, _, _ => False
  | d + 1, k, as, H, Rt => match bg_nth MS k with
    | some (_, _, ml, _, cd, mx, _) => bg_if (Nat.ble (bg_cats as) ml) (bg_run (bg_Ca MS d) cd mx (0, bg_lay as ml, [], H, (0, 0)) Rt)
    | none => False
end
section
def cd_X0_init : bg_K := [(20, [(0, (.aload_n 0, 1, (0, 0, 0, 0, []))), (1, (.invokespecial 3, 4, (0, 0, 1, 172, []))), (4, (.aload_n 0, 5, (0, 0, 0, 0, []))), (5, (.bipush 64, 7, (0, 0, 0, 64, []))), (7, (.newarray .int, 9, (10, 64, 0, 0, []))), (9, (.putfield 11, 12, (0, 0, 2, 173, []))), (12, (.aload_n 0, 13, (0, 0, 0, 0, []))), (13, (.bipush 12, 15, (0, 0, 0, 12, []))), (15, (.newarray .int, 17, (10, 12, 0, 0, []))), (17, (.putfield 15, 20, (0, 1, 2, 175, []))), (20, (.return_, 21, (0, 0, 0, 0, [])))])]
def cd_X1_init : bg_K := [(38, [(0, (.aload_n 0, 1, (0, 0, 0, 0, []))), (1, (.invokespecial 3, 4, (0, 0, 1, 285, []))), (4, (.aload_n 0, 5, (0, 0, 0, 0, []))), (5, (.iconst 4, 6, (0, 0, 0, 4, []))), (6, (.iconst 4, 7, (0, 0, 0, 4, []))), (7, (.multianewarray 9 2, 11, (14, 4, 4, 286, []))), (11, (.putfield 11, 14, (1, 0, 2, 289, []))), (14, (.aload_n 0, 15, (0, 0, 0, 0, []))), (15, (.iconst 4, 16, (0, 0, 0, 4, []))), (16, (.newarray .long, 18, (11, 4, 0, 0, []))), (18, (.putfield 16, 21, (1, 1, 2, 291, []))), (21, (.aload_n 0, 22, (0, 0, 0, 0, []))), (22, (.iconst 4, 23, (0, 0, 0, 4, []))), (23, (.newarray .long, 25, (11, 4, 0, 0, []))), (25, (.putfield 20, 28, (1, 2, 2, 293, []))), (28, (.aload_n 0, 29, (0, 0, 0, 0, []))), (29, (.iconst 3, 30, (0, 0, 0, 3, []))), (30, (.iconst 3, 31, (0, 0, 0, 3, []))), (31, (.multianewarray 23 2, 35, (15, 3, 3, 287, []))), (35, (.putfield 25, 38, (1, 3, 2, 295, []))), (38, (.return_, 39, (0, 0, 0, 0, [])))])]
def cd_X2_init : bg_K := [(34, [(0, (.aload_n 0, 1, (0, 0, 0, 0, []))), (1, (.invokespecial 3, 4, (0, 0, 1, 116, []))), (4, (.aload_n 0, 5, (0, 0, 0, 0, []))), (5, (.bipush 12, 7, (0, 0, 0, 12, []))), (7, (.bipush 7, 9, (0, 0, 0, 7, []))), (9, (.multianewarray 9 2, 13, (14, 12, 7, 117, []))), (13, (.putfield 11, 16, (2, 0, 2, 126, []))), (16, (.aload_n 0, 17, (0, 0, 0, 0, []))), (17, (.iconst 3, 18, (0, 0, 0, 3, []))), (18, (.newarray .int, 20, (10, 3, 0, 0, []))), (20, (.putfield 16, 23, (2, 1, 2, 131, []))), (23, (.aload_n 0, 24, (0, 0, 0, 0, []))), (24, (.iconst 3, 25, (0, 0, 0, 3, []))), (25, (.newarray .int, 27, (10, 3, 0, 0, []))), (27, (.putfield 20, 30, (2, 2, 2, 132, []))), (30, (.aload_n 0, 31, (0, 0, 0, 0, []))), (31, (.invokevirtual 23, 34, (30, 0, 2, 119, []))), (34, (.return_, 35, (0, 0, 0, 0, [])))])]
def cd_X3_init : bg_K := [(22, [(0, (.aload_n 0, 1, (0, 0, 0, 0, []))), (1, (.invokespecial 3, 4, (0, 0, 1, 265, []))), (4, (.aload_n 0, 5, (0, 0, 0, 0, []))), (5, (.iconst 4, 6, (0, 0, 0, 4, []))), (6, (.newarray .int, 8, (10, 4, 0, 0, []))), (8, (.putfield 9, 11, (3, 0, 2, 271, []))), (11, (.aload_n 0, 12, (0, 0, 0, 0, []))), (12, (.iconst 4, 13, (0, 0, 0, 4, []))), (13, (.newarray .int, 15, (10, 4, 0, 0, []))), (15, (.putfield 15, 18, (3, 1, 2, 273, []))), (18, (.aload_n 0, 19, (0, 0, 0, 0, []))), (19, (.invokevirtual 18, 22, (43, 0, 3, 266, []))), (22, (.return_, 23, (0, 0, 0, 0, [])))])]
def cd_X4_init : bg_K := [(49, [(0, (.aload_n 0, 1, (0, 0, 0, 0, []))), (1, (.invokespecial 3, 4, (0, 0, 1, 220, []))), (4, (.aload_n 0, 5, (0, 0, 0, 0, []))), (5, (.sipush 4096, 8, (0, 0, 0, 4096, []))), (8, (.newarray .int, 10, (10, 4096, 0, 0, []))), (10, (.putfield 9, 13, (4, 0, 2, 221, []))), (13, (.aload_n 0, 14, (0, 0, 0, 0, []))), (14, (.sipush 4096, 17, (0, 0, 0, 4096, []))), (17, (.newarray .int, 19, (10, 4096, 0, 0, []))), (19, (.putfield 15, 22, (4, 1, 2, 222, []))), (22, (.aload_n 0, 23, (0, 0, 0, 0, []))), (23, (.sipush 4096, 26, (0, 0, 0, 4096, []))), (26, (.newarray .int, 28, (10, 4096, 0, 0, []))), (28, (.putfield 18, 31, (4, 2, 2, 223, []))), (31, (.aload_n 0, 32, (0, 0, 0, 0, []))), (32, (.bipush 12, 34, (0, 0, 0, 12, []))), (34, (.newarray .int, 36, (10, 12, 0, 0, []))), (36, (.putfield 21, 39, (4, 3, 2, 224, []))), (39, (.aload_n 0, 40, (0, 0, 0, 0, []))), (40, (.sipush 301, 43, (0, 0, 0, 301, []))), (43, (.newarray .int, 45, (10, 301, 0, 0, []))), (45, (.putfield 24, 48, (4, 4, 2, 225, []))), (48, (.aload_n 0, 49, (0, 0, 0, 0, []))), (49, (.sipush 301, 52, (0, 0, 0, 301, [])))]), (57, [(52, (.newarray .int, 54, (10, 301, 0, 0, []))), (54, (.putfield 27, 57, (4, 5, 2, 226, []))), (57, (.return_, 58, (0, 0, 0, 0, [])))])]
def cd_X5_init : bg_K := [(32, [(0, (.aload_n 0, 1, (0, 0, 0, 0, []))), (1, (.invokespecial 5, 4, (0, 0, 1, 318, []))), (4, (.aload_n 0, 5, (0, 0, 0, 0, []))), (5, (.iconst 4, 6, (0, 0, 0, 4, []))), (6, (.newarray .int, 8, (10, 4, 0, 0, []))), (8, (.putfield 11, 11, (5, 0, 2, 319, []))), (11, (.aload_n 0, 12, (0, 0, 0, 0, []))), (12, (.iconst 4, 13, (0, 0, 0, 4, []))), (13, (.newarray .int, 15, (10, 4, 0, 0, []))), (15, (.putfield 17, 18, (5, 1, 2, 320, []))), (18, (.aload_n 0, 19, (0, 0, 0, 0, []))), (19, (.iconst 4, 20, (0, 0, 0, 4, []))), (20, (.newarray .int, 22, (10, 4, 0, 0, []))), (22, (.putfield 20, 25, (5, 2, 2, 321, []))), (25, (.aload_n 0, 26, (0, 0, 0, 0, []))), (26, (.iconst 4, 27, (0, 0, 0, 4, []))), (27, (.newarray .int, 29, (10, 4, 0, 0, []))), (29, (.putfield 23, 32, (5, 3, 2, 322, []))), (32, (.return_, 33, (0, 0, 0, 0, [])))])]
def cd_X6_init : bg_K := [(21, [(0, (.aload_n 0, 1, (0, 0, 0, 0, []))), (1, (.invokespecial 3, 4, (0, 0, 1, 95, []))), (4, (.aload_n 0, 5, (0, 0, 0, 0, []))), (5, (.sipush 400, 8, (0, 0, 0, 400, []))), (8, (.newarray .int, 10, (10, 400, 0, 0, []))), (10, (.putfield 9, 13, (6, 0, 2, 96, []))), (13, (.aload_n 0, 14, (0, 0, 0, 0, []))), (14, (.bipush 7, 16, (0, 0, 0, 7, []))), (16, (.newarray .int, 18, (10, 7, 0, 0, []))), (18, (.putfield 15, 21, (6, 1, 2, 97, []))), (21, (.return_, 22, (0, 0, 0, 0, [])))])]
def cd_X7_init : bg_K := [(39, [(0, (.aload_n 0, 1, (0, 0, 0, 0, []))), (1, (.invokespecial 3, 4, (0, 0, 1, 194, []))), (4, (.aload_n 0, 5, (0, 0, 0, 0, []))), (5, (.sipush 2800, 8, (0, 0, 0, 2800, []))), (8, (.newarray .int, 10, (10, 2800, 0, 0, []))), (10, (.putfield 9, 13, (7, 0, 2, 195, []))), (13, (.aload_n 0, 14, (0, 0, 0, 0, []))), (14, (.sipush 400, 17, (0, 0, 0, 400, []))), (17, (.newarray .int, 19, (10, 400, 0, 0, []))), (19, (.putfield 15, 22, (7, 1, 2, 196, []))), (22, (.aload_n 0, 23, (0, 0, 0, 0, []))), (23, (.sipush 400, 26, (0, 0, 0, 400, []))), (26, (.newarray .int, 28, (10, 400, 0, 0, []))), (28, (.putfield 18, 31, (7, 2, 2, 197, []))), (31, (.aload_n 0, 32, (0, 0, 0, 0, []))), (32, (.bipush 7, 34, (0, 0, 0, 7, []))), (34, (.newarray .int, 36, (10, 7, 0, 0, []))), (36, (.putfield 21, 39, (7, 3, 2, 198, []))), (39, (.return_, 40, (0, 0, 0, 0, [])))])]
def cd_X8_init : bg_K := [(49, [(0, (.aload_n 0, 1, (0, 0, 0, 0, []))), (1, (.invokespecial 5, 4, (0, 0, 1, 87, []))), (4, (.aload_n 0, 5, (0, 0, 0, 0, []))), (5, (.new 11, 8, (6, 4, 0, 90, []))), (8, (.dup, 9, (0, 0, 0, 0, []))), (9, (.invokespecial 13, 12, (6, 0, 0, 92, []))), (12, (.putfield 14, 15, (8, 0, 2, 364, []))), (15, (.aload_n 0, 16, (0, 0, 0, 0, []))), (16, (.new 18, 19, (2, 8, 0, 111, []))), (19, (.dup, 20, (0, 0, 0, 0, []))), (20, (.invokespecial 20, 23, (2, 0, 0, 113, []))), (23, (.putfield 21, 26, (8, 1, 2, 365, []))), (26, (.aload_n 0, 27, (0, 0, 0, 0, []))), (27, (.new 18, 30, (2, 8, 0, 111, []))), (30, (.dup, 31, (0, 0, 0, 0, []))), (31, (.invokespecial 20, 34, (2, 0, 0, 113, []))), (34, (.putfield 25, 37, (8, 2, 2, 366, []))), (37, (.aload_n 0, 38, (0, 0, 0, 0, []))), (38, (.new 28, 41, (0, 4, 0, 167, []))), (41, (.dup, 42, (0, 0, 0, 0, []))), (42, (.invokespecial 30, 45, (0, 0, 0, 169, []))), (45, (.putfield 31, 48, (8, 3, 2, 367, []))), (48, (.aload_n 0, 49, (0, 0, 0, 0, []))), (49, (.new 35, 52, (7, 6, 0, 189, [])))]), (103, [(52, (.dup, 53, (0, 0, 0, 0, []))), (53, (.invokespecial 37, 56, (7, 0, 0, 191, []))), (56, (.putfield 38, 59, (8, 4, 2, 368, []))), (59, (.aload_n 0, 60, (0, 0, 0, 0, []))), (60, (.new 42, 63, (4, 12, 0, 215, []))), (63, (.dup, 64, (0, 0, 0, 0, []))), (64, (.invokespecial 44, 67, (4, 0, 0, 217, []))), (67, (.putfield 45, 70, (8, 5, 2, 369, []))), (70, (.aload_n 0, 71, (0, 0, 0, 0, []))), (71, (.new 49, 74, (3, 2, 0, 260, []))), (74, (.dup, 75, (0, 0, 0, 0, []))), (75, (.invokespecial 51, 78, (3, 0, 0, 262, []))), (78, (.putfield 52, 81, (8, 6, 2, 370, []))), (81, (.aload_n 0, 82, (0, 0, 0, 0, []))), (82, (.new 56, 85, (1, 6, 0, 280, []))), (85, (.dup, 86, (0, 0, 0, 0, []))), (86, (.invokespecial 58, 89, (1, 0, 0, 282, []))), (89, (.putfield 59, 92, (8, 7, 2, 371, []))), (92, (.aload_n 0, 93, (0, 0, 0, 0, []))), (93, (.new 63, 96, (5, 4, 0, 313, []))), (96, (.dup, 97, (0, 0, 0, 0, []))), (97, (.invokespecial 65, 100, (5, 0, 0, 315, []))), (100, (.putfield 66, 103, (8, 8, 2, 372, []))), (103, (.aload_n 0, 104, (0, 0, 0, 0, [])))]), (146, [(104, (.bipush 12, 106, (0, 0, 0, 12, []))), (106, (.newarray .int, 108, (10, 12, 0, 0, []))), (108, (.putfield 70, 111, (8, 9, 2, 373, []))), (111, (.aload_n 0, 112, (0, 0, 0, 0, []))), (112, (.iconst 4, 113, (0, 0, 0, 4, []))), (113, (.newarray .int, 115, (10, 4, 0, 0, []))), (115, (.putfield 74, 118, (8, 10, 2, 374, []))), (118, (.aload_n 0, 119, (0, 0, 0, 0, []))), (119, (.iconst 2, 120, (0, 0, 0, 2, []))), (120, (.anewarray 18, 123, (12, 2, 0, 111, []))), (123, (.putfield 77, 126, (8, 11, 2, 375, []))), (126, (.aload_n 0, 127, (0, 0, 0, 0, []))), (127, (.iconst 2, 128, (0, 0, 0, 2, []))), (128, (.anewarray 49, 131, (13, 2, 0, 260, []))), (131, (.putfield 81, 134, (8, 12, 2, 376, []))), (134, (.iconst 0, 135, (0, 0, 0, 0, []))), (135, (.istore_n 1, 136, (1, 0, 0, 0, []))), (136, (.iload_n 1, 137, (1, 0, 0, 0, []))), (137, (.iconst 2, 138, (0, 0, 0, 2, []))), (138, (.if_icmp .ge 35, 141, (173, 0, 0, 0, []))), (141, (.aload_n 0, 142, (0, 0, 0, 0, []))), (142, (.getfield 77, 145, (8, 11, 2, 375, []))), (145, (.iload_n 1, 146, (1, 0, 0, 0, []))), (146, (.new 18, 149, (2, 8, 0, 111, [])))]), (182, [(149, (.dup, 150, (0, 0, 0, 0, []))), (150, (.invokespecial 20, 153, (2, 0, 0, 113, []))), (153, (.aastore, 154, (0, 0, 0, 0, []))), (154, (.aload_n 0, 155, (0, 0, 0, 0, []))), (155, (.getfield 81, 158, (8, 12, 2, 376, []))), (158, (.iload_n 1, 159, (1, 0, 0, 0, []))), (159, (.new 49, 162, (3, 2, 0, 260, []))), (162, (.dup, 163, (0, 0, 0, 0, []))), (163, (.invokespecial 51, 166, (3, 0, 0, 262, []))), (166, (.aastore, 167, (0, 0, 0, 0, []))), (167, (.iinc 1 1, 170, (1, 0, 0, 1, []))), (170, (.goto (-34), 173, (136, 0, 0, 0, []))), (173, (.aload_n 0, 174, (0, 0, 0, 0, []))), (174, (.iconst 0, 175, (0, 0, 0, 0, []))), (175, (.putfield 85, 178, (8, 13, 0, 377, []))), (178, (.aload_n 0, 179, (0, 0, 0, 0, []))), (179, (.invokevirtual 89, 182, (108, 0, 8, 334, []))), (182, (.return_, 183, (0, 0, 0, 0, [])))])]
def cd_X9_init : bg_K := [(45, [(0, (.aload_n 0, 1, (0, 0, 0, 0, []))), (1, (.invokespecial 1, 4, (0, 0, 1, 844, []))), (4, (.aload_n 0, 5, (0, 0, 0, 0, []))), (5, (.sipush 400, 8, (0, 0, 0, 400, []))), (8, (.newarray .int, 10, (10, 400, 0, 0, []))), (10, (.putfield 7, 13, (9, 1, 2, 854, []))), (13, (.aload_n 0, 14, (0, 0, 0, 0, []))), (14, (.iconst 4, 15, (0, 0, 0, 4, []))), (15, (.newarray .int, 17, (10, 4, 0, 0, []))), (17, (.putfield 13, 20, (9, 2, 2, 855, []))), (20, (.aload_n 0, 21, (0, 0, 0, 0, []))), (21, (.sipush 336, 24, (0, 0, 0, 336, []))), (24, (.newarray .int, 26, (10, 336, 0, 0, []))), (26, (.putfield 16, 29, (9, 3, 2, 856, []))), (29, (.aload_n 0, 30, (0, 0, 0, 0, []))), (30, (.iconst 4, 31, (0, 0, 0, 4, []))), (31, (.newarray .int, 33, (10, 4, 0, 0, []))), (33, (.putfield 19, 36, (9, 4, 2, 857, []))), (36, (.aload_n 0, 37, (0, 0, 0, 0, []))), (37, (.bipush 36, 39, (0, 0, 0, 36, []))), (39, (.newarray .int, 41, (10, 36, 0, 0, []))), (41, (.putfield 22, 44, (9, 5, 2, 858, []))), (44, (.aload_n 0, 45, (0, 0, 0, 0, []))), (45, (.bipush 12, 47, (0, 0, 0, 12, [])))]), (93, [(47, (.newarray .int, 49, (10, 12, 0, 0, []))), (49, (.putfield 25, 52, (9, 6, 2, 859, []))), (52, (.aload_n 0, 53, (0, 0, 0, 0, []))), (53, (.bipush 12, 55, (0, 0, 0, 12, []))), (55, (.newarray .int, 57, (10, 12, 0, 0, []))), (57, (.putfield 28, 60, (9, 7, 2, 860, []))), (60, (.aload_n 0, 61, (0, 0, 0, 0, []))), (61, (.bipush 12, 63, (0, 0, 0, 12, []))), (63, (.newarray .int, 65, (10, 12, 0, 0, []))), (65, (.putfield 31, 68, (9, 8, 2, 861, []))), (68, (.aload_n 0, 69, (0, 0, 0, 0, []))), (69, (.bipush 12, 71, (0, 0, 0, 12, []))), (71, (.newarray .int, 73, (10, 12, 0, 0, []))), (73, (.putfield 34, 76, (9, 10, 2, 863, []))), (76, (.aload_n 0, 77, (0, 0, 0, 0, []))), (77, (.iconst 4, 78, (0, 0, 0, 4, []))), (78, (.newarray .int, 80, (10, 4, 0, 0, []))), (80, (.putfield 37, 83, (9, 11, 2, 864, []))), (83, (.aload_n 0, 84, (0, 0, 0, 0, []))), (84, (.sipush 4096, 87, (0, 0, 0, 4096, []))), (87, (.newarray .int, 89, (10, 4096, 0, 0, []))), (89, (.putfield 40, 92, (9, 13, 2, 866, []))), (92, (.aload_n 0, 93, (0, 0, 0, 0, []))), (93, (.sipush 400, 96, (0, 0, 0, 400, [])))]), (143, [(96, (.newarray .int, 98, (10, 400, 0, 0, []))), (98, (.putfield 43, 101, (9, 16, 2, 869, []))), (101, (.aload_n 0, 102, (0, 0, 0, 0, []))), (102, (.sipush 2800, 105, (0, 0, 0, 2800, []))), (105, (.newarray .int, 107, (10, 2800, 0, 0, []))), (107, (.putfield 46, 110, (9, 17, 2, 870, []))), (110, (.aload_n 0, 111, (0, 0, 0, 0, []))), (111, (.bipush 7, 113, (0, 0, 0, 7, []))), (113, (.newarray .int, 115, (10, 7, 0, 0, []))), (115, (.putfield 49, 118, (9, 19, 2, 872, []))), (118, (.aload_n 0, 119, (0, 0, 0, 0, []))), (119, (.bipush 12, 121, (0, 0, 0, 12, []))), (121, (.newarray .int, 123, (10, 12, 0, 0, []))), (123, (.putfield 52, 126, (9, 20, 2, 873, []))), (126, (.aload_n 0, 127, (0, 0, 0, 0, []))), (127, (.bipush 12, 129, (0, 0, 0, 12, []))), (129, (.newarray .int, 131, (10, 12, 0, 0, []))), (131, (.putfield 55, 134, (9, 21, 2, 874, []))), (134, (.aload_n 0, 135, (0, 0, 0, 0, []))), (135, (.bipush 8, 137, (0, 0, 0, 8, []))), (137, (.newarray .int, 139, (10, 8, 0, 0, []))), (139, (.putfield 58, 142, (9, 22, 2, 875, []))), (142, (.aload_n 0, 143, (0, 0, 0, 0, []))), (143, (.bipush 8, 145, (0, 0, 0, 8, [])))]), (191, [(145, (.newarray .int, 147, (10, 8, 0, 0, []))), (147, (.putfield 61, 150, (9, 24, 2, 877, []))), (150, (.aload_n 0, 151, (0, 0, 0, 0, []))), (151, (.sipush 4096, 154, (0, 0, 0, 4096, []))), (154, (.newarray .long, 156, (11, 4096, 0, 0, []))), (156, (.putfield 64, 159, (9, 25, 2, 878, []))), (159, (.aload_n 0, 160, (0, 0, 0, 0, []))), (160, (.bipush 25, 162, (0, 0, 0, 25, []))), (162, (.newarray .long, 164, (11, 25, 0, 0, []))), (164, (.putfield 68, 167, (9, 26, 2, 879, []))), (167, (.aload_n 0, 168, (0, 0, 0, 0, []))), (168, (.bipush 8, 170, (0, 0, 0, 8, []))), (170, (.newarray .long, 172, (11, 8, 0, 0, []))), (172, (.putfield 71, 175, (9, 27, 2, 880, []))), (175, (.aload_n 0, 176, (0, 0, 0, 0, []))), (176, (.bipush 8, 178, (0, 0, 0, 8, []))), (178, (.newarray .int, 180, (10, 8, 0, 0, []))), (180, (.putfield 74, 183, (9, 30, 2, 883, []))), (183, (.aload_n 0, 184, (0, 0, 0, 0, []))), (184, (.iconst 4, 185, (0, 0, 0, 4, []))), (185, (.newarray .int, 187, (10, 4, 0, 0, []))), (187, (.putfield 77, 190, (9, 31, 2, 884, []))), (190, (.aload_n 0, 191, (0, 0, 0, 0, []))), (191, (.iconst 4, 192, (0, 0, 0, 4, [])))]), (206, [(192, (.newarray .int, 194, (10, 4, 0, 0, []))), (194, (.putfield 80, 197, (9, 32, 2, 885, []))), (197, (.aload_n 0, 198, (0, 0, 0, 0, []))), (198, (.iconst 0, 199, (0, 0, 0, 0, []))), (199, (.invokevirtual 83, 202, (115, 1, 9, 845, []))), (202, (.aload_n 0, 203, (0, 0, 0, 0, []))), (203, (.invokevirtual 87, 206, (116, 0, 9, 849, []))), (206, (.return_, 207, (0, 0, 0, 0, [])))])]
def cd_X0_survey : bg_K := [(42, [(0, (.iconst 0, 1, (0, 0, 0, 0, []))), (1, (.istore_n 2, 2, (2, 0, 0, 0, []))), (2, (.iload_n 2, 3, (2, 0, 0, 0, []))), (3, (.bipush 64, 5, (0, 0, 0, 64, []))), (5, (.if_icmp .ge 115, 8, (120, 0, 0, 0, []))), (8, (.iload_n 2, 9, (2, 0, 0, 0, []))), (9, (.invokestatic 18, 12, (15, 1, 0, 342, []))), (12, (.istore_n 3, 13, (3, 0, 0, 0, []))), (13, (.iconst 0, 14, (0, 0, 0, 0, []))), (14, (.istore 4, 16, (4, 0, 0, 0, []))), (16, (.iconst 0, 17, (0, 0, 0, 0, []))), (17, (.istore 5, 19, (5, 0, 0, 0, []))), (19, (.iload 5, 21, (5, 0, 0, 0, []))), (21, (.aload_n 1, 22, (1, 0, 0, 0, []))), (22, (.getfield 22, 25, (2, 3, 0, 133, []))), (25, (.if_icmp .ge 81, 28, (106, 0, 0, 0, []))), (28, (.iload 5, 30, (5, 0, 0, 0, []))), (30, (.bipush 12, 32, (0, 0, 0, 12, []))), (32, (.if_icmp .ge 74, 35, (106, 0, 0, 0, []))), (35, (.iload_n 3, 36, (3, 0, 0, 0, []))), (36, (.aload_n 1, 37, (1, 0, 0, 0, []))), (37, (.getfield 28, 40, (2, 0, 2, 127, []))), (40, (.iload 5, 42, (5, 0, 0, 0, []))), (42, (.aaload, 43, (0, 0, 0, 0, [])))]), (78, [(43, (.iconst 0, 44, (0, 0, 0, 0, []))), (44, (.iaload, 45, (0, 0, 0, 0, []))), (45, (.ishr, 46, (0, 0, 0, 0, []))), (46, (.iconst 1, 47, (0, 0, 0, 1, []))), (47, (.iand, 48, (0, 0, 0, 0, []))), (48, (.ifCond .eq 7, 51, (55, 0, 0, 0, []))), (51, (.iconst 1, 52, (0, 0, 0, 1, []))), (52, (.goto 4, 55, (56, 0, 0, 0, []))), (55, (.iconst 0, 56, (0, 0, 0, 0, []))), (56, (.istore 6, 58, (6, 0, 0, 0, []))), (58, (.iload_n 3, 59, (3, 0, 0, 0, []))), (59, (.aload_n 1, 60, (1, 0, 0, 0, []))), (60, (.getfield 28, 63, (2, 0, 2, 127, []))), (63, (.iload 5, 65, (5, 0, 0, 0, []))), (65, (.aaload, 66, (0, 0, 0, 0, []))), (66, (.iconst 1, 67, (0, 0, 0, 1, []))), (67, (.iaload, 68, (0, 0, 0, 0, []))), (68, (.ishr, 69, (0, 0, 0, 0, []))), (69, (.iconst 1, 70, (0, 0, 0, 1, []))), (70, (.iand, 71, (0, 0, 0, 0, []))), (71, (.ifCond .eq 7, 74, (78, 0, 0, 0, []))), (74, (.iconst 1, 75, (0, 0, 0, 1, []))), (75, (.goto 4, 78, (79, 0, 0, 0, []))), (78, (.iconst 0, 79, (0, 0, 0, 0, [])))]), (120, [(79, (.istore 7, 81, (7, 0, 0, 0, []))), (81, (.iload 6, 83, (6, 0, 0, 0, []))), (83, (.ifCond .eq 17, 86, (100, 0, 0, 0, []))), (86, (.iload 7, 88, (7, 0, 0, 0, []))), (88, (.ifCond .ne 12, 91, (100, 0, 0, 0, []))), (91, (.iload 4, 93, (4, 0, 0, 0, []))), (93, (.iconst 1, 94, (0, 0, 0, 1, []))), (94, (.iload 5, 96, (5, 0, 0, 0, []))), (96, (.ishl, 97, (0, 0, 0, 0, []))), (97, (.ior, 98, (0, 0, 0, 0, []))), (98, (.istore 4, 100, (4, 0, 0, 0, []))), (100, (.iinc 5 1, 103, (5, 0, 0, 1, []))), (103, (.goto (-84), 106, (19, 0, 0, 0, []))), (106, (.aload_n 0, 107, (0, 0, 0, 0, []))), (107, (.getfield 11, 110, (0, 0, 2, 173, []))), (110, (.iload_n 2, 111, (2, 0, 0, 0, []))), (111, (.iload 4, 113, (4, 0, 0, 0, []))), (113, (.iastore, 114, (0, 0, 0, 0, []))), (114, (.iinc 2 1, 117, (2, 0, 0, 1, []))), (117, (.goto (-115), 120, (2, 0, 0, 0, []))), (120, (.return_, 121, (0, 0, 0, 0, [])))])]
def cd_X0_weigh : bg_K := [(44, [(0, (.iconst 0, 1, (0, 0, 0, 0, []))), (1, (.istore 4, 3, (4, 0, 0, 0, []))), (3, (.iload 4, 5, (4, 0, 0, 0, []))), (5, (.bipush 12, 7, (0, 0, 0, 12, []))), (7, (.if_icmp .ge 34, 10, (41, 0, 0, 0, []))), (10, (.aload_n 0, 11, (0, 0, 0, 0, []))), (11, (.getfield 15, 14, (0, 1, 2, 175, []))), (14, (.iload 4, 16, (4, 0, 0, 0, []))), (16, (.aload_n 1, 17, (1, 0, 0, 0, []))), (17, (.iload 4, 19, (4, 0, 0, 0, []))), (19, (.iload_n 2, 20, (2, 0, 0, 0, []))), (20, (.iload 4, 22, (4, 0, 0, 0, []))), (22, (.iload_n 3, 23, (3, 0, 0, 0, []))), (23, (.if_icmp .ne 7, 26, (30, 0, 0, 0, []))), (26, (.iconst 1, 27, (0, 0, 0, 1, []))), (27, (.goto 4, 30, (31, 0, 0, 0, []))), (30, (.iconst 0, 31, (0, 0, 0, 0, []))), (31, (.invokevirtual 32, 34, (41, 3, 2, 534, []))), (34, (.iastore, 35, (0, 0, 0, 0, []))), (35, (.iinc 4 1, 38, (4, 0, 0, 1, []))), (38, (.goto (-35), 41, (3, 0, 0, 0, []))), (41, (.aload_n 0, 42, (0, 0, 0, 0, []))), (42, (.ldc 38, 44, (0, 535, 0, 2147483647, []))), (44, (.putfield 39, 47, (0, 2, 0, 176, [])))]), (94, [(47, (.iconst 0, 48, (0, 0, 0, 0, []))), (48, (.istore 4, 50, (4, 0, 0, 0, []))), (50, (.iload 4, 52, (4, 0, 0, 0, []))), (52, (.bipush 64, 54, (0, 0, 0, 64, []))), (54, (.if_icmp .ge 46, 57, (100, 0, 0, 0, []))), (57, (.aload_n 0, 58, (0, 0, 0, 0, []))), (58, (.aload_n 0, 59, (0, 0, 0, 0, []))), (59, (.getfield 11, 62, (0, 0, 2, 173, []))), (62, (.iload 4, 64, (4, 0, 0, 0, []))), (64, (.iaload, 65, (0, 0, 0, 0, []))), (65, (.invokevirtual 42, 68, (14, 1, 0, 536, []))), (68, (.istore 5, 70, (5, 0, 0, 0, []))), (70, (.iload 5, 72, (5, 0, 0, 0, []))), (72, (.aload_n 0, 73, (0, 0, 0, 0, []))), (73, (.getfield 39, 76, (0, 2, 0, 176, []))), (76, (.if_icmp .ge 18, 79, (94, 0, 0, 0, []))), (79, (.aload_n 0, 80, (0, 0, 0, 0, []))), (80, (.iload 5, 82, (5, 0, 0, 0, []))), (82, (.putfield 39, 85, (0, 2, 0, 176, []))), (85, (.aload_n 0, 86, (0, 0, 0, 0, []))), (86, (.iload 4, 88, (4, 0, 0, 0, []))), (88, (.invokestatic 18, 91, (15, 1, 0, 342, []))), (91, (.putfield 45, 94, (0, 3, 0, 178, []))), (94, (.iinc 4 1, 97, (4, 0, 0, 1, [])))]), (100, [(97, (.goto (-47), 100, (50, 0, 0, 0, []))), (100, (.return_, 101, (0, 0, 0, 0, [])))])]
def cd_X0_outOfShore : bg_K := [(14, [(0, (.aload_n 0, 1, (0, 0, 0, 0, []))), (1, (.getfield 11, 4, (0, 0, 2, 173, []))), (4, (.aload_n 0, 5, (0, 0, 0, 0, []))), (5, (.getfield 45, 8, (0, 3, 0, 178, []))), (8, (.iconst 1, 9, (0, 0, 0, 1, []))), (9, (.ishr, 10, (0, 0, 0, 0, []))), (10, (.bipush 63, 12, (0, 0, 0, 63, []))), (12, (.iand, 13, (0, 0, 0, 0, []))), (13, (.iaload, 14, (0, 0, 0, 0, []))), (14, (.ireturn, 15, (0, 0, 0, 0, [])))])]
def cd_X0_isNeeded : bg_K := [(35, [(0, (.iload_n 1, 1, (1, 0, 0, 0, []))), (1, (.ifCond .lt 9, 4, (10, 0, 0, 0, []))), (4, (.iload_n 1, 5, (1, 0, 0, 0, []))), (5, (.bipush 64, 7, (0, 0, 0, 64, []))), (7, (.if_icmp .lt 5, 10, (12, 0, 0, 0, []))), (10, (.iconst 0, 11, (0, 0, 0, 0, []))), (11, (.ireturn, 12, (0, 0, 1, 0, []))), (12, (.iconst 0, 13, (0, 0, 0, 0, []))), (13, (.istore_n 2, 14, (2, 0, 0, 0, []))), (14, (.iload_n 2, 15, (2, 0, 0, 0, []))), (15, (.bipush 64, 17, (0, 0, 0, 64, []))), (17, (.if_icmp .ge 59, 20, (76, 0, 0, 0, []))), (20, (.aload_n 0, 21, (0, 0, 0, 0, []))), (21, (.getfield 11, 24, (0, 0, 2, 173, []))), (24, (.iload_n 2, 25, (2, 0, 0, 0, []))), (25, (.iaload, 26, (0, 0, 0, 0, []))), (26, (.aload_n 0, 27, (0, 0, 0, 0, []))), (27, (.getfield 11, 30, (0, 0, 2, 173, []))), (30, (.iload_n 1, 31, (1, 0, 0, 0, []))), (31, (.iaload, 32, (0, 0, 0, 0, []))), (32, (.iconst (-1), 33, (0, 0, 0, (-1), []))), (33, (.ixor, 34, (0, 0, 0, 0, []))), (34, (.iand, 35, (0, 0, 0, 0, []))), (35, (.ifCond .ne 7, 38, (42, 0, 0, 0, [])))]), (77, [(38, (.iconst 1, 39, (0, 0, 0, 1, []))), (39, (.goto 4, 42, (43, 0, 0, 0, []))), (42, (.iconst 0, 43, (0, 0, 0, 0, []))), (43, (.istore_n 3, 44, (3, 0, 0, 0, []))), (44, (.iload_n 3, 45, (3, 0, 0, 0, []))), (45, (.ifCond .eq 25, 48, (70, 0, 0, 0, []))), (48, (.aload_n 0, 49, (0, 0, 0, 0, []))), (49, (.getfield 11, 52, (0, 0, 2, 173, []))), (52, (.iload_n 2, 53, (2, 0, 0, 0, []))), (53, (.iaload, 54, (0, 0, 0, 0, []))), (54, (.aload_n 0, 55, (0, 0, 0, 0, []))), (55, (.getfield 11, 58, (0, 0, 2, 173, []))), (58, (.iload_n 1, 59, (1, 0, 0, 0, []))), (59, (.iaload, 60, (0, 0, 0, 0, []))), (60, (.if_icmp .ne 8, 63, (68, 0, 0, 0, []))), (63, (.iload_n 2, 64, (2, 0, 0, 0, []))), (64, (.iload_n 1, 65, (1, 0, 0, 0, []))), (65, (.if_icmp .ge 5, 68, (70, 0, 0, 0, []))), (68, (.iconst 0, 69, (0, 0, 0, 0, []))), (69, (.ireturn, 70, (0, 0, 1, 0, []))), (70, (.iinc 2 1, 73, (2, 0, 0, 1, []))), (73, (.goto (-59), 76, (14, 0, 0, 0, []))), (76, (.iconst 1, 77, (0, 0, 0, 1, []))), (77, (.ireturn, 78, (0, 0, 1, 0, [])))])]
def cd_X0_sumOver : bg_K := [(32, [(0, (.iconst 0, 1, (0, 0, 0, 0, []))), (1, (.istore_n 2, 2, (2, 0, 0, 0, []))), (2, (.iconst 0, 3, (0, 0, 0, 0, []))), (3, (.istore_n 3, 4, (3, 0, 0, 0, []))), (4, (.iload_n 3, 5, (3, 0, 0, 0, []))), (5, (.bipush 12, 7, (0, 0, 0, 12, []))), (7, (.if_icmp .ge 24, 10, (31, 0, 0, 0, []))), (10, (.iload_n 2, 11, (2, 0, 0, 0, []))), (11, (.iload_n 1, 12, (1, 0, 0, 0, []))), (12, (.iload_n 3, 13, (3, 0, 0, 0, []))), (13, (.ishr, 14, (0, 0, 0, 0, []))), (14, (.iconst 1, 15, (0, 0, 0, 1, []))), (15, (.iand, 16, (0, 0, 0, 0, []))), (16, (.aload_n 0, 17, (0, 0, 0, 0, []))), (17, (.getfield 15, 20, (0, 1, 2, 175, []))), (20, (.iload_n 3, 21, (3, 0, 0, 0, []))), (21, (.iaload, 22, (0, 0, 0, 0, []))), (22, (.imul, 23, (0, 0, 0, 0, []))), (23, (.iadd, 24, (0, 0, 0, 0, []))), (24, (.istore_n 2, 25, (2, 0, 0, 0, []))), (25, (.iinc 3 1, 28, (3, 0, 0, 1, []))), (28, (.goto (-24), 31, (4, 0, 0, 0, []))), (31, (.iload_n 2, 32, (2, 0, 0, 0, []))), (32, (.ireturn, 33, (0, 0, 0, 0, [])))])]
def cd_X0_placesOf : bg_K := [(5, [(0, (.iload_n 0, 1, (0, 0, 0, 0, []))), (1, (.iconst 1, 2, (0, 0, 0, 1, []))), (2, (.ishl, 3, (0, 0, 0, 0, []))), (3, (.iconst 1, 4, (0, 0, 0, 1, []))), (4, (.ior, 5, (0, 0, 0, 0, []))), (5, (.ireturn, 6, (0, 0, 0, 0, [])))])]
def cd_X1_findSupport : bg_K := [(40, [(0, (.iconst 1, 1, (0, 0, 0, 1, []))), (1, (.istore_n 3, 2, (3, 0, 0, 0, []))), (2, (.iload_n 3, 3, (3, 0, 0, 0, []))), (3, (.iconst 4, 4, (0, 0, 0, 4, []))), (4, (.if_icmp .gt 49, 7, (53, 0, 0, 0, []))), (7, (.iconst 1, 8, (0, 0, 0, 1, []))), (8, (.istore 4, 10, (4, 0, 0, 0, []))), (10, (.iload 4, 12, (4, 0, 0, 0, []))), (12, (.bipush 16, 14, (0, 0, 0, 16, []))), (14, (.if_icmp .ge 33, 17, (47, 0, 0, 0, []))), (17, (.iload 4, 19, (4, 0, 0, 0, []))), (19, (.iload_n 1, 20, (1, 0, 0, 0, []))), (20, (.iload_n 3, 21, (3, 0, 0, 0, []))), (21, (.invokestatic 28, 24, (18, 3, 0, 723, []))), (24, (.ifCond .eq 17, 27, (41, 0, 0, 0, []))), (27, (.aload_n 0, 28, (0, 0, 0, 0, []))), (28, (.iload 4, 30, (4, 0, 0, 0, []))), (30, (.iload_n 1, 31, (1, 0, 0, 0, []))), (31, (.iload_n 2, 32, (2, 0, 0, 0, []))), (32, (.iload_n 3, 33, (3, 0, 0, 0, []))), (33, (.invokevirtual 32, 36, (17, 4, 1, 732, []))), (36, (.ifCond .eq 5, 39, (41, 0, 0, 0, []))), (39, (.iconst 1, 40, (0, 0, 0, 1, []))), (40, (.ireturn, 41, (0, 0, 1, 0, [])))]), (54, [(41, (.iinc 4 1, 44, (4, 0, 0, 1, []))), (44, (.goto (-34), 47, (10, 0, 0, 0, []))), (47, (.iinc 3 1, 50, (3, 0, 0, 1, []))), (50, (.goto (-48), 53, (2, 0, 0, 0, []))), (53, (.iconst 0, 54, (0, 0, 0, 0, []))), (54, (.ireturn, 55, (0, 0, 1, 0, [])))])]
def cd_X1_findCarriers : bg_K := [(45, [(0, (.iconst 1, 1, (0, 0, 0, 1, []))), (1, (.istore 5, 3, (5, 0, 0, 0, []))), (3, (.iload 5, 5, (5, 0, 0, 0, []))), (5, (.bipush 16, 7, (0, 0, 0, 16, []))), (7, (.if_icmp .ge 53, 10, (60, 0, 0, 0, []))), (10, (.iload 5, 12, (5, 0, 0, 0, []))), (12, (.iload_n 3, 13, (3, 0, 0, 0, []))), (13, (.iload 4, 15, (4, 0, 0, 0, []))), (15, (.invokestatic 28, 18, (18, 3, 0, 723, []))), (18, (.ifCond .eq 36, 21, (54, 0, 0, 0, []))), (21, (.aload_n 0, 22, (0, 0, 0, 0, []))), (22, (.iload_n 1, 23, (1, 0, 0, 0, []))), (23, (.iload 5, 25, (5, 0, 0, 0, []))), (25, (.invokevirtual 36, 28, (19, 2, 1, 736, []))), (28, (.ifCond .eq 26, 31, (54, 0, 0, 0, []))), (31, (.aload_n 0, 32, (0, 0, 0, 0, []))), (32, (.aload_n 0, 33, (0, 0, 0, 0, []))), (33, (.iload_n 1, 34, (1, 0, 0, 0, []))), (34, (.invokestatic 40, 37, (187, 1, 0, 762, []))), (37, (.invokevirtual 46, 40, (26, 1, 1, 766, []))), (40, (.putfield 50, 43, (1, 5, 1, 297, []))), (43, (.aload_n 0, 44, (0, 0, 0, 0, []))), (44, (.iload_n 2, 45, (2, 0, 0, 0, []))), (45, (.iload_n 3, 46, (3, 0, 0, 0, [])))]), (61, [(46, (.invokevirtual 54, 49, (25, 2, 1, 770, []))), (49, (.ifCond .eq 5, 52, (54, 0, 0, 0, []))), (52, (.iconst 1, 53, (0, 0, 0, 1, []))), (53, (.ireturn, 54, (0, 0, 1, 0, []))), (54, (.iinc 5 1, 57, (5, 0, 0, 1, []))), (57, (.goto (-54), 60, (3, 0, 0, 0, []))), (60, (.iconst 0, 61, (0, 0, 0, 0, []))), (61, (.ireturn, 62, (0, 0, 1, 0, [])))])]
def cd_X1_isSetOf : bg_K := [(21, [(0, (.iload_n 0, 1, (0, 0, 0, 0, []))), (1, (.iload_n 1, 2, (1, 0, 0, 0, []))), (2, (.iconst (-1), 3, (0, 0, 0, (-1), []))), (3, (.ixor, 4, (0, 0, 0, 0, []))), (4, (.iand, 5, (0, 0, 0, 0, []))), (5, (.ifCond .ne 15, 8, (20, 0, 0, 0, []))), (8, (.iload_n 0, 9, (0, 0, 0, 0, []))), (9, (.invokestatic 57, 12, (188, 1, 0, 726, []))), (12, (.iload_n 2, 13, (2, 0, 0, 0, []))), (13, (.if_icmp .ne 7, 16, (20, 0, 0, 0, []))), (16, (.iconst 1, 17, (0, 0, 0, 1, []))), (17, (.goto 4, 20, (21, 0, 0, 0, []))), (20, (.iconst 0, 21, (0, 0, 0, 0, []))), (21, (.ireturn, 22, (0, 0, 1, 0, [])))])]
def cd_X1_mixes : bg_K := [(39, [(0, (.aload_n 0, 1, (0, 0, 0, 0, []))), (1, (.getfield 16, 4, (1, 1, 2, 291, []))), (4, (.lconst 0, 5, (0, 0, 0, 0, []))), (5, (.invokestatic 60, 8, (189, 2, 0, 740, []))), (8, (.aload_n 0, 9, (0, 0, 0, 0, []))), (9, (.getfield 20, 12, (1, 2, 2, 293, []))), (12, (.lconst 0, 13, (0, 0, 0, 0, []))), (13, (.invokestatic 60, 16, (189, 2, 0, 740, []))), (16, (.aload_n 0, 17, (0, 0, 0, 0, []))), (17, (.lconst 0, 18, (0, 0, 0, 0, []))), (18, (.putfield 66, 21, (1, 4, 1, 296, []))), (21, (.iconst 0, 22, (0, 0, 0, 0, []))), (22, (.istore_n 3, 23, (3, 0, 0, 0, []))), (23, (.iload_n 3, 24, (3, 0, 0, 0, []))), (24, (.iconst 4, 25, (0, 0, 0, 4, []))), (25, (.if_icmp .ge 86, 28, (111, 0, 0, 0, []))), (28, (.iconst 0, 29, (0, 0, 0, 0, []))), (29, (.istore 4, 31, (4, 0, 0, 0, []))), (31, (.iload 4, 33, (4, 0, 0, 0, []))), (33, (.iconst 4, 34, (0, 0, 0, 4, []))), (34, (.if_icmp .ge 71, 37, (105, 0, 0, 0, []))), (37, (.iload_n 1, 38, (1, 0, 0, 0, []))), (38, (.iload_n 3, 39, (3, 0, 0, 0, []))), (39, (.ishr, 40, (0, 0, 0, 0, [])))]), (75, [(40, (.iconst 1, 41, (0, 0, 0, 1, []))), (41, (.iand, 42, (0, 0, 0, 0, []))), (42, (.ifCond .eq 57, 45, (99, 0, 0, 0, []))), (45, (.iload_n 2, 46, (2, 0, 0, 0, []))), (46, (.iload 4, 48, (4, 0, 0, 0, []))), (48, (.ishr, 49, (0, 0, 0, 0, []))), (49, (.iconst 1, 50, (0, 0, 0, 1, []))), (50, (.iand, 51, (0, 0, 0, 0, []))), (51, (.ifCond .eq 48, 54, (99, 0, 0, 0, []))), (54, (.aload_n 0, 55, (0, 0, 0, 0, []))), (55, (.iload_n 1, 56, (1, 0, 0, 0, []))), (56, (.iload_n 2, 57, (2, 0, 0, 0, []))), (57, (.iload_n 3, 58, (3, 0, 0, 0, []))), (58, (.iload 4, 60, (4, 0, 0, 0, []))), (60, (.invokevirtual 69, 63, (22, 4, 1, 743, []))), (63, (.lstore 5, 65, (5, 0, 0, 0, []))), (65, (.aload_n 0, 66, (0, 0, 0, 0, []))), (66, (.getfield 16, 69, (1, 1, 2, 291, []))), (69, (.iload_n 3, 70, (3, 0, 0, 0, []))), (70, (.dup2, 71, (0, 0, 0, 0, []))), (71, (.laload, 72, (0, 0, 0, 0, []))), (72, (.lload 5, 74, (5, 0, 0, 0, []))), (74, (.ladd, 75, (0, 0, 0, 0, []))), (75, (.lastore, 76, (0, 0, 0, 0, [])))]), (120, [(76, (.aload_n 0, 77, (0, 0, 0, 0, []))), (77, (.getfield 20, 80, (1, 2, 2, 293, []))), (80, (.iload 4, 82, (4, 0, 0, 0, []))), (82, (.dup2, 83, (0, 0, 0, 0, []))), (83, (.laload, 84, (0, 0, 0, 0, []))), (84, (.lload 5, 86, (5, 0, 0, 0, []))), (86, (.ladd, 87, (0, 0, 0, 0, []))), (87, (.lastore, 88, (0, 0, 0, 0, []))), (88, (.aload_n 0, 89, (0, 0, 0, 0, []))), (89, (.dup, 90, (0, 0, 0, 0, []))), (90, (.getfield 66, 93, (1, 4, 1, 296, []))), (93, (.lload 5, 95, (5, 0, 0, 0, []))), (95, (.ladd, 96, (0, 0, 0, 0, []))), (96, (.putfield 66, 99, (1, 4, 1, 296, []))), (99, (.iinc 4 1, 102, (4, 0, 0, 1, []))), (102, (.goto (-71), 105, (31, 0, 0, 0, []))), (105, (.iinc 3 1, 108, (3, 0, 0, 1, []))), (108, (.goto (-85), 111, (23, 0, 0, 0, []))), (111, (.aload_n 0, 112, (0, 0, 0, 0, []))), (112, (.getfield 66, 115, (1, 4, 1, 296, []))), (115, (.lconst 0, 116, (0, 0, 0, 0, []))), (116, (.lcmp, 117, (0, 0, 0, 0, []))), (117, (.ifCond .ne 5, 120, (122, 0, 0, 0, []))), (120, (.iconst 0, 121, (0, 0, 0, 0, [])))]), (162, [(121, (.ireturn, 122, (0, 0, 1, 0, []))), (122, (.aload_n 0, 123, (0, 0, 0, 0, []))), (123, (.getfield 66, 126, (1, 4, 1, 296, []))), (126, (.lconst 0, 127, (0, 0, 0, 0, []))), (127, (.lcmp, 128, (0, 0, 0, 0, []))), (128, (.ifCond .ge 7, 131, (135, 0, 0, 0, []))), (131, (.aload_n 0, 132, (0, 0, 0, 0, []))), (132, (.invokevirtual 73, 135, (20, 0, 1, 755, []))), (135, (.aload_n 0, 136, (0, 0, 0, 0, []))), (136, (.getfield 16, 139, (1, 1, 2, 291, []))), (139, (.iload_n 1, 140, (1, 0, 0, 0, []))), (140, (.invokestatic 76, 143, (21, 2, 0, 759, []))), (143, (.ifCond .eq 18, 146, (161, 0, 0, 0, []))), (146, (.aload_n 0, 147, (0, 0, 0, 0, []))), (147, (.getfield 20, 150, (1, 2, 2, 293, []))), (150, (.iload_n 2, 151, (2, 0, 0, 0, []))), (151, (.invokestatic 76, 154, (21, 2, 0, 759, []))), (154, (.ifCond .eq 7, 157, (161, 0, 0, 0, []))), (157, (.iconst 1, 158, (0, 0, 0, 1, []))), (158, (.goto 4, 161, (162, 0, 0, 0, []))), (161, (.iconst 0, 162, (0, 0, 0, 0, []))), (162, (.ireturn, 163, (0, 0, 1, 0, [])))])]
def cd_X1_turnSigns : bg_K := [(35, [(0, (.aload_n 0, 1, (0, 0, 0, 0, []))), (1, (.aload_n 0, 2, (0, 0, 0, 0, []))), (2, (.getfield 66, 5, (1, 4, 1, 296, []))), (5, (.lneg, 6, (0, 0, 0, 0, []))), (6, (.putfield 66, 9, (1, 4, 1, 296, []))), (9, (.iconst 0, 10, (0, 0, 0, 0, []))), (10, (.istore_n 1, 11, (1, 0, 0, 0, []))), (11, (.iload_n 1, 12, (1, 0, 0, 0, []))), (12, (.iconst 4, 13, (0, 0, 0, 4, []))), (13, (.if_icmp .ge 35, 16, (48, 0, 0, 0, []))), (16, (.aload_n 0, 17, (0, 0, 0, 0, []))), (17, (.getfield 16, 20, (1, 1, 2, 291, []))), (20, (.iload_n 1, 21, (1, 0, 0, 0, []))), (21, (.aload_n 0, 22, (0, 0, 0, 0, []))), (22, (.getfield 16, 25, (1, 1, 2, 291, []))), (25, (.iload_n 1, 26, (1, 0, 0, 0, []))), (26, (.laload, 27, (0, 0, 0, 0, []))), (27, (.lneg, 28, (0, 0, 0, 0, []))), (28, (.lastore, 29, (0, 0, 0, 0, []))), (29, (.aload_n 0, 30, (0, 0, 0, 0, []))), (30, (.getfield 20, 33, (1, 2, 2, 293, []))), (33, (.iload_n 1, 34, (1, 0, 0, 0, []))), (34, (.aload_n 0, 35, (0, 0, 0, 0, []))), (35, (.getfield 20, 38, (1, 2, 2, 293, [])))]), (48, [(38, (.iload_n 1, 39, (1, 0, 0, 0, []))), (39, (.laload, 40, (0, 0, 0, 0, []))), (40, (.lneg, 41, (0, 0, 0, 0, []))), (41, (.lastore, 42, (0, 0, 0, 0, []))), (42, (.iinc 1 1, 45, (1, 0, 0, 1, []))), (45, (.goto (-34), 48, (11, 0, 0, 0, []))), (48, (.return_, 49, (0, 0, 0, 0, [])))])]
def cd_X1_areAllAbove0 : bg_K := [(31, [(0, (.iconst 0, 1, (0, 0, 0, 0, []))), (1, (.istore_n 2, 2, (2, 0, 0, 0, []))), (2, (.iload_n 2, 3, (2, 0, 0, 0, []))), (3, (.iconst 4, 4, (0, 0, 0, 4, []))), (4, (.if_icmp .ge 33, 7, (37, 0, 0, 0, []))), (7, (.iload_n 2, 8, (2, 0, 0, 0, []))), (8, (.aload_n 0, 9, (0, 0, 0, 0, []))), (9, (.arraylength, 10, (0, 0, 0, 0, []))), (10, (.if_icmp .ge 27, 13, (37, 0, 0, 0, []))), (13, (.iload_n 1, 14, (1, 0, 0, 0, []))), (14, (.iload_n 2, 15, (2, 0, 0, 0, []))), (15, (.ishr, 16, (0, 0, 0, 0, []))), (16, (.iconst 1, 17, (0, 0, 0, 1, []))), (17, (.iand, 18, (0, 0, 0, 0, []))), (18, (.ifCond .eq 13, 21, (31, 0, 0, 0, []))), (21, (.aload_n 0, 22, (0, 0, 0, 0, []))), (22, (.iload_n 2, 23, (2, 0, 0, 0, []))), (23, (.laload, 24, (0, 0, 0, 0, []))), (24, (.lconst 0, 25, (0, 0, 0, 0, []))), (25, (.lcmp, 26, (0, 0, 0, 0, []))), (26, (.ifCond .gt 5, 29, (31, 0, 0, 0, []))), (29, (.iconst 0, 30, (0, 0, 0, 0, []))), (30, (.ireturn, 31, (0, 0, 1, 0, []))), (31, (.iinc 2 1, 34, (2, 0, 0, 1, [])))]), (38, [(34, (.goto (-32), 37, (2, 0, 0, 0, []))), (37, (.iconst 1, 38, (0, 0, 0, 1, []))), (38, (.ireturn, 39, (0, 0, 1, 0, [])))])]
def cd_X1_signedMinor : bg_K := [(39, [(0, (.iconst 0, 1, (0, 0, 0, 0, []))), (1, (.istore 5, 3, (5, 0, 0, 0, []))), (3, (.iconst 0, 4, (0, 0, 0, 0, []))), (4, (.istore 6, 6, (6, 0, 0, 0, []))), (6, (.iload 6, 8, (6, 0, 0, 0, []))), (8, (.iconst 4, 9, (0, 0, 0, 4, []))), (9, (.if_icmp .ge 49, 12, (58, 0, 0, 0, []))), (12, (.iload_n 1, 13, (1, 0, 0, 0, []))), (13, (.iload 6, 15, (6, 0, 0, 0, []))), (15, (.ishr, 16, (0, 0, 0, 0, []))), (16, (.iconst 1, 17, (0, 0, 0, 1, []))), (17, (.iand, 18, (0, 0, 0, 0, []))), (18, (.ifCond .eq 34, 21, (52, 0, 0, 0, []))), (21, (.iload 6, 23, (6, 0, 0, 0, []))), (23, (.iload_n 3, 24, (3, 0, 0, 0, []))), (24, (.if_icmp .eq 28, 27, (52, 0, 0, 0, []))), (27, (.iload 5, 29, (5, 0, 0, 0, []))), (29, (.iconst 3, 30, (0, 0, 0, 3, []))), (30, (.if_icmp .ge 22, 33, (52, 0, 0, 0, []))), (33, (.aload_n 0, 34, (0, 0, 0, 0, []))), (34, (.iload 5, 36, (5, 0, 0, 0, []))), (36, (.iload 6, 38, (6, 0, 0, 0, []))), (38, (.iload_n 2, 39, (2, 0, 0, 0, []))), (39, (.iconst 1, 40, (0, 0, 0, 1, [])))]), (75, [(40, (.iload 4, 42, (4, 0, 0, 0, []))), (42, (.ishl, 43, (0, 0, 0, 0, []))), (43, (.iconst (-1), 44, (0, 0, 0, (-1), []))), (44, (.ixor, 45, (0, 0, 0, 0, []))), (45, (.iand, 46, (0, 0, 0, 0, []))), (46, (.invokevirtual 80, 49, (23, 3, 1, 747, []))), (49, (.iinc 5 1, 52, (5, 0, 0, 1, []))), (52, (.iinc 6 1, 55, (6, 0, 0, 1, []))), (55, (.goto (-49), 58, (6, 0, 0, 0, []))), (58, (.iload_n 1, 59, (1, 0, 0, 0, []))), (59, (.iconst 1, 60, (0, 0, 0, 1, []))), (60, (.iload_n 3, 61, (3, 0, 0, 0, []))), (61, (.ishl, 62, (0, 0, 0, 0, []))), (62, (.iconst 1, 63, (0, 0, 0, 1, []))), (63, (.isub, 64, (0, 0, 0, 0, []))), (64, (.iand, 65, (0, 0, 0, 0, []))), (65, (.invokestatic 57, 68, (188, 1, 0, 726, []))), (68, (.iload_n 2, 69, (2, 0, 0, 0, []))), (69, (.iconst 1, 70, (0, 0, 0, 1, []))), (70, (.iload 4, 72, (4, 0, 0, 0, []))), (72, (.ishl, 73, (0, 0, 0, 0, []))), (73, (.iconst 1, 74, (0, 0, 0, 1, []))), (74, (.isub, 75, (0, 0, 0, 0, []))), (75, (.iand, 76, (0, 0, 0, 0, [])))]), (105, [(76, (.invokestatic 57, 79, (188, 1, 0, 726, []))), (79, (.iadd, 80, (0, 0, 0, 0, []))), (80, (.istore 6, 82, (6, 0, 0, 0, []))), (82, (.aload_n 0, 83, (0, 0, 0, 0, []))), (83, (.iload 5, 85, (5, 0, 0, 0, []))), (85, (.invokevirtual 84, 88, (24, 1, 1, 751, []))), (88, (.lstore 7, 90, (7, 0, 0, 0, []))), (90, (.iload 6, 92, (6, 0, 0, 0, []))), (92, (.iconst 1, 93, (0, 0, 0, 1, []))), (93, (.iand, 94, (0, 0, 0, 0, []))), (94, (.ifCond .ne 8, 97, (102, 0, 0, 0, []))), (97, (.lload 7, 99, (7, 0, 0, 0, []))), (99, (.goto 6, 102, (105, 0, 0, 0, []))), (102, (.lload 7, 104, (7, 0, 0, 0, []))), (104, (.lneg, 105, (0, 0, 0, 0, []))), (105, (.lreturn, 106, (0, 0, 0, 0, [])))])]
def cd_X1_fillLine : bg_K := [(39, [(0, (.iconst 0, 1, (0, 0, 0, 0, []))), (1, (.istore 4, 3, (4, 0, 0, 0, []))), (3, (.iconst 0, 4, (0, 0, 0, 0, []))), (4, (.istore 5, 6, (5, 0, 0, 0, []))), (6, (.iload 5, 8, (5, 0, 0, 0, []))), (8, (.iconst 4, 9, (0, 0, 0, 4, []))), (9, (.if_icmp .ge 46, 12, (55, 0, 0, 0, []))), (12, (.iload_n 3, 13, (3, 0, 0, 0, []))), (13, (.iload 5, 15, (5, 0, 0, 0, []))), (15, (.ishr, 16, (0, 0, 0, 0, []))), (16, (.iconst 1, 17, (0, 0, 0, 1, []))), (17, (.iand, 18, (0, 0, 0, 0, []))), (18, (.ifCond .eq 31, 21, (49, 0, 0, 0, []))), (21, (.iload 4, 23, (4, 0, 0, 0, []))), (23, (.iconst 3, 24, (0, 0, 0, 3, []))), (24, (.if_icmp .ge 25, 27, (49, 0, 0, 0, []))), (27, (.aload_n 0, 28, (0, 0, 0, 0, []))), (28, (.getfield 25, 31, (1, 3, 2, 295, []))), (31, (.iload_n 1, 32, (1, 0, 0, 0, []))), (32, (.aaload, 33, (0, 0, 0, 0, []))), (33, (.iload 4, 35, (4, 0, 0, 0, []))), (35, (.aload_n 0, 36, (0, 0, 0, 0, []))), (36, (.getfield 11, 39, (1, 0, 2, 289, []))), (39, (.iload_n 2, 40, (2, 0, 0, 0, [])))]), (55, [(40, (.aaload, 41, (0, 0, 0, 0, []))), (41, (.iload 5, 43, (5, 0, 0, 0, []))), (43, (.iaload, 44, (0, 0, 0, 0, []))), (44, (.i2l, 45, (0, 0, 0, 0, []))), (45, (.lastore, 46, (0, 0, 0, 0, []))), (46, (.iinc 4 1, 49, (4, 0, 0, 1, []))), (49, (.iinc 5 1, 52, (5, 0, 0, 1, []))), (52, (.goto (-46), 55, (6, 0, 0, 0, []))), (55, (.return_, 56, (0, 0, 0, 0, [])))])]
def cd_X1_minorOf : bg_K := [(55, [(0, (.iload_n 1, 1, (1, 0, 0, 0, []))), (1, (.tableswitch 74 0 2 #[27, 29, 38], 28, (75, 0, 0, 0, [(0, 28), (1, 30), (2, 39)]))), (28, (.lconst 1, 29, (0, 0, 0, 1, []))), (29, (.lreturn, 30, (0, 0, 0, 0, []))), (30, (.aload_n 0, 31, (0, 0, 0, 0, []))), (31, (.getfield 25, 34, (1, 3, 2, 295, []))), (34, (.iconst 0, 35, (0, 0, 0, 0, []))), (35, (.aaload, 36, (0, 0, 0, 0, []))), (36, (.iconst 0, 37, (0, 0, 0, 0, []))), (37, (.laload, 38, (0, 0, 0, 0, []))), (38, (.lreturn, 39, (0, 0, 0, 0, []))), (39, (.aload_n 0, 40, (0, 0, 0, 0, []))), (40, (.getfield 25, 43, (1, 3, 2, 295, []))), (43, (.iconst 0, 44, (0, 0, 0, 0, []))), (44, (.aaload, 45, (0, 0, 0, 0, []))), (45, (.iconst 0, 46, (0, 0, 0, 0, []))), (46, (.laload, 47, (0, 0, 0, 0, []))), (47, (.aload_n 0, 48, (0, 0, 0, 0, []))), (48, (.getfield 25, 51, (1, 3, 2, 295, []))), (51, (.iconst 1, 52, (0, 0, 0, 1, []))), (52, (.aaload, 53, (0, 0, 0, 0, []))), (53, (.iconst 1, 54, (0, 0, 0, 1, []))), (54, (.laload, 55, (0, 0, 0, 0, []))), (55, (.lmul, 56, (0, 0, 0, 0, [])))]), (87, [(56, (.aload_n 0, 57, (0, 0, 0, 0, []))), (57, (.getfield 25, 60, (1, 3, 2, 295, []))), (60, (.iconst 0, 61, (0, 0, 0, 0, []))), (61, (.aaload, 62, (0, 0, 0, 0, []))), (62, (.iconst 1, 63, (0, 0, 0, 1, []))), (63, (.laload, 64, (0, 0, 0, 0, []))), (64, (.aload_n 0, 65, (0, 0, 0, 0, []))), (65, (.getfield 25, 68, (1, 3, 2, 295, []))), (68, (.iconst 1, 69, (0, 0, 0, 1, []))), (69, (.aaload, 70, (0, 0, 0, 0, []))), (70, (.iconst 0, 71, (0, 0, 0, 0, []))), (71, (.laload, 72, (0, 0, 0, 0, []))), (72, (.lmul, 73, (0, 0, 0, 0, []))), (73, (.lsub, 74, (0, 0, 0, 0, []))), (74, (.lreturn, 75, (0, 0, 0, 0, []))), (75, (.aload_n 0, 76, (0, 0, 0, 0, []))), (76, (.getfield 25, 79, (1, 3, 2, 295, []))), (79, (.iconst 0, 80, (0, 0, 0, 0, []))), (80, (.aaload, 81, (0, 0, 0, 0, []))), (81, (.iconst 0, 82, (0, 0, 0, 0, []))), (82, (.laload, 83, (0, 0, 0, 0, []))), (83, (.aload_n 0, 84, (0, 0, 0, 0, []))), (84, (.getfield 25, 87, (1, 3, 2, 295, []))), (87, (.iconst 1, 88, (0, 0, 0, 1, [])))]), (117, [(88, (.aaload, 89, (0, 0, 0, 0, []))), (89, (.iconst 1, 90, (0, 0, 0, 1, []))), (90, (.laload, 91, (0, 0, 0, 0, []))), (91, (.aload_n 0, 92, (0, 0, 0, 0, []))), (92, (.getfield 25, 95, (1, 3, 2, 295, []))), (95, (.iconst 2, 96, (0, 0, 0, 2, []))), (96, (.aaload, 97, (0, 0, 0, 0, []))), (97, (.iconst 2, 98, (0, 0, 0, 2, []))), (98, (.laload, 99, (0, 0, 0, 0, []))), (99, (.lmul, 100, (0, 0, 0, 0, []))), (100, (.aload_n 0, 101, (0, 0, 0, 0, []))), (101, (.getfield 25, 104, (1, 3, 2, 295, []))), (104, (.iconst 1, 105, (0, 0, 0, 1, []))), (105, (.aaload, 106, (0, 0, 0, 0, []))), (106, (.iconst 2, 107, (0, 0, 0, 2, []))), (107, (.laload, 108, (0, 0, 0, 0, []))), (108, (.aload_n 0, 109, (0, 0, 0, 0, []))), (109, (.getfield 25, 112, (1, 3, 2, 295, []))), (112, (.iconst 2, 113, (0, 0, 0, 2, []))), (113, (.aaload, 114, (0, 0, 0, 0, []))), (114, (.iconst 1, 115, (0, 0, 0, 1, []))), (115, (.laload, 116, (0, 0, 0, 0, []))), (116, (.lmul, 117, (0, 0, 0, 0, []))), (117, (.lsub, 118, (0, 0, 0, 0, [])))]), (149, [(118, (.lmul, 119, (0, 0, 0, 0, []))), (119, (.aload_n 0, 120, (0, 0, 0, 0, []))), (120, (.getfield 25, 123, (1, 3, 2, 295, []))), (123, (.iconst 0, 124, (0, 0, 0, 0, []))), (124, (.aaload, 125, (0, 0, 0, 0, []))), (125, (.iconst 1, 126, (0, 0, 0, 1, []))), (126, (.laload, 127, (0, 0, 0, 0, []))), (127, (.aload_n 0, 128, (0, 0, 0, 0, []))), (128, (.getfield 25, 131, (1, 3, 2, 295, []))), (131, (.iconst 1, 132, (0, 0, 0, 1, []))), (132, (.aaload, 133, (0, 0, 0, 0, []))), (133, (.iconst 0, 134, (0, 0, 0, 0, []))), (134, (.laload, 135, (0, 0, 0, 0, []))), (135, (.aload_n 0, 136, (0, 0, 0, 0, []))), (136, (.getfield 25, 139, (1, 3, 2, 295, []))), (139, (.iconst 2, 140, (0, 0, 0, 2, []))), (140, (.aaload, 141, (0, 0, 0, 0, []))), (141, (.iconst 2, 142, (0, 0, 0, 2, []))), (142, (.laload, 143, (0, 0, 0, 0, []))), (143, (.lmul, 144, (0, 0, 0, 0, []))), (144, (.aload_n 0, 145, (0, 0, 0, 0, []))), (145, (.getfield 25, 148, (1, 3, 2, 295, []))), (148, (.iconst 1, 149, (0, 0, 0, 1, []))), (149, (.aaload, 150, (0, 0, 0, 0, [])))]), (179, [(150, (.iconst 2, 151, (0, 0, 0, 2, []))), (151, (.laload, 152, (0, 0, 0, 0, []))), (152, (.aload_n 0, 153, (0, 0, 0, 0, []))), (153, (.getfield 25, 156, (1, 3, 2, 295, []))), (156, (.iconst 2, 157, (0, 0, 0, 2, []))), (157, (.aaload, 158, (0, 0, 0, 0, []))), (158, (.iconst 0, 159, (0, 0, 0, 0, []))), (159, (.laload, 160, (0, 0, 0, 0, []))), (160, (.lmul, 161, (0, 0, 0, 0, []))), (161, (.lsub, 162, (0, 0, 0, 0, []))), (162, (.lmul, 163, (0, 0, 0, 0, []))), (163, (.lsub, 164, (0, 0, 0, 0, []))), (164, (.aload_n 0, 165, (0, 0, 0, 0, []))), (165, (.getfield 25, 168, (1, 3, 2, 295, []))), (168, (.iconst 0, 169, (0, 0, 0, 0, []))), (169, (.aaload, 170, (0, 0, 0, 0, []))), (170, (.iconst 2, 171, (0, 0, 0, 2, []))), (171, (.laload, 172, (0, 0, 0, 0, []))), (172, (.aload_n 0, 173, (0, 0, 0, 0, []))), (173, (.getfield 25, 176, (1, 3, 2, 295, []))), (176, (.iconst 1, 177, (0, 0, 0, 1, []))), (177, (.aaload, 178, (0, 0, 0, 0, []))), (178, (.iconst 0, 179, (0, 0, 0, 0, []))), (179, (.laload, 180, (0, 0, 0, 0, [])))]), (209, [(180, (.aload_n 0, 181, (0, 0, 0, 0, []))), (181, (.getfield 25, 184, (1, 3, 2, 295, []))), (184, (.iconst 2, 185, (0, 0, 0, 2, []))), (185, (.aaload, 186, (0, 0, 0, 0, []))), (186, (.iconst 1, 187, (0, 0, 0, 1, []))), (187, (.laload, 188, (0, 0, 0, 0, []))), (188, (.lmul, 189, (0, 0, 0, 0, []))), (189, (.aload_n 0, 190, (0, 0, 0, 0, []))), (190, (.getfield 25, 193, (1, 3, 2, 295, []))), (193, (.iconst 1, 194, (0, 0, 0, 1, []))), (194, (.aaload, 195, (0, 0, 0, 0, []))), (195, (.iconst 1, 196, (0, 0, 0, 1, []))), (196, (.laload, 197, (0, 0, 0, 0, []))), (197, (.aload_n 0, 198, (0, 0, 0, 0, []))), (198, (.getfield 25, 201, (1, 3, 2, 295, []))), (201, (.iconst 2, 202, (0, 0, 0, 2, []))), (202, (.aaload, 203, (0, 0, 0, 0, []))), (203, (.iconst 0, 204, (0, 0, 0, 0, []))), (204, (.laload, 205, (0, 0, 0, 0, []))), (205, (.lmul, 206, (0, 0, 0, 0, []))), (206, (.lsub, 207, (0, 0, 0, 0, []))), (207, (.lmul, 208, (0, 0, 0, 0, []))), (208, (.ladd, 209, (0, 0, 0, 0, []))), (209, (.lreturn, 210, (0, 0, 0, 0, [])))])]
def cd_X1_noneDoesBetter : bg_K := [(33, [(0, (.iconst 0, 1, (0, 0, 0, 0, []))), (1, (.istore_n 3, 2, (3, 0, 0, 0, []))), (2, (.iload_n 3, 3, (3, 0, 0, 0, []))), (3, (.iconst 4, 4, (0, 0, 0, 4, []))), (4, (.if_icmp .ge 55, 7, (59, 0, 0, 0, []))), (7, (.iload_n 1, 8, (1, 0, 0, 0, []))), (8, (.iload_n 3, 9, (3, 0, 0, 0, []))), (9, (.ishr, 10, (0, 0, 0, 0, []))), (10, (.iconst 1, 11, (0, 0, 0, 1, []))), (11, (.iand, 12, (0, 0, 0, 0, []))), (12, (.ifCond .eq 18, 15, (30, 0, 0, 0, []))), (15, (.aload_n 0, 16, (0, 0, 0, 0, []))), (16, (.iload_n 3, 17, (3, 0, 0, 0, []))), (17, (.invokevirtual 46, 20, (26, 1, 1, 766, []))), (20, (.aload_n 0, 21, (0, 0, 0, 0, []))), (21, (.getfield 50, 24, (1, 5, 1, 297, []))), (24, (.lcmp, 25, (0, 0, 0, 0, []))), (25, (.ifCond .ge 5, 28, (30, 0, 0, 0, []))), (28, (.iconst 0, 29, (0, 0, 0, 0, []))), (29, (.ireturn, 30, (0, 0, 1, 0, []))), (30, (.iload_n 2, 31, (2, 0, 0, 0, []))), (31, (.iload_n 3, 32, (3, 0, 0, 0, []))), (32, (.ishr, 33, (0, 0, 0, 0, []))), (33, (.iconst 1, 34, (0, 0, 0, 1, [])))]), (60, [(34, (.iand, 35, (0, 0, 0, 0, []))), (35, (.ifCond .eq 18, 38, (53, 0, 0, 0, []))), (38, (.aload_n 0, 39, (0, 0, 0, 0, []))), (39, (.iload_n 3, 40, (3, 0, 0, 0, []))), (40, (.invokevirtual 87, 43, (27, 1, 1, 774, []))), (43, (.aload_n 0, 44, (0, 0, 0, 0, []))), (44, (.getfield 50, 47, (1, 5, 1, 297, []))), (47, (.lcmp, 48, (0, 0, 0, 0, []))), (48, (.ifCond .le 5, 51, (53, 0, 0, 0, []))), (51, (.iconst 0, 52, (0, 0, 0, 0, []))), (52, (.ireturn, 53, (0, 0, 1, 0, []))), (53, (.iinc 3 1, 56, (3, 0, 0, 1, []))), (56, (.goto (-54), 59, (2, 0, 0, 0, []))), (59, (.iconst 1, 60, (0, 0, 0, 1, []))), (60, (.ireturn, 61, (0, 0, 1, 0, [])))])]
def cd_X1_meanBy : bg_K := [(37, [(0, (.lconst 0, 1, (0, 0, 0, 0, []))), (1, (.lstore_n 2, 2, (2, 0, 0, 0, []))), (2, (.iconst 0, 3, (0, 0, 0, 0, []))), (3, (.istore 4, 5, (4, 0, 0, 0, []))), (5, (.iload 4, 7, (4, 0, 0, 0, []))), (7, (.iconst 4, 8, (0, 0, 0, 4, []))), (8, (.if_icmp .ge 39, 11, (47, 0, 0, 0, []))), (11, (.iload_n 1, 12, (1, 0, 0, 0, []))), (12, (.ifCond .lt 35, 15, (47, 0, 0, 0, []))), (15, (.iload_n 1, 16, (1, 0, 0, 0, []))), (16, (.iconst 4, 17, (0, 0, 0, 4, []))), (17, (.if_icmp .ge 30, 20, (47, 0, 0, 0, []))), (20, (.lload_n 2, 21, (2, 0, 0, 0, []))), (21, (.aload_n 0, 22, (0, 0, 0, 0, []))), (22, (.getfield 20, 25, (1, 2, 2, 293, []))), (25, (.iload 4, 27, (4, 0, 0, 0, []))), (27, (.laload, 28, (0, 0, 0, 0, []))), (28, (.aload_n 0, 29, (0, 0, 0, 0, []))), (29, (.getfield 11, 32, (1, 0, 2, 289, []))), (32, (.iload_n 1, 33, (1, 0, 0, 0, []))), (33, (.aaload, 34, (0, 0, 0, 0, []))), (34, (.iload 4, 36, (4, 0, 0, 0, []))), (36, (.iaload, 37, (0, 0, 0, 0, []))), (37, (.i2l, 38, (0, 0, 0, 0, [])))]), (48, [(38, (.lmul, 39, (0, 0, 0, 0, []))), (39, (.ladd, 40, (0, 0, 0, 0, []))), (40, (.lstore_n 2, 41, (2, 0, 0, 0, []))), (41, (.iinc 4 1, 44, (4, 0, 0, 1, []))), (44, (.goto (-39), 47, (5, 0, 0, 0, []))), (47, (.lload_n 2, 48, (2, 0, 0, 0, []))), (48, (.lreturn, 49, (0, 0, 0, 0, [])))])]
def cd_X1_meanOf : bg_K := [(37, [(0, (.lconst 0, 1, (0, 0, 0, 0, []))), (1, (.lstore_n 2, 2, (2, 0, 0, 0, []))), (2, (.iconst 0, 3, (0, 0, 0, 0, []))), (3, (.istore 4, 5, (4, 0, 0, 0, []))), (5, (.iload 4, 7, (4, 0, 0, 0, []))), (7, (.iconst 4, 8, (0, 0, 0, 4, []))), (8, (.if_icmp .ge 39, 11, (47, 0, 0, 0, []))), (11, (.iload_n 1, 12, (1, 0, 0, 0, []))), (12, (.ifCond .lt 35, 15, (47, 0, 0, 0, []))), (15, (.iload_n 1, 16, (1, 0, 0, 0, []))), (16, (.iconst 4, 17, (0, 0, 0, 4, []))), (17, (.if_icmp .ge 30, 20, (47, 0, 0, 0, []))), (20, (.lload_n 2, 21, (2, 0, 0, 0, []))), (21, (.aload_n 0, 22, (0, 0, 0, 0, []))), (22, (.getfield 16, 25, (1, 1, 2, 291, []))), (25, (.iload 4, 27, (4, 0, 0, 0, []))), (27, (.laload, 28, (0, 0, 0, 0, []))), (28, (.aload_n 0, 29, (0, 0, 0, 0, []))), (29, (.getfield 11, 32, (1, 0, 2, 289, []))), (32, (.iload 4, 34, (4, 0, 0, 0, []))), (34, (.aaload, 35, (0, 0, 0, 0, []))), (35, (.iload_n 1, 36, (1, 0, 0, 0, []))), (36, (.iaload, 37, (0, 0, 0, 0, []))), (37, (.i2l, 38, (0, 0, 0, 0, [])))]), (48, [(38, (.lmul, 39, (0, 0, 0, 0, []))), (39, (.ladd, 40, (0, 0, 0, 0, []))), (40, (.lstore_n 2, 41, (2, 0, 0, 0, []))), (41, (.iinc 4 1, 44, (4, 0, 0, 1, []))), (44, (.goto (-39), 47, (5, 0, 0, 0, []))), (47, (.lload_n 2, 48, (2, 0, 0, 0, []))), (48, (.lreturn, 49, (0, 0, 0, 0, [])))])]
def cd_X1_lowest : bg_K := [(45, [(0, (.lload_n 1, 1, (1, 0, 0, 0, []))), (1, (.lstore 4, 3, (4, 0, 0, 0, []))), (3, (.aload_n 0, 4, (0, 0, 0, 0, []))), (4, (.getfield 66, 7, (1, 4, 1, 296, []))), (7, (.lstore 6, 9, (6, 0, 0, 0, []))), (9, (.iconst 0, 10, (0, 0, 0, 0, []))), (10, (.istore 8, 12, (8, 0, 0, 0, []))), (12, (.iload 8, 14, (8, 0, 0, 0, []))), (14, (.sipush 200, 17, (0, 0, 0, 200, []))), (17, (.if_icmp .ge 31, 20, (48, 0, 0, 0, []))), (20, (.lload 6, 22, (6, 0, 0, 0, []))), (22, (.lconst 0, 23, (0, 0, 0, 0, []))), (23, (.lcmp, 24, (0, 0, 0, 0, []))), (24, (.ifCond .eq 24, 27, (48, 0, 0, 0, []))), (27, (.lload 4, 29, (4, 0, 0, 0, []))), (29, (.lload 6, 31, (6, 0, 0, 0, []))), (31, (.lrem, 32, (0, 0, 0, 0, []))), (32, (.lstore 9, 34, (9, 0, 0, 0, []))), (34, (.lload 6, 36, (6, 0, 0, 0, []))), (36, (.lstore 4, 38, (4, 0, 0, 0, []))), (38, (.lload 9, 40, (9, 0, 0, 0, []))), (40, (.lstore 6, 42, (6, 0, 0, 0, []))), (42, (.iinc 8 1, 45, (8, 0, 0, 1, []))), (45, (.goto (-33), 48, (12, 0, 0, 0, [])))]), (76, [(48, (.lload 4, 50, (4, 0, 0, 0, []))), (50, (.lconst 0, 51, (0, 0, 0, 0, []))), (51, (.lcmp, 52, (0, 0, 0, 0, []))), (52, (.ifCond .ne 6, 55, (58, 0, 0, 0, []))), (55, (.iload_n 3, 56, (3, 0, 0, 0, []))), (56, (.i2l, 57, (0, 0, 0, 0, []))), (57, (.lreturn, 58, (0, 0, 0, 0, []))), (58, (.iload_n 3, 59, (3, 0, 0, 0, []))), (59, (.ifCond .ne 10, 62, (69, 0, 0, 0, []))), (62, (.lload_n 1, 63, (1, 0, 0, 0, []))), (63, (.lload 4, 65, (4, 0, 0, 0, []))), (65, (.ldiv, 66, (0, 0, 0, 0, []))), (66, (.goto 10, 69, (76, 0, 0, 0, []))), (69, (.aload_n 0, 70, (0, 0, 0, 0, []))), (70, (.getfield 66, 73, (1, 4, 1, 296, []))), (73, (.lload 4, 75, (4, 0, 0, 0, []))), (75, (.ldiv, 76, (0, 0, 0, 0, []))), (76, (.lreturn, 77, (0, 0, 0, 0, [])))])]
def cd_X1_worthOfBeingTold : bg_K := [(37, [(0, (.iconst 0, 1, (0, 0, 0, 0, []))), (1, (.istore_n 2, 2, (2, 0, 0, 0, []))), (2, (.iconst 0, 3, (0, 0, 0, 0, []))), (3, (.istore_n 3, 4, (3, 0, 0, 0, []))), (4, (.iconst 0, 5, (0, 0, 0, 0, []))), (5, (.istore 4, 7, (4, 0, 0, 0, []))), (7, (.iload 4, 9, (4, 0, 0, 0, []))), (9, (.iconst 4, 10, (0, 0, 0, 4, []))), (10, (.if_icmp .ge 98, 13, (108, 0, 0, 0, []))), (13, (.iload 4, 15, (4, 0, 0, 0, []))), (15, (.aload_n 1, 16, (1, 0, 0, 0, []))), (16, (.arraylength, 17, (0, 0, 0, 0, []))), (17, (.if_icmp .ge 91, 20, (108, 0, 0, 0, []))), (20, (.iconst 0, 21, (0, 0, 0, 0, []))), (21, (.istore 5, 23, (5, 0, 0, 0, []))), (23, (.iconst 0, 24, (0, 0, 0, 0, []))), (24, (.istore 6, 26, (6, 0, 0, 0, []))), (26, (.iconst 0, 27, (0, 0, 0, 0, []))), (27, (.istore 7, 29, (7, 0, 0, 0, []))), (29, (.iload 7, 31, (7, 0, 0, 0, []))), (31, (.iconst 4, 32, (0, 0, 0, 4, []))), (32, (.if_icmp .ge 53, 35, (85, 0, 0, 0, []))), (35, (.iload 7, 37, (7, 0, 0, 0, []))), (37, (.aload_n 1, 38, (1, 0, 0, 0, [])))]), (77, [(38, (.arraylength, 39, (0, 0, 0, 0, []))), (39, (.if_icmp .ge 46, 42, (85, 0, 0, 0, []))), (42, (.iload 5, 44, (5, 0, 0, 0, []))), (44, (.aload_n 0, 45, (0, 0, 0, 0, []))), (45, (.getfield 11, 48, (1, 0, 2, 289, []))), (48, (.iload 4, 50, (4, 0, 0, 0, []))), (50, (.aaload, 51, (0, 0, 0, 0, []))), (51, (.iload 7, 53, (7, 0, 0, 0, []))), (53, (.iaload, 54, (0, 0, 0, 0, []))), (54, (.invokestatic 90, 57, (0, 2, 2, 799, []))), (57, (.istore 5, 59, (5, 0, 0, 0, []))), (59, (.iload 6, 61, (6, 0, 0, 0, []))), (61, (.aload_n 1, 62, (1, 0, 0, 0, []))), (62, (.iload 7, 64, (7, 0, 0, 0, []))), (64, (.iaload, 65, (0, 0, 0, 0, []))), (65, (.aload_n 0, 66, (0, 0, 0, 0, []))), (66, (.getfield 11, 69, (1, 0, 2, 289, []))), (69, (.iload 7, 71, (7, 0, 0, 0, []))), (71, (.aaload, 72, (0, 0, 0, 0, []))), (72, (.iload 4, 74, (4, 0, 0, 0, []))), (74, (.iaload, 75, (0, 0, 0, 0, []))), (75, (.imul, 76, (0, 0, 0, 0, []))), (76, (.iadd, 77, (0, 0, 0, 0, []))), (77, (.istore 6, 79, (6, 0, 0, 0, [])))]), (111, [(79, (.iinc 7 1, 82, (7, 0, 0, 1, []))), (82, (.goto (-53), 85, (29, 0, 0, 0, []))), (85, (.iload_n 2, 86, (2, 0, 0, 0, []))), (86, (.aload_n 1, 87, (1, 0, 0, 0, []))), (87, (.iload 4, 89, (4, 0, 0, 0, []))), (89, (.iaload, 90, (0, 0, 0, 0, []))), (90, (.iload 5, 92, (5, 0, 0, 0, []))), (92, (.imul, 93, (0, 0, 0, 0, []))), (93, (.iadd, 94, (0, 0, 0, 0, []))), (94, (.istore_n 2, 95, (2, 0, 0, 0, []))), (95, (.iload_n 3, 96, (3, 0, 0, 0, []))), (96, (.iload 6, 98, (6, 0, 0, 0, []))), (98, (.invokestatic 90, 101, (0, 2, 2, 799, []))), (101, (.istore_n 3, 102, (3, 0, 0, 0, []))), (102, (.iinc 4 1, 105, (4, 0, 0, 1, []))), (105, (.goto (-98), 108, (7, 0, 0, 0, []))), (108, (.iload_n 2, 109, (2, 0, 0, 0, []))), (109, (.iload_n 3, 110, (3, 0, 0, 0, []))), (110, (.isub, 111, (0, 0, 0, 0, []))), (111, (.ireturn, 112, (0, 0, 0, 0, [])))])]
def cd_X2_clear : bg_K := [(42, [(0, (.iconst 0, 1, (0, 0, 0, 0, []))), (1, (.istore_n 1, 2, (1, 0, 0, 0, []))), (2, (.iload_n 1, 3, (1, 0, 0, 0, []))), (3, (.bipush 12, 5, (0, 0, 0, 12, []))), (5, (.if_icmp .ge 19, 8, (24, 0, 0, 0, []))), (8, (.aload_n 0, 9, (0, 0, 0, 0, []))), (9, (.getfield 11, 12, (2, 0, 2, 126, []))), (12, (.iload_n 1, 13, (1, 0, 0, 0, []))), (13, (.aaload, 14, (0, 0, 0, 0, []))), (14, (.iconst 0, 15, (0, 0, 0, 0, []))), (15, (.invokestatic 26, 18, (190, 2, 0, 123, []))), (18, (.iinc 1 1, 21, (1, 0, 0, 1, []))), (21, (.goto (-19), 24, (2, 0, 0, 0, []))), (24, (.aload_n 0, 25, (0, 0, 0, 0, []))), (25, (.getfield 16, 28, (2, 1, 2, 131, []))), (28, (.iconst 0, 29, (0, 0, 0, 0, []))), (29, (.invokestatic 26, 32, (190, 2, 0, 123, []))), (32, (.aload_n 0, 33, (0, 0, 0, 0, []))), (33, (.getfield 20, 36, (2, 2, 2, 132, []))), (36, (.iconst 0, 37, (0, 0, 0, 0, []))), (37, (.invokestatic 26, 40, (190, 2, 0, 123, []))), (40, (.aload_n 0, 41, (0, 0, 0, 0, []))), (41, (.iconst 0, 42, (0, 0, 0, 0, []))), (42, (.putfield 32, 45, (2, 3, 0, 134, [])))]), (66, [(45, (.aload_n 0, 46, (0, 0, 0, 0, []))), (46, (.iconst 0, 47, (0, 0, 0, 0, []))), (47, (.putfield 36, 50, (2, 4, 0, 138, []))), (50, (.aload_n 0, 51, (0, 0, 0, 0, []))), (51, (.iconst 0, 52, (0, 0, 0, 0, []))), (52, (.putfield 39, 55, (2, 5, 0, 141, []))), (55, (.aload_n 0, 56, (0, 0, 0, 0, []))), (56, (.bipush 100, 58, (0, 0, 0, 100, []))), (58, (.putfield 42, 61, (2, 6, 0, 144, []))), (61, (.aload_n 0, 62, (0, 0, 0, 0, []))), (62, (.iconst 0, 63, (0, 0, 0, 0, []))), (63, (.putfield 45, 66, (2, 7, 0, 147, []))), (66, (.return_, 67, (0, 0, 0, 0, [])))])]
def cd_X2_copy : bg_K := [(39, [(0, (.iconst 0, 1, (0, 0, 0, 0, []))), (1, (.istore_n 2, 2, (2, 0, 0, 0, []))), (2, (.iload_n 2, 3, (2, 0, 0, 0, []))), (3, (.bipush 12, 5, (0, 0, 0, 12, []))), (5, (.if_icmp .ge 28, 8, (33, 0, 0, 0, []))), (8, (.aload_n 1, 9, (1, 0, 0, 0, []))), (9, (.getfield 11, 12, (2, 0, 2, 126, []))), (12, (.iload_n 2, 13, (2, 0, 0, 0, []))), (13, (.aaload, 14, (0, 0, 0, 0, []))), (14, (.iconst 0, 15, (0, 0, 0, 0, []))), (15, (.aload_n 0, 16, (0, 0, 0, 0, []))), (16, (.getfield 11, 19, (2, 0, 2, 126, []))), (19, (.iload_n 2, 20, (2, 0, 0, 0, []))), (20, (.aaload, 21, (0, 0, 0, 0, []))), (21, (.iconst 0, 22, (0, 0, 0, 0, []))), (22, (.bipush 7, 24, (0, 0, 0, 7, []))), (24, (.invokestatic 48, 27, (0, 5, 1, 480, []))), (27, (.iinc 2 1, 30, (2, 0, 0, 1, []))), (30, (.goto (-28), 33, (2, 0, 0, 0, []))), (33, (.aload_n 1, 34, (1, 0, 0, 0, []))), (34, (.getfield 16, 37, (2, 1, 2, 131, []))), (37, (.iconst 0, 38, (0, 0, 0, 0, []))), (38, (.aload_n 0, 39, (0, 0, 0, 0, []))), (39, (.getfield 16, 42, (2, 1, 2, 131, [])))]), (85, [(42, (.iconst 0, 43, (0, 0, 0, 0, []))), (43, (.iconst 3, 44, (0, 0, 0, 3, []))), (44, (.invokestatic 48, 47, (0, 5, 1, 480, []))), (47, (.aload_n 1, 48, (1, 0, 0, 0, []))), (48, (.getfield 20, 51, (2, 2, 2, 132, []))), (51, (.iconst 0, 52, (0, 0, 0, 0, []))), (52, (.aload_n 0, 53, (0, 0, 0, 0, []))), (53, (.getfield 20, 56, (2, 2, 2, 132, []))), (56, (.iconst 0, 57, (0, 0, 0, 0, []))), (57, (.iconst 3, 58, (0, 0, 0, 3, []))), (58, (.invokestatic 48, 61, (0, 5, 1, 480, []))), (61, (.aload_n 0, 62, (0, 0, 0, 0, []))), (62, (.aload_n 1, 63, (1, 0, 0, 0, []))), (63, (.getfield 32, 66, (2, 3, 0, 134, []))), (66, (.putfield 32, 69, (2, 3, 0, 134, []))), (69, (.aload_n 0, 70, (0, 0, 0, 0, []))), (70, (.aload_n 1, 71, (1, 0, 0, 0, []))), (71, (.getfield 36, 74, (2, 4, 0, 138, []))), (74, (.putfield 36, 77, (2, 4, 0, 138, []))), (77, (.aload_n 0, 78, (0, 0, 0, 0, []))), (78, (.aload_n 1, 79, (1, 0, 0, 0, []))), (79, (.getfield 39, 82, (2, 5, 0, 141, []))), (82, (.putfield 39, 85, (2, 5, 0, 141, []))), (85, (.aload_n 0, 86, (0, 0, 0, 0, [])))]), (101, [(86, (.aload_n 1, 87, (1, 0, 0, 0, []))), (87, (.getfield 42, 90, (2, 6, 0, 144, []))), (90, (.putfield 42, 93, (2, 6, 0, 144, []))), (93, (.aload_n 0, 94, (0, 0, 0, 0, []))), (94, (.aload_n 1, 95, (1, 0, 0, 0, []))), (95, (.getfield 45, 98, (2, 7, 0, 147, []))), (98, (.putfield 45, 101, (2, 7, 0, 147, []))), (101, (.return_, 102, (0, 0, 0, 0, [])))])]
def cd_X2_takes : bg_K := [(62, [(0, (.aload_n 2, 1, (2, 0, 0, 0, []))), (1, (.arraylength, 2, (0, 0, 0, 0, []))), (2, (.bipush 7, 4, (0, 0, 0, 7, []))), (4, (.if_icmp .ge 5, 7, (9, 0, 0, 0, []))), (7, (.iconst 0, 8, (0, 0, 0, 0, []))), (8, (.ireturn, 9, (0, 0, 1, 0, []))), (9, (.iload_n 1, 10, (1, 0, 0, 0, []))), (10, (.lookupswitch 73 #[(112, 26), (116, 46)], 36, (83, 0, 0, 0, [(112, 36), (116, 56)]))), (36, (.iload_n 3, 37, (3, 0, 0, 0, []))), (37, (.bipush 7, 39, (0, 0, 0, 7, []))), (39, (.if_icmp .ne 15, 42, (54, 0, 0, 0, []))), (42, (.aload_n 0, 43, (0, 0, 0, 0, []))), (43, (.aload_n 2, 44, (2, 0, 0, 0, []))), (44, (.invokevirtual 54, 47, (34, 1, 2, 454, []))), (47, (.ifCond .eq 7, 50, (54, 0, 0, 0, []))), (50, (.iconst 1, 51, (0, 0, 0, 1, []))), (51, (.goto 4, 54, (55, 0, 0, 0, []))), (54, (.iconst 0, 55, (0, 0, 0, 0, []))), (55, (.ireturn, 56, (0, 0, 1, 0, []))), (56, (.iload_n 3, 57, (3, 0, 0, 0, []))), (57, (.iconst 3, 58, (0, 0, 0, 3, []))), (58, (.if_icmp .ne 23, 61, (81, 0, 0, 0, []))), (61, (.aload_n 0, 62, (0, 0, 0, 0, []))), (62, (.aload_n 2, 63, (2, 0, 0, 0, [])))]), (96, [(63, (.iconst 0, 64, (0, 0, 0, 0, []))), (64, (.iaload, 65, (0, 0, 0, 0, []))), (65, (.aload_n 2, 66, (2, 0, 0, 0, []))), (66, (.iconst 1, 67, (0, 0, 0, 1, []))), (67, (.iaload, 68, (0, 0, 0, 0, []))), (68, (.aload_n 2, 69, (2, 0, 0, 0, []))), (69, (.iconst 2, 70, (0, 0, 0, 2, []))), (70, (.iaload, 71, (0, 0, 0, 0, []))), (71, (.invokevirtual 58, 74, (35, 3, 2, 460, []))), (74, (.ifCond .eq 7, 77, (81, 0, 0, 0, []))), (77, (.iconst 1, 78, (0, 0, 0, 1, []))), (78, (.goto 4, 81, (82, 0, 0, 0, []))), (81, (.iconst 0, 82, (0, 0, 0, 0, []))), (82, (.ireturn, 83, (0, 0, 1, 0, []))), (83, (.iload_n 3, 84, (3, 0, 0, 0, []))), (84, (.iconst 1, 85, (0, 0, 0, 1, []))), (85, (.if_icmp .ne 18, 88, (103, 0, 0, 0, []))), (88, (.aload_n 0, 89, (0, 0, 0, 0, []))), (89, (.iload_n 1, 90, (1, 0, 0, 0, []))), (90, (.aload_n 2, 91, (2, 0, 0, 0, []))), (91, (.iconst 0, 92, (0, 0, 0, 0, []))), (92, (.iaload, 93, (0, 0, 0, 0, []))), (93, (.invokevirtual 62, 96, (33, 2, 2, 468, []))), (96, (.ifCond .eq 7, 99, (103, 0, 0, 0, [])))]), (104, [(99, (.iconst 1, 100, (0, 0, 0, 1, []))), (100, (.goto 4, 103, (104, 0, 0, 0, []))), (103, (.iconst 0, 104, (0, 0, 0, 0, []))), (104, (.ireturn, 105, (0, 0, 1, 0, [])))])]
def cd_X2_takesNumber : bg_K := [(69, [(0, (.iload_n 1, 1, (1, 0, 0, 0, []))), (1, (.lookupswitch 67 #[(99, 35), (111, 60), (118, 53)], 36, (68, 0, 0, 0, [(99, 36), (111, 61), (118, 54)]))), (36, (.aload_n 0, 37, (0, 0, 0, 0, []))), (37, (.iload_n 2, 38, (2, 0, 0, 0, []))), (38, (.putfield 39, 41, (2, 5, 0, 141, []))), (41, (.iload_n 2, 42, (2, 0, 0, 0, []))), (42, (.sipush 300, 45, (0, 0, 0, 300, []))), (45, (.if_icmp .gt 7, 48, (52, 0, 0, 0, []))), (48, (.iconst 1, 49, (0, 0, 0, 1, []))), (49, (.goto 4, 52, (53, 0, 0, 0, []))), (52, (.iconst 0, 53, (0, 0, 0, 0, []))), (53, (.ireturn, 54, (0, 0, 1, 0, []))), (54, (.aload_n 0, 55, (0, 0, 0, 0, []))), (55, (.iload_n 2, 56, (2, 0, 0, 0, []))), (56, (.putfield 42, 59, (2, 6, 0, 144, []))), (59, (.iconst 1, 60, (0, 0, 0, 1, []))), (60, (.ireturn, 61, (0, 0, 1, 0, []))), (61, (.aload_n 0, 62, (0, 0, 0, 0, []))), (62, (.iload_n 2, 63, (2, 0, 0, 0, []))), (63, (.putfield 45, 66, (2, 7, 0, 147, []))), (66, (.iconst 1, 67, (0, 0, 0, 1, []))), (67, (.ireturn, 68, (0, 0, 1, 0, []))), (68, (.iconst 0, 69, (0, 0, 0, 0, []))), (69, (.ireturn, 70, (0, 0, 1, 0, [])))])]
def cd_X2_takesPath : bg_K := [(35, [(0, (.aload_n 0, 1, (0, 0, 0, 0, []))), (1, (.getfield 32, 4, (2, 3, 0, 134, []))), (4, (.bipush 12, 6, (0, 0, 0, 12, []))), (6, (.if_icmp .ge 12, 9, (18, 0, 0, 0, []))), (9, (.aload_n 1, 10, (1, 0, 0, 0, []))), (10, (.iconst 0, 11, (0, 0, 0, 0, []))), (11, (.iaload, 12, (0, 0, 0, 0, []))), (12, (.aload_n 1, 13, (1, 0, 0, 0, []))), (13, (.iconst 1, 14, (0, 0, 0, 1, []))), (14, (.iaload, 15, (0, 0, 0, 0, []))), (15, (.if_icmp .ne 5, 18, (20, 0, 0, 0, []))), (18, (.iconst 0, 19, (0, 0, 0, 0, []))), (19, (.ireturn, 20, (0, 0, 1, 0, []))), (20, (.iconst 0, 21, (0, 0, 0, 0, []))), (21, (.istore_n 2, 22, (2, 0, 0, 0, []))), (22, (.iload_n 2, 23, (2, 0, 0, 0, []))), (23, (.bipush 7, 25, (0, 0, 0, 7, []))), (25, (.if_icmp .ge 36, 28, (61, 0, 0, 0, []))), (28, (.aload_n 1, 29, (1, 0, 0, 0, []))), (29, (.iload_n 2, 30, (2, 0, 0, 0, []))), (30, (.iaload, 31, (0, 0, 0, 0, []))), (31, (.getstatic 66, 34, (0, 0, 0, 458, []))), (34, (.iload_n 2, 35, (2, 0, 0, 0, []))), (35, (.iaload, 36, (0, 0, 0, 0, [])))]), (72, [(36, (.if_icmp .le 5, 39, (41, 0, 0, 0, []))), (39, (.iconst 0, 40, (0, 0, 0, 0, []))), (40, (.ireturn, 41, (0, 0, 1, 0, []))), (41, (.aload_n 0, 42, (0, 0, 0, 0, []))), (42, (.getfield 11, 45, (2, 0, 2, 126, []))), (45, (.aload_n 0, 46, (0, 0, 0, 0, []))), (46, (.getfield 32, 49, (2, 3, 0, 134, []))), (49, (.aaload, 50, (0, 0, 0, 0, []))), (50, (.iload_n 2, 51, (2, 0, 0, 0, []))), (51, (.aload_n 1, 52, (1, 0, 0, 0, []))), (52, (.iload_n 2, 53, (2, 0, 0, 0, []))), (53, (.iaload, 54, (0, 0, 0, 0, []))), (54, (.iastore, 55, (0, 0, 0, 0, []))), (55, (.iinc 2 1, 58, (2, 0, 0, 1, []))), (58, (.goto (-36), 61, (22, 0, 0, 0, []))), (61, (.aload_n 0, 62, (0, 0, 0, 0, []))), (62, (.dup, 63, (0, 0, 0, 0, []))), (63, (.getfield 32, 66, (2, 3, 0, 134, []))), (66, (.iconst 1, 67, (0, 0, 0, 1, []))), (67, (.iadd, 68, (0, 0, 0, 0, []))), (68, (.putfield 32, 71, (2, 3, 0, 134, []))), (71, (.iconst 1, 72, (0, 0, 0, 1, []))), (72, (.ireturn, 73, (0, 0, 1, 0, [])))])]
def cd_X2_takesTower : bg_K := [(42, [(0, (.aload_n 0, 1, (0, 0, 0, 0, []))), (1, (.getfield 36, 4, (2, 4, 0, 138, []))), (4, (.iconst 3, 5, (0, 0, 0, 3, []))), (5, (.if_icmp .ge 30, 8, (35, 0, 0, 0, []))), (8, (.iload_n 1, 9, (1, 0, 0, 0, []))), (9, (.iload_n 2, 10, (2, 0, 0, 0, []))), (10, (.if_icmp .eq 25, 13, (35, 0, 0, 0, []))), (13, (.iload_n 3, 14, (3, 0, 0, 0, []))), (14, (.bipush 20, 16, (0, 0, 0, 20, []))), (16, (.if_icmp .gt 19, 19, (35, 0, 0, 0, []))), (19, (.aload_n 0, 20, (0, 0, 0, 0, []))), (20, (.iload_n 1, 21, (1, 0, 0, 0, []))), (21, (.invokevirtual 69, 24, (36, 1, 2, 464, []))), (24, (.ifCond .eq 11, 27, (35, 0, 0, 0, []))), (27, (.aload_n 0, 28, (0, 0, 0, 0, []))), (28, (.iload_n 2, 29, (2, 0, 0, 0, []))), (29, (.invokevirtual 69, 32, (36, 1, 2, 464, []))), (32, (.ifCond .ne 5, 35, (37, 0, 0, 0, []))), (35, (.iconst 0, 36, (0, 0, 0, 0, []))), (36, (.ireturn, 37, (0, 0, 1, 0, []))), (37, (.aload_n 0, 38, (0, 0, 0, 0, []))), (38, (.getfield 16, 41, (2, 1, 2, 131, []))), (41, (.aload_n 0, 42, (0, 0, 0, 0, []))), (42, (.getfield 36, 45, (2, 4, 0, 138, [])))]), (74, [(45, (.iconst 1, 46, (0, 0, 0, 1, []))), (46, (.iload_n 1, 47, (1, 0, 0, 0, []))), (47, (.ishl, 48, (0, 0, 0, 0, []))), (48, (.iconst 1, 49, (0, 0, 0, 1, []))), (49, (.iload_n 2, 50, (2, 0, 0, 0, []))), (50, (.ishl, 51, (0, 0, 0, 0, []))), (51, (.ior, 52, (0, 0, 0, 0, []))), (52, (.iastore, 53, (0, 0, 0, 0, []))), (53, (.aload_n 0, 54, (0, 0, 0, 0, []))), (54, (.getfield 20, 57, (2, 2, 2, 132, []))), (57, (.aload_n 0, 58, (0, 0, 0, 0, []))), (58, (.getfield 36, 61, (2, 4, 0, 138, []))), (61, (.iload_n 3, 62, (3, 0, 0, 0, []))), (62, (.iastore, 63, (0, 0, 0, 0, []))), (63, (.aload_n 0, 64, (0, 0, 0, 0, []))), (64, (.dup, 65, (0, 0, 0, 0, []))), (65, (.getfield 36, 68, (2, 4, 0, 138, []))), (68, (.iconst 1, 69, (0, 0, 0, 1, []))), (69, (.iadd, 70, (0, 0, 0, 0, []))), (70, (.putfield 36, 73, (2, 4, 0, 138, []))), (73, (.iconst 1, 74, (0, 0, 0, 1, []))), (74, (.ireturn, 75, (0, 0, 1, 0, [])))])]
def cd_X2_hasPath : bg_K := [(23, [(0, (.iload_n 1, 1, (1, 0, 0, 0, []))), (1, (.ifCond .lt 21, 4, (22, 0, 0, 0, []))), (4, (.iload_n 1, 5, (1, 0, 0, 0, []))), (5, (.aload_n 0, 6, (0, 0, 0, 0, []))), (6, (.getfield 32, 9, (2, 3, 0, 134, []))), (9, (.if_icmp .ge 13, 12, (22, 0, 0, 0, []))), (12, (.iload_n 1, 13, (1, 0, 0, 0, []))), (13, (.bipush 12, 15, (0, 0, 0, 12, []))), (15, (.if_icmp .ge 7, 18, (22, 0, 0, 0, []))), (18, (.iconst 1, 19, (0, 0, 0, 1, []))), (19, (.goto 4, 22, (23, 0, 0, 0, []))), (22, (.iconst 0, 23, (0, 0, 0, 0, []))), (23, (.ireturn, 24, (0, 0, 1, 0, [])))])]
def cd_X2_hasPosts : bg_K := [(30, [(0, (.iconst 1, 1, (0, 0, 0, 1, []))), (1, (.aload_n 0, 2, (0, 0, 0, 0, []))), (2, (.getfield 32, 5, (2, 3, 0, 134, []))), (5, (.ishl, 6, (0, 0, 0, 0, []))), (6, (.iconst 1, 7, (0, 0, 0, 1, []))), (7, (.isub, 8, (0, 0, 0, 0, []))), (8, (.iconst 1, 9, (0, 0, 0, 1, []))), (9, (.aload_n 0, 10, (0, 0, 0, 0, []))), (10, (.getfield 36, 13, (2, 4, 0, 138, []))), (13, (.ishl, 14, (0, 0, 0, 0, []))), (14, (.iconst 1, 15, (0, 0, 0, 1, []))), (15, (.isub, 16, (0, 0, 0, 0, []))), (16, (.bipush 12, 18, (0, 0, 0, 12, []))), (18, (.ishl, 19, (0, 0, 0, 0, []))), (19, (.ior, 20, (0, 0, 0, 0, []))), (20, (.istore_n 2, 21, (2, 0, 0, 0, []))), (21, (.iload_n 1, 22, (1, 0, 0, 0, []))), (22, (.iload_n 2, 23, (2, 0, 0, 0, []))), (23, (.iconst (-1), 24, (0, 0, 0, (-1), []))), (24, (.ixor, 25, (0, 0, 0, 0, []))), (25, (.iand, 26, (0, 0, 0, 0, []))), (26, (.ifCond .ne 7, 29, (33, 0, 0, 0, []))), (29, (.iconst 1, 30, (0, 0, 0, 1, []))), (30, (.goto 4, 33, (34, 0, 0, 0, [])))]), (34, [(33, (.iconst 0, 34, (0, 0, 0, 0, []))), (34, (.ireturn, 35, (0, 0, 1, 0, [])))])]
def cd_X2_costOf : bg_K := [(30, [(0, (.iconst 0, 1, (0, 0, 0, 0, []))), (1, (.istore_n 2, 2, (2, 0, 0, 0, []))), (2, (.iconst 0, 3, (0, 0, 0, 0, []))), (3, (.istore_n 3, 4, (3, 0, 0, 0, []))), (4, (.iload_n 3, 5, (3, 0, 0, 0, []))), (5, (.bipush 12, 7, (0, 0, 0, 12, []))), (7, (.if_icmp .ge 26, 10, (33, 0, 0, 0, []))), (10, (.iload_n 2, 11, (2, 0, 0, 0, []))), (11, (.iload_n 1, 12, (1, 0, 0, 0, []))), (12, (.iload_n 3, 13, (3, 0, 0, 0, []))), (13, (.ishr, 14, (0, 0, 0, 0, []))), (14, (.iconst 1, 15, (0, 0, 0, 1, []))), (15, (.iand, 16, (0, 0, 0, 0, []))), (16, (.aload_n 0, 17, (0, 0, 0, 0, []))), (17, (.getfield 11, 20, (2, 0, 2, 126, []))), (20, (.iload_n 3, 21, (3, 0, 0, 0, []))), (21, (.aaload, 22, (0, 0, 0, 0, []))), (22, (.iconst 4, 23, (0, 0, 0, 4, []))), (23, (.iaload, 24, (0, 0, 0, 0, []))), (24, (.imul, 25, (0, 0, 0, 0, []))), (25, (.iadd, 26, (0, 0, 0, 0, []))), (26, (.istore_n 2, 27, (2, 0, 0, 0, []))), (27, (.iinc 3 1, 30, (3, 0, 0, 1, []))), (30, (.goto (-26), 33, (4, 0, 0, 0, [])))]), (65, [(33, (.iconst 0, 34, (0, 0, 0, 0, []))), (34, (.istore_n 3, 35, (3, 0, 0, 0, []))), (35, (.iload_n 3, 36, (3, 0, 0, 0, []))), (36, (.iconst 3, 37, (0, 0, 0, 3, []))), (37, (.if_icmp .ge 27, 40, (64, 0, 0, 0, []))), (40, (.iload_n 2, 41, (2, 0, 0, 0, []))), (41, (.iload_n 1, 42, (1, 0, 0, 0, []))), (42, (.bipush 12, 44, (0, 0, 0, 12, []))), (44, (.iload_n 3, 45, (3, 0, 0, 0, []))), (45, (.iadd, 46, (0, 0, 0, 0, []))), (46, (.ishr, 47, (0, 0, 0, 0, []))), (47, (.iconst 1, 48, (0, 0, 0, 1, []))), (48, (.iand, 49, (0, 0, 0, 0, []))), (49, (.aload_n 0, 50, (0, 0, 0, 0, []))), (50, (.getfield 20, 53, (2, 2, 2, 132, []))), (53, (.iload_n 3, 54, (3, 0, 0, 0, []))), (54, (.iaload, 55, (0, 0, 0, 0, []))), (55, (.imul, 56, (0, 0, 0, 0, []))), (56, (.iadd, 57, (0, 0, 0, 0, []))), (57, (.istore_n 2, 58, (2, 0, 0, 0, []))), (58, (.iinc 3 1, 61, (3, 0, 0, 1, []))), (61, (.goto (-26), 64, (35, 0, 0, 0, []))), (64, (.iload_n 2, 65, (2, 0, 0, 0, []))), (65, (.ireturn, 66, (0, 0, 0, 0, [])))])]
def cd_X2_heldBy : bg_K := [(32, [(0, (.iload_n 1, 1, (1, 0, 0, 0, []))), (1, (.sipush 4095, 4, (0, 0, 0, 4095, []))), (4, (.iand, 5, (0, 0, 0, 0, []))), (5, (.istore_n 2, 6, (2, 0, 0, 0, []))), (6, (.iconst 0, 7, (0, 0, 0, 0, []))), (7, (.istore_n 3, 8, (3, 0, 0, 0, []))), (8, (.iload_n 3, 9, (3, 0, 0, 0, []))), (9, (.iconst 3, 10, (0, 0, 0, 3, []))), (10, (.if_icmp .ge 29, 13, (39, 0, 0, 0, []))), (13, (.iload_n 1, 14, (1, 0, 0, 0, []))), (14, (.bipush 12, 16, (0, 0, 0, 12, []))), (16, (.iload_n 3, 17, (3, 0, 0, 0, []))), (17, (.iadd, 18, (0, 0, 0, 0, []))), (18, (.ishr, 19, (0, 0, 0, 0, []))), (19, (.iconst 1, 20, (0, 0, 0, 1, []))), (20, (.iand, 21, (0, 0, 0, 0, []))), (21, (.ifCond .eq 12, 24, (33, 0, 0, 0, []))), (24, (.iload_n 2, 25, (2, 0, 0, 0, []))), (25, (.aload_n 0, 26, (0, 0, 0, 0, []))), (26, (.getfield 16, 29, (2, 1, 2, 131, []))), (29, (.iload_n 3, 30, (3, 0, 0, 0, []))), (30, (.iaload, 31, (0, 0, 0, 0, []))), (31, (.ior, 32, (0, 0, 0, 0, []))), (32, (.istore_n 2, 33, (2, 0, 0, 0, [])))]), (40, [(33, (.iinc 3 1, 36, (3, 0, 0, 1, []))), (36, (.goto (-28), 39, (8, 0, 0, 0, []))), (39, (.iload_n 2, 40, (2, 0, 0, 0, []))), (40, (.ireturn, 41, (0, 0, 0, 0, [])))])]
def cd_X2_waitsOf : bg_K := [(31, [(0, (.iconst 0, 1, (0, 0, 0, 0, []))), (1, (.istore_n 2, 2, (2, 0, 0, 0, []))), (2, (.iconst 0, 3, (0, 0, 0, 0, []))), (3, (.istore_n 3, 4, (3, 0, 0, 0, []))), (4, (.iload_n 3, 5, (3, 0, 0, 0, []))), (5, (.bipush 12, 7, (0, 0, 0, 12, []))), (7, (.if_icmp .ge 27, 10, (34, 0, 0, 0, []))), (10, (.iload_n 2, 11, (2, 0, 0, 0, []))), (11, (.iload_n 1, 12, (1, 0, 0, 0, []))), (12, (.iload_n 3, 13, (3, 0, 0, 0, []))), (13, (.ishr, 14, (0, 0, 0, 0, []))), (14, (.iconst 1, 15, (0, 0, 0, 1, []))), (15, (.iand, 16, (0, 0, 0, 0, []))), (16, (.aload_n 0, 17, (0, 0, 0, 0, []))), (17, (.getfield 11, 20, (2, 0, 2, 126, []))), (20, (.iload_n 3, 21, (3, 0, 0, 0, []))), (21, (.aaload, 22, (0, 0, 0, 0, []))), (22, (.bipush 6, 24, (0, 0, 0, 6, []))), (24, (.iaload, 25, (0, 0, 0, 0, []))), (25, (.imul, 26, (0, 0, 0, 0, []))), (26, (.iadd, 27, (0, 0, 0, 0, []))), (27, (.istore_n 2, 28, (2, 0, 0, 0, []))), (28, (.iinc 3 1, 31, (3, 0, 0, 1, []))), (31, (.goto (-27), 34, (4, 0, 0, 0, [])))]), (35, [(34, (.iload_n 2, 35, (2, 0, 0, 0, []))), (35, (.ireturn, 36, (0, 0, 0, 0, [])))])]
def cd_X2_bearing : bg_K := [(32, [(0, (.iload_n 1, 1, (1, 0, 0, 0, []))), (1, (.ifCond .lt 9, 4, (10, 0, 0, 0, []))), (4, (.iload_n 1, 5, (1, 0, 0, 0, []))), (5, (.bipush 12, 7, (0, 0, 0, 12, []))), (7, (.if_icmp .lt 5, 10, (12, 0, 0, 0, []))), (10, (.iconst 0, 11, (0, 0, 0, 0, []))), (11, (.ireturn, 12, (0, 0, 0, 0, []))), (12, (.aload_n 0, 13, (0, 0, 0, 0, []))), (13, (.getfield 11, 16, (2, 0, 2, 126, []))), (16, (.iload_n 1, 17, (1, 0, 0, 0, []))), (17, (.aaload, 18, (0, 0, 0, 0, []))), (18, (.iconst 2, 19, (0, 0, 0, 2, []))), (19, (.iaload, 20, (0, 0, 0, 0, []))), (20, (.iload_n 3, 21, (3, 0, 0, 0, []))), (21, (.iadd, 22, (0, 0, 0, 0, []))), (22, (.aload_n 0, 23, (0, 0, 0, 0, []))), (23, (.iload_n 1, 24, (1, 0, 0, 0, []))), (24, (.iload_n 2, 25, (2, 0, 0, 0, []))), (25, (.invokevirtual 73, 28, (191, 2, 2, 518, []))), (28, (.imul, 29, (0, 0, 0, 0, []))), (29, (.bipush 100, 31, (0, 0, 0, 100, []))), (31, (.idiv, 32, (0, 0, 0, 0, []))), (32, (.ireturn, 33, (0, 0, 0, 0, [])))])]
def cd_X2_comesMoreThanGoes : bg_K := [(41, [(0, (.iconst 0, 1, (0, 0, 0, 0, []))), (1, (.istore_n 3, 2, (3, 0, 0, 0, []))), (2, (.iconst 0, 3, (0, 0, 0, 0, []))), (3, (.istore 4, 5, (4, 0, 0, 0, []))), (5, (.iload 4, 7, (4, 0, 0, 0, []))), (7, (.aload_n 0, 8, (0, 0, 0, 0, []))), (8, (.getfield 32, 11, (2, 3, 0, 134, []))), (11, (.if_icmp .ge 63, 14, (74, 0, 0, 0, []))), (14, (.iload 4, 16, (4, 0, 0, 0, []))), (16, (.bipush 12, 18, (0, 0, 0, 12, []))), (18, (.if_icmp .ge 56, 21, (74, 0, 0, 0, []))), (21, (.iload 4, 23, (4, 0, 0, 0, []))), (23, (.aload_n 2, 24, (2, 0, 0, 0, []))), (24, (.arraylength, 25, (0, 0, 0, 0, []))), (25, (.if_icmp .ge 49, 28, (74, 0, 0, 0, []))), (28, (.aload_n 0, 29, (0, 0, 0, 0, []))), (29, (.getfield 11, 32, (2, 0, 2, 126, []))), (32, (.iload 4, 34, (4, 0, 0, 0, []))), (34, (.aaload, 35, (0, 0, 0, 0, []))), (35, (.iconst 1, 36, (0, 0, 0, 1, []))), (36, (.iaload, 37, (0, 0, 0, 0, []))), (37, (.iload_n 1, 38, (1, 0, 0, 0, []))), (38, (.if_icmp .ne 10, 41, (48, 0, 0, 0, []))), (41, (.iload_n 3, 42, (3, 0, 0, 0, [])))]), (75, [(42, (.aload_n 2, 43, (2, 0, 0, 0, []))), (43, (.iload 4, 45, (4, 0, 0, 0, []))), (45, (.iaload, 46, (0, 0, 0, 0, []))), (46, (.iadd, 47, (0, 0, 0, 0, []))), (47, (.istore_n 3, 48, (3, 0, 0, 0, []))), (48, (.aload_n 0, 49, (0, 0, 0, 0, []))), (49, (.getfield 11, 52, (2, 0, 2, 126, []))), (52, (.iload 4, 54, (4, 0, 0, 0, []))), (54, (.aaload, 55, (0, 0, 0, 0, []))), (55, (.iconst 0, 56, (0, 0, 0, 0, []))), (56, (.iaload, 57, (0, 0, 0, 0, []))), (57, (.iload_n 1, 58, (1, 0, 0, 0, []))), (58, (.if_icmp .ne 10, 61, (68, 0, 0, 0, []))), (61, (.iload_n 3, 62, (3, 0, 0, 0, []))), (62, (.aload_n 2, 63, (2, 0, 0, 0, []))), (63, (.iload 4, 65, (4, 0, 0, 0, []))), (65, (.iaload, 66, (0, 0, 0, 0, []))), (66, (.isub, 67, (0, 0, 0, 0, []))), (67, (.istore_n 3, 68, (3, 0, 0, 0, []))), (68, (.iinc 4 1, 71, (4, 0, 0, 1, []))), (71, (.goto (-66), 74, (5, 0, 0, 0, []))), (74, (.iload_n 3, 75, (3, 0, 0, 0, []))), (75, (.ireturn, 76, (0, 0, 0, 0, [])))])]
def cd_X3_clear : bg_K := [(16, [(0, (.aload_n 0, 1, (0, 0, 0, 0, []))), (1, (.getfield 9, 4, (3, 0, 2, 271, []))), (4, (.iconst (-1), 5, (0, 0, 0, (-1), []))), (5, (.invokestatic 21, 8, (190, 2, 0, 270, []))), (8, (.aload_n 0, 9, (0, 0, 0, 0, []))), (9, (.getfield 15, 12, (3, 1, 2, 273, []))), (12, (.iconst (-1), 13, (0, 0, 0, (-1), []))), (13, (.invokestatic 21, 16, (190, 2, 0, 270, []))), (16, (.return_, 17, (0, 0, 0, 0, [])))])]
def cd_X3_copy : bg_K := [(28, [(0, (.aload_n 1, 1, (1, 0, 0, 0, []))), (1, (.getfield 9, 4, (3, 0, 2, 271, []))), (4, (.iconst 0, 5, (0, 0, 0, 0, []))), (5, (.aload_n 0, 6, (0, 0, 0, 0, []))), (6, (.getfield 9, 9, (3, 0, 2, 271, []))), (9, (.iconst 0, 10, (0, 0, 0, 0, []))), (10, (.iconst 4, 11, (0, 0, 0, 4, []))), (11, (.invokestatic 27, 14, (0, 5, 1, 830, []))), (14, (.aload_n 1, 15, (1, 0, 0, 0, []))), (15, (.getfield 15, 18, (3, 1, 2, 273, []))), (18, (.iconst 0, 19, (0, 0, 0, 0, []))), (19, (.aload_n 0, 20, (0, 0, 0, 0, []))), (20, (.getfield 15, 23, (3, 1, 2, 273, []))), (23, (.iconst 0, 24, (0, 0, 0, 0, []))), (24, (.iconst 4, 25, (0, 0, 0, 4, []))), (25, (.invokestatic 27, 28, (0, 5, 1, 830, []))), (28, (.return_, 29, (0, 0, 0, 0, [])))])]
def cd_X3_toldGuards : bg_K := [(7, [(0, (.aload_n 0, 1, (0, 0, 0, 0, []))), (1, (.getfield 9, 4, (3, 0, 2, 271, []))), (4, (.invokestatic 33, 7, (47, 1, 0, 712, []))), (7, (.ireturn, 8, (0, 0, 0, 0, [])))])]
def cd_X3_toldCarriers : bg_K := [(7, [(0, (.aload_n 0, 1, (0, 0, 0, 0, []))), (1, (.getfield 15, 4, (3, 1, 2, 273, []))), (4, (.invokestatic 33, 7, (47, 1, 0, 712, []))), (7, (.ireturn, 8, (0, 0, 0, 0, [])))])]
def cd_X3_toldOf : bg_K := [(31, [(0, (.iconst 0, 1, (0, 0, 0, 0, []))), (1, (.istore_n 1, 2, (1, 0, 0, 0, []))), (2, (.iconst 0, 3, (0, 0, 0, 0, []))), (3, (.istore_n 2, 4, (2, 0, 0, 0, []))), (4, (.iload_n 2, 5, (2, 0, 0, 0, []))), (5, (.iconst 4, 6, (0, 0, 0, 4, []))), (6, (.if_icmp .ge 28, 9, (34, 0, 0, 0, []))), (9, (.iload_n 2, 10, (2, 0, 0, 0, []))), (10, (.aload_n 0, 11, (0, 0, 0, 0, []))), (11, (.arraylength, 12, (0, 0, 0, 0, []))), (12, (.if_icmp .ge 22, 15, (34, 0, 0, 0, []))), (15, (.aload_n 0, 16, (0, 0, 0, 0, []))), (16, (.iload_n 2, 17, (2, 0, 0, 0, []))), (17, (.iaload, 18, (0, 0, 0, 0, []))), (18, (.iconst (-1), 19, (0, 0, 0, (-1), []))), (19, (.if_icmp .eq 9, 22, (28, 0, 0, 0, []))), (22, (.iload_n 1, 23, (1, 0, 0, 0, []))), (23, (.iconst 1, 24, (0, 0, 0, 1, []))), (24, (.iload_n 2, 25, (2, 0, 0, 0, []))), (25, (.ishl, 26, (0, 0, 0, 0, []))), (26, (.ior, 27, (0, 0, 0, 0, []))), (27, (.istore_n 1, 28, (1, 0, 0, 0, []))), (28, (.iinc 2 1, 31, (2, 0, 0, 1, []))), (31, (.goto (-27), 34, (4, 0, 0, 0, [])))]), (35, [(34, (.iload_n 1, 35, (1, 0, 0, 0, []))), (35, (.ireturn, 36, (0, 0, 0, 0, [])))])]
def cd_X4_forget : bg_K := [(10, [(0, (.aload_n 0, 1, (0, 0, 0, 0, []))), (1, (.iconst 0, 2, (0, 0, 0, 0, []))), (2, (.putfield 30, 5, (4, 7, 3, 228, []))), (5, (.aload_n 0, 6, (0, 0, 0, 0, []))), (6, (.iconst 0, 7, (0, 0, 0, 0, []))), (7, (.putfield 34, 10, (4, 9, 3, 230, []))), (10, (.return_, 11, (0, 0, 0, 0, [])))])]
def cd_X4_prepare : bg_K := [(46, [(0, (.aload_n 0, 1, (0, 0, 0, 0, []))), (1, (.getfield 30, 4, (4, 7, 0, 228, []))), (4, (.ifCond .eq 4, 7, (8, 0, 0, 0, []))), (7, (.return_, 8, (0, 0, 0, 0, []))), (8, (.aload_n 0, 9, (0, 0, 0, 0, []))), (9, (.iconst 1, 10, (0, 0, 0, 1, []))), (10, (.aload_n 1, 11, (1, 0, 0, 0, []))), (11, (.getfield 37, 14, (2, 3, 0, 135, []))), (14, (.ishl, 15, (0, 0, 0, 0, []))), (15, (.sipush 4096, 18, (0, 0, 0, 4096, []))), (18, (.invokestatic 43, 21, (0, 2, 3, 564, []))), (21, (.putfield 49, 24, (4, 6, 0, 227, []))), (24, (.aload_n 0, 25, (0, 0, 0, 0, []))), (25, (.getfield 9, 28, (4, 0, 2, 221, []))), (28, (.ldc 54, 30, (0, 567, 0, 2147483647, []))), (30, (.invokestatic 55, 33, (190, 2, 0, 568, []))), (33, (.aload_n 0, 34, (0, 0, 0, 0, []))), (34, (.getfield 15, 37, (4, 1, 2, 222, []))), (37, (.iconst (-1), 38, (0, 0, 0, (-1), []))), (38, (.invokestatic 55, 41, (190, 2, 0, 568, []))), (41, (.aload_n 0, 42, (0, 0, 0, 0, []))), (42, (.getfield 24, 45, (4, 4, 2, 225, []))), (45, (.iconst (-1), 46, (0, 0, 0, (-1), []))), (46, (.invokestatic 55, 49, (190, 2, 0, 568, [])))]), (92, [(49, (.aload_n 0, 50, (0, 0, 0, 0, []))), (50, (.getfield 27, 53, (4, 5, 2, 226, []))), (53, (.ldc 54, 55, (0, 567, 0, 2147483647, []))), (55, (.invokestatic 55, 58, (190, 2, 0, 568, []))), (58, (.iconst 0, 59, (0, 0, 0, 0, []))), (59, (.istore_n 3, 60, (3, 0, 0, 0, []))), (60, (.iload_n 3, 61, (3, 0, 0, 0, []))), (61, (.bipush 64, 63, (0, 0, 0, 64, []))), (63, (.if_icmp .ge 28, 66, (91, 0, 0, 0, []))), (66, (.aload_n 2, 67, (2, 0, 0, 0, []))), (67, (.iload_n 3, 68, (3, 0, 0, 0, []))), (68, (.invokevirtual 63, 71, (13, 1, 0, 569, []))), (71, (.ifCond .eq 14, 74, (85, 0, 0, 0, []))), (74, (.aload_n 0, 75, (0, 0, 0, 0, []))), (75, (.aload_n 1, 76, (1, 0, 0, 0, []))), (76, (.aload_n 2, 77, (2, 0, 0, 0, []))), (77, (.getfield 67, 80, (0, 0, 2, 174, []))), (80, (.iload_n 3, 81, (3, 0, 0, 0, []))), (81, (.iaload, 82, (0, 0, 0, 0, []))), (82, (.invokevirtual 70, 85, (52, 2, 4, 573, []))), (85, (.iinc 3 1, 88, (3, 0, 0, 1, []))), (88, (.goto (-28), 91, (60, 0, 0, 0, []))), (91, (.aload_n 0, 92, (0, 0, 0, 0, []))), (92, (.aload_n 1, 93, (1, 0, 0, 0, [])))]), (134, [(93, (.iconst 4, 94, (0, 0, 0, 4, []))), (94, (.invokevirtual 74, 97, (53, 2, 4, 582, []))), (97, (.iconst 0, 98, (0, 0, 0, 0, []))), (98, (.istore_n 3, 99, (3, 0, 0, 0, []))), (99, (.iload_n 3, 100, (3, 0, 0, 0, []))), (100, (.iconst 1, 101, (0, 0, 0, 1, []))), (101, (.aload_n 1, 102, (1, 0, 0, 0, []))), (102, (.getfield 77, 105, (2, 4, 0, 139, []))), (105, (.ishl, 106, (0, 0, 0, 0, []))), (106, (.if_icmp .ge 24, 109, (130, 0, 0, 0, []))), (109, (.iload_n 3, 110, (3, 0, 0, 0, []))), (110, (.bipush 8, 112, (0, 0, 0, 8, []))), (112, (.if_icmp .ge 18, 115, (130, 0, 0, 0, []))), (115, (.aload_n 0, 116, (0, 0, 0, 0, []))), (116, (.aload_n 1, 117, (1, 0, 0, 0, []))), (117, (.iload_n 3, 118, (3, 0, 0, 0, []))), (118, (.bipush 12, 120, (0, 0, 0, 12, []))), (120, (.ishl, 121, (0, 0, 0, 0, []))), (121, (.invokevirtual 80, 124, (55, 2, 4, 586, []))), (124, (.iinc 3 1, 127, (3, 0, 0, 1, []))), (127, (.goto (-28), 130, (99, 0, 0, 0, []))), (130, (.aload_n 0, 131, (0, 0, 0, 0, []))), (131, (.invokevirtual 83, 134, (56, 0, 4, 592, []))), (134, (.aload_n 0, 135, (0, 0, 0, 0, [])))]), (139, [(135, (.iconst 1, 136, (0, 0, 0, 1, []))), (136, (.putfield 30, 139, (4, 7, 3, 228, []))), (139, (.return_, 140, (0, 0, 0, 0, [])))])]
def cd_X4_bestFor : bg_K := [(16, [(0, (.aload_n 0, 1, (0, 0, 0, 0, []))), (1, (.getfield 24, 4, (4, 4, 2, 225, []))), (4, (.iconst 0, 5, (0, 0, 0, 0, []))), (5, (.iload_n 1, 6, (1, 0, 0, 0, []))), (6, (.sipush 300, 9, (0, 0, 0, 300, []))), (9, (.invokestatic 43, 12, (0, 2, 3, 564, []))), (12, (.invokestatic 86, 15, (0, 2, 2, 600, []))), (15, (.iaload, 16, (0, 0, 0, 0, []))), (16, (.ireturn, 17, (0, 0, 0, 0, [])))])]
def cd_X4_leastFor : bg_K := [(16, [(0, (.aload_n 0, 1, (0, 0, 0, 0, []))), (1, (.getfield 27, 4, (4, 5, 2, 226, []))), (4, (.iconst 0, 5, (0, 0, 0, 0, []))), (5, (.iload_n 1, 6, (1, 0, 0, 0, []))), (6, (.sipush 300, 9, (0, 0, 0, 300, []))), (9, (.invokestatic 43, 12, (0, 2, 3, 564, []))), (12, (.invokestatic 86, 15, (0, 2, 2, 600, []))), (15, (.iaload, 16, (0, 0, 0, 0, []))), (16, (.ireturn, 17, (0, 0, 0, 0, [])))])]
def cd_X4_lowerMost : bg_K := [(37, [(0, (.iconst 0, 1, (0, 0, 0, 0, []))), (1, (.istore_n 3, 2, (3, 0, 0, 0, []))), (2, (.iconst 0, 3, (0, 0, 0, 0, []))), (3, (.istore 4, 5, (4, 0, 0, 0, []))), (5, (.iload 4, 7, (4, 0, 0, 0, []))), (7, (.bipush 12, 9, (0, 0, 0, 12, []))), (9, (.if_icmp .ge 58, 12, (67, 0, 0, 0, []))), (12, (.iload_n 2, 13, (2, 0, 0, 0, []))), (13, (.iload 4, 15, (4, 0, 0, 0, []))), (15, (.ishr, 16, (0, 0, 0, 0, []))), (16, (.iconst 1, 17, (0, 0, 0, 1, []))), (17, (.iand, 18, (0, 0, 0, 0, []))), (18, (.istore 5, 20, (5, 0, 0, 0, []))), (20, (.iload 5, 22, (5, 0, 0, 0, []))), (22, (.aload_n 1, 23, (1, 0, 0, 0, []))), (23, (.iload 4, 25, (4, 0, 0, 0, []))), (25, (.iconst 0, 26, (0, 0, 0, 0, []))), (26, (.iconst 0, 27, (0, 0, 0, 0, []))), (27, (.invokevirtual 89, 30, (41, 3, 2, 577, []))), (30, (.imul, 31, (0, 0, 0, 0, []))), (31, (.istore 6, 33, (6, 0, 0, 0, []))), (33, (.aload_n 0, 34, (0, 0, 0, 0, []))), (34, (.getfield 21, 37, (4, 3, 2, 224, []))), (37, (.iload 4, 39, (4, 0, 0, 0, [])))]), (78, [(39, (.iload 5, 41, (5, 0, 0, 0, []))), (41, (.aload_n 1, 42, (1, 0, 0, 0, []))), (42, (.iload 4, 44, (4, 0, 0, 0, []))), (44, (.sipush 4095, 47, (0, 0, 0, 4095, []))), (47, (.iconst 0, 48, (0, 0, 0, 0, []))), (48, (.invokevirtual 89, 51, (41, 3, 2, 577, []))), (51, (.imul, 52, (0, 0, 0, 0, []))), (52, (.iload 6, 54, (6, 0, 0, 0, []))), (54, (.isub, 55, (0, 0, 0, 0, []))), (55, (.iastore, 56, (0, 0, 0, 0, []))), (56, (.iload_n 3, 57, (3, 0, 0, 0, []))), (57, (.iload 6, 59, (6, 0, 0, 0, []))), (59, (.iadd, 60, (0, 0, 0, 0, []))), (60, (.istore_n 3, 61, (3, 0, 0, 0, []))), (61, (.iinc 4 1, 64, (4, 0, 0, 1, []))), (64, (.goto (-59), 67, (5, 0, 0, 0, []))), (67, (.aload_n 0, 68, (0, 0, 0, 0, []))), (68, (.iload_n 3, 69, (3, 0, 0, 0, []))), (69, (.invokevirtual 93, 72, (54, 1, 4, 578, []))), (72, (.iconst 0, 73, (0, 0, 0, 0, []))), (73, (.istore 4, 75, (4, 0, 0, 0, []))), (75, (.iload 4, 77, (4, 0, 0, 0, []))), (77, (.aload_n 0, 78, (0, 0, 0, 0, []))), (78, (.getfield 49, 81, (4, 6, 0, 227, [])))]), (121, [(81, (.if_icmp .ge 40, 84, (121, 0, 0, 0, []))), (84, (.aload_n 0, 85, (0, 0, 0, 0, []))), (85, (.getfield 18, 88, (4, 2, 2, 223, []))), (88, (.iload 4, 90, (4, 0, 0, 0, []))), (90, (.iaload, 91, (0, 0, 0, 0, []))), (91, (.aload_n 0, 92, (0, 0, 0, 0, []))), (92, (.getfield 9, 95, (4, 0, 2, 221, []))), (95, (.iload 4, 97, (4, 0, 0, 0, []))), (97, (.iaload, 98, (0, 0, 0, 0, []))), (98, (.if_icmp .ge 17, 101, (115, 0, 0, 0, []))), (101, (.aload_n 0, 102, (0, 0, 0, 0, []))), (102, (.getfield 9, 105, (4, 0, 2, 221, []))), (105, (.iload 4, 107, (4, 0, 0, 0, []))), (107, (.aload_n 0, 108, (0, 0, 0, 0, []))), (108, (.getfield 18, 111, (4, 2, 2, 223, []))), (111, (.iload 4, 113, (4, 0, 0, 0, []))), (113, (.iaload, 114, (0, 0, 0, 0, []))), (114, (.iastore, 115, (0, 0, 0, 0, []))), (115, (.iinc 4 1, 118, (4, 0, 0, 1, []))), (118, (.goto (-43), 121, (75, 0, 0, 0, []))), (121, (.return_, 122, (0, 0, 0, 0, [])))])]
def cd_X4_sumNumbers : bg_K := [(33, [(0, (.iconst 0, 1, (0, 0, 0, 0, []))), (1, (.istore_n 3, 2, (3, 0, 0, 0, []))), (2, (.iload_n 3, 3, (3, 0, 0, 0, []))), (3, (.bipush 12, 5, (0, 0, 0, 12, []))), (5, (.if_icmp .ge 23, 8, (28, 0, 0, 0, []))), (8, (.aload_n 0, 9, (0, 0, 0, 0, []))), (9, (.getfield 21, 12, (4, 3, 2, 224, []))), (12, (.iload_n 3, 13, (3, 0, 0, 0, []))), (13, (.aload_n 1, 14, (1, 0, 0, 0, []))), (14, (.getfield 97, 17, (2, 0, 2, 130, []))), (17, (.iload_n 3, 18, (3, 0, 0, 0, []))), (18, (.aaload, 19, (0, 0, 0, 0, []))), (19, (.iload_n 2, 20, (2, 0, 0, 0, []))), (20, (.iaload, 21, (0, 0, 0, 0, []))), (21, (.iastore, 22, (0, 0, 0, 0, []))), (22, (.iinc 3 1, 25, (3, 0, 0, 1, []))), (25, (.goto (-23), 28, (2, 0, 0, 0, []))), (28, (.aload_n 0, 29, (0, 0, 0, 0, []))), (29, (.iconst 0, 30, (0, 0, 0, 0, []))), (30, (.invokevirtual 93, 33, (54, 1, 4, 578, []))), (33, (.return_, 34, (0, 0, 0, 0, [])))])]
def cd_X4_sumAddends : bg_K := [(33, [(0, (.aload_n 0, 1, (0, 0, 0, 0, []))), (1, (.getfield 18, 4, (4, 2, 2, 223, []))), (4, (.iconst 0, 5, (0, 0, 0, 0, []))), (5, (.iload_n 1, 6, (1, 0, 0, 0, []))), (6, (.iastore, 7, (0, 0, 0, 0, []))), (7, (.iconst 0, 8, (0, 0, 0, 0, []))), (8, (.istore_n 2, 9, (2, 0, 0, 0, []))), (9, (.iload_n 2, 10, (2, 0, 0, 0, []))), (10, (.bipush 12, 12, (0, 0, 0, 12, []))), (12, (.if_icmp .ge 66, 15, (78, 0, 0, 0, []))), (15, (.iconst 1, 16, (0, 0, 0, 1, []))), (16, (.iload_n 2, 17, (2, 0, 0, 0, []))), (17, (.ishl, 18, (0, 0, 0, 0, []))), (18, (.istore_n 3, 19, (3, 0, 0, 0, []))), (19, (.aload_n 0, 20, (0, 0, 0, 0, []))), (20, (.getfield 21, 23, (4, 3, 2, 224, []))), (23, (.iload_n 2, 24, (2, 0, 0, 0, []))), (24, (.iaload, 25, (0, 0, 0, 0, []))), (25, (.istore 4, 27, (4, 0, 0, 0, []))), (27, (.iload_n 3, 28, (3, 0, 0, 0, []))), (28, (.istore 5, 30, (5, 0, 0, 0, []))), (30, (.iload 5, 32, (5, 0, 0, 0, []))), (32, (.iconst 2, 33, (0, 0, 0, 2, []))), (33, (.iload_n 3, 34, (3, 0, 0, 0, [])))]), (78, [(34, (.imul, 35, (0, 0, 0, 0, []))), (35, (.if_icmp .ge 37, 38, (72, 0, 0, 0, []))), (38, (.iload 5, 40, (5, 0, 0, 0, []))), (40, (.aload_n 0, 41, (0, 0, 0, 0, []))), (41, (.getfield 49, 44, (4, 6, 0, 227, []))), (44, (.if_icmp .ge 28, 47, (72, 0, 0, 0, []))), (47, (.aload_n 0, 48, (0, 0, 0, 0, []))), (48, (.getfield 18, 51, (4, 2, 2, 223, []))), (51, (.iload 5, 53, (5, 0, 0, 0, []))), (53, (.aload_n 0, 54, (0, 0, 0, 0, []))), (54, (.getfield 18, 57, (4, 2, 2, 223, []))), (57, (.iload 5, 59, (5, 0, 0, 0, []))), (59, (.iload_n 3, 60, (3, 0, 0, 0, []))), (60, (.isub, 61, (0, 0, 0, 0, []))), (61, (.iaload, 62, (0, 0, 0, 0, []))), (62, (.iload 4, 64, (4, 0, 0, 0, []))), (64, (.iadd, 65, (0, 0, 0, 0, []))), (65, (.iastore, 66, (0, 0, 0, 0, []))), (66, (.iinc 5 1, 69, (5, 0, 0, 1, []))), (69, (.goto (-39), 72, (30, 0, 0, 0, []))), (72, (.iinc 2 1, 75, (2, 0, 0, 1, []))), (75, (.goto (-66), 78, (9, 0, 0, 0, []))), (78, (.return_, 79, (0, 0, 0, 0, [])))])]
def cd_X4_offerAll : bg_K := [(41, [(0, (.aload_n 1, 1, (1, 0, 0, 0, []))), (1, (.iload_n 2, 2, (2, 0, 0, 0, []))), (2, (.invokevirtual 101, 5, (39, 1, 2, 590, []))), (5, (.istore_n 3, 6, (3, 0, 0, 0, []))), (6, (.aload_n 1, 7, (1, 0, 0, 0, []))), (7, (.iload_n 2, 8, (2, 0, 0, 0, []))), (8, (.invokevirtual 105, 11, (38, 1, 2, 591, []))), (11, (.istore 4, 13, (4, 0, 0, 0, []))), (13, (.iconst 0, 14, (0, 0, 0, 0, []))), (14, (.istore 5, 16, (5, 0, 0, 0, []))), (16, (.iload 5, 18, (5, 0, 0, 0, []))), (18, (.aload_n 0, 19, (0, 0, 0, 0, []))), (19, (.getfield 49, 22, (4, 6, 0, 227, []))), (22, (.if_icmp .ge 117, 25, (139, 0, 0, 0, []))), (25, (.iload 5, 27, (5, 0, 0, 0, []))), (27, (.iload_n 3, 28, (3, 0, 0, 0, []))), (28, (.ior, 29, (0, 0, 0, 0, []))), (29, (.sipush 4095, 32, (0, 0, 0, 4095, []))), (32, (.iand, 33, (0, 0, 0, 0, []))), (33, (.istore 6, 35, (6, 0, 0, 0, []))), (35, (.iload 4, 37, (4, 0, 0, 0, []))), (37, (.aload_n 0, 38, (0, 0, 0, 0, []))), (38, (.getfield 18, 41, (4, 2, 2, 223, []))), (41, (.iload 5, 43, (5, 0, 0, 0, [])))]), (85, [(43, (.iaload, 44, (0, 0, 0, 0, []))), (44, (.iadd, 45, (0, 0, 0, 0, []))), (45, (.istore 7, 47, (7, 0, 0, 0, []))), (47, (.iload 7, 49, (7, 0, 0, 0, []))), (49, (.aload_n 1, 50, (1, 0, 0, 0, []))), (50, (.getfield 108, 53, (2, 5, 0, 142, []))), (53, (.if_icmp .gt 25, 56, (78, 0, 0, 0, []))), (56, (.aload_n 0, 57, (0, 0, 0, 0, []))), (57, (.getfield 15, 60, (4, 1, 2, 222, []))), (60, (.iload 6, 62, (6, 0, 0, 0, []))), (62, (.iaload, 63, (0, 0, 0, 0, []))), (63, (.iconst (-1), 64, (0, 0, 0, (-1), []))), (64, (.if_icmp .ne 14, 67, (78, 0, 0, 0, []))), (67, (.aload_n 0, 68, (0, 0, 0, 0, []))), (68, (.getfield 15, 71, (4, 1, 2, 222, []))), (71, (.iload 6, 73, (6, 0, 0, 0, []))), (73, (.iload 5, 75, (5, 0, 0, 0, []))), (75, (.iload_n 2, 76, (2, 0, 0, 0, []))), (76, (.ior, 77, (0, 0, 0, 0, []))), (77, (.iastore, 78, (0, 0, 0, 0, []))), (78, (.iload 7, 80, (7, 0, 0, 0, []))), (80, (.ifCond .lt 53, 83, (133, 0, 0, 0, []))), (83, (.iload 7, 85, (7, 0, 0, 0, []))), (85, (.sipush 300, 88, (0, 0, 0, 300, [])))]), (131, [(88, (.if_icmp .gt 45, 91, (133, 0, 0, 0, []))), (91, (.aload_n 0, 92, (0, 0, 0, 0, []))), (92, (.getfield 9, 95, (4, 0, 2, 221, []))), (95, (.iload 6, 97, (6, 0, 0, 0, []))), (97, (.iaload, 98, (0, 0, 0, 0, []))), (98, (.aload_n 0, 99, (0, 0, 0, 0, []))), (99, (.getfield 27, 102, (4, 5, 2, 226, []))), (102, (.iload 7, 104, (7, 0, 0, 0, []))), (104, (.iaload, 105, (0, 0, 0, 0, []))), (105, (.if_icmp .ge 28, 108, (133, 0, 0, 0, []))), (108, (.aload_n 0, 109, (0, 0, 0, 0, []))), (109, (.getfield 27, 112, (4, 5, 2, 226, []))), (112, (.iload 7, 114, (7, 0, 0, 0, []))), (114, (.aload_n 0, 115, (0, 0, 0, 0, []))), (115, (.getfield 9, 118, (4, 0, 2, 221, []))), (118, (.iload 6, 120, (6, 0, 0, 0, []))), (120, (.iaload, 121, (0, 0, 0, 0, []))), (121, (.iastore, 122, (0, 0, 0, 0, []))), (122, (.aload_n 0, 123, (0, 0, 0, 0, []))), (123, (.getfield 24, 126, (4, 4, 2, 225, []))), (126, (.iload 7, 128, (7, 0, 0, 0, []))), (128, (.iload 5, 130, (5, 0, 0, 0, []))), (130, (.iload_n 2, 131, (2, 0, 0, 0, []))), (131, (.ior, 132, (0, 0, 0, 0, [])))]), (139, [(132, (.iastore, 133, (0, 0, 0, 0, []))), (133, (.iinc 5 1, 136, (5, 0, 0, 1, []))), (136, (.goto (-120), 139, (16, 0, 0, 0, []))), (139, (.return_, 140, (0, 0, 0, 0, [])))])]
def cd_X4_spreadBest : bg_K := [(35, [(0, (.iconst 1, 1, (0, 0, 0, 1, []))), (1, (.istore_n 1, 2, (1, 0, 0, 0, []))), (2, (.iload_n 1, 3, (1, 0, 0, 0, []))), (3, (.sipush 300, 6, (0, 0, 0, 300, []))), (6, (.if_icmp .gt 92, 9, (98, 0, 0, 0, []))), (9, (.iload_n 1, 10, (1, 0, 0, 0, []))), (10, (.iconst 1, 11, (0, 0, 0, 1, []))), (11, (.isub, 12, (0, 0, 0, 0, []))), (12, (.istore_n 2, 13, (2, 0, 0, 0, []))), (13, (.aload_n 0, 14, (0, 0, 0, 0, []))), (14, (.getfield 27, 17, (4, 5, 2, 226, []))), (17, (.iload_n 2, 18, (2, 0, 0, 0, []))), (18, (.iaload, 19, (0, 0, 0, 0, []))), (19, (.aload_n 0, 20, (0, 0, 0, 0, []))), (20, (.getfield 27, 23, (4, 5, 2, 226, []))), (23, (.iload_n 1, 24, (1, 0, 0, 0, []))), (24, (.iaload, 25, (0, 0, 0, 0, []))), (25, (.if_icmp .ne 7, 28, (32, 0, 0, 0, []))), (28, (.iconst 1, 29, (0, 0, 0, 1, []))), (29, (.goto 4, 32, (33, 0, 0, 0, []))), (32, (.iconst 0, 33, (0, 0, 0, 0, []))), (33, (.istore_n 3, 34, (3, 0, 0, 0, []))), (34, (.aload_n 0, 35, (0, 0, 0, 0, []))), (35, (.getfield 27, 38, (4, 5, 2, 226, [])))]), (77, [(38, (.iload_n 2, 39, (2, 0, 0, 0, []))), (39, (.iaload, 40, (0, 0, 0, 0, []))), (40, (.aload_n 0, 41, (0, 0, 0, 0, []))), (41, (.getfield 27, 44, (4, 5, 2, 226, []))), (44, (.iload_n 1, 45, (1, 0, 0, 0, []))), (45, (.iaload, 46, (0, 0, 0, 0, []))), (46, (.if_icmp .lt 22, 49, (68, 0, 0, 0, []))), (49, (.iload_n 3, 50, (3, 0, 0, 0, []))), (50, (.ifCond .eq 42, 53, (92, 0, 0, 0, []))), (53, (.aload_n 0, 54, (0, 0, 0, 0, []))), (54, (.getfield 24, 57, (4, 4, 2, 225, []))), (57, (.iload_n 2, 58, (2, 0, 0, 0, []))), (58, (.iaload, 59, (0, 0, 0, 0, []))), (59, (.aload_n 0, 60, (0, 0, 0, 0, []))), (60, (.getfield 24, 63, (4, 4, 2, 225, []))), (63, (.iload_n 1, 64, (1, 0, 0, 0, []))), (64, (.iaload, 65, (0, 0, 0, 0, []))), (65, (.if_icmp .ge 27, 68, (92, 0, 0, 0, []))), (68, (.aload_n 0, 69, (0, 0, 0, 0, []))), (69, (.getfield 27, 72, (4, 5, 2, 226, []))), (72, (.iload_n 1, 73, (1, 0, 0, 0, []))), (73, (.aload_n 0, 74, (0, 0, 0, 0, []))), (74, (.getfield 27, 77, (4, 5, 2, 226, []))), (77, (.iload_n 2, 78, (2, 0, 0, 0, [])))]), (98, [(78, (.iaload, 79, (0, 0, 0, 0, []))), (79, (.iastore, 80, (0, 0, 0, 0, []))), (80, (.aload_n 0, 81, (0, 0, 0, 0, []))), (81, (.getfield 24, 84, (4, 4, 2, 225, []))), (84, (.iload_n 1, 85, (1, 0, 0, 0, []))), (85, (.aload_n 0, 86, (0, 0, 0, 0, []))), (86, (.getfield 24, 89, (4, 4, 2, 225, []))), (89, (.iload_n 2, 90, (2, 0, 0, 0, []))), (90, (.iaload, 91, (0, 0, 0, 0, []))), (91, (.iastore, 92, (0, 0, 0, 0, []))), (92, (.iinc 1 1, 95, (1, 0, 0, 1, []))), (95, (.goto (-93), 98, (2, 0, 0, 0, []))), (98, (.return_, 99, (0, 0, 0, 0, [])))])]
def cd_X4_weigh : bg_K := [(42, [(0, (.aload_n 0, 1, (0, 0, 0, 0, []))), (1, (.aload_n 1, 2, (1, 0, 0, 0, []))), (2, (.bipush 6, 4, (0, 0, 0, 6, []))), (4, (.invokevirtual 74, 7, (53, 2, 4, 582, []))), (7, (.aload_n 0, 8, (0, 0, 0, 0, []))), (8, (.iconst (-1), 9, (0, 0, 0, (-1), []))), (9, (.putfield 111, 12, (4, 10, 0, 231, []))), (12, (.aload_n 0, 13, (0, 0, 0, 0, []))), (13, (.ldc 54, 15, (0, 567, 0, 2147483647, []))), (15, (.putfield 114, 18, (4, 11, 0, 233, []))), (18, (.iconst 0, 19, (0, 0, 0, 0, []))), (19, (.istore 4, 21, (4, 0, 0, 0, []))), (21, (.iload 4, 23, (4, 0, 0, 0, []))), (23, (.aload_n 0, 24, (0, 0, 0, 0, []))), (24, (.getfield 49, 27, (4, 6, 0, 227, []))), (27, (.if_icmp .ge 84, 30, (111, 0, 0, 0, []))), (30, (.aload_n 0, 31, (0, 0, 0, 0, []))), (31, (.getfield 15, 34, (4, 1, 2, 222, []))), (34, (.iload 4, 36, (4, 0, 0, 0, []))), (36, (.iaload, 37, (0, 0, 0, 0, []))), (37, (.istore 5, 39, (5, 0, 0, 0, []))), (39, (.iload 5, 41, (5, 0, 0, 0, []))), (41, (.iconst (-1), 42, (0, 0, 0, (-1), []))), (42, (.if_icmp .eq 63, 45, (105, 0, 0, 0, [])))]), (86, [(45, (.iload_n 2, 46, (2, 0, 0, 0, []))), (46, (.aload_n 0, 47, (0, 0, 0, 0, []))), (47, (.getfield 9, 50, (4, 0, 2, 221, []))), (50, (.iload 4, 52, (4, 0, 0, 0, []))), (52, (.iaload, 53, (0, 0, 0, 0, []))), (53, (.imul, 54, (0, 0, 0, 0, []))), (54, (.iload_n 3, 55, (3, 0, 0, 0, []))), (55, (.aload_n 0, 56, (0, 0, 0, 0, []))), (56, (.getfield 18, 59, (4, 2, 2, 223, []))), (59, (.iload 4, 61, (4, 0, 0, 0, []))), (61, (.iaload, 62, (0, 0, 0, 0, []))), (62, (.imul, 63, (0, 0, 0, 0, []))), (63, (.iadd, 64, (0, 0, 0, 0, []))), (64, (.istore 6, 66, (6, 0, 0, 0, []))), (66, (.iload 6, 68, (6, 0, 0, 0, []))), (68, (.aload_n 0, 69, (0, 0, 0, 0, []))), (69, (.getfield 114, 72, (4, 11, 0, 233, []))), (72, (.if_icmp .lt 21, 75, (93, 0, 0, 0, []))), (75, (.iload 6, 77, (6, 0, 0, 0, []))), (77, (.aload_n 0, 78, (0, 0, 0, 0, []))), (78, (.getfield 114, 81, (4, 11, 0, 233, []))), (81, (.if_icmp .ne 24, 84, (105, 0, 0, 0, []))), (84, (.iload 5, 86, (5, 0, 0, 0, []))), (86, (.aload_n 0, 87, (0, 0, 0, 0, [])))]), (111, [(87, (.getfield 111, 90, (4, 10, 0, 231, []))), (90, (.if_icmp .ge 15, 93, (105, 0, 0, 0, []))), (93, (.aload_n 0, 94, (0, 0, 0, 0, []))), (94, (.iload 5, 96, (5, 0, 0, 0, []))), (96, (.putfield 111, 99, (4, 10, 0, 231, []))), (99, (.aload_n 0, 100, (0, 0, 0, 0, []))), (100, (.iload 6, 102, (6, 0, 0, 0, []))), (102, (.putfield 114, 105, (4, 11, 0, 233, []))), (105, (.iinc 4 1, 108, (4, 0, 0, 1, []))), (108, (.goto (-87), 111, (21, 0, 0, 0, []))), (111, (.return_, 112, (0, 0, 0, 0, [])))])]
def cd_X4_leastPaying : bg_K := [(44, [(0, (.aload_n 0, 1, (0, 0, 0, 0, []))), (1, (.getfield 34, 4, (4, 9, 0, 230, []))), (4, (.ifCond .eq 8, 7, (12, 0, 0, 0, []))), (7, (.aload_n 0, 8, (0, 0, 0, 0, []))), (8, (.getfield 117, 11, (4, 8, 0, 229, []))), (11, (.ireturn, 12, (0, 0, 0, 0, []))), (12, (.aload_n 0, 13, (0, 0, 0, 0, []))), (13, (.iconst 0, 14, (0, 0, 0, 0, []))), (14, (.putfield 117, 17, (4, 8, 0, 229, []))), (17, (.ldc2_w 122, 20, (0, 682, 0, 9223372036854775807, []))), (20, (.lstore_n 3, 21, (3, 0, 0, 0, []))), (21, (.iconst 0, 22, (0, 0, 0, 0, []))), (22, (.istore 5, 24, (5, 0, 0, 0, []))), (24, (.iload 5, 26, (5, 0, 0, 0, []))), (26, (.aload_n 0, 27, (0, 0, 0, 0, []))), (27, (.getfield 49, 30, (4, 6, 0, 227, []))), (30, (.if_icmp .ge 70, 33, (100, 0, 0, 0, []))), (33, (.aload_n 0, 34, (0, 0, 0, 0, []))), (34, (.getfield 15, 37, (4, 1, 2, 222, []))), (37, (.iload 5, 39, (5, 0, 0, 0, []))), (39, (.iaload, 40, (0, 0, 0, 0, []))), (40, (.istore 6, 42, (6, 0, 0, 0, []))), (42, (.iload 6, 44, (6, 0, 0, 0, []))), (44, (.iconst (-1), 45, (0, 0, 0, (-1), [])))]), (88, [(45, (.if_icmp .eq 49, 48, (94, 0, 0, 0, []))), (48, (.iload 6, 50, (6, 0, 0, 0, []))), (50, (.aload_n 0, 51, (0, 0, 0, 0, []))), (51, (.getfield 117, 54, (4, 8, 0, 229, []))), (54, (.if_icmp .ge 7, 57, (61, 0, 0, 0, []))), (57, (.lload_n 3, 58, (3, 0, 0, 0, []))), (58, (.goto 6, 61, (64, 0, 0, 0, []))), (61, (.lload_n 3, 62, (3, 0, 0, 0, []))), (62, (.lconst 1, 63, (0, 0, 0, 1, []))), (63, (.lsub, 64, (0, 0, 0, 0, []))), (64, (.lstore 7, 66, (7, 0, 0, 0, []))), (66, (.aload_n 2, 67, (2, 0, 0, 0, []))), (67, (.aload_n 1, 68, (1, 0, 0, 0, []))), (68, (.iload 5, 70, (5, 0, 0, 0, []))), (70, (.lload 7, 72, (7, 0, 0, 0, []))), (72, (.invokevirtual 124, 75, (77, 3, 7, 683, []))), (75, (.lstore 9, 77, (9, 0, 0, 0, []))), (77, (.lload 9, 79, (9, 0, 0, 0, []))), (79, (.lload 7, 81, (7, 0, 0, 0, []))), (81, (.lcmp, 82, (0, 0, 0, 0, []))), (82, (.ifCond .gt 12, 85, (94, 0, 0, 0, []))), (85, (.lload 9, 87, (9, 0, 0, 0, []))), (87, (.lstore_n 3, 88, (3, 0, 0, 0, []))), (88, (.aload_n 0, 89, (0, 0, 0, 0, [])))]), (109, [(89, (.iload 6, 91, (6, 0, 0, 0, []))), (91, (.putfield 117, 94, (4, 8, 0, 229, []))), (94, (.iinc 5 1, 97, (5, 0, 0, 1, []))), (97, (.goto (-73), 100, (24, 0, 0, 0, []))), (100, (.aload_n 0, 101, (0, 0, 0, 0, []))), (101, (.iconst 1, 102, (0, 0, 0, 1, []))), (102, (.putfield 34, 105, (4, 9, 3, 230, []))), (105, (.aload_n 0, 106, (0, 0, 0, 0, []))), (106, (.getfield 117, 109, (4, 8, 0, 229, []))), (109, (.ireturn, 110, (0, 0, 0, 0, [])))])]
def cd_X5_begin : bg_K := [(30, [(0, (.iload_n 1, 1, (1, 0, 0, 0, []))), (1, (.ifCond .lt 29, 4, (30, 0, 0, 0, []))), (4, (.iload_n 1, 5, (1, 0, 0, 0, []))), (5, (.iconst 4, 6, (0, 0, 0, 4, []))), (6, (.if_icmp .ge 24, 9, (30, 0, 0, 0, []))), (9, (.aload_n 0, 10, (0, 0, 0, 0, []))), (10, (.getfield 11, 13, (5, 0, 2, 319, []))), (13, (.iload_n 1, 14, (1, 0, 0, 0, []))), (14, (.iload_n 2, 15, (2, 0, 0, 0, []))), (15, (.iastore, 16, (0, 0, 0, 0, []))), (16, (.aload_n 0, 17, (0, 0, 0, 0, []))), (17, (.getfield 17, 20, (5, 1, 2, 320, []))), (20, (.iload_n 1, 21, (1, 0, 0, 0, []))), (21, (.iload_n 3, 22, (3, 0, 0, 0, []))), (22, (.iastore, 23, (0, 0, 0, 0, []))), (23, (.aload_n 0, 24, (0, 0, 0, 0, []))), (24, (.getfield 20, 27, (5, 2, 2, 321, []))), (27, (.iload_n 1, 28, (1, 0, 0, 0, []))), (28, (.iload_n 3, 29, (3, 0, 0, 0, []))), (29, (.iastore, 30, (0, 0, 0, 0, []))), (30, (.return_, 31, (0, 0, 0, 0, [])))])]
def cd_X5_leastSum : bg_K := [(43, [(0, (.iconst 1, 1, (0, 0, 0, 1, []))), (1, (.istore 4, 3, (4, 0, 0, 0, []))), (3, (.iload 4, 5, (4, 0, 0, 0, []))), (5, (.iload_n 1, 6, (1, 0, 0, 0, []))), (6, (.if_icmp .ge 96, 9, (102, 0, 0, 0, []))), (9, (.iload 4, 11, (4, 0, 0, 0, []))), (11, (.bipush 8, 13, (0, 0, 0, 8, []))), (13, (.if_icmp .ge 89, 16, (102, 0, 0, 0, []))), (16, (.iconst 0, 17, (0, 0, 0, 0, []))), (17, (.istore 5, 19, (5, 0, 0, 0, []))), (19, (.iload 5, 21, (5, 0, 0, 0, []))), (21, (.iconst 4, 22, (0, 0, 0, 4, []))), (22, (.if_icmp .ge 60, 25, (82, 0, 0, 0, []))), (25, (.aload_n 0, 26, (0, 0, 0, 0, []))), (26, (.iload 5, 28, (5, 0, 0, 0, []))), (28, (.iload_n 2, 29, (2, 0, 0, 0, []))), (29, (.iload_n 3, 30, (3, 0, 0, 0, []))), (30, (.invokevirtual 26, 33, (61, 3, 5, 814, []))), (33, (.istore 6, 35, (6, 0, 0, 0, []))), (35, (.aload_n 0, 36, (0, 0, 0, 0, []))), (36, (.getfield 23, 39, (5, 3, 2, 322, []))), (39, (.iload 5, 41, (5, 0, 0, 0, []))), (41, (.iload 6, 43, (6, 0, 0, 0, []))), (43, (.ldc 30, 45, (0, 818, 0, 2147483647, [])))]), (91, [(45, (.if_icmp .eq 15, 48, (60, 0, 0, 0, []))), (48, (.aload_n 0, 49, (0, 0, 0, 0, []))), (49, (.getfield 17, 52, (5, 1, 2, 320, []))), (52, (.iload 5, 54, (5, 0, 0, 0, []))), (54, (.iaload, 55, (0, 0, 0, 0, []))), (55, (.ldc 30, 57, (0, 818, 0, 2147483647, []))), (57, (.if_icmp .ne 8, 60, (65, 0, 0, 0, []))), (60, (.ldc 30, 62, (0, 818, 0, 2147483647, []))), (62, (.goto 13, 65, (75, 0, 0, 0, []))), (65, (.iload 6, 67, (6, 0, 0, 0, []))), (67, (.aload_n 0, 68, (0, 0, 0, 0, []))), (68, (.getfield 17, 71, (5, 1, 2, 320, []))), (71, (.iload 5, 73, (5, 0, 0, 0, []))), (73, (.iaload, 74, (0, 0, 0, 0, []))), (74, (.iadd, 75, (0, 0, 0, 0, []))), (75, (.iastore, 76, (0, 0, 0, 0, []))), (76, (.iinc 5 1, 79, (5, 0, 0, 1, []))), (79, (.goto (-60), 82, (19, 0, 0, 0, []))), (82, (.aload_n 0, 83, (0, 0, 0, 0, []))), (83, (.getfield 23, 86, (5, 3, 2, 322, []))), (86, (.iconst 0, 87, (0, 0, 0, 0, []))), (87, (.aload_n 0, 88, (0, 0, 0, 0, []))), (88, (.getfield 20, 91, (5, 2, 2, 321, []))), (91, (.iconst 0, 92, (0, 0, 0, 0, [])))]), (137, [(92, (.iconst 4, 93, (0, 0, 0, 4, []))), (93, (.invokestatic 31, 96, (0, 5, 1, 821, []))), (96, (.iinc 4 1, 99, (4, 0, 0, 1, []))), (99, (.goto (-96), 102, (3, 0, 0, 0, []))), (102, (.ldc 30, 104, (0, 818, 0, 2147483647, []))), (104, (.istore 4, 106, (4, 0, 0, 0, []))), (106, (.iconst 0, 107, (0, 0, 0, 0, []))), (107, (.istore 5, 109, (5, 0, 0, 0, []))), (109, (.iload 5, 111, (5, 0, 0, 0, []))), (111, (.iconst 4, 112, (0, 0, 0, 4, []))), (112, (.if_icmp .ge 23, 115, (135, 0, 0, 0, []))), (115, (.iload 4, 117, (4, 0, 0, 0, []))), (117, (.aload_n 0, 118, (0, 0, 0, 0, []))), (118, (.getfield 20, 121, (5, 2, 2, 321, []))), (121, (.iload 5, 123, (5, 0, 0, 0, []))), (123, (.iaload, 124, (0, 0, 0, 0, []))), (124, (.invokestatic 37, 127, (0, 2, 3, 820, []))), (127, (.istore 4, 129, (4, 0, 0, 0, []))), (129, (.iinc 5 1, 132, (5, 0, 0, 1, []))), (132, (.goto (-23), 135, (109, 0, 0, 0, []))), (135, (.iload 4, 137, (4, 0, 0, 0, []))), (137, (.ireturn, 138, (0, 0, 0, 0, [])))])]
def cd_X5_leastBefore : bg_K := [(44, [(0, (.ldc 30, 2, (0, 818, 0, 2147483647, []))), (2, (.istore 4, 4, (4, 0, 0, 0, []))), (4, (.iconst 0, 5, (0, 0, 0, 0, []))), (5, (.istore 5, 7, (5, 0, 0, 0, []))), (7, (.iload 5, 9, (5, 0, 0, 0, []))), (9, (.iconst 4, 10, (0, 0, 0, 4, []))), (10, (.if_icmp .ge 75, 13, (85, 0, 0, 0, []))), (13, (.iload_n 1, 14, (1, 0, 0, 0, []))), (14, (.ifCond .lt 71, 17, (85, 0, 0, 0, []))), (17, (.iload_n 1, 18, (1, 0, 0, 0, []))), (18, (.iconst 4, 19, (0, 0, 0, 4, []))), (19, (.if_icmp .ge 66, 22, (85, 0, 0, 0, []))), (22, (.iload_n 3, 23, (3, 0, 0, 0, []))), (23, (.ifCond .ne 9, 26, (32, 0, 0, 0, []))), (26, (.iload 5, 28, (5, 0, 0, 0, []))), (28, (.iload_n 1, 29, (1, 0, 0, 0, []))), (29, (.if_icmp .eq 7, 32, (36, 0, 0, 0, []))), (32, (.iconst 1, 33, (0, 0, 0, 1, []))), (33, (.goto 4, 36, (37, 0, 0, 0, []))), (36, (.iconst 0, 37, (0, 0, 0, 0, []))), (37, (.istore 6, 39, (6, 0, 0, 0, []))), (39, (.iload 6, 41, (6, 0, 0, 0, []))), (41, (.ifCond .eq 38, 44, (79, 0, 0, 0, []))), (44, (.aload_n 0, 45, (0, 0, 0, 0, [])))]), (87, [(45, (.getfield 11, 48, (5, 0, 2, 319, []))), (48, (.iload 5, 50, (5, 0, 0, 0, []))), (50, (.iaload, 51, (0, 0, 0, 0, []))), (51, (.aload_n 0, 52, (0, 0, 0, 0, []))), (52, (.getfield 11, 55, (5, 0, 2, 319, []))), (55, (.iload_n 1, 56, (1, 0, 0, 0, []))), (56, (.iaload, 57, (0, 0, 0, 0, []))), (57, (.ixor, 58, (0, 0, 0, 0, []))), (58, (.invokestatic 43, 61, (188, 1, 0, 819, []))), (61, (.iload_n 2, 62, (2, 0, 0, 0, []))), (62, (.if_icmp .gt 17, 65, (79, 0, 0, 0, []))), (65, (.iload 4, 67, (4, 0, 0, 0, []))), (67, (.aload_n 0, 68, (0, 0, 0, 0, []))), (68, (.getfield 20, 71, (5, 2, 2, 321, []))), (71, (.iload 5, 73, (5, 0, 0, 0, []))), (73, (.iaload, 74, (0, 0, 0, 0, []))), (74, (.invokestatic 37, 77, (0, 2, 3, 820, []))), (77, (.istore 4, 79, (4, 0, 0, 0, []))), (79, (.iinc 5 1, 82, (5, 0, 0, 1, []))), (82, (.goto (-75), 85, (7, 0, 0, 0, []))), (85, (.iload 4, 87, (4, 0, 0, 0, []))), (87, (.ireturn, 88, (0, 0, 0, 0, [])))])]
def cd_X6_hasRoomFor : bg_K := [(17, [(0, (.iload_n 1, 1, (1, 0, 0, 0, []))), (1, (.sipush 400, 4, (0, 0, 0, 400, []))), (4, (.aload_n 0, 5, (0, 0, 0, 0, []))), (5, (.getfield 18, 8, (6, 3, 0, 99, []))), (8, (.isub, 9, (0, 0, 0, 0, []))), (9, (.if_icmp .gt 7, 12, (16, 0, 0, 0, []))), (12, (.iconst 1, 13, (0, 0, 0, 1, []))), (13, (.goto 4, 16, (17, 0, 0, 0, []))), (16, (.iconst 0, 17, (0, 0, 0, 0, []))), (17, (.ireturn, 18, (0, 0, 1, 0, [])))])]
def cd_X6_append : bg_K := [(41, [(0, (.iload_n 1, 1, (1, 0, 0, 0, []))), (1, (.iconst 1, 2, (0, 0, 0, 1, []))), (2, (.isub, 3, (0, 0, 0, 0, []))), (3, (.istore 4, 5, (4, 0, 0, 0, []))), (5, (.iload 4, 7, (4, 0, 0, 0, []))), (7, (.ifCond .lt 50, 10, (57, 0, 0, 0, []))), (10, (.aload_n 0, 11, (0, 0, 0, 0, []))), (11, (.getfield 18, 14, (6, 3, 0, 99, []))), (14, (.sipush 400, 17, (0, 0, 0, 400, []))), (17, (.if_icmp .ge 40, 20, (57, 0, 0, 0, []))), (20, (.aload_n 0, 21, (0, 0, 0, 0, []))), (21, (.getfield 9, 24, (6, 0, 2, 96, []))), (24, (.aload_n 0, 25, (0, 0, 0, 0, []))), (25, (.getfield 18, 28, (6, 3, 0, 99, []))), (28, (.lload_n 2, 29, (2, 0, 0, 0, []))), (29, (.bipush 8, 31, (0, 0, 0, 8, []))), (31, (.iload 4, 33, (4, 0, 0, 0, []))), (33, (.imul, 34, (0, 0, 0, 0, []))), (34, (.lushr, 35, (0, 0, 0, 0, []))), (35, (.l2i, 36, (0, 0, 0, 0, []))), (36, (.sipush 255, 39, (0, 0, 0, 255, []))), (39, (.iand, 40, (0, 0, 0, 0, []))), (40, (.iastore, 41, (0, 0, 0, 0, []))), (41, (.aload_n 0, 42, (0, 0, 0, 0, [])))]), (57, [(42, (.dup, 43, (0, 0, 0, 0, []))), (43, (.getfield 18, 46, (6, 3, 0, 99, []))), (46, (.iconst 1, 47, (0, 0, 0, 1, []))), (47, (.iadd, 48, (0, 0, 0, 0, []))), (48, (.putfield 18, 51, (6, 3, 0, 99, []))), (51, (.iinc 4 (-1), 54, (4, 0, 0, (-1), []))), (54, (.goto (-49), 57, (5, 0, 0, 0, []))), (57, (.return_, 58, (0, 0, 0, 0, [])))])]
def cd_X6_readInto : bg_K := [(44, [(0, (.aload_n 1, 1, (1, 0, 0, 0, []))), (1, (.invokevirtual 22, 4, (30, 0, 2, 431, []))), (4, (.aload_n 0, 5, (0, 0, 0, 0, []))), (5, (.iconst 0, 6, (0, 0, 0, 0, []))), (6, (.putfield 27, 9, (6, 2, 0, 98, []))), (9, (.iconst 0, 10, (0, 0, 0, 0, []))), (10, (.istore_n 2, 11, (2, 0, 0, 0, []))), (11, (.iload_n 2, 12, (2, 0, 0, 0, []))), (12, (.sipush 400, 15, (0, 0, 0, 400, []))), (15, (.if_icmp .ge 54, 18, (69, 0, 0, 0, []))), (18, (.aload_n 0, 19, (0, 0, 0, 0, []))), (19, (.getfield 27, 22, (6, 2, 0, 98, []))), (22, (.aload_n 0, 23, (0, 0, 0, 0, []))), (23, (.getfield 18, 26, (6, 3, 0, 99, []))), (26, (.if_icmp .ge 43, 29, (69, 0, 0, 0, []))), (29, (.aload_n 0, 30, (0, 0, 0, 0, []))), (30, (.getfield 27, 33, (6, 2, 0, 98, []))), (33, (.istore_n 3, 34, (3, 0, 0, 0, []))), (34, (.aload_n 0, 35, (0, 0, 0, 0, []))), (35, (.invokevirtual 30, 38, (67, 0, 6, 432, []))), (38, (.istore 4, 40, (4, 0, 0, 0, []))), (40, (.aload_n 0, 41, (0, 0, 0, 0, []))), (41, (.invokevirtual 34, 44, (65, 0, 6, 436, []))), (44, (.istore 5, 46, (5, 0, 0, 0, [])))]), (70, [(46, (.aload_n 1, 47, (1, 0, 0, 0, []))), (47, (.iload 4, 49, (4, 0, 0, 0, []))), (49, (.aload_n 0, 50, (0, 0, 0, 0, []))), (50, (.getfield 15, 53, (6, 1, 2, 97, []))), (53, (.iload 5, 55, (5, 0, 0, 0, []))), (55, (.invokevirtual 37, 58, (32, 3, 2, 450, []))), (58, (.ifCond .ne 5, 61, (63, 0, 0, 0, []))), (61, (.iload_n 3, 62, (3, 0, 0, 0, []))), (62, (.ireturn, 63, (0, 0, 0, 0, []))), (63, (.iinc 2 1, 66, (2, 0, 0, 1, []))), (66, (.goto (-55), 69, (11, 0, 0, 0, []))), (69, (.iconst (-1), 70, (0, 0, 0, (-1), []))), (70, (.ireturn, 71, (0, 0, 0, 0, [])))])]
def cd_X6_readNumbers : bg_K := [(40, [(0, (.iconst 0, 1, (0, 0, 0, 0, []))), (1, (.istore_n 1, 2, (1, 0, 0, 0, []))), (2, (.iload_n 1, 3, (1, 0, 0, 0, []))), (3, (.bipush 7, 5, (0, 0, 0, 7, []))), (5, (.if_icmp .ge 54, 8, (59, 0, 0, 0, []))), (8, (.aload_n 0, 9, (0, 0, 0, 0, []))), (9, (.invokevirtual 41, 12, (66, 0, 6, 440, []))), (12, (.istore_n 2, 13, (2, 0, 0, 0, []))), (13, (.aload_n 0, 14, (0, 0, 0, 0, []))), (14, (.invokevirtual 30, 17, (67, 0, 6, 432, []))), (17, (.istore_n 3, 18, (3, 0, 0, 0, []))), (18, (.iload_n 2, 19, (2, 0, 0, 0, []))), (19, (.ifCond .lt 15, 22, (34, 0, 0, 0, []))), (22, (.iload_n 3, 23, (3, 0, 0, 0, []))), (23, (.bipush 44, 25, (0, 0, 0, 44, []))), (25, (.if_icmp .eq 11, 28, (36, 0, 0, 0, []))), (28, (.iload_n 3, 29, (3, 0, 0, 0, []))), (29, (.bipush 59, 31, (0, 0, 0, 59, []))), (31, (.if_icmp .eq 5, 34, (36, 0, 0, 0, []))), (34, (.iconst (-1), 35, (0, 0, 0, (-1), []))), (35, (.ireturn, 36, (0, 0, 0, 0, []))), (36, (.aload_n 0, 37, (0, 0, 0, 0, []))), (37, (.getfield 15, 40, (6, 1, 2, 97, []))), (40, (.iload_n 1, 41, (1, 0, 0, 0, [])))]), (60, [(41, (.iload_n 2, 42, (2, 0, 0, 0, []))), (42, (.iastore, 43, (0, 0, 0, 0, []))), (43, (.iload_n 3, 44, (3, 0, 0, 0, []))), (44, (.bipush 59, 46, (0, 0, 0, 59, []))), (46, (.if_icmp .ne 7, 49, (53, 0, 0, 0, []))), (49, (.iload_n 1, 50, (1, 0, 0, 0, []))), (50, (.iconst 1, 51, (0, 0, 0, 1, []))), (51, (.iadd, 52, (0, 0, 0, 0, []))), (52, (.ireturn, 53, (0, 0, 0, 0, []))), (53, (.iinc 1 1, 56, (1, 0, 0, 1, []))), (56, (.goto (-54), 59, (2, 0, 0, 0, []))), (59, (.iconst (-1), 60, (0, 0, 0, (-1), []))), (60, (.ireturn, 61, (0, 0, 0, 0, [])))])]
def cd_X6_readNumber : bg_K := [(43, [(0, (.iconst (-1), 1, (0, 0, 0, (-1), []))), (1, (.istore_n 1, 2, (1, 0, 0, 0, []))), (2, (.iconst 0, 3, (0, 0, 0, 0, []))), (3, (.istore_n 2, 4, (2, 0, 0, 0, []))), (4, (.iload_n 2, 5, (2, 0, 0, 0, []))), (5, (.iconst 3, 6, (0, 0, 0, 3, []))), (6, (.if_icmp .ge 74, 9, (80, 0, 0, 0, []))), (9, (.aload_n 0, 10, (0, 0, 0, 0, []))), (10, (.getfield 27, 13, (6, 2, 0, 98, []))), (13, (.ifCond .lt 67, 16, (80, 0, 0, 0, []))), (16, (.aload_n 0, 17, (0, 0, 0, 0, []))), (17, (.getfield 27, 20, (6, 2, 0, 98, []))), (20, (.aload_n 0, 21, (0, 0, 0, 0, []))), (21, (.getfield 18, 24, (6, 3, 0, 99, []))), (24, (.if_icmp .ge 56, 27, (80, 0, 0, 0, []))), (27, (.aload_n 0, 28, (0, 0, 0, 0, []))), (28, (.getfield 9, 31, (6, 0, 2, 96, []))), (31, (.aload_n 0, 32, (0, 0, 0, 0, []))), (32, (.getfield 27, 35, (6, 2, 0, 98, []))), (35, (.iaload, 36, (0, 0, 0, 0, []))), (36, (.invokestatic 44, 39, (68, 1, 0, 444, []))), (39, (.ifCond .eq 41, 42, (80, 0, 0, 0, []))), (42, (.iload_n 1, 43, (1, 0, 0, 0, []))), (43, (.iconst 0, 44, (0, 0, 0, 0, [])))]), (81, [(44, (.invokestatic 48, 47, (0, 2, 2, 447, []))), (47, (.bipush 10, 49, (0, 0, 0, 10, []))), (49, (.imul, 50, (0, 0, 0, 0, []))), (50, (.aload_n 0, 51, (0, 0, 0, 0, []))), (51, (.getfield 9, 54, (6, 0, 2, 96, []))), (54, (.aload_n 0, 55, (0, 0, 0, 0, []))), (55, (.getfield 27, 58, (6, 2, 0, 98, []))), (58, (.iaload, 59, (0, 0, 0, 0, []))), (59, (.iadd, 60, (0, 0, 0, 0, []))), (60, (.bipush 48, 62, (0, 0, 0, 48, []))), (62, (.isub, 63, (0, 0, 0, 0, []))), (63, (.istore_n 1, 64, (1, 0, 0, 0, []))), (64, (.aload_n 0, 65, (0, 0, 0, 0, []))), (65, (.dup, 66, (0, 0, 0, 0, []))), (66, (.getfield 27, 69, (6, 2, 0, 98, []))), (69, (.iconst 1, 70, (0, 0, 0, 1, []))), (70, (.iadd, 71, (0, 0, 0, 0, []))), (71, (.putfield 27, 74, (6, 2, 0, 98, []))), (74, (.iinc 2 1, 77, (2, 0, 0, 1, []))), (77, (.goto (-73), 80, (4, 0, 0, 0, []))), (80, (.iload_n 1, 81, (1, 0, 0, 0, []))), (81, (.ireturn, 82, (0, 0, 0, 0, [])))])]
def cd_X6_nextByte : bg_K := [(41, [(0, (.aload_n 0, 1, (0, 0, 0, 0, []))), (1, (.getfield 27, 4, (6, 2, 0, 98, []))), (4, (.ifCond .lt 14, 7, (18, 0, 0, 0, []))), (7, (.aload_n 0, 8, (0, 0, 0, 0, []))), (8, (.getfield 27, 11, (6, 2, 0, 98, []))), (11, (.aload_n 0, 12, (0, 0, 0, 0, []))), (12, (.getfield 18, 15, (6, 3, 0, 99, []))), (15, (.if_icmp .lt 5, 18, (20, 0, 0, 0, []))), (18, (.iconst (-1), 19, (0, 0, 0, (-1), []))), (19, (.ireturn, 20, (0, 0, 0, 0, []))), (20, (.aload_n 0, 21, (0, 0, 0, 0, []))), (21, (.getfield 9, 24, (6, 0, 2, 96, []))), (24, (.aload_n 0, 25, (0, 0, 0, 0, []))), (25, (.getfield 27, 28, (6, 2, 0, 98, []))), (28, (.iaload, 29, (0, 0, 0, 0, []))), (29, (.istore_n 1, 30, (1, 0, 0, 0, []))), (30, (.aload_n 0, 31, (0, 0, 0, 0, []))), (31, (.dup, 32, (0, 0, 0, 0, []))), (32, (.getfield 27, 35, (6, 2, 0, 98, []))), (35, (.iconst 1, 36, (0, 0, 0, 1, []))), (36, (.iadd, 37, (0, 0, 0, 0, []))), (37, (.putfield 27, 40, (6, 2, 0, 98, []))), (40, (.iload_n 1, 41, (1, 0, 0, 0, []))), (41, (.ireturn, 42, (0, 0, 0, 0, [])))])]
def cd_X6_isFigure : bg_K := [(17, [(0, (.iload_n 0, 1, (0, 0, 0, 0, []))), (1, (.bipush 48, 3, (0, 0, 0, 48, []))), (3, (.if_icmp .lt 13, 6, (16, 0, 0, 0, []))), (6, (.iload_n 0, 7, (0, 0, 0, 0, []))), (7, (.bipush 57, 9, (0, 0, 0, 57, []))), (9, (.if_icmp .gt 7, 12, (16, 0, 0, 0, []))), (12, (.iconst 1, 13, (0, 0, 0, 1, []))), (13, (.goto 4, 16, (17, 0, 0, 0, []))), (16, (.iconst 0, 17, (0, 0, 0, 0, []))), (17, (.ireturn, 18, (0, 0, 1, 0, [])))])]
def cd_X7_survey : bg_K := [(18, [(0, (.aload_n 0, 1, (0, 0, 0, 0, []))), (1, (.iconst 0, 2, (0, 0, 0, 0, []))), (2, (.putfield 24, 5, (7, 5, 0, 200, []))), (5, (.aload_n 0, 6, (0, 0, 0, 0, []))), (6, (.iconst 0, 7, (0, 0, 0, 0, []))), (7, (.putfield 28, 10, (7, 4, 0, 199, []))), (10, (.aload_n 0, 11, (0, 0, 0, 0, []))), (11, (.aload_n 1, 12, (1, 0, 0, 0, []))), (12, (.iconst 0, 13, (0, 0, 0, 0, []))), (13, (.iconst 1, 14, (0, 0, 0, 1, []))), (14, (.iconst 0, 15, (0, 0, 0, 0, []))), (15, (.invokestatic 31, 18, (70, 5, 0, 349, []))), (18, (.return_, 19, (0, 0, 0, 0, [])))])]
def cd_X7_follow : bg_K := [(45, [(0, (.iload_n 2, 1, (2, 0, 0, 0, []))), (1, (.bipush 7, 3, (0, 0, 0, 7, []))), (3, (.if_icmp .ne 11, 6, (14, 0, 0, 0, []))), (6, (.aload_n 0, 7, (0, 0, 0, 0, []))), (7, (.aload_n 1, 8, (1, 0, 0, 0, []))), (8, (.iload 4, 10, (4, 0, 0, 0, []))), (10, (.invokevirtual 35, 13, (71, 2, 7, 352, []))), (13, (.return_, 14, (0, 0, 0, 0, []))), (14, (.iload 4, 16, (4, 0, 0, 0, []))), (16, (.bipush 7, 18, (0, 0, 0, 7, []))), (18, (.if_icmp .lt 4, 21, (22, 0, 0, 0, []))), (21, (.return_, 22, (0, 0, 0, 0, []))), (22, (.iconst 0, 23, (0, 0, 0, 0, []))), (23, (.istore 5, 25, (5, 0, 0, 0, []))), (25, (.iload 5, 27, (5, 0, 0, 0, []))), (27, (.aload_n 1, 28, (1, 0, 0, 0, []))), (28, (.getfield 39, 31, (2, 3, 0, 136, []))), (31, (.if_icmp .ge 75, 34, (106, 0, 0, 0, []))), (34, (.iload 5, 36, (5, 0, 0, 0, []))), (36, (.bipush 12, 38, (0, 0, 0, 12, []))), (38, (.if_icmp .ge 68, 41, (106, 0, 0, 0, []))), (41, (.aload_n 1, 42, (1, 0, 0, 0, []))), (42, (.getfield 44, 45, (2, 0, 2, 128, []))), (45, (.iload 5, 47, (5, 0, 0, 0, [])))]), (83, [(47, (.aaload, 48, (0, 0, 0, 0, []))), (48, (.iconst 1, 49, (0, 0, 0, 1, []))), (49, (.iaload, 50, (0, 0, 0, 0, []))), (50, (.istore 6, 52, (6, 0, 0, 0, []))), (52, (.aload_n 1, 53, (1, 0, 0, 0, []))), (53, (.getfield 44, 56, (2, 0, 2, 128, []))), (56, (.iload 5, 58, (5, 0, 0, 0, []))), (58, (.aaload, 59, (0, 0, 0, 0, []))), (59, (.iconst 0, 60, (0, 0, 0, 0, []))), (60, (.iaload, 61, (0, 0, 0, 0, []))), (61, (.iload_n 2, 62, (2, 0, 0, 0, []))), (62, (.if_icmp .ne 38, 65, (100, 0, 0, 0, []))), (65, (.iload_n 3, 66, (3, 0, 0, 0, []))), (66, (.iload 6, 68, (6, 0, 0, 0, []))), (68, (.ishr, 69, (0, 0, 0, 0, []))), (69, (.iconst 1, 70, (0, 0, 0, 1, []))), (70, (.iand, 71, (0, 0, 0, 0, []))), (71, (.ifCond .ne 29, 74, (100, 0, 0, 0, []))), (74, (.aload_n 0, 75, (0, 0, 0, 0, []))), (75, (.getfield 21, 78, (7, 3, 2, 198, []))), (78, (.iload 4, 80, (4, 0, 0, 0, []))), (80, (.iload 5, 82, (5, 0, 0, 0, []))), (82, (.iastore, 83, (0, 0, 0, 0, []))), (83, (.aload_n 0, 84, (0, 0, 0, 0, [])))]), (106, [(84, (.aload_n 1, 85, (1, 0, 0, 0, []))), (85, (.iload 6, 87, (6, 0, 0, 0, []))), (87, (.iload_n 3, 88, (3, 0, 0, 0, []))), (88, (.iconst 1, 89, (0, 0, 0, 1, []))), (89, (.iload 6, 91, (6, 0, 0, 0, []))), (91, (.ishl, 92, (0, 0, 0, 0, []))), (92, (.ior, 93, (0, 0, 0, 0, []))), (93, (.iload 4, 95, (4, 0, 0, 0, []))), (95, (.iconst 1, 96, (0, 0, 0, 1, []))), (96, (.iadd, 97, (0, 0, 0, 0, []))), (97, (.invokestatic 31, 100, (70, 5, 0, 349, []))), (100, (.iinc 5 1, 103, (5, 0, 0, 1, []))), (103, (.goto (-78), 106, (25, 0, 0, 0, []))), (106, (.return_, 107, (0, 0, 0, 0, [])))])]
def cd_X7_add : bg_K := [(45, [(0, (.aload_n 0, 1, (0, 0, 0, 0, []))), (1, (.getfield 24, 4, (7, 5, 0, 200, []))), (4, (.ifCond .lt 13, 7, (17, 0, 0, 0, []))), (7, (.aload_n 0, 8, (0, 0, 0, 0, []))), (8, (.getfield 24, 11, (7, 5, 0, 200, []))), (11, (.sipush 400, 14, (0, 0, 0, 400, []))), (14, (.if_icmp .lt 4, 17, (18, 0, 0, 0, []))), (17, (.return_, 18, (0, 0, 0, 0, []))), (18, (.iconst 0, 19, (0, 0, 0, 0, []))), (19, (.istore_n 3, 20, (3, 0, 0, 0, []))), (20, (.iconst 0, 21, (0, 0, 0, 0, []))), (21, (.istore 4, 23, (4, 0, 0, 0, []))), (23, (.iload 4, 25, (4, 0, 0, 0, []))), (25, (.iload_n 2, 26, (2, 0, 0, 0, []))), (26, (.if_icmp .ge 51, 29, (77, 0, 0, 0, []))), (29, (.iload 4, 31, (4, 0, 0, 0, []))), (31, (.bipush 7, 33, (0, 0, 0, 7, []))), (33, (.if_icmp .ge 44, 36, (77, 0, 0, 0, []))), (36, (.aload_n 0, 37, (0, 0, 0, 0, []))), (37, (.getfield 21, 40, (7, 3, 2, 198, []))), (40, (.iload 4, 42, (4, 0, 0, 0, []))), (42, (.iaload, 43, (0, 0, 0, 0, []))), (43, (.istore 5, 45, (5, 0, 0, 0, []))), (45, (.iload_n 3, 46, (3, 0, 0, 0, [])))]), (87, [(46, (.aload_n 1, 47, (1, 0, 0, 0, []))), (47, (.iload 5, 49, (5, 0, 0, 0, []))), (49, (.invokevirtual 48, 52, (192, 1, 2, 356, []))), (52, (.iadd, 53, (0, 0, 0, 0, []))), (53, (.istore_n 3, 54, (3, 0, 0, 0, []))), (54, (.aload_n 0, 55, (0, 0, 0, 0, []))), (55, (.getfield 9, 58, (7, 0, 2, 195, []))), (58, (.aload_n 0, 59, (0, 0, 0, 0, []))), (59, (.getfield 24, 62, (7, 5, 0, 200, []))), (62, (.bipush 7, 64, (0, 0, 0, 7, []))), (64, (.imul, 65, (0, 0, 0, 0, []))), (65, (.iload 4, 67, (4, 0, 0, 0, []))), (67, (.iadd, 68, (0, 0, 0, 0, []))), (68, (.iload 5, 70, (5, 0, 0, 0, []))), (70, (.iastore, 71, (0, 0, 0, 0, []))), (71, (.iinc 4 1, 74, (4, 0, 0, 1, []))), (74, (.goto (-51), 77, (23, 0, 0, 0, []))), (77, (.aload_n 0, 78, (0, 0, 0, 0, []))), (78, (.getfield 15, 81, (7, 1, 2, 196, []))), (81, (.aload_n 0, 82, (0, 0, 0, 0, []))), (82, (.getfield 24, 85, (7, 5, 0, 200, []))), (85, (.iload_n 2, 86, (2, 0, 0, 0, []))), (86, (.iastore, 87, (0, 0, 0, 0, []))), (87, (.aload_n 0, 88, (0, 0, 0, 0, [])))]), (107, [(88, (.getfield 18, 91, (7, 2, 2, 197, []))), (91, (.aload_n 0, 92, (0, 0, 0, 0, []))), (92, (.getfield 24, 95, (7, 5, 0, 200, []))), (95, (.iload_n 3, 96, (3, 0, 0, 0, []))), (96, (.iastore, 97, (0, 0, 0, 0, []))), (97, (.aload_n 0, 98, (0, 0, 0, 0, []))), (98, (.dup, 99, (0, 0, 0, 0, []))), (99, (.getfield 24, 102, (7, 5, 0, 200, []))), (102, (.iconst 1, 103, (0, 0, 0, 1, []))), (103, (.iadd, 104, (0, 0, 0, 0, []))), (104, (.putfield 24, 107, (7, 5, 0, 200, []))), (107, (.return_, 108, (0, 0, 0, 0, [])))])]
def cd_X7_lengthOf : bg_K := [(21, [(0, (.iload_n 1, 1, (1, 0, 0, 0, []))), (1, (.ifCond .lt 19, 4, (20, 0, 0, 0, []))), (4, (.iload_n 1, 5, (1, 0, 0, 0, []))), (5, (.sipush 400, 8, (0, 0, 0, 400, []))), (8, (.if_icmp .ge 12, 11, (20, 0, 0, 0, []))), (11, (.aload_n 0, 12, (0, 0, 0, 0, []))), (12, (.getfield 15, 15, (7, 1, 2, 196, []))), (15, (.iload_n 1, 16, (1, 0, 0, 0, []))), (16, (.iaload, 17, (0, 0, 0, 0, []))), (17, (.goto 4, 20, (21, 0, 0, 0, []))), (20, (.iconst 0, 21, (0, 0, 0, 0, []))), (21, (.ireturn, 22, (0, 0, 0, 0, [])))])]
def cd_X7_pathAt : bg_K := [(36, [(0, (.iload_n 1, 1, (1, 0, 0, 0, []))), (1, (.ifCond .lt 34, 4, (35, 0, 0, 0, []))), (4, (.iload_n 1, 5, (1, 0, 0, 0, []))), (5, (.sipush 400, 8, (0, 0, 0, 400, []))), (8, (.if_icmp .ge 27, 11, (35, 0, 0, 0, []))), (11, (.iload_n 2, 12, (2, 0, 0, 0, []))), (12, (.ifCond .lt 23, 15, (35, 0, 0, 0, []))), (15, (.iload_n 2, 16, (2, 0, 0, 0, []))), (16, (.bipush 7, 18, (0, 0, 0, 7, []))), (18, (.if_icmp .ge 17, 21, (35, 0, 0, 0, []))), (21, (.aload_n 0, 22, (0, 0, 0, 0, []))), (22, (.getfield 9, 25, (7, 0, 2, 195, []))), (25, (.iload_n 1, 26, (1, 0, 0, 0, []))), (26, (.bipush 7, 28, (0, 0, 0, 7, []))), (28, (.imul, 29, (0, 0, 0, 0, []))), (29, (.iload_n 2, 30, (2, 0, 0, 0, []))), (30, (.iadd, 31, (0, 0, 0, 0, []))), (31, (.iaload, 32, (0, 0, 0, 0, []))), (32, (.goto 4, 35, (36, 0, 0, 0, []))), (35, (.iconst 0, 36, (0, 0, 0, 0, []))), (36, (.ireturn, 37, (0, 0, 0, 0, [])))])]
def cd_X7_leastBearing : bg_K := [(43, [(0, (.ldc 54, 2, (0, 645, 0, 2147483647, []))), (2, (.istore 4, 4, (4, 0, 0, 0, []))), (4, (.aload_n 0, 5, (0, 0, 0, 0, []))), (5, (.iload_n 3, 6, (3, 0, 0, 0, []))), (6, (.invokevirtual 55, 9, (72, 1, 7, 646, []))), (9, (.istore 5, 11, (5, 0, 0, 0, []))), (11, (.iconst 0, 12, (0, 0, 0, 0, []))), (12, (.istore 6, 14, (6, 0, 0, 0, []))), (14, (.iload 6, 16, (6, 0, 0, 0, []))), (16, (.iload 5, 18, (5, 0, 0, 0, []))), (18, (.if_icmp .ge 36, 21, (54, 0, 0, 0, []))), (21, (.iload 6, 23, (6, 0, 0, 0, []))), (23, (.bipush 7, 25, (0, 0, 0, 7, []))), (25, (.if_icmp .ge 29, 28, (54, 0, 0, 0, []))), (28, (.iload 4, 30, (4, 0, 0, 0, []))), (30, (.aload_n 1, 31, (1, 0, 0, 0, []))), (31, (.aload_n 0, 32, (0, 0, 0, 0, []))), (32, (.iload_n 3, 33, (3, 0, 0, 0, []))), (33, (.iload 6, 35, (6, 0, 0, 0, []))), (35, (.invokevirtual 58, 38, (73, 2, 7, 647, []))), (38, (.iload_n 2, 39, (2, 0, 0, 0, []))), (39, (.iconst 0, 40, (0, 0, 0, 0, []))), (40, (.invokevirtual 62, 43, (41, 3, 2, 648, []))), (43, (.invokestatic 66, 46, (0, 2, 3, 649, [])))]), (56, [(46, (.istore 4, 48, (4, 0, 0, 0, []))), (48, (.iinc 6 1, 51, (6, 0, 0, 1, []))), (51, (.goto (-37), 54, (14, 0, 0, 0, []))), (54, (.iload 4, 56, (4, 0, 0, 0, []))), (56, (.ireturn, 57, (0, 0, 0, 0, [])))])]
def cd_X7_gainOf : bg_K := [(44, [(0, (.iload_n 3, 1, (3, 0, 0, 0, []))), (1, (.ifCond .lt 10, 4, (11, 0, 0, 0, []))), (4, (.iload_n 3, 5, (3, 0, 0, 0, []))), (5, (.sipush 400, 8, (0, 0, 0, 400, []))), (8, (.if_icmp .lt 7, 11, (15, 0, 0, 0, []))), (11, (.ldc2_w 71, 14, (0, 660, 0, (-9223372036854775808), []))), (14, (.lreturn, 15, (0, 0, 0, 0, []))), (15, (.aload_n 1, 16, (1, 0, 0, 0, []))), (16, (.getfield 73, 19, (2, 6, 0, 145, []))), (19, (.i2l, 20, (0, 0, 0, 0, []))), (20, (.ldc2_w 76, 23, (0, 661, 0, 100000000000000, []))), (23, (.lmul, 24, (0, 0, 0, 0, []))), (24, (.lstore 4, 26, (4, 0, 0, 0, []))), (26, (.iconst 0, 27, (0, 0, 0, 0, []))), (27, (.istore 6, 29, (6, 0, 0, 0, []))), (29, (.iload 6, 31, (6, 0, 0, 0, []))), (31, (.aload_n 0, 32, (0, 0, 0, 0, []))), (32, (.getfield 15, 35, (7, 1, 2, 196, []))), (35, (.iload_n 3, 36, (3, 0, 0, 0, []))), (36, (.iaload, 37, (0, 0, 0, 0, []))), (37, (.if_icmp .ge 38, 40, (75, 0, 0, 0, []))), (40, (.iload 6, 42, (6, 0, 0, 0, []))), (42, (.bipush 7, 44, (0, 0, 0, 7, []))), (44, (.if_icmp .ge 31, 47, (75, 0, 0, 0, [])))]), (88, [(47, (.lload 4, 49, (4, 0, 0, 0, []))), (49, (.ldc2_w 78, 52, (0, 662, 0, 100, []))), (52, (.ldiv, 53, (0, 0, 0, 0, []))), (53, (.aload_n 1, 54, (1, 0, 0, 0, []))), (54, (.aload_n 0, 55, (0, 0, 0, 0, []))), (55, (.iload_n 3, 56, (3, 0, 0, 0, []))), (56, (.iload 6, 58, (6, 0, 0, 0, []))), (58, (.invokevirtual 58, 61, (73, 2, 7, 647, []))), (61, (.iload_n 2, 62, (2, 0, 0, 0, []))), (62, (.invokevirtual 80, 65, (191, 2, 2, 663, []))), (65, (.i2l, 66, (0, 0, 0, 0, []))), (66, (.lmul, 67, (0, 0, 0, 0, []))), (67, (.lstore 4, 69, (4, 0, 0, 0, []))), (69, (.iinc 6 1, 72, (6, 0, 0, 1, []))), (72, (.goto (-43), 75, (29, 0, 0, 0, []))), (75, (.lload 4, 77, (4, 0, 0, 0, []))), (77, (.aload_n 0, 78, (0, 0, 0, 0, []))), (78, (.getfield 18, 81, (7, 2, 2, 197, []))), (81, (.iload_n 3, 82, (3, 0, 0, 0, []))), (82, (.iaload, 83, (0, 0, 0, 0, []))), (83, (.i2l, 84, (0, 0, 0, 0, []))), (84, (.ldc2_w 76, 87, (0, 661, 0, 100000000000000, []))), (87, (.lmul, 88, (0, 0, 0, 0, []))), (88, (.lsub, 89, (0, 0, 0, 0, [])))]), (89, [(89, (.lreturn, 90, (0, 0, 0, 0, [])))])]
def cd_X7_bestOf : bg_K := [(41, [(0, (.iconst 0, 1, (0, 0, 0, 0, []))), (1, (.istore_n 3, 2, (3, 0, 0, 0, []))), (2, (.aload_n 0, 3, (0, 0, 0, 0, []))), (3, (.aload_n 1, 4, (1, 0, 0, 0, []))), (4, (.iload_n 2, 5, (2, 0, 0, 0, []))), (5, (.iconst 0, 6, (0, 0, 0, 0, []))), (6, (.invokevirtual 83, 9, (75, 3, 7, 672, []))), (9, (.lstore 4, 11, (4, 0, 0, 0, []))), (11, (.iconst 1, 12, (0, 0, 0, 1, []))), (12, (.istore 6, 14, (6, 0, 0, 0, []))), (14, (.iload 6, 16, (6, 0, 0, 0, []))), (16, (.aload_n 0, 17, (0, 0, 0, 0, []))), (17, (.getfield 24, 20, (7, 5, 0, 200, []))), (20, (.if_icmp .ge 42, 23, (62, 0, 0, 0, []))), (23, (.iload 6, 25, (6, 0, 0, 0, []))), (25, (.sipush 400, 28, (0, 0, 0, 400, []))), (28, (.if_icmp .ge 34, 31, (62, 0, 0, 0, []))), (31, (.aload_n 0, 32, (0, 0, 0, 0, []))), (32, (.aload_n 1, 33, (1, 0, 0, 0, []))), (33, (.iload_n 2, 34, (2, 0, 0, 0, []))), (34, (.iload 6, 36, (6, 0, 0, 0, []))), (36, (.invokevirtual 83, 39, (75, 3, 7, 672, []))), (39, (.lstore 7, 41, (7, 0, 0, 0, []))), (41, (.lload 7, 43, (7, 0, 0, 0, [])))]), (63, [(43, (.lload 4, 45, (4, 0, 0, 0, []))), (45, (.lcmp, 46, (0, 0, 0, 0, []))), (46, (.ifCond .le 10, 49, (56, 0, 0, 0, []))), (49, (.lload 7, 51, (7, 0, 0, 0, []))), (51, (.lstore 4, 53, (4, 0, 0, 0, []))), (53, (.iload 6, 55, (6, 0, 0, 0, []))), (55, (.istore_n 3, 56, (3, 0, 0, 0, []))), (56, (.iinc 6 1, 59, (6, 0, 0, 1, []))), (59, (.goto (-45), 62, (14, 0, 0, 0, []))), (62, (.iload_n 3, 63, (3, 0, 0, 0, []))), (63, (.ireturn, 64, (0, 0, 0, 0, [])))])]
def cd_X7_greatestGain : bg_K := [(43, [(0, (.aload_n 0, 1, (0, 0, 0, 0, []))), (1, (.getfield 24, 4, (7, 5, 0, 200, []))), (4, (.ifCond .gt 13, 7, (17, 0, 0, 0, []))), (7, (.aload_n 1, 8, (1, 0, 0, 0, []))), (8, (.getfield 87, 11, (2, 7, 0, 148, []))), (11, (.i2l, 12, (0, 0, 0, 0, []))), (12, (.ldc2_w 76, 15, (0, 661, 0, 100000000000000, []))), (15, (.lmul, 16, (0, 0, 0, 0, []))), (16, (.lreturn, 17, (0, 0, 0, 0, []))), (17, (.aload_n 0, 18, (0, 0, 0, 0, []))), (18, (.aload_n 1, 19, (1, 0, 0, 0, []))), (19, (.iload_n 2, 20, (2, 0, 0, 0, []))), (20, (.aload_n 0, 21, (0, 0, 0, 0, []))), (21, (.getfield 28, 24, (7, 4, 0, 199, []))), (24, (.invokevirtual 83, 27, (75, 3, 7, 672, []))), (27, (.lstore 5, 29, (5, 0, 0, 0, []))), (29, (.iconst 0, 30, (0, 0, 0, 0, []))), (30, (.istore 7, 32, (7, 0, 0, 0, []))), (32, (.iload 7, 34, (7, 0, 0, 0, []))), (34, (.aload_n 0, 35, (0, 0, 0, 0, []))), (35, (.getfield 24, 38, (7, 5, 0, 200, []))), (38, (.if_icmp .ge 52, 41, (90, 0, 0, 0, []))), (41, (.iload 7, 43, (7, 0, 0, 0, []))), (43, (.sipush 400, 46, (0, 0, 0, 400, [])))]), (92, [(46, (.if_icmp .ge 44, 49, (90, 0, 0, 0, []))), (49, (.lload 5, 51, (5, 0, 0, 0, []))), (51, (.lload_n 3, 52, (3, 0, 0, 0, []))), (52, (.lcmp, 53, (0, 0, 0, 0, []))), (53, (.ifCond .gt 37, 56, (90, 0, 0, 0, []))), (56, (.aload_n 0, 57, (0, 0, 0, 0, []))), (57, (.aload_n 1, 58, (1, 0, 0, 0, []))), (58, (.iload_n 2, 59, (2, 0, 0, 0, []))), (59, (.iload 7, 61, (7, 0, 0, 0, []))), (61, (.invokevirtual 83, 64, (75, 3, 7, 672, []))), (64, (.lstore 8, 66, (8, 0, 0, 0, []))), (66, (.lload 8, 68, (8, 0, 0, 0, []))), (68, (.lload 5, 70, (5, 0, 0, 0, []))), (70, (.lcmp, 71, (0, 0, 0, 0, []))), (71, (.ifCond .le 13, 74, (84, 0, 0, 0, []))), (74, (.lload 8, 76, (8, 0, 0, 0, []))), (76, (.lstore 5, 78, (5, 0, 0, 0, []))), (78, (.aload_n 0, 79, (0, 0, 0, 0, []))), (79, (.iload 7, 81, (7, 0, 0, 0, []))), (81, (.putfield 28, 84, (7, 4, 0, 199, []))), (84, (.iinc 7 1, 87, (7, 0, 0, 1, []))), (87, (.goto (-55), 90, (32, 0, 0, 0, []))), (90, (.lload 5, 92, (5, 0, 0, 0, []))), (92, (.lreturn, 93, (0, 0, 0, 0, [])))])]
def cd_X8_write : bg_K := [(43, [(0, (.iload_n 1, 1, (1, 0, 0, 0, []))), (1, (.iconst 1, 2, (0, 0, 0, 1, []))), (2, (.if_icmp .lt 9, 5, (11, 0, 0, 0, []))), (5, (.iload_n 1, 6, (1, 0, 0, 0, []))), (6, (.bipush 8, 8, (0, 0, 0, 8, []))), (8, (.if_icmp .le 5, 11, (13, 0, 0, 0, []))), (11, (.iconst (-1), 12, (0, 0, 0, (-1), []))), (12, (.ireturn, 13, (0, 0, 0, 0, []))), (13, (.aload_n 0, 14, (0, 0, 0, 0, []))), (14, (.getfield 14, 17, (8, 0, 2, 364, []))), (17, (.iload_n 1, 18, (1, 0, 0, 0, []))), (18, (.invokevirtual 92, 21, (62, 1, 6, 411, []))), (21, (.ifCond .ne 6, 24, (27, 0, 0, 0, []))), (24, (.bipush (-3), 26, (0, 0, 0, (-3), []))), (26, (.ireturn, 27, (0, 0, 0, 0, []))), (27, (.aload_n 0, 28, (0, 0, 0, 0, []))), (28, (.getfield 14, 31, (8, 0, 2, 364, []))), (31, (.iload_n 1, 32, (1, 0, 0, 0, []))), (32, (.lload_n 2, 33, (2, 0, 0, 0, []))), (33, (.invokevirtual 96, 36, (63, 2, 6, 415, []))), (36, (.aload_n 0, 37, (0, 0, 0, 0, []))), (37, (.getfield 14, 40, (8, 0, 2, 364, []))), (40, (.getfield 100, 43, (6, 3, 0, 100, []))), (43, (.ireturn, 44, (0, 0, 0, 0, [])))])]
def cd_X8_wipe : bg_K := [(17, [(0, (.aload_n 0, 1, (0, 0, 0, 0, []))), (1, (.getfield 14, 4, (8, 0, 2, 364, []))), (4, (.getfield 100, 7, (6, 3, 0, 100, []))), (7, (.istore_n 1, 8, (1, 0, 0, 0, []))), (8, (.aload_n 0, 9, (0, 0, 0, 0, []))), (9, (.getfield 14, 12, (8, 0, 2, 364, []))), (12, (.iconst 0, 13, (0, 0, 0, 0, []))), (13, (.putfield 100, 16, (6, 3, 0, 100, []))), (16, (.iload_n 1, 17, (1, 0, 0, 0, []))), (17, (.ireturn, 18, (0, 0, 0, 0, [])))])]
def cd_X8_fault : bg_K := [(22, [(0, (.aload_n 0, 1, (0, 0, 0, 0, []))), (1, (.getfield 14, 4, (8, 0, 2, 364, []))), (4, (.aload_n 0, 5, (0, 0, 0, 0, []))), (5, (.getfield 21, 8, (8, 1, 2, 365, []))), (8, (.invokevirtual 103, 11, (64, 1, 6, 427, []))), (11, (.istore_n 1, 12, (1, 0, 0, 0, []))), (12, (.iload_n 1, 13, (1, 0, 0, 0, []))), (13, (.ifCond .ge 8, 16, (21, 0, 0, 0, []))), (16, (.bipush (-4), 18, (0, 0, 0, (-4), []))), (18, (.goto 4, 21, (22, 0, 0, 0, []))), (21, (.iload_n 1, 22, (1, 0, 0, 0, []))), (22, (.ireturn, 23, (0, 0, 0, 0, [])))])]
def cd_X8_lay : bg_K := [(48, [(0, (.aload_n 0, 1, (0, 0, 0, 0, []))), (1, (.getfield 14, 4, (8, 0, 2, 364, []))), (4, (.aload_n 0, 5, (0, 0, 0, 0, []))), (5, (.getfield 21, 8, (8, 1, 2, 365, []))), (8, (.invokevirtual 103, 11, (64, 1, 6, 427, []))), (11, (.ifCond .lt 6, 14, (17, 0, 0, 0, []))), (14, (.bipush (-2), 16, (0, 0, 0, (-2), []))), (16, (.ireturn, 17, (0, 0, 0, 0, []))), (17, (.aload_n 0, 18, (0, 0, 0, 0, []))), (18, (.getfield 25, 21, (8, 2, 2, 366, []))), (21, (.aload_n 0, 22, (0, 0, 0, 0, []))), (22, (.getfield 21, 25, (8, 1, 2, 365, []))), (25, (.invokevirtual 107, 28, (31, 1, 2, 476, []))), (28, (.aload_n 0, 29, (0, 0, 0, 0, []))), (29, (.getfield 52, 32, (8, 6, 2, 370, []))), (32, (.invokevirtual 111, 35, (43, 0, 3, 483, []))), (35, (.aload_n 0, 36, (0, 0, 0, 0, []))), (36, (.getfield 74, 39, (8, 10, 2, 374, []))), (39, (.iconst 0, 40, (0, 0, 0, 0, []))), (40, (.invokestatic 114, 43, (190, 2, 0, 484, []))), (43, (.aload_n 0, 44, (0, 0, 0, 0, []))), (44, (.getfield 70, 47, (8, 9, 2, 373, []))), (47, (.iconst 0, 48, (0, 0, 0, 0, []))), (48, (.invokestatic 114, 51, (190, 2, 0, 484, [])))]), (62, [(51, (.aload_n 0, 52, (0, 0, 0, 0, []))), (52, (.invokevirtual 89, 55, (108, 0, 8, 334, []))), (55, (.aload_n 0, 56, (0, 0, 0, 0, []))), (56, (.getfield 25, 59, (8, 2, 2, 366, []))), (59, (.getfield 120, 62, (2, 3, 0, 137, []))), (62, (.ireturn, 63, (0, 0, 0, 0, [])))])]
def cd_X8_path : bg_K := [(34, [(0, (.aload_n 0, 1, (0, 0, 0, 0, []))), (1, (.getfield 25, 4, (8, 2, 2, 366, []))), (4, (.iload_n 1, 5, (1, 0, 0, 0, []))), (5, (.invokevirtual 123, 8, (36, 1, 2, 489, []))), (8, (.ifCond .eq 13, 11, (21, 0, 0, 0, []))), (11, (.iload_n 2, 12, (2, 0, 0, 0, []))), (12, (.ifCond .lt 9, 15, (21, 0, 0, 0, []))), (15, (.iload_n 2, 16, (2, 0, 0, 0, []))), (16, (.bipush 7, 18, (0, 0, 0, 7, []))), (18, (.if_icmp .lt 5, 21, (23, 0, 0, 0, []))), (21, (.iconst (-1), 22, (0, 0, 0, (-1), []))), (22, (.ireturn, 23, (0, 0, 0, 0, []))), (23, (.aload_n 0, 24, (0, 0, 0, 0, []))), (24, (.getfield 25, 27, (8, 2, 2, 366, []))), (27, (.getfield 126, 30, (2, 0, 2, 129, []))), (30, (.iload_n 1, 31, (1, 0, 0, 0, []))), (31, (.aaload, 32, (0, 0, 0, 0, []))), (32, (.iload_n 2, 33, (2, 0, 0, 0, []))), (33, (.iaload, 34, (0, 0, 0, 0, []))), (34, (.ireturn, 35, (0, 0, 0, 0, [])))])]
def cd_X8_posts : bg_K := [(43, [(0, (.aload_n 0, 1, (0, 0, 0, 0, []))), (1, (.getfield 25, 4, (8, 2, 2, 366, []))), (4, (.iload_n 1, 5, (1, 0, 0, 0, []))), (5, (.invokevirtual 130, 8, (37, 1, 2, 494, []))), (8, (.ifCond .eq 12, 11, (20, 0, 0, 0, []))), (11, (.iload_n 2, 12, (2, 0, 0, 0, []))), (12, (.ifCond .lt 8, 15, (20, 0, 0, 0, []))), (15, (.iload_n 2, 16, (2, 0, 0, 0, []))), (16, (.iconst 2, 17, (0, 0, 0, 2, []))), (17, (.if_icmp .le 5, 20, (22, 0, 0, 0, []))), (20, (.iconst (-1), 21, (0, 0, 0, (-1), []))), (21, (.ireturn, 22, (0, 0, 0, 0, []))), (22, (.iload_n 2, 23, (2, 0, 0, 0, []))), (23, (.ifCond .ne 12, 26, (35, 0, 0, 0, []))), (26, (.aload_n 0, 27, (0, 0, 0, 0, []))), (27, (.getfield 25, 30, (8, 2, 2, 366, []))), (30, (.iload_n 1, 31, (1, 0, 0, 0, []))), (31, (.invokevirtual 133, 34, (38, 1, 2, 498, []))), (34, (.ireturn, 35, (0, 0, 0, 0, []))), (35, (.aload_n 0, 36, (0, 0, 0, 0, []))), (36, (.getfield 25, 39, (8, 2, 2, 366, []))), (39, (.iload_n 1, 40, (1, 0, 0, 0, []))), (40, (.invokevirtual 137, 43, (39, 1, 2, 502, []))), (43, (.istore_n 3, 44, (3, 0, 0, 0, [])))]), (61, [(44, (.iload_n 2, 45, (2, 0, 0, 0, []))), (45, (.iconst 1, 46, (0, 0, 0, 1, []))), (46, (.if_icmp .ne 7, 49, (53, 0, 0, 0, []))), (49, (.iload_n 3, 50, (3, 0, 0, 0, []))), (50, (.goto 11, 53, (61, 0, 0, 0, []))), (53, (.aload_n 0, 54, (0, 0, 0, 0, []))), (54, (.getfield 25, 57, (8, 2, 2, 366, []))), (57, (.iload_n 3, 58, (3, 0, 0, 0, []))), (58, (.invokevirtual 140, 61, (40, 1, 2, 506, []))), (61, (.ireturn, 62, (0, 0, 0, 0, [])))])]
def cd_X8_bears : bg_K := [(41, [(0, (.aload_n 0, 1, (0, 0, 0, 0, []))), (1, (.getfield 25, 4, (8, 2, 2, 366, []))), (4, (.iload_n 1, 5, (1, 0, 0, 0, []))), (5, (.invokevirtual 130, 8, (37, 1, 2, 494, []))), (8, (.ifCond .eq 14, 11, (22, 0, 0, 0, []))), (11, (.aload_n 0, 12, (0, 0, 0, 0, []))), (12, (.getfield 25, 15, (8, 2, 2, 366, []))), (15, (.iload_n 2, 16, (2, 0, 0, 0, []))), (16, (.invokevirtual 123, 19, (36, 1, 2, 489, []))), (19, (.ifCond .ne 5, 22, (24, 0, 0, 0, []))), (22, (.iconst (-1), 23, (0, 0, 0, (-1), []))), (23, (.ireturn, 24, (0, 0, 0, 0, []))), (24, (.aload_n 0, 25, (0, 0, 0, 0, []))), (25, (.getfield 25, 28, (8, 2, 2, 366, []))), (28, (.iload_n 2, 29, (2, 0, 0, 0, []))), (29, (.aload_n 0, 30, (0, 0, 0, 0, []))), (30, (.getfield 25, 33, (8, 2, 2, 366, []))), (33, (.iload_n 1, 34, (1, 0, 0, 0, []))), (34, (.invokevirtual 137, 37, (39, 1, 2, 502, []))), (37, (.iconst 0, 38, (0, 0, 0, 0, []))), (38, (.invokevirtual 143, 41, (41, 3, 2, 514, []))), (41, (.ireturn, 42, (0, 0, 0, 0, [])))])]
def cd_X8_most : bg_K := [(37, [(0, (.aload_n 0, 1, (0, 0, 0, 0, []))), (1, (.getfield 25, 4, (8, 2, 2, 366, []))), (4, (.iload_n 1, 5, (1, 0, 0, 0, []))), (5, (.invokevirtual 130, 8, (37, 1, 2, 494, []))), (8, (.ifCond .eq 12, 11, (20, 0, 0, 0, []))), (11, (.iload_n 2, 12, (2, 0, 0, 0, []))), (12, (.ifCond .lt 8, 15, (20, 0, 0, 0, []))), (15, (.iload_n 2, 16, (2, 0, 0, 0, []))), (16, (.iconst 2, 17, (0, 0, 0, 2, []))), (17, (.if_icmp .le 5, 20, (22, 0, 0, 0, []))), (20, (.iconst (-1), 21, (0, 0, 0, (-1), []))), (21, (.ireturn, 22, (0, 0, 0, 0, []))), (22, (.aload_n 0, 23, (0, 0, 0, 0, []))), (23, (.iload_n 1, 24, (1, 0, 0, 0, []))), (24, (.iconst (-1), 25, (0, 0, 0, (-1), []))), (25, (.invokevirtual 147, 28, (109, 2, 8, 526, []))), (28, (.istore_n 3, 29, (3, 0, 0, 0, []))), (29, (.iload_n 2, 30, (2, 0, 0, 0, []))), (30, (.ifCond .ne 5, 33, (35, 0, 0, 0, []))), (33, (.iload_n 3, 34, (3, 0, 0, 0, []))), (34, (.ireturn, 35, (0, 0, 0, 0, []))), (35, (.iload_n 2, 36, (2, 0, 0, 0, []))), (36, (.iconst 1, 37, (0, 0, 0, 1, []))), (37, (.if_icmp .ne 13, 40, (50, 0, 0, 0, [])))]), (57, [(40, (.aload_n 0, 41, (0, 0, 0, 0, []))), (41, (.getfield 31, 44, (8, 3, 2, 367, []))), (44, (.getfield 151, 47, (0, 3, 0, 179, []))), (47, (.goto 10, 50, (57, 0, 0, 0, []))), (50, (.aload_n 0, 51, (0, 0, 0, 0, []))), (51, (.getfield 31, 54, (8, 3, 2, 367, []))), (54, (.invokevirtual 154, 57, (12, 0, 0, 540, []))), (57, (.ireturn, 58, (0, 0, 0, 0, [])))])]
def cd_X8_row : bg_K := [(37, [(0, (.iload_n 1, 1, (1, 0, 0, 0, []))), (1, (.ifCond .lt 19, 4, (20, 0, 0, 0, []))), (4, (.iload_n 1, 5, (1, 0, 0, 0, []))), (5, (.bipush 12, 7, (0, 0, 0, 12, []))), (7, (.if_icmp .ge 13, 10, (20, 0, 0, 0, []))), (10, (.iload_n 2, 11, (2, 0, 0, 0, []))), (11, (.ifCond .lt 9, 14, (20, 0, 0, 0, []))), (14, (.iload_n 2, 15, (2, 0, 0, 0, []))), (15, (.bipush 99, 17, (0, 0, 0, 99, []))), (17, (.if_icmp .le 5, 20, (22, 0, 0, 0, []))), (20, (.iconst (-1), 21, (0, 0, 0, (-1), []))), (21, (.ireturn, 22, (0, 0, 0, 0, []))), (22, (.aload_n 0, 23, (0, 0, 0, 0, []))), (23, (.getfield 70, 26, (8, 9, 2, 373, []))), (26, (.iload_n 1, 27, (1, 0, 0, 0, []))), (27, (.iaload, 28, (0, 0, 0, 0, []))), (28, (.istore_n 3, 29, (3, 0, 0, 0, []))), (29, (.aload_n 0, 30, (0, 0, 0, 0, []))), (30, (.getfield 70, 33, (8, 9, 2, 373, []))), (33, (.iload_n 1, 34, (1, 0, 0, 0, []))), (34, (.iload_n 2, 35, (2, 0, 0, 0, []))), (35, (.iastore, 36, (0, 0, 0, 0, []))), (36, (.iload_n 3, 37, (3, 0, 0, 0, []))), (37, (.ireturn, 38, (0, 0, 0, 0, [])))])]
def cd_X8_judge : bg_K := [(40, [(0, (.aload_n 0, 1, (0, 0, 0, 0, []))), (1, (.getfield 25, 4, (8, 2, 2, 366, []))), (4, (.iload_n 1, 5, (1, 0, 0, 0, []))), (5, (.invokevirtual 130, 8, (37, 1, 2, 494, []))), (8, (.ifCond .ne 5, 11, (13, 0, 0, 0, []))), (11, (.iconst (-1), 12, (0, 0, 0, (-1), []))), (12, (.ireturn, 13, (0, 0, 0, 0, []))), (13, (.aload_n 0, 14, (0, 0, 0, 0, []))), (14, (.getfield 25, 17, (8, 2, 2, 366, []))), (17, (.iload_n 1, 18, (1, 0, 0, 0, []))), (18, (.invokevirtual 137, 21, (39, 1, 2, 502, []))), (21, (.istore_n 2, 22, (2, 0, 0, 0, []))), (22, (.iconst 0, 23, (0, 0, 0, 0, []))), (23, (.istore_n 3, 24, (3, 0, 0, 0, []))), (24, (.iload_n 3, 25, (3, 0, 0, 0, []))), (25, (.bipush 12, 27, (0, 0, 0, 12, []))), (27, (.if_icmp .ge 30, 30, (57, 0, 0, 0, []))), (30, (.aload_n 0, 31, (0, 0, 0, 0, []))), (31, (.getfield 70, 34, (8, 9, 2, 373, []))), (34, (.iload_n 3, 35, (3, 0, 0, 0, []))), (35, (.iaload, 36, (0, 0, 0, 0, []))), (36, (.aload_n 0, 37, (0, 0, 0, 0, []))), (37, (.getfield 25, 40, (8, 2, 2, 366, []))), (40, (.iload_n 3, 41, (3, 0, 0, 0, [])))]), (84, [(41, (.iload_n 2, 42, (2, 0, 0, 0, []))), (42, (.iconst 0, 43, (0, 0, 0, 0, []))), (43, (.invokevirtual 143, 46, (41, 3, 2, 514, []))), (46, (.if_icmp .le 5, 49, (51, 0, 0, 0, []))), (49, (.iload_n 3, 50, (3, 0, 0, 0, []))), (50, (.ireturn, 51, (0, 0, 0, 0, []))), (51, (.iinc 3 1, 54, (3, 0, 0, 1, []))), (54, (.goto (-30), 57, (24, 0, 0, 0, []))), (57, (.iconst 1, 58, (0, 0, 0, 1, []))), (58, (.istore_n 3, 59, (3, 0, 0, 0, []))), (59, (.iload_n 3, 60, (3, 0, 0, 0, []))), (60, (.bipush 7, 62, (0, 0, 0, 7, []))), (62, (.if_icmp .ge 29, 65, (91, 0, 0, 0, []))), (65, (.aload_n 0, 66, (0, 0, 0, 0, []))), (66, (.getfield 25, 69, (8, 2, 2, 366, []))), (69, (.iload_n 3, 70, (3, 0, 0, 0, []))), (70, (.aload_n 0, 71, (0, 0, 0, 0, []))), (71, (.getfield 70, 74, (8, 9, 2, 373, []))), (74, (.invokevirtual 158, 77, (42, 2, 2, 552, []))), (77, (.ifCond .eq 8, 80, (85, 0, 0, 0, []))), (80, (.bipush 100, 82, (0, 0, 0, 100, []))), (82, (.iload_n 3, 83, (3, 0, 0, 0, []))), (83, (.iadd, 84, (0, 0, 0, 0, []))), (84, (.ireturn, 85, (0, 0, 0, 0, [])))]), (120, [(85, (.iinc 3 1, 88, (3, 0, 0, 1, []))), (88, (.goto (-29), 91, (59, 0, 0, 0, []))), (91, (.aload_n 0, 92, (0, 0, 0, 0, []))), (92, (.getfield 25, 95, (8, 2, 2, 366, []))), (95, (.bipush 7, 97, (0, 0, 0, 7, []))), (97, (.aload_n 0, 98, (0, 0, 0, 0, []))), (98, (.getfield 70, 101, (8, 9, 2, 373, []))), (101, (.invokevirtual 158, 104, (42, 2, 2, 552, []))), (104, (.istore_n 3, 105, (3, 0, 0, 0, []))), (105, (.iload_n 3, 106, (3, 0, 0, 0, []))), (106, (.ifCond .ge 9, 109, (115, 0, 0, 0, []))), (109, (.sipush 199, 112, (0, 0, 0, 199, []))), (112, (.goto 8, 115, (120, 0, 0, 0, []))), (115, (.sipush 200, 118, (0, 0, 0, 200, []))), (118, (.iload_n 3, 119, (3, 0, 0, 0, []))), (119, (.iadd, 120, (0, 0, 0, 0, []))), (120, (.ireturn, 121, (0, 0, 0, 0, [])))])]
def cd_X8_best : bg_K := [(43, [(0, (.iload_n 1, 1, (1, 0, 0, 0, []))), (1, (.ifCond .lt 19, 4, (20, 0, 0, 0, []))), (4, (.iload_n 1, 5, (1, 0, 0, 0, []))), (5, (.sipush 300, 8, (0, 0, 0, 300, []))), (8, (.if_icmp .gt 12, 11, (20, 0, 0, 0, []))), (11, (.iload_n 2, 12, (2, 0, 0, 0, []))), (12, (.ifCond .lt 8, 15, (20, 0, 0, 0, []))), (15, (.iload_n 2, 16, (2, 0, 0, 0, []))), (16, (.iconst 2, 17, (0, 0, 0, 2, []))), (17, (.if_icmp .le 5, 20, (22, 0, 0, 0, []))), (20, (.iconst (-1), 21, (0, 0, 0, (-1), []))), (21, (.ireturn, 22, (0, 0, 0, 0, []))), (22, (.aload_n 0, 23, (0, 0, 0, 0, []))), (23, (.getfield 45, 26, (8, 5, 2, 369, []))), (26, (.aload_n 0, 27, (0, 0, 0, 0, []))), (27, (.getfield 25, 30, (8, 2, 2, 366, []))), (30, (.aload_n 0, 31, (0, 0, 0, 0, []))), (31, (.getfield 31, 34, (8, 3, 2, 367, []))), (34, (.invokevirtual 162, 37, (49, 2, 4, 560, []))), (37, (.iload_n 2, 38, (2, 0, 0, 0, []))), (38, (.iconst 1, 39, (0, 0, 0, 1, []))), (39, (.if_icmp .ne 12, 42, (51, 0, 0, 0, []))), (42, (.aload_n 0, 43, (0, 0, 0, 0, []))), (43, (.getfield 45, 46, (8, 5, 2, 369, [])))]), (76, [(46, (.iload_n 1, 47, (1, 0, 0, 0, []))), (47, (.invokevirtual 166, 50, (51, 1, 4, 596, []))), (50, (.ireturn, 51, (0, 0, 0, 0, []))), (51, (.aload_n 0, 52, (0, 0, 0, 0, []))), (52, (.getfield 45, 55, (8, 5, 2, 369, []))), (55, (.iload_n 1, 56, (1, 0, 0, 0, []))), (56, (.invokevirtual 169, 59, (50, 1, 4, 601, []))), (59, (.istore_n 3, 60, (3, 0, 0, 0, []))), (60, (.iload_n 2, 61, (2, 0, 0, 0, []))), (61, (.ifCond .ne 7, 64, (68, 0, 0, 0, []))), (64, (.iload_n 3, 65, (3, 0, 0, 0, []))), (65, (.goto 11, 68, (76, 0, 0, 0, []))), (68, (.aload_n 0, 69, (0, 0, 0, 0, []))), (69, (.getfield 25, 72, (8, 2, 2, 366, []))), (72, (.iload_n 3, 73, (3, 0, 0, 0, []))), (73, (.invokevirtual 133, 76, (38, 1, 2, 498, []))), (76, (.ireturn, 77, (0, 0, 0, 0, [])))])]
def cd_X8_fewest : bg_K := [(45, [(0, (.iload_n 1, 1, (1, 0, 0, 0, []))), (1, (.ifCond .lt 10, 4, (11, 0, 0, 0, []))), (4, (.iload_n 1, 5, (1, 0, 0, 0, []))), (5, (.sipush 9999, 8, (0, 0, 0, 9999, []))), (8, (.if_icmp .le 5, 11, (13, 0, 0, 0, []))), (11, (.iconst (-1), 12, (0, 0, 0, (-1), []))), (12, (.ireturn, 13, (0, 0, 0, 0, []))), (13, (.aload_n 0, 14, (0, 0, 0, 0, []))), (14, (.getfield 45, 17, (8, 5, 2, 369, []))), (17, (.aload_n 0, 18, (0, 0, 0, 0, []))), (18, (.getfield 25, 21, (8, 2, 2, 366, []))), (21, (.aload_n 0, 22, (0, 0, 0, 0, []))), (22, (.getfield 31, 25, (8, 3, 2, 367, []))), (25, (.invokevirtual 162, 28, (49, 2, 4, 560, []))), (28, (.iconst 0, 29, (0, 0, 0, 0, []))), (29, (.istore_n 2, 30, (2, 0, 0, 0, []))), (30, (.iload_n 2, 31, (2, 0, 0, 0, []))), (31, (.sipush 300, 34, (0, 0, 0, 300, []))), (34, (.if_icmp .gt 23, 37, (57, 0, 0, 0, []))), (37, (.aload_n 0, 38, (0, 0, 0, 0, []))), (38, (.getfield 45, 41, (8, 5, 2, 369, []))), (41, (.iload_n 2, 42, (2, 0, 0, 0, []))), (42, (.invokevirtual 166, 45, (51, 1, 4, 596, []))), (45, (.iload_n 1, 46, (1, 0, 0, 0, [])))]), (59, [(46, (.if_icmp .gt 5, 49, (51, 0, 0, 0, []))), (49, (.iload_n 2, 50, (2, 0, 0, 0, []))), (50, (.ireturn, 51, (0, 0, 0, 0, []))), (51, (.iinc 2 1, 54, (2, 0, 0, 1, []))), (54, (.goto (-24), 57, (30, 0, 0, 0, []))), (57, (.bipush (-4), 59, (0, 0, 0, (-4), []))), (59, (.ireturn, 60, (0, 0, 0, 0, [])))])]
def cd_X8_more : bg_K := [(46, [(0, (.aload_n 0, 1, (0, 0, 0, 0, []))), (1, (.getfield 45, 4, (8, 5, 2, 369, []))), (4, (.aload_n 0, 5, (0, 0, 0, 0, []))), (5, (.getfield 25, 8, (8, 2, 2, 366, []))), (8, (.aload_n 0, 9, (0, 0, 0, 0, []))), (9, (.getfield 31, 12, (8, 3, 2, 367, []))), (12, (.invokevirtual 162, 15, (49, 2, 4, 560, []))), (15, (.aload_n 0, 16, (0, 0, 0, 0, []))), (16, (.getfield 45, 19, (8, 5, 2, 369, []))), (19, (.aload_n 0, 20, (0, 0, 0, 0, []))), (20, (.getfield 25, 23, (8, 2, 2, 366, []))), (23, (.getfield 172, 26, (2, 5, 0, 143, []))), (26, (.invokevirtual 166, 29, (51, 1, 4, 596, []))), (29, (.aload_n 0, 30, (0, 0, 0, 0, []))), (30, (.getfield 45, 33, (8, 5, 2, 369, []))), (33, (.aload_n 0, 34, (0, 0, 0, 0, []))), (34, (.getfield 25, 37, (8, 2, 2, 366, []))), (37, (.getfield 172, 40, (2, 5, 0, 143, []))), (40, (.iconst 1, 41, (0, 0, 0, 1, []))), (41, (.iadd, 42, (0, 0, 0, 0, []))), (42, (.invokevirtual 166, 45, (51, 1, 4, 596, []))), (45, (.isub, 46, (0, 0, 0, 0, []))), (46, (.ireturn, 47, (0, 0, 0, 0, [])))])]
def cd_X8_oneMore : bg_K := [(39, [(0, (.aload_n 0, 1, (0, 0, 0, 0, []))), (1, (.getfield 25, 4, (8, 2, 2, 366, []))), (4, (.iload_n 1, 5, (1, 0, 0, 0, []))), (5, (.invokevirtual 130, 8, (37, 1, 2, 494, []))), (8, (.ifCond .eq 14, 11, (22, 0, 0, 0, []))), (11, (.aload_n 0, 12, (0, 0, 0, 0, []))), (12, (.getfield 25, 15, (8, 2, 2, 366, []))), (15, (.iload_n 2, 16, (2, 0, 0, 0, []))), (16, (.invokevirtual 123, 19, (36, 1, 2, 489, []))), (19, (.ifCond .ne 5, 22, (24, 0, 0, 0, []))), (22, (.iconst (-1), 23, (0, 0, 0, (-1), []))), (23, (.ireturn, 24, (0, 0, 0, 0, []))), (24, (.aload_n 0, 25, (0, 0, 0, 0, []))), (25, (.iload_n 1, 26, (1, 0, 0, 0, []))), (26, (.iload_n 2, 27, (2, 0, 0, 0, []))), (27, (.invokevirtual 147, 30, (109, 2, 8, 526, []))), (30, (.istore_n 3, 31, (3, 0, 0, 0, []))), (31, (.iload_n 3, 32, (3, 0, 0, 0, []))), (32, (.aload_n 0, 33, (0, 0, 0, 0, []))), (33, (.iload_n 1, 34, (1, 0, 0, 0, []))), (34, (.iconst (-1), 35, (0, 0, 0, (-1), []))), (35, (.invokevirtual 147, 38, (109, 2, 8, 526, []))), (38, (.isub, 39, (0, 0, 0, 0, []))), (39, (.ireturn, 40, (0, 0, 0, 0, [])))])]
def cd_X8_weighed : bg_K := [(43, [(0, (.iload_n 1, 1, (1, 0, 0, 0, []))), (1, (.ifCond .lt 28, 4, (29, 0, 0, 0, []))), (4, (.iload_n 1, 5, (1, 0, 0, 0, []))), (5, (.bipush 99, 7, (0, 0, 0, 99, []))), (7, (.if_icmp .gt 22, 10, (29, 0, 0, 0, []))), (10, (.iload_n 2, 11, (2, 0, 0, 0, []))), (11, (.ifCond .lt 18, 14, (29, 0, 0, 0, []))), (14, (.iload_n 2, 15, (2, 0, 0, 0, []))), (15, (.bipush 99, 17, (0, 0, 0, 99, []))), (17, (.if_icmp .gt 12, 20, (29, 0, 0, 0, []))), (20, (.iload_n 3, 21, (3, 0, 0, 0, []))), (21, (.ifCond .lt 8, 24, (29, 0, 0, 0, []))), (24, (.iload_n 3, 25, (3, 0, 0, 0, []))), (25, (.iconst 1, 26, (0, 0, 0, 1, []))), (26, (.if_icmp .le 5, 29, (31, 0, 0, 0, []))), (29, (.iconst (-1), 30, (0, 0, 0, (-1), []))), (30, (.ireturn, 31, (0, 0, 0, 0, []))), (31, (.aload_n 0, 32, (0, 0, 0, 0, []))), (32, (.getfield 45, 35, (8, 5, 2, 369, []))), (35, (.aload_n 0, 36, (0, 0, 0, 0, []))), (36, (.getfield 25, 39, (8, 2, 2, 366, []))), (39, (.aload_n 0, 40, (0, 0, 0, 0, []))), (40, (.getfield 31, 43, (8, 3, 2, 367, []))), (43, (.invokevirtual 162, 46, (49, 2, 4, 560, [])))]), (80, [(46, (.aload_n 0, 47, (0, 0, 0, 0, []))), (47, (.getfield 45, 50, (8, 5, 2, 369, []))), (50, (.aload_n 0, 51, (0, 0, 0, 0, []))), (51, (.getfield 25, 54, (8, 2, 2, 366, []))), (54, (.iload_n 1, 55, (1, 0, 0, 0, []))), (55, (.iload_n 2, 56, (2, 0, 0, 0, []))), (56, (.invokevirtual 175, 59, (57, 3, 4, 621, []))), (59, (.iload_n 3, 60, (3, 0, 0, 0, []))), (60, (.ifCond .ne 13, 63, (73, 0, 0, 0, []))), (63, (.aload_n 0, 64, (0, 0, 0, 0, []))), (64, (.getfield 45, 67, (8, 5, 2, 369, []))), (67, (.getfield 179, 70, (4, 10, 0, 232, []))), (70, (.goto 10, 73, (80, 0, 0, 0, []))), (73, (.aload_n 0, 74, (0, 0, 0, 0, []))), (74, (.getfield 45, 77, (8, 5, 2, 369, []))), (77, (.getfield 182, 80, (4, 11, 0, 234, []))), (80, (.ireturn, 81, (0, 0, 0, 0, [])))])]
def cd_X8_way : bg_K := [(40, [(0, (.iload_n 1, 1, (1, 0, 0, 0, []))), (1, (.iconst (-1), 2, (0, 0, 0, (-1), []))), (2, (.if_icmp .lt 8, 5, (10, 0, 0, 0, []))), (5, (.iload_n 2, 6, (2, 0, 0, 0, []))), (6, (.iconst (-1), 7, (0, 0, 0, (-1), []))), (7, (.if_icmp .ge 5, 10, (12, 0, 0, 0, []))), (10, (.iconst (-1), 11, (0, 0, 0, (-1), []))), (11, (.ireturn, 12, (0, 0, 0, 0, []))), (12, (.iload_n 1, 13, (1, 0, 0, 0, []))), (13, (.iconst (-1), 14, (0, 0, 0, (-1), []))), (14, (.if_icmp .ne 11, 17, (25, 0, 0, 0, []))), (17, (.aload_n 0, 18, (0, 0, 0, 0, []))), (18, (.getfield 38, 21, (8, 4, 2, 368, []))), (21, (.getfield 185, 24, (7, 5, 0, 201, []))), (24, (.ireturn, 25, (0, 0, 0, 0, []))), (25, (.iload_n 1, 26, (1, 0, 0, 0, []))), (26, (.aload_n 0, 27, (0, 0, 0, 0, []))), (27, (.getfield 38, 30, (8, 4, 2, 368, []))), (30, (.getfield 185, 33, (7, 5, 0, 201, []))), (33, (.if_icmp .lt 6, 36, (39, 0, 0, 0, []))), (36, (.bipush (-4), 38, (0, 0, 0, (-4), []))), (38, (.ireturn, 39, (0, 0, 0, 0, []))), (39, (.aload_n 0, 40, (0, 0, 0, 0, []))), (40, (.getfield 38, 43, (8, 4, 2, 368, [])))]), (74, [(43, (.iload_n 1, 44, (1, 0, 0, 0, []))), (44, (.invokevirtual 188, 47, (72, 1, 7, 629, []))), (47, (.istore_n 3, 48, (3, 0, 0, 0, []))), (48, (.iload_n 2, 49, (2, 0, 0, 0, []))), (49, (.iconst (-1), 50, (0, 0, 0, (-1), []))), (50, (.if_icmp .ne 5, 53, (55, 0, 0, 0, []))), (53, (.iload_n 3, 54, (3, 0, 0, 0, []))), (54, (.ireturn, 55, (0, 0, 0, 0, []))), (55, (.iload_n 2, 56, (2, 0, 0, 0, []))), (56, (.iload_n 3, 57, (3, 0, 0, 0, []))), (57, (.if_icmp .ge 15, 60, (72, 0, 0, 0, []))), (60, (.aload_n 0, 61, (0, 0, 0, 0, []))), (61, (.getfield 38, 64, (8, 4, 2, 368, []))), (64, (.iload_n 1, 65, (1, 0, 0, 0, []))), (65, (.iload_n 2, 66, (2, 0, 0, 0, []))), (66, (.invokevirtual 191, 69, (73, 2, 7, 633, []))), (69, (.goto 5, 72, (74, 0, 0, 0, []))), (72, (.bipush (-4), 74, (0, 0, 0, (-4), []))), (74, (.ireturn, 75, (0, 0, 0, 0, [])))])]
def cd_X8_through : bg_K := [(44, [(0, (.aload_n 0, 1, (0, 0, 0, 0, []))), (1, (.getfield 25, 4, (8, 2, 2, 366, []))), (4, (.iload_n 1, 5, (1, 0, 0, 0, []))), (5, (.invokevirtual 130, 8, (37, 1, 2, 494, []))), (8, (.ifCond .eq 7, 11, (15, 0, 0, 0, []))), (11, (.iload_n 2, 12, (2, 0, 0, 0, []))), (12, (.ifCond .ge 5, 15, (17, 0, 0, 0, []))), (15, (.iconst (-1), 16, (0, 0, 0, (-1), []))), (16, (.ireturn, 17, (0, 0, 0, 0, []))), (17, (.iload_n 2, 18, (2, 0, 0, 0, []))), (18, (.aload_n 0, 19, (0, 0, 0, 0, []))), (19, (.getfield 38, 22, (8, 4, 2, 368, []))), (22, (.getfield 185, 25, (7, 5, 0, 201, []))), (25, (.if_icmp .lt 6, 28, (31, 0, 0, 0, []))), (28, (.bipush (-4), 30, (0, 0, 0, (-4), []))), (30, (.ireturn, 31, (0, 0, 0, 0, []))), (31, (.aload_n 0, 32, (0, 0, 0, 0, []))), (32, (.getfield 38, 35, (8, 4, 2, 368, []))), (35, (.aload_n 0, 36, (0, 0, 0, 0, []))), (36, (.getfield 25, 39, (8, 2, 2, 366, []))), (39, (.aload_n 0, 40, (0, 0, 0, 0, []))), (40, (.getfield 25, 43, (8, 2, 2, 366, []))), (43, (.iload_n 1, 44, (1, 0, 0, 0, []))), (44, (.invokevirtual 137, 47, (39, 1, 2, 502, [])))]), (51, [(47, (.iload_n 2, 48, (2, 0, 0, 0, []))), (48, (.invokevirtual 194, 51, (74, 3, 7, 641, []))), (51, (.ireturn, 52, (0, 0, 0, 0, [])))])]
def cd_X8_gain : bg_K := [(47, [(0, (.aload_n 0, 1, (0, 0, 0, 0, []))), (1, (.getfield 25, 4, (8, 2, 2, 366, []))), (4, (.iload_n 1, 5, (1, 0, 0, 0, []))), (5, (.invokevirtual 130, 8, (37, 1, 2, 494, []))), (8, (.ifCond .eq 7, 11, (15, 0, 0, 0, []))), (11, (.iload_n 2, 12, (2, 0, 0, 0, []))), (12, (.ifCond .ge 7, 15, (19, 0, 0, 0, []))), (15, (.ldc2_w 198, 18, (0, 654, 0, (-9223372036854775807), []))), (18, (.lreturn, 19, (0, 0, 0, 0, []))), (19, (.iload_n 2, 20, (2, 0, 0, 0, []))), (20, (.aload_n 0, 21, (0, 0, 0, 0, []))), (21, (.getfield 38, 24, (8, 4, 2, 368, []))), (24, (.getfield 185, 27, (7, 5, 0, 201, []))), (27, (.if_icmp .lt 7, 30, (34, 0, 0, 0, []))), (30, (.ldc2_w 200, 33, (0, 655, 0, (-9223372036854775808), []))), (33, (.lreturn, 34, (0, 0, 0, 0, []))), (34, (.aload_n 0, 35, (0, 0, 0, 0, []))), (35, (.getfield 38, 38, (8, 4, 2, 368, []))), (38, (.aload_n 0, 39, (0, 0, 0, 0, []))), (39, (.getfield 25, 42, (8, 2, 2, 366, []))), (42, (.aload_n 0, 43, (0, 0, 0, 0, []))), (43, (.getfield 25, 46, (8, 2, 2, 366, []))), (46, (.iload_n 1, 47, (1, 0, 0, 0, []))), (47, (.invokevirtual 137, 50, (39, 1, 2, 502, [])))]), (54, [(50, (.iload_n 2, 51, (2, 0, 0, 0, []))), (51, (.invokevirtual 202, 54, (75, 3, 7, 656, []))), (54, (.lreturn, 55, (0, 0, 0, 0, [])))])]
def cd_X8_bestWay : bg_K := [(44, [(0, (.aload_n 0, 1, (0, 0, 0, 0, []))), (1, (.getfield 25, 4, (8, 2, 2, 366, []))), (4, (.iload_n 1, 5, (1, 0, 0, 0, []))), (5, (.invokevirtual 130, 8, (37, 1, 2, 494, []))), (8, (.ifCond .eq 12, 11, (20, 0, 0, 0, []))), (11, (.iload_n 2, 12, (2, 0, 0, 0, []))), (12, (.ifCond .lt 8, 15, (20, 0, 0, 0, []))), (15, (.iload_n 2, 16, (2, 0, 0, 0, []))), (16, (.iconst 1, 17, (0, 0, 0, 1, []))), (17, (.if_icmp .le 5, 20, (22, 0, 0, 0, []))), (20, (.iconst (-1), 21, (0, 0, 0, (-1), []))), (21, (.ireturn, 22, (0, 0, 0, 0, []))), (22, (.aload_n 0, 23, (0, 0, 0, 0, []))), (23, (.getfield 38, 26, (8, 4, 2, 368, []))), (26, (.getfield 185, 29, (7, 5, 0, 201, []))), (29, (.ifCond .ne 6, 32, (35, 0, 0, 0, []))), (32, (.bipush (-4), 34, (0, 0, 0, (-4), []))), (34, (.ireturn, 35, (0, 0, 0, 0, []))), (35, (.aload_n 0, 36, (0, 0, 0, 0, []))), (36, (.getfield 25, 39, (8, 2, 2, 366, []))), (39, (.iload_n 1, 40, (1, 0, 0, 0, []))), (40, (.invokevirtual 137, 43, (39, 1, 2, 502, []))), (43, (.istore_n 3, 44, (3, 0, 0, 0, []))), (44, (.aload_n 0, 45, (0, 0, 0, 0, [])))]), (91, [(45, (.getfield 38, 48, (8, 4, 2, 368, []))), (48, (.aload_n 0, 49, (0, 0, 0, 0, []))), (49, (.getfield 25, 52, (8, 2, 2, 366, []))), (52, (.iload_n 3, 53, (3, 0, 0, 0, []))), (53, (.invokevirtual 206, 56, (76, 2, 7, 668, []))), (56, (.istore 4, 58, (4, 0, 0, 0, []))), (58, (.iload_n 2, 59, (2, 0, 0, 0, []))), (59, (.ifCond .ne 6, 62, (65, 0, 0, 0, []))), (62, (.iload 4, 64, (4, 0, 0, 0, []))), (64, (.ireturn, 65, (0, 0, 0, 0, []))), (65, (.aload_n 0, 66, (0, 0, 0, 0, []))), (66, (.getfield 38, 69, (8, 4, 2, 368, []))), (69, (.aload_n 0, 70, (0, 0, 0, 0, []))), (70, (.getfield 25, 73, (8, 2, 2, 366, []))), (73, (.iload_n 3, 74, (3, 0, 0, 0, []))), (74, (.iload 4, 76, (4, 0, 0, 0, []))), (76, (.invokevirtual 202, 79, (75, 3, 7, 656, []))), (79, (.aload_n 0, 80, (0, 0, 0, 0, []))), (80, (.getfield 25, 83, (8, 2, 2, 366, []))), (83, (.getfield 210, 86, (2, 7, 0, 149, []))), (86, (.i2l, 87, (0, 0, 0, 0, []))), (87, (.ldc2_w 213, 90, (0, 673, 0, 100000000000000, []))), (90, (.lmul, 91, (0, 0, 0, 0, []))), (91, (.lcmp, 92, (0, 0, 0, 0, [])))]), (100, [(92, (.ifCond .le 7, 95, (99, 0, 0, 0, []))), (95, (.iconst 1, 96, (0, 0, 0, 1, []))), (96, (.goto 4, 99, (100, 0, 0, 0, []))), (99, (.iconst 0, 100, (0, 0, 0, 0, []))), (100, (.ireturn, 101, (0, 0, 0, 0, [])))])]
def cd_X8_leastPay : bg_K := [(30, [(0, (.aload_n 0, 1, (0, 0, 0, 0, []))), (1, (.getfield 45, 4, (8, 5, 2, 369, []))), (4, (.aload_n 0, 5, (0, 0, 0, 0, []))), (5, (.getfield 25, 8, (8, 2, 2, 366, []))), (8, (.aload_n 0, 9, (0, 0, 0, 0, []))), (9, (.getfield 31, 12, (8, 3, 2, 367, []))), (12, (.invokevirtual 162, 15, (49, 2, 4, 560, []))), (15, (.aload_n 0, 16, (0, 0, 0, 0, []))), (16, (.getfield 45, 19, (8, 5, 2, 369, []))), (19, (.aload_n 0, 20, (0, 0, 0, 0, []))), (20, (.getfield 25, 23, (8, 2, 2, 366, []))), (23, (.aload_n 0, 24, (0, 0, 0, 0, []))), (24, (.getfield 38, 27, (8, 4, 2, 368, []))), (27, (.invokevirtual 215, 30, (58, 2, 4, 678, []))), (30, (.ireturn, 31, (0, 0, 0, 0, [])))])]
def cd_X8_guard : bg_K := [(42, [(0, (.iload_n 1, 1, (1, 0, 0, 0, []))), (1, (.ifCond .lt 24, 4, (25, 0, 0, 0, []))), (4, (.iload_n 1, 5, (1, 0, 0, 0, []))), (5, (.iconst 4, 6, (0, 0, 0, 4, []))), (6, (.if_icmp .ge 19, 9, (25, 0, 0, 0, []))), (9, (.iload_n 2, 10, (2, 0, 0, 0, []))), (10, (.iconst (-1), 11, (0, 0, 0, (-1), []))), (11, (.if_icmp .eq 17, 14, (28, 0, 0, 0, []))), (14, (.aload_n 0, 15, (0, 0, 0, 0, []))), (15, (.getfield 25, 18, (8, 2, 2, 366, []))), (18, (.iload_n 2, 19, (2, 0, 0, 0, []))), (19, (.invokevirtual 130, 22, (37, 1, 2, 494, []))), (22, (.ifCond .ne 6, 25, (28, 0, 0, 0, []))), (25, (.bipush (-100), 27, (0, 0, 0, (-100), []))), (27, (.ireturn, 28, (0, 0, 0, 0, []))), (28, (.aload_n 0, 29, (0, 0, 0, 0, []))), (29, (.getfield 52, 32, (8, 6, 2, 370, []))), (32, (.getfield 219, 35, (3, 0, 2, 272, []))), (35, (.iload_n 1, 36, (1, 0, 0, 0, []))), (36, (.iaload, 37, (0, 0, 0, 0, []))), (37, (.istore_n 3, 38, (3, 0, 0, 0, []))), (38, (.aload_n 0, 39, (0, 0, 0, 0, []))), (39, (.getfield 52, 42, (8, 6, 2, 370, []))), (42, (.getfield 219, 45, (3, 0, 2, 272, [])))]), (49, [(45, (.iload_n 1, 46, (1, 0, 0, 0, []))), (46, (.iload_n 2, 47, (2, 0, 0, 0, []))), (47, (.iastore, 48, (0, 0, 0, 0, []))), (48, (.iload_n 3, 49, (3, 0, 0, 0, []))), (49, (.ireturn, 50, (0, 0, 0, 0, [])))])]
def cd_X8_carrier : bg_K := [(42, [(0, (.iload_n 1, 1, (1, 0, 0, 0, []))), (1, (.ifCond .lt 24, 4, (25, 0, 0, 0, []))), (4, (.iload_n 1, 5, (1, 0, 0, 0, []))), (5, (.iconst 4, 6, (0, 0, 0, 4, []))), (6, (.if_icmp .ge 19, 9, (25, 0, 0, 0, []))), (9, (.iload_n 2, 10, (2, 0, 0, 0, []))), (10, (.iconst (-1), 11, (0, 0, 0, (-1), []))), (11, (.if_icmp .lt 14, 14, (25, 0, 0, 0, []))), (14, (.iload_n 2, 15, (2, 0, 0, 0, []))), (15, (.aload_n 0, 16, (0, 0, 0, 0, []))), (16, (.getfield 38, 19, (8, 4, 2, 368, []))), (19, (.getfield 185, 22, (7, 5, 0, 201, []))), (22, (.if_icmp .lt 6, 25, (28, 0, 0, 0, []))), (25, (.bipush (-100), 27, (0, 0, 0, (-100), []))), (27, (.ireturn, 28, (0, 0, 0, 0, []))), (28, (.aload_n 0, 29, (0, 0, 0, 0, []))), (29, (.getfield 52, 32, (8, 6, 2, 370, []))), (32, (.getfield 222, 35, (3, 1, 2, 274, []))), (35, (.iload_n 1, 36, (1, 0, 0, 0, []))), (36, (.iaload, 37, (0, 0, 0, 0, []))), (37, (.istore_n 3, 38, (3, 0, 0, 0, []))), (38, (.aload_n 0, 39, (0, 0, 0, 0, []))), (39, (.getfield 52, 42, (8, 6, 2, 370, []))), (42, (.getfield 222, 45, (3, 1, 2, 274, [])))]), (49, [(45, (.iload_n 1, 46, (1, 0, 0, 0, []))), (46, (.iload_n 2, 47, (2, 0, 0, 0, []))), (47, (.iastore, 48, (0, 0, 0, 0, []))), (48, (.iload_n 3, 49, (3, 0, 0, 0, []))), (49, (.ireturn, 50, (0, 0, 0, 0, [])))])]
def cd_X8_value : bg_K := [(39, [(0, (.iload_n 1, 1, (1, 0, 0, 0, []))), (1, (.ifCond .lt 8, 4, (9, 0, 0, 0, []))), (4, (.iload_n 1, 5, (1, 0, 0, 0, []))), (5, (.iconst 1, 6, (0, 0, 0, 1, []))), (6, (.if_icmp .le 7, 9, (13, 0, 0, 0, []))), (9, (.ldc2_w 225, 12, (0, 699, 0, (-1), []))), (12, (.lreturn, 13, (0, 0, 0, 0, []))), (13, (.aload_n 0, 14, (0, 0, 0, 0, []))), (14, (.invokevirtual 227, 17, (110, 0, 8, 700, []))), (17, (.ifCond .ne 7, 20, (24, 0, 0, 0, []))), (20, (.ldc2_w 231, 23, (0, 778, 0, (-2), []))), (23, (.lreturn, 24, (0, 0, 0, 0, []))), (24, (.aload_n 0, 25, (0, 0, 0, 0, []))), (25, (.getfield 59, 28, (8, 7, 2, 371, []))), (28, (.aload_n 0, 29, (0, 0, 0, 0, []))), (29, (.getfield 59, 32, (8, 7, 2, 371, []))), (32, (.getfield 233, 35, (1, 5, 1, 298, []))), (35, (.iload_n 1, 36, (1, 0, 0, 0, []))), (36, (.invokevirtual 237, 39, (28, 2, 1, 779, []))), (39, (.lreturn, 40, (0, 0, 0, 0, [])))])]
def cd_X8_chance : bg_K := [(43, [(0, (.iload_n 1, 1, (1, 0, 0, 0, []))), (1, (.ifCond .lt 26, 4, (27, 0, 0, 0, []))), (4, (.iload_n 1, 5, (1, 0, 0, 0, []))), (5, (.iconst 1, 6, (0, 0, 0, 1, []))), (6, (.if_icmp .gt 21, 9, (27, 0, 0, 0, []))), (9, (.iload_n 2, 10, (2, 0, 0, 0, []))), (10, (.ifCond .lt 17, 13, (27, 0, 0, 0, []))), (13, (.iload_n 2, 14, (2, 0, 0, 0, []))), (14, (.iconst 4, 15, (0, 0, 0, 4, []))), (15, (.if_icmp .ge 12, 18, (27, 0, 0, 0, []))), (18, (.iload_n 3, 19, (3, 0, 0, 0, []))), (19, (.ifCond .lt 8, 22, (27, 0, 0, 0, []))), (22, (.iload_n 3, 23, (3, 0, 0, 0, []))), (23, (.iconst 1, 24, (0, 0, 0, 1, []))), (24, (.if_icmp .le 7, 27, (31, 0, 0, 0, []))), (27, (.ldc2_w 225, 30, (0, 699, 0, (-1), []))), (30, (.lreturn, 31, (0, 0, 0, 0, []))), (31, (.iload_n 1, 32, (1, 0, 0, 0, []))), (32, (.ifCond .ne 15, 35, (47, 0, 0, 0, []))), (35, (.aload_n 0, 36, (0, 0, 0, 0, []))), (36, (.getfield 52, 39, (8, 6, 2, 370, []))), (39, (.getfield 219, 42, (3, 0, 2, 272, []))), (42, (.iload_n 2, 43, (2, 0, 0, 0, []))), (43, (.iaload, 44, (0, 0, 0, 0, [])))]), (91, [(44, (.goto 12, 47, (56, 0, 0, 0, []))), (47, (.aload_n 0, 48, (0, 0, 0, 0, []))), (48, (.getfield 52, 51, (8, 6, 2, 370, []))), (51, (.getfield 222, 54, (3, 1, 2, 274, []))), (54, (.iload_n 2, 55, (2, 0, 0, 0, []))), (55, (.iaload, 56, (0, 0, 0, 0, []))), (56, (.istore 4, 58, (4, 0, 0, 0, []))), (58, (.iload 4, 60, (4, 0, 0, 0, []))), (60, (.iconst (-1), 61, (0, 0, 0, (-1), []))), (61, (.if_icmp .ne 7, 64, (68, 0, 0, 0, []))), (64, (.ldc2_w 225, 67, (0, 699, 0, (-1), []))), (67, (.lreturn, 68, (0, 0, 0, 0, []))), (68, (.aload_n 0, 69, (0, 0, 0, 0, []))), (69, (.invokevirtual 227, 72, (110, 0, 8, 700, []))), (72, (.ifCond .ne 7, 75, (79, 0, 0, 0, []))), (75, (.ldc2_w 231, 78, (0, 778, 0, (-2), []))), (78, (.lreturn, 79, (0, 0, 0, 0, []))), (79, (.aload_n 0, 80, (0, 0, 0, 0, []))), (80, (.getfield 59, 83, (8, 7, 2, 371, []))), (83, (.iload_n 1, 84, (1, 0, 0, 0, []))), (84, (.ifCond .ne 15, 87, (99, 0, 0, 0, []))), (87, (.aload_n 0, 88, (0, 0, 0, 0, []))), (88, (.getfield 59, 91, (8, 7, 2, 371, []))), (91, (.getfield 241, 94, (1, 1, 2, 292, [])))]), (112, [(94, (.iload_n 2, 95, (2, 0, 0, 0, []))), (95, (.laload, 96, (0, 0, 0, 0, []))), (96, (.goto 12, 99, (108, 0, 0, 0, []))), (99, (.aload_n 0, 100, (0, 0, 0, 0, []))), (100, (.getfield 59, 103, (8, 7, 2, 371, []))), (103, (.getfield 245, 106, (1, 2, 2, 294, []))), (106, (.iload_n 2, 107, (2, 0, 0, 0, []))), (107, (.laload, 108, (0, 0, 0, 0, []))), (108, (.iload_n 3, 109, (3, 0, 0, 0, []))), (109, (.invokevirtual 237, 112, (28, 2, 1, 779, []))), (112, (.lreturn, 113, (0, 0, 0, 0, [])))])]
def cd_X8_tenths : bg_K := [(36, [(0, (.iload_n 1, 1, (1, 0, 0, 0, []))), (1, (.ifCond .lt 18, 4, (19, 0, 0, 0, []))), (4, (.iload_n 1, 5, (1, 0, 0, 0, []))), (5, (.iconst 4, 6, (0, 0, 0, 4, []))), (6, (.if_icmp .ge 13, 9, (19, 0, 0, 0, []))), (9, (.iload_n 2, 10, (2, 0, 0, 0, []))), (10, (.ifCond .lt 9, 13, (19, 0, 0, 0, []))), (13, (.iload_n 2, 14, (2, 0, 0, 0, []))), (14, (.bipush 10, 16, (0, 0, 0, 10, []))), (16, (.if_icmp .le 5, 19, (21, 0, 0, 0, []))), (19, (.iconst (-1), 20, (0, 0, 0, (-1), []))), (20, (.ireturn, 21, (0, 0, 0, 0, []))), (21, (.aload_n 0, 22, (0, 0, 0, 0, []))), (22, (.getfield 74, 25, (8, 10, 2, 374, []))), (25, (.iload_n 1, 26, (1, 0, 0, 0, []))), (26, (.iaload, 27, (0, 0, 0, 0, []))), (27, (.istore_n 3, 28, (3, 0, 0, 0, []))), (28, (.aload_n 0, 29, (0, 0, 0, 0, []))), (29, (.getfield 74, 32, (8, 10, 2, 374, []))), (32, (.iload_n 1, 33, (1, 0, 0, 0, []))), (33, (.iload_n 2, 34, (2, 0, 0, 0, []))), (34, (.iastore, 35, (0, 0, 0, 0, []))), (35, (.iload_n 3, 36, (3, 0, 0, 0, []))), (36, (.ireturn, 37, (0, 0, 0, 0, [])))])]
def cd_X8_told : bg_K := [(40, [(0, (.aload_n 0, 1, (0, 0, 0, 0, []))), (1, (.getfield 52, 4, (8, 6, 2, 370, []))), (4, (.invokevirtual 248, 7, (46, 0, 3, 715, []))), (7, (.ifCond .ne 6, 10, (13, 0, 0, 0, []))), (10, (.bipush (-2), 12, (0, 0, 0, (-2), []))), (12, (.ireturn, 13, (0, 0, 0, 0, []))), (13, (.iconst 0, 14, (0, 0, 0, 0, []))), (14, (.istore_n 1, 15, (1, 0, 0, 0, []))), (15, (.iconst 0, 16, (0, 0, 0, 0, []))), (16, (.istore_n 2, 17, (2, 0, 0, 0, []))), (17, (.iload_n 2, 18, (2, 0, 0, 0, []))), (18, (.iconst 4, 19, (0, 0, 0, 4, []))), (19, (.if_icmp .ge 43, 22, (62, 0, 0, 0, []))), (22, (.aload_n 0, 23, (0, 0, 0, 0, []))), (23, (.getfield 74, 26, (8, 10, 2, 374, []))), (26, (.iload_n 2, 27, (2, 0, 0, 0, []))), (27, (.iaload, 28, (0, 0, 0, 0, []))), (28, (.ifCond .le 19, 31, (47, 0, 0, 0, []))), (31, (.aload_n 0, 32, (0, 0, 0, 0, []))), (32, (.getfield 52, 35, (8, 6, 2, 370, []))), (35, (.getfield 219, 38, (3, 0, 2, 272, []))), (38, (.iload_n 2, 39, (2, 0, 0, 0, []))), (39, (.iaload, 40, (0, 0, 0, 0, []))), (40, (.iconst (-1), 41, (0, 0, 0, (-1), [])))]), (83, [(41, (.if_icmp .ne 6, 44, (47, 0, 0, 0, []))), (44, (.bipush (-2), 46, (0, 0, 0, (-2), []))), (46, (.ireturn, 47, (0, 0, 0, 0, []))), (47, (.iload_n 1, 48, (1, 0, 0, 0, []))), (48, (.aload_n 0, 49, (0, 0, 0, 0, []))), (49, (.getfield 74, 52, (8, 10, 2, 374, []))), (52, (.iload_n 2, 53, (2, 0, 0, 0, []))), (53, (.iaload, 54, (0, 0, 0, 0, []))), (54, (.iadd, 55, (0, 0, 0, 0, []))), (55, (.istore_n 1, 56, (1, 0, 0, 0, []))), (56, (.iinc 2 1, 59, (2, 0, 0, 1, []))), (59, (.goto (-42), 62, (17, 0, 0, 0, []))), (62, (.iload_n 1, 63, (1, 0, 0, 0, []))), (63, (.bipush 10, 65, (0, 0, 0, 10, []))), (65, (.if_icmp .eq 6, 68, (71, 0, 0, 0, []))), (68, (.bipush (-2), 70, (0, 0, 0, (-2), []))), (70, (.ireturn, 71, (0, 0, 0, 0, []))), (71, (.aload_n 0, 72, (0, 0, 0, 0, []))), (72, (.invokevirtual 251, 75, (111, 0, 8, 704, []))), (75, (.aload_n 0, 76, (0, 0, 0, 0, []))), (76, (.getfield 59, 79, (8, 7, 2, 371, []))), (79, (.aload_n 0, 80, (0, 0, 0, 0, []))), (80, (.getfield 74, 83, (8, 10, 2, 374, []))), (83, (.invokevirtual 254, 86, (29, 1, 1, 795, [])))]), (86, [(86, (.ireturn, 87, (0, 0, 0, 0, [])))])]
def cd_X8_nights : bg_K := [(40, [(0, (.iload_n 1, 1, (1, 0, 0, 0, []))), (1, (.iconst 1, 2, (0, 0, 0, 1, []))), (2, (.if_icmp .lt 19, 5, (21, 0, 0, 0, []))), (5, (.iload_n 1, 6, (1, 0, 0, 0, []))), (6, (.bipush 8, 8, (0, 0, 0, 8, []))), (8, (.if_icmp .gt 13, 11, (21, 0, 0, 0, []))), (11, (.iload_n 2, 12, (2, 0, 0, 0, []))), (12, (.ifCond .lt 9, 15, (21, 0, 0, 0, []))), (15, (.iload_n 2, 16, (2, 0, 0, 0, []))), (16, (.bipush 15, 18, (0, 0, 0, 15, []))), (18, (.if_icmp .le 5, 21, (23, 0, 0, 0, []))), (21, (.iconst (-1), 22, (0, 0, 0, (-1), []))), (22, (.ireturn, 23, (0, 0, 0, 0, []))), (23, (.aload_n 0, 24, (0, 0, 0, 0, []))), (24, (.getfield 52, 27, (8, 6, 2, 370, []))), (27, (.invokevirtual 258, 30, (45, 0, 3, 708, []))), (30, (.ifCond .ne 6, 33, (36, 0, 0, 0, []))), (33, (.bipush (-2), 35, (0, 0, 0, (-2), []))), (35, (.ireturn, 36, (0, 0, 0, 0, []))), (36, (.iconst 0, 37, (0, 0, 0, 0, []))), (37, (.istore_n 3, 38, (3, 0, 0, 0, []))), (38, (.iload_n 3, 39, (3, 0, 0, 0, []))), (39, (.iconst 4, 40, (0, 0, 0, 4, []))), (40, (.if_icmp .ge 49, 43, (89, 0, 0, 0, [])))]), (90, [(43, (.aload_n 0, 44, (0, 0, 0, 0, []))), (44, (.getfield 52, 47, (8, 6, 2, 370, []))), (47, (.getfield 219, 50, (3, 0, 2, 272, []))), (50, (.iload_n 3, 51, (3, 0, 0, 0, []))), (51, (.iaload, 52, (0, 0, 0, 0, []))), (52, (.istore 4, 54, (4, 0, 0, 0, []))), (54, (.aload_n 0, 55, (0, 0, 0, 0, []))), (55, (.getfield 66, 58, (8, 8, 2, 372, []))), (58, (.iload_n 3, 59, (3, 0, 0, 0, []))), (59, (.iload 4, 61, (4, 0, 0, 0, []))), (61, (.iload 4, 63, (4, 0, 0, 0, []))), (63, (.iconst (-1), 64, (0, 0, 0, (-1), []))), (64, (.if_icmp .ne 9, 67, (73, 0, 0, 0, []))), (67, (.ldc_w 261, 70, (0, 804, 0, 2147483647, []))), (70, (.goto 10, 73, (80, 0, 0, 0, []))), (73, (.aload_n 0, 74, (0, 0, 0, 0, []))), (74, (.iload 4, 76, (4, 0, 0, 0, []))), (76, (.iconst (-1), 77, (0, 0, 0, (-1), []))), (77, (.invokevirtual 147, 80, (109, 2, 8, 526, []))), (80, (.invokevirtual 262, 83, (59, 3, 5, 805, []))), (83, (.iinc 3 1, 86, (3, 0, 0, 1, []))), (86, (.goto (-48), 89, (38, 0, 0, 0, []))), (89, (.aload_n 0, 90, (0, 0, 0, 0, []))), (90, (.getfield 66, 93, (8, 8, 2, 372, [])))]), (131, [(93, (.iload_n 1, 94, (1, 0, 0, 0, []))), (94, (.iload_n 2, 95, (2, 0, 0, 0, []))), (95, (.aload_n 0, 96, (0, 0, 0, 0, []))), (96, (.getfield 52, 99, (8, 6, 2, 370, []))), (99, (.invokevirtual 258, 102, (45, 0, 3, 708, []))), (102, (.invokestatic 266, 105, (188, 1, 0, 809, []))), (105, (.iconst 1, 106, (0, 0, 0, 1, []))), (106, (.if_icmp .ne 7, 109, (113, 0, 0, 0, []))), (109, (.iconst 1, 110, (0, 0, 0, 1, []))), (110, (.goto 4, 113, (114, 0, 0, 0, []))), (113, (.iconst 0, 114, (0, 0, 0, 0, []))), (114, (.invokevirtual 271, 117, (60, 3, 5, 810, []))), (117, (.istore_n 3, 118, (3, 0, 0, 0, []))), (118, (.iload_n 3, 119, (3, 0, 0, 0, []))), (119, (.ldc_w 261, 122, (0, 804, 0, 2147483647, []))), (122, (.if_icmp .ne 8, 125, (130, 0, 0, 0, []))), (125, (.bipush (-4), 127, (0, 0, 0, (-4), []))), (127, (.goto 4, 130, (131, 0, 0, 0, []))), (130, (.iload_n 3, 131, (3, 0, 0, 0, []))), (131, (.ireturn, 132, (0, 0, 0, 0, [])))])]
def cd_X8_keep : bg_K := [(44, [(0, (.aload_n 0, 1, (0, 0, 0, 0, []))), (1, (.getfield 85, 4, (8, 13, 0, 377, []))), (4, (.iconst 2, 5, (0, 0, 0, 2, []))), (5, (.if_icmp .lt 6, 8, (11, 0, 0, 0, []))), (8, (.bipush (-3), 10, (0, 0, 0, (-3), []))), (10, (.ireturn, 11, (0, 0, 0, 0, []))), (11, (.aload_n 0, 12, (0, 0, 0, 0, []))), (12, (.getfield 77, 15, (8, 11, 2, 375, []))), (15, (.aload_n 0, 16, (0, 0, 0, 0, []))), (16, (.getfield 85, 19, (8, 13, 0, 377, []))), (19, (.aaload, 20, (0, 0, 0, 0, []))), (20, (.aload_n 0, 21, (0, 0, 0, 0, []))), (21, (.getfield 25, 24, (8, 2, 2, 366, []))), (24, (.invokevirtual 107, 27, (31, 1, 2, 476, []))), (27, (.aload_n 0, 28, (0, 0, 0, 0, []))), (28, (.getfield 81, 31, (8, 12, 2, 376, []))), (31, (.aload_n 0, 32, (0, 0, 0, 0, []))), (32, (.getfield 85, 35, (8, 13, 0, 377, []))), (35, (.aaload, 36, (0, 0, 0, 0, []))), (36, (.aload_n 0, 37, (0, 0, 0, 0, []))), (37, (.getfield 52, 40, (8, 6, 2, 370, []))), (40, (.invokevirtual 275, 43, (44, 1, 3, 826, []))), (43, (.aload_n 0, 44, (0, 0, 0, 0, []))), (44, (.dup, 45, (0, 0, 0, 0, [])))]), (57, [(45, (.getfield 85, 48, (8, 13, 0, 377, []))), (48, (.iconst 1, 49, (0, 0, 0, 1, []))), (49, (.iadd, 50, (0, 0, 0, 0, []))), (50, (.putfield 85, 53, (8, 13, 0, 377, []))), (53, (.aload_n 0, 54, (0, 0, 0, 0, []))), (54, (.getfield 85, 57, (8, 13, 0, 377, []))), (57, (.ireturn, 58, (0, 0, 0, 0, [])))])]
def cd_X8_back : bg_K := [(44, [(0, (.aload_n 0, 1, (0, 0, 0, 0, []))), (1, (.getfield 85, 4, (8, 13, 0, 377, []))), (4, (.ifCond .gt 6, 7, (10, 0, 0, 0, []))), (7, (.bipush (-2), 9, (0, 0, 0, (-2), []))), (9, (.ireturn, 10, (0, 0, 0, 0, []))), (10, (.aload_n 0, 11, (0, 0, 0, 0, []))), (11, (.dup, 12, (0, 0, 0, 0, []))), (12, (.getfield 85, 15, (8, 13, 0, 377, []))), (15, (.iconst 1, 16, (0, 0, 0, 1, []))), (16, (.isub, 17, (0, 0, 0, 0, []))), (17, (.putfield 85, 20, (8, 13, 0, 377, []))), (20, (.aload_n 0, 21, (0, 0, 0, 0, []))), (21, (.getfield 25, 24, (8, 2, 2, 366, []))), (24, (.aload_n 0, 25, (0, 0, 0, 0, []))), (25, (.getfield 77, 28, (8, 11, 2, 375, []))), (28, (.aload_n 0, 29, (0, 0, 0, 0, []))), (29, (.getfield 85, 32, (8, 13, 0, 377, []))), (32, (.aaload, 33, (0, 0, 0, 0, []))), (33, (.invokevirtual 107, 36, (31, 1, 2, 476, []))), (36, (.aload_n 0, 37, (0, 0, 0, 0, []))), (37, (.getfield 52, 40, (8, 6, 2, 370, []))), (40, (.aload_n 0, 41, (0, 0, 0, 0, []))), (41, (.getfield 81, 44, (8, 12, 2, 376, []))), (44, (.aload_n 0, 45, (0, 0, 0, 0, [])))]), (60, [(45, (.getfield 85, 48, (8, 13, 0, 377, []))), (48, (.aaload, 49, (0, 0, 0, 0, []))), (49, (.invokevirtual 275, 52, (44, 1, 3, 826, []))), (52, (.aload_n 0, 53, (0, 0, 0, 0, []))), (53, (.invokevirtual 89, 56, (108, 0, 8, 334, []))), (56, (.aload_n 0, 57, (0, 0, 0, 0, []))), (57, (.getfield 85, 60, (8, 13, 0, 377, []))), (60, (.ireturn, 61, (0, 0, 0, 0, [])))])]
def cd_X8_count : bg_K := [(85, [(0, (.iload_n 1, 1, (1, 0, 0, 0, []))), (1, (.tableswitch 96 0 6 #[43, 51, 59, 67, 75, 83, 91], 44, (97, 0, 0, 0, [(0, 44), (1, 52), (2, 60), (3, 68), (4, 76), (5, 84), (6, 92)]))), (44, (.aload_n 0, 45, (0, 0, 0, 0, []))), (45, (.getfield 25, 48, (8, 2, 2, 366, []))), (48, (.getfield 120, 51, (2, 3, 0, 137, []))), (51, (.ireturn, 52, (0, 0, 0, 0, []))), (52, (.aload_n 0, 53, (0, 0, 0, 0, []))), (53, (.getfield 25, 56, (8, 2, 2, 366, []))), (56, (.getfield 278, 59, (2, 4, 0, 140, []))), (59, (.ireturn, 60, (0, 0, 0, 0, []))), (60, (.aload_n 0, 61, (0, 0, 0, 0, []))), (61, (.getfield 25, 64, (8, 2, 2, 366, []))), (64, (.getfield 172, 67, (2, 5, 0, 143, []))), (67, (.ireturn, 68, (0, 0, 0, 0, []))), (68, (.aload_n 0, 69, (0, 0, 0, 0, []))), (69, (.getfield 25, 72, (8, 2, 2, 366, []))), (72, (.getfield 281, 75, (2, 6, 0, 146, []))), (75, (.ireturn, 76, (0, 0, 0, 0, []))), (76, (.aload_n 0, 77, (0, 0, 0, 0, []))), (77, (.getfield 25, 80, (8, 2, 2, 366, []))), (80, (.getfield 210, 83, (2, 7, 0, 149, []))), (83, (.ireturn, 84, (0, 0, 0, 0, []))), (84, (.aload_n 0, 85, (0, 0, 0, 0, []))), (85, (.getfield 14, 88, (8, 0, 2, 364, [])))]), (98, [(88, (.getfield 100, 91, (6, 3, 0, 100, []))), (91, (.ireturn, 92, (0, 0, 0, 0, []))), (92, (.aload_n 0, 93, (0, 0, 0, 0, []))), (93, (.getfield 85, 96, (8, 13, 0, 377, []))), (96, (.ireturn, 97, (0, 0, 0, 0, []))), (97, (.iconst (-1), 98, (0, 0, 0, (-1), []))), (98, (.ireturn, 99, (0, 0, 0, 0, [])))])]
def cd_X8_survey : bg_K := [(29, [(0, (.aload_n 0, 1, (0, 0, 0, 0, []))), (1, (.getfield 31, 4, (8, 3, 2, 367, []))), (4, (.aload_n 0, 5, (0, 0, 0, 0, []))), (5, (.getfield 25, 8, (8, 2, 2, 366, []))), (8, (.invokevirtual 284, 11, (10, 1, 0, 338, []))), (11, (.aload_n 0, 12, (0, 0, 0, 0, []))), (12, (.getfield 38, 15, (8, 4, 2, 368, []))), (15, (.aload_n 0, 16, (0, 0, 0, 0, []))), (16, (.getfield 25, 19, (8, 2, 2, 366, []))), (19, (.invokevirtual 286, 22, (69, 1, 7, 345, []))), (22, (.aload_n 0, 23, (0, 0, 0, 0, []))), (23, (.getfield 45, 26, (8, 5, 2, 369, []))), (26, (.invokevirtual 287, 29, (48, 0, 4, 360, []))), (29, (.return_, 30, (0, 0, 0, 0, [])))])]
def cd_X8_mostBy : bg_K := [(27, [(0, (.aload_n 0, 1, (0, 0, 0, 0, []))), (1, (.getfield 31, 4, (8, 3, 2, 367, []))), (4, (.aload_n 0, 5, (0, 0, 0, 0, []))), (5, (.getfield 25, 8, (8, 2, 2, 366, []))), (8, (.aload_n 0, 9, (0, 0, 0, 0, []))), (9, (.getfield 25, 12, (8, 2, 2, 366, []))), (12, (.iload_n 1, 13, (1, 0, 0, 0, []))), (13, (.invokevirtual 137, 16, (39, 1, 2, 502, []))), (16, (.iload_n 2, 17, (2, 0, 0, 0, []))), (17, (.invokevirtual 290, 20, (11, 3, 0, 530, []))), (20, (.aload_n 0, 21, (0, 0, 0, 0, []))), (21, (.getfield 31, 24, (8, 3, 2, 367, []))), (24, (.getfield 291, 27, (0, 2, 0, 177, []))), (27, (.ireturn, 28, (0, 0, 0, 0, [])))])]
def cd_X8_playGame : bg_K := [(25, [(0, (.aload_n 0, 1, (0, 0, 0, 0, []))), (1, (.invokevirtual 251, 4, (111, 0, 8, 704, []))), (4, (.aload_n 0, 5, (0, 0, 0, 0, []))), (5, (.getfield 59, 8, (8, 7, 2, 371, []))), (8, (.aload_n 0, 9, (0, 0, 0, 0, []))), (9, (.getfield 52, 12, (8, 6, 2, 370, []))), (12, (.invokevirtual 258, 15, (45, 0, 3, 708, []))), (15, (.aload_n 0, 16, (0, 0, 0, 0, []))), (16, (.getfield 52, 19, (8, 6, 2, 370, []))), (19, (.invokevirtual 248, 22, (46, 0, 3, 715, []))), (22, (.invokevirtual 294, 25, (16, 2, 1, 719, []))), (25, (.ireturn, 26, (0, 0, 1, 0, [])))])]
def cd_X8_setUpGame : bg_K := [(38, [(0, (.iconst 0, 1, (0, 0, 0, 0, []))), (1, (.istore_n 1, 2, (1, 0, 0, 0, []))), (2, (.iload_n 1, 3, (1, 0, 0, 0, []))), (3, (.iconst 4, 4, (0, 0, 0, 4, []))), (4, (.if_icmp .ge 128, 7, (132, 0, 0, 0, []))), (7, (.aload_n 0, 8, (0, 0, 0, 0, []))), (8, (.getfield 52, 11, (8, 6, 2, 370, []))), (11, (.getfield 219, 14, (3, 0, 2, 272, []))), (14, (.iload_n 1, 15, (1, 0, 0, 0, []))), (15, (.iaload, 16, (0, 0, 0, 0, []))), (16, (.istore_n 2, 17, (2, 0, 0, 0, []))), (17, (.iload_n 2, 18, (2, 0, 0, 0, []))), (18, (.iconst (-1), 19, (0, 0, 0, (-1), []))), (19, (.if_icmp .ne 7, 22, (26, 0, 0, 0, []))), (22, (.iconst 0, 23, (0, 0, 0, 0, []))), (23, (.goto 11, 26, (34, 0, 0, 0, []))), (26, (.aload_n 0, 27, (0, 0, 0, 0, []))), (27, (.getfield 25, 30, (8, 2, 2, 366, []))), (30, (.iload_n 2, 31, (2, 0, 0, 0, []))), (31, (.invokevirtual 137, 34, (39, 1, 2, 502, []))), (34, (.istore_n 3, 35, (3, 0, 0, 0, []))), (35, (.iconst 0, 36, (0, 0, 0, 0, []))), (36, (.istore 4, 38, (4, 0, 0, 0, []))), (38, (.iload 4, 40, (4, 0, 0, 0, [])))]), (86, [(40, (.iconst 4, 41, (0, 0, 0, 4, []))), (41, (.if_icmp .ge 85, 44, (126, 0, 0, 0, []))), (44, (.aload_n 0, 45, (0, 0, 0, 0, []))), (45, (.getfield 52, 48, (8, 6, 2, 370, []))), (48, (.getfield 222, 51, (3, 1, 2, 274, []))), (51, (.iload 4, 53, (4, 0, 0, 0, []))), (53, (.iaload, 54, (0, 0, 0, 0, []))), (54, (.istore 5, 56, (5, 0, 0, 0, []))), (56, (.iload_n 2, 57, (2, 0, 0, 0, []))), (57, (.iconst (-1), 58, (0, 0, 0, (-1), []))), (58, (.if_icmp .eq 24, 61, (82, 0, 0, 0, []))), (61, (.iload 5, 63, (5, 0, 0, 0, []))), (63, (.ifCond .lt 19, 66, (82, 0, 0, 0, []))), (66, (.iload 5, 68, (5, 0, 0, 0, []))), (68, (.aload_n 0, 69, (0, 0, 0, 0, []))), (69, (.getfield 38, 72, (8, 4, 2, 368, []))), (72, (.getfield 185, 75, (7, 5, 0, 201, []))), (75, (.if_icmp .ge 7, 78, (82, 0, 0, 0, []))), (78, (.iconst 1, 79, (0, 0, 0, 1, []))), (79, (.goto 4, 82, (83, 0, 0, 0, []))), (82, (.iconst 0, 83, (0, 0, 0, 0, []))), (83, (.istore 6, 85, (6, 0, 0, 0, []))), (85, (.aload_n 0, 86, (0, 0, 0, 0, []))), (86, (.getfield 59, 89, (8, 7, 2, 371, [])))]), (132, [(89, (.getfield 298, 92, (1, 0, 2, 290, []))), (92, (.iload_n 1, 93, (1, 0, 0, 0, []))), (93, (.aaload, 94, (0, 0, 0, 0, []))), (94, (.iload 4, 96, (4, 0, 0, 0, []))), (96, (.iload 6, 98, (6, 0, 0, 0, []))), (98, (.ifCond .eq 20, 101, (118, 0, 0, 0, []))), (101, (.aload_n 0, 102, (0, 0, 0, 0, []))), (102, (.getfield 38, 105, (8, 4, 2, 368, []))), (105, (.aload_n 0, 106, (0, 0, 0, 0, []))), (106, (.getfield 25, 109, (8, 2, 2, 366, []))), (109, (.iload_n 3, 110, (3, 0, 0, 0, []))), (110, (.iload 5, 112, (5, 0, 0, 0, []))), (112, (.invokevirtual 194, 115, (74, 3, 7, 641, []))), (115, (.goto 4, 118, (119, 0, 0, 0, []))), (118, (.iconst 0, 119, (0, 0, 0, 0, []))), (119, (.iastore, 120, (0, 0, 0, 0, []))), (120, (.iinc 4 1, 123, (4, 0, 0, 1, []))), (123, (.goto (-85), 126, (38, 0, 0, 0, []))), (126, (.iinc 1 1, 129, (1, 0, 0, 1, []))), (129, (.goto (-127), 132, (2, 0, 0, 0, []))), (132, (.return_, 133, (0, 0, 0, 0, [])))])]
def cd_X9_in : bg_K := [(18, [(0, (.lload_n 0, 1, (0, 0, 0, 0, []))), (1, (.lload_n 2, 2, (2, 0, 0, 0, []))), (2, (.lcmp, 3, (0, 0, 0, 0, []))), (3, (.ifCond .lt 14, 6, (17, 0, 0, 0, []))), (6, (.lload_n 0, 7, (0, 0, 0, 0, []))), (7, (.lload 4, 9, (4, 0, 0, 0, []))), (9, (.lcmp, 10, (0, 0, 0, 0, []))), (10, (.ifCond .gt 7, 13, (17, 0, 0, 0, []))), (13, (.iconst 1, 14, (0, 0, 0, 1, []))), (14, (.goto 4, 17, (18, 0, 0, 0, []))), (17, (.iconst 0, 18, (0, 0, 0, 0, []))), (18, (.ireturn, 19, (0, 0, 1, 0, [])))])]
def cd_X9_has : bg_K := [(14, [(0, (.iload_n 0, 1, (0, 0, 0, 0, []))), (1, (.iload_n 1, 2, (1, 0, 0, 0, []))), (2, (.ishr, 3, (0, 0, 0, 0, []))), (3, (.iconst 1, 4, (0, 0, 0, 1, []))), (4, (.iand, 5, (0, 0, 0, 0, []))), (5, (.iconst 1, 6, (0, 0, 0, 1, []))), (6, (.if_icmp .ne 7, 9, (13, 0, 0, 0, []))), (9, (.iconst 1, 10, (0, 0, 0, 1, []))), (10, (.goto 4, 13, (14, 0, 0, 0, []))), (13, (.iconst 0, 14, (0, 0, 0, 0, []))), (14, (.ireturn, 15, (0, 0, 1, 0, [])))])]
def cd_X9_bits : bg_K := [(21, [(0, (.iconst 0, 1, (0, 0, 0, 0, []))), (1, (.istore_n 1, 2, (1, 0, 0, 0, []))), (2, (.iload_n 0, 3, (0, 0, 0, 0, []))), (3, (.istore_n 2, 4, (2, 0, 0, 0, []))), (4, (.iload_n 2, 5, (2, 0, 0, 0, []))), (5, (.ifCond .eq 15, 8, (20, 0, 0, 0, []))), (8, (.iinc 1 1, 11, (1, 0, 0, 1, []))), (11, (.iload_n 2, 12, (2, 0, 0, 0, []))), (12, (.iload_n 2, 13, (2, 0, 0, 0, []))), (13, (.iconst 1, 14, (0, 0, 0, 1, []))), (14, (.isub, 15, (0, 0, 0, 0, []))), (15, (.iand, 16, (0, 0, 0, 0, []))), (16, (.istore_n 2, 17, (2, 0, 0, 0, []))), (17, (.goto (-13), 20, (4, 0, 0, 0, []))), (20, (.iload_n 1, 21, (1, 0, 0, 0, []))), (21, (.ireturn, 22, (0, 0, 0, 0, [])))])]
def cd_X9_noLand : bg_K := [(31, [(0, (.aload_n 0, 1, (0, 0, 0, 0, []))), (1, (.getfield 13, 4, (9, 2, 2, 855, []))), (4, (.iload_n 1, 5, (1, 0, 0, 0, []))), (5, (.iconst 0, 6, (0, 0, 0, 0, []))), (6, (.iastore, 7, (0, 0, 0, 0, []))), (7, (.aload_n 0, 8, (0, 0, 0, 0, []))), (8, (.getfield 19, 11, (9, 4, 2, 857, []))), (11, (.iload_n 1, 12, (1, 0, 0, 0, []))), (12, (.iconst 0, 13, (0, 0, 0, 0, []))), (13, (.iastore, 14, (0, 0, 0, 0, []))), (14, (.aload_n 0, 15, (0, 0, 0, 0, []))), (15, (.getfield 25, 18, (9, 6, 2, 859, []))), (18, (.iconst 3, 19, (0, 0, 0, 3, []))), (19, (.iload_n 1, 20, (1, 0, 0, 0, []))), (20, (.imul, 21, (0, 0, 0, 0, []))), (21, (.iconst 0, 22, (0, 0, 0, 0, []))), (22, (.iastore, 23, (0, 0, 0, 0, []))), (23, (.aload_n 0, 24, (0, 0, 0, 0, []))), (24, (.getfield 25, 27, (9, 6, 2, 859, []))), (27, (.iconst 3, 28, (0, 0, 0, 3, []))), (28, (.iload_n 1, 29, (1, 0, 0, 0, []))), (29, (.imul, 30, (0, 0, 0, 0, []))), (30, (.iconst 1, 31, (0, 0, 0, 1, []))), (31, (.iadd, 32, (0, 0, 0, 0, [])))]), (46, [(32, (.bipush 100, 34, (0, 0, 0, 100, []))), (34, (.iastore, 35, (0, 0, 0, 0, []))), (35, (.aload_n 0, 36, (0, 0, 0, 0, []))), (36, (.getfield 25, 39, (9, 6, 2, 859, []))), (39, (.iconst 3, 40, (0, 0, 0, 3, []))), (40, (.iload_n 1, 41, (1, 0, 0, 0, []))), (41, (.imul, 42, (0, 0, 0, 0, []))), (42, (.iconst 2, 43, (0, 0, 0, 2, []))), (43, (.iadd, 44, (0, 0, 0, 0, []))), (44, (.iconst 0, 45, (0, 0, 0, 0, []))), (45, (.iastore, 46, (0, 0, 0, 0, []))), (46, (.return_, 47, (0, 0, 0, 0, [])))])]
def cd_X9_noPlayers : bg_K := [(35, [(0, (.iconst 0, 1, (0, 0, 0, 0, []))), (1, (.istore_n 1, 2, (1, 0, 0, 0, []))), (2, (.iload_n 1, 3, (1, 0, 0, 0, []))), (3, (.iconst 4, 4, (0, 0, 0, 4, []))), (4, (.if_icmp .ge 30, 7, (34, 0, 0, 0, []))), (7, (.aload_n 0, 8, (0, 0, 0, 0, []))), (8, (.getfield 28, 11, (9, 7, 2, 860, []))), (11, (.iload_n 1, 12, (1, 0, 0, 0, []))), (12, (.iconst (-1), 13, (0, 0, 0, (-1), []))), (13, (.iastore, 14, (0, 0, 0, 0, []))), (14, (.aload_n 0, 15, (0, 0, 0, 0, []))), (15, (.getfield 31, 18, (9, 8, 2, 861, []))), (18, (.iload_n 1, 19, (1, 0, 0, 0, []))), (19, (.iconst (-1), 20, (0, 0, 0, (-1), []))), (20, (.iastore, 21, (0, 0, 0, 0, []))), (21, (.aload_n 0, 22, (0, 0, 0, 0, []))), (22, (.getfield 37, 25, (9, 11, 2, 864, []))), (25, (.iload_n 1, 26, (1, 0, 0, 0, []))), (26, (.iconst 0, 27, (0, 0, 0, 0, []))), (27, (.iastore, 28, (0, 0, 0, 0, []))), (28, (.iinc 1 1, 31, (1, 0, 0, 1, []))), (31, (.goto (-29), 34, (2, 0, 0, 0, []))), (34, (.iconst 0, 35, (0, 0, 0, 0, []))), (35, (.istore_n 1, 36, (1, 0, 0, 0, [])))]), (55, [(36, (.iload_n 1, 37, (1, 0, 0, 0, []))), (37, (.bipush 12, 39, (0, 0, 0, 12, []))), (39, (.if_icmp .ge 16, 42, (55, 0, 0, 0, []))), (42, (.aload_n 0, 43, (0, 0, 0, 0, []))), (43, (.getfield 34, 46, (9, 10, 2, 863, []))), (46, (.iload_n 1, 47, (1, 0, 0, 0, []))), (47, (.iconst 0, 48, (0, 0, 0, 0, []))), (48, (.iastore, 49, (0, 0, 0, 0, []))), (49, (.iinc 1 1, 52, (1, 0, 0, 1, []))), (52, (.goto (-16), 55, (36, 0, 0, 0, []))), (55, (.return_, 56, (0, 0, 0, 0, [])))])]
def cd_X9_write : bg_K := [(40, [(0, (.iload_n 1, 1, (1, 0, 0, 0, []))), (1, (.i2l, 2, (0, 0, 0, 0, []))), (2, (.lconst 1, 3, (0, 0, 0, 1, []))), (3, (.ldc2_w 90, 6, (0, 957, 0, 8, []))), (6, (.invokestatic 92, 9, (112, 3, 0, 958, []))), (9, (.ifCond .ne 5, 12, (14, 0, 0, 0, []))), (12, (.iconst (-1), 13, (0, 0, 0, (-1), []))), (13, (.ireturn, 14, (0, 0, 0, 0, []))), (14, (.aload_n 0, 15, (0, 0, 0, 0, []))), (15, (.getfield 96, 18, (9, 0, 0, 853, []))), (18, (.iload_n 1, 19, (1, 0, 0, 0, []))), (19, (.iadd, 20, (0, 0, 0, 0, []))), (20, (.sipush 400, 23, (0, 0, 0, 400, []))), (23, (.if_icmp .le 6, 26, (29, 0, 0, 0, []))), (26, (.bipush (-3), 28, (0, 0, 0, (-3), []))), (28, (.ireturn, 29, (0, 0, 0, 0, []))), (29, (.iload_n 1, 30, (1, 0, 0, 0, []))), (30, (.iconst 1, 31, (0, 0, 0, 1, []))), (31, (.isub, 32, (0, 0, 0, 0, []))), (32, (.istore 4, 34, (4, 0, 0, 0, []))), (34, (.iload 4, 36, (4, 0, 0, 0, []))), (36, (.ifCond .lt 40, 39, (76, 0, 0, 0, []))), (39, (.aload_n 0, 40, (0, 0, 0, 0, []))), (40, (.getfield 7, 43, (9, 1, 2, 854, [])))]), (80, [(43, (.aload_n 0, 44, (0, 0, 0, 0, []))), (44, (.getfield 96, 47, (9, 0, 0, 853, []))), (47, (.lload_n 2, 48, (2, 0, 0, 0, []))), (48, (.bipush 8, 50, (0, 0, 0, 8, []))), (50, (.iload 4, 52, (4, 0, 0, 0, []))), (52, (.imul, 53, (0, 0, 0, 0, []))), (53, (.lshr, 54, (0, 0, 0, 0, []))), (54, (.ldc2_w 100, 57, (0, 961, 0, 255, []))), (57, (.land, 58, (0, 0, 0, 0, []))), (58, (.l2i, 59, (0, 0, 0, 0, []))), (59, (.iastore, 60, (0, 0, 0, 0, []))), (60, (.aload_n 0, 61, (0, 0, 0, 0, []))), (61, (.dup, 62, (0, 0, 0, 0, []))), (62, (.getfield 96, 65, (9, 0, 0, 853, []))), (65, (.iconst 1, 66, (0, 0, 0, 1, []))), (66, (.iadd, 67, (0, 0, 0, 0, []))), (67, (.putfield 96, 70, (9, 0, 0, 853, []))), (70, (.iinc 4 (-1), 73, (4, 0, 0, (-1), []))), (73, (.goto (-39), 76, (34, 0, 0, 0, []))), (76, (.aload_n 0, 77, (0, 0, 0, 0, []))), (77, (.getfield 96, 80, (9, 0, 0, 853, []))), (80, (.ireturn, 81, (0, 0, 0, 0, [])))])]
def cd_X9_wipe : bg_K := [(11, [(0, (.aload_n 0, 1, (0, 0, 0, 0, []))), (1, (.getfield 96, 4, (9, 0, 0, 853, []))), (4, (.istore_n 1, 5, (1, 0, 0, 0, []))), (5, (.aload_n 0, 6, (0, 0, 0, 0, []))), (6, (.iconst 0, 7, (0, 0, 0, 0, []))), (7, (.putfield 96, 10, (9, 0, 0, 853, []))), (10, (.iload_n 1, 11, (1, 0, 0, 0, []))), (11, (.ireturn, 12, (0, 0, 0, 0, [])))])]
def cd_X9_byteAt : bg_K := [(18, [(0, (.iload_n 1, 1, (1, 0, 0, 0, []))), (1, (.aload_n 0, 2, (0, 0, 0, 0, []))), (2, (.getfield 96, 5, (9, 0, 0, 853, []))), (5, (.if_icmp .ge 12, 8, (17, 0, 0, 0, []))), (8, (.aload_n 0, 9, (0, 0, 0, 0, []))), (9, (.getfield 7, 12, (9, 1, 2, 854, []))), (12, (.iload_n 1, 13, (1, 0, 0, 0, []))), (13, (.iaload, 14, (0, 0, 0, 0, []))), (14, (.goto 4, 17, (18, 0, 0, 0, []))), (17, (.iconst 0, 18, (0, 0, 0, 0, []))), (18, (.ireturn, 19, (0, 0, 0, 0, [])))])]
def cd_X9_figures : bg_K := [(42, [(0, (.iconst 0, 1, (0, 0, 0, 0, []))), (1, (.istore_n 2, 2, (2, 0, 0, 0, []))), (2, (.iload_n 2, 3, (2, 0, 0, 0, []))), (3, (.iload_n 1, 4, (1, 0, 0, 0, []))), (4, (.if_icmp .ge 132, 7, (136, 0, 0, 0, []))), (7, (.iconst 0, 8, (0, 0, 0, 0, []))), (8, (.istore_n 3, 9, (3, 0, 0, 0, []))), (9, (.iconst 0, 10, (0, 0, 0, 0, []))), (10, (.istore 4, 12, (4, 0, 0, 0, []))), (12, (.aload_n 0, 13, (0, 0, 0, 0, []))), (13, (.aload_n 0, 14, (0, 0, 0, 0, []))), (14, (.getfield 102, 17, (9, 18, 0, 871, []))), (17, (.invokevirtual 105, 20, (119, 1, 9, 978, []))), (20, (.i2l, 21, (0, 0, 0, 0, []))), (21, (.ldc2_w 109, 24, (0, 990, 0, 48, []))), (24, (.ldc2_w 111, 27, (0, 991, 0, 57, []))), (27, (.invokestatic 92, 30, (112, 3, 0, 958, []))), (30, (.ifCond .eq 43, 33, (73, 0, 0, 0, []))), (33, (.iload_n 3, 34, (3, 0, 0, 0, []))), (34, (.iconst 4, 35, (0, 0, 0, 4, []))), (35, (.if_icmp .ge 38, 38, (73, 0, 0, 0, []))), (38, (.bipush 10, 40, (0, 0, 0, 10, []))), (40, (.iload 4, 42, (4, 0, 0, 0, []))), (42, (.imul, 43, (0, 0, 0, 0, [])))]), (86, [(43, (.aload_n 0, 44, (0, 0, 0, 0, []))), (44, (.aload_n 0, 45, (0, 0, 0, 0, []))), (45, (.getfield 102, 48, (9, 18, 0, 871, []))), (48, (.invokevirtual 105, 51, (119, 1, 9, 978, []))), (51, (.iadd, 52, (0, 0, 0, 0, []))), (52, (.bipush 48, 54, (0, 0, 0, 48, []))), (54, (.isub, 55, (0, 0, 0, 0, []))), (55, (.istore 4, 57, (4, 0, 0, 0, []))), (57, (.iinc 3 1, 60, (3, 0, 0, 1, []))), (60, (.aload_n 0, 61, (0, 0, 0, 0, []))), (61, (.dup, 62, (0, 0, 0, 0, []))), (62, (.getfield 102, 65, (9, 18, 0, 871, []))), (65, (.iconst 1, 66, (0, 0, 0, 1, []))), (66, (.iadd, 67, (0, 0, 0, 0, []))), (67, (.putfield 102, 70, (9, 18, 0, 871, []))), (70, (.goto (-58), 73, (12, 0, 0, 0, []))), (73, (.iload_n 3, 74, (3, 0, 0, 0, []))), (74, (.i2l, 75, (0, 0, 0, 0, []))), (75, (.lconst 1, 76, (0, 0, 0, 1, []))), (76, (.ldc2_w 113, 79, (0, 992, 0, 3, []))), (79, (.invokestatic 92, 82, (112, 3, 0, 958, []))), (82, (.ifCond .eq 28, 85, (110, 0, 0, 0, []))), (85, (.aload_n 0, 86, (0, 0, 0, 0, []))), (86, (.aload_n 0, 87, (0, 0, 0, 0, [])))]), (127, [(87, (.getfield 102, 90, (9, 18, 0, 871, []))), (90, (.invokevirtual 105, 93, (119, 1, 9, 978, []))), (93, (.iload_n 2, 94, (2, 0, 0, 0, []))), (94, (.iload_n 1, 95, (1, 0, 0, 0, []))), (95, (.iconst 1, 96, (0, 0, 0, 1, []))), (96, (.isub, 97, (0, 0, 0, 0, []))), (97, (.if_icmp .ge 8, 100, (105, 0, 0, 0, []))), (100, (.bipush 44, 102, (0, 0, 0, 44, []))), (102, (.goto 5, 105, (107, 0, 0, 0, []))), (105, (.bipush 59, 107, (0, 0, 0, 59, []))), (107, (.if_icmp .eq 5, 110, (112, 0, 0, 0, []))), (110, (.iconst 0, 111, (0, 0, 0, 0, []))), (111, (.ireturn, 112, (0, 0, 1, 0, []))), (112, (.aload_n 0, 113, (0, 0, 0, 0, []))), (113, (.getfield 49, 116, (9, 19, 2, 872, []))), (116, (.iload_n 2, 117, (2, 0, 0, 0, []))), (117, (.iload 4, 119, (4, 0, 0, 0, []))), (119, (.iastore, 120, (0, 0, 0, 0, []))), (120, (.aload_n 0, 121, (0, 0, 0, 0, []))), (121, (.dup, 122, (0, 0, 0, 0, []))), (122, (.getfield 102, 125, (9, 18, 0, 871, []))), (125, (.iconst 1, 126, (0, 0, 0, 1, []))), (126, (.iadd, 127, (0, 0, 0, 0, []))), (127, (.putfield 102, 130, (9, 18, 0, 871, [])))]), (137, [(130, (.iinc 2 1, 133, (2, 0, 0, 1, []))), (133, (.goto (-131), 136, (2, 0, 0, 0, []))), (136, (.iconst 1, 137, (0, 0, 0, 1, []))), (137, (.ireturn, 138, (0, 0, 1, 0, [])))])]
def cd_X9_pathItem : bg_K := [(42, [(0, (.aload_n 0, 1, (0, 0, 0, 0, []))), (1, (.bipush 7, 3, (0, 0, 0, 7, []))), (3, (.invokevirtual 115, 6, (120, 1, 9, 986, []))), (6, (.ifCond .eq 107, 9, (113, 0, 0, 0, []))), (9, (.aload_n 0, 10, (0, 0, 0, 0, []))), (10, (.getfield 49, 13, (9, 19, 2, 872, []))), (13, (.iconst 0, 14, (0, 0, 0, 0, []))), (14, (.iaload, 15, (0, 0, 0, 0, []))), (15, (.bipush 7, 17, (0, 0, 0, 7, []))), (17, (.if_icmp .gt 96, 20, (113, 0, 0, 0, []))), (20, (.aload_n 0, 21, (0, 0, 0, 0, []))), (21, (.getfield 49, 24, (9, 19, 2, 872, []))), (24, (.iconst 1, 25, (0, 0, 0, 1, []))), (25, (.iaload, 26, (0, 0, 0, 0, []))), (26, (.bipush 7, 28, (0, 0, 0, 7, []))), (28, (.if_icmp .gt 85, 31, (113, 0, 0, 0, []))), (31, (.aload_n 0, 32, (0, 0, 0, 0, []))), (32, (.getfield 49, 35, (9, 19, 2, 872, []))), (35, (.iconst 0, 36, (0, 0, 0, 0, []))), (36, (.iaload, 37, (0, 0, 0, 0, []))), (37, (.aload_n 0, 38, (0, 0, 0, 0, []))), (38, (.getfield 49, 41, (9, 19, 2, 872, []))), (41, (.iconst 1, 42, (0, 0, 0, 1, []))), (42, (.iaload, 43, (0, 0, 0, 0, [])))]), (85, [(43, (.if_icmp .eq 70, 46, (113, 0, 0, 0, []))), (46, (.aload_n 0, 47, (0, 0, 0, 0, []))), (47, (.getfield 49, 50, (9, 19, 2, 872, []))), (50, (.iconst 2, 51, (0, 0, 0, 2, []))), (51, (.iaload, 52, (0, 0, 0, 0, []))), (52, (.bipush 99, 54, (0, 0, 0, 99, []))), (54, (.if_icmp .gt 59, 57, (113, 0, 0, 0, []))), (57, (.aload_n 0, 58, (0, 0, 0, 0, []))), (58, (.getfield 49, 61, (9, 19, 2, 872, []))), (61, (.iconst 3, 62, (0, 0, 0, 3, []))), (62, (.iaload, 63, (0, 0, 0, 0, []))), (63, (.bipush 99, 65, (0, 0, 0, 99, []))), (65, (.if_icmp .gt 48, 68, (113, 0, 0, 0, []))), (68, (.aload_n 0, 69, (0, 0, 0, 0, []))), (69, (.getfield 49, 72, (9, 19, 2, 872, []))), (72, (.iconst 4, 73, (0, 0, 0, 4, []))), (73, (.iaload, 74, (0, 0, 0, 0, []))), (74, (.bipush 20, 76, (0, 0, 0, 20, []))), (76, (.if_icmp .gt 37, 79, (113, 0, 0, 0, []))), (79, (.aload_n 0, 80, (0, 0, 0, 0, []))), (80, (.getfield 49, 83, (9, 19, 2, 872, []))), (83, (.iconst 5, 84, (0, 0, 0, 5, []))), (84, (.iaload, 85, (0, 0, 0, 0, []))), (85, (.bipush 100, 87, (0, 0, 0, 100, [])))]), (130, [(87, (.if_icmp .gt 26, 90, (113, 0, 0, 0, []))), (90, (.aload_n 0, 91, (0, 0, 0, 0, []))), (91, (.getfield 49, 94, (9, 19, 2, 872, []))), (94, (.bipush 6, 96, (0, 0, 0, 6, []))), (96, (.iaload, 97, (0, 0, 0, 0, []))), (97, (.bipush 99, 99, (0, 0, 0, 99, []))), (99, (.if_icmp .gt 14, 102, (113, 0, 0, 0, []))), (102, (.aload_n 0, 103, (0, 0, 0, 0, []))), (103, (.getfield 13, 106, (9, 2, 2, 855, []))), (106, (.iconst 3, 107, (0, 0, 0, 3, []))), (107, (.iaload, 108, (0, 0, 0, 0, []))), (108, (.bipush 12, 110, (0, 0, 0, 12, []))), (110, (.if_icmp .ne 5, 113, (115, 0, 0, 0, []))), (113, (.iconst 0, 114, (0, 0, 0, 0, []))), (114, (.ireturn, 115, (0, 0, 1, 0, []))), (115, (.iconst 0, 116, (0, 0, 0, 0, []))), (116, (.istore_n 1, 117, (1, 0, 0, 0, []))), (117, (.iload_n 1, 118, (1, 0, 0, 0, []))), (118, (.bipush 7, 120, (0, 0, 0, 7, []))), (120, (.if_icmp .ge 35, 123, (155, 0, 0, 0, []))), (123, (.aload_n 0, 124, (0, 0, 0, 0, []))), (124, (.getfield 16, 127, (9, 3, 2, 856, []))), (127, (.sipush 252, 130, (0, 0, 0, 252, []))), (130, (.bipush 7, 132, (0, 0, 0, 7, [])))]), (165, [(132, (.aload_n 0, 133, (0, 0, 0, 0, []))), (133, (.getfield 13, 136, (9, 2, 2, 855, []))), (136, (.iconst 3, 137, (0, 0, 0, 3, []))), (137, (.iaload, 138, (0, 0, 0, 0, []))), (138, (.imul, 139, (0, 0, 0, 0, []))), (139, (.iadd, 140, (0, 0, 0, 0, []))), (140, (.iload_n 1, 141, (1, 0, 0, 0, []))), (141, (.iadd, 142, (0, 0, 0, 0, []))), (142, (.aload_n 0, 143, (0, 0, 0, 0, []))), (143, (.getfield 49, 146, (9, 19, 2, 872, []))), (146, (.iload_n 1, 147, (1, 0, 0, 0, []))), (147, (.iaload, 148, (0, 0, 0, 0, []))), (148, (.iastore, 149, (0, 0, 0, 0, []))), (149, (.iinc 1 1, 152, (1, 0, 0, 1, []))), (152, (.goto (-35), 155, (117, 0, 0, 0, []))), (155, (.aload_n 0, 156, (0, 0, 0, 0, []))), (156, (.getfield 13, 159, (9, 2, 2, 855, []))), (159, (.iconst 3, 160, (0, 0, 0, 3, []))), (160, (.dup2, 161, (0, 0, 0, 0, []))), (161, (.iaload, 162, (0, 0, 0, 0, []))), (162, (.iconst 1, 163, (0, 0, 0, 1, []))), (163, (.iadd, 164, (0, 0, 0, 0, []))), (164, (.iastore, 165, (0, 0, 0, 0, []))), (165, (.iconst 1, 166, (0, 0, 0, 1, [])))]), (166, [(166, (.ireturn, 167, (0, 0, 1, 0, [])))])]
def cd_X9_towerItem : bg_K := [(39, [(0, (.aload_n 0, 1, (0, 0, 0, 0, []))), (1, (.iconst 3, 2, (0, 0, 0, 3, []))), (2, (.invokevirtual 115, 5, (120, 1, 9, 986, []))), (5, (.ifCond .eq 69, 8, (74, 0, 0, 0, []))), (8, (.aload_n 0, 9, (0, 0, 0, 0, []))), (9, (.getfield 49, 12, (9, 19, 2, 872, []))), (12, (.iconst 0, 13, (0, 0, 0, 0, []))), (13, (.iaload, 14, (0, 0, 0, 0, []))), (14, (.aload_n 0, 15, (0, 0, 0, 0, []))), (15, (.getfield 13, 18, (9, 2, 2, 855, []))), (18, (.iconst 3, 19, (0, 0, 0, 3, []))), (19, (.iaload, 20, (0, 0, 0, 0, []))), (20, (.if_icmp .ge 54, 23, (74, 0, 0, 0, []))), (23, (.aload_n 0, 24, (0, 0, 0, 0, []))), (24, (.getfield 49, 27, (9, 19, 2, 872, []))), (27, (.iconst 1, 28, (0, 0, 0, 1, []))), (28, (.iaload, 29, (0, 0, 0, 0, []))), (29, (.aload_n 0, 30, (0, 0, 0, 0, []))), (30, (.getfield 13, 33, (9, 2, 2, 855, []))), (33, (.iconst 3, 34, (0, 0, 0, 3, []))), (34, (.iaload, 35, (0, 0, 0, 0, []))), (35, (.if_icmp .ge 39, 38, (74, 0, 0, 0, []))), (38, (.aload_n 0, 39, (0, 0, 0, 0, []))), (39, (.getfield 49, 42, (9, 19, 2, 872, [])))]), (78, [(42, (.iconst 0, 43, (0, 0, 0, 0, []))), (43, (.iaload, 44, (0, 0, 0, 0, []))), (44, (.aload_n 0, 45, (0, 0, 0, 0, []))), (45, (.getfield 49, 48, (9, 19, 2, 872, []))), (48, (.iconst 1, 49, (0, 0, 0, 1, []))), (49, (.iaload, 50, (0, 0, 0, 0, []))), (50, (.if_icmp .eq 24, 53, (74, 0, 0, 0, []))), (53, (.aload_n 0, 54, (0, 0, 0, 0, []))), (54, (.getfield 49, 57, (9, 19, 2, 872, []))), (57, (.iconst 2, 58, (0, 0, 0, 2, []))), (58, (.iaload, 59, (0, 0, 0, 0, []))), (59, (.bipush 20, 61, (0, 0, 0, 20, []))), (61, (.if_icmp .gt 13, 64, (74, 0, 0, 0, []))), (64, (.aload_n 0, 65, (0, 0, 0, 0, []))), (65, (.getfield 19, 68, (9, 4, 2, 857, []))), (68, (.iconst 3, 69, (0, 0, 0, 3, []))), (69, (.iaload, 70, (0, 0, 0, 0, []))), (70, (.iconst 3, 71, (0, 0, 0, 3, []))), (71, (.if_icmp .ne 5, 74, (76, 0, 0, 0, []))), (74, (.iconst 0, 75, (0, 0, 0, 0, []))), (75, (.ireturn, 76, (0, 0, 1, 0, []))), (76, (.iconst 0, 77, (0, 0, 0, 0, []))), (77, (.istore_n 1, 78, (1, 0, 0, 0, []))), (78, (.iload_n 1, 79, (1, 0, 0, 0, [])))]), (117, [(79, (.iconst 3, 80, (0, 0, 0, 3, []))), (80, (.if_icmp .ge 33, 83, (113, 0, 0, 0, []))), (83, (.aload_n 0, 84, (0, 0, 0, 0, []))), (84, (.getfield 22, 87, (9, 5, 2, 858, []))), (87, (.bipush 27, 89, (0, 0, 0, 27, []))), (89, (.iconst 3, 90, (0, 0, 0, 3, []))), (90, (.aload_n 0, 91, (0, 0, 0, 0, []))), (91, (.getfield 19, 94, (9, 4, 2, 857, []))), (94, (.iconst 3, 95, (0, 0, 0, 3, []))), (95, (.iaload, 96, (0, 0, 0, 0, []))), (96, (.imul, 97, (0, 0, 0, 0, []))), (97, (.iadd, 98, (0, 0, 0, 0, []))), (98, (.iload_n 1, 99, (1, 0, 0, 0, []))), (99, (.iadd, 100, (0, 0, 0, 0, []))), (100, (.aload_n 0, 101, (0, 0, 0, 0, []))), (101, (.getfield 49, 104, (9, 19, 2, 872, []))), (104, (.iload_n 1, 105, (1, 0, 0, 0, []))), (105, (.iaload, 106, (0, 0, 0, 0, []))), (106, (.iastore, 107, (0, 0, 0, 0, []))), (107, (.iinc 1 1, 110, (1, 0, 0, 1, []))), (110, (.goto (-32), 113, (78, 0, 0, 0, []))), (113, (.aload_n 0, 114, (0, 0, 0, 0, []))), (114, (.getfield 19, 117, (9, 4, 2, 857, []))), (117, (.iconst 3, 118, (0, 0, 0, 3, [])))]), (124, [(118, (.dup2, 119, (0, 0, 0, 0, []))), (119, (.iaload, 120, (0, 0, 0, 0, []))), (120, (.iconst 1, 121, (0, 0, 0, 1, []))), (121, (.iadd, 122, (0, 0, 0, 0, []))), (122, (.iastore, 123, (0, 0, 0, 0, []))), (123, (.iconst 1, 124, (0, 0, 0, 1, []))), (124, (.ireturn, 125, (0, 0, 1, 0, [])))])]
def cd_X9_item : bg_K := [(90, [(0, (.aload_n 0, 1, (0, 0, 0, 0, []))), (1, (.aload_n 0, 2, (0, 0, 0, 0, []))), (2, (.getfield 102, 5, (9, 18, 0, 871, []))), (5, (.invokevirtual 105, 8, (119, 1, 9, 978, []))), (8, (.istore_n 1, 9, (1, 0, 0, 0, []))), (9, (.aload_n 0, 10, (0, 0, 0, 0, []))), (10, (.dup, 11, (0, 0, 0, 0, []))), (11, (.getfield 102, 14, (9, 18, 0, 871, []))), (14, (.iconst 1, 15, (0, 0, 0, 1, []))), (15, (.iadd, 16, (0, 0, 0, 0, []))), (16, (.putfield 102, 19, (9, 18, 0, 871, []))), (19, (.iload_n 1, 20, (1, 0, 0, 0, []))), (20, (.lookupswitch 149 #[(99, 62), (111, 124), (112, 52), (116, 57), (118, 99)], 72, (169, 0, 0, 0, [(99, 82), (111, 144), (112, 72), (116, 77), (118, 119)]))), (72, (.aload_n 0, 73, (0, 0, 0, 0, []))), (73, (.invokevirtual 119, 76, (121, 0, 9, 982, []))), (76, (.ireturn, 77, (0, 0, 1, 0, []))), (77, (.aload_n 0, 78, (0, 0, 0, 0, []))), (78, (.invokevirtual 123, 81, (122, 0, 9, 993, []))), (81, (.ireturn, 82, (0, 0, 1, 0, []))), (82, (.aload_n 0, 83, (0, 0, 0, 0, []))), (83, (.iconst 1, 84, (0, 0, 0, 1, []))), (84, (.invokevirtual 115, 87, (120, 1, 9, 986, []))), (87, (.ifCond .eq 15, 90, (102, 0, 0, 0, []))), (90, (.aload_n 0, 91, (0, 0, 0, 0, [])))]), (129, [(91, (.getfield 49, 94, (9, 19, 2, 872, []))), (94, (.iconst 0, 95, (0, 0, 0, 0, []))), (95, (.iaload, 96, (0, 0, 0, 0, []))), (96, (.sipush 300, 99, (0, 0, 0, 300, []))), (99, (.if_icmp .le 5, 102, (104, 0, 0, 0, []))), (102, (.iconst 0, 103, (0, 0, 0, 0, []))), (103, (.ireturn, 104, (0, 0, 1, 0, []))), (104, (.aload_n 0, 105, (0, 0, 0, 0, []))), (105, (.getfield 25, 108, (9, 6, 2, 859, []))), (108, (.bipush 9, 110, (0, 0, 0, 9, []))), (110, (.aload_n 0, 111, (0, 0, 0, 0, []))), (111, (.getfield 49, 114, (9, 19, 2, 872, []))), (114, (.iconst 0, 115, (0, 0, 0, 0, []))), (115, (.iaload, 116, (0, 0, 0, 0, []))), (116, (.iastore, 117, (0, 0, 0, 0, []))), (117, (.iconst 1, 118, (0, 0, 0, 1, []))), (118, (.ireturn, 119, (0, 0, 1, 0, []))), (119, (.aload_n 0, 120, (0, 0, 0, 0, []))), (120, (.iconst 1, 121, (0, 0, 0, 1, []))), (121, (.invokevirtual 115, 124, (120, 1, 9, 986, []))), (124, (.ifCond .ne 5, 127, (129, 0, 0, 0, []))), (127, (.iconst 0, 128, (0, 0, 0, 0, []))), (128, (.ireturn, 129, (0, 0, 1, 0, []))), (129, (.aload_n 0, 130, (0, 0, 0, 0, [])))]), (167, [(130, (.getfield 25, 133, (9, 6, 2, 859, []))), (133, (.bipush 10, 135, (0, 0, 0, 10, []))), (135, (.aload_n 0, 136, (0, 0, 0, 0, []))), (136, (.getfield 49, 139, (9, 19, 2, 872, []))), (139, (.iconst 0, 140, (0, 0, 0, 0, []))), (140, (.iaload, 141, (0, 0, 0, 0, []))), (141, (.iastore, 142, (0, 0, 0, 0, []))), (142, (.iconst 1, 143, (0, 0, 0, 1, []))), (143, (.ireturn, 144, (0, 0, 1, 0, []))), (144, (.aload_n 0, 145, (0, 0, 0, 0, []))), (145, (.iconst 1, 146, (0, 0, 0, 1, []))), (146, (.invokevirtual 115, 149, (120, 1, 9, 986, []))), (149, (.ifCond .ne 5, 152, (154, 0, 0, 0, []))), (152, (.iconst 0, 153, (0, 0, 0, 0, []))), (153, (.ireturn, 154, (0, 0, 1, 0, []))), (154, (.aload_n 0, 155, (0, 0, 0, 0, []))), (155, (.getfield 25, 158, (9, 6, 2, 859, []))), (158, (.bipush 11, 160, (0, 0, 0, 11, []))), (160, (.aload_n 0, 161, (0, 0, 0, 0, []))), (161, (.getfield 49, 164, (9, 19, 2, 872, []))), (164, (.iconst 0, 165, (0, 0, 0, 0, []))), (165, (.iaload, 166, (0, 0, 0, 0, []))), (166, (.iastore, 167, (0, 0, 0, 0, []))), (167, (.iconst 1, 168, (0, 0, 0, 1, [])))]), (170, [(168, (.ireturn, 169, (0, 0, 1, 0, []))), (169, (.iconst 0, 170, (0, 0, 0, 0, []))), (170, (.ireturn, 171, (0, 0, 1, 0, [])))])]
def cd_X9_readAll : bg_K := [(40, [(0, (.aload_n 0, 1, (0, 0, 0, 0, []))), (1, (.iconst 3, 2, (0, 0, 0, 3, []))), (2, (.invokevirtual 83, 5, (115, 1, 9, 845, []))), (5, (.aload_n 0, 6, (0, 0, 0, 0, []))), (6, (.iconst 0, 7, (0, 0, 0, 0, []))), (7, (.putfield 102, 10, (9, 18, 0, 871, []))), (10, (.aload_n 0, 11, (0, 0, 0, 0, []))), (11, (.getfield 102, 14, (9, 18, 0, 871, []))), (14, (.aload_n 0, 15, (0, 0, 0, 0, []))), (15, (.getfield 96, 18, (9, 0, 0, 853, []))), (18, (.if_icmp .ge 20, 21, (38, 0, 0, 0, []))), (21, (.aload_n 0, 22, (0, 0, 0, 0, []))), (22, (.getfield 102, 25, (9, 18, 0, 871, []))), (25, (.istore_n 1, 26, (1, 0, 0, 0, []))), (26, (.aload_n 0, 27, (0, 0, 0, 0, []))), (27, (.invokevirtual 126, 30, (123, 0, 9, 974, []))), (30, (.ifCond .ne 5, 33, (35, 0, 0, 0, []))), (33, (.iload_n 1, 34, (1, 0, 0, 0, []))), (34, (.ireturn, 35, (0, 0, 0, 0, []))), (35, (.goto (-25), 38, (10, 0, 0, 0, []))), (38, (.bipush (-4), 40, (0, 0, 0, (-4), []))), (40, (.ireturn, 41, (0, 0, 0, 0, [])))])]
def cd_X9_fault : bg_K := [(4, [(0, (.aload_n 0, 1, (0, 0, 0, 0, []))), (1, (.invokevirtual 129, 4, (124, 0, 9, 970, []))), (4, (.ireturn, 5, (0, 0, 0, 0, [])))])]
def cd_X9_copyLand : bg_K := [(36, [(0, (.aload_n 0, 1, (0, 0, 0, 0, []))), (1, (.getfield 13, 4, (9, 2, 2, 855, []))), (4, (.iload_n 2, 5, (2, 0, 0, 0, []))), (5, (.aload_n 0, 6, (0, 0, 0, 0, []))), (6, (.getfield 13, 9, (9, 2, 2, 855, []))), (9, (.iload_n 1, 10, (1, 0, 0, 0, []))), (10, (.iaload, 11, (0, 0, 0, 0, []))), (11, (.iastore, 12, (0, 0, 0, 0, []))), (12, (.iconst 0, 13, (0, 0, 0, 0, []))), (13, (.istore_n 3, 14, (3, 0, 0, 0, []))), (14, (.iload_n 3, 15, (3, 0, 0, 0, []))), (15, (.bipush 84, 17, (0, 0, 0, 84, []))), (17, (.if_icmp .ge 31, 20, (48, 0, 0, 0, []))), (20, (.aload_n 0, 21, (0, 0, 0, 0, []))), (21, (.getfield 16, 24, (9, 3, 2, 856, []))), (24, (.bipush 84, 26, (0, 0, 0, 84, []))), (26, (.iload_n 2, 27, (2, 0, 0, 0, []))), (27, (.imul, 28, (0, 0, 0, 0, []))), (28, (.iload_n 3, 29, (3, 0, 0, 0, []))), (29, (.iadd, 30, (0, 0, 0, 0, []))), (30, (.aload_n 0, 31, (0, 0, 0, 0, []))), (31, (.getfield 16, 34, (9, 3, 2, 856, []))), (34, (.bipush 84, 36, (0, 0, 0, 84, []))), (36, (.iload_n 1, 37, (1, 0, 0, 0, [])))]), (74, [(37, (.imul, 38, (0, 0, 0, 0, []))), (38, (.iload_n 3, 39, (3, 0, 0, 0, []))), (39, (.iadd, 40, (0, 0, 0, 0, []))), (40, (.iaload, 41, (0, 0, 0, 0, []))), (41, (.iastore, 42, (0, 0, 0, 0, []))), (42, (.iinc 3 1, 45, (3, 0, 0, 1, []))), (45, (.goto (-31), 48, (14, 0, 0, 0, []))), (48, (.aload_n 0, 49, (0, 0, 0, 0, []))), (49, (.getfield 19, 52, (9, 4, 2, 857, []))), (52, (.iload_n 2, 53, (2, 0, 0, 0, []))), (53, (.aload_n 0, 54, (0, 0, 0, 0, []))), (54, (.getfield 19, 57, (9, 4, 2, 857, []))), (57, (.iload_n 1, 58, (1, 0, 0, 0, []))), (58, (.iaload, 59, (0, 0, 0, 0, []))), (59, (.iastore, 60, (0, 0, 0, 0, []))), (60, (.iconst 0, 61, (0, 0, 0, 0, []))), (61, (.istore_n 3, 62, (3, 0, 0, 0, []))), (62, (.iload_n 3, 63, (3, 0, 0, 0, []))), (63, (.bipush 9, 65, (0, 0, 0, 9, []))), (65, (.if_icmp .ge 31, 68, (96, 0, 0, 0, []))), (68, (.aload_n 0, 69, (0, 0, 0, 0, []))), (69, (.getfield 22, 72, (9, 5, 2, 858, []))), (72, (.bipush 9, 74, (0, 0, 0, 9, []))), (74, (.iload_n 2, 75, (2, 0, 0, 0, [])))]), (109, [(75, (.imul, 76, (0, 0, 0, 0, []))), (76, (.iload_n 3, 77, (3, 0, 0, 0, []))), (77, (.iadd, 78, (0, 0, 0, 0, []))), (78, (.aload_n 0, 79, (0, 0, 0, 0, []))), (79, (.getfield 22, 82, (9, 5, 2, 858, []))), (82, (.bipush 9, 84, (0, 0, 0, 9, []))), (84, (.iload_n 1, 85, (1, 0, 0, 0, []))), (85, (.imul, 86, (0, 0, 0, 0, []))), (86, (.iload_n 3, 87, (3, 0, 0, 0, []))), (87, (.iadd, 88, (0, 0, 0, 0, []))), (88, (.iaload, 89, (0, 0, 0, 0, []))), (89, (.iastore, 90, (0, 0, 0, 0, []))), (90, (.iinc 3 1, 93, (3, 0, 0, 1, []))), (93, (.goto (-31), 96, (62, 0, 0, 0, []))), (96, (.iconst 0, 97, (0, 0, 0, 0, []))), (97, (.istore_n 3, 98, (3, 0, 0, 0, []))), (98, (.iload_n 3, 99, (3, 0, 0, 0, []))), (99, (.iconst 3, 100, (0, 0, 0, 3, []))), (100, (.if_icmp .ge 29, 103, (129, 0, 0, 0, []))), (103, (.aload_n 0, 104, (0, 0, 0, 0, []))), (104, (.getfield 25, 107, (9, 6, 2, 859, []))), (107, (.iconst 3, 108, (0, 0, 0, 3, []))), (108, (.iload_n 2, 109, (2, 0, 0, 0, []))), (109, (.imul, 110, (0, 0, 0, 0, [])))]), (139, [(110, (.iload_n 3, 111, (3, 0, 0, 0, []))), (111, (.iadd, 112, (0, 0, 0, 0, []))), (112, (.aload_n 0, 113, (0, 0, 0, 0, []))), (113, (.getfield 25, 116, (9, 6, 2, 859, []))), (116, (.iconst 3, 117, (0, 0, 0, 3, []))), (117, (.iload_n 1, 118, (1, 0, 0, 0, []))), (118, (.imul, 119, (0, 0, 0, 0, []))), (119, (.iload_n 3, 120, (3, 0, 0, 0, []))), (120, (.iadd, 121, (0, 0, 0, 0, []))), (121, (.iaload, 122, (0, 0, 0, 0, []))), (122, (.iastore, 123, (0, 0, 0, 0, []))), (123, (.iinc 3 1, 126, (3, 0, 0, 1, []))), (126, (.goto (-28), 129, (98, 0, 0, 0, []))), (129, (.aload_n 0, 130, (0, 0, 0, 0, []))), (130, (.iconst 0, 131, (0, 0, 0, 0, []))), (131, (.putfield 133, 134, (9, 12, 3, 865, []))), (134, (.aload_n 0, 135, (0, 0, 0, 0, []))), (135, (.iconst 0, 136, (0, 0, 0, 0, []))), (136, (.putfield 137, 139, (9, 14, 3, 867, []))), (139, (.return_, 140, (0, 0, 0, 0, [])))])]
def cd_X9_lay : bg_K := [(28, [(0, (.aload_n 0, 1, (0, 0, 0, 0, []))), (1, (.invokevirtual 129, 4, (124, 0, 9, 970, []))), (4, (.bipush (-4), 6, (0, 0, 0, (-4), []))), (6, (.if_icmp .eq 6, 9, (12, 0, 0, 0, []))), (9, (.bipush (-2), 11, (0, 0, 0, (-2), []))), (11, (.ireturn, 12, (0, 0, 0, 0, []))), (12, (.aload_n 0, 13, (0, 0, 0, 0, []))), (13, (.iconst 3, 14, (0, 0, 0, 3, []))), (14, (.iconst 0, 15, (0, 0, 0, 0, []))), (15, (.invokevirtual 140, 18, (126, 2, 9, 1001, []))), (18, (.aload_n 0, 19, (0, 0, 0, 0, []))), (19, (.invokevirtual 87, 22, (116, 0, 9, 849, []))), (22, (.aload_n 0, 23, (0, 0, 0, 0, []))), (23, (.getfield 13, 26, (9, 2, 2, 855, []))), (26, (.iconst 0, 27, (0, 0, 0, 0, []))), (27, (.iaload, 28, (0, 0, 0, 0, []))), (28, (.ireturn, 29, (0, 0, 0, 0, [])))])]
def cd_X9_isPath : bg_K := [(15, [(0, (.iload_n 1, 1, (1, 0, 0, 0, []))), (1, (.i2l, 2, (0, 0, 0, 0, []))), (2, (.lconst 0, 3, (0, 0, 0, 0, []))), (3, (.aload_n 0, 4, (0, 0, 0, 0, []))), (4, (.getfield 13, 7, (9, 2, 2, 855, []))), (7, (.iconst 0, 8, (0, 0, 0, 0, []))), (8, (.iaload, 9, (0, 0, 0, 0, []))), (9, (.iconst 1, 10, (0, 0, 0, 1, []))), (10, (.isub, 11, (0, 0, 0, 0, []))), (11, (.i2l, 12, (0, 0, 0, 0, []))), (12, (.invokestatic 92, 15, (112, 3, 0, 958, []))), (15, (.ireturn, 16, (0, 0, 1, 0, [])))])]
def cd_X9_path : bg_K := [(35, [(0, (.aload_n 0, 1, (0, 0, 0, 0, []))), (1, (.iload_n 1, 2, (1, 0, 0, 0, []))), (2, (.invokevirtual 144, 5, (128, 1, 9, 1009, []))), (5, (.ifCond .eq 29, 8, (34, 0, 0, 0, []))), (8, (.iload_n 2, 9, (2, 0, 0, 0, []))), (9, (.i2l, 10, (0, 0, 0, 0, []))), (10, (.lconst 0, 11, (0, 0, 0, 0, []))), (11, (.ldc2_w 147, 14, (0, 1013, 0, 6, []))), (14, (.invokestatic 92, 17, (112, 3, 0, 958, []))), (17, (.ifCond .eq 17, 20, (34, 0, 0, 0, []))), (20, (.aload_n 0, 21, (0, 0, 0, 0, []))), (21, (.getfield 16, 24, (9, 3, 2, 856, []))), (24, (.bipush 7, 26, (0, 0, 0, 7, []))), (26, (.iload_n 1, 27, (1, 0, 0, 0, []))), (27, (.imul, 28, (0, 0, 0, 0, []))), (28, (.iload_n 2, 29, (2, 0, 0, 0, []))), (29, (.iadd, 30, (0, 0, 0, 0, []))), (30, (.iaload, 31, (0, 0, 0, 0, []))), (31, (.goto 4, 34, (35, 0, 0, 0, []))), (34, (.iconst (-1), 35, (0, 0, 0, (-1), []))), (35, (.ireturn, 36, (0, 0, 0, 0, [])))])]
def cd_X9_arePosts : bg_K := [(30, [(0, (.iconst 1, 1, (0, 0, 0, 1, []))), (1, (.aload_n 0, 2, (0, 0, 0, 0, []))), (2, (.getfield 13, 5, (9, 2, 2, 855, []))), (5, (.iconst 0, 6, (0, 0, 0, 0, []))), (6, (.iaload, 7, (0, 0, 0, 0, []))), (7, (.ishl, 8, (0, 0, 0, 0, []))), (8, (.iconst 1, 9, (0, 0, 0, 1, []))), (9, (.isub, 10, (0, 0, 0, 0, []))), (10, (.iconst 1, 11, (0, 0, 0, 1, []))), (11, (.aload_n 0, 12, (0, 0, 0, 0, []))), (12, (.getfield 19, 15, (9, 4, 2, 857, []))), (15, (.iconst 0, 16, (0, 0, 0, 0, []))), (16, (.iaload, 17, (0, 0, 0, 0, []))), (17, (.ishl, 18, (0, 0, 0, 0, []))), (18, (.iconst 1, 19, (0, 0, 0, 1, []))), (19, (.isub, 20, (0, 0, 0, 0, []))), (20, (.bipush 12, 22, (0, 0, 0, 12, []))), (22, (.ishl, 23, (0, 0, 0, 0, []))), (23, (.ior, 24, (0, 0, 0, 0, []))), (24, (.istore_n 2, 25, (2, 0, 0, 0, []))), (25, (.iload_n 1, 26, (1, 0, 0, 0, []))), (26, (.ifCond .lt 15, 29, (41, 0, 0, 0, []))), (29, (.iload_n 1, 30, (1, 0, 0, 0, []))), (30, (.iload_n 2, 31, (2, 0, 0, 0, [])))]), (42, [(31, (.iconst (-1), 32, (0, 0, 0, (-1), []))), (32, (.ixor, 33, (0, 0, 0, 0, []))), (33, (.iand, 34, (0, 0, 0, 0, []))), (34, (.ifCond .ne 7, 37, (41, 0, 0, 0, []))), (37, (.iconst 1, 38, (0, 0, 0, 1, []))), (38, (.goto 4, 41, (42, 0, 0, 0, []))), (41, (.iconst 0, 42, (0, 0, 0, 0, []))), (42, (.ireturn, 43, (0, 0, 1, 0, [])))])]
def cd_X9_costOf : bg_K := [(35, [(0, (.iconst 0, 1, (0, 0, 0, 0, []))), (1, (.istore_n 2, 2, (2, 0, 0, 0, []))), (2, (.iconst 0, 3, (0, 0, 0, 0, []))), (3, (.istore_n 3, 4, (3, 0, 0, 0, []))), (4, (.iload_n 3, 5, (3, 0, 0, 0, []))), (5, (.bipush 12, 7, (0, 0, 0, 12, []))), (7, (.if_icmp .ge 35, 10, (42, 0, 0, 0, []))), (10, (.iload_n 2, 11, (2, 0, 0, 0, []))), (11, (.iload_n 1, 12, (1, 0, 0, 0, []))), (12, (.iload_n 3, 13, (3, 0, 0, 0, []))), (13, (.invokestatic 149, 16, (113, 2, 0, 1027, []))), (16, (.ifCond .eq 17, 19, (33, 0, 0, 0, []))), (19, (.aload_n 0, 20, (0, 0, 0, 0, []))), (20, (.getfield 16, 23, (9, 3, 2, 856, []))), (23, (.bipush 7, 25, (0, 0, 0, 7, []))), (25, (.iload_n 3, 26, (3, 0, 0, 0, []))), (26, (.imul, 27, (0, 0, 0, 0, []))), (27, (.iconst 4, 28, (0, 0, 0, 4, []))), (28, (.iadd, 29, (0, 0, 0, 0, []))), (29, (.iaload, 30, (0, 0, 0, 0, []))), (30, (.goto 4, 33, (34, 0, 0, 0, []))), (33, (.iconst 0, 34, (0, 0, 0, 0, []))), (34, (.iadd, 35, (0, 0, 0, 0, []))), (35, (.istore_n 2, 36, (2, 0, 0, 0, [])))]), (74, [(36, (.iinc 3 1, 39, (3, 0, 0, 1, []))), (39, (.goto (-35), 42, (4, 0, 0, 0, []))), (42, (.iconst 0, 43, (0, 0, 0, 0, []))), (43, (.istore_n 3, 44, (3, 0, 0, 0, []))), (44, (.iload_n 3, 45, (3, 0, 0, 0, []))), (45, (.iconst 3, 46, (0, 0, 0, 3, []))), (46, (.if_icmp .ge 37, 49, (83, 0, 0, 0, []))), (49, (.iload_n 2, 50, (2, 0, 0, 0, []))), (50, (.iload_n 1, 51, (1, 0, 0, 0, []))), (51, (.bipush 12, 53, (0, 0, 0, 12, []))), (53, (.iload_n 3, 54, (3, 0, 0, 0, []))), (54, (.iadd, 55, (0, 0, 0, 0, []))), (55, (.invokestatic 149, 58, (113, 2, 0, 1027, []))), (58, (.ifCond .eq 16, 61, (74, 0, 0, 0, []))), (61, (.aload_n 0, 62, (0, 0, 0, 0, []))), (62, (.getfield 22, 65, (9, 5, 2, 858, []))), (65, (.iconst 3, 66, (0, 0, 0, 3, []))), (66, (.iload_n 3, 67, (3, 0, 0, 0, []))), (67, (.imul, 68, (0, 0, 0, 0, []))), (68, (.iconst 2, 69, (0, 0, 0, 2, []))), (69, (.iadd, 70, (0, 0, 0, 0, []))), (70, (.iaload, 71, (0, 0, 0, 0, []))), (71, (.goto 4, 74, (75, 0, 0, 0, []))), (74, (.iconst 0, 75, (0, 0, 0, 0, [])))]), (84, [(75, (.iadd, 76, (0, 0, 0, 0, []))), (76, (.istore_n 2, 77, (2, 0, 0, 0, []))), (77, (.iinc 3 1, 80, (3, 0, 0, 1, []))), (80, (.goto (-36), 83, (44, 0, 0, 0, []))), (83, (.iload_n 2, 84, (2, 0, 0, 0, []))), (84, (.ireturn, 85, (0, 0, 0, 0, [])))])]
def cd_X9_heldBy : bg_K := [(34, [(0, (.iload_n 1, 1, (1, 0, 0, 0, []))), (1, (.sipush 4095, 4, (0, 0, 0, 4095, []))), (4, (.iand, 5, (0, 0, 0, 0, []))), (5, (.istore_n 2, 6, (2, 0, 0, 0, []))), (6, (.iconst 0, 7, (0, 0, 0, 0, []))), (7, (.istore_n 3, 8, (3, 0, 0, 0, []))), (8, (.iload_n 3, 9, (3, 0, 0, 0, []))), (9, (.iconst 3, 10, (0, 0, 0, 3, []))), (10, (.if_icmp .ge 50, 13, (60, 0, 0, 0, []))), (13, (.iload_n 2, 14, (2, 0, 0, 0, []))), (14, (.iload_n 1, 15, (1, 0, 0, 0, []))), (15, (.bipush 12, 17, (0, 0, 0, 12, []))), (17, (.iload_n 3, 18, (3, 0, 0, 0, []))), (18, (.iadd, 19, (0, 0, 0, 0, []))), (19, (.invokestatic 149, 22, (113, 2, 0, 1027, []))), (22, (.ifCond .eq 29, 25, (51, 0, 0, 0, []))), (25, (.iconst 1, 26, (0, 0, 0, 1, []))), (26, (.aload_n 0, 27, (0, 0, 0, 0, []))), (27, (.getfield 22, 30, (9, 5, 2, 858, []))), (30, (.iconst 3, 31, (0, 0, 0, 3, []))), (31, (.iload_n 3, 32, (3, 0, 0, 0, []))), (32, (.imul, 33, (0, 0, 0, 0, []))), (33, (.iaload, 34, (0, 0, 0, 0, []))), (34, (.ishl, 35, (0, 0, 0, 0, [])))]), (61, [(35, (.iconst 1, 36, (0, 0, 0, 1, []))), (36, (.aload_n 0, 37, (0, 0, 0, 0, []))), (37, (.getfield 22, 40, (9, 5, 2, 858, []))), (40, (.iconst 3, 41, (0, 0, 0, 3, []))), (41, (.iload_n 3, 42, (3, 0, 0, 0, []))), (42, (.imul, 43, (0, 0, 0, 0, []))), (43, (.iconst 1, 44, (0, 0, 0, 1, []))), (44, (.iadd, 45, (0, 0, 0, 0, []))), (45, (.iaload, 46, (0, 0, 0, 0, []))), (46, (.ishl, 47, (0, 0, 0, 0, []))), (47, (.ior, 48, (0, 0, 0, 0, []))), (48, (.goto 4, 51, (52, 0, 0, 0, []))), (51, (.iconst 0, 52, (0, 0, 0, 0, []))), (52, (.ior, 53, (0, 0, 0, 0, []))), (53, (.istore_n 2, 54, (2, 0, 0, 0, []))), (54, (.iinc 3 1, 57, (3, 0, 0, 1, []))), (57, (.goto (-49), 60, (8, 0, 0, 0, []))), (60, (.iload_n 2, 61, (2, 0, 0, 0, []))), (61, (.ireturn, 62, (0, 0, 0, 0, [])))])]
def cd_X9_waitsBy : bg_K := [(36, [(0, (.iconst 0, 1, (0, 0, 0, 0, []))), (1, (.istore_n 2, 2, (2, 0, 0, 0, []))), (2, (.iconst 0, 3, (0, 0, 0, 0, []))), (3, (.istore_n 3, 4, (3, 0, 0, 0, []))), (4, (.iload_n 3, 5, (3, 0, 0, 0, []))), (5, (.bipush 12, 7, (0, 0, 0, 12, []))), (7, (.if_icmp .ge 36, 10, (43, 0, 0, 0, []))), (10, (.iload_n 2, 11, (2, 0, 0, 0, []))), (11, (.iload_n 1, 12, (1, 0, 0, 0, []))), (12, (.iload_n 3, 13, (3, 0, 0, 0, []))), (13, (.invokestatic 149, 16, (113, 2, 0, 1027, []))), (16, (.ifCond .eq 18, 19, (34, 0, 0, 0, []))), (19, (.aload_n 0, 20, (0, 0, 0, 0, []))), (20, (.getfield 16, 23, (9, 3, 2, 856, []))), (23, (.bipush 7, 25, (0, 0, 0, 7, []))), (25, (.iload_n 3, 26, (3, 0, 0, 0, []))), (26, (.imul, 27, (0, 0, 0, 0, []))), (27, (.bipush 6, 29, (0, 0, 0, 6, []))), (29, (.iadd, 30, (0, 0, 0, 0, []))), (30, (.iaload, 31, (0, 0, 0, 0, []))), (31, (.goto 4, 34, (35, 0, 0, 0, []))), (34, (.iconst 0, 35, (0, 0, 0, 0, []))), (35, (.iadd, 36, (0, 0, 0, 0, []))), (36, (.istore_n 2, 37, (2, 0, 0, 0, [])))]), (44, [(37, (.iinc 3 1, 40, (3, 0, 0, 1, []))), (40, (.goto (-36), 43, (4, 0, 0, 0, []))), (43, (.iload_n 2, 44, (2, 0, 0, 0, []))), (44, (.ireturn, 45, (0, 0, 0, 0, [])))])]
def cd_X9_posts : bg_K := [(41, [(0, (.aload_n 0, 1, (0, 0, 0, 0, []))), (1, (.iload_n 1, 2, (1, 0, 0, 0, []))), (2, (.invokevirtual 153, 5, (130, 1, 9, 1018, []))), (5, (.ifCond .eq 15, 8, (20, 0, 0, 0, []))), (8, (.iload_n 2, 9, (2, 0, 0, 0, []))), (9, (.i2l, 10, (0, 0, 0, 0, []))), (10, (.lconst 0, 11, (0, 0, 0, 0, []))), (11, (.ldc2_w 156, 14, (0, 1022, 0, 2, []))), (14, (.invokestatic 92, 17, (112, 3, 0, 958, []))), (17, (.ifCond .ne 5, 20, (22, 0, 0, 0, []))), (20, (.iconst (-1), 21, (0, 0, 0, (-1), []))), (21, (.ireturn, 22, (0, 0, 0, 0, []))), (22, (.iload_n 2, 23, (2, 0, 0, 0, []))), (23, (.ifCond .ne 11, 26, (34, 0, 0, 0, []))), (26, (.aload_n 0, 27, (0, 0, 0, 0, []))), (27, (.iload_n 1, 28, (1, 0, 0, 0, []))), (28, (.invokevirtual 158, 31, (131, 1, 9, 1023, []))), (31, (.goto 25, 34, (56, 0, 0, 0, []))), (34, (.iload_n 2, 35, (2, 0, 0, 0, []))), (35, (.iconst 1, 36, (0, 0, 0, 1, []))), (36, (.if_icmp .ne 11, 39, (47, 0, 0, 0, []))), (39, (.aload_n 0, 40, (0, 0, 0, 0, []))), (40, (.iload_n 1, 41, (1, 0, 0, 0, []))), (41, (.invokevirtual 161, 44, (132, 1, 9, 1030, [])))]), (56, [(44, (.goto 12, 47, (56, 0, 0, 0, []))), (47, (.aload_n 0, 48, (0, 0, 0, 0, []))), (48, (.aload_n 0, 49, (0, 0, 0, 0, []))), (49, (.iload_n 1, 50, (1, 0, 0, 0, []))), (50, (.invokevirtual 161, 53, (132, 1, 9, 1030, []))), (53, (.invokevirtual 164, 56, (133, 1, 9, 1034, []))), (56, (.ireturn, 57, (0, 0, 0, 0, [])))])]
def cd_X9_bearsWith : bg_K := [(36, [(0, (.aload_n 0, 1, (0, 0, 0, 0, []))), (1, (.getfield 16, 4, (9, 3, 2, 856, []))), (4, (.bipush 7, 6, (0, 0, 0, 7, []))), (6, (.iload_n 2, 7, (2, 0, 0, 0, []))), (7, (.imul, 8, (0, 0, 0, 0, []))), (8, (.iconst 2, 9, (0, 0, 0, 2, []))), (9, (.iadd, 10, (0, 0, 0, 0, []))), (10, (.iaload, 11, (0, 0, 0, 0, []))), (11, (.iload_n 3, 12, (3, 0, 0, 0, []))), (12, (.iadd, 13, (0, 0, 0, 0, []))), (13, (.istore 4, 15, (4, 0, 0, 0, []))), (15, (.iload_n 1, 16, (1, 0, 0, 0, []))), (16, (.iload_n 2, 17, (2, 0, 0, 0, []))), (17, (.invokestatic 149, 20, (113, 2, 0, 1027, []))), (20, (.ifCond .eq 26, 23, (46, 0, 0, 0, []))), (23, (.iload 4, 25, (4, 0, 0, 0, []))), (25, (.bipush 100, 27, (0, 0, 0, 100, []))), (27, (.aload_n 0, 28, (0, 0, 0, 0, []))), (28, (.getfield 16, 31, (9, 3, 2, 856, []))), (31, (.bipush 7, 33, (0, 0, 0, 7, []))), (33, (.iload_n 2, 34, (2, 0, 0, 0, []))), (34, (.imul, 35, (0, 0, 0, 0, []))), (35, (.iconst 5, 36, (0, 0, 0, 5, []))), (36, (.iadd, 37, (0, 0, 0, 0, [])))]), (48, [(37, (.iaload, 38, (0, 0, 0, 0, []))), (38, (.isub, 39, (0, 0, 0, 0, []))), (39, (.imul, 40, (0, 0, 0, 0, []))), (40, (.bipush 100, 42, (0, 0, 0, 100, []))), (42, (.idiv, 43, (0, 0, 0, 0, []))), (43, (.goto 5, 46, (48, 0, 0, 0, []))), (46, (.iload 4, 48, (4, 0, 0, 0, []))), (48, (.ireturn, 49, (0, 0, 0, 0, [])))])]
def cd_X9_bears : bg_K := [(31, [(0, (.aload_n 0, 1, (0, 0, 0, 0, []))), (1, (.iload_n 1, 2, (1, 0, 0, 0, []))), (2, (.invokevirtual 153, 5, (130, 1, 9, 1018, []))), (5, (.ifCond .eq 25, 8, (30, 0, 0, 0, []))), (8, (.aload_n 0, 9, (0, 0, 0, 0, []))), (9, (.iload_n 2, 10, (2, 0, 0, 0, []))), (10, (.invokevirtual 144, 13, (128, 1, 9, 1009, []))), (13, (.ifCond .eq 17, 16, (30, 0, 0, 0, []))), (16, (.aload_n 0, 17, (0, 0, 0, 0, []))), (17, (.aload_n 0, 18, (0, 0, 0, 0, []))), (18, (.iload_n 1, 19, (1, 0, 0, 0, []))), (19, (.invokevirtual 161, 22, (132, 1, 9, 1030, []))), (22, (.iload_n 2, 23, (2, 0, 0, 0, []))), (23, (.iconst 0, 24, (0, 0, 0, 0, []))), (24, (.invokevirtual 167, 27, (135, 3, 9, 1042, []))), (27, (.goto 4, 30, (31, 0, 0, 0, []))), (30, (.iconst (-1), 31, (0, 0, 0, (-1), []))), (31, (.ireturn, 32, (0, 0, 0, 0, [])))])]
def cd_X9_spread : bg_K := [(37, [(0, (.iconst 0, 1, (0, 0, 0, 0, []))), (1, (.istore_n 1, 2, (1, 0, 0, 0, []))), (2, (.iload_n 1, 3, (1, 0, 0, 0, []))), (3, (.bipush 8, 5, (0, 0, 0, 8, []))), (5, (.if_icmp .ge 17, 8, (22, 0, 0, 0, []))), (8, (.aload_n 0, 9, (0, 0, 0, 0, []))), (9, (.getfield 58, 12, (9, 22, 2, 875, []))), (12, (.iload_n 1, 13, (1, 0, 0, 0, []))), (13, (.bipush (-4), 15, (0, 0, 0, (-4), []))), (15, (.iastore, 16, (0, 0, 0, 0, []))), (16, (.iinc 1 1, 19, (1, 0, 0, 1, []))), (19, (.goto (-17), 22, (2, 0, 0, 0, []))), (22, (.aload_n 0, 23, (0, 0, 0, 0, []))), (23, (.iconst 1, 24, (0, 0, 0, 1, []))), (24, (.putfield 171, 27, (9, 23, 0, 876, []))), (27, (.iconst 1, 28, (0, 0, 0, 1, []))), (28, (.istore_n 1, 29, (1, 0, 0, 0, []))), (29, (.iload_n 1, 30, (1, 0, 0, 0, []))), (30, (.ifCond .eq 163, 33, (193, 0, 0, 0, []))), (33, (.iconst 0, 34, (0, 0, 0, 0, []))), (34, (.istore_n 1, 35, (1, 0, 0, 0, []))), (35, (.iconst 0, 36, (0, 0, 0, 0, []))), (36, (.istore_n 2, 37, (2, 0, 0, 0, []))), (37, (.iload_n 2, 38, (2, 0, 0, 0, [])))]), (74, [(38, (.aload_n 0, 39, (0, 0, 0, 0, []))), (39, (.getfield 13, 42, (9, 2, 2, 855, []))), (42, (.iconst 0, 43, (0, 0, 0, 0, []))), (43, (.iaload, 44, (0, 0, 0, 0, []))), (44, (.if_icmp .ge 146, 47, (190, 0, 0, 0, []))), (47, (.aload_n 0, 48, (0, 0, 0, 0, []))), (48, (.getfield 16, 51, (9, 3, 2, 856, []))), (51, (.bipush 7, 53, (0, 0, 0, 7, []))), (53, (.iload_n 2, 54, (2, 0, 0, 0, []))), (54, (.imul, 55, (0, 0, 0, 0, []))), (55, (.iaload, 56, (0, 0, 0, 0, []))), (56, (.istore_n 3, 57, (3, 0, 0, 0, []))), (57, (.aload_n 0, 58, (0, 0, 0, 0, []))), (58, (.getfield 16, 61, (9, 3, 2, 856, []))), (61, (.bipush 7, 63, (0, 0, 0, 7, []))), (63, (.iload_n 2, 64, (2, 0, 0, 0, []))), (64, (.imul, 65, (0, 0, 0, 0, []))), (65, (.iconst 1, 66, (0, 0, 0, 1, []))), (66, (.iadd, 67, (0, 0, 0, 0, []))), (67, (.iaload, 68, (0, 0, 0, 0, []))), (68, (.istore 4, 70, (4, 0, 0, 0, []))), (70, (.aload_n 0, 71, (0, 0, 0, 0, []))), (71, (.getfield 171, 74, (9, 23, 0, 876, []))), (74, (.iload_n 3, 75, (3, 0, 0, 0, [])))]), (121, [(75, (.invokestatic 149, 78, (113, 2, 0, 1027, []))), (78, (.ifCond .eq 50, 81, (128, 0, 0, 0, []))), (81, (.aload_n 0, 82, (0, 0, 0, 0, []))), (82, (.getfield 171, 85, (9, 23, 0, 876, []))), (85, (.iload 4, 87, (4, 0, 0, 0, []))), (87, (.invokestatic 149, 90, (113, 2, 0, 1027, []))), (90, (.ifCond .ne 38, 93, (128, 0, 0, 0, []))), (93, (.aload_n 0, 94, (0, 0, 0, 0, []))), (94, (.getfield 52, 97, (9, 20, 2, 873, []))), (97, (.iload_n 2, 98, (2, 0, 0, 0, []))), (98, (.iaload, 99, (0, 0, 0, 0, []))), (99, (.ifCond .le 29, 102, (128, 0, 0, 0, []))), (102, (.aload_n 0, 103, (0, 0, 0, 0, []))), (103, (.dup, 104, (0, 0, 0, 0, []))), (104, (.getfield 171, 107, (9, 23, 0, 876, []))), (107, (.iconst 1, 108, (0, 0, 0, 1, []))), (108, (.iload 4, 110, (4, 0, 0, 0, []))), (110, (.ishl, 111, (0, 0, 0, 0, []))), (111, (.ior, 112, (0, 0, 0, 0, []))), (112, (.putfield 171, 115, (9, 23, 0, 876, []))), (115, (.aload_n 0, 116, (0, 0, 0, 0, []))), (116, (.getfield 58, 119, (9, 22, 2, 875, []))), (119, (.iload 4, 121, (4, 0, 0, 0, []))), (121, (.iload_n 2, 122, (2, 0, 0, 0, [])))]), (166, [(122, (.iastore, 123, (0, 0, 0, 0, []))), (123, (.iconst 1, 124, (0, 0, 0, 1, []))), (124, (.istore_n 1, 125, (1, 0, 0, 0, []))), (125, (.goto 59, 128, (184, 0, 0, 0, []))), (128, (.aload_n 0, 129, (0, 0, 0, 0, []))), (129, (.getfield 171, 132, (9, 23, 0, 876, []))), (132, (.iload 4, 134, (4, 0, 0, 0, []))), (134, (.invokestatic 149, 137, (113, 2, 0, 1027, []))), (137, (.ifCond .eq 47, 140, (184, 0, 0, 0, []))), (140, (.aload_n 0, 141, (0, 0, 0, 0, []))), (141, (.getfield 171, 144, (9, 23, 0, 876, []))), (144, (.iload_n 3, 145, (3, 0, 0, 0, []))), (145, (.invokestatic 149, 148, (113, 2, 0, 1027, []))), (148, (.ifCond .ne 36, 151, (184, 0, 0, 0, []))), (151, (.aload_n 0, 152, (0, 0, 0, 0, []))), (152, (.getfield 55, 155, (9, 21, 2, 874, []))), (155, (.iload_n 2, 156, (2, 0, 0, 0, []))), (156, (.iaload, 157, (0, 0, 0, 0, []))), (157, (.ifCond .le 27, 160, (184, 0, 0, 0, []))), (160, (.aload_n 0, 161, (0, 0, 0, 0, []))), (161, (.dup, 162, (0, 0, 0, 0, []))), (162, (.getfield 171, 165, (9, 23, 0, 876, []))), (165, (.iconst 1, 166, (0, 0, 0, 1, []))), (166, (.iload_n 3, 167, (3, 0, 0, 0, [])))]), (202, [(167, (.ishl, 168, (0, 0, 0, 0, []))), (168, (.ior, 169, (0, 0, 0, 0, []))), (169, (.putfield 171, 172, (9, 23, 0, 876, []))), (172, (.aload_n 0, 173, (0, 0, 0, 0, []))), (173, (.getfield 58, 176, (9, 22, 2, 875, []))), (176, (.iload_n 3, 177, (3, 0, 0, 0, []))), (177, (.bipush 12, 179, (0, 0, 0, 12, []))), (179, (.iload_n 2, 180, (2, 0, 0, 0, []))), (180, (.iadd, 181, (0, 0, 0, 0, []))), (181, (.iastore, 182, (0, 0, 0, 0, []))), (182, (.iconst 1, 183, (0, 0, 0, 1, []))), (183, (.istore_n 1, 184, (1, 0, 0, 0, []))), (184, (.iinc 2 1, 187, (2, 0, 0, 1, []))), (187, (.goto (-150), 190, (37, 0, 0, 0, []))), (190, (.goto (-161), 193, (29, 0, 0, 0, []))), (193, (.aload_n 0, 194, (0, 0, 0, 0, []))), (194, (.getfield 171, 197, (9, 23, 0, 876, []))), (197, (.bipush 7, 199, (0, 0, 0, 7, []))), (199, (.invokestatic 149, 202, (113, 2, 0, 1027, []))), (202, (.ireturn, 203, (0, 0, 1, 0, [])))])]
def cd_X9_push : bg_K := [(38, [(0, (.ldc 174, 2, (0, 1062, 0, 100000, []))), (2, (.istore_n 1, 3, (1, 0, 0, 0, []))), (3, (.bipush 7, 5, (0, 0, 0, 7, []))), (5, (.istore_n 2, 6, (2, 0, 0, 0, []))), (6, (.iload_n 2, 7, (2, 0, 0, 0, []))), (7, (.ifCond .eq 90, 10, (97, 0, 0, 0, []))), (10, (.aload_n 0, 11, (0, 0, 0, 0, []))), (11, (.getfield 58, 14, (9, 22, 2, 875, []))), (14, (.iload_n 2, 15, (2, 0, 0, 0, []))), (15, (.iaload, 16, (0, 0, 0, 0, []))), (16, (.bipush 12, 18, (0, 0, 0, 12, []))), (18, (.irem, 19, (0, 0, 0, 0, []))), (19, (.istore_n 3, 20, (3, 0, 0, 0, []))), (20, (.aload_n 0, 21, (0, 0, 0, 0, []))), (21, (.getfield 58, 24, (9, 22, 2, 875, []))), (24, (.iload_n 2, 25, (2, 0, 0, 0, []))), (25, (.iaload, 26, (0, 0, 0, 0, []))), (26, (.bipush 12, 28, (0, 0, 0, 12, []))), (28, (.if_icmp .ge 7, 31, (35, 0, 0, 0, []))), (31, (.iconst 1, 32, (0, 0, 0, 1, []))), (32, (.goto 4, 35, (36, 0, 0, 0, []))), (35, (.iconst 0, 36, (0, 0, 0, 0, []))), (36, (.istore 4, 38, (4, 0, 0, 0, []))), (38, (.iload 4, 40, (4, 0, 0, 0, [])))]), (81, [(40, (.ifCond .eq 12, 43, (52, 0, 0, 0, []))), (43, (.aload_n 0, 44, (0, 0, 0, 0, []))), (44, (.getfield 52, 47, (9, 20, 2, 873, []))), (47, (.iload_n 3, 48, (3, 0, 0, 0, []))), (48, (.iaload, 49, (0, 0, 0, 0, []))), (49, (.goto 9, 52, (58, 0, 0, 0, []))), (52, (.aload_n 0, 53, (0, 0, 0, 0, []))), (53, (.getfield 55, 56, (9, 21, 2, 874, []))), (56, (.iload_n 3, 57, (3, 0, 0, 0, []))), (57, (.iaload, 58, (0, 0, 0, 0, []))), (58, (.istore 5, 60, (5, 0, 0, 0, []))), (60, (.iload 5, 62, (5, 0, 0, 0, []))), (62, (.iload_n 1, 63, (1, 0, 0, 0, []))), (63, (.if_icmp .ge 8, 66, (71, 0, 0, 0, []))), (66, (.iload 5, 68, (5, 0, 0, 0, []))), (68, (.goto 4, 71, (72, 0, 0, 0, []))), (71, (.iload_n 1, 72, (1, 0, 0, 0, []))), (72, (.istore_n 1, 73, (1, 0, 0, 0, []))), (73, (.aload_n 0, 74, (0, 0, 0, 0, []))), (74, (.getfield 16, 77, (9, 3, 2, 856, []))), (77, (.bipush 7, 79, (0, 0, 0, 7, []))), (79, (.iload_n 3, 80, (3, 0, 0, 0, []))), (80, (.imul, 81, (0, 0, 0, 0, []))), (81, (.iload 4, 83, (4, 0, 0, 0, [])))]), (120, [(83, (.ifCond .eq 7, 86, (90, 0, 0, 0, []))), (86, (.iconst 0, 87, (0, 0, 0, 0, []))), (87, (.goto 4, 90, (91, 0, 0, 0, []))), (90, (.iconst 1, 91, (0, 0, 0, 1, []))), (91, (.iadd, 92, (0, 0, 0, 0, []))), (92, (.iaload, 93, (0, 0, 0, 0, []))), (93, (.istore_n 2, 94, (2, 0, 0, 0, []))), (94, (.goto (-88), 97, (6, 0, 0, 0, []))), (97, (.bipush 7, 99, (0, 0, 0, 7, []))), (99, (.istore_n 2, 100, (2, 0, 0, 0, []))), (100, (.iload_n 2, 101, (2, 0, 0, 0, []))), (101, (.ifCond .eq 95, 104, (196, 0, 0, 0, []))), (104, (.aload_n 0, 105, (0, 0, 0, 0, []))), (105, (.getfield 58, 108, (9, 22, 2, 875, []))), (108, (.iload_n 2, 109, (2, 0, 0, 0, []))), (109, (.iaload, 110, (0, 0, 0, 0, []))), (110, (.bipush 12, 112, (0, 0, 0, 12, []))), (112, (.irem, 113, (0, 0, 0, 0, []))), (113, (.istore_n 3, 114, (3, 0, 0, 0, []))), (114, (.aload_n 0, 115, (0, 0, 0, 0, []))), (115, (.getfield 58, 118, (9, 22, 2, 875, []))), (118, (.iload_n 2, 119, (2, 0, 0, 0, []))), (119, (.iaload, 120, (0, 0, 0, 0, []))), (120, (.bipush 12, 122, (0, 0, 0, 12, [])))]), (159, [(122, (.if_icmp .ge 7, 125, (129, 0, 0, 0, []))), (125, (.iconst 1, 126, (0, 0, 0, 1, []))), (126, (.goto 4, 129, (130, 0, 0, 0, []))), (129, (.iconst 0, 130, (0, 0, 0, 0, []))), (130, (.istore 4, 132, (4, 0, 0, 0, []))), (132, (.aload_n 0, 133, (0, 0, 0, 0, []))), (133, (.getfield 52, 136, (9, 20, 2, 873, []))), (136, (.iload_n 3, 137, (3, 0, 0, 0, []))), (137, (.dup2, 138, (0, 0, 0, 0, []))), (138, (.iaload, 139, (0, 0, 0, 0, []))), (139, (.iload 4, 141, (4, 0, 0, 0, []))), (141, (.ifCond .eq 7, 144, (148, 0, 0, 0, []))), (144, (.iload_n 1, 145, (1, 0, 0, 0, []))), (145, (.goto 5, 148, (150, 0, 0, 0, []))), (148, (.iload_n 1, 149, (1, 0, 0, 0, []))), (149, (.ineg, 150, (0, 0, 0, 0, []))), (150, (.isub, 151, (0, 0, 0, 0, []))), (151, (.iastore, 152, (0, 0, 0, 0, []))), (152, (.aload_n 0, 153, (0, 0, 0, 0, []))), (153, (.getfield 55, 156, (9, 21, 2, 874, []))), (156, (.iload_n 3, 157, (3, 0, 0, 0, []))), (157, (.dup2, 158, (0, 0, 0, 0, []))), (158, (.iaload, 159, (0, 0, 0, 0, []))), (159, (.iload 4, 161, (4, 0, 0, 0, [])))]), (197, [(161, (.ifCond .eq 7, 164, (168, 0, 0, 0, []))), (164, (.iload_n 1, 165, (1, 0, 0, 0, []))), (165, (.goto 5, 168, (170, 0, 0, 0, []))), (168, (.iload_n 1, 169, (1, 0, 0, 0, []))), (169, (.ineg, 170, (0, 0, 0, 0, []))), (170, (.iadd, 171, (0, 0, 0, 0, []))), (171, (.iastore, 172, (0, 0, 0, 0, []))), (172, (.aload_n 0, 173, (0, 0, 0, 0, []))), (173, (.getfield 16, 176, (9, 3, 2, 856, []))), (176, (.bipush 7, 178, (0, 0, 0, 7, []))), (178, (.iload_n 3, 179, (3, 0, 0, 0, []))), (179, (.imul, 180, (0, 0, 0, 0, []))), (180, (.iload 4, 182, (4, 0, 0, 0, []))), (182, (.ifCond .eq 7, 185, (189, 0, 0, 0, []))), (185, (.iconst 0, 186, (0, 0, 0, 0, []))), (186, (.goto 4, 189, (190, 0, 0, 0, []))), (189, (.iconst 1, 190, (0, 0, 0, 1, []))), (190, (.iadd, 191, (0, 0, 0, 0, []))), (191, (.iaload, 192, (0, 0, 0, 0, []))), (192, (.istore_n 2, 193, (2, 0, 0, 0, []))), (193, (.goto (-93), 196, (100, 0, 0, 0, []))), (196, (.iload_n 1, 197, (1, 0, 0, 0, []))), (197, (.ireturn, 198, (0, 0, 0, 0, [])))])]
def cd_X9_flow : bg_K := [(35, [(0, (.iconst 0, 1, (0, 0, 0, 0, []))), (1, (.istore_n 3, 2, (3, 0, 0, 0, []))), (2, (.iload_n 3, 3, (3, 0, 0, 0, []))), (3, (.aload_n 0, 4, (0, 0, 0, 0, []))), (4, (.getfield 13, 7, (9, 2, 2, 855, []))), (7, (.iconst 0, 8, (0, 0, 0, 0, []))), (8, (.iaload, 9, (0, 0, 0, 0, []))), (9, (.if_icmp .ge 38, 12, (47, 0, 0, 0, []))), (12, (.aload_n 0, 13, (0, 0, 0, 0, []))), (13, (.getfield 52, 16, (9, 20, 2, 873, []))), (16, (.iload_n 3, 17, (3, 0, 0, 0, []))), (17, (.aload_n 0, 18, (0, 0, 0, 0, []))), (18, (.iload_n 1, 19, (1, 0, 0, 0, []))), (19, (.iload_n 3, 20, (3, 0, 0, 0, []))), (20, (.iload_n 3, 21, (3, 0, 0, 0, []))), (21, (.iload_n 2, 22, (2, 0, 0, 0, []))), (22, (.if_icmp .ne 7, 25, (29, 0, 0, 0, []))), (25, (.iconst 1, 26, (0, 0, 0, 1, []))), (26, (.goto 4, 29, (30, 0, 0, 0, []))), (29, (.iconst 0, 30, (0, 0, 0, 0, []))), (30, (.invokevirtual 167, 33, (135, 3, 9, 1042, []))), (33, (.iastore, 34, (0, 0, 0, 0, []))), (34, (.aload_n 0, 35, (0, 0, 0, 0, []))), (35, (.getfield 55, 38, (9, 21, 2, 874, [])))]), (67, [(38, (.iload_n 3, 39, (3, 0, 0, 0, []))), (39, (.iconst 0, 40, (0, 0, 0, 0, []))), (40, (.iastore, 41, (0, 0, 0, 0, []))), (41, (.iinc 3 1, 44, (3, 0, 0, 1, []))), (44, (.goto (-42), 47, (2, 0, 0, 0, []))), (47, (.iconst 0, 48, (0, 0, 0, 0, []))), (48, (.istore_n 3, 49, (3, 0, 0, 0, []))), (49, (.aload_n 0, 50, (0, 0, 0, 0, []))), (50, (.invokevirtual 175, 53, (137, 0, 9, 1054, []))), (53, (.ifCond .eq 13, 56, (66, 0, 0, 0, []))), (56, (.iload_n 3, 57, (3, 0, 0, 0, []))), (57, (.aload_n 0, 58, (0, 0, 0, 0, []))), (58, (.invokevirtual 178, 61, (138, 0, 9, 1058, []))), (61, (.iadd, 62, (0, 0, 0, 0, []))), (62, (.istore_n 3, 63, (3, 0, 0, 0, []))), (63, (.goto (-14), 66, (49, 0, 0, 0, []))), (66, (.iload_n 3, 67, (3, 0, 0, 0, []))), (67, (.ireturn, 68, (0, 0, 0, 0, [])))])]
def cd_X9_mostBy : bg_K := [(36, [(0, (.aload_n 0, 1, (0, 0, 0, 0, []))), (1, (.getfield 133, 4, (9, 12, 0, 865, []))), (4, (.ifCond .ne 43, 7, (47, 0, 0, 0, []))), (7, (.iconst 1, 8, (0, 0, 0, 1, []))), (8, (.aload_n 0, 9, (0, 0, 0, 0, []))), (9, (.getfield 13, 12, (9, 2, 2, 855, []))), (12, (.iconst 0, 13, (0, 0, 0, 0, []))), (13, (.iaload, 14, (0, 0, 0, 0, []))), (14, (.ishl, 15, (0, 0, 0, 0, []))), (15, (.istore_n 2, 16, (2, 0, 0, 0, []))), (16, (.iconst 0, 17, (0, 0, 0, 0, []))), (17, (.istore_n 3, 18, (3, 0, 0, 0, []))), (18, (.iload_n 3, 19, (3, 0, 0, 0, []))), (19, (.iload_n 2, 20, (2, 0, 0, 0, []))), (20, (.if_icmp .ge 22, 23, (42, 0, 0, 0, []))), (23, (.aload_n 0, 24, (0, 0, 0, 0, []))), (24, (.getfield 40, 27, (9, 13, 2, 866, []))), (27, (.iload_n 3, 28, (3, 0, 0, 0, []))), (28, (.aload_n 0, 29, (0, 0, 0, 0, []))), (29, (.iload_n 3, 30, (3, 0, 0, 0, []))), (30, (.bipush (-4), 32, (0, 0, 0, (-4), []))), (32, (.invokevirtual 181, 35, (139, 2, 9, 1050, []))), (35, (.iastore, 36, (0, 0, 0, 0, []))), (36, (.iinc 3 1, 39, (3, 0, 0, 1, [])))]), (57, [(39, (.goto (-21), 42, (18, 0, 0, 0, []))), (42, (.aload_n 0, 43, (0, 0, 0, 0, []))), (43, (.iconst 1, 44, (0, 0, 0, 1, []))), (44, (.putfield 133, 47, (9, 12, 3, 865, []))), (47, (.aload_n 0, 48, (0, 0, 0, 0, []))), (48, (.getfield 40, 51, (9, 13, 2, 866, []))), (51, (.aload_n 0, 52, (0, 0, 0, 0, []))), (52, (.iload_n 1, 53, (1, 0, 0, 0, []))), (53, (.invokevirtual 161, 56, (132, 1, 9, 1030, []))), (56, (.iaload, 57, (0, 0, 0, 0, []))), (57, (.ireturn, 58, (0, 0, 0, 0, [])))])]
def cd_X9_most : bg_K := [(40, [(0, (.aload_n 0, 1, (0, 0, 0, 0, []))), (1, (.iload_n 1, 2, (1, 0, 0, 0, []))), (2, (.invokevirtual 153, 5, (130, 1, 9, 1018, []))), (5, (.ifCond .eq 15, 8, (20, 0, 0, 0, []))), (8, (.iload_n 2, 9, (2, 0, 0, 0, []))), (9, (.i2l, 10, (0, 0, 0, 0, []))), (10, (.lconst 0, 11, (0, 0, 0, 0, []))), (11, (.ldc2_w 156, 14, (0, 1022, 0, 2, []))), (14, (.invokestatic 92, 17, (112, 3, 0, 958, []))), (17, (.ifCond .ne 5, 20, (22, 0, 0, 0, []))), (20, (.iconst (-1), 21, (0, 0, 0, (-1), []))), (21, (.ireturn, 22, (0, 0, 0, 0, []))), (22, (.aload_n 0, 23, (0, 0, 0, 0, []))), (23, (.aload_n 0, 24, (0, 0, 0, 0, []))), (24, (.iload_n 1, 25, (1, 0, 0, 0, []))), (25, (.invokevirtual 161, 28, (132, 1, 9, 1030, []))), (28, (.bipush (-4), 30, (0, 0, 0, (-4), []))), (30, (.invokevirtual 181, 33, (139, 2, 9, 1050, []))), (33, (.istore_n 3, 34, (3, 0, 0, 0, []))), (34, (.iload_n 2, 35, (2, 0, 0, 0, []))), (35, (.iconst 2, 36, (0, 0, 0, 2, []))), (36, (.if_icmp .ge 16, 39, (52, 0, 0, 0, []))), (39, (.iload_n 2, 40, (2, 0, 0, 0, []))), (40, (.ifCond .ne 7, 43, (47, 0, 0, 0, [])))]), (84, [(43, (.iload_n 3, 44, (3, 0, 0, 0, []))), (44, (.goto 7, 47, (51, 0, 0, 0, []))), (47, (.aload_n 0, 48, (0, 0, 0, 0, []))), (48, (.getfield 171, 51, (9, 23, 0, 876, []))), (51, (.ireturn, 52, (0, 0, 0, 0, []))), (52, (.iconst 0, 53, (0, 0, 0, 0, []))), (53, (.istore 4, 55, (4, 0, 0, 0, []))), (55, (.iconst 0, 56, (0, 0, 0, 0, []))), (56, (.istore 5, 58, (5, 0, 0, 0, []))), (58, (.iload 5, 60, (5, 0, 0, 0, []))), (60, (.aload_n 0, 61, (0, 0, 0, 0, []))), (61, (.getfield 13, 64, (9, 2, 2, 855, []))), (64, (.iconst 0, 65, (0, 0, 0, 0, []))), (65, (.iaload, 66, (0, 0, 0, 0, []))), (66, (.if_icmp .ge 64, 69, (130, 0, 0, 0, []))), (69, (.iload 4, 71, (4, 0, 0, 0, []))), (71, (.aload_n 0, 72, (0, 0, 0, 0, []))), (72, (.getfield 171, 75, (9, 23, 0, 876, []))), (75, (.aload_n 0, 76, (0, 0, 0, 0, []))), (76, (.getfield 16, 79, (9, 3, 2, 856, []))), (79, (.bipush 7, 81, (0, 0, 0, 7, []))), (81, (.iload 5, 83, (5, 0, 0, 0, []))), (83, (.imul, 84, (0, 0, 0, 0, []))), (84, (.iaload, 85, (0, 0, 0, 0, [])))]), (130, [(85, (.invokestatic 149, 88, (113, 2, 0, 1027, []))), (88, (.ifCond .eq 32, 91, (120, 0, 0, 0, []))), (91, (.aload_n 0, 92, (0, 0, 0, 0, []))), (92, (.getfield 171, 95, (9, 23, 0, 876, []))), (95, (.aload_n 0, 96, (0, 0, 0, 0, []))), (96, (.getfield 16, 99, (9, 3, 2, 856, []))), (99, (.bipush 7, 101, (0, 0, 0, 7, []))), (101, (.iload 5, 103, (5, 0, 0, 0, []))), (103, (.imul, 104, (0, 0, 0, 0, []))), (104, (.iconst 1, 105, (0, 0, 0, 1, []))), (105, (.iadd, 106, (0, 0, 0, 0, []))), (106, (.iaload, 107, (0, 0, 0, 0, []))), (107, (.invokestatic 149, 110, (113, 2, 0, 1027, []))), (110, (.ifCond .ne 10, 113, (120, 0, 0, 0, []))), (113, (.iconst 1, 114, (0, 0, 0, 1, []))), (114, (.iload 5, 116, (5, 0, 0, 0, []))), (116, (.ishl, 117, (0, 0, 0, 0, []))), (117, (.goto 4, 120, (121, 0, 0, 0, []))), (120, (.iconst 0, 121, (0, 0, 0, 0, []))), (121, (.ior, 122, (0, 0, 0, 0, []))), (122, (.istore 4, 124, (4, 0, 0, 0, []))), (124, (.iinc 5 1, 127, (5, 0, 0, 1, []))), (127, (.goto (-69), 130, (58, 0, 0, 0, []))), (130, (.iload 4, 132, (4, 0, 0, 0, [])))]), (132, [(132, (.ireturn, 133, (0, 0, 0, 0, [])))])]
def cd_X9_row : bg_K := [(39, [(0, (.iload_n 1, 1, (1, 0, 0, 0, []))), (1, (.i2l, 2, (0, 0, 0, 0, []))), (2, (.lconst 0, 3, (0, 0, 0, 0, []))), (3, (.ldc2_w 185, 6, (0, 1067, 0, 11, []))), (6, (.invokestatic 92, 9, (112, 3, 0, 958, []))), (9, (.ifCond .eq 15, 12, (24, 0, 0, 0, []))), (12, (.iload_n 2, 13, (2, 0, 0, 0, []))), (13, (.i2l, 14, (0, 0, 0, 0, []))), (14, (.lconst 0, 15, (0, 0, 0, 0, []))), (15, (.ldc2_w 187, 18, (0, 1068, 0, 99, []))), (18, (.invokestatic 92, 21, (112, 3, 0, 958, []))), (21, (.ifCond .ne 5, 24, (26, 0, 0, 0, []))), (24, (.iconst (-1), 25, (0, 0, 0, (-1), []))), (25, (.ireturn, 26, (0, 0, 0, 0, []))), (26, (.aload_n 0, 27, (0, 0, 0, 0, []))), (27, (.getfield 34, 30, (9, 10, 2, 863, []))), (30, (.iload_n 1, 31, (1, 0, 0, 0, []))), (31, (.iaload, 32, (0, 0, 0, 0, []))), (32, (.istore_n 3, 33, (3, 0, 0, 0, []))), (33, (.aload_n 0, 34, (0, 0, 0, 0, []))), (34, (.getfield 34, 37, (9, 10, 2, 863, []))), (37, (.iload_n 1, 38, (1, 0, 0, 0, []))), (38, (.iload_n 2, 39, (2, 0, 0, 0, []))), (39, (.iastore, 40, (0, 0, 0, 0, [])))]), (41, [(40, (.iload_n 3, 41, (3, 0, 0, 0, []))), (41, (.ireturn, 42, (0, 0, 0, 0, [])))])]
def cd_X9_comeTo : bg_K := [(34, [(0, (.iconst 0, 1, (0, 0, 0, 0, []))), (1, (.istore_n 2, 2, (2, 0, 0, 0, []))), (2, (.iconst 0, 3, (0, 0, 0, 0, []))), (3, (.istore_n 3, 4, (3, 0, 0, 0, []))), (4, (.iload_n 3, 5, (3, 0, 0, 0, []))), (5, (.aload_n 0, 6, (0, 0, 0, 0, []))), (6, (.getfield 13, 9, (9, 2, 2, 855, []))), (9, (.iconst 0, 10, (0, 0, 0, 0, []))), (10, (.iaload, 11, (0, 0, 0, 0, []))), (11, (.if_icmp .ge 63, 14, (74, 0, 0, 0, []))), (14, (.iload_n 2, 15, (2, 0, 0, 0, []))), (15, (.aload_n 0, 16, (0, 0, 0, 0, []))), (16, (.getfield 16, 19, (9, 3, 2, 856, []))), (19, (.bipush 7, 21, (0, 0, 0, 7, []))), (21, (.iload_n 3, 22, (3, 0, 0, 0, []))), (22, (.imul, 23, (0, 0, 0, 0, []))), (23, (.iconst 1, 24, (0, 0, 0, 1, []))), (24, (.iadd, 25, (0, 0, 0, 0, []))), (25, (.iaload, 26, (0, 0, 0, 0, []))), (26, (.iload_n 1, 27, (1, 0, 0, 0, []))), (27, (.if_icmp .ne 12, 30, (39, 0, 0, 0, []))), (30, (.aload_n 0, 31, (0, 0, 0, 0, []))), (31, (.getfield 34, 34, (9, 10, 2, 863, []))), (34, (.iload_n 3, 35, (3, 0, 0, 0, [])))]), (71, [(35, (.iaload, 36, (0, 0, 0, 0, []))), (36, (.goto 4, 39, (40, 0, 0, 0, []))), (39, (.iconst 0, 40, (0, 0, 0, 0, []))), (40, (.iadd, 41, (0, 0, 0, 0, []))), (41, (.istore_n 2, 42, (2, 0, 0, 0, []))), (42, (.iload_n 2, 43, (2, 0, 0, 0, []))), (43, (.aload_n 0, 44, (0, 0, 0, 0, []))), (44, (.getfield 16, 47, (9, 3, 2, 856, []))), (47, (.bipush 7, 49, (0, 0, 0, 7, []))), (49, (.iload_n 3, 50, (3, 0, 0, 0, []))), (50, (.imul, 51, (0, 0, 0, 0, []))), (51, (.iaload, 52, (0, 0, 0, 0, []))), (52, (.iload_n 1, 53, (1, 0, 0, 0, []))), (53, (.if_icmp .ne 12, 56, (65, 0, 0, 0, []))), (56, (.aload_n 0, 57, (0, 0, 0, 0, []))), (57, (.getfield 34, 60, (9, 10, 2, 863, []))), (60, (.iload_n 3, 61, (3, 0, 0, 0, []))), (61, (.iaload, 62, (0, 0, 0, 0, []))), (62, (.goto 4, 65, (66, 0, 0, 0, []))), (65, (.iconst 0, 66, (0, 0, 0, 0, []))), (66, (.isub, 67, (0, 0, 0, 0, []))), (67, (.istore_n 2, 68, (2, 0, 0, 0, []))), (68, (.iinc 3 1, 71, (3, 0, 0, 1, []))), (71, (.goto (-67), 74, (4, 0, 0, 0, [])))]), (75, [(74, (.iload_n 2, 75, (2, 0, 0, 0, []))), (75, (.ireturn, 76, (0, 0, 0, 0, [])))])]
def cd_X9_judge : bg_K := [(36, [(0, (.aload_n 0, 1, (0, 0, 0, 0, []))), (1, (.iload_n 1, 2, (1, 0, 0, 0, []))), (2, (.invokevirtual 153, 5, (130, 1, 9, 1018, []))), (5, (.ifCond .ne 5, 8, (10, 0, 0, 0, []))), (8, (.iconst (-1), 9, (0, 0, 0, (-1), []))), (9, (.ireturn, 10, (0, 0, 0, 0, []))), (10, (.aload_n 0, 11, (0, 0, 0, 0, []))), (11, (.iload_n 1, 12, (1, 0, 0, 0, []))), (12, (.invokevirtual 161, 15, (132, 1, 9, 1030, []))), (15, (.istore_n 2, 16, (2, 0, 0, 0, []))), (16, (.iconst 0, 17, (0, 0, 0, 0, []))), (17, (.istore_n 3, 18, (3, 0, 0, 0, []))), (18, (.iload_n 3, 19, (3, 0, 0, 0, []))), (19, (.bipush 12, 21, (0, 0, 0, 12, []))), (21, (.if_icmp .ge 39, 24, (60, 0, 0, 0, []))), (24, (.aload_n 0, 25, (0, 0, 0, 0, []))), (25, (.iload_n 3, 26, (3, 0, 0, 0, []))), (26, (.invokevirtual 144, 29, (128, 1, 9, 1009, []))), (29, (.ifCond .eq 13, 32, (42, 0, 0, 0, []))), (32, (.aload_n 0, 33, (0, 0, 0, 0, []))), (33, (.iload_n 2, 34, (2, 0, 0, 0, []))), (34, (.iload_n 3, 35, (3, 0, 0, 0, []))), (35, (.iconst 0, 36, (0, 0, 0, 0, []))), (36, (.invokevirtual 167, 39, (135, 3, 9, 1042, [])))]), (80, [(39, (.goto 4, 42, (43, 0, 0, 0, []))), (42, (.iconst 0, 43, (0, 0, 0, 0, []))), (43, (.aload_n 0, 44, (0, 0, 0, 0, []))), (44, (.getfield 34, 47, (9, 10, 2, 863, []))), (47, (.iload_n 3, 48, (3, 0, 0, 0, []))), (48, (.iaload, 49, (0, 0, 0, 0, []))), (49, (.if_icmp .ge 5, 52, (54, 0, 0, 0, []))), (52, (.iload_n 3, 53, (3, 0, 0, 0, []))), (53, (.ireturn, 54, (0, 0, 0, 0, []))), (54, (.iinc 3 1, 57, (3, 0, 0, 1, []))), (57, (.goto (-39), 60, (18, 0, 0, 0, []))), (60, (.iconst 1, 61, (0, 0, 0, 1, []))), (61, (.istore_n 3, 62, (3, 0, 0, 0, []))), (62, (.iload_n 3, 63, (3, 0, 0, 0, []))), (63, (.bipush 7, 65, (0, 0, 0, 7, []))), (65, (.if_icmp .ge 22, 68, (87, 0, 0, 0, []))), (68, (.aload_n 0, 69, (0, 0, 0, 0, []))), (69, (.iload_n 3, 70, (3, 0, 0, 0, []))), (70, (.invokevirtual 189, 73, (143, 1, 9, 1073, []))), (73, (.ifCond .eq 8, 76, (81, 0, 0, 0, []))), (76, (.bipush 100, 78, (0, 0, 0, 100, []))), (78, (.iload_n 3, 79, (3, 0, 0, 0, []))), (79, (.iadd, 80, (0, 0, 0, 0, []))), (80, (.ireturn, 81, (0, 0, 0, 0, [])))]), (112, [(81, (.iinc 3 1, 84, (3, 0, 0, 1, []))), (84, (.goto (-22), 87, (62, 0, 0, 0, []))), (87, (.aload_n 0, 88, (0, 0, 0, 0, []))), (88, (.bipush 7, 90, (0, 0, 0, 7, []))), (90, (.invokevirtual 189, 93, (143, 1, 9, 1073, []))), (93, (.ifCond .ge 9, 96, (102, 0, 0, 0, []))), (96, (.sipush 199, 99, (0, 0, 0, 199, []))), (99, (.goto 13, 102, (112, 0, 0, 0, []))), (102, (.sipush 200, 105, (0, 0, 0, 200, []))), (105, (.aload_n 0, 106, (0, 0, 0, 0, []))), (106, (.bipush 7, 108, (0, 0, 0, 7, []))), (108, (.invokevirtual 189, 111, (143, 1, 9, 1073, []))), (111, (.iadd, 112, (0, 0, 0, 0, []))), (112, (.ireturn, 113, (0, 0, 0, 0, [])))])]
def cd_X9_setMany : bg_K := [(11, [(0, (.iconst 1, 1, (0, 0, 0, 1, []))), (1, (.bipush 12, 3, (0, 0, 0, 12, []))), (3, (.aload_n 0, 4, (0, 0, 0, 0, []))), (4, (.getfield 19, 7, (9, 4, 2, 857, []))), (7, (.iconst 0, 8, (0, 0, 0, 0, []))), (8, (.iaload, 9, (0, 0, 0, 0, []))), (9, (.iadd, 10, (0, 0, 0, 0, []))), (10, (.ishl, 11, (0, 0, 0, 0, []))), (11, (.ireturn, 12, (0, 0, 0, 0, [])))])]
def cd_X9_bestFor : bg_K := [(39, [(0, (.iconst 0, 1, (0, 0, 0, 0, []))), (1, (.istore_n 2, 2, (2, 0, 0, 0, []))), (2, (.iconst 1, 3, (0, 0, 0, 1, []))), (3, (.istore_n 3, 4, (3, 0, 0, 0, []))), (4, (.iload_n 3, 5, (3, 0, 0, 0, []))), (5, (.aload_n 0, 6, (0, 0, 0, 0, []))), (6, (.invokevirtual 192, 9, (145, 0, 9, 1086, []))), (9, (.if_icmp .ge 41, 12, (50, 0, 0, 0, []))), (12, (.aload_n 0, 13, (0, 0, 0, 0, []))), (13, (.iload_n 3, 14, (3, 0, 0, 0, []))), (14, (.invokevirtual 153, 17, (130, 1, 9, 1018, []))), (17, (.ifCond .eq 27, 20, (44, 0, 0, 0, []))), (20, (.aload_n 0, 21, (0, 0, 0, 0, []))), (21, (.iload_n 3, 22, (3, 0, 0, 0, []))), (22, (.invokevirtual 158, 25, (131, 1, 9, 1023, []))), (25, (.iload_n 1, 26, (1, 0, 0, 0, []))), (26, (.if_icmp .gt 18, 29, (44, 0, 0, 0, []))), (29, (.aload_n 0, 30, (0, 0, 0, 0, []))), (30, (.iload_n 3, 31, (3, 0, 0, 0, []))), (31, (.invokevirtual 195, 34, (140, 1, 9, 1090, []))), (34, (.aload_n 0, 35, (0, 0, 0, 0, []))), (35, (.iload_n 2, 36, (2, 0, 0, 0, []))), (36, (.invokevirtual 195, 39, (140, 1, 9, 1090, []))), (39, (.if_icmp .ge 5, 42, (44, 0, 0, 0, [])))]), (51, [(42, (.iload_n 3, 43, (3, 0, 0, 0, []))), (43, (.istore_n 2, 44, (2, 0, 0, 0, []))), (44, (.iinc 3 1, 47, (3, 0, 0, 1, []))), (47, (.goto (-43), 50, (4, 0, 0, 0, []))), (50, (.iload_n 2, 51, (2, 0, 0, 0, []))), (51, (.ireturn, 52, (0, 0, 0, 0, [])))])]
def cd_X9_best : bg_K := [(41, [(0, (.iload_n 1, 1, (1, 0, 0, 0, []))), (1, (.i2l, 2, (0, 0, 0, 0, []))), (2, (.lconst 0, 3, (0, 0, 0, 0, []))), (3, (.ldc2_w 198, 6, (0, 1081, 0, 300, []))), (6, (.invokestatic 92, 9, (112, 3, 0, 958, []))), (9, (.ifCond .eq 15, 12, (24, 0, 0, 0, []))), (12, (.iload_n 2, 13, (2, 0, 0, 0, []))), (13, (.i2l, 14, (0, 0, 0, 0, []))), (14, (.lconst 0, 15, (0, 0, 0, 0, []))), (15, (.ldc2_w 156, 18, (0, 1022, 0, 2, []))), (18, (.invokestatic 92, 21, (112, 3, 0, 958, []))), (21, (.ifCond .ne 5, 24, (26, 0, 0, 0, []))), (24, (.iconst (-1), 25, (0, 0, 0, (-1), []))), (25, (.ireturn, 26, (0, 0, 0, 0, []))), (26, (.aload_n 0, 27, (0, 0, 0, 0, []))), (27, (.iload_n 1, 28, (1, 0, 0, 0, []))), (28, (.invokevirtual 200, 31, (146, 1, 9, 1082, []))), (31, (.istore_n 3, 32, (3, 0, 0, 0, []))), (32, (.iload_n 2, 33, (2, 0, 0, 0, []))), (33, (.ifCond .ne 7, 36, (40, 0, 0, 0, []))), (36, (.iload_n 3, 37, (3, 0, 0, 0, []))), (37, (.goto 21, 40, (58, 0, 0, 0, []))), (40, (.iload_n 2, 41, (2, 0, 0, 0, []))), (41, (.iconst 1, 42, (0, 0, 0, 1, [])))]), (58, [(42, (.if_icmp .ne 11, 45, (53, 0, 0, 0, []))), (45, (.aload_n 0, 46, (0, 0, 0, 0, []))), (46, (.iload_n 3, 47, (3, 0, 0, 0, []))), (47, (.invokevirtual 195, 50, (140, 1, 9, 1090, []))), (50, (.goto 8, 53, (58, 0, 0, 0, []))), (53, (.aload_n 0, 54, (0, 0, 0, 0, []))), (54, (.iload_n 3, 55, (3, 0, 0, 0, []))), (55, (.invokevirtual 158, 58, (131, 1, 9, 1023, []))), (58, (.ireturn, 59, (0, 0, 0, 0, [])))])]
def cd_X9_fewest : bg_K := [(40, [(0, (.iload_n 1, 1, (1, 0, 0, 0, []))), (1, (.i2l, 2, (0, 0, 0, 0, []))), (2, (.lconst 0, 3, (0, 0, 0, 0, []))), (3, (.ldc2_w 203, 6, (0, 1098, 0, 9999, []))), (6, (.invokestatic 92, 9, (112, 3, 0, 958, []))), (9, (.ifCond .ne 5, 12, (14, 0, 0, 0, []))), (12, (.iconst (-1), 13, (0, 0, 0, (-1), []))), (13, (.ireturn, 14, (0, 0, 0, 0, []))), (14, (.bipush (-4), 16, (0, 0, 0, (-4), []))), (16, (.istore_n 2, 17, (2, 0, 0, 0, []))), (17, (.iconst 0, 18, (0, 0, 0, 0, []))), (18, (.istore_n 3, 19, (3, 0, 0, 0, []))), (19, (.iload_n 3, 20, (3, 0, 0, 0, []))), (20, (.aload_n 0, 21, (0, 0, 0, 0, []))), (21, (.invokevirtual 192, 24, (145, 0, 9, 1086, []))), (24, (.if_icmp .ge 52, 27, (76, 0, 0, 0, []))), (27, (.aload_n 0, 28, (0, 0, 0, 0, []))), (28, (.iload_n 3, 29, (3, 0, 0, 0, []))), (29, (.invokevirtual 153, 32, (130, 1, 9, 1018, []))), (32, (.ifCond .eq 38, 35, (70, 0, 0, 0, []))), (35, (.aload_n 0, 36, (0, 0, 0, 0, []))), (36, (.iload_n 3, 37, (3, 0, 0, 0, []))), (37, (.invokevirtual 195, 40, (140, 1, 9, 1090, []))), (40, (.iload_n 1, 41, (1, 0, 0, 0, [])))]), (77, [(41, (.if_icmp .gt 29, 44, (70, 0, 0, 0, []))), (44, (.aload_n 0, 45, (0, 0, 0, 0, []))), (45, (.iload_n 3, 46, (3, 0, 0, 0, []))), (46, (.invokevirtual 158, 49, (131, 1, 9, 1023, []))), (49, (.istore 4, 51, (4, 0, 0, 0, []))), (51, (.iload_n 2, 52, (2, 0, 0, 0, []))), (52, (.bipush (-4), 54, (0, 0, 0, (-4), []))), (54, (.if_icmp .eq 9, 57, (63, 0, 0, 0, []))), (57, (.iload 4, 59, (4, 0, 0, 0, []))), (59, (.iload_n 2, 60, (2, 0, 0, 0, []))), (60, (.if_icmp .ge 8, 63, (68, 0, 0, 0, []))), (63, (.iload 4, 65, (4, 0, 0, 0, []))), (65, (.goto 4, 68, (69, 0, 0, 0, []))), (68, (.iload_n 2, 69, (2, 0, 0, 0, []))), (69, (.istore_n 2, 70, (2, 0, 0, 0, []))), (70, (.iinc 3 1, 73, (3, 0, 0, 1, []))), (73, (.goto (-54), 76, (19, 0, 0, 0, []))), (76, (.iload_n 2, 77, (2, 0, 0, 0, []))), (77, (.ireturn, 78, (0, 0, 0, 0, [])))])]
def cd_X9_more : bg_K := [(31, [(0, (.aload_n 0, 1, (0, 0, 0, 0, []))), (1, (.aload_n 0, 2, (0, 0, 0, 0, []))), (2, (.aload_n 0, 3, (0, 0, 0, 0, []))), (3, (.getfield 25, 6, (9, 6, 2, 859, []))), (6, (.iconst 0, 7, (0, 0, 0, 0, []))), (7, (.iaload, 8, (0, 0, 0, 0, []))), (8, (.invokevirtual 200, 11, (146, 1, 9, 1082, []))), (11, (.invokevirtual 195, 14, (140, 1, 9, 1090, []))), (14, (.aload_n 0, 15, (0, 0, 0, 0, []))), (15, (.aload_n 0, 16, (0, 0, 0, 0, []))), (16, (.aload_n 0, 17, (0, 0, 0, 0, []))), (17, (.getfield 25, 20, (9, 6, 2, 859, []))), (20, (.iconst 0, 21, (0, 0, 0, 0, []))), (21, (.iaload, 22, (0, 0, 0, 0, []))), (22, (.iconst 1, 23, (0, 0, 0, 1, []))), (23, (.iadd, 24, (0, 0, 0, 0, []))), (24, (.invokevirtual 200, 27, (146, 1, 9, 1082, []))), (27, (.invokevirtual 195, 30, (140, 1, 9, 1090, []))), (30, (.isub, 31, (0, 0, 0, 0, []))), (31, (.ireturn, 32, (0, 0, 0, 0, [])))])]
def cd_X9_oneMore : bg_K := [(38, [(0, (.aload_n 0, 1, (0, 0, 0, 0, []))), (1, (.iload_n 1, 2, (1, 0, 0, 0, []))), (2, (.invokevirtual 153, 5, (130, 1, 9, 1018, []))), (5, (.ifCond .eq 11, 8, (16, 0, 0, 0, []))), (8, (.aload_n 0, 9, (0, 0, 0, 0, []))), (9, (.iload_n 2, 10, (2, 0, 0, 0, []))), (10, (.invokevirtual 144, 13, (128, 1, 9, 1009, []))), (13, (.ifCond .ne 5, 16, (18, 0, 0, 0, []))), (16, (.iconst (-1), 17, (0, 0, 0, (-1), []))), (17, (.ireturn, 18, (0, 0, 0, 0, []))), (18, (.aload_n 0, 19, (0, 0, 0, 0, []))), (19, (.iload_n 1, 20, (1, 0, 0, 0, []))), (20, (.invokevirtual 161, 23, (132, 1, 9, 1030, []))), (23, (.istore_n 3, 24, (3, 0, 0, 0, []))), (24, (.aload_n 0, 25, (0, 0, 0, 0, []))), (25, (.iload_n 3, 26, (3, 0, 0, 0, []))), (26, (.iload_n 2, 27, (2, 0, 0, 0, []))), (27, (.invokevirtual 181, 30, (139, 2, 9, 1050, []))), (30, (.istore 4, 32, (4, 0, 0, 0, []))), (32, (.iload 4, 34, (4, 0, 0, 0, []))), (34, (.aload_n 0, 35, (0, 0, 0, 0, []))), (35, (.iload_n 3, 36, (3, 0, 0, 0, []))), (36, (.bipush (-4), 38, (0, 0, 0, (-4), []))), (38, (.invokevirtual 181, 41, (139, 2, 9, 1050, [])))]), (42, [(41, (.isub, 42, (0, 0, 0, 0, []))), (42, (.ireturn, 43, (0, 0, 0, 0, [])))])]
def cd_X9_weigh : bg_K := [(19, [(0, (.iload_n 2, 1, (2, 0, 0, 0, []))), (1, (.aload_n 0, 2, (0, 0, 0, 0, []))), (2, (.iload_n 1, 3, (1, 0, 0, 0, []))), (3, (.invokevirtual 195, 6, (140, 1, 9, 1090, []))), (6, (.imul, 7, (0, 0, 0, 0, []))), (7, (.iload_n 3, 8, (3, 0, 0, 0, []))), (8, (.aload_n 0, 9, (0, 0, 0, 0, []))), (9, (.aload_n 0, 10, (0, 0, 0, 0, []))), (10, (.iload_n 1, 11, (1, 0, 0, 0, []))), (11, (.invokevirtual 161, 14, (132, 1, 9, 1030, []))), (14, (.invokevirtual 164, 17, (133, 1, 9, 1034, []))), (17, (.imul, 18, (0, 0, 0, 0, []))), (18, (.iadd, 19, (0, 0, 0, 0, []))), (19, (.ireturn, 20, (0, 0, 0, 0, [])))])]
def cd_X9_weighed : bg_K := [(40, [(0, (.iload_n 1, 1, (1, 0, 0, 0, []))), (1, (.i2l, 2, (0, 0, 0, 0, []))), (2, (.lconst 0, 3, (0, 0, 0, 0, []))), (3, (.ldc2_w 187, 6, (0, 1068, 0, 99, []))), (6, (.invokestatic 92, 9, (112, 3, 0, 958, []))), (9, (.ifCond .eq 25, 12, (34, 0, 0, 0, []))), (12, (.iload_n 2, 13, (2, 0, 0, 0, []))), (13, (.i2l, 14, (0, 0, 0, 0, []))), (14, (.lconst 0, 15, (0, 0, 0, 0, []))), (15, (.ldc2_w 187, 18, (0, 1068, 0, 99, []))), (18, (.invokestatic 92, 21, (112, 3, 0, 958, []))), (21, (.ifCond .eq 13, 24, (34, 0, 0, 0, []))), (24, (.iload_n 3, 25, (3, 0, 0, 0, []))), (25, (.i2l, 26, (0, 0, 0, 0, []))), (26, (.lconst 0, 27, (0, 0, 0, 0, []))), (27, (.lconst 1, 28, (0, 0, 0, 1, []))), (28, (.invokestatic 92, 31, (112, 3, 0, 958, []))), (31, (.ifCond .ne 5, 34, (36, 0, 0, 0, []))), (34, (.iconst (-1), 35, (0, 0, 0, (-1), []))), (35, (.ireturn, 36, (0, 0, 0, 0, []))), (36, (.iconst 0, 37, (0, 0, 0, 0, []))), (37, (.istore 4, 39, (4, 0, 0, 0, []))), (39, (.iconst 1, 40, (0, 0, 0, 1, []))), (40, (.istore 5, 42, (5, 0, 0, 0, [])))]), (86, [(42, (.iload 5, 44, (5, 0, 0, 0, []))), (44, (.aload_n 0, 45, (0, 0, 0, 0, []))), (45, (.invokevirtual 192, 48, (145, 0, 9, 1086, []))), (48, (.if_icmp .ge 56, 51, (104, 0, 0, 0, []))), (51, (.aload_n 0, 52, (0, 0, 0, 0, []))), (52, (.iload 5, 54, (5, 0, 0, 0, []))), (54, (.invokevirtual 153, 57, (130, 1, 9, 1018, []))), (57, (.ifCond .eq 41, 60, (98, 0, 0, 0, []))), (60, (.aload_n 0, 61, (0, 0, 0, 0, []))), (61, (.iload 5, 63, (5, 0, 0, 0, []))), (63, (.invokevirtual 158, 66, (131, 1, 9, 1023, []))), (66, (.aload_n 0, 67, (0, 0, 0, 0, []))), (67, (.getfield 25, 70, (9, 6, 2, 859, []))), (70, (.iconst 0, 71, (0, 0, 0, 0, []))), (71, (.iaload, 72, (0, 0, 0, 0, []))), (72, (.if_icmp .gt 26, 75, (98, 0, 0, 0, []))), (75, (.aload_n 0, 76, (0, 0, 0, 0, []))), (76, (.iload 5, 78, (5, 0, 0, 0, []))), (78, (.iload_n 1, 79, (1, 0, 0, 0, []))), (79, (.iload_n 2, 80, (2, 0, 0, 0, []))), (80, (.invokevirtual 205, 83, (151, 3, 9, 1111, []))), (83, (.aload_n 0, 84, (0, 0, 0, 0, []))), (84, (.iload 4, 86, (4, 0, 0, 0, []))), (86, (.iload_n 1, 87, (1, 0, 0, 0, [])))]), (121, [(87, (.iload_n 2, 88, (2, 0, 0, 0, []))), (88, (.invokevirtual 205, 91, (151, 3, 9, 1111, []))), (91, (.if_icmp .ge 7, 94, (98, 0, 0, 0, []))), (94, (.iload 5, 96, (5, 0, 0, 0, []))), (96, (.istore 4, 98, (4, 0, 0, 0, []))), (98, (.iinc 5 1, 101, (5, 0, 0, 1, []))), (101, (.goto (-59), 104, (42, 0, 0, 0, []))), (104, (.iload_n 3, 105, (3, 0, 0, 0, []))), (105, (.ifCond .ne 8, 108, (113, 0, 0, 0, []))), (108, (.iload 4, 110, (4, 0, 0, 0, []))), (110, (.goto 11, 113, (121, 0, 0, 0, []))), (113, (.aload_n 0, 114, (0, 0, 0, 0, []))), (114, (.iload 4, 116, (4, 0, 0, 0, []))), (116, (.iload_n 1, 117, (1, 0, 0, 0, []))), (117, (.iload_n 2, 118, (2, 0, 0, 0, []))), (118, (.invokevirtual 205, 121, (151, 3, 9, 1111, []))), (121, (.ireturn, 122, (0, 0, 0, 0, [])))])]
def cd_X9_seenBy : bg_K := [(30, [(0, (.iconst 1, 1, (0, 0, 0, 1, []))), (1, (.istore_n 2, 2, (2, 0, 0, 0, []))), (2, (.iconst 0, 3, (0, 0, 0, 0, []))), (3, (.istore_n 3, 4, (3, 0, 0, 0, []))), (4, (.iload_n 3, 5, (3, 0, 0, 0, []))), (5, (.iload_n 1, 6, (1, 0, 0, 0, []))), (6, (.if_icmp .ge 30, 9, (36, 0, 0, 0, []))), (9, (.iload_n 2, 10, (2, 0, 0, 0, []))), (10, (.iconst 1, 11, (0, 0, 0, 1, []))), (11, (.aload_n 0, 12, (0, 0, 0, 0, []))), (12, (.getfield 16, 15, (9, 3, 2, 856, []))), (15, (.bipush 7, 17, (0, 0, 0, 7, []))), (17, (.aload_n 0, 18, (0, 0, 0, 0, []))), (18, (.getfield 61, 21, (9, 24, 2, 877, []))), (21, (.iload_n 3, 22, (3, 0, 0, 0, []))), (22, (.iaload, 23, (0, 0, 0, 0, []))), (23, (.imul, 24, (0, 0, 0, 0, []))), (24, (.iconst 1, 25, (0, 0, 0, 1, []))), (25, (.iadd, 26, (0, 0, 0, 0, []))), (26, (.iaload, 27, (0, 0, 0, 0, []))), (27, (.ishl, 28, (0, 0, 0, 0, []))), (28, (.ior, 29, (0, 0, 0, 0, []))), (29, (.istore_n 2, 30, (2, 0, 0, 0, []))), (30, (.iinc 3 1, 33, (3, 0, 0, 1, [])))]), (37, [(33, (.goto (-29), 36, (4, 0, 0, 0, []))), (36, (.iload_n 2, 37, (2, 0, 0, 0, []))), (37, (.ireturn, 38, (0, 0, 0, 0, [])))])]
def cd_X9_layWays : bg_K := [(41, [(0, (.aload_n 0, 1, (0, 0, 0, 0, []))), (1, (.getfield 137, 4, (9, 14, 0, 867, []))), (4, (.ifCond .eq 4, 7, (8, 0, 0, 0, []))), (7, (.return_, 8, (0, 0, 0, 0, []))), (8, (.aload_n 0, 9, (0, 0, 0, 0, []))), (9, (.iconst 1, 10, (0, 0, 0, 1, []))), (10, (.putfield 137, 13, (9, 14, 3, 867, []))), (13, (.aload_n 0, 14, (0, 0, 0, 0, []))), (14, (.iconst 0, 15, (0, 0, 0, 0, []))), (15, (.putfield 208, 18, (9, 15, 0, 868, []))), (18, (.iconst 0, 19, (0, 0, 0, 0, []))), (19, (.istore_n 1, 20, (1, 0, 0, 0, []))), (20, (.aload_n 0, 21, (0, 0, 0, 0, []))), (21, (.getfield 61, 24, (9, 24, 2, 877, []))), (24, (.iconst 0, 25, (0, 0, 0, 0, []))), (25, (.iconst (-1), 26, (0, 0, 0, (-1), []))), (26, (.iastore, 27, (0, 0, 0, 0, []))), (27, (.iload_n 1, 28, (1, 0, 0, 0, []))), (28, (.ifCond .lt 147, 31, (175, 0, 0, 0, []))), (31, (.aload_n 0, 32, (0, 0, 0, 0, []))), (32, (.getfield 208, 35, (9, 15, 0, 868, []))), (35, (.sipush 400, 38, (0, 0, 0, 400, []))), (38, (.if_icmp .ge 137, 41, (175, 0, 0, 0, []))), (41, (.aload_n 0, 42, (0, 0, 0, 0, [])))]), (76, [(42, (.getfield 61, 45, (9, 24, 2, 877, []))), (45, (.iload_n 1, 46, (1, 0, 0, 0, []))), (46, (.dup2, 47, (0, 0, 0, 0, []))), (47, (.iaload, 48, (0, 0, 0, 0, []))), (48, (.iconst 1, 49, (0, 0, 0, 1, []))), (49, (.iadd, 50, (0, 0, 0, 0, []))), (50, (.iastore, 51, (0, 0, 0, 0, []))), (51, (.iload_n 1, 52, (1, 0, 0, 0, []))), (52, (.ifCond .ne 7, 55, (59, 0, 0, 0, []))), (55, (.iconst 0, 56, (0, 0, 0, 0, []))), (56, (.goto 21, 59, (77, 0, 0, 0, []))), (59, (.aload_n 0, 60, (0, 0, 0, 0, []))), (60, (.getfield 16, 63, (9, 3, 2, 856, []))), (63, (.bipush 7, 65, (0, 0, 0, 7, []))), (65, (.aload_n 0, 66, (0, 0, 0, 0, []))), (66, (.getfield 61, 69, (9, 24, 2, 877, []))), (69, (.iload_n 1, 70, (1, 0, 0, 0, []))), (70, (.iconst 1, 71, (0, 0, 0, 1, []))), (71, (.isub, 72, (0, 0, 0, 0, []))), (72, (.iaload, 73, (0, 0, 0, 0, []))), (73, (.imul, 74, (0, 0, 0, 0, []))), (74, (.iconst 1, 75, (0, 0, 0, 1, []))), (75, (.iadd, 76, (0, 0, 0, 0, []))), (76, (.iaload, 77, (0, 0, 0, 0, [])))]), (115, [(77, (.istore_n 2, 78, (2, 0, 0, 0, []))), (78, (.aload_n 0, 79, (0, 0, 0, 0, []))), (79, (.getfield 61, 82, (9, 24, 2, 877, []))), (82, (.iload_n 1, 83, (1, 0, 0, 0, []))), (83, (.iaload, 84, (0, 0, 0, 0, []))), (84, (.istore_n 3, 85, (3, 0, 0, 0, []))), (85, (.iload_n 3, 86, (3, 0, 0, 0, []))), (86, (.aload_n 0, 87, (0, 0, 0, 0, []))), (87, (.getfield 13, 90, (9, 2, 2, 855, []))), (90, (.iconst 0, 91, (0, 0, 0, 0, []))), (91, (.iaload, 92, (0, 0, 0, 0, []))), (92, (.if_icmp .lt 9, 95, (101, 0, 0, 0, []))), (95, (.iinc 1 (-1), 98, (1, 0, 0, (-1), []))), (98, (.goto 74, 101, (172, 0, 0, 0, []))), (101, (.aload_n 0, 102, (0, 0, 0, 0, []))), (102, (.getfield 16, 105, (9, 3, 2, 856, []))), (105, (.bipush 7, 107, (0, 0, 0, 7, []))), (107, (.iload_n 3, 108, (3, 0, 0, 0, []))), (108, (.imul, 109, (0, 0, 0, 0, []))), (109, (.iaload, 110, (0, 0, 0, 0, []))), (110, (.iload_n 2, 111, (2, 0, 0, 0, []))), (111, (.if_icmp .ne 61, 114, (172, 0, 0, 0, []))), (114, (.aload_n 0, 115, (0, 0, 0, 0, []))), (115, (.iload_n 1, 116, (1, 0, 0, 0, [])))]), (154, [(116, (.invokevirtual 211, 119, (153, 1, 9, 1123, []))), (119, (.aload_n 0, 120, (0, 0, 0, 0, []))), (120, (.getfield 16, 123, (9, 3, 2, 856, []))), (123, (.bipush 7, 125, (0, 0, 0, 7, []))), (125, (.iload_n 3, 126, (3, 0, 0, 0, []))), (126, (.imul, 127, (0, 0, 0, 0, []))), (127, (.iconst 1, 128, (0, 0, 0, 1, []))), (128, (.iadd, 129, (0, 0, 0, 0, []))), (129, (.iaload, 130, (0, 0, 0, 0, []))), (130, (.invokestatic 149, 133, (113, 2, 0, 1027, []))), (133, (.ifCond .ne 39, 136, (172, 0, 0, 0, []))), (136, (.aload_n 0, 137, (0, 0, 0, 0, []))), (137, (.getfield 16, 140, (9, 3, 2, 856, []))), (140, (.bipush 7, 142, (0, 0, 0, 7, []))), (142, (.iload_n 3, 143, (3, 0, 0, 0, []))), (143, (.imul, 144, (0, 0, 0, 0, []))), (144, (.iconst 1, 145, (0, 0, 0, 1, []))), (145, (.iadd, 146, (0, 0, 0, 0, []))), (146, (.iaload, 147, (0, 0, 0, 0, []))), (147, (.bipush 7, 149, (0, 0, 0, 7, []))), (149, (.if_icmp .ne 13, 152, (162, 0, 0, 0, []))), (152, (.aload_n 0, 153, (0, 0, 0, 0, []))), (153, (.iload_n 1, 154, (1, 0, 0, 0, []))), (154, (.iconst 1, 155, (0, 0, 0, 1, [])))]), (175, [(155, (.iadd, 156, (0, 0, 0, 0, []))), (156, (.invokevirtual 214, 159, (155, 1, 9, 1127, []))), (159, (.goto 13, 162, (172, 0, 0, 0, []))), (162, (.iinc 1 1, 165, (1, 0, 0, 1, []))), (165, (.aload_n 0, 166, (0, 0, 0, 0, []))), (166, (.getfield 61, 169, (9, 24, 2, 877, []))), (169, (.iload_n 1, 170, (1, 0, 0, 0, []))), (170, (.iconst (-1), 171, (0, 0, 0, (-1), []))), (171, (.iastore, 172, (0, 0, 0, 0, []))), (172, (.goto (-145), 175, (27, 0, 0, 0, []))), (175, (.return_, 176, (0, 0, 0, 0, [])))])]
def cd_X9_noteWay : bg_K := [(36, [(0, (.aload_n 0, 1, (0, 0, 0, 0, []))), (1, (.getfield 43, 4, (9, 16, 2, 869, []))), (4, (.aload_n 0, 5, (0, 0, 0, 0, []))), (5, (.getfield 208, 8, (9, 15, 0, 868, []))), (8, (.iload_n 1, 9, (1, 0, 0, 0, []))), (9, (.iastore, 10, (0, 0, 0, 0, []))), (10, (.iconst 0, 11, (0, 0, 0, 0, []))), (11, (.istore_n 2, 12, (2, 0, 0, 0, []))), (12, (.iload_n 2, 13, (2, 0, 0, 0, []))), (13, (.iload_n 1, 14, (1, 0, 0, 0, []))), (14, (.if_icmp .ge 29, 17, (43, 0, 0, 0, []))), (17, (.aload_n 0, 18, (0, 0, 0, 0, []))), (18, (.getfield 46, 21, (9, 17, 2, 870, []))), (21, (.bipush 7, 23, (0, 0, 0, 7, []))), (23, (.aload_n 0, 24, (0, 0, 0, 0, []))), (24, (.getfield 208, 27, (9, 15, 0, 868, []))), (27, (.imul, 28, (0, 0, 0, 0, []))), (28, (.iload_n 2, 29, (2, 0, 0, 0, []))), (29, (.iadd, 30, (0, 0, 0, 0, []))), (30, (.aload_n 0, 31, (0, 0, 0, 0, []))), (31, (.getfield 61, 34, (9, 24, 2, 877, []))), (34, (.iload_n 2, 35, (2, 0, 0, 0, []))), (35, (.iaload, 36, (0, 0, 0, 0, []))), (36, (.iastore, 37, (0, 0, 0, 0, [])))]), (53, [(37, (.iinc 2 1, 40, (2, 0, 0, 1, []))), (40, (.goto (-28), 43, (12, 0, 0, 0, []))), (43, (.aload_n 0, 44, (0, 0, 0, 0, []))), (44, (.dup, 45, (0, 0, 0, 0, []))), (45, (.getfield 208, 48, (9, 15, 0, 868, []))), (48, (.iconst 1, 49, (0, 0, 0, 1, []))), (49, (.iadd, 50, (0, 0, 0, 0, []))), (50, (.putfield 208, 53, (9, 15, 0, 868, []))), (53, (.return_, 54, (0, 0, 0, 0, [])))])]
def cd_X9_way : bg_K := [(39, [(0, (.iload_n 1, 1, (1, 0, 0, 0, []))), (1, (.iconst (-1), 2, (0, 0, 0, (-1), []))), (2, (.if_icmp .lt 8, 5, (10, 0, 0, 0, []))), (5, (.iload_n 2, 6, (2, 0, 0, 0, []))), (6, (.iconst (-1), 7, (0, 0, 0, (-1), []))), (7, (.if_icmp .ge 5, 10, (12, 0, 0, 0, []))), (10, (.iconst (-1), 11, (0, 0, 0, (-1), []))), (11, (.ireturn, 12, (0, 0, 0, 0, []))), (12, (.aload_n 0, 13, (0, 0, 0, 0, []))), (13, (.invokevirtual 217, 16, (154, 0, 9, 1119, []))), (16, (.iload_n 1, 17, (1, 0, 0, 0, []))), (17, (.ifCond .ge 8, 20, (25, 0, 0, 0, []))), (20, (.aload_n 0, 21, (0, 0, 0, 0, []))), (21, (.getfield 208, 24, (9, 15, 0, 868, []))), (24, (.ireturn, 25, (0, 0, 0, 0, []))), (25, (.iload_n 1, 26, (1, 0, 0, 0, []))), (26, (.aload_n 0, 27, (0, 0, 0, 0, []))), (27, (.getfield 208, 30, (9, 15, 0, 868, []))), (30, (.if_icmp .ge 13, 33, (43, 0, 0, 0, []))), (33, (.iload_n 2, 34, (2, 0, 0, 0, []))), (34, (.aload_n 0, 35, (0, 0, 0, 0, []))), (35, (.getfield 43, 38, (9, 16, 2, 869, []))), (38, (.iload_n 1, 39, (1, 0, 0, 0, []))), (39, (.iaload, 40, (0, 0, 0, 0, [])))]), (70, [(40, (.if_icmp .lt 6, 43, (46, 0, 0, 0, []))), (43, (.bipush (-4), 45, (0, 0, 0, (-4), []))), (45, (.ireturn, 46, (0, 0, 0, 0, []))), (46, (.iload_n 2, 47, (2, 0, 0, 0, []))), (47, (.ifCond .ge 12, 50, (59, 0, 0, 0, []))), (50, (.aload_n 0, 51, (0, 0, 0, 0, []))), (51, (.getfield 43, 54, (9, 16, 2, 869, []))), (54, (.iload_n 1, 55, (1, 0, 0, 0, []))), (55, (.iaload, 56, (0, 0, 0, 0, []))), (56, (.goto 14, 59, (70, 0, 0, 0, []))), (59, (.aload_n 0, 60, (0, 0, 0, 0, []))), (60, (.getfield 46, 63, (9, 17, 2, 870, []))), (63, (.bipush 7, 65, (0, 0, 0, 7, []))), (65, (.iload_n 1, 66, (1, 0, 0, 0, []))), (66, (.imul, 67, (0, 0, 0, 0, []))), (67, (.iload_n 2, 68, (2, 0, 0, 0, []))), (68, (.iadd, 69, (0, 0, 0, 0, []))), (69, (.iaload, 70, (0, 0, 0, 0, []))), (70, (.ireturn, 71, (0, 0, 0, 0, [])))])]
def cd_X9_throughBy : bg_K := [(38, [(0, (.sipush 1000, 3, (0, 0, 0, 1000, []))), (3, (.istore_n 3, 4, (3, 0, 0, 0, []))), (4, (.iconst 0, 5, (0, 0, 0, 0, []))), (5, (.istore 4, 7, (4, 0, 0, 0, []))), (7, (.iload 4, 9, (4, 0, 0, 0, []))), (9, (.aload_n 0, 10, (0, 0, 0, 0, []))), (10, (.getfield 43, 13, (9, 16, 2, 869, []))), (13, (.iload_n 2, 14, (2, 0, 0, 0, []))), (14, (.iaload, 15, (0, 0, 0, 0, []))), (15, (.if_icmp .ge 42, 18, (57, 0, 0, 0, []))), (18, (.aload_n 0, 19, (0, 0, 0, 0, []))), (19, (.iload_n 1, 20, (1, 0, 0, 0, []))), (20, (.aload_n 0, 21, (0, 0, 0, 0, []))), (21, (.getfield 46, 24, (9, 17, 2, 870, []))), (24, (.bipush 7, 26, (0, 0, 0, 7, []))), (26, (.iload_n 2, 27, (2, 0, 0, 0, []))), (27, (.imul, 28, (0, 0, 0, 0, []))), (28, (.iload 4, 30, (4, 0, 0, 0, []))), (30, (.iadd, 31, (0, 0, 0, 0, []))), (31, (.iaload, 32, (0, 0, 0, 0, []))), (32, (.iconst 0, 33, (0, 0, 0, 0, []))), (33, (.invokevirtual 167, 36, (135, 3, 9, 1042, []))), (36, (.istore 5, 38, (5, 0, 0, 0, []))), (38, (.iload 5, 40, (5, 0, 0, 0, [])))]), (58, [(40, (.iload_n 3, 41, (3, 0, 0, 0, []))), (41, (.if_icmp .ge 8, 44, (49, 0, 0, 0, []))), (44, (.iload 5, 46, (5, 0, 0, 0, []))), (46, (.goto 4, 49, (50, 0, 0, 0, []))), (49, (.iload_n 3, 50, (3, 0, 0, 0, []))), (50, (.istore_n 3, 51, (3, 0, 0, 0, []))), (51, (.iinc 4 1, 54, (4, 0, 0, 1, []))), (54, (.goto (-47), 57, (7, 0, 0, 0, []))), (57, (.iload_n 3, 58, (3, 0, 0, 0, []))), (58, (.ireturn, 59, (0, 0, 0, 0, [])))])]
def cd_X9_through : bg_K := [(41, [(0, (.aload_n 0, 1, (0, 0, 0, 0, []))), (1, (.iload_n 1, 2, (1, 0, 0, 0, []))), (2, (.invokevirtual 153, 5, (130, 1, 9, 1018, []))), (5, (.ifCond .eq 7, 8, (12, 0, 0, 0, []))), (8, (.iload_n 2, 9, (2, 0, 0, 0, []))), (9, (.ifCond .ge 5, 12, (14, 0, 0, 0, []))), (12, (.iconst (-1), 13, (0, 0, 0, (-1), []))), (13, (.ireturn, 14, (0, 0, 0, 0, []))), (14, (.aload_n 0, 15, (0, 0, 0, 0, []))), (15, (.invokevirtual 217, 18, (154, 0, 9, 1119, []))), (18, (.iload_n 2, 19, (2, 0, 0, 0, []))), (19, (.aload_n 0, 20, (0, 0, 0, 0, []))), (20, (.getfield 208, 23, (9, 15, 0, 868, []))), (23, (.if_icmp .ge 16, 26, (39, 0, 0, 0, []))), (26, (.aload_n 0, 27, (0, 0, 0, 0, []))), (27, (.aload_n 0, 28, (0, 0, 0, 0, []))), (28, (.iload_n 1, 29, (1, 0, 0, 0, []))), (29, (.invokevirtual 161, 32, (132, 1, 9, 1030, []))), (32, (.iload_n 2, 33, (2, 0, 0, 0, []))), (33, (.invokevirtual 220, 36, (157, 2, 9, 1135, []))), (36, (.goto 5, 39, (41, 0, 0, 0, []))), (39, (.bipush (-4), 41, (0, 0, 0, (-4), []))), (41, (.ireturn, 42, (0, 0, 0, 0, [])))])]
def cd_X9_gainBy : bg_K := [(39, [(0, (.aload_n 0, 1, (0, 0, 0, 0, []))), (1, (.getfield 25, 4, (9, 6, 2, 859, []))), (4, (.iconst 1, 5, (0, 0, 0, 1, []))), (5, (.iaload, 6, (0, 0, 0, 0, []))), (6, (.i2l, 7, (0, 0, 0, 0, []))), (7, (.lstore_n 3, 8, (3, 0, 0, 0, []))), (8, (.lconst 0, 9, (0, 0, 0, 0, []))), (9, (.lstore 5, 11, (5, 0, 0, 0, []))), (11, (.iconst 0, 12, (0, 0, 0, 0, []))), (12, (.istore 7, 14, (7, 0, 0, 0, []))), (14, (.iload 7, 16, (7, 0, 0, 0, []))), (16, (.bipush 7, 18, (0, 0, 0, 7, []))), (18, (.if_icmp .ge 106, 21, (124, 0, 0, 0, []))), (21, (.iload 7, 23, (7, 0, 0, 0, []))), (23, (.aload_n 0, 24, (0, 0, 0, 0, []))), (24, (.getfield 43, 27, (9, 16, 2, 869, []))), (27, (.iload_n 2, 28, (2, 0, 0, 0, []))), (28, (.iaload, 29, (0, 0, 0, 0, []))), (29, (.if_icmp .ge 18, 32, (47, 0, 0, 0, []))), (32, (.aload_n 0, 33, (0, 0, 0, 0, []))), (33, (.getfield 46, 36, (9, 17, 2, 870, []))), (36, (.bipush 7, 38, (0, 0, 0, 7, []))), (38, (.iload_n 2, 39, (2, 0, 0, 0, []))), (39, (.imul, 40, (0, 0, 0, 0, [])))]), (82, [(40, (.iload 7, 42, (7, 0, 0, 0, []))), (42, (.iadd, 43, (0, 0, 0, 0, []))), (43, (.iaload, 44, (0, 0, 0, 0, []))), (44, (.goto 5, 47, (49, 0, 0, 0, []))), (47, (.bipush (-4), 49, (0, 0, 0, (-4), []))), (49, (.istore 8, 51, (8, 0, 0, 0, []))), (51, (.lload_n 3, 52, (3, 0, 0, 0, []))), (52, (.iload 8, 54, (8, 0, 0, 0, []))), (54, (.ifCond .lt 32, 57, (86, 0, 0, 0, []))), (57, (.iload_n 1, 58, (1, 0, 0, 0, []))), (58, (.iload 8, 60, (8, 0, 0, 0, []))), (60, (.invokestatic 149, 63, (113, 2, 0, 1027, []))), (63, (.ifCond .eq 23, 66, (86, 0, 0, 0, []))), (66, (.ldc2_w 223, 69, (0, 1148, 0, 100, []))), (69, (.aload_n 0, 70, (0, 0, 0, 0, []))), (70, (.getfield 16, 73, (9, 3, 2, 856, []))), (73, (.bipush 7, 75, (0, 0, 0, 7, []))), (75, (.iload 8, 77, (8, 0, 0, 0, []))), (77, (.imul, 78, (0, 0, 0, 0, []))), (78, (.iconst 5, 79, (0, 0, 0, 5, []))), (79, (.iadd, 80, (0, 0, 0, 0, []))), (80, (.iaload, 81, (0, 0, 0, 0, []))), (81, (.i2l, 82, (0, 0, 0, 0, []))), (82, (.lsub, 83, (0, 0, 0, 0, [])))]), (125, [(83, (.goto 6, 86, (89, 0, 0, 0, []))), (86, (.ldc2_w 223, 89, (0, 1148, 0, 100, []))), (89, (.lmul, 90, (0, 0, 0, 0, []))), (90, (.lstore_n 3, 91, (3, 0, 0, 0, []))), (91, (.lload 5, 93, (5, 0, 0, 0, []))), (93, (.iload 8, 95, (8, 0, 0, 0, []))), (95, (.ifCond .lt 19, 98, (114, 0, 0, 0, []))), (98, (.aload_n 0, 99, (0, 0, 0, 0, []))), (99, (.getfield 16, 102, (9, 3, 2, 856, []))), (102, (.bipush 7, 104, (0, 0, 0, 7, []))), (104, (.iload 8, 106, (8, 0, 0, 0, []))), (106, (.imul, 107, (0, 0, 0, 0, []))), (107, (.iconst 3, 108, (0, 0, 0, 3, []))), (108, (.iadd, 109, (0, 0, 0, 0, []))), (109, (.iaload, 110, (0, 0, 0, 0, []))), (110, (.i2l, 111, (0, 0, 0, 0, []))), (111, (.goto 4, 114, (115, 0, 0, 0, []))), (114, (.lconst 0, 115, (0, 0, 0, 0, []))), (115, (.ladd, 116, (0, 0, 0, 0, []))), (116, (.lstore 5, 118, (5, 0, 0, 0, []))), (118, (.iinc 7 1, 121, (7, 0, 0, 1, []))), (121, (.goto (-107), 124, (14, 0, 0, 0, []))), (124, (.lload_n 3, 125, (3, 0, 0, 0, []))), (125, (.lload 5, 127, (5, 0, 0, 0, [])))]), (132, [(127, (.ldc2_w 225, 130, (0, 1149, 0, 100000000000000, []))), (130, (.lmul, 131, (0, 0, 0, 0, []))), (131, (.lsub, 132, (0, 0, 0, 0, []))), (132, (.lreturn, 133, (0, 0, 0, 0, [])))])]
def cd_X9_gain : bg_K := [(44, [(0, (.aload_n 0, 1, (0, 0, 0, 0, []))), (1, (.iload_n 1, 2, (1, 0, 0, 0, []))), (2, (.invokevirtual 153, 5, (130, 1, 9, 1018, []))), (5, (.ifCond .eq 7, 8, (12, 0, 0, 0, []))), (8, (.iload_n 2, 9, (2, 0, 0, 0, []))), (9, (.ifCond .ge 7, 12, (16, 0, 0, 0, []))), (12, (.ldc2_w 227, 15, (0, 1143, 0, (-9223372036854775807), []))), (15, (.lreturn, 16, (0, 0, 0, 0, []))), (16, (.aload_n 0, 17, (0, 0, 0, 0, []))), (17, (.invokevirtual 217, 20, (154, 0, 9, 1119, []))), (20, (.iload_n 2, 21, (2, 0, 0, 0, []))), (21, (.aload_n 0, 22, (0, 0, 0, 0, []))), (22, (.getfield 208, 25, (9, 15, 0, 868, []))), (25, (.if_icmp .ge 16, 28, (41, 0, 0, 0, []))), (28, (.aload_n 0, 29, (0, 0, 0, 0, []))), (29, (.aload_n 0, 30, (0, 0, 0, 0, []))), (30, (.iload_n 1, 31, (1, 0, 0, 0, []))), (31, (.invokevirtual 161, 34, (132, 1, 9, 1030, []))), (34, (.iload_n 2, 35, (2, 0, 0, 0, []))), (35, (.invokevirtual 229, 38, (159, 2, 9, 1144, []))), (38, (.goto 6, 41, (44, 0, 0, 0, []))), (41, (.ldc2_w 233, 44, (0, 1150, 0, (-9223372036854775808), []))), (44, (.lreturn, 45, (0, 0, 0, 0, [])))])]
def cd_X9_bestWayBy : bg_K := [(41, [(0, (.bipush (-4), 2, (0, 0, 0, (-4), []))), (2, (.istore_n 2, 3, (2, 0, 0, 0, []))), (3, (.ldc2_w 233, 6, (0, 1150, 0, (-9223372036854775808), []))), (6, (.lstore_n 3, 7, (3, 0, 0, 0, []))), (7, (.iconst 0, 8, (0, 0, 0, 0, []))), (8, (.istore 5, 10, (5, 0, 0, 0, []))), (10, (.iload 5, 12, (5, 0, 0, 0, []))), (12, (.aload_n 0, 13, (0, 0, 0, 0, []))), (13, (.getfield 208, 16, (9, 15, 0, 868, []))), (16, (.if_icmp .ge 31, 19, (47, 0, 0, 0, []))), (19, (.aload_n 0, 20, (0, 0, 0, 0, []))), (20, (.iload_n 1, 21, (1, 0, 0, 0, []))), (21, (.iload 5, 23, (5, 0, 0, 0, []))), (23, (.invokevirtual 229, 26, (159, 2, 9, 1144, []))), (26, (.lstore 6, 28, (6, 0, 0, 0, []))), (28, (.lload 6, 30, (6, 0, 0, 0, []))), (30, (.lload_n 3, 31, (3, 0, 0, 0, []))), (31, (.lcmp, 32, (0, 0, 0, 0, []))), (32, (.ifCond .le 9, 35, (41, 0, 0, 0, []))), (35, (.lload 6, 37, (6, 0, 0, 0, []))), (37, (.lstore_n 3, 38, (3, 0, 0, 0, []))), (38, (.iload 5, 40, (5, 0, 0, 0, []))), (40, (.istore_n 2, 41, (2, 0, 0, 0, []))), (41, (.iinc 5 1, 44, (5, 0, 0, 1, [])))]), (48, [(44, (.goto (-34), 47, (10, 0, 0, 0, []))), (47, (.iload_n 2, 48, (2, 0, 0, 0, []))), (48, (.ireturn, 49, (0, 0, 0, 0, [])))])]
def cd_X9_elseParts : bg_K := [(11, [(0, (.aload_n 0, 1, (0, 0, 0, 0, []))), (1, (.getfield 25, 4, (9, 6, 2, 859, []))), (4, (.iconst 2, 5, (0, 0, 0, 2, []))), (5, (.iaload, 6, (0, 0, 0, 0, []))), (6, (.i2l, 7, (0, 0, 0, 0, []))), (7, (.ldc2_w 225, 10, (0, 1149, 0, 100000000000000, []))), (10, (.lmul, 11, (0, 0, 0, 0, []))), (11, (.lreturn, 12, (0, 0, 0, 0, [])))])]
def cd_X9_bestWay : bg_K := [(40, [(0, (.aload_n 0, 1, (0, 0, 0, 0, []))), (1, (.iload_n 1, 2, (1, 0, 0, 0, []))), (2, (.invokevirtual 153, 5, (130, 1, 9, 1018, []))), (5, (.ifCond .eq 13, 8, (18, 0, 0, 0, []))), (8, (.iload_n 2, 9, (2, 0, 0, 0, []))), (9, (.i2l, 10, (0, 0, 0, 0, []))), (10, (.lconst 0, 11, (0, 0, 0, 0, []))), (11, (.lconst 1, 12, (0, 0, 0, 1, []))), (12, (.invokestatic 92, 15, (112, 3, 0, 958, []))), (15, (.ifCond .ne 5, 18, (20, 0, 0, 0, []))), (18, (.iconst (-1), 19, (0, 0, 0, (-1), []))), (19, (.ireturn, 20, (0, 0, 0, 0, []))), (20, (.aload_n 0, 21, (0, 0, 0, 0, []))), (21, (.invokevirtual 217, 24, (154, 0, 9, 1119, []))), (24, (.aload_n 0, 25, (0, 0, 0, 0, []))), (25, (.aload_n 0, 26, (0, 0, 0, 0, []))), (26, (.iload_n 1, 27, (1, 0, 0, 0, []))), (27, (.invokevirtual 161, 30, (132, 1, 9, 1030, []))), (30, (.invokevirtual 235, 33, (161, 1, 9, 1155, []))), (33, (.istore_n 3, 34, (3, 0, 0, 0, []))), (34, (.iload_n 3, 35, (3, 0, 0, 0, []))), (35, (.bipush (-4), 37, (0, 0, 0, (-4), []))), (37, (.if_icmp .eq 7, 40, (44, 0, 0, 0, []))), (40, (.iload_n 2, 41, (2, 0, 0, 0, [])))]), (69, [(41, (.ifCond .ne 5, 44, (46, 0, 0, 0, []))), (44, (.iload_n 3, 45, (3, 0, 0, 0, []))), (45, (.ireturn, 46, (0, 0, 0, 0, []))), (46, (.aload_n 0, 47, (0, 0, 0, 0, []))), (47, (.aload_n 0, 48, (0, 0, 0, 0, []))), (48, (.iload_n 1, 49, (1, 0, 0, 0, []))), (49, (.invokevirtual 161, 52, (132, 1, 9, 1030, []))), (52, (.iload_n 3, 53, (3, 0, 0, 0, []))), (53, (.invokevirtual 229, 56, (159, 2, 9, 1144, []))), (56, (.aload_n 0, 57, (0, 0, 0, 0, []))), (57, (.invokevirtual 238, 60, (162, 0, 9, 1159, []))), (60, (.lcmp, 61, (0, 0, 0, 0, []))), (61, (.ifCond .le 7, 64, (68, 0, 0, 0, []))), (64, (.iconst 1, 65, (0, 0, 0, 1, []))), (65, (.goto 4, 68, (69, 0, 0, 0, []))), (68, (.iconst 0, 69, (0, 0, 0, 0, []))), (69, (.ireturn, 70, (0, 0, 0, 0, [])))])]
def cd_X9_leastPay : bg_K := [(34, [(0, (.aload_n 0, 1, (0, 0, 0, 0, []))), (1, (.invokevirtual 217, 4, (154, 0, 9, 1119, []))), (4, (.iconst 1, 5, (0, 0, 0, 1, []))), (5, (.aload_n 0, 6, (0, 0, 0, 0, []))), (6, (.getfield 13, 9, (9, 2, 2, 855, []))), (9, (.iconst 0, 10, (0, 0, 0, 0, []))), (10, (.iaload, 11, (0, 0, 0, 0, []))), (11, (.ishl, 12, (0, 0, 0, 0, []))), (12, (.istore_n 1, 13, (1, 0, 0, 0, []))), (13, (.iconst 0, 14, (0, 0, 0, 0, []))), (14, (.istore_n 2, 15, (2, 0, 0, 0, []))), (15, (.iload_n 2, 16, (2, 0, 0, 0, []))), (16, (.iload_n 1, 17, (1, 0, 0, 0, []))), (17, (.if_icmp .ge 40, 20, (57, 0, 0, 0, []))), (20, (.aload_n 0, 21, (0, 0, 0, 0, []))), (21, (.iload_n 2, 22, (2, 0, 0, 0, []))), (22, (.invokevirtual 235, 25, (161, 1, 9, 1155, []))), (25, (.istore_n 3, 26, (3, 0, 0, 0, []))), (26, (.aload_n 0, 27, (0, 0, 0, 0, []))), (27, (.getfield 64, 30, (9, 25, 2, 878, []))), (30, (.iload_n 2, 31, (2, 0, 0, 0, []))), (31, (.iload_n 3, 32, (3, 0, 0, 0, []))), (32, (.bipush (-4), 34, (0, 0, 0, (-4), []))), (34, (.if_icmp .ne 10, 37, (44, 0, 0, 0, [])))]), (78, [(37, (.aload_n 0, 38, (0, 0, 0, 0, []))), (38, (.invokevirtual 238, 41, (162, 0, 9, 1159, []))), (41, (.goto 9, 44, (50, 0, 0, 0, []))), (44, (.aload_n 0, 45, (0, 0, 0, 0, []))), (45, (.iload_n 2, 46, (2, 0, 0, 0, []))), (46, (.iload_n 3, 47, (3, 0, 0, 0, []))), (47, (.invokevirtual 229, 50, (159, 2, 9, 1144, []))), (50, (.lastore, 51, (0, 0, 0, 0, []))), (51, (.iinc 2 1, 54, (2, 0, 0, 1, []))), (54, (.goto (-39), 57, (15, 0, 0, 0, []))), (57, (.iconst 0, 58, (0, 0, 0, 0, []))), (58, (.istore_n 2, 59, (2, 0, 0, 0, []))), (59, (.iconst 1, 60, (0, 0, 0, 1, []))), (60, (.istore_n 3, 61, (3, 0, 0, 0, []))), (61, (.iload_n 3, 62, (3, 0, 0, 0, []))), (62, (.aload_n 0, 63, (0, 0, 0, 0, []))), (63, (.invokevirtual 192, 66, (145, 0, 9, 1086, []))), (66, (.if_icmp .ge 57, 69, (123, 0, 0, 0, []))), (69, (.aload_n 0, 70, (0, 0, 0, 0, []))), (70, (.iload_n 3, 71, (3, 0, 0, 0, []))), (71, (.invokevirtual 153, 74, (130, 1, 9, 1018, []))), (74, (.ifCond .eq 43, 77, (117, 0, 0, 0, []))), (77, (.aload_n 0, 78, (0, 0, 0, 0, []))), (78, (.iload_n 3, 79, (3, 0, 0, 0, [])))]), (120, [(79, (.invokevirtual 158, 82, (131, 1, 9, 1023, []))), (82, (.aload_n 0, 83, (0, 0, 0, 0, []))), (83, (.getfield 25, 86, (9, 6, 2, 859, []))), (86, (.iconst 0, 87, (0, 0, 0, 0, []))), (87, (.iaload, 88, (0, 0, 0, 0, []))), (88, (.if_icmp .gt 29, 91, (117, 0, 0, 0, []))), (91, (.aload_n 0, 92, (0, 0, 0, 0, []))), (92, (.getfield 64, 95, (9, 25, 2, 878, []))), (95, (.aload_n 0, 96, (0, 0, 0, 0, []))), (96, (.iload_n 3, 97, (3, 0, 0, 0, []))), (97, (.invokevirtual 161, 100, (132, 1, 9, 1030, []))), (100, (.laload, 101, (0, 0, 0, 0, []))), (101, (.aload_n 0, 102, (0, 0, 0, 0, []))), (102, (.getfield 64, 105, (9, 25, 2, 878, []))), (105, (.aload_n 0, 106, (0, 0, 0, 0, []))), (106, (.iload_n 2, 107, (2, 0, 0, 0, []))), (107, (.invokevirtual 161, 110, (132, 1, 9, 1030, []))), (110, (.laload, 111, (0, 0, 0, 0, []))), (111, (.lcmp, 112, (0, 0, 0, 0, []))), (112, (.ifCond .ge 5, 115, (117, 0, 0, 0, []))), (115, (.iload_n 3, 116, (3, 0, 0, 0, []))), (116, (.istore_n 2, 117, (2, 0, 0, 0, []))), (117, (.iinc 3 1, 120, (3, 0, 0, 1, []))), (120, (.goto (-59), 123, (61, 0, 0, 0, [])))]), (124, [(123, (.iload_n 2, 124, (2, 0, 0, 0, []))), (124, (.ireturn, 125, (0, 0, 0, 0, [])))])]
def cd_X9_guard : bg_K := [(40, [(0, (.iload_n 1, 1, (1, 0, 0, 0, []))), (1, (.i2l, 2, (0, 0, 0, 0, []))), (2, (.lconst 0, 3, (0, 0, 0, 0, []))), (3, (.ldc2_w 113, 6, (0, 992, 0, 3, []))), (6, (.invokestatic 92, 9, (112, 3, 0, 958, []))), (9, (.ifCond .eq 16, 12, (25, 0, 0, 0, []))), (12, (.iload_n 2, 13, (2, 0, 0, 0, []))), (13, (.iconst (-1), 14, (0, 0, 0, (-1), []))), (14, (.if_icmp .eq 14, 17, (28, 0, 0, 0, []))), (17, (.aload_n 0, 18, (0, 0, 0, 0, []))), (18, (.iload_n 2, 19, (2, 0, 0, 0, []))), (19, (.invokevirtual 153, 22, (130, 1, 9, 1018, []))), (22, (.ifCond .ne 6, 25, (28, 0, 0, 0, []))), (25, (.bipush (-100), 27, (0, 0, 0, (-100), []))), (27, (.ireturn, 28, (0, 0, 0, 0, []))), (28, (.aload_n 0, 29, (0, 0, 0, 0, []))), (29, (.getfield 28, 32, (9, 7, 2, 860, []))), (32, (.iload_n 1, 33, (1, 0, 0, 0, []))), (33, (.iaload, 34, (0, 0, 0, 0, []))), (34, (.istore_n 3, 35, (3, 0, 0, 0, []))), (35, (.aload_n 0, 36, (0, 0, 0, 0, []))), (36, (.getfield 28, 39, (9, 7, 2, 860, []))), (39, (.iload_n 1, 40, (1, 0, 0, 0, []))), (40, (.iload_n 2, 41, (2, 0, 0, 0, [])))]), (43, [(41, (.iastore, 42, (0, 0, 0, 0, []))), (42, (.iload_n 3, 43, (3, 0, 0, 0, []))), (43, (.ireturn, 44, (0, 0, 0, 0, [])))])]
def cd_X9_carrier : bg_K := [(42, [(0, (.aload_n 0, 1, (0, 0, 0, 0, []))), (1, (.invokevirtual 217, 4, (154, 0, 9, 1119, []))), (4, (.iload_n 1, 5, (1, 0, 0, 0, []))), (5, (.i2l, 6, (0, 0, 0, 0, []))), (6, (.lconst 0, 7, (0, 0, 0, 0, []))), (7, (.ldc2_w 113, 10, (0, 992, 0, 3, []))), (10, (.invokestatic 92, 13, (112, 3, 0, 958, []))), (13, (.ifCond .eq 21, 16, (34, 0, 0, 0, []))), (16, (.iload_n 2, 17, (2, 0, 0, 0, []))), (17, (.i2l, 18, (0, 0, 0, 0, []))), (18, (.ldc2_w 242, 21, (0, 1175, 0, (-1), []))), (21, (.aload_n 0, 22, (0, 0, 0, 0, []))), (22, (.getfield 208, 25, (9, 15, 0, 868, []))), (25, (.iconst 1, 26, (0, 0, 0, 1, []))), (26, (.isub, 27, (0, 0, 0, 0, []))), (27, (.i2l, 28, (0, 0, 0, 0, []))), (28, (.invokestatic 92, 31, (112, 3, 0, 958, []))), (31, (.ifCond .ne 6, 34, (37, 0, 0, 0, []))), (34, (.bipush (-100), 36, (0, 0, 0, (-100), []))), (36, (.ireturn, 37, (0, 0, 0, 0, []))), (37, (.aload_n 0, 38, (0, 0, 0, 0, []))), (38, (.getfield 31, 41, (9, 8, 2, 861, []))), (41, (.iload_n 1, 42, (1, 0, 0, 0, []))), (42, (.iaload, 43, (0, 0, 0, 0, [])))]), (52, [(43, (.istore_n 3, 44, (3, 0, 0, 0, []))), (44, (.aload_n 0, 45, (0, 0, 0, 0, []))), (45, (.getfield 31, 48, (9, 8, 2, 861, []))), (48, (.iload_n 1, 49, (1, 0, 0, 0, []))), (49, (.iload_n 2, 50, (2, 0, 0, 0, []))), (50, (.iastore, 51, (0, 0, 0, 0, []))), (51, (.iload_n 3, 52, (3, 0, 0, 0, []))), (52, (.ireturn, 53, (0, 0, 0, 0, [])))])]
def cd_X9_game : bg_K := [(20, [(0, (.aload_n 0, 1, (0, 0, 0, 0, []))), (1, (.aload_n 0, 2, (0, 0, 0, 0, []))), (2, (.aload_n 0, 3, (0, 0, 0, 0, []))), (3, (.getfield 28, 6, (9, 7, 2, 860, []))), (6, (.iload_n 1, 7, (1, 0, 0, 0, []))), (7, (.iaload, 8, (0, 0, 0, 0, []))), (8, (.invokevirtual 161, 11, (132, 1, 9, 1030, []))), (11, (.aload_n 0, 12, (0, 0, 0, 0, []))), (12, (.getfield 31, 15, (9, 8, 2, 861, []))), (15, (.iload_n 2, 16, (2, 0, 0, 0, []))), (16, (.iaload, 17, (0, 0, 0, 0, []))), (17, (.invokevirtual 220, 20, (157, 2, 9, 1135, []))), (20, (.ireturn, 21, (0, 0, 0, 0, [])))])]
def cd_X9_toldOnes : bg_K := [(35, [(0, (.iconst 0, 1, (0, 0, 0, 0, []))), (1, (.istore_n 2, 2, (2, 0, 0, 0, []))), (2, (.iconst 0, 3, (0, 0, 0, 0, []))), (3, (.istore_n 3, 4, (3, 0, 0, 0, []))), (4, (.iload_n 3, 5, (3, 0, 0, 0, []))), (5, (.iconst 4, 6, (0, 0, 0, 4, []))), (6, (.if_icmp .ge 41, 9, (47, 0, 0, 0, []))), (9, (.iload_n 2, 10, (2, 0, 0, 0, []))), (10, (.iload_n 1, 11, (1, 0, 0, 0, []))), (11, (.ifCond .ne 12, 14, (23, 0, 0, 0, []))), (14, (.aload_n 0, 15, (0, 0, 0, 0, []))), (15, (.getfield 28, 18, (9, 7, 2, 860, []))), (18, (.iload_n 3, 19, (3, 0, 0, 0, []))), (19, (.iaload, 20, (0, 0, 0, 0, []))), (20, (.goto 9, 23, (29, 0, 0, 0, []))), (23, (.aload_n 0, 24, (0, 0, 0, 0, []))), (24, (.getfield 31, 27, (9, 8, 2, 861, []))), (27, (.iload_n 3, 28, (3, 0, 0, 0, []))), (28, (.iaload, 29, (0, 0, 0, 0, []))), (29, (.ifCond .lt 9, 32, (38, 0, 0, 0, []))), (32, (.iconst 1, 33, (0, 0, 0, 1, []))), (33, (.iload_n 3, 34, (3, 0, 0, 0, []))), (34, (.ishl, 35, (0, 0, 0, 0, []))), (35, (.goto 4, 38, (39, 0, 0, 0, [])))]), (48, [(38, (.iconst 0, 39, (0, 0, 0, 0, []))), (39, (.ior, 40, (0, 0, 0, 0, []))), (40, (.istore_n 2, 41, (2, 0, 0, 0, []))), (41, (.iinc 3 1, 44, (3, 0, 0, 1, []))), (44, (.goto (-40), 47, (4, 0, 0, 0, []))), (47, (.iload_n 2, 48, (2, 0, 0, 0, []))), (48, (.ireturn, 49, (0, 0, 0, 0, [])))])]
def cd_X9_determinant : bg_K := [(42, [(0, (.lconst 0, 1, (0, 0, 0, 0, []))), (1, (.lstore_n 2, 2, (2, 0, 0, 0, []))), (2, (.iconst 1, 3, (0, 0, 0, 1, []))), (3, (.istore 4, 5, (4, 0, 0, 0, []))), (5, (.iconst 2, 6, (0, 0, 0, 2, []))), (6, (.istore 5, 8, (5, 0, 0, 0, []))), (8, (.iload 5, 10, (5, 0, 0, 0, []))), (10, (.iload_n 1, 11, (1, 0, 0, 0, []))), (11, (.if_icmp .gt 16, 14, (27, 0, 0, 0, []))), (14, (.iload 4, 16, (4, 0, 0, 0, []))), (16, (.iload 5, 18, (5, 0, 0, 0, []))), (18, (.imul, 19, (0, 0, 0, 0, []))), (19, (.istore 4, 21, (4, 0, 0, 0, []))), (21, (.iinc 5 1, 24, (5, 0, 0, 1, []))), (24, (.goto (-16), 27, (8, 0, 0, 0, []))), (27, (.iconst 0, 28, (0, 0, 0, 0, []))), (28, (.istore 5, 30, (5, 0, 0, 0, []))), (30, (.iload 5, 32, (5, 0, 0, 0, []))), (32, (.iload 4, 34, (4, 0, 0, 0, []))), (34, (.if_icmp .ge 147, 37, (181, 0, 0, 0, []))), (37, (.iload 5, 39, (5, 0, 0, 0, []))), (39, (.istore 6, 41, (6, 0, 0, 0, []))), (41, (.iconst 0, 42, (0, 0, 0, 0, []))), (42, (.istore 7, 44, (7, 0, 0, 0, [])))]), (80, [(44, (.lconst 1, 45, (0, 0, 0, 1, []))), (45, (.lstore 8, 47, (8, 0, 0, 0, []))), (47, (.iconst 0, 48, (0, 0, 0, 0, []))), (48, (.istore 10, 50, (10, 0, 0, 0, []))), (50, (.iload 10, 52, (10, 0, 0, 0, []))), (52, (.iload_n 1, 53, (1, 0, 0, 0, []))), (53, (.if_icmp .ge 117, 56, (170, 0, 0, 0, []))), (56, (.iload 6, 58, (6, 0, 0, 0, []))), (58, (.iload_n 1, 59, (1, 0, 0, 0, []))), (59, (.iload 10, 61, (10, 0, 0, 0, []))), (61, (.isub, 62, (0, 0, 0, 0, []))), (62, (.irem, 63, (0, 0, 0, 0, []))), (63, (.istore 11, 65, (11, 0, 0, 0, []))), (65, (.iload 6, 67, (6, 0, 0, 0, []))), (67, (.iload_n 1, 68, (1, 0, 0, 0, []))), (68, (.iload 10, 70, (10, 0, 0, 0, []))), (70, (.isub, 71, (0, 0, 0, 0, []))), (71, (.idiv, 72, (0, 0, 0, 0, []))), (72, (.istore 6, 74, (6, 0, 0, 0, []))), (74, (.iconst 0, 75, (0, 0, 0, 0, []))), (75, (.istore 12, 77, (12, 0, 0, 0, []))), (77, (.iconst 0, 78, (0, 0, 0, 0, []))), (78, (.istore 13, 80, (13, 0, 0, 0, []))), (80, (.iload 7, 82, (7, 0, 0, 0, [])))]), (130, [(82, (.iload 12, 84, (12, 0, 0, 0, []))), (84, (.invokestatic 149, 87, (113, 2, 0, 1027, []))), (87, (.ifCond .ne 10, 90, (97, 0, 0, 0, []))), (90, (.iload 13, 92, (13, 0, 0, 0, []))), (92, (.iload 11, 94, (11, 0, 0, 0, []))), (94, (.if_icmp .ge 29, 97, (123, 0, 0, 0, []))), (97, (.iload 13, 99, (13, 0, 0, 0, []))), (99, (.iload 7, 101, (7, 0, 0, 0, []))), (101, (.iload 12, 103, (12, 0, 0, 0, []))), (103, (.invokestatic 149, 106, (113, 2, 0, 1027, []))), (106, (.ifCond .eq 7, 109, (113, 0, 0, 0, []))), (109, (.iconst 0, 110, (0, 0, 0, 0, []))), (110, (.goto 4, 113, (114, 0, 0, 0, []))), (113, (.iconst 1, 114, (0, 0, 0, 1, []))), (114, (.iadd, 115, (0, 0, 0, 0, []))), (115, (.istore 13, 117, (13, 0, 0, 0, []))), (117, (.iinc 12 1, 120, (12, 0, 0, 1, []))), (120, (.goto (-40), 123, (80, 0, 0, 0, []))), (123, (.iload 7, 125, (7, 0, 0, 0, []))), (125, (.iconst 1, 126, (0, 0, 0, 1, []))), (126, (.iload 12, 128, (12, 0, 0, 0, []))), (128, (.ishl, 129, (0, 0, 0, 0, []))), (129, (.ior, 130, (0, 0, 0, 0, []))), (130, (.istore 7, 132, (7, 0, 0, 0, [])))]), (173, [(132, (.lload 8, 134, (8, 0, 0, 0, []))), (134, (.aload_n 0, 135, (0, 0, 0, 0, []))), (135, (.getfield 68, 138, (9, 26, 2, 879, []))), (138, (.iconst 5, 139, (0, 0, 0, 5, []))), (139, (.iload 10, 141, (10, 0, 0, 0, []))), (141, (.imul, 142, (0, 0, 0, 0, []))), (142, (.iload 12, 144, (12, 0, 0, 0, []))), (144, (.iadd, 145, (0, 0, 0, 0, []))), (145, (.laload, 146, (0, 0, 0, 0, []))), (146, (.iload 11, 148, (11, 0, 0, 0, []))), (148, (.iconst 2, 149, (0, 0, 0, 2, []))), (149, (.irem, 150, (0, 0, 0, 0, []))), (150, (.ifCond .ne 7, 153, (157, 0, 0, 0, []))), (153, (.lconst 1, 154, (0, 0, 0, 1, []))), (154, (.goto 6, 157, (160, 0, 0, 0, []))), (157, (.ldc2_w 242, 160, (0, 1175, 0, (-1), []))), (160, (.lmul, 161, (0, 0, 0, 0, []))), (161, (.lmul, 162, (0, 0, 0, 0, []))), (162, (.lstore 8, 164, (8, 0, 0, 0, []))), (164, (.iinc 10 1, 167, (10, 0, 0, 1, []))), (167, (.goto (-117), 170, (50, 0, 0, 0, []))), (170, (.lload_n 2, 171, (2, 0, 0, 0, []))), (171, (.lload 8, 173, (8, 0, 0, 0, []))), (173, (.ladd, 174, (0, 0, 0, 0, [])))]), (182, [(174, (.lstore_n 2, 175, (2, 0, 0, 0, []))), (175, (.iinc 5 1, 178, (5, 0, 0, 1, []))), (178, (.goto (-148), 181, (30, 0, 0, 0, []))), (181, (.lload_n 2, 182, (2, 0, 0, 0, []))), (182, (.lreturn, 183, (0, 0, 0, 0, [])))])]
def cd_X9_layCells : bg_K := [(44, [(0, (.iconst 0, 1, (0, 0, 0, 0, []))), (1, (.istore 4, 3, (4, 0, 0, 0, []))), (3, (.iload 4, 5, (4, 0, 0, 0, []))), (5, (.iload_n 2, 6, (2, 0, 0, 0, []))), (6, (.if_icmp .gt 141, 9, (147, 0, 0, 0, []))), (9, (.iconst 0, 10, (0, 0, 0, 0, []))), (10, (.istore 5, 12, (5, 0, 0, 0, []))), (12, (.iload 5, 14, (5, 0, 0, 0, []))), (14, (.iload_n 2, 15, (2, 0, 0, 0, []))), (15, (.if_icmp .gt 126, 18, (141, 0, 0, 0, []))), (18, (.iload 4, 20, (4, 0, 0, 0, []))), (20, (.iload_n 2, 21, (2, 0, 0, 0, []))), (21, (.if_icmp .ne 17, 24, (38, 0, 0, 0, []))), (24, (.iload 5, 26, (5, 0, 0, 0, []))), (26, (.iload_n 2, 27, (2, 0, 0, 0, []))), (27, (.if_icmp .ge 7, 30, (34, 0, 0, 0, []))), (30, (.lconst 1, 31, (0, 0, 0, 1, []))), (31, (.goto 68, 34, (99, 0, 0, 0, []))), (34, (.lconst 0, 35, (0, 0, 0, 0, []))), (35, (.goto 64, 38, (99, 0, 0, 0, []))), (38, (.iload 5, 40, (5, 0, 0, 0, []))), (40, (.iload_n 2, 41, (2, 0, 0, 0, []))), (41, (.if_icmp .ne 9, 44, (50, 0, 0, 0, []))), (44, (.ldc2_w 242, 47, (0, 1175, 0, (-1), [])))]), (87, [(47, (.goto 52, 50, (99, 0, 0, 0, []))), (50, (.iload_n 1, 51, (1, 0, 0, 0, []))), (51, (.ifCond .ne 27, 54, (78, 0, 0, 0, []))), (54, (.aload_n 0, 55, (0, 0, 0, 0, []))), (55, (.aload_n 0, 56, (0, 0, 0, 0, []))), (56, (.getfield 74, 59, (9, 30, 2, 883, []))), (59, (.iload 5, 61, (5, 0, 0, 0, []))), (61, (.iaload, 62, (0, 0, 0, 0, []))), (62, (.aload_n 0, 63, (0, 0, 0, 0, []))), (63, (.getfield 74, 66, (9, 30, 2, 883, []))), (66, (.iconst 4, 67, (0, 0, 0, 4, []))), (67, (.iload 4, 69, (4, 0, 0, 0, []))), (69, (.iadd, 70, (0, 0, 0, 0, []))), (70, (.iaload, 71, (0, 0, 0, 0, []))), (71, (.invokevirtual 244, 74, (167, 2, 9, 1207, []))), (74, (.i2l, 75, (0, 0, 0, 0, []))), (75, (.goto 24, 78, (99, 0, 0, 0, []))), (78, (.aload_n 0, 79, (0, 0, 0, 0, []))), (79, (.aload_n 0, 80, (0, 0, 0, 0, []))), (80, (.getfield 74, 83, (9, 30, 2, 883, []))), (83, (.iload 4, 85, (4, 0, 0, 0, []))), (85, (.iaload, 86, (0, 0, 0, 0, []))), (86, (.aload_n 0, 87, (0, 0, 0, 0, []))), (87, (.getfield 74, 90, (9, 30, 2, 883, [])))]), (129, [(90, (.iconst 4, 91, (0, 0, 0, 4, []))), (91, (.iload 5, 93, (5, 0, 0, 0, []))), (93, (.iadd, 94, (0, 0, 0, 0, []))), (94, (.iaload, 95, (0, 0, 0, 0, []))), (95, (.invokevirtual 244, 98, (167, 2, 9, 1207, []))), (98, (.i2l, 99, (0, 0, 0, 0, []))), (99, (.lstore 6, 101, (6, 0, 0, 0, []))), (101, (.aload_n 0, 102, (0, 0, 0, 0, []))), (102, (.getfield 68, 105, (9, 26, 2, 879, []))), (105, (.iconst 5, 106, (0, 0, 0, 5, []))), (106, (.iload 4, 108, (4, 0, 0, 0, []))), (108, (.imul, 109, (0, 0, 0, 0, []))), (109, (.iload 5, 111, (5, 0, 0, 0, []))), (111, (.iadd, 112, (0, 0, 0, 0, []))), (112, (.iload 5, 114, (5, 0, 0, 0, []))), (114, (.iload_n 3, 115, (3, 0, 0, 0, []))), (115, (.if_icmp .ne 17, 118, (132, 0, 0, 0, []))), (118, (.iload 4, 120, (4, 0, 0, 0, []))), (120, (.iload_n 2, 121, (2, 0, 0, 0, []))), (121, (.if_icmp .ne 7, 124, (128, 0, 0, 0, []))), (124, (.lconst 1, 125, (0, 0, 0, 1, []))), (125, (.goto 9, 128, (134, 0, 0, 0, []))), (128, (.lconst 0, 129, (0, 0, 0, 0, []))), (129, (.goto 5, 132, (134, 0, 0, 0, [])))]), (147, [(132, (.lload 6, 134, (6, 0, 0, 0, []))), (134, (.lastore, 135, (0, 0, 0, 0, []))), (135, (.iinc 5 1, 138, (5, 0, 0, 1, []))), (138, (.goto (-126), 141, (12, 0, 0, 0, []))), (141, (.iinc 4 1, 144, (4, 0, 0, 1, []))), (144, (.goto (-141), 147, (3, 0, 0, 0, []))), (147, (.return_, 148, (0, 0, 0, 0, [])))])]
def cd_X9_layMembers : bg_K := [(41, [(0, (.iconst 0, 1, (0, 0, 0, 0, []))), (1, (.istore_n 3, 2, (3, 0, 0, 0, []))), (2, (.iconst 0, 3, (0, 0, 0, 0, []))), (3, (.istore 4, 5, (4, 0, 0, 0, []))), (5, (.iload 4, 7, (4, 0, 0, 0, []))), (7, (.iconst 4, 8, (0, 0, 0, 4, []))), (8, (.if_icmp .ge 33, 11, (41, 0, 0, 0, []))), (11, (.iload_n 2, 12, (2, 0, 0, 0, []))), (12, (.iload 4, 14, (4, 0, 0, 0, []))), (14, (.invokestatic 149, 17, (113, 2, 0, 1027, []))), (17, (.ifCond .eq 18, 20, (35, 0, 0, 0, []))), (20, (.aload_n 0, 21, (0, 0, 0, 0, []))), (21, (.getfield 74, 24, (9, 30, 2, 883, []))), (24, (.iconst 4, 25, (0, 0, 0, 4, []))), (25, (.iload_n 1, 26, (1, 0, 0, 0, []))), (26, (.imul, 27, (0, 0, 0, 0, []))), (27, (.iload_n 3, 28, (3, 0, 0, 0, []))), (28, (.iadd, 29, (0, 0, 0, 0, []))), (29, (.iload 4, 31, (4, 0, 0, 0, []))), (31, (.iastore, 32, (0, 0, 0, 0, []))), (32, (.iinc 3 1, 35, (3, 0, 0, 1, []))), (35, (.iinc 4 1, 38, (4, 0, 0, 1, []))), (38, (.goto (-33), 41, (5, 0, 0, 0, []))), (41, (.return_, 42, (0, 0, 0, 0, [])))])]
def cd_X9_solve : bg_K := [(36, [(0, (.aload_n 0, 1, (0, 0, 0, 0, []))), (1, (.iconst 0, 2, (0, 0, 0, 0, []))), (2, (.iload_n 1, 3, (1, 0, 0, 0, []))), (3, (.bipush (-4), 5, (0, 0, 0, (-4), []))), (5, (.invokevirtual 247, 8, (170, 3, 9, 1203, []))), (8, (.aload_n 0, 9, (0, 0, 0, 0, []))), (9, (.aload_n 0, 10, (0, 0, 0, 0, []))), (10, (.iload_n 1, 11, (1, 0, 0, 0, []))), (11, (.iconst 1, 12, (0, 0, 0, 1, []))), (12, (.iadd, 13, (0, 0, 0, 0, []))), (13, (.invokevirtual 251, 16, (169, 1, 9, 1211, []))), (16, (.putfield 255, 19, (9, 29, 1, 882, []))), (19, (.aload_n 0, 20, (0, 0, 0, 0, []))), (20, (.getfield 255, 23, (9, 29, 1, 882, []))), (23, (.lconst 0, 24, (0, 0, 0, 0, []))), (24, (.lcmp, 25, (0, 0, 0, 0, []))), (25, (.ifCond .ne 5, 28, (30, 0, 0, 0, []))), (28, (.iconst 0, 29, (0, 0, 0, 0, []))), (29, (.ireturn, 30, (0, 0, 1, 0, []))), (30, (.aload_n 0, 31, (0, 0, 0, 0, []))), (31, (.getfield 255, 34, (9, 29, 1, 882, []))), (34, (.lconst 0, 35, (0, 0, 0, 0, []))), (35, (.lcmp, 36, (0, 0, 0, 0, []))), (36, (.ifCond .ge 9, 39, (45, 0, 0, 0, [])))]), (83, [(39, (.ldc2_w 242, 42, (0, 1175, 0, (-1), []))), (42, (.goto 4, 45, (46, 0, 0, 0, []))), (45, (.lconst 1, 46, (0, 0, 0, 1, []))), (46, (.lstore_n 2, 47, (2, 0, 0, 0, []))), (47, (.iconst 1, 48, (0, 0, 0, 1, []))), (48, (.istore 4, 50, (4, 0, 0, 0, []))), (50, (.iconst 0, 51, (0, 0, 0, 0, []))), (51, (.istore 5, 53, (5, 0, 0, 0, []))), (53, (.iload 5, 55, (5, 0, 0, 0, []))), (55, (.bipush 8, 57, (0, 0, 0, 8, []))), (57, (.if_icmp .ge 17, 60, (74, 0, 0, 0, []))), (60, (.aload_n 0, 61, (0, 0, 0, 0, []))), (61, (.getfield 71, 64, (9, 27, 2, 880, []))), (64, (.iload 5, 66, (5, 0, 0, 0, []))), (66, (.lconst 0, 67, (0, 0, 0, 0, []))), (67, (.lastore, 68, (0, 0, 0, 0, []))), (68, (.iinc 5 1, 71, (5, 0, 0, 1, []))), (71, (.goto (-18), 74, (53, 0, 0, 0, []))), (74, (.iconst 0, 75, (0, 0, 0, 0, []))), (75, (.istore 5, 77, (5, 0, 0, 0, []))), (77, (.iload 5, 79, (5, 0, 0, 0, []))), (79, (.iload_n 1, 80, (1, 0, 0, 0, []))), (80, (.if_icmp .ge 61, 83, (141, 0, 0, 0, []))), (83, (.aload_n 0, 84, (0, 0, 0, 0, [])))]), (123, [(84, (.iconst 0, 85, (0, 0, 0, 0, []))), (85, (.iload_n 1, 86, (1, 0, 0, 0, []))), (86, (.iload 5, 88, (5, 0, 0, 0, []))), (88, (.invokevirtual 247, 91, (170, 3, 9, 1203, []))), (91, (.lload_n 2, 92, (2, 0, 0, 0, []))), (92, (.aload_n 0, 93, (0, 0, 0, 0, []))), (93, (.iload_n 1, 94, (1, 0, 0, 0, []))), (94, (.iconst 1, 95, (0, 0, 0, 1, []))), (95, (.iadd, 96, (0, 0, 0, 0, []))), (96, (.invokevirtual 251, 99, (169, 1, 9, 1211, []))), (99, (.lmul, 100, (0, 0, 0, 0, []))), (100, (.lstore 6, 102, (6, 0, 0, 0, []))), (102, (.aload_n 0, 103, (0, 0, 0, 0, []))), (103, (.getfield 71, 106, (9, 27, 2, 880, []))), (106, (.aload_n 0, 107, (0, 0, 0, 0, []))), (107, (.getfield 74, 110, (9, 30, 2, 883, []))), (110, (.iload 5, 112, (5, 0, 0, 0, []))), (112, (.iaload, 113, (0, 0, 0, 0, []))), (113, (.lload 6, 115, (6, 0, 0, 0, []))), (115, (.lastore, 116, (0, 0, 0, 0, []))), (116, (.iload 4, 118, (4, 0, 0, 0, []))), (118, (.ifCond .eq 14, 121, (132, 0, 0, 0, []))), (121, (.lload 6, 123, (6, 0, 0, 0, []))), (123, (.lconst 0, 124, (0, 0, 0, 0, [])))]), (162, [(124, (.lcmp, 125, (0, 0, 0, 0, []))), (125, (.ifCond .le 7, 128, (132, 0, 0, 0, []))), (128, (.iconst 1, 129, (0, 0, 0, 1, []))), (129, (.goto 4, 132, (133, 0, 0, 0, []))), (132, (.iconst 0, 133, (0, 0, 0, 0, []))), (133, (.istore 4, 135, (4, 0, 0, 0, []))), (135, (.iinc 5 1, 138, (5, 0, 0, 1, []))), (138, (.goto (-61), 141, (77, 0, 0, 0, []))), (141, (.aload_n 0, 142, (0, 0, 0, 0, []))), (142, (.iconst 0, 143, (0, 0, 0, 0, []))), (143, (.iload_n 1, 144, (1, 0, 0, 0, []))), (144, (.iload_n 1, 145, (1, 0, 0, 0, []))), (145, (.invokevirtual 247, 148, (170, 3, 9, 1203, []))), (148, (.aload_n 0, 149, (0, 0, 0, 0, []))), (149, (.lload_n 2, 150, (2, 0, 0, 0, []))), (150, (.aload_n 0, 151, (0, 0, 0, 0, []))), (151, (.iload_n 1, 152, (1, 0, 0, 0, []))), (152, (.iconst 1, 153, (0, 0, 0, 1, []))), (153, (.iadd, 154, (0, 0, 0, 0, []))), (154, (.invokevirtual 251, 157, (169, 1, 9, 1211, []))), (157, (.lmul, 158, (0, 0, 0, 0, []))), (158, (.putfield 259, 161, (9, 28, 1, 881, []))), (161, (.aload_n 0, 162, (0, 0, 0, 0, []))), (162, (.iconst 1, 163, (0, 0, 0, 1, [])))]), (204, [(163, (.iload_n 1, 164, (1, 0, 0, 0, []))), (164, (.bipush (-4), 166, (0, 0, 0, (-4), []))), (166, (.invokevirtual 247, 169, (170, 3, 9, 1203, []))), (169, (.aload_n 0, 170, (0, 0, 0, 0, []))), (170, (.iload_n 1, 171, (1, 0, 0, 0, []))), (171, (.iconst 1, 172, (0, 0, 0, 1, []))), (172, (.iadd, 173, (0, 0, 0, 0, []))), (173, (.invokevirtual 251, 176, (169, 1, 9, 1211, []))), (176, (.lstore 5, 178, (5, 0, 0, 0, []))), (178, (.lload 5, 180, (5, 0, 0, 0, []))), (180, (.lconst 0, 181, (0, 0, 0, 0, []))), (181, (.lcmp, 182, (0, 0, 0, 0, []))), (182, (.ifCond .ge 9, 185, (191, 0, 0, 0, []))), (185, (.ldc2_w 242, 188, (0, 1175, 0, (-1), []))), (188, (.goto 4, 191, (192, 0, 0, 0, []))), (191, (.lconst 1, 192, (0, 0, 0, 1, []))), (192, (.lstore 7, 194, (7, 0, 0, 0, []))), (194, (.iconst 0, 195, (0, 0, 0, 0, []))), (195, (.istore 9, 197, (9, 0, 0, 0, []))), (197, (.iload 9, 199, (9, 0, 0, 0, []))), (199, (.iload_n 1, 200, (1, 0, 0, 0, []))), (200, (.if_icmp .ge 66, 203, (266, 0, 0, 0, []))), (203, (.aload_n 0, 204, (0, 0, 0, 0, []))), (204, (.iconst 1, 205, (0, 0, 0, 1, [])))]), (241, [(205, (.iload_n 1, 206, (1, 0, 0, 0, []))), (206, (.iload 9, 208, (9, 0, 0, 0, []))), (208, (.invokevirtual 247, 211, (170, 3, 9, 1203, []))), (211, (.lload 7, 213, (7, 0, 0, 0, []))), (213, (.aload_n 0, 214, (0, 0, 0, 0, []))), (214, (.iload_n 1, 215, (1, 0, 0, 0, []))), (215, (.iconst 1, 216, (0, 0, 0, 1, []))), (216, (.iadd, 217, (0, 0, 0, 0, []))), (217, (.invokevirtual 251, 220, (169, 1, 9, 1211, []))), (220, (.lmul, 221, (0, 0, 0, 0, []))), (221, (.lstore 10, 223, (10, 0, 0, 0, []))), (223, (.aload_n 0, 224, (0, 0, 0, 0, []))), (224, (.getfield 71, 227, (9, 27, 2, 880, []))), (227, (.iconst 4, 228, (0, 0, 0, 4, []))), (228, (.aload_n 0, 229, (0, 0, 0, 0, []))), (229, (.getfield 74, 232, (9, 30, 2, 883, []))), (232, (.iconst 4, 233, (0, 0, 0, 4, []))), (233, (.iload 9, 235, (9, 0, 0, 0, []))), (235, (.iadd, 236, (0, 0, 0, 0, []))), (236, (.iaload, 237, (0, 0, 0, 0, []))), (237, (.iadd, 238, (0, 0, 0, 0, []))), (238, (.lload 10, 240, (10, 0, 0, 0, []))), (240, (.lastore, 241, (0, 0, 0, 0, []))), (241, (.iload 4, 243, (4, 0, 0, 0, [])))]), (278, [(243, (.ifCond .eq 14, 246, (257, 0, 0, 0, []))), (246, (.lload 10, 248, (10, 0, 0, 0, []))), (248, (.lconst 0, 249, (0, 0, 0, 0, []))), (249, (.lcmp, 250, (0, 0, 0, 0, []))), (250, (.ifCond .le 7, 253, (257, 0, 0, 0, []))), (253, (.iconst 1, 254, (0, 0, 0, 1, []))), (254, (.goto 4, 257, (258, 0, 0, 0, []))), (257, (.iconst 0, 258, (0, 0, 0, 0, []))), (258, (.istore 4, 260, (4, 0, 0, 0, []))), (260, (.iinc 9 1, 263, (9, 0, 0, 1, []))), (263, (.goto (-66), 266, (197, 0, 0, 0, []))), (266, (.aload_n 0, 267, (0, 0, 0, 0, []))), (267, (.dup, 268, (0, 0, 0, 0, []))), (268, (.getfield 255, 271, (9, 29, 1, 882, []))), (271, (.lload_n 2, 272, (2, 0, 0, 0, []))), (272, (.lmul, 273, (0, 0, 0, 0, []))), (273, (.putfield 255, 276, (9, 29, 1, 882, []))), (276, (.iload 4, 278, (4, 0, 0, 0, []))), (278, (.ireturn, 279, (0, 0, 1, 0, [])))])]
def cd_X9_holds : bg_K := [(36, [(0, (.aload_n 0, 1, (0, 0, 0, 0, []))), (1, (.iconst 0, 2, (0, 0, 0, 0, []))), (2, (.invokevirtual 262, 5, (168, 1, 9, 1184, []))), (5, (.istore_n 1, 6, (1, 0, 0, 0, []))), (6, (.aload_n 0, 7, (0, 0, 0, 0, []))), (7, (.iconst 1, 8, (0, 0, 0, 1, []))), (8, (.invokevirtual 262, 11, (168, 1, 9, 1184, []))), (11, (.istore_n 2, 12, (2, 0, 0, 0, []))), (12, (.iconst 1, 13, (0, 0, 0, 1, []))), (13, (.istore_n 3, 14, (3, 0, 0, 0, []))), (14, (.iconst 0, 15, (0, 0, 0, 0, []))), (15, (.istore 4, 17, (4, 0, 0, 0, []))), (17, (.iload 4, 19, (4, 0, 0, 0, []))), (19, (.iconst 4, 20, (0, 0, 0, 4, []))), (20, (.if_icmp .ge 100, 23, (120, 0, 0, 0, []))), (23, (.lconst 0, 24, (0, 0, 0, 0, []))), (24, (.lstore 5, 26, (5, 0, 0, 0, []))), (26, (.iconst 0, 27, (0, 0, 0, 0, []))), (27, (.istore 7, 29, (7, 0, 0, 0, []))), (29, (.iload 7, 31, (7, 0, 0, 0, []))), (31, (.iconst 4, 32, (0, 0, 0, 4, []))), (32, (.if_icmp .ge 53, 35, (85, 0, 0, 0, []))), (35, (.iload_n 2, 36, (2, 0, 0, 0, []))), (36, (.iload 4, 38, (4, 0, 0, 0, [])))]), (85, [(38, (.invokestatic 149, 41, (113, 2, 0, 1027, []))), (41, (.ifCond .eq 44, 44, (85, 0, 0, 0, []))), (44, (.lload 5, 46, (5, 0, 0, 0, []))), (46, (.iload_n 1, 47, (1, 0, 0, 0, []))), (47, (.iload 7, 49, (7, 0, 0, 0, []))), (49, (.invokestatic 149, 52, (113, 2, 0, 1027, []))), (52, (.ifCond .eq 23, 55, (75, 0, 0, 0, []))), (55, (.aload_n 0, 56, (0, 0, 0, 0, []))), (56, (.getfield 71, 59, (9, 27, 2, 880, []))), (59, (.iload 7, 61, (7, 0, 0, 0, []))), (61, (.laload, 62, (0, 0, 0, 0, []))), (62, (.aload_n 0, 63, (0, 0, 0, 0, []))), (63, (.iload 7, 65, (7, 0, 0, 0, []))), (65, (.iload 4, 67, (4, 0, 0, 0, []))), (67, (.invokevirtual 244, 70, (167, 2, 9, 1207, []))), (70, (.i2l, 71, (0, 0, 0, 0, []))), (71, (.lmul, 72, (0, 0, 0, 0, []))), (72, (.goto 4, 75, (76, 0, 0, 0, []))), (75, (.lconst 0, 76, (0, 0, 0, 0, []))), (76, (.ladd, 77, (0, 0, 0, 0, []))), (77, (.lstore 5, 79, (5, 0, 0, 0, []))), (79, (.iinc 7 1, 82, (7, 0, 0, 1, []))), (82, (.goto (-53), 85, (29, 0, 0, 0, []))), (85, (.iload_n 3, 86, (3, 0, 0, 0, [])))]), (132, [(86, (.ifCond .eq 26, 89, (112, 0, 0, 0, []))), (89, (.iload_n 2, 90, (2, 0, 0, 0, []))), (90, (.iload 4, 92, (4, 0, 0, 0, []))), (92, (.invokestatic 149, 95, (113, 2, 0, 1027, []))), (95, (.ifCond .eq 13, 98, (108, 0, 0, 0, []))), (98, (.lload 5, 100, (5, 0, 0, 0, []))), (100, (.aload_n 0, 101, (0, 0, 0, 0, []))), (101, (.getfield 259, 104, (9, 28, 1, 881, []))), (104, (.lcmp, 105, (0, 0, 0, 0, []))), (105, (.ifCond .gt 7, 108, (112, 0, 0, 0, []))), (108, (.iconst 1, 109, (0, 0, 0, 1, []))), (109, (.goto 4, 112, (113, 0, 0, 0, []))), (112, (.iconst 0, 113, (0, 0, 0, 0, []))), (113, (.istore_n 3, 114, (3, 0, 0, 0, []))), (114, (.iinc 4 1, 117, (4, 0, 0, 1, []))), (117, (.goto (-100), 120, (17, 0, 0, 0, []))), (120, (.iconst 0, 121, (0, 0, 0, 0, []))), (121, (.istore 4, 123, (4, 0, 0, 0, []))), (123, (.iload 4, 125, (4, 0, 0, 0, []))), (125, (.iconst 4, 126, (0, 0, 0, 4, []))), (126, (.if_icmp .ge 102, 129, (228, 0, 0, 0, []))), (129, (.lconst 0, 130, (0, 0, 0, 0, []))), (130, (.lstore 5, 132, (5, 0, 0, 0, []))), (132, (.iconst 0, 133, (0, 0, 0, 0, [])))]), (178, [(133, (.istore 7, 135, (7, 0, 0, 0, []))), (135, (.iload 7, 137, (7, 0, 0, 0, []))), (137, (.iconst 4, 138, (0, 0, 0, 4, []))), (138, (.if_icmp .ge 55, 141, (193, 0, 0, 0, []))), (141, (.iload_n 1, 142, (1, 0, 0, 0, []))), (142, (.iload 4, 144, (4, 0, 0, 0, []))), (144, (.invokestatic 149, 147, (113, 2, 0, 1027, []))), (147, (.ifCond .eq 46, 150, (193, 0, 0, 0, []))), (150, (.lload 5, 152, (5, 0, 0, 0, []))), (152, (.iload_n 2, 153, (2, 0, 0, 0, []))), (153, (.iload 7, 155, (7, 0, 0, 0, []))), (155, (.invokestatic 149, 158, (113, 2, 0, 1027, []))), (158, (.ifCond .eq 25, 161, (183, 0, 0, 0, []))), (161, (.aload_n 0, 162, (0, 0, 0, 0, []))), (162, (.getfield 71, 165, (9, 27, 2, 880, []))), (165, (.iconst 4, 166, (0, 0, 0, 4, []))), (166, (.iload 7, 168, (7, 0, 0, 0, []))), (168, (.iadd, 169, (0, 0, 0, 0, []))), (169, (.laload, 170, (0, 0, 0, 0, []))), (170, (.aload_n 0, 171, (0, 0, 0, 0, []))), (171, (.iload 4, 173, (4, 0, 0, 0, []))), (173, (.iload 7, 175, (7, 0, 0, 0, []))), (175, (.invokevirtual 244, 178, (167, 2, 9, 1207, []))), (178, (.i2l, 179, (0, 0, 0, 0, [])))]), (225, [(179, (.lmul, 180, (0, 0, 0, 0, []))), (180, (.goto 4, 183, (184, 0, 0, 0, []))), (183, (.lconst 0, 184, (0, 0, 0, 0, []))), (184, (.ladd, 185, (0, 0, 0, 0, []))), (185, (.lstore 5, 187, (5, 0, 0, 0, []))), (187, (.iinc 7 1, 190, (7, 0, 0, 1, []))), (190, (.goto (-55), 193, (135, 0, 0, 0, []))), (193, (.iload_n 3, 194, (3, 0, 0, 0, []))), (194, (.ifCond .eq 26, 197, (220, 0, 0, 0, []))), (197, (.iload_n 1, 198, (1, 0, 0, 0, []))), (198, (.iload 4, 200, (4, 0, 0, 0, []))), (200, (.invokestatic 149, 203, (113, 2, 0, 1027, []))), (203, (.ifCond .eq 13, 206, (216, 0, 0, 0, []))), (206, (.lload 5, 208, (5, 0, 0, 0, []))), (208, (.aload_n 0, 209, (0, 0, 0, 0, []))), (209, (.getfield 259, 212, (9, 28, 1, 881, []))), (212, (.lcmp, 213, (0, 0, 0, 0, []))), (213, (.ifCond .lt 7, 216, (220, 0, 0, 0, []))), (216, (.iconst 1, 217, (0, 0, 0, 1, []))), (217, (.goto 4, 220, (221, 0, 0, 0, []))), (220, (.iconst 0, 221, (0, 0, 0, 0, []))), (221, (.istore_n 3, 222, (3, 0, 0, 0, []))), (222, (.iinc 4 1, 225, (4, 0, 0, 1, []))), (225, (.goto (-102), 228, (123, 0, 0, 0, [])))]), (229, [(228, (.iload_n 3, 229, (3, 0, 0, 0, []))), (229, (.ireturn, 230, (0, 0, 1, 0, [])))])]
def cd_X9_isSupport : bg_K := [(35, [(0, (.aload_n 0, 1, (0, 0, 0, 0, []))), (1, (.iconst 0, 2, (0, 0, 0, 0, []))), (2, (.iload_n 1, 3, (1, 0, 0, 0, []))), (3, (.invokevirtual 265, 6, (171, 2, 9, 1195, []))), (6, (.aload_n 0, 7, (0, 0, 0, 0, []))), (7, (.iconst 1, 8, (0, 0, 0, 1, []))), (8, (.iload_n 2, 9, (2, 0, 0, 0, []))), (9, (.invokevirtual 265, 12, (171, 2, 9, 1195, []))), (12, (.aload_n 0, 13, (0, 0, 0, 0, []))), (13, (.iload_n 1, 14, (1, 0, 0, 0, []))), (14, (.invokestatic 268, 17, (114, 1, 0, 1188, []))), (17, (.invokevirtual 271, 20, (172, 1, 9, 1199, []))), (20, (.ifCond .eq 14, 23, (34, 0, 0, 0, []))), (23, (.aload_n 0, 24, (0, 0, 0, 0, []))), (24, (.invokevirtual 274, 27, (173, 0, 9, 1215, []))), (27, (.ifCond .eq 7, 30, (34, 0, 0, 0, []))), (30, (.iconst 1, 31, (0, 0, 0, 1, []))), (31, (.goto 4, 34, (35, 0, 0, 0, []))), (34, (.iconst 0, 35, (0, 0, 0, 0, []))), (35, (.ireturn, 36, (0, 0, 1, 0, [])))])]
def cd_X9_play : bg_K := [(38, [(0, (.aload_n 0, 1, (0, 0, 0, 0, []))), (1, (.invokevirtual 217, 4, (154, 0, 9, 1119, []))), (4, (.aload_n 0, 5, (0, 0, 0, 0, []))), (5, (.iconst 0, 6, (0, 0, 0, 0, []))), (6, (.invokevirtual 262, 9, (168, 1, 9, 1184, []))), (9, (.istore_n 1, 10, (1, 0, 0, 0, []))), (10, (.aload_n 0, 11, (0, 0, 0, 0, []))), (11, (.iconst 1, 12, (0, 0, 0, 1, []))), (12, (.invokevirtual 262, 15, (168, 1, 9, 1184, []))), (15, (.istore_n 2, 16, (2, 0, 0, 0, []))), (16, (.iconst 1, 17, (0, 0, 0, 1, []))), (17, (.istore_n 3, 18, (3, 0, 0, 0, []))), (18, (.iload_n 3, 19, (3, 0, 0, 0, []))), (19, (.iconst 4, 20, (0, 0, 0, 4, []))), (20, (.if_icmp .gt 90, 23, (110, 0, 0, 0, []))), (23, (.iconst 1, 24, (0, 0, 0, 1, []))), (24, (.istore 4, 26, (4, 0, 0, 0, []))), (26, (.iload 4, 28, (4, 0, 0, 0, []))), (28, (.bipush 16, 30, (0, 0, 0, 16, []))), (30, (.if_icmp .ge 74, 33, (104, 0, 0, 0, []))), (33, (.iconst 1, 34, (0, 0, 0, 1, []))), (34, (.istore 5, 36, (5, 0, 0, 0, []))), (36, (.iload 5, 38, (5, 0, 0, 0, []))), (38, (.bipush 16, 40, (0, 0, 0, 16, [])))]), (82, [(40, (.if_icmp .ge 58, 43, (98, 0, 0, 0, []))), (43, (.iload 4, 45, (4, 0, 0, 0, []))), (45, (.iload_n 1, 46, (1, 0, 0, 0, []))), (46, (.iconst (-1), 47, (0, 0, 0, (-1), []))), (47, (.ixor, 48, (0, 0, 0, 0, []))), (48, (.iand, 49, (0, 0, 0, 0, []))), (49, (.ifCond .ne 43, 52, (92, 0, 0, 0, []))), (52, (.iload 5, 54, (5, 0, 0, 0, []))), (54, (.iload_n 2, 55, (2, 0, 0, 0, []))), (55, (.iconst (-1), 56, (0, 0, 0, (-1), []))), (56, (.ixor, 57, (0, 0, 0, 0, []))), (57, (.iand, 58, (0, 0, 0, 0, []))), (58, (.ifCond .ne 34, 61, (92, 0, 0, 0, []))), (61, (.iload 4, 63, (4, 0, 0, 0, []))), (63, (.invokestatic 268, 66, (114, 1, 0, 1188, []))), (66, (.iload_n 3, 67, (3, 0, 0, 0, []))), (67, (.if_icmp .ne 25, 70, (92, 0, 0, 0, []))), (70, (.iload 5, 72, (5, 0, 0, 0, []))), (72, (.invokestatic 268, 75, (114, 1, 0, 1188, []))), (75, (.iload_n 3, 76, (3, 0, 0, 0, []))), (76, (.if_icmp .ne 16, 79, (92, 0, 0, 0, []))), (79, (.aload_n 0, 80, (0, 0, 0, 0, []))), (80, (.iload 4, 82, (4, 0, 0, 0, []))), (82, (.iload 5, 84, (5, 0, 0, 0, [])))]), (111, [(84, (.invokevirtual 277, 87, (174, 2, 9, 1191, []))), (87, (.ifCond .eq 5, 90, (92, 0, 0, 0, []))), (90, (.iconst 1, 91, (0, 0, 0, 1, []))), (91, (.ireturn, 92, (0, 0, 1, 0, []))), (92, (.iinc 5 1, 95, (5, 0, 0, 1, []))), (95, (.goto (-59), 98, (36, 0, 0, 0, []))), (98, (.iinc 4 1, 101, (4, 0, 0, 1, []))), (101, (.goto (-75), 104, (26, 0, 0, 0, []))), (104, (.iinc 3 1, 107, (3, 0, 0, 1, []))), (107, (.goto (-89), 110, (18, 0, 0, 0, []))), (110, (.iconst 0, 111, (0, 0, 0, 0, []))), (111, (.ireturn, 112, (0, 0, 1, 0, [])))])]
def cd_X9_common : bg_K := [(33, [(0, (.lload_n 0, 1, (0, 0, 0, 0, []))), (1, (.lstore 4, 3, (4, 0, 0, 0, []))), (3, (.lload_n 2, 4, (2, 0, 0, 0, []))), (4, (.lstore 6, 6, (6, 0, 0, 0, []))), (6, (.lload 6, 8, (6, 0, 0, 0, []))), (8, (.lconst 0, 9, (0, 0, 0, 0, []))), (9, (.lcmp, 10, (0, 0, 0, 0, []))), (10, (.ifCond .eq 21, 13, (31, 0, 0, 0, []))), (13, (.lload 4, 15, (4, 0, 0, 0, []))), (15, (.lload 6, 17, (6, 0, 0, 0, []))), (17, (.lrem, 18, (0, 0, 0, 0, []))), (18, (.lstore 8, 20, (8, 0, 0, 0, []))), (20, (.lload 6, 22, (6, 0, 0, 0, []))), (22, (.lstore 4, 24, (4, 0, 0, 0, []))), (24, (.lload 8, 26, (8, 0, 0, 0, []))), (26, (.lstore 6, 28, (6, 0, 0, 0, []))), (28, (.goto (-22), 31, (6, 0, 0, 0, []))), (31, (.lload 4, 33, (4, 0, 0, 0, []))), (33, (.lreturn, 34, (0, 0, 0, 0, [])))])]
def cd_X9_lowest : bg_K := [(23, [(0, (.lload_n 2, 1, (2, 0, 0, 0, []))), (1, (.lload_n 0, 2, (0, 0, 0, 0, []))), (2, (.invokestatic 280, 5, (176, 2, 0, 1222, []))), (5, (.lstore 5, 7, (5, 0, 0, 0, []))), (7, (.iload 4, 9, (4, 0, 0, 0, []))), (9, (.ifCond .ne 10, 12, (19, 0, 0, 0, []))), (12, (.lload_n 0, 13, (0, 0, 0, 0, []))), (13, (.lload 5, 15, (5, 0, 0, 0, []))), (15, (.ldiv, 16, (0, 0, 0, 0, []))), (16, (.goto 7, 19, (23, 0, 0, 0, []))), (19, (.lload_n 2, 20, (2, 0, 0, 0, []))), (20, (.lload 5, 22, (5, 0, 0, 0, []))), (22, (.ldiv, 23, (0, 0, 0, 0, []))), (23, (.lreturn, 24, (0, 0, 0, 0, [])))])]
def cd_X9_value : bg_K := [(39, [(0, (.iload_n 1, 1, (1, 0, 0, 0, []))), (1, (.i2l, 2, (0, 0, 0, 0, []))), (2, (.lconst 0, 3, (0, 0, 0, 0, []))), (3, (.lconst 1, 4, (0, 0, 0, 1, []))), (4, (.invokestatic 92, 7, (112, 3, 0, 958, []))), (7, (.ifCond .ne 7, 10, (14, 0, 0, 0, []))), (10, (.ldc2_w 242, 13, (0, 1175, 0, (-1), []))), (13, (.lreturn, 14, (0, 0, 0, 0, []))), (14, (.aload_n 0, 15, (0, 0, 0, 0, []))), (15, (.invokevirtual 284, 18, (175, 0, 9, 1180, []))), (18, (.ifCond .eq 18, 21, (36, 0, 0, 0, []))), (21, (.aload_n 0, 22, (0, 0, 0, 0, []))), (22, (.getfield 259, 25, (9, 28, 1, 881, []))), (25, (.aload_n 0, 26, (0, 0, 0, 0, []))), (26, (.getfield 255, 29, (9, 29, 1, 882, []))), (29, (.iload_n 1, 30, (1, 0, 0, 0, []))), (30, (.invokestatic 287, 33, (177, 3, 0, 1219, []))), (33, (.goto 6, 36, (39, 0, 0, 0, []))), (36, (.ldc2_w 291, 39, (0, 1225, 0, (-2), []))), (39, (.lreturn, 40, (0, 0, 0, 0, [])))])]
def cd_X9_chance : bg_K := [(41, [(0, (.iload_n 1, 1, (1, 0, 0, 0, []))), (1, (.i2l, 2, (0, 0, 0, 0, []))), (2, (.lconst 0, 3, (0, 0, 0, 0, []))), (3, (.lconst 1, 4, (0, 0, 0, 1, []))), (4, (.invokestatic 92, 7, (112, 3, 0, 958, []))), (7, (.ifCond .eq 37, 10, (44, 0, 0, 0, []))), (10, (.iload_n 2, 11, (2, 0, 0, 0, []))), (11, (.i2l, 12, (0, 0, 0, 0, []))), (12, (.lconst 0, 13, (0, 0, 0, 0, []))), (13, (.ldc2_w 113, 16, (0, 992, 0, 3, []))), (16, (.invokestatic 92, 19, (112, 3, 0, 958, []))), (19, (.ifCond .eq 25, 22, (44, 0, 0, 0, []))), (22, (.iload_n 3, 23, (3, 0, 0, 0, []))), (23, (.i2l, 24, (0, 0, 0, 0, []))), (24, (.lconst 0, 25, (0, 0, 0, 0, []))), (25, (.lconst 1, 26, (0, 0, 0, 1, []))), (26, (.invokestatic 92, 29, (112, 3, 0, 958, []))), (29, (.ifCond .eq 15, 32, (44, 0, 0, 0, []))), (32, (.aload_n 0, 33, (0, 0, 0, 0, []))), (33, (.iload_n 1, 34, (1, 0, 0, 0, []))), (34, (.invokevirtual 262, 37, (168, 1, 9, 1184, []))), (37, (.iload_n 2, 38, (2, 0, 0, 0, []))), (38, (.invokestatic 149, 41, (113, 2, 0, 1027, []))), (41, (.ifCond .ne 7, 44, (48, 0, 0, 0, [])))]), (79, [(44, (.ldc2_w 242, 47, (0, 1175, 0, (-1), []))), (47, (.lreturn, 48, (0, 0, 0, 0, []))), (48, (.aload_n 0, 49, (0, 0, 0, 0, []))), (49, (.invokevirtual 284, 52, (175, 0, 9, 1180, []))), (52, (.ifCond .eq 24, 55, (76, 0, 0, 0, []))), (55, (.aload_n 0, 56, (0, 0, 0, 0, []))), (56, (.getfield 71, 59, (9, 27, 2, 880, []))), (59, (.iconst 4, 60, (0, 0, 0, 4, []))), (60, (.iload_n 1, 61, (1, 0, 0, 0, []))), (61, (.imul, 62, (0, 0, 0, 0, []))), (62, (.iload_n 2, 63, (2, 0, 0, 0, []))), (63, (.iadd, 64, (0, 0, 0, 0, []))), (64, (.laload, 65, (0, 0, 0, 0, []))), (65, (.aload_n 0, 66, (0, 0, 0, 0, []))), (66, (.getfield 255, 69, (9, 29, 1, 882, []))), (69, (.iload_n 3, 70, (3, 0, 0, 0, []))), (70, (.invokestatic 287, 73, (177, 3, 0, 1219, []))), (73, (.goto 6, 76, (79, 0, 0, 0, []))), (76, (.ldc2_w 291, 79, (0, 1225, 0, (-2), []))), (79, (.lreturn, 80, (0, 0, 0, 0, [])))])]
def cd_X9_tenths : bg_K := [(39, [(0, (.iload_n 1, 1, (1, 0, 0, 0, []))), (1, (.i2l, 2, (0, 0, 0, 0, []))), (2, (.lconst 0, 3, (0, 0, 0, 0, []))), (3, (.ldc2_w 113, 6, (0, 992, 0, 3, []))), (6, (.invokestatic 92, 9, (112, 3, 0, 958, []))), (9, (.ifCond .eq 15, 12, (24, 0, 0, 0, []))), (12, (.iload_n 2, 13, (2, 0, 0, 0, []))), (13, (.i2l, 14, (0, 0, 0, 0, []))), (14, (.lconst 0, 15, (0, 0, 0, 0, []))), (15, (.ldc2_w 293, 18, (0, 1234, 0, 10, []))), (18, (.invokestatic 92, 21, (112, 3, 0, 958, []))), (21, (.ifCond .ne 5, 24, (26, 0, 0, 0, []))), (24, (.iconst (-1), 25, (0, 0, 0, (-1), []))), (25, (.ireturn, 26, (0, 0, 0, 0, []))), (26, (.aload_n 0, 27, (0, 0, 0, 0, []))), (27, (.getfield 37, 30, (9, 11, 2, 864, []))), (30, (.iload_n 1, 31, (1, 0, 0, 0, []))), (31, (.iaload, 32, (0, 0, 0, 0, []))), (32, (.istore_n 3, 33, (3, 0, 0, 0, []))), (33, (.aload_n 0, 34, (0, 0, 0, 0, []))), (34, (.getfield 37, 37, (9, 11, 2, 864, []))), (37, (.iload_n 1, 38, (1, 0, 0, 0, []))), (38, (.iload_n 2, 39, (2, 0, 0, 0, []))), (39, (.iastore, 40, (0, 0, 0, 0, [])))]), (41, [(40, (.iload_n 3, 41, (3, 0, 0, 0, []))), (41, (.ireturn, 42, (0, 0, 0, 0, [])))])]
def cd_X9_told : bg_K := [(33, [(0, (.iconst 0, 1, (0, 0, 0, 0, []))), (1, (.istore_n 1, 2, (1, 0, 0, 0, []))), (2, (.aload_n 0, 3, (0, 0, 0, 0, []))), (3, (.iconst 1, 4, (0, 0, 0, 1, []))), (4, (.invokevirtual 262, 7, (168, 1, 9, 1184, []))), (7, (.ifCond .eq 7, 10, (14, 0, 0, 0, []))), (10, (.iconst 1, 11, (0, 0, 0, 1, []))), (11, (.goto 4, 14, (15, 0, 0, 0, []))), (14, (.iconst 0, 15, (0, 0, 0, 0, []))), (15, (.istore_n 2, 16, (2, 0, 0, 0, []))), (16, (.iconst 0, 17, (0, 0, 0, 0, []))), (17, (.istore_n 3, 18, (3, 0, 0, 0, []))), (18, (.iload_n 3, 19, (3, 0, 0, 0, []))), (19, (.iconst 4, 20, (0, 0, 0, 4, []))), (20, (.if_icmp .ge 46, 23, (66, 0, 0, 0, []))), (23, (.iload_n 1, 24, (1, 0, 0, 0, []))), (24, (.aload_n 0, 25, (0, 0, 0, 0, []))), (25, (.getfield 37, 28, (9, 11, 2, 864, []))), (28, (.iload_n 3, 29, (3, 0, 0, 0, []))), (29, (.iaload, 30, (0, 0, 0, 0, []))), (30, (.iadd, 31, (0, 0, 0, 0, []))), (31, (.istore_n 1, 32, (1, 0, 0, 0, []))), (32, (.iload_n 2, 33, (2, 0, 0, 0, []))), (33, (.ifCond .eq 25, 36, (58, 0, 0, 0, [])))]), (79, [(36, (.aload_n 0, 37, (0, 0, 0, 0, []))), (37, (.getfield 37, 40, (9, 11, 2, 864, []))), (40, (.iload_n 3, 41, (3, 0, 0, 0, []))), (41, (.iaload, 42, (0, 0, 0, 0, []))), (42, (.ifCond .eq 12, 45, (54, 0, 0, 0, []))), (45, (.aload_n 0, 46, (0, 0, 0, 0, []))), (46, (.getfield 28, 49, (9, 7, 2, 860, []))), (49, (.iload_n 3, 50, (3, 0, 0, 0, []))), (50, (.iaload, 51, (0, 0, 0, 0, []))), (51, (.ifCond .lt 7, 54, (58, 0, 0, 0, []))), (54, (.iconst 1, 55, (0, 0, 0, 1, []))), (55, (.goto 4, 58, (59, 0, 0, 0, []))), (58, (.iconst 0, 59, (0, 0, 0, 0, []))), (59, (.istore_n 2, 60, (2, 0, 0, 0, []))), (60, (.iinc 3 1, 63, (3, 0, 0, 1, []))), (63, (.goto (-45), 66, (18, 0, 0, 0, []))), (66, (.iload_n 2, 67, (2, 0, 0, 0, []))), (67, (.ifCond .eq 9, 70, (76, 0, 0, 0, []))), (70, (.iload_n 1, 71, (1, 0, 0, 0, []))), (71, (.bipush 10, 73, (0, 0, 0, 10, []))), (73, (.if_icmp .eq 6, 76, (79, 0, 0, 0, []))), (76, (.bipush (-2), 78, (0, 0, 0, (-2), []))), (78, (.ireturn, 79, (0, 0, 0, 0, []))), (79, (.aload_n 0, 80, (0, 0, 0, 0, [])))]), (121, [(80, (.invokevirtual 217, 83, (154, 0, 9, 1119, []))), (83, (.iconst 0, 84, (0, 0, 0, 0, []))), (84, (.istore_n 3, 85, (3, 0, 0, 0, []))), (85, (.iconst 0, 86, (0, 0, 0, 0, []))), (86, (.istore 4, 88, (4, 0, 0, 0, []))), (88, (.iconst 0, 89, (0, 0, 0, 0, []))), (89, (.istore 5, 91, (5, 0, 0, 0, []))), (91, (.iload 5, 93, (5, 0, 0, 0, []))), (93, (.iconst 4, 94, (0, 0, 0, 4, []))), (94, (.if_icmp .ge 88, 97, (182, 0, 0, 0, []))), (97, (.iconst 0, 98, (0, 0, 0, 0, []))), (98, (.istore 6, 100, (6, 0, 0, 0, []))), (100, (.iconst 0, 101, (0, 0, 0, 0, []))), (101, (.istore 7, 103, (7, 0, 0, 0, []))), (103, (.iload 7, 105, (7, 0, 0, 0, []))), (105, (.iconst 4, 106, (0, 0, 0, 4, []))), (106, (.if_icmp .ge 54, 109, (160, 0, 0, 0, []))), (109, (.aload_n 0, 110, (0, 0, 0, 0, []))), (110, (.getfield 31, 113, (9, 8, 2, 861, []))), (113, (.iload 5, 115, (5, 0, 0, 0, []))), (115, (.iaload, 116, (0, 0, 0, 0, []))), (116, (.ifCond .lt 44, 119, (160, 0, 0, 0, []))), (119, (.iload 6, 121, (6, 0, 0, 0, []))), (121, (.aload_n 0, 122, (0, 0, 0, 0, [])))]), (169, [(122, (.getfield 37, 125, (9, 11, 2, 864, []))), (125, (.iload 7, 127, (7, 0, 0, 0, []))), (127, (.iaload, 128, (0, 0, 0, 0, []))), (128, (.ifCond .le 22, 131, (150, 0, 0, 0, []))), (131, (.aload_n 0, 132, (0, 0, 0, 0, []))), (132, (.getfield 37, 135, (9, 11, 2, 864, []))), (135, (.iload 7, 137, (7, 0, 0, 0, []))), (137, (.iaload, 138, (0, 0, 0, 0, []))), (138, (.aload_n 0, 139, (0, 0, 0, 0, []))), (139, (.iload 7, 141, (7, 0, 0, 0, []))), (141, (.iload 5, 143, (5, 0, 0, 0, []))), (143, (.invokevirtual 244, 146, (167, 2, 9, 1207, []))), (146, (.imul, 147, (0, 0, 0, 0, []))), (147, (.goto 4, 150, (151, 0, 0, 0, []))), (150, (.iconst 0, 151, (0, 0, 0, 0, []))), (151, (.iadd, 152, (0, 0, 0, 0, []))), (152, (.istore 6, 154, (6, 0, 0, 0, []))), (154, (.iinc 7 1, 157, (7, 0, 0, 1, []))), (157, (.goto (-54), 160, (103, 0, 0, 0, []))), (160, (.iload 6, 162, (6, 0, 0, 0, []))), (162, (.iload 4, 164, (4, 0, 0, 0, []))), (164, (.if_icmp .le 8, 167, (172, 0, 0, 0, []))), (167, (.iload 6, 169, (6, 0, 0, 0, []))), (169, (.goto 5, 172, (174, 0, 0, 0, [])))]), (217, [(172, (.iload 4, 174, (4, 0, 0, 0, []))), (174, (.istore 4, 176, (4, 0, 0, 0, []))), (176, (.iinc 5 1, 179, (5, 0, 0, 1, []))), (179, (.goto (-88), 182, (91, 0, 0, 0, []))), (182, (.iconst 0, 183, (0, 0, 0, 0, []))), (183, (.istore 5, 185, (5, 0, 0, 0, []))), (185, (.iload 5, 187, (5, 0, 0, 0, []))), (187, (.iconst 4, 188, (0, 0, 0, 4, []))), (188, (.if_icmp .ge 90, 191, (278, 0, 0, 0, []))), (191, (.iconst 0, 192, (0, 0, 0, 0, []))), (192, (.istore 6, 194, (6, 0, 0, 0, []))), (194, (.iconst 0, 195, (0, 0, 0, 0, []))), (195, (.istore 7, 197, (7, 0, 0, 0, []))), (197, (.iload 7, 199, (7, 0, 0, 0, []))), (199, (.iconst 4, 200, (0, 0, 0, 4, []))), (200, (.if_icmp .ge 59, 203, (259, 0, 0, 0, []))), (203, (.aload_n 0, 204, (0, 0, 0, 0, []))), (204, (.getfield 37, 207, (9, 11, 2, 864, []))), (207, (.iload 5, 209, (5, 0, 0, 0, []))), (209, (.iaload, 210, (0, 0, 0, 0, []))), (210, (.ifCond .le 49, 213, (259, 0, 0, 0, []))), (213, (.aload_n 0, 214, (0, 0, 0, 0, []))), (214, (.getfield 31, 217, (9, 8, 2, 861, []))), (217, (.iload 7, 219, (7, 0, 0, 0, [])))]), (267, [(219, (.iaload, 220, (0, 0, 0, 0, []))), (220, (.ifCond .lt 14, 223, (234, 0, 0, 0, []))), (223, (.aload_n 0, 224, (0, 0, 0, 0, []))), (224, (.iload 5, 226, (5, 0, 0, 0, []))), (226, (.iload 7, 228, (7, 0, 0, 0, []))), (228, (.invokevirtual 244, 231, (167, 2, 9, 1207, []))), (231, (.goto 4, 234, (235, 0, 0, 0, []))), (234, (.iconst 0, 235, (0, 0, 0, 0, []))), (235, (.istore 8, 237, (8, 0, 0, 0, []))), (237, (.iload 8, 239, (8, 0, 0, 0, []))), (239, (.iload 6, 241, (6, 0, 0, 0, []))), (241, (.if_icmp .le 8, 244, (249, 0, 0, 0, []))), (244, (.iload 8, 246, (8, 0, 0, 0, []))), (246, (.goto 5, 249, (251, 0, 0, 0, []))), (249, (.iload 6, 251, (6, 0, 0, 0, []))), (251, (.istore 6, 253, (6, 0, 0, 0, []))), (253, (.iinc 7 1, 256, (7, 0, 0, 1, []))), (256, (.goto (-59), 259, (197, 0, 0, 0, []))), (259, (.iload_n 3, 260, (3, 0, 0, 0, []))), (260, (.aload_n 0, 261, (0, 0, 0, 0, []))), (261, (.getfield 37, 264, (9, 11, 2, 864, []))), (264, (.iload 5, 266, (5, 0, 0, 0, []))), (266, (.iaload, 267, (0, 0, 0, 0, []))), (267, (.iload 6, 269, (6, 0, 0, 0, [])))]), (282, [(269, (.imul, 270, (0, 0, 0, 0, []))), (270, (.iadd, 271, (0, 0, 0, 0, []))), (271, (.istore_n 3, 272, (3, 0, 0, 0, []))), (272, (.iinc 5 1, 275, (5, 0, 0, 1, []))), (275, (.goto (-90), 278, (185, 0, 0, 0, []))), (278, (.iload_n 3, 279, (3, 0, 0, 0, []))), (279, (.iload 4, 281, (4, 0, 0, 0, []))), (281, (.isub, 282, (0, 0, 0, 0, []))), (282, (.ireturn, 283, (0, 0, 0, 0, [])))])]
def cd_X9_nights : bg_K := [(40, [(0, (.iload_n 1, 1, (1, 0, 0, 0, []))), (1, (.i2l, 2, (0, 0, 0, 0, []))), (2, (.lconst 1, 3, (0, 0, 0, 1, []))), (3, (.ldc2_w 90, 6, (0, 957, 0, 8, []))), (6, (.invokestatic 92, 9, (112, 3, 0, 958, []))), (9, (.ifCond .eq 15, 12, (24, 0, 0, 0, []))), (12, (.iload_n 2, 13, (2, 0, 0, 0, []))), (13, (.i2l, 14, (0, 0, 0, 0, []))), (14, (.lconst 0, 15, (0, 0, 0, 0, []))), (15, (.ldc2_w 295, 18, (0, 1243, 0, 15, []))), (18, (.invokestatic 92, 21, (112, 3, 0, 958, []))), (21, (.ifCond .ne 5, 24, (26, 0, 0, 0, []))), (24, (.iconst (-1), 25, (0, 0, 0, (-1), []))), (25, (.ireturn, 26, (0, 0, 0, 0, []))), (26, (.aload_n 0, 27, (0, 0, 0, 0, []))), (27, (.iconst 0, 28, (0, 0, 0, 0, []))), (28, (.invokevirtual 262, 31, (168, 1, 9, 1184, []))), (31, (.istore_n 3, 32, (3, 0, 0, 0, []))), (32, (.iload_n 3, 33, (3, 0, 0, 0, []))), (33, (.ifCond .ne 6, 36, (39, 0, 0, 0, []))), (36, (.bipush (-2), 38, (0, 0, 0, (-2), []))), (38, (.ireturn, 39, (0, 0, 0, 0, []))), (39, (.iconst 0, 40, (0, 0, 0, 0, []))), (40, (.istore 4, 42, (4, 0, 0, 0, [])))]), (90, [(42, (.iload 4, 44, (4, 0, 0, 0, []))), (44, (.iconst 4, 45, (0, 0, 0, 4, []))), (45, (.if_icmp .ge 42, 48, (87, 0, 0, 0, []))), (48, (.aload_n 0, 49, (0, 0, 0, 0, []))), (49, (.getfield 77, 52, (9, 31, 2, 884, []))), (52, (.iload 4, 54, (4, 0, 0, 0, []))), (54, (.iload_n 3, 55, (3, 0, 0, 0, []))), (55, (.iload 4, 57, (4, 0, 0, 0, []))), (57, (.invokestatic 149, 60, (113, 2, 0, 1027, []))), (60, (.ifCond .eq 17, 63, (77, 0, 0, 0, []))), (63, (.aload_n 0, 64, (0, 0, 0, 0, []))), (64, (.aload_n 0, 65, (0, 0, 0, 0, []))), (65, (.getfield 28, 68, (9, 7, 2, 860, []))), (68, (.iload 4, 70, (4, 0, 0, 0, []))), (70, (.iaload, 71, (0, 0, 0, 0, []))), (71, (.invokevirtual 195, 74, (140, 1, 9, 1090, []))), (74, (.goto 6, 77, (80, 0, 0, 0, []))), (77, (.ldc_w 297, 80, (0, 1244, 0, 1000000, []))), (80, (.iastore, 81, (0, 0, 0, 0, []))), (81, (.iinc 4 1, 84, (4, 0, 0, 1, []))), (84, (.goto (-42), 87, (42, 0, 0, 0, []))), (87, (.iconst 1, 88, (0, 0, 0, 1, []))), (88, (.istore 4, 90, (4, 0, 0, 0, []))), (90, (.iload 4, 92, (4, 0, 0, 0, [])))]), (136, [(92, (.iload_n 1, 93, (1, 0, 0, 0, []))), (93, (.if_icmp .ge 203, 96, (296, 0, 0, 0, []))), (96, (.iconst 0, 97, (0, 0, 0, 0, []))), (97, (.istore 5, 99, (5, 0, 0, 0, []))), (99, (.iload 5, 101, (5, 0, 0, 0, []))), (101, (.iconst 4, 102, (0, 0, 0, 4, []))), (102, (.if_icmp .ge 159, 105, (261, 0, 0, 0, []))), (105, (.aload_n 0, 106, (0, 0, 0, 0, []))), (106, (.getfield 80, 109, (9, 32, 2, 885, []))), (109, (.iload 5, 111, (5, 0, 0, 0, []))), (111, (.ldc_w 297, 114, (0, 1244, 0, 1000000, []))), (114, (.iastore, 115, (0, 0, 0, 0, []))), (115, (.iconst 0, 116, (0, 0, 0, 0, []))), (116, (.istore 6, 118, (6, 0, 0, 0, []))), (118, (.iload 6, 120, (6, 0, 0, 0, []))), (120, (.iconst 4, 121, (0, 0, 0, 4, []))), (121, (.if_icmp .ge 134, 124, (255, 0, 0, 0, []))), (124, (.iload_n 3, 125, (3, 0, 0, 0, []))), (125, (.iload 5, 127, (5, 0, 0, 0, []))), (127, (.invokestatic 149, 130, (113, 2, 0, 1027, []))), (130, (.ifCond .eq 125, 133, (255, 0, 0, 0, []))), (133, (.iload_n 3, 134, (3, 0, 0, 0, []))), (134, (.iload 6, 136, (6, 0, 0, 0, []))), (136, (.invokestatic 149, 139, (113, 2, 0, 1027, [])))]), (184, [(139, (.ifCond .eq 44, 142, (183, 0, 0, 0, []))), (142, (.iload 6, 144, (6, 0, 0, 0, []))), (144, (.iload 5, 146, (5, 0, 0, 0, []))), (146, (.if_icmp .ne 11, 149, (157, 0, 0, 0, []))), (149, (.iload_n 3, 150, (3, 0, 0, 0, []))), (150, (.invokestatic 268, 153, (114, 1, 0, 1188, []))), (153, (.iconst 1, 154, (0, 0, 0, 1, []))), (154, (.if_icmp .ne 29, 157, (183, 0, 0, 0, []))), (157, (.aload_n 0, 158, (0, 0, 0, 0, []))), (158, (.getfield 28, 161, (9, 7, 2, 860, []))), (161, (.iload 5, 163, (5, 0, 0, 0, []))), (163, (.iaload, 164, (0, 0, 0, 0, []))), (164, (.aload_n 0, 165, (0, 0, 0, 0, []))), (165, (.getfield 28, 168, (9, 7, 2, 860, []))), (168, (.iload 6, 170, (6, 0, 0, 0, []))), (170, (.iaload, 171, (0, 0, 0, 0, []))), (171, (.ixor, 172, (0, 0, 0, 0, []))), (172, (.invokestatic 268, 175, (114, 1, 0, 1188, []))), (175, (.iload_n 2, 176, (2, 0, 0, 0, []))), (176, (.if_icmp .gt 7, 179, (183, 0, 0, 0, []))), (179, (.iconst 1, 180, (0, 0, 0, 1, []))), (180, (.goto 4, 183, (184, 0, 0, 0, []))), (183, (.iconst 0, 184, (0, 0, 0, 0, []))), (184, (.istore 7, 186, (7, 0, 0, 0, [])))]), (232, [(186, (.iload 7, 188, (7, 0, 0, 0, []))), (188, (.ifCond .eq 25, 191, (213, 0, 0, 0, []))), (191, (.aload_n 0, 192, (0, 0, 0, 0, []))), (192, (.getfield 77, 195, (9, 31, 2, 884, []))), (195, (.iload 6, 197, (6, 0, 0, 0, []))), (197, (.iaload, 198, (0, 0, 0, 0, []))), (198, (.aload_n 0, 199, (0, 0, 0, 0, []))), (199, (.aload_n 0, 200, (0, 0, 0, 0, []))), (200, (.getfield 28, 203, (9, 7, 2, 860, []))), (203, (.iload 5, 205, (5, 0, 0, 0, []))), (205, (.iaload, 206, (0, 0, 0, 0, []))), (206, (.invokevirtual 195, 209, (140, 1, 9, 1090, []))), (209, (.iadd, 210, (0, 0, 0, 0, []))), (210, (.goto 6, 213, (216, 0, 0, 0, []))), (213, (.ldc_w 297, 216, (0, 1244, 0, 1000000, []))), (216, (.istore 8, 218, (8, 0, 0, 0, []))), (218, (.aload_n 0, 219, (0, 0, 0, 0, []))), (219, (.getfield 80, 222, (9, 32, 2, 885, []))), (222, (.iload 5, 224, (5, 0, 0, 0, []))), (224, (.iload 8, 226, (8, 0, 0, 0, []))), (226, (.aload_n 0, 227, (0, 0, 0, 0, []))), (227, (.getfield 80, 230, (9, 32, 2, 885, []))), (230, (.iload 5, 232, (5, 0, 0, 0, []))), (232, (.iaload, 233, (0, 0, 0, 0, [])))]), (282, [(233, (.if_icmp .ge 8, 236, (241, 0, 0, 0, []))), (236, (.iload 8, 238, (8, 0, 0, 0, []))), (238, (.goto 10, 241, (248, 0, 0, 0, []))), (241, (.aload_n 0, 242, (0, 0, 0, 0, []))), (242, (.getfield 80, 245, (9, 32, 2, 885, []))), (245, (.iload 5, 247, (5, 0, 0, 0, []))), (247, (.iaload, 248, (0, 0, 0, 0, []))), (248, (.iastore, 249, (0, 0, 0, 0, []))), (249, (.iinc 6 1, 252, (6, 0, 0, 1, []))), (252, (.goto (-134), 255, (118, 0, 0, 0, []))), (255, (.iinc 5 1, 258, (5, 0, 0, 1, []))), (258, (.goto (-159), 261, (99, 0, 0, 0, []))), (261, (.iconst 0, 262, (0, 0, 0, 0, []))), (262, (.istore 5, 264, (5, 0, 0, 0, []))), (264, (.iload 5, 266, (5, 0, 0, 0, []))), (266, (.iconst 4, 267, (0, 0, 0, 4, []))), (267, (.if_icmp .ge 23, 270, (290, 0, 0, 0, []))), (270, (.aload_n 0, 271, (0, 0, 0, 0, []))), (271, (.getfield 77, 274, (9, 31, 2, 884, []))), (274, (.iload 5, 276, (5, 0, 0, 0, []))), (276, (.aload_n 0, 277, (0, 0, 0, 0, []))), (277, (.getfield 80, 280, (9, 32, 2, 885, []))), (280, (.iload 5, 282, (5, 0, 0, 0, []))), (282, (.iaload, 283, (0, 0, 0, 0, [])))]), (332, [(283, (.iastore, 284, (0, 0, 0, 0, []))), (284, (.iinc 5 1, 287, (5, 0, 0, 1, []))), (287, (.goto (-23), 290, (264, 0, 0, 0, []))), (290, (.iinc 4 1, 293, (4, 0, 0, 1, []))), (293, (.goto (-203), 296, (90, 0, 0, 0, []))), (296, (.ldc_w 297, 299, (0, 1244, 0, 1000000, []))), (299, (.istore 4, 301, (4, 0, 0, 0, []))), (301, (.iconst 0, 302, (0, 0, 0, 0, []))), (302, (.istore 5, 304, (5, 0, 0, 0, []))), (304, (.iload 5, 306, (5, 0, 0, 0, []))), (306, (.iconst 4, 307, (0, 0, 0, 4, []))), (307, (.if_icmp .ge 35, 310, (342, 0, 0, 0, []))), (310, (.aload_n 0, 311, (0, 0, 0, 0, []))), (311, (.getfield 77, 314, (9, 31, 2, 884, []))), (314, (.iload 5, 316, (5, 0, 0, 0, []))), (316, (.iaload, 317, (0, 0, 0, 0, []))), (317, (.iload 4, 319, (4, 0, 0, 0, []))), (319, (.if_icmp .ge 13, 322, (332, 0, 0, 0, []))), (322, (.aload_n 0, 323, (0, 0, 0, 0, []))), (323, (.getfield 77, 326, (9, 31, 2, 884, []))), (326, (.iload 5, 328, (5, 0, 0, 0, []))), (328, (.iaload, 329, (0, 0, 0, 0, []))), (329, (.goto 5, 332, (334, 0, 0, 0, []))), (332, (.iload 4, 334, (4, 0, 0, 0, [])))]), (357, [(334, (.istore 4, 336, (4, 0, 0, 0, []))), (336, (.iinc 5 1, 339, (5, 0, 0, 1, []))), (339, (.goto (-35), 342, (304, 0, 0, 0, []))), (342, (.iload 4, 344, (4, 0, 0, 0, []))), (344, (.ldc_w 297, 347, (0, 1244, 0, 1000000, []))), (347, (.if_icmp .ge 8, 350, (355, 0, 0, 0, []))), (350, (.iload 4, 352, (4, 0, 0, 0, []))), (352, (.goto 5, 355, (357, 0, 0, 0, []))), (355, (.bipush (-4), 357, (0, 0, 0, (-4), []))), (357, (.ireturn, 358, (0, 0, 0, 0, [])))])]
def cd_X9_copy : bg_K := [(31, [(0, (.aload_n 0, 1, (0, 0, 0, 0, []))), (1, (.iload_n 1, 2, (1, 0, 0, 0, []))), (2, (.iload_n 2, 3, (2, 0, 0, 0, []))), (3, (.invokevirtual 140, 6, (126, 2, 9, 1001, []))), (6, (.iconst 0, 7, (0, 0, 0, 0, []))), (7, (.istore_n 3, 8, (3, 0, 0, 0, []))), (8, (.iload_n 3, 9, (3, 0, 0, 0, []))), (9, (.iconst 4, 10, (0, 0, 0, 4, []))), (10, (.if_icmp .ge 49, 13, (59, 0, 0, 0, []))), (13, (.aload_n 0, 14, (0, 0, 0, 0, []))), (14, (.getfield 28, 17, (9, 7, 2, 860, []))), (17, (.iconst 4, 18, (0, 0, 0, 4, []))), (18, (.iload_n 2, 19, (2, 0, 0, 0, []))), (19, (.imul, 20, (0, 0, 0, 0, []))), (20, (.iload_n 3, 21, (3, 0, 0, 0, []))), (21, (.iadd, 22, (0, 0, 0, 0, []))), (22, (.aload_n 0, 23, (0, 0, 0, 0, []))), (23, (.getfield 28, 26, (9, 7, 2, 860, []))), (26, (.iconst 4, 27, (0, 0, 0, 4, []))), (27, (.iload_n 1, 28, (1, 0, 0, 0, []))), (28, (.imul, 29, (0, 0, 0, 0, []))), (29, (.iload_n 3, 30, (3, 0, 0, 0, []))), (30, (.iadd, 31, (0, 0, 0, 0, []))), (31, (.iaload, 32, (0, 0, 0, 0, [])))]), (59, [(32, (.iastore, 33, (0, 0, 0, 0, []))), (33, (.aload_n 0, 34, (0, 0, 0, 0, []))), (34, (.getfield 31, 37, (9, 8, 2, 861, []))), (37, (.iconst 4, 38, (0, 0, 0, 4, []))), (38, (.iload_n 2, 39, (2, 0, 0, 0, []))), (39, (.imul, 40, (0, 0, 0, 0, []))), (40, (.iload_n 3, 41, (3, 0, 0, 0, []))), (41, (.iadd, 42, (0, 0, 0, 0, []))), (42, (.aload_n 0, 43, (0, 0, 0, 0, []))), (43, (.getfield 31, 46, (9, 8, 2, 861, []))), (46, (.iconst 4, 47, (0, 0, 0, 4, []))), (47, (.iload_n 1, 48, (1, 0, 0, 0, []))), (48, (.imul, 49, (0, 0, 0, 0, []))), (49, (.iload_n 3, 50, (3, 0, 0, 0, []))), (50, (.iadd, 51, (0, 0, 0, 0, []))), (51, (.iaload, 52, (0, 0, 0, 0, []))), (52, (.iastore, 53, (0, 0, 0, 0, []))), (53, (.iinc 3 1, 56, (3, 0, 0, 1, []))), (56, (.goto (-48), 59, (8, 0, 0, 0, []))), (59, (.return_, 60, (0, 0, 0, 0, [])))])]
def cd_X9_keep : bg_K := [(36, [(0, (.aload_n 0, 1, (0, 0, 0, 0, []))), (1, (.getfield 298, 4, (9, 9, 0, 862, []))), (4, (.iconst 2, 5, (0, 0, 0, 2, []))), (5, (.if_icmp .ne 6, 8, (11, 0, 0, 0, []))), (8, (.bipush (-3), 10, (0, 0, 0, (-3), []))), (10, (.ireturn, 11, (0, 0, 0, 0, []))), (11, (.aload_n 0, 12, (0, 0, 0, 0, []))), (12, (.iconst 0, 13, (0, 0, 0, 0, []))), (13, (.iconst 1, 14, (0, 0, 0, 1, []))), (14, (.aload_n 0, 15, (0, 0, 0, 0, []))), (15, (.getfield 298, 18, (9, 9, 0, 862, []))), (18, (.iadd, 19, (0, 0, 0, 0, []))), (19, (.invokevirtual 301, 22, (183, 2, 9, 1249, []))), (22, (.aload_n 0, 23, (0, 0, 0, 0, []))), (23, (.dup, 24, (0, 0, 0, 0, []))), (24, (.getfield 298, 27, (9, 9, 0, 862, []))), (27, (.iconst 1, 28, (0, 0, 0, 1, []))), (28, (.iadd, 29, (0, 0, 0, 0, []))), (29, (.putfield 298, 32, (9, 9, 0, 862, []))), (32, (.aload_n 0, 33, (0, 0, 0, 0, []))), (33, (.getfield 298, 36, (9, 9, 0, 862, []))), (36, (.ireturn, 37, (0, 0, 0, 0, [])))])]
def cd_X9_back : bg_K := [(35, [(0, (.aload_n 0, 1, (0, 0, 0, 0, []))), (1, (.getfield 298, 4, (9, 9, 0, 862, []))), (4, (.ifCond .ne 6, 7, (10, 0, 0, 0, []))), (7, (.bipush (-2), 9, (0, 0, 0, (-2), []))), (9, (.ireturn, 10, (0, 0, 0, 0, []))), (10, (.aload_n 0, 11, (0, 0, 0, 0, []))), (11, (.dup, 12, (0, 0, 0, 0, []))), (12, (.getfield 298, 15, (9, 9, 0, 862, []))), (15, (.iconst 1, 16, (0, 0, 0, 1, []))), (16, (.isub, 17, (0, 0, 0, 0, []))), (17, (.putfield 298, 20, (9, 9, 0, 862, []))), (20, (.aload_n 0, 21, (0, 0, 0, 0, []))), (21, (.iconst 1, 22, (0, 0, 0, 1, []))), (22, (.aload_n 0, 23, (0, 0, 0, 0, []))), (23, (.getfield 298, 26, (9, 9, 0, 862, []))), (26, (.iadd, 27, (0, 0, 0, 0, []))), (27, (.iconst 0, 28, (0, 0, 0, 0, []))), (28, (.invokevirtual 301, 31, (183, 2, 9, 1249, []))), (31, (.aload_n 0, 32, (0, 0, 0, 0, []))), (32, (.getfield 298, 35, (9, 9, 0, 862, []))), (35, (.ireturn, 36, (0, 0, 0, 0, [])))])]
def cd_X9_count : bg_K := [(73, [(0, (.iload_n 1, 1, (1, 0, 0, 0, []))), (1, (.tableswitch 76 0 6 #[43, 50, 57, 57, 57, 66, 71], 44, (77, 0, 0, 0, [(0, 44), (1, 51), (2, 58), (3, 58), (4, 58), (5, 67), (6, 72)]))), (44, (.aload_n 0, 45, (0, 0, 0, 0, []))), (45, (.getfield 13, 48, (9, 2, 2, 855, []))), (48, (.iconst 0, 49, (0, 0, 0, 0, []))), (49, (.iaload, 50, (0, 0, 0, 0, []))), (50, (.ireturn, 51, (0, 0, 0, 0, []))), (51, (.aload_n 0, 52, (0, 0, 0, 0, []))), (52, (.getfield 19, 55, (9, 4, 2, 857, []))), (55, (.iconst 0, 56, (0, 0, 0, 0, []))), (56, (.iaload, 57, (0, 0, 0, 0, []))), (57, (.ireturn, 58, (0, 0, 0, 0, []))), (58, (.aload_n 0, 59, (0, 0, 0, 0, []))), (59, (.getfield 25, 62, (9, 6, 2, 859, []))), (62, (.iload_n 1, 63, (1, 0, 0, 0, []))), (63, (.iconst 2, 64, (0, 0, 0, 2, []))), (64, (.isub, 65, (0, 0, 0, 0, []))), (65, (.iaload, 66, (0, 0, 0, 0, []))), (66, (.ireturn, 67, (0, 0, 0, 0, []))), (67, (.aload_n 0, 68, (0, 0, 0, 0, []))), (68, (.getfield 96, 71, (9, 0, 0, 853, []))), (71, (.ireturn, 72, (0, 0, 0, 0, []))), (72, (.aload_n 0, 73, (0, 0, 0, 0, []))), (73, (.getfield 298, 76, (9, 9, 0, 862, [])))]), (78, [(76, (.ireturn, 77, (0, 0, 0, 0, []))), (77, (.iconst (-1), 78, (0, 0, 0, (-1), []))), (78, (.ireturn, 79, (0, 0, 0, 0, [])))])]
def cd_J6_numberOfTrailingZeros_0f7a4 : bg_K := [(33, [(0, (.iload_n 0, 1, (0, 0, 0, 0, []))), (1, (.iconst (-1), 2, (0, 0, 0, (-1), []))), (2, (.ixor, 3, (0, 0, 0, 0, []))), (3, (.iload_n 0, 4, (0, 0, 0, 0, []))), (4, (.iconst 1, 5, (0, 0, 0, 1, []))), (5, (.isub, 6, (0, 0, 0, 0, []))), (6, (.iand, 7, (0, 0, 0, 0, []))), (7, (.istore_n 0, 8, (0, 0, 0, 0, []))), (8, (.iload_n 0, 9, (0, 0, 0, 0, []))), (9, (.ifCond .gt 8, 12, (17, 0, 0, 0, []))), (12, (.iload_n 0, 13, (0, 0, 0, 0, []))), (13, (.bipush 32, 15, (0, 0, 0, 32, []))), (15, (.iand, 16, (0, 0, 0, 0, []))), (16, (.ireturn, 17, (0, 0, 0, 0, []))), (17, (.iconst 1, 18, (0, 0, 0, 1, []))), (18, (.istore_n 1, 19, (1, 0, 0, 0, []))), (19, (.iload_n 0, 20, (0, 0, 0, 0, []))), (20, (.ldc_w 264, 23, (0, 765, 0, 65536, []))), (23, (.if_icmp .le 11, 26, (34, 0, 0, 0, []))), (26, (.iinc 1 16, 29, (1, 0, 0, 16, []))), (29, (.iload_n 0, 30, (0, 0, 0, 0, []))), (30, (.bipush 16, 32, (0, 0, 0, 16, []))), (32, (.iushr, 33, (0, 0, 0, 0, []))), (33, (.istore_n 0, 34, (0, 0, 0, 0, [])))]), (73, [(34, (.iload_n 0, 35, (0, 0, 0, 0, []))), (35, (.sipush 256, 38, (0, 0, 0, 256, []))), (38, (.if_icmp .le 11, 41, (49, 0, 0, 0, []))), (41, (.iinc 1 8, 44, (1, 0, 0, 8, []))), (44, (.iload_n 0, 45, (0, 0, 0, 0, []))), (45, (.bipush 8, 47, (0, 0, 0, 8, []))), (47, (.iushr, 48, (0, 0, 0, 0, []))), (48, (.istore_n 0, 49, (0, 0, 0, 0, []))), (49, (.iload_n 0, 50, (0, 0, 0, 0, []))), (50, (.bipush 16, 52, (0, 0, 0, 16, []))), (52, (.if_icmp .le 10, 55, (62, 0, 0, 0, []))), (55, (.iinc 1 4, 58, (1, 0, 0, 4, []))), (58, (.iload_n 0, 59, (0, 0, 0, 0, []))), (59, (.iconst 4, 60, (0, 0, 0, 4, []))), (60, (.iushr, 61, (0, 0, 0, 0, []))), (61, (.istore_n 0, 62, (0, 0, 0, 0, []))), (62, (.iload_n 0, 63, (0, 0, 0, 0, []))), (63, (.iconst 4, 64, (0, 0, 0, 4, []))), (64, (.if_icmp .le 10, 67, (74, 0, 0, 0, []))), (67, (.iinc 1 2, 70, (1, 0, 0, 2, []))), (70, (.iload_n 0, 71, (0, 0, 0, 0, []))), (71, (.iconst 2, 72, (0, 0, 0, 2, []))), (72, (.iushr, 73, (0, 0, 0, 0, []))), (73, (.istore_n 0, 74, (0, 0, 0, 0, [])))]), (79, [(74, (.iload_n 1, 75, (1, 0, 0, 0, []))), (75, (.iload_n 0, 76, (0, 0, 0, 0, []))), (76, (.iconst 1, 77, (0, 0, 0, 1, []))), (77, (.iushr, 78, (0, 0, 0, 0, []))), (78, (.iadd, 79, (0, 0, 0, 0, []))), (79, (.ireturn, 80, (0, 0, 0, 0, [])))])]
def cd_J6_bitCount_0f7a4 : bg_K := [(29, [(0, (.iload_n 0, 1, (0, 0, 0, 0, []))), (1, (.iload_n 0, 2, (0, 0, 0, 0, []))), (2, (.iconst 1, 3, (0, 0, 0, 1, []))), (3, (.iushr, 4, (0, 0, 0, 0, []))), (4, (.ldc_w 265, 7, (0, 729, 0, 1431655765, []))), (7, (.iand, 8, (0, 0, 0, 0, []))), (8, (.isub, 9, (0, 0, 0, 0, []))), (9, (.istore_n 0, 10, (0, 0, 0, 0, []))), (10, (.iload_n 0, 11, (0, 0, 0, 0, []))), (11, (.ldc_w 266, 14, (0, 730, 0, 858993459, []))), (14, (.iand, 15, (0, 0, 0, 0, []))), (15, (.iload_n 0, 16, (0, 0, 0, 0, []))), (16, (.iconst 2, 17, (0, 0, 0, 2, []))), (17, (.iushr, 18, (0, 0, 0, 0, []))), (18, (.ldc_w 266, 21, (0, 730, 0, 858993459, []))), (21, (.iand, 22, (0, 0, 0, 0, []))), (22, (.iadd, 23, (0, 0, 0, 0, []))), (23, (.istore_n 0, 24, (0, 0, 0, 0, []))), (24, (.iload_n 0, 25, (0, 0, 0, 0, []))), (25, (.iload_n 0, 26, (0, 0, 0, 0, []))), (26, (.iconst 4, 27, (0, 0, 0, 4, []))), (27, (.iushr, 28, (0, 0, 0, 0, []))), (28, (.iadd, 29, (0, 0, 0, 0, []))), (29, (.ldc_w 267, 32, (0, 731, 0, 252645135, [])))]), (52, [(32, (.iand, 33, (0, 0, 0, 0, []))), (33, (.istore_n 0, 34, (0, 0, 0, 0, []))), (34, (.iload_n 0, 35, (0, 0, 0, 0, []))), (35, (.iload_n 0, 36, (0, 0, 0, 0, []))), (36, (.bipush 8, 38, (0, 0, 0, 8, []))), (38, (.iushr, 39, (0, 0, 0, 0, []))), (39, (.iadd, 40, (0, 0, 0, 0, []))), (40, (.istore_n 0, 41, (0, 0, 0, 0, []))), (41, (.iload_n 0, 42, (0, 0, 0, 0, []))), (42, (.iload_n 0, 43, (0, 0, 0, 0, []))), (43, (.bipush 16, 45, (0, 0, 0, 16, []))), (45, (.iushr, 46, (0, 0, 0, 0, []))), (46, (.iadd, 47, (0, 0, 0, 0, []))), (47, (.istore_n 0, 48, (0, 0, 0, 0, []))), (48, (.iload_n 0, 49, (0, 0, 0, 0, []))), (49, (.bipush 63, 51, (0, 0, 0, 63, []))), (51, (.iand, 52, (0, 0, 0, 0, []))), (52, (.ireturn, 53, (0, 0, 0, 0, [])))])]
def cd_J7_fill_d0a16 : bg_K := [(22, [(0, (.iconst 0, 1, (0, 0, 0, 0, []))), (1, (.istore_n 3, 2, (3, 0, 0, 0, []))), (2, (.aload_n 0, 3, (0, 0, 0, 0, []))), (3, (.arraylength, 4, (0, 0, 0, 0, []))), (4, (.istore 4, 6, (4, 0, 0, 0, []))), (6, (.iload_n 3, 7, (3, 0, 0, 0, []))), (7, (.iload 4, 9, (4, 0, 0, 0, []))), (9, (.if_icmp .ge 13, 12, (22, 0, 0, 0, []))), (12, (.aload_n 0, 13, (0, 0, 0, 0, []))), (13, (.iload_n 3, 14, (3, 0, 0, 0, []))), (14, (.lload_n 1, 15, (1, 0, 0, 0, []))), (15, (.lastore, 16, (0, 0, 0, 0, []))), (16, (.iinc 3 1, 19, (3, 0, 0, 1, []))), (19, (.goto (-13), 22, (6, 0, 0, 0, []))), (22, (.return_, 23, (0, 0, 0, 0, [])))])]
def cd_J7_fill_53178 : bg_K := [(20, [(0, (.iconst 0, 1, (0, 0, 0, 0, []))), (1, (.istore_n 2, 2, (2, 0, 0, 0, []))), (2, (.aload_n 0, 3, (0, 0, 0, 0, []))), (3, (.arraylength, 4, (0, 0, 0, 0, []))), (4, (.istore_n 3, 5, (3, 0, 0, 0, []))), (5, (.iload_n 2, 6, (2, 0, 0, 0, []))), (6, (.iload_n 3, 7, (3, 0, 0, 0, []))), (7, (.if_icmp .ge 13, 10, (20, 0, 0, 0, []))), (10, (.aload_n 0, 11, (0, 0, 0, 0, []))), (11, (.iload_n 2, 12, (2, 0, 0, 0, []))), (12, (.iload_n 1, 13, (1, 0, 0, 0, []))), (13, (.iastore, 14, (0, 0, 0, 0, []))), (14, (.iinc 2 1, 17, (2, 0, 0, 1, []))), (17, (.goto (-12), 20, (5, 0, 0, 0, []))), (20, (.return_, 21, (0, 0, 0, 0, [])))])]
def cd_X2_hundredthsThrough : bg_K := [(37, [(0, (.iload_n 1, 1, (1, 0, 0, 0, []))), (1, (.ifCond .lt 21, 4, (22, 0, 0, 0, []))), (4, (.iload_n 1, 5, (1, 0, 0, 0, []))), (5, (.bipush 12, 7, (0, 0, 0, 12, []))), (7, (.if_icmp .ge 15, 10, (22, 0, 0, 0, []))), (10, (.iload_n 2, 11, (2, 0, 0, 0, []))), (11, (.iload_n 1, 12, (1, 0, 0, 0, []))), (12, (.ishr, 13, (0, 0, 0, 0, []))), (13, (.iconst 1, 14, (0, 0, 0, 1, []))), (14, (.iand, 15, (0, 0, 0, 0, []))), (15, (.ifCond .eq 7, 18, (22, 0, 0, 0, []))), (18, (.iconst 1, 19, (0, 0, 0, 1, []))), (19, (.goto 4, 22, (23, 0, 0, 0, []))), (22, (.iconst 0, 23, (0, 0, 0, 0, []))), (23, (.istore_n 3, 24, (3, 0, 0, 0, []))), (24, (.iload_n 3, 25, (3, 0, 0, 0, []))), (25, (.ifCond .eq 17, 28, (42, 0, 0, 0, []))), (28, (.bipush 100, 30, (0, 0, 0, 100, []))), (30, (.aload_n 0, 31, (0, 0, 0, 0, []))), (31, (.getfield 11, 34, (2, 0, 2, 126, []))), (34, (.iload_n 1, 35, (1, 0, 0, 0, []))), (35, (.aaload, 36, (0, 0, 0, 0, []))), (36, (.iconst 5, 37, (0, 0, 0, 5, []))), (37, (.iaload, 38, (0, 0, 0, 0, [])))]), (44, [(38, (.isub, 39, (0, 0, 0, 0, []))), (39, (.goto 5, 42, (44, 0, 0, 0, []))), (42, (.bipush 100, 44, (0, 0, 0, 100, []))), (44, (.ireturn, 45, (0, 0, 0, 0, [])))])]
def cd_X2_carryingOn : bg_K := [(22, [(0, (.iload_n 1, 1, (1, 0, 0, 0, []))), (1, (.ifCond .lt 20, 4, (21, 0, 0, 0, []))), (4, (.iload_n 1, 5, (1, 0, 0, 0, []))), (5, (.bipush 12, 7, (0, 0, 0, 12, []))), (7, (.if_icmp .ge 14, 10, (21, 0, 0, 0, []))), (10, (.aload_n 0, 11, (0, 0, 0, 0, []))), (11, (.getfield 11, 14, (2, 0, 2, 126, []))), (14, (.iload_n 1, 15, (1, 0, 0, 0, []))), (15, (.aaload, 16, (0, 0, 0, 0, []))), (16, (.iconst 3, 17, (0, 0, 0, 3, []))), (17, (.iaload, 18, (0, 0, 0, 0, []))), (18, (.goto 4, 21, (22, 0, 0, 0, []))), (21, (.iconst 0, 22, (0, 0, 0, 0, []))), (22, (.ireturn, 23, (0, 0, 0, 0, [])))])]
def cd_L_law : bg_K := [(169, [(0, (.new 7, 3, (8, 14, 0, 82, []))), (3, (.dup, 4, (0, 0, 0, 0, []))), (4, (.invokespecial 9, 7, (8, 0, 0, 84, []))), (7, (.astore_n 1, 8, (1, 0, 0, 0, []))), (8, (.new 10, 11, (9, 33, 0, 839, []))), (11, (.dup, 12, (0, 0, 0, 0, []))), (12, (.invokespecial 12, 15, (9, 0, 0, 841, []))), (15, (.astore_n 2, 16, (2, 0, 0, 0, []))), (16, (.iconst 0, 17, (0, 0, 0, 0, []))), (17, (.istore_n 3, 18, (3, 0, 0, 0, []))), (18, (.iload_n 3, 19, (3, 0, 0, 0, []))), (19, (.aload_n 0, 20, (0, 0, 0, 0, []))), (20, (.arraylength, 21, (0, 0, 0, 0, []))), (21, (.iconst 4, 22, (0, 0, 0, 4, []))), (22, (.isub, 23, (0, 0, 0, 0, []))), (23, (.if_icmp .gt 994, 26, (1017, 0, 0, 0, []))), (26, (.aload_n 0, 27, (0, 0, 0, 0, []))), (27, (.iload_n 3, 28, (3, 0, 0, 0, []))), (28, (.iaload, 29, (0, 0, 0, 0, []))), (29, (.bipush 31, 31, (0, 0, 0, 31, []))), (31, (.iand, 32, (0, 0, 0, 0, []))), (32, (.tableswitch 979 0 29 #[136, 199, 212, 225, 238, 271, 304, 337, 370, 403, 426, 459, 482, 495, 528, 571, 604, 637, 671, 704, 717, 750, 783, 807, 851, 884, 897, 930, 943, 956], 168, (1011, 0, 0, 0, [(0, 168), (1, 231), (2, 244), (3, 257), (4, 270), (5, 303), (6, 336), (7, 369), (8, 402), (9, 435), (10, 458), (11, 491), (12, 514), (13, 527), (14, 560), (15, 603), (16, 636), (17, 669), (18, 703), (19, 736), (20, 749), (21, 782), (22, 815), (23, 839), (24, 883), (25, 916), (26, 929), (27, 962), (28, 975), (29, 988)]))), (168, (.aload_n 1, 169, (1, 0, 0, 0, []))), (169, (.aload_n 0, 170, (0, 0, 0, 0, [])))]), (198, [(170, (.iload_n 3, 171, (3, 0, 0, 0, []))), (171, (.iconst 1, 172, (0, 0, 0, 1, []))), (172, (.iadd, 173, (0, 0, 0, 0, []))), (173, (.iaload, 174, (0, 0, 0, 0, []))), (174, (.aload_n 0, 175, (0, 0, 0, 0, []))), (175, (.iload_n 3, 176, (3, 0, 0, 0, []))), (176, (.iconst 2, 177, (0, 0, 0, 2, []))), (177, (.iadd, 178, (0, 0, 0, 0, []))), (178, (.iaload, 179, (0, 0, 0, 0, []))), (179, (.i2l, 180, (0, 0, 0, 0, []))), (180, (.bipush 32, 182, (0, 0, 0, 32, []))), (182, (.lshl, 183, (0, 0, 0, 0, []))), (183, (.aload_n 0, 184, (0, 0, 0, 0, []))), (184, (.iload_n 3, 185, (3, 0, 0, 0, []))), (185, (.iconst 3, 186, (0, 0, 0, 3, []))), (186, (.iadd, 187, (0, 0, 0, 0, []))), (187, (.iaload, 188, (0, 0, 0, 0, []))), (188, (.i2l, 189, (0, 0, 0, 0, []))), (189, (.ldc2_w 13, 192, (0, 1261, 0, 4294967295, []))), (192, (.land, 193, (0, 0, 0, 0, []))), (193, (.lor, 194, (0, 0, 0, 0, []))), (194, (.invokevirtual 15, 197, (78, 2, 8, 407, []))), (197, (.aload_n 2, 198, (2, 0, 0, 0, []))), (198, (.aload_n 0, 199, (0, 0, 0, 0, [])))]), (229, [(199, (.iload_n 3, 200, (3, 0, 0, 0, []))), (200, (.iconst 1, 201, (0, 0, 0, 1, []))), (201, (.iadd, 202, (0, 0, 0, 0, []))), (202, (.iaload, 203, (0, 0, 0, 0, []))), (203, (.aload_n 0, 204, (0, 0, 0, 0, []))), (204, (.iload_n 3, 205, (3, 0, 0, 0, []))), (205, (.iconst 2, 206, (0, 0, 0, 2, []))), (206, (.iadd, 207, (0, 0, 0, 0, []))), (207, (.iaload, 208, (0, 0, 0, 0, []))), (208, (.i2l, 209, (0, 0, 0, 0, []))), (209, (.bipush 32, 211, (0, 0, 0, 32, []))), (211, (.lshl, 212, (0, 0, 0, 0, []))), (212, (.aload_n 0, 213, (0, 0, 0, 0, []))), (213, (.iload_n 3, 214, (3, 0, 0, 0, []))), (214, (.iconst 3, 215, (0, 0, 0, 3, []))), (215, (.iadd, 216, (0, 0, 0, 0, []))), (216, (.iaload, 217, (0, 0, 0, 0, []))), (217, (.i2l, 218, (0, 0, 0, 0, []))), (218, (.ldc2_w 13, 221, (0, 1261, 0, 4294967295, []))), (221, (.land, 222, (0, 0, 0, 0, []))), (222, (.lor, 223, (0, 0, 0, 0, []))), (223, (.invokevirtual 19, 226, (117, 2, 9, 953, []))), (226, (.if_icmp .eq 785, 229, (1011, 0, 0, 0, []))), (229, (.iconst 0, 230, (0, 0, 0, 0, [])))]), (271, [(230, (.ireturn, 231, (0, 0, 1, 0, []))), (231, (.aload_n 1, 232, (1, 0, 0, 0, []))), (232, (.invokevirtual 20, 235, (79, 0, 8, 419, []))), (235, (.aload_n 2, 236, (2, 0, 0, 0, []))), (236, (.invokevirtual 24, 239, (118, 0, 9, 962, []))), (239, (.if_icmp .eq 772, 242, (1011, 0, 0, 0, []))), (242, (.iconst 0, 243, (0, 0, 0, 0, []))), (243, (.ireturn, 244, (0, 0, 1, 0, []))), (244, (.aload_n 1, 245, (1, 0, 0, 0, []))), (245, (.invokevirtual 25, 248, (80, 0, 8, 423, []))), (248, (.aload_n 2, 249, (2, 0, 0, 0, []))), (249, (.invokevirtual 28, 252, (125, 0, 9, 966, []))), (252, (.if_icmp .eq 759, 255, (1011, 0, 0, 0, []))), (255, (.iconst 0, 256, (0, 0, 0, 0, []))), (256, (.ireturn, 257, (0, 0, 1, 0, []))), (257, (.aload_n 1, 258, (1, 0, 0, 0, []))), (258, (.invokevirtual 29, 261, (81, 0, 8, 472, []))), (261, (.aload_n 2, 262, (2, 0, 0, 0, []))), (262, (.invokevirtual 32, 265, (127, 0, 9, 997, []))), (265, (.if_icmp .eq 746, 268, (1011, 0, 0, 0, []))), (268, (.iconst 0, 269, (0, 0, 0, 0, []))), (269, (.ireturn, 270, (0, 0, 1, 0, []))), (270, (.aload_n 1, 271, (1, 0, 0, 0, []))), (271, (.aload_n 0, 272, (0, 0, 0, 0, [])))]), (301, [(272, (.iload_n 3, 273, (3, 0, 0, 0, []))), (273, (.iconst 1, 274, (0, 0, 0, 1, []))), (274, (.iadd, 275, (0, 0, 0, 0, []))), (275, (.iaload, 276, (0, 0, 0, 0, []))), (276, (.aload_n 0, 277, (0, 0, 0, 0, []))), (277, (.iload_n 3, 278, (3, 0, 0, 0, []))), (278, (.iconst 2, 279, (0, 0, 0, 2, []))), (279, (.iadd, 280, (0, 0, 0, 0, []))), (280, (.iaload, 281, (0, 0, 0, 0, []))), (281, (.invokevirtual 33, 284, (82, 2, 8, 485, []))), (284, (.aload_n 2, 285, (2, 0, 0, 0, []))), (285, (.aload_n 0, 286, (0, 0, 0, 0, []))), (286, (.iload_n 3, 287, (3, 0, 0, 0, []))), (287, (.iconst 1, 288, (0, 0, 0, 1, []))), (288, (.iadd, 289, (0, 0, 0, 0, []))), (289, (.iaload, 290, (0, 0, 0, 0, []))), (290, (.aload_n 0, 291, (0, 0, 0, 0, []))), (291, (.iload_n 3, 292, (3, 0, 0, 0, []))), (292, (.iconst 2, 293, (0, 0, 0, 2, []))), (293, (.iadd, 294, (0, 0, 0, 0, []))), (294, (.iaload, 295, (0, 0, 0, 0, []))), (295, (.invokevirtual 37, 298, (129, 2, 9, 1005, []))), (298, (.if_icmp .eq 713, 301, (1011, 0, 0, 0, []))), (301, (.iconst 0, 302, (0, 0, 0, 0, [])))]), (327, [(302, (.ireturn, 303, (0, 0, 1, 0, []))), (303, (.aload_n 1, 304, (1, 0, 0, 0, []))), (304, (.aload_n 0, 305, (0, 0, 0, 0, []))), (305, (.iload_n 3, 306, (3, 0, 0, 0, []))), (306, (.iconst 1, 307, (0, 0, 0, 1, []))), (307, (.iadd, 308, (0, 0, 0, 0, []))), (308, (.iaload, 309, (0, 0, 0, 0, []))), (309, (.aload_n 0, 310, (0, 0, 0, 0, []))), (310, (.iload_n 3, 311, (3, 0, 0, 0, []))), (311, (.iconst 2, 312, (0, 0, 0, 2, []))), (312, (.iadd, 313, (0, 0, 0, 0, []))), (313, (.iaload, 314, (0, 0, 0, 0, []))), (314, (.invokevirtual 38, 317, (83, 2, 8, 490, []))), (317, (.aload_n 2, 318, (2, 0, 0, 0, []))), (318, (.aload_n 0, 319, (0, 0, 0, 0, []))), (319, (.iload_n 3, 320, (3, 0, 0, 0, []))), (320, (.iconst 1, 321, (0, 0, 0, 1, []))), (321, (.iadd, 322, (0, 0, 0, 0, []))), (322, (.iaload, 323, (0, 0, 0, 0, []))), (323, (.aload_n 0, 324, (0, 0, 0, 0, []))), (324, (.iload_n 3, 325, (3, 0, 0, 0, []))), (325, (.iconst 2, 326, (0, 0, 0, 2, []))), (326, (.iadd, 327, (0, 0, 0, 0, []))), (327, (.iaload, 328, (0, 0, 0, 0, [])))]), (357, [(328, (.invokevirtual 41, 331, (134, 2, 9, 1014, []))), (331, (.if_icmp .eq 680, 334, (1011, 0, 0, 0, []))), (334, (.iconst 0, 335, (0, 0, 0, 0, []))), (335, (.ireturn, 336, (0, 0, 1, 0, []))), (336, (.aload_n 1, 337, (1, 0, 0, 0, []))), (337, (.aload_n 0, 338, (0, 0, 0, 0, []))), (338, (.iload_n 3, 339, (3, 0, 0, 0, []))), (339, (.iconst 1, 340, (0, 0, 0, 1, []))), (340, (.iadd, 341, (0, 0, 0, 0, []))), (341, (.iaload, 342, (0, 0, 0, 0, []))), (342, (.aload_n 0, 343, (0, 0, 0, 0, []))), (343, (.iload_n 3, 344, (3, 0, 0, 0, []))), (344, (.iconst 2, 345, (0, 0, 0, 2, []))), (345, (.iadd, 346, (0, 0, 0, 0, []))), (346, (.iaload, 347, (0, 0, 0, 0, []))), (347, (.invokevirtual 42, 350, (84, 2, 8, 510, []))), (350, (.aload_n 2, 351, (2, 0, 0, 0, []))), (351, (.aload_n 0, 352, (0, 0, 0, 0, []))), (352, (.iload_n 3, 353, (3, 0, 0, 0, []))), (353, (.iconst 1, 354, (0, 0, 0, 1, []))), (354, (.iadd, 355, (0, 0, 0, 0, []))), (355, (.iaload, 356, (0, 0, 0, 0, []))), (356, (.aload_n 0, 357, (0, 0, 0, 0, []))), (357, (.iload_n 3, 358, (3, 0, 0, 0, [])))]), (387, [(358, (.iconst 2, 359, (0, 0, 0, 2, []))), (359, (.iadd, 360, (0, 0, 0, 0, []))), (360, (.iaload, 361, (0, 0, 0, 0, []))), (361, (.invokevirtual 45, 364, (136, 2, 9, 1038, []))), (364, (.if_icmp .eq 647, 367, (1011, 0, 0, 0, []))), (367, (.iconst 0, 368, (0, 0, 0, 0, []))), (368, (.ireturn, 369, (0, 0, 1, 0, []))), (369, (.aload_n 1, 370, (1, 0, 0, 0, []))), (370, (.aload_n 0, 371, (0, 0, 0, 0, []))), (371, (.iload_n 3, 372, (3, 0, 0, 0, []))), (372, (.iconst 1, 373, (0, 0, 0, 1, []))), (373, (.iadd, 374, (0, 0, 0, 0, []))), (374, (.iaload, 375, (0, 0, 0, 0, []))), (375, (.aload_n 0, 376, (0, 0, 0, 0, []))), (376, (.iload_n 3, 377, (3, 0, 0, 0, []))), (377, (.iconst 2, 378, (0, 0, 0, 2, []))), (378, (.iadd, 379, (0, 0, 0, 0, []))), (379, (.iaload, 380, (0, 0, 0, 0, []))), (380, (.invokevirtual 46, 383, (85, 2, 8, 522, []))), (383, (.aload_n 2, 384, (2, 0, 0, 0, []))), (384, (.aload_n 0, 385, (0, 0, 0, 0, []))), (385, (.iload_n 3, 386, (3, 0, 0, 0, []))), (386, (.iconst 1, 387, (0, 0, 0, 1, []))), (387, (.iadd, 388, (0, 0, 0, 0, [])))]), (417, [(388, (.iaload, 389, (0, 0, 0, 0, []))), (389, (.aload_n 0, 390, (0, 0, 0, 0, []))), (390, (.iload_n 3, 391, (3, 0, 0, 0, []))), (391, (.iconst 2, 392, (0, 0, 0, 2, []))), (392, (.iadd, 393, (0, 0, 0, 0, []))), (393, (.iaload, 394, (0, 0, 0, 0, []))), (394, (.invokevirtual 49, 397, (141, 2, 9, 1046, []))), (397, (.if_icmp .eq 614, 400, (1011, 0, 0, 0, []))), (400, (.iconst 0, 401, (0, 0, 0, 0, []))), (401, (.ireturn, 402, (0, 0, 1, 0, []))), (402, (.aload_n 1, 403, (1, 0, 0, 0, []))), (403, (.aload_n 0, 404, (0, 0, 0, 0, []))), (404, (.iload_n 3, 405, (3, 0, 0, 0, []))), (405, (.iconst 1, 406, (0, 0, 0, 1, []))), (406, (.iadd, 407, (0, 0, 0, 0, []))), (407, (.iaload, 408, (0, 0, 0, 0, []))), (408, (.aload_n 0, 409, (0, 0, 0, 0, []))), (409, (.iload_n 3, 410, (3, 0, 0, 0, []))), (410, (.iconst 2, 411, (0, 0, 0, 2, []))), (411, (.iadd, 412, (0, 0, 0, 0, []))), (412, (.iaload, 413, (0, 0, 0, 0, []))), (413, (.invokevirtual 50, 416, (86, 2, 8, 544, []))), (416, (.aload_n 2, 417, (2, 0, 0, 0, []))), (417, (.aload_n 0, 418, (0, 0, 0, 0, [])))]), (447, [(418, (.iload_n 3, 419, (3, 0, 0, 0, []))), (419, (.iconst 1, 420, (0, 0, 0, 1, []))), (420, (.iadd, 421, (0, 0, 0, 0, []))), (421, (.iaload, 422, (0, 0, 0, 0, []))), (422, (.aload_n 0, 423, (0, 0, 0, 0, []))), (423, (.iload_n 3, 424, (3, 0, 0, 0, []))), (424, (.iconst 2, 425, (0, 0, 0, 2, []))), (425, (.iadd, 426, (0, 0, 0, 0, []))), (426, (.iaload, 427, (0, 0, 0, 0, []))), (427, (.invokevirtual 53, 430, (142, 2, 9, 1063, []))), (430, (.if_icmp .eq 581, 433, (1011, 0, 0, 0, []))), (433, (.iconst 0, 434, (0, 0, 0, 0, []))), (434, (.ireturn, 435, (0, 0, 1, 0, []))), (435, (.aload_n 1, 436, (1, 0, 0, 0, []))), (436, (.aload_n 0, 437, (0, 0, 0, 0, []))), (437, (.iload_n 3, 438, (3, 0, 0, 0, []))), (438, (.iconst 1, 439, (0, 0, 0, 1, []))), (439, (.iadd, 440, (0, 0, 0, 0, []))), (440, (.iaload, 441, (0, 0, 0, 0, []))), (441, (.invokevirtual 54, 444, (87, 1, 8, 548, []))), (444, (.aload_n 2, 445, (2, 0, 0, 0, []))), (445, (.aload_n 0, 446, (0, 0, 0, 0, []))), (446, (.iload_n 3, 447, (3, 0, 0, 0, []))), (447, (.iconst 1, 448, (0, 0, 0, 1, [])))]), (477, [(448, (.iadd, 449, (0, 0, 0, 0, []))), (449, (.iaload, 450, (0, 0, 0, 0, []))), (450, (.invokevirtual 58, 453, (144, 1, 9, 1069, []))), (453, (.if_icmp .eq 558, 456, (1011, 0, 0, 0, []))), (456, (.iconst 0, 457, (0, 0, 0, 0, []))), (457, (.ireturn, 458, (0, 0, 1, 0, []))), (458, (.aload_n 1, 459, (1, 0, 0, 0, []))), (459, (.aload_n 0, 460, (0, 0, 0, 0, []))), (460, (.iload_n 3, 461, (3, 0, 0, 0, []))), (461, (.iconst 1, 462, (0, 0, 0, 1, []))), (462, (.iadd, 463, (0, 0, 0, 0, []))), (463, (.iaload, 464, (0, 0, 0, 0, []))), (464, (.aload_n 0, 465, (0, 0, 0, 0, []))), (465, (.iload_n 3, 466, (3, 0, 0, 0, []))), (466, (.iconst 2, 467, (0, 0, 0, 2, []))), (467, (.iadd, 468, (0, 0, 0, 0, []))), (468, (.iaload, 469, (0, 0, 0, 0, []))), (469, (.invokevirtual 59, 472, (88, 2, 8, 556, []))), (472, (.aload_n 2, 473, (2, 0, 0, 0, []))), (473, (.aload_n 0, 474, (0, 0, 0, 0, []))), (474, (.iload_n 3, 475, (3, 0, 0, 0, []))), (475, (.iconst 1, 476, (0, 0, 0, 1, []))), (476, (.iadd, 477, (0, 0, 0, 0, []))), (477, (.iaload, 478, (0, 0, 0, 0, [])))]), (509, [(478, (.aload_n 0, 479, (0, 0, 0, 0, []))), (479, (.iload_n 3, 480, (3, 0, 0, 0, []))), (480, (.iconst 2, 481, (0, 0, 0, 2, []))), (481, (.iadd, 482, (0, 0, 0, 0, []))), (482, (.iaload, 483, (0, 0, 0, 0, []))), (483, (.invokevirtual 62, 486, (147, 2, 9, 1077, []))), (486, (.if_icmp .eq 525, 489, (1011, 0, 0, 0, []))), (489, (.iconst 0, 490, (0, 0, 0, 0, []))), (490, (.ireturn, 491, (0, 0, 1, 0, []))), (491, (.aload_n 1, 492, (1, 0, 0, 0, []))), (492, (.aload_n 0, 493, (0, 0, 0, 0, []))), (493, (.iload_n 3, 494, (3, 0, 0, 0, []))), (494, (.iconst 1, 495, (0, 0, 0, 1, []))), (495, (.iadd, 496, (0, 0, 0, 0, []))), (496, (.iaload, 497, (0, 0, 0, 0, []))), (497, (.invokevirtual 63, 500, (89, 1, 8, 605, []))), (500, (.aload_n 2, 501, (2, 0, 0, 0, []))), (501, (.aload_n 0, 502, (0, 0, 0, 0, []))), (502, (.iload_n 3, 503, (3, 0, 0, 0, []))), (503, (.iconst 1, 504, (0, 0, 0, 1, []))), (504, (.iadd, 505, (0, 0, 0, 0, []))), (505, (.iaload, 506, (0, 0, 0, 0, []))), (506, (.invokevirtual 66, 509, (148, 1, 9, 1094, []))), (509, (.if_icmp .eq 502, 512, (1011, 0, 0, 0, [])))]), (543, [(512, (.iconst 0, 513, (0, 0, 0, 0, []))), (513, (.ireturn, 514, (0, 0, 1, 0, []))), (514, (.aload_n 1, 515, (1, 0, 0, 0, []))), (515, (.invokevirtual 67, 518, (90, 0, 8, 609, []))), (518, (.aload_n 2, 519, (2, 0, 0, 0, []))), (519, (.invokevirtual 70, 522, (149, 0, 9, 1099, []))), (522, (.if_icmp .eq 489, 525, (1011, 0, 0, 0, []))), (525, (.iconst 0, 526, (0, 0, 0, 0, []))), (526, (.ireturn, 527, (0, 0, 1, 0, []))), (527, (.aload_n 1, 528, (1, 0, 0, 0, []))), (528, (.aload_n 0, 529, (0, 0, 0, 0, []))), (529, (.iload_n 3, 530, (3, 0, 0, 0, []))), (530, (.iconst 1, 531, (0, 0, 0, 1, []))), (531, (.iadd, 532, (0, 0, 0, 0, []))), (532, (.iaload, 533, (0, 0, 0, 0, []))), (533, (.aload_n 0, 534, (0, 0, 0, 0, []))), (534, (.iload_n 3, 535, (3, 0, 0, 0, []))), (535, (.iconst 2, 536, (0, 0, 0, 2, []))), (536, (.iadd, 537, (0, 0, 0, 0, []))), (537, (.iaload, 538, (0, 0, 0, 0, []))), (538, (.invokevirtual 71, 541, (91, 2, 8, 613, []))), (541, (.aload_n 2, 542, (2, 0, 0, 0, []))), (542, (.aload_n 0, 543, (0, 0, 0, 0, []))), (543, (.iload_n 3, 544, (3, 0, 0, 0, [])))]), (571, [(544, (.iconst 1, 545, (0, 0, 0, 1, []))), (545, (.iadd, 546, (0, 0, 0, 0, []))), (546, (.iaload, 547, (0, 0, 0, 0, []))), (547, (.aload_n 0, 548, (0, 0, 0, 0, []))), (548, (.iload_n 3, 549, (3, 0, 0, 0, []))), (549, (.iconst 2, 550, (0, 0, 0, 2, []))), (550, (.iadd, 551, (0, 0, 0, 0, []))), (551, (.iaload, 552, (0, 0, 0, 0, []))), (552, (.invokevirtual 74, 555, (150, 2, 9, 1103, []))), (555, (.if_icmp .eq 456, 558, (1011, 0, 0, 0, []))), (558, (.iconst 0, 559, (0, 0, 0, 0, []))), (559, (.ireturn, 560, (0, 0, 1, 0, []))), (560, (.aload_n 1, 561, (1, 0, 0, 0, []))), (561, (.aload_n 0, 562, (0, 0, 0, 0, []))), (562, (.iload_n 3, 563, (3, 0, 0, 0, []))), (563, (.iconst 1, 564, (0, 0, 0, 1, []))), (564, (.iadd, 565, (0, 0, 0, 0, []))), (565, (.iaload, 566, (0, 0, 0, 0, []))), (566, (.aload_n 0, 567, (0, 0, 0, 0, []))), (567, (.iload_n 3, 568, (3, 0, 0, 0, []))), (568, (.iconst 2, 569, (0, 0, 0, 2, []))), (569, (.iadd, 570, (0, 0, 0, 0, []))), (570, (.iaload, 571, (0, 0, 0, 0, []))), (571, (.aload_n 0, 572, (0, 0, 0, 0, [])))]), (601, [(572, (.iload_n 3, 573, (3, 0, 0, 0, []))), (573, (.iconst 3, 574, (0, 0, 0, 3, []))), (574, (.iadd, 575, (0, 0, 0, 0, []))), (575, (.iaload, 576, (0, 0, 0, 0, []))), (576, (.invokevirtual 75, 579, (92, 3, 8, 617, []))), (579, (.aload_n 2, 580, (2, 0, 0, 0, []))), (580, (.aload_n 0, 581, (0, 0, 0, 0, []))), (581, (.iload_n 3, 582, (3, 0, 0, 0, []))), (582, (.iconst 1, 583, (0, 0, 0, 1, []))), (583, (.iadd, 584, (0, 0, 0, 0, []))), (584, (.iaload, 585, (0, 0, 0, 0, []))), (585, (.aload_n 0, 586, (0, 0, 0, 0, []))), (586, (.iload_n 3, 587, (3, 0, 0, 0, []))), (587, (.iconst 2, 588, (0, 0, 0, 2, []))), (588, (.iadd, 589, (0, 0, 0, 0, []))), (589, (.iaload, 590, (0, 0, 0, 0, []))), (590, (.aload_n 0, 591, (0, 0, 0, 0, []))), (591, (.iload_n 3, 592, (3, 0, 0, 0, []))), (592, (.iconst 3, 593, (0, 0, 0, 3, []))), (593, (.iadd, 594, (0, 0, 0, 0, []))), (594, (.iaload, 595, (0, 0, 0, 0, []))), (595, (.invokevirtual 79, 598, (152, 3, 9, 1107, []))), (598, (.if_icmp .eq 413, 601, (1011, 0, 0, 0, []))), (601, (.iconst 0, 602, (0, 0, 0, 0, [])))]), (627, [(602, (.ireturn, 603, (0, 0, 1, 0, []))), (603, (.aload_n 1, 604, (1, 0, 0, 0, []))), (604, (.aload_n 0, 605, (0, 0, 0, 0, []))), (605, (.iload_n 3, 606, (3, 0, 0, 0, []))), (606, (.iconst 1, 607, (0, 0, 0, 1, []))), (607, (.iadd, 608, (0, 0, 0, 0, []))), (608, (.iaload, 609, (0, 0, 0, 0, []))), (609, (.aload_n 0, 610, (0, 0, 0, 0, []))), (610, (.iload_n 3, 611, (3, 0, 0, 0, []))), (611, (.iconst 2, 612, (0, 0, 0, 2, []))), (612, (.iadd, 613, (0, 0, 0, 0, []))), (613, (.iaload, 614, (0, 0, 0, 0, []))), (614, (.invokevirtual 80, 617, (93, 2, 8, 625, []))), (617, (.aload_n 2, 618, (2, 0, 0, 0, []))), (618, (.aload_n 0, 619, (0, 0, 0, 0, []))), (619, (.iload_n 3, 620, (3, 0, 0, 0, []))), (620, (.iconst 1, 621, (0, 0, 0, 1, []))), (621, (.iadd, 622, (0, 0, 0, 0, []))), (622, (.iaload, 623, (0, 0, 0, 0, []))), (623, (.aload_n 0, 624, (0, 0, 0, 0, []))), (624, (.iload_n 3, 625, (3, 0, 0, 0, []))), (625, (.iconst 2, 626, (0, 0, 0, 2, []))), (626, (.iadd, 627, (0, 0, 0, 0, []))), (627, (.iaload, 628, (0, 0, 0, 0, [])))]), (657, [(628, (.invokevirtual 83, 631, (156, 2, 9, 1115, []))), (631, (.if_icmp .eq 380, 634, (1011, 0, 0, 0, []))), (634, (.iconst 0, 635, (0, 0, 0, 0, []))), (635, (.ireturn, 636, (0, 0, 1, 0, []))), (636, (.aload_n 1, 637, (1, 0, 0, 0, []))), (637, (.aload_n 0, 638, (0, 0, 0, 0, []))), (638, (.iload_n 3, 639, (3, 0, 0, 0, []))), (639, (.iconst 1, 640, (0, 0, 0, 1, []))), (640, (.iadd, 641, (0, 0, 0, 0, []))), (641, (.iaload, 642, (0, 0, 0, 0, []))), (642, (.aload_n 0, 643, (0, 0, 0, 0, []))), (643, (.iload_n 3, 644, (3, 0, 0, 0, []))), (644, (.iconst 2, 645, (0, 0, 0, 2, []))), (645, (.iadd, 646, (0, 0, 0, 0, []))), (646, (.iaload, 647, (0, 0, 0, 0, []))), (647, (.invokevirtual 84, 650, (94, 2, 8, 637, []))), (650, (.aload_n 2, 651, (2, 0, 0, 0, []))), (651, (.aload_n 0, 652, (0, 0, 0, 0, []))), (652, (.iload_n 3, 653, (3, 0, 0, 0, []))), (653, (.iconst 1, 654, (0, 0, 0, 1, []))), (654, (.iadd, 655, (0, 0, 0, 0, []))), (655, (.iaload, 656, (0, 0, 0, 0, []))), (656, (.aload_n 0, 657, (0, 0, 0, 0, []))), (657, (.iload_n 3, 658, (3, 0, 0, 0, [])))]), (687, [(658, (.iconst 2, 659, (0, 0, 0, 2, []))), (659, (.iadd, 660, (0, 0, 0, 0, []))), (660, (.iaload, 661, (0, 0, 0, 0, []))), (661, (.invokevirtual 87, 664, (158, 2, 9, 1131, []))), (664, (.if_icmp .eq 347, 667, (1011, 0, 0, 0, []))), (667, (.iconst 0, 668, (0, 0, 0, 0, []))), (668, (.ireturn, 669, (0, 0, 1, 0, []))), (669, (.aload_n 1, 670, (1, 0, 0, 0, []))), (670, (.aload_n 0, 671, (0, 0, 0, 0, []))), (671, (.iload_n 3, 672, (3, 0, 0, 0, []))), (672, (.iconst 1, 673, (0, 0, 0, 1, []))), (673, (.iadd, 674, (0, 0, 0, 0, []))), (674, (.iaload, 675, (0, 0, 0, 0, []))), (675, (.aload_n 0, 676, (0, 0, 0, 0, []))), (676, (.iload_n 3, 677, (3, 0, 0, 0, []))), (677, (.iconst 2, 678, (0, 0, 0, 2, []))), (678, (.iadd, 679, (0, 0, 0, 0, []))), (679, (.iaload, 680, (0, 0, 0, 0, []))), (680, (.invokevirtual 88, 683, (95, 2, 8, 650, []))), (683, (.aload_n 2, 684, (2, 0, 0, 0, []))), (684, (.aload_n 0, 685, (0, 0, 0, 0, []))), (685, (.iload_n 3, 686, (3, 0, 0, 0, []))), (686, (.iconst 1, 687, (0, 0, 0, 1, []))), (687, (.iadd, 688, (0, 0, 0, 0, [])))]), (717, [(688, (.iaload, 689, (0, 0, 0, 0, []))), (689, (.aload_n 0, 690, (0, 0, 0, 0, []))), (690, (.iload_n 3, 691, (3, 0, 0, 0, []))), (691, (.iconst 2, 692, (0, 0, 0, 2, []))), (692, (.iadd, 693, (0, 0, 0, 0, []))), (693, (.iaload, 694, (0, 0, 0, 0, []))), (694, (.invokevirtual 92, 697, (160, 2, 9, 1139, []))), (697, (.lcmp, 698, (0, 0, 0, 0, []))), (698, (.ifCond .eq 313, 701, (1011, 0, 0, 0, []))), (701, (.iconst 0, 702, (0, 0, 0, 0, []))), (702, (.ireturn, 703, (0, 0, 1, 0, []))), (703, (.aload_n 1, 704, (1, 0, 0, 0, []))), (704, (.aload_n 0, 705, (0, 0, 0, 0, []))), (705, (.iload_n 3, 706, (3, 0, 0, 0, []))), (706, (.iconst 1, 707, (0, 0, 0, 1, []))), (707, (.iadd, 708, (0, 0, 0, 0, []))), (708, (.iaload, 709, (0, 0, 0, 0, []))), (709, (.aload_n 0, 710, (0, 0, 0, 0, []))), (710, (.iload_n 3, 711, (3, 0, 0, 0, []))), (711, (.iconst 2, 712, (0, 0, 0, 2, []))), (712, (.iadd, 713, (0, 0, 0, 0, []))), (713, (.iaload, 714, (0, 0, 0, 0, []))), (714, (.invokevirtual 93, 717, (96, 2, 8, 664, []))), (717, (.aload_n 2, 718, (2, 0, 0, 0, [])))]), (751, [(718, (.aload_n 0, 719, (0, 0, 0, 0, []))), (719, (.iload_n 3, 720, (3, 0, 0, 0, []))), (720, (.iconst 1, 721, (0, 0, 0, 1, []))), (721, (.iadd, 722, (0, 0, 0, 0, []))), (722, (.iaload, 723, (0, 0, 0, 0, []))), (723, (.aload_n 0, 724, (0, 0, 0, 0, []))), (724, (.iload_n 3, 725, (3, 0, 0, 0, []))), (725, (.iconst 2, 726, (0, 0, 0, 2, []))), (726, (.iadd, 727, (0, 0, 0, 0, []))), (727, (.iaload, 728, (0, 0, 0, 0, []))), (728, (.invokevirtual 96, 731, (163, 2, 9, 1151, []))), (731, (.if_icmp .eq 280, 734, (1011, 0, 0, 0, []))), (734, (.iconst 0, 735, (0, 0, 0, 0, []))), (735, (.ireturn, 736, (0, 0, 1, 0, []))), (736, (.aload_n 1, 737, (1, 0, 0, 0, []))), (737, (.invokevirtual 97, 740, (97, 0, 8, 674, []))), (740, (.aload_n 2, 741, (2, 0, 0, 0, []))), (741, (.invokevirtual 100, 744, (164, 0, 9, 1163, []))), (744, (.if_icmp .eq 267, 747, (1011, 0, 0, 0, []))), (747, (.iconst 0, 748, (0, 0, 0, 0, []))), (748, (.ireturn, 749, (0, 0, 1, 0, []))), (749, (.aload_n 1, 750, (1, 0, 0, 0, []))), (750, (.aload_n 0, 751, (0, 0, 0, 0, []))), (751, (.iload_n 3, 752, (3, 0, 0, 0, [])))]), (781, [(752, (.iconst 1, 753, (0, 0, 0, 1, []))), (753, (.iadd, 754, (0, 0, 0, 0, []))), (754, (.iaload, 755, (0, 0, 0, 0, []))), (755, (.aload_n 0, 756, (0, 0, 0, 0, []))), (756, (.iload_n 3, 757, (3, 0, 0, 0, []))), (757, (.iconst 2, 758, (0, 0, 0, 2, []))), (758, (.iadd, 759, (0, 0, 0, 0, []))), (759, (.iaload, 760, (0, 0, 0, 0, []))), (760, (.invokevirtual 101, 763, (98, 2, 8, 687, []))), (763, (.aload_n 2, 764, (2, 0, 0, 0, []))), (764, (.aload_n 0, 765, (0, 0, 0, 0, []))), (765, (.iload_n 3, 766, (3, 0, 0, 0, []))), (766, (.iconst 1, 767, (0, 0, 0, 1, []))), (767, (.iadd, 768, (0, 0, 0, 0, []))), (768, (.iaload, 769, (0, 0, 0, 0, []))), (769, (.aload_n 0, 770, (0, 0, 0, 0, []))), (770, (.iload_n 3, 771, (3, 0, 0, 0, []))), (771, (.iconst 2, 772, (0, 0, 0, 2, []))), (772, (.iadd, 773, (0, 0, 0, 0, []))), (773, (.iaload, 774, (0, 0, 0, 0, []))), (774, (.invokevirtual 104, 777, (165, 2, 9, 1167, []))), (777, (.if_icmp .eq 234, 780, (1011, 0, 0, 0, []))), (780, (.iconst 0, 781, (0, 0, 0, 0, []))), (781, (.ireturn, 782, (0, 0, 1, 0, [])))]), (807, [(782, (.aload_n 1, 783, (1, 0, 0, 0, []))), (783, (.aload_n 0, 784, (0, 0, 0, 0, []))), (784, (.iload_n 3, 785, (3, 0, 0, 0, []))), (785, (.iconst 1, 786, (0, 0, 0, 1, []))), (786, (.iadd, 787, (0, 0, 0, 0, []))), (787, (.iaload, 788, (0, 0, 0, 0, []))), (788, (.aload_n 0, 789, (0, 0, 0, 0, []))), (789, (.iload_n 3, 790, (3, 0, 0, 0, []))), (790, (.iconst 2, 791, (0, 0, 0, 2, []))), (791, (.iadd, 792, (0, 0, 0, 0, []))), (792, (.iaload, 793, (0, 0, 0, 0, []))), (793, (.invokevirtual 105, 796, (99, 2, 8, 691, []))), (796, (.aload_n 2, 797, (2, 0, 0, 0, []))), (797, (.aload_n 0, 798, (0, 0, 0, 0, []))), (798, (.iload_n 3, 799, (3, 0, 0, 0, []))), (799, (.iconst 1, 800, (0, 0, 0, 1, []))), (800, (.iadd, 801, (0, 0, 0, 0, []))), (801, (.iaload, 802, (0, 0, 0, 0, []))), (802, (.aload_n 0, 803, (0, 0, 0, 0, []))), (803, (.iload_n 3, 804, (3, 0, 0, 0, []))), (804, (.iconst 2, 805, (0, 0, 0, 2, []))), (805, (.iadd, 806, (0, 0, 0, 0, []))), (806, (.iaload, 807, (0, 0, 0, 0, []))), (807, (.invokevirtual 108, 810, (166, 2, 9, 1171, [])))]), (841, [(810, (.if_icmp .eq 201, 813, (1011, 0, 0, 0, []))), (813, (.iconst 0, 814, (0, 0, 0, 0, []))), (814, (.ireturn, 815, (0, 0, 1, 0, []))), (815, (.aload_n 1, 816, (1, 0, 0, 0, []))), (816, (.aload_n 0, 817, (0, 0, 0, 0, []))), (817, (.iload_n 3, 818, (3, 0, 0, 0, []))), (818, (.iconst 1, 819, (0, 0, 0, 1, []))), (819, (.iadd, 820, (0, 0, 0, 0, []))), (820, (.iaload, 821, (0, 0, 0, 0, []))), (821, (.invokevirtual 109, 824, (100, 1, 8, 695, []))), (824, (.aload_n 2, 825, (2, 0, 0, 0, []))), (825, (.aload_n 0, 826, (0, 0, 0, 0, []))), (826, (.iload_n 3, 827, (3, 0, 0, 0, []))), (827, (.iconst 1, 828, (0, 0, 0, 1, []))), (828, (.iadd, 829, (0, 0, 0, 0, []))), (829, (.iaload, 830, (0, 0, 0, 0, []))), (830, (.invokevirtual 113, 833, (178, 1, 9, 1176, []))), (833, (.lcmp, 834, (0, 0, 0, 0, []))), (834, (.ifCond .eq 177, 837, (1011, 0, 0, 0, []))), (837, (.iconst 0, 838, (0, 0, 0, 0, []))), (838, (.ireturn, 839, (0, 0, 1, 0, []))), (839, (.aload_n 1, 840, (1, 0, 0, 0, []))), (840, (.aload_n 0, 841, (0, 0, 0, 0, []))), (841, (.iload_n 3, 842, (3, 0, 0, 0, [])))]), (867, [(842, (.iconst 1, 843, (0, 0, 0, 1, []))), (843, (.iadd, 844, (0, 0, 0, 0, []))), (844, (.iaload, 845, (0, 0, 0, 0, []))), (845, (.aload_n 0, 846, (0, 0, 0, 0, []))), (846, (.iload_n 3, 847, (3, 0, 0, 0, []))), (847, (.iconst 2, 848, (0, 0, 0, 2, []))), (848, (.iadd, 849, (0, 0, 0, 0, []))), (849, (.iaload, 850, (0, 0, 0, 0, []))), (850, (.aload_n 0, 851, (0, 0, 0, 0, []))), (851, (.iload_n 3, 852, (3, 0, 0, 0, []))), (852, (.iconst 3, 853, (0, 0, 0, 3, []))), (853, (.iadd, 854, (0, 0, 0, 0, []))), (854, (.iaload, 855, (0, 0, 0, 0, []))), (855, (.invokevirtual 114, 858, (101, 3, 8, 783, []))), (858, (.aload_n 2, 859, (2, 0, 0, 0, []))), (859, (.aload_n 0, 860, (0, 0, 0, 0, []))), (860, (.iload_n 3, 861, (3, 0, 0, 0, []))), (861, (.iconst 1, 862, (0, 0, 0, 1, []))), (862, (.iadd, 863, (0, 0, 0, 0, []))), (863, (.iaload, 864, (0, 0, 0, 0, []))), (864, (.aload_n 0, 865, (0, 0, 0, 0, []))), (865, (.iload_n 3, 866, (3, 0, 0, 0, []))), (866, (.iconst 2, 867, (0, 0, 0, 2, []))), (867, (.iadd, 868, (0, 0, 0, 0, [])))]), (897, [(868, (.iaload, 869, (0, 0, 0, 0, []))), (869, (.aload_n 0, 870, (0, 0, 0, 0, []))), (870, (.iload_n 3, 871, (3, 0, 0, 0, []))), (871, (.iconst 3, 872, (0, 0, 0, 3, []))), (872, (.iadd, 873, (0, 0, 0, 0, []))), (873, (.iaload, 874, (0, 0, 0, 0, []))), (874, (.invokevirtual 118, 877, (179, 3, 9, 1226, []))), (877, (.lcmp, 878, (0, 0, 0, 0, []))), (878, (.ifCond .eq 133, 881, (1011, 0, 0, 0, []))), (881, (.iconst 0, 882, (0, 0, 0, 0, []))), (882, (.ireturn, 883, (0, 0, 1, 0, []))), (883, (.aload_n 1, 884, (1, 0, 0, 0, []))), (884, (.aload_n 0, 885, (0, 0, 0, 0, []))), (885, (.iload_n 3, 886, (3, 0, 0, 0, []))), (886, (.iconst 1, 887, (0, 0, 0, 1, []))), (887, (.iadd, 888, (0, 0, 0, 0, []))), (888, (.iaload, 889, (0, 0, 0, 0, []))), (889, (.aload_n 0, 890, (0, 0, 0, 0, []))), (890, (.iload_n 3, 891, (3, 0, 0, 0, []))), (891, (.iconst 2, 892, (0, 0, 0, 2, []))), (892, (.iadd, 893, (0, 0, 0, 0, []))), (893, (.iaload, 894, (0, 0, 0, 0, []))), (894, (.invokevirtual 119, 897, (102, 2, 8, 787, []))), (897, (.aload_n 2, 898, (2, 0, 0, 0, [])))]), (931, [(898, (.aload_n 0, 899, (0, 0, 0, 0, []))), (899, (.iload_n 3, 900, (3, 0, 0, 0, []))), (900, (.iconst 1, 901, (0, 0, 0, 1, []))), (901, (.iadd, 902, (0, 0, 0, 0, []))), (902, (.iaload, 903, (0, 0, 0, 0, []))), (903, (.aload_n 0, 904, (0, 0, 0, 0, []))), (904, (.iload_n 3, 905, (3, 0, 0, 0, []))), (905, (.iconst 2, 906, (0, 0, 0, 2, []))), (906, (.iadd, 907, (0, 0, 0, 0, []))), (907, (.iaload, 908, (0, 0, 0, 0, []))), (908, (.invokevirtual 122, 911, (180, 2, 9, 1230, []))), (911, (.if_icmp .eq 100, 914, (1011, 0, 0, 0, []))), (914, (.iconst 0, 915, (0, 0, 0, 0, []))), (915, (.ireturn, 916, (0, 0, 1, 0, []))), (916, (.aload_n 1, 917, (1, 0, 0, 0, []))), (917, (.invokevirtual 123, 920, (103, 0, 8, 791, []))), (920, (.aload_n 2, 921, (2, 0, 0, 0, []))), (921, (.invokevirtual 126, 924, (181, 0, 9, 1235, []))), (924, (.if_icmp .eq 87, 927, (1011, 0, 0, 0, []))), (927, (.iconst 0, 928, (0, 0, 0, 0, []))), (928, (.ireturn, 929, (0, 0, 1, 0, []))), (929, (.aload_n 1, 930, (1, 0, 0, 0, []))), (930, (.aload_n 0, 931, (0, 0, 0, 0, []))), (931, (.iload_n 3, 932, (3, 0, 0, 0, [])))]), (961, [(932, (.iconst 1, 933, (0, 0, 0, 1, []))), (933, (.iadd, 934, (0, 0, 0, 0, []))), (934, (.iaload, 935, (0, 0, 0, 0, []))), (935, (.aload_n 0, 936, (0, 0, 0, 0, []))), (936, (.iload_n 3, 937, (3, 0, 0, 0, []))), (937, (.iconst 2, 938, (0, 0, 0, 2, []))), (938, (.iadd, 939, (0, 0, 0, 0, []))), (939, (.iaload, 940, (0, 0, 0, 0, []))), (940, (.invokevirtual 127, 943, (104, 2, 8, 800, []))), (943, (.aload_n 2, 944, (2, 0, 0, 0, []))), (944, (.aload_n 0, 945, (0, 0, 0, 0, []))), (945, (.iload_n 3, 946, (3, 0, 0, 0, []))), (946, (.iconst 1, 947, (0, 0, 0, 1, []))), (947, (.iadd, 948, (0, 0, 0, 0, []))), (948, (.iaload, 949, (0, 0, 0, 0, []))), (949, (.aload_n 0, 950, (0, 0, 0, 0, []))), (950, (.iload_n 3, 951, (3, 0, 0, 0, []))), (951, (.iconst 2, 952, (0, 0, 0, 2, []))), (952, (.iadd, 953, (0, 0, 0, 0, []))), (953, (.iaload, 954, (0, 0, 0, 0, []))), (954, (.invokevirtual 130, 957, (182, 2, 9, 1239, []))), (957, (.if_icmp .eq 54, 960, (1011, 0, 0, 0, []))), (960, (.iconst 0, 961, (0, 0, 0, 0, []))), (961, (.ireturn, 962, (0, 0, 1, 0, [])))]), (999, [(962, (.aload_n 1, 963, (1, 0, 0, 0, []))), (963, (.invokevirtual 131, 966, (105, 0, 8, 822, []))), (966, (.aload_n 2, 967, (2, 0, 0, 0, []))), (967, (.invokevirtual 134, 970, (184, 0, 9, 1245, []))), (970, (.if_icmp .eq 41, 973, (1011, 0, 0, 0, []))), (973, (.iconst 0, 974, (0, 0, 0, 0, []))), (974, (.ireturn, 975, (0, 0, 1, 0, []))), (975, (.aload_n 1, 976, (1, 0, 0, 0, []))), (976, (.invokevirtual 135, 979, (106, 0, 8, 831, []))), (979, (.aload_n 2, 980, (2, 0, 0, 0, []))), (980, (.invokevirtual 138, 983, (185, 0, 9, 1253, []))), (983, (.if_icmp .eq 28, 986, (1011, 0, 0, 0, []))), (986, (.iconst 0, 987, (0, 0, 0, 0, []))), (987, (.ireturn, 988, (0, 0, 1, 0, []))), (988, (.aload_n 1, 989, (1, 0, 0, 0, []))), (989, (.aload_n 0, 990, (0, 0, 0, 0, []))), (990, (.iload_n 3, 991, (3, 0, 0, 0, []))), (991, (.iconst 1, 992, (0, 0, 0, 1, []))), (992, (.iadd, 993, (0, 0, 0, 0, []))), (993, (.iaload, 994, (0, 0, 0, 0, []))), (994, (.invokevirtual 139, 997, (107, 1, 8, 835, []))), (997, (.aload_n 2, 998, (2, 0, 0, 0, []))), (998, (.aload_n 0, 999, (0, 0, 0, 0, []))), (999, (.iload_n 3, 1000, (3, 0, 0, 0, [])))]), (1018, [(1000, (.iconst 1, 1001, (0, 0, 0, 1, []))), (1001, (.iadd, 1002, (0, 0, 0, 0, []))), (1002, (.iaload, 1003, (0, 0, 0, 0, []))), (1003, (.invokevirtual 142, 1006, (186, 1, 9, 1257, []))), (1006, (.if_icmp .eq 5, 1009, (1011, 0, 0, 0, []))), (1009, (.iconst 0, 1010, (0, 0, 0, 0, []))), (1010, (.ireturn, 1011, (0, 0, 1, 0, []))), (1011, (.iinc 3 4, 1014, (3, 0, 0, 4, []))), (1014, (.goto (-996), 1017, (18, 0, 0, 0, []))), (1017, (.iconst 1, 1018, (0, 0, 0, 1, []))), (1018, (.ireturn, 1019, (0, 0, 1, 0, [])))])]
def me_X0_init : bg_M := (⟨"BorderGuards$Cuts", "<init>", "()V"⟩, prog_2_method_1_code, 1, none, cd_X0_init, (bg_mc 0), 0)
def me_X1_init : bg_M := (⟨"BorderGuards$Game", "<init>", "()V"⟩, prog_3_method_1_code, 1, none, cd_X1_init, (bg_mc 1), 1)
def me_X2_init : bg_M := (⟨"BorderGuards$Land", "<init>", "()V"⟩, prog_4_method_1_code, 1, none, cd_X2_init, (bg_mc 2), 2)
def me_X3_init : bg_M := (⟨"BorderGuards$Lots", "<init>", "()V"⟩, prog_5_method_1_code, 1, none, cd_X3_init, (bg_mc 3), 3)
def me_X4_init : bg_M := (⟨"BorderGuards$Plans", "<init>", "()V"⟩, prog_6_method_1_code, 1, none, cd_X4_init, (bg_mc 4), 4)
def me_X5_init : bg_M := (⟨"BorderGuards$Rounds", "<init>", "()V"⟩, prog_7_method_1_code, 1, none, cd_X5_init, (bg_mc 5), 5)
def me_X6_init : bg_M := (⟨"BorderGuards$Script", "<init>", "()V"⟩, prog_8_method_1_code, 1, none, cd_X6_init, (bg_mc 6), 6)
def me_X7_init : bg_M := (⟨"BorderGuards$Ways", "<init>", "()V"⟩, prog_9_method_1_code, 1, none, cd_X7_init, (bg_mc 7), 7)
def me_X8_init : bg_M := (⟨"BorderGuards", "<init>", "()V"⟩, prog_1_method_1_code, 2, none, cd_X8_init, (bg_mc 8), 8)
def me_X9_init : bg_M := (⟨"BorderGuardsModel", "<init>", "()V"⟩, prog_11_method_1_code, 1, none, cd_X9_init, (bg_mc 9), 9)
def me_X0_survey : bg_M := (⟨"BorderGuards$Cuts", "survey", "(LBorderGuards$Land;)V"⟩, prog_2_method_2_code, 8, none, cd_X0_survey, (0, 0), 10)
def me_X0_weigh : bg_M := (⟨"BorderGuards$Cuts", "weigh", "(LBorderGuards$Land;II)V"⟩, prog_2_method_3_code, 6, none, cd_X0_weigh, (0, 0), 11)
def me_X0_outOfShore : bg_M := (⟨"BorderGuards$Cuts", "outOfShore", "()I"⟩, prog_2_method_4_code, 1, (some .int), cd_X0_outOfShore, (0, 0), 12)
def me_X0_isNeeded : bg_M := (⟨"BorderGuards$Cuts", "isNeeded", "(I)Z"⟩, prog_2_method_5_code, 4, (some .boolean), cd_X0_isNeeded, (0, 0), 13)
def me_X0_sumOver : bg_M := (⟨"BorderGuards$Cuts", "sumOver", "(I)I"⟩, prog_2_method_6_code, 4, (some .int), cd_X0_sumOver, (0, 0), 14)
def me_X0_placesOf : bg_M := (⟨"BorderGuards$Cuts", "placesOf", "(I)I"⟩, prog_2_method_7_code, 1, (some .int), cd_X0_placesOf, (0, 0), 15)
def me_X1_findSupport : bg_M := (⟨"BorderGuards$Game", "findSupport", "(II)Z"⟩, prog_3_method_2_code, 5, (some .boolean), cd_X1_findSupport, (0, 0), 16)
def me_X1_findCarriers : bg_M := (⟨"BorderGuards$Game", "findCarriers", "(IIII)Z"⟩, prog_3_method_3_code, 6, (some .boolean), cd_X1_findCarriers, (0, 0), 17)
def me_X1_isSetOf : bg_M := (⟨"BorderGuards$Game", "isSetOf", "(III)Z"⟩, prog_3_method_4_code, 3, (some .boolean), cd_X1_isSetOf, (0, 0), 18)
def me_X1_mixes : bg_M := (⟨"BorderGuards$Game", "mixes", "(II)Z"⟩, prog_3_method_5_code, 7, (some .boolean), cd_X1_mixes, (0, 0), 19)
def me_X1_turnSigns : bg_M := (⟨"BorderGuards$Game", "turnSigns", "()V"⟩, prog_3_method_6_code, 2, none, cd_X1_turnSigns, (0, 0), 20)
def me_X1_areAllAbove0 : bg_M := (⟨"BorderGuards$Game", "areAllAbove0", "([JI)Z"⟩, prog_3_method_7_code, 3, (some .boolean), cd_X1_areAllAbove0, (0, 0), 21)
def me_X1_signedMinor : bg_M := (⟨"BorderGuards$Game", "signedMinor", "(IIII)J"⟩, prog_3_method_8_code, 9, (some .long), cd_X1_signedMinor, (0, 0), 22)
def me_X1_fillLine : bg_M := (⟨"BorderGuards$Game", "fillLine", "(III)V"⟩, prog_3_method_9_code, 6, none, cd_X1_fillLine, (0, 0), 23)
def me_X1_minorOf : bg_M := (⟨"BorderGuards$Game", "minorOf", "(I)J"⟩, prog_3_method_10_code, 2, (some .long), cd_X1_minorOf, (0, 0), 24)
def me_X1_noneDoesBetter : bg_M := (⟨"BorderGuards$Game", "noneDoesBetter", "(II)Z"⟩, prog_3_method_11_code, 4, (some .boolean), cd_X1_noneDoesBetter, (0, 0), 25)
def me_X1_meanBy : bg_M := (⟨"BorderGuards$Game", "meanBy", "(I)J"⟩, prog_3_method_12_code, 5, (some .long), cd_X1_meanBy, (0, 0), 26)
def me_X1_meanOf : bg_M := (⟨"BorderGuards$Game", "meanOf", "(I)J"⟩, prog_3_method_13_code, 5, (some .long), cd_X1_meanOf, (0, 0), 27)
def me_X1_lowest : bg_M := (⟨"BorderGuards$Game", "lowest", "(JI)J"⟩, prog_3_method_14_code, 11, (some .long), cd_X1_lowest, (0, 0), 28)
def me_X1_worthOfBeingTold : bg_M := (⟨"BorderGuards$Game", "worthOfBeingTold", "([I)I"⟩, prog_3_method_15_code, 8, (some .int), cd_X1_worthOfBeingTold, (0, 0), 29)
def me_X2_clear : bg_M := (⟨"BorderGuards$Land", "clear", "()V"⟩, prog_4_method_2_code, 2, none, cd_X2_clear, (0, 0), 30)
def me_X2_copy : bg_M := (⟨"BorderGuards$Land", "copy", "(LBorderGuards$Land;)V"⟩, prog_4_method_3_code, 3, none, cd_X2_copy, (0, 0), 31)
def me_X2_takes : bg_M := (⟨"BorderGuards$Land", "takes", "(I[II)Z"⟩, prog_4_method_4_code, 4, (some .boolean), cd_X2_takes, (0, 0), 32)
def me_X2_takesNumber : bg_M := (⟨"BorderGuards$Land", "takesNumber", "(II)Z"⟩, prog_4_method_5_code, 3, (some .boolean), cd_X2_takesNumber, (0, 0), 33)
def me_X2_takesPath : bg_M := (⟨"BorderGuards$Land", "takesPath", "([I)Z"⟩, prog_4_method_6_code, 3, (some .boolean), cd_X2_takesPath, (0, 0), 34)
def me_X2_takesTower : bg_M := (⟨"BorderGuards$Land", "takesTower", "(III)Z"⟩, prog_4_method_7_code, 4, (some .boolean), cd_X2_takesTower, (0, 0), 35)
def me_X2_hasPath : bg_M := (⟨"BorderGuards$Land", "hasPath", "(I)Z"⟩, prog_4_method_8_code, 2, (some .boolean), cd_X2_hasPath, (0, 0), 36)
def me_X2_hasPosts : bg_M := (⟨"BorderGuards$Land", "hasPosts", "(I)Z"⟩, prog_4_method_9_code, 3, (some .boolean), cd_X2_hasPosts, (0, 0), 37)
def me_X2_costOf : bg_M := (⟨"BorderGuards$Land", "costOf", "(I)I"⟩, prog_4_method_10_code, 4, (some .int), cd_X2_costOf, (0, 0), 38)
def me_X2_heldBy : bg_M := (⟨"BorderGuards$Land", "heldBy", "(I)I"⟩, prog_4_method_11_code, 4, (some .int), cd_X2_heldBy, (0, 0), 39)
def me_X2_waitsOf : bg_M := (⟨"BorderGuards$Land", "waitsOf", "(I)I"⟩, prog_4_method_12_code, 4, (some .int), cd_X2_waitsOf, (0, 0), 40)
def me_X2_bearing : bg_M := (⟨"BorderGuards$Land", "bearing", "(III)I"⟩, prog_4_method_13_code, 4, (some .int), cd_X2_bearing, (0, 0), 41)
def me_X2_comesMoreThanGoes : bg_M := (⟨"BorderGuards$Land", "comesMoreThanGoes", "(I[I)I"⟩, prog_4_method_16_code, 5, (some .int), cd_X2_comesMoreThanGoes, (0, 0), 42)
def me_X3_clear : bg_M := (⟨"BorderGuards$Lots", "clear", "()V"⟩, prog_5_method_2_code, 1, none, cd_X3_clear, (0, 0), 43)
def me_X3_copy : bg_M := (⟨"BorderGuards$Lots", "copy", "(LBorderGuards$Lots;)V"⟩, prog_5_method_3_code, 2, none, cd_X3_copy, (0, 0), 44)
def me_X3_toldGuards : bg_M := (⟨"BorderGuards$Lots", "toldGuards", "()I"⟩, prog_5_method_4_code, 1, (some .int), cd_X3_toldGuards, (0, 0), 45)
def me_X3_toldCarriers : bg_M := (⟨"BorderGuards$Lots", "toldCarriers", "()I"⟩, prog_5_method_5_code, 1, (some .int), cd_X3_toldCarriers, (0, 0), 46)
def me_X3_toldOf : bg_M := (⟨"BorderGuards$Lots", "toldOf", "([I)I"⟩, prog_5_method_6_code, 3, (some .int), cd_X3_toldOf, (0, 0), 47)
def me_X4_forget : bg_M := (⟨"BorderGuards$Plans", "forget", "()V"⟩, prog_6_method_2_code, 1, none, cd_X4_forget, (0, 0), 48)
def me_X4_prepare : bg_M := (⟨"BorderGuards$Plans", "prepare", "(LBorderGuards$Land;LBorderGuards$Cuts;)V"⟩, prog_6_method_3_code, 4, none, cd_X4_prepare, (0, 0), 49)
def me_X4_bestFor : bg_M := (⟨"BorderGuards$Plans", "bestFor", "(I)I"⟩, prog_6_method_4_code, 2, (some .int), cd_X4_bestFor, (0, 0), 50)
def me_X4_leastFor : bg_M := (⟨"BorderGuards$Plans", "leastFor", "(I)I"⟩, prog_6_method_5_code, 2, (some .int), cd_X4_leastFor, (0, 0), 51)
def me_X4_lowerMost : bg_M := (⟨"BorderGuards$Plans", "lowerMost", "(LBorderGuards$Land;I)V"⟩, prog_6_method_6_code, 7, none, cd_X4_lowerMost, (0, 0), 52)
def me_X4_sumNumbers : bg_M := (⟨"BorderGuards$Plans", "sumNumbers", "(LBorderGuards$Land;I)V"⟩, prog_6_method_7_code, 4, none, cd_X4_sumNumbers, (0, 0), 53)
def me_X4_sumAddends : bg_M := (⟨"BorderGuards$Plans", "sumAddends", "(I)V"⟩, prog_6_method_8_code, 6, none, cd_X4_sumAddends, (0, 0), 54)
def me_X4_offerAll : bg_M := (⟨"BorderGuards$Plans", "offerAll", "(LBorderGuards$Land;I)V"⟩, prog_6_method_9_code, 8, none, cd_X4_offerAll, (0, 0), 55)
def me_X4_spreadBest : bg_M := (⟨"BorderGuards$Plans", "spreadBest", "()V"⟩, prog_6_method_10_code, 4, none, cd_X4_spreadBest, (0, 0), 56)
def me_X4_weigh : bg_M := (⟨"BorderGuards$Plans", "weigh", "(LBorderGuards$Land;II)V"⟩, prog_6_method_11_code, 7, none, cd_X4_weigh, (0, 0), 57)
def me_X4_leastPaying : bg_M := (⟨"BorderGuards$Plans", "leastPaying", "(LBorderGuards$Land;LBorderGuards$Ways;)I"⟩, prog_6_method_12_code, 11, (some .int), cd_X4_leastPaying, (0, 0), 58)
def me_X5_begin : bg_M := (⟨"BorderGuards$Rounds", "begin", "(III)V"⟩, prog_7_method_2_code, 4, none, cd_X5_begin, (0, 0), 59)
def me_X5_leastSum : bg_M := (⟨"BorderGuards$Rounds", "leastSum", "(IIZ)I"⟩, prog_7_method_3_code, 7, (some .int), cd_X5_leastSum, (0, 0), 60)
def me_X5_leastBefore : bg_M := (⟨"BorderGuards$Rounds", "leastBefore", "(IIZ)I"⟩, prog_7_method_4_code, 7, (some .int), cd_X5_leastBefore, (0, 0), 61)
def me_X6_hasRoomFor : bg_M := (⟨"BorderGuards$Script", "hasRoomFor", "(I)Z"⟩, prog_8_method_2_code, 2, (some .boolean), cd_X6_hasRoomFor, (0, 0), 62)
def me_X6_append : bg_M := (⟨"BorderGuards$Script", "append", "(IJ)V"⟩, prog_8_method_3_code, 5, none, cd_X6_append, (0, 0), 63)
def me_X6_readInto : bg_M := (⟨"BorderGuards$Script", "readInto", "(LBorderGuards$Land;)I"⟩, prog_8_method_4_code, 6, (some .int), cd_X6_readInto, (0, 0), 64)
def me_X6_readNumbers : bg_M := (⟨"BorderGuards$Script", "readNumbers", "()I"⟩, prog_8_method_5_code, 4, (some .int), cd_X6_readNumbers, (0, 0), 65)
def me_X6_readNumber : bg_M := (⟨"BorderGuards$Script", "readNumber", "()I"⟩, prog_8_method_6_code, 3, (some .int), cd_X6_readNumber, (0, 0), 66)
def me_X6_nextByte : bg_M := (⟨"BorderGuards$Script", "nextByte", "()I"⟩, prog_8_method_7_code, 2, (some .int), cd_X6_nextByte, (0, 0), 67)
def me_X6_isFigure : bg_M := (⟨"BorderGuards$Script", "isFigure", "(I)Z"⟩, prog_8_method_8_code, 1, (some .boolean), cd_X6_isFigure, (0, 0), 68)
def me_X7_survey : bg_M := (⟨"BorderGuards$Ways", "survey", "(LBorderGuards$Land;)V"⟩, prog_9_method_2_code, 2, none, cd_X7_survey, (0, 0), 69)
def me_X7_follow : bg_M := (⟨"BorderGuards$Ways", "follow", "(LBorderGuards$Ways;LBorderGuards$Land;III)V"⟩, prog_9_method_3_code, 7, none, cd_X7_follow, (0, 0), 70)
def me_X7_add : bg_M := (⟨"BorderGuards$Ways", "add", "(LBorderGuards$Land;I)V"⟩, prog_9_method_4_code, 6, none, cd_X7_add, (0, 0), 71)
def me_X7_lengthOf : bg_M := (⟨"BorderGuards$Ways", "lengthOf", "(I)I"⟩, prog_9_method_5_code, 2, (some .int), cd_X7_lengthOf, (0, 0), 72)
def me_X7_pathAt : bg_M := (⟨"BorderGuards$Ways", "pathAt", "(II)I"⟩, prog_9_method_6_code, 3, (some .int), cd_X7_pathAt, (0, 0), 73)
def me_X7_leastBearing : bg_M := (⟨"BorderGuards$Ways", "leastBearing", "(LBorderGuards$Land;II)I"⟩, prog_9_method_7_code, 7, (some .int), cd_X7_leastBearing, (0, 0), 74)
def me_X7_gainOf : bg_M := (⟨"BorderGuards$Ways", "gainOf", "(LBorderGuards$Land;II)J"⟩, prog_9_method_8_code, 7, (some .long), cd_X7_gainOf, (0, 0), 75)
def me_X7_bestOf : bg_M := (⟨"BorderGuards$Ways", "bestOf", "(LBorderGuards$Land;I)I"⟩, prog_9_method_9_code, 9, (some .int), cd_X7_bestOf, (0, 0), 76)
def me_X7_greatestGain : bg_M := (⟨"BorderGuards$Ways", "greatestGain", "(LBorderGuards$Land;IJ)J"⟩, prog_9_method_10_code, 10, (some .long), cd_X7_greatestGain, (0, 0), 77)
def me_X8_write : bg_M := (⟨"BorderGuards", "write", "(IJ)I"⟩, prog_1_method_2_code, 4, (some .int), cd_X8_write, (0, 0), 78)
def me_X8_wipe : bg_M := (⟨"BorderGuards", "wipe", "()I"⟩, prog_1_method_3_code, 2, (some .int), cd_X8_wipe, (0, 0), 79)
def me_X8_fault : bg_M := (⟨"BorderGuards", "fault", "()I"⟩, prog_1_method_4_code, 2, (some .int), cd_X8_fault, (0, 0), 80)
def me_X8_lay : bg_M := (⟨"BorderGuards", "lay", "()I"⟩, prog_1_method_5_code, 1, (some .int), cd_X8_lay, (0, 0), 81)
def me_X8_path : bg_M := (⟨"BorderGuards", "path", "(II)I"⟩, prog_1_method_6_code, 3, (some .int), cd_X8_path, (0, 0), 82)
def me_X8_posts : bg_M := (⟨"BorderGuards", "posts", "(II)I"⟩, prog_1_method_7_code, 4, (some .int), cd_X8_posts, (0, 0), 83)
def me_X8_bears : bg_M := (⟨"BorderGuards", "bears", "(II)I"⟩, prog_1_method_8_code, 3, (some .int), cd_X8_bears, (0, 0), 84)
def me_X8_most : bg_M := (⟨"BorderGuards", "most", "(II)I"⟩, prog_1_method_9_code, 4, (some .int), cd_X8_most, (0, 0), 85)
def me_X8_row : bg_M := (⟨"BorderGuards", "row", "(II)I"⟩, prog_1_method_10_code, 4, (some .int), cd_X8_row, (0, 0), 86)
def me_X8_judge : bg_M := (⟨"BorderGuards", "judge", "(I)I"⟩, prog_1_method_11_code, 4, (some .int), cd_X8_judge, (0, 0), 87)
def me_X8_best : bg_M := (⟨"BorderGuards", "best", "(II)I"⟩, prog_1_method_12_code, 4, (some .int), cd_X8_best, (0, 0), 88)
def me_X8_fewest : bg_M := (⟨"BorderGuards", "fewest", "(I)I"⟩, prog_1_method_13_code, 3, (some .int), cd_X8_fewest, (0, 0), 89)
def me_X8_more : bg_M := (⟨"BorderGuards", "more", "()I"⟩, prog_1_method_14_code, 1, (some .int), cd_X8_more, (0, 0), 90)
def me_X8_oneMore : bg_M := (⟨"BorderGuards", "oneMore", "(II)I"⟩, prog_1_method_15_code, 4, (some .int), cd_X8_oneMore, (0, 0), 91)
def me_X8_weighed : bg_M := (⟨"BorderGuards", "weighed", "(III)I"⟩, prog_1_method_16_code, 4, (some .int), cd_X8_weighed, (0, 0), 92)
def me_X8_way : bg_M := (⟨"BorderGuards", "way", "(II)I"⟩, prog_1_method_17_code, 4, (some .int), cd_X8_way, (0, 0), 93)
def me_X8_through : bg_M := (⟨"BorderGuards", "through", "(II)I"⟩, prog_1_method_18_code, 3, (some .int), cd_X8_through, (0, 0), 94)
def me_X8_gain : bg_M := (⟨"BorderGuards", "gain", "(II)J"⟩, prog_1_method_19_code, 3, (some .long), cd_X8_gain, (0, 0), 95)
def me_X8_bestWay : bg_M := (⟨"BorderGuards", "bestWay", "(II)I"⟩, prog_1_method_20_code, 5, (some .int), cd_X8_bestWay, (0, 0), 96)
def me_X8_leastPay : bg_M := (⟨"BorderGuards", "leastPay", "()I"⟩, prog_1_method_21_code, 1, (some .int), cd_X8_leastPay, (0, 0), 97)
def me_X8_guard : bg_M := (⟨"BorderGuards", "guard", "(II)I"⟩, prog_1_method_22_code, 4, (some .int), cd_X8_guard, (0, 0), 98)
def me_X8_carrier : bg_M := (⟨"BorderGuards", "carrier", "(II)I"⟩, prog_1_method_23_code, 4, (some .int), cd_X8_carrier, (0, 0), 99)
def me_X8_value : bg_M := (⟨"BorderGuards", "value", "(I)J"⟩, prog_1_method_24_code, 2, (some .long), cd_X8_value, (0, 0), 100)
def me_X8_chance : bg_M := (⟨"BorderGuards", "chance", "(III)J"⟩, prog_1_method_25_code, 5, (some .long), cd_X8_chance, (0, 0), 101)
def me_X8_tenths : bg_M := (⟨"BorderGuards", "tenths", "(II)I"⟩, prog_1_method_26_code, 4, (some .int), cd_X8_tenths, (0, 0), 102)
def me_X8_told : bg_M := (⟨"BorderGuards", "told", "()I"⟩, prog_1_method_27_code, 3, (some .int), cd_X8_told, (0, 0), 103)
def me_X8_nights : bg_M := (⟨"BorderGuards", "nights", "(II)I"⟩, prog_1_method_28_code, 5, (some .int), cd_X8_nights, (0, 0), 104)
def me_X8_keep : bg_M := (⟨"BorderGuards", "keep", "()I"⟩, prog_1_method_29_code, 1, (some .int), cd_X8_keep, (0, 0), 105)
def me_X8_back : bg_M := (⟨"BorderGuards", "back", "()I"⟩, prog_1_method_30_code, 1, (some .int), cd_X8_back, (0, 0), 106)
def me_X8_count : bg_M := (⟨"BorderGuards", "count", "(I)I"⟩, prog_1_method_31_code, 2, (some .int), cd_X8_count, (0, 0), 107)
def me_X8_survey : bg_M := (⟨"BorderGuards", "survey", "()V"⟩, prog_1_method_32_code, 1, none, cd_X8_survey, (0, 0), 108)
def me_X8_mostBy : bg_M := (⟨"BorderGuards", "mostBy", "(II)I"⟩, prog_1_method_33_code, 3, (some .int), cd_X8_mostBy, (0, 0), 109)
def me_X8_playGame : bg_M := (⟨"BorderGuards", "playGame", "()Z"⟩, prog_1_method_34_code, 1, (some .boolean), cd_X8_playGame, (0, 0), 110)
def me_X8_setUpGame : bg_M := (⟨"BorderGuards", "setUpGame", "()V"⟩, prog_1_method_35_code, 7, none, cd_X8_setUpGame, (0, 0), 111)
def me_X9_in : bg_M := (⟨"BorderGuardsModel", "in", "(JJJ)Z"⟩, prog_11_method_2_code, 6, (some .boolean), cd_X9_in, (0, 0), 112)
def me_X9_has : bg_M := (⟨"BorderGuardsModel", "has", "(II)Z"⟩, prog_11_method_3_code, 2, (some .boolean), cd_X9_has, (0, 0), 113)
def me_X9_bits : bg_M := (⟨"BorderGuardsModel", "bits", "(I)I"⟩, prog_11_method_4_code, 3, (some .int), cd_X9_bits, (0, 0), 114)
def me_X9_noLand : bg_M := (⟨"BorderGuardsModel", "noLand", "(I)V"⟩, prog_11_method_5_code, 2, none, cd_X9_noLand, (0, 0), 115)
def me_X9_noPlayers : bg_M := (⟨"BorderGuardsModel", "noPlayers", "()V"⟩, prog_11_method_6_code, 2, none, cd_X9_noPlayers, (0, 0), 116)
def me_X9_write : bg_M := (⟨"BorderGuardsModel", "write", "(IJ)I"⟩, prog_11_method_7_code, 5, (some .int), cd_X9_write, (0, 0), 117)
def me_X9_wipe : bg_M := (⟨"BorderGuardsModel", "wipe", "()I"⟩, prog_11_method_8_code, 2, (some .int), cd_X9_wipe, (0, 0), 118)
def me_X9_byteAt : bg_M := (⟨"BorderGuardsModel", "byteAt", "(I)I"⟩, prog_11_method_9_code, 2, (some .int), cd_X9_byteAt, (0, 0), 119)
def me_X9_figures : bg_M := (⟨"BorderGuardsModel", "figures", "(I)Z"⟩, prog_11_method_10_code, 5, (some .boolean), cd_X9_figures, (0, 0), 120)
def me_X9_pathItem : bg_M := (⟨"BorderGuardsModel", "pathItem", "()Z"⟩, prog_11_method_11_code, 2, (some .boolean), cd_X9_pathItem, (0, 0), 121)
def me_X9_towerItem : bg_M := (⟨"BorderGuardsModel", "towerItem", "()Z"⟩, prog_11_method_12_code, 2, (some .boolean), cd_X9_towerItem, (0, 0), 122)
def me_X9_item : bg_M := (⟨"BorderGuardsModel", "item", "()Z"⟩, prog_11_method_13_code, 2, (some .boolean), cd_X9_item, (0, 0), 123)
def me_X9_readAll : bg_M := (⟨"BorderGuardsModel", "readAll", "()I"⟩, prog_11_method_14_code, 2, (some .int), cd_X9_readAll, (0, 0), 124)
def me_X9_fault : bg_M := (⟨"BorderGuardsModel", "fault", "()I"⟩, prog_11_method_15_code, 1, (some .int), cd_X9_fault, (0, 0), 125)
def me_X9_copyLand : bg_M := (⟨"BorderGuardsModel", "copyLand", "(II)V"⟩, prog_11_method_16_code, 4, none, cd_X9_copyLand, (0, 0), 126)
def me_X9_lay : bg_M := (⟨"BorderGuardsModel", "lay", "()I"⟩, prog_11_method_17_code, 1, (some .int), cd_X9_lay, (0, 0), 127)
def me_X9_isPath : bg_M := (⟨"BorderGuardsModel", "isPath", "(I)Z"⟩, prog_11_method_18_code, 2, (some .boolean), cd_X9_isPath, (0, 0), 128)
def me_X9_path : bg_M := (⟨"BorderGuardsModel", "path", "(II)I"⟩, prog_11_method_19_code, 3, (some .int), cd_X9_path, (0, 0), 129)
def me_X9_arePosts : bg_M := (⟨"BorderGuardsModel", "arePosts", "(I)Z"⟩, prog_11_method_20_code, 3, (some .boolean), cd_X9_arePosts, (0, 0), 130)
def me_X9_costOf : bg_M := (⟨"BorderGuardsModel", "costOf", "(I)I"⟩, prog_11_method_21_code, 4, (some .int), cd_X9_costOf, (0, 0), 131)
def me_X9_heldBy : bg_M := (⟨"BorderGuardsModel", "heldBy", "(I)I"⟩, prog_11_method_22_code, 4, (some .int), cd_X9_heldBy, (0, 0), 132)
def me_X9_waitsBy : bg_M := (⟨"BorderGuardsModel", "waitsBy", "(I)I"⟩, prog_11_method_23_code, 4, (some .int), cd_X9_waitsBy, (0, 0), 133)
def me_X9_posts : bg_M := (⟨"BorderGuardsModel", "posts", "(II)I"⟩, prog_11_method_24_code, 3, (some .int), cd_X9_posts, (0, 0), 134)
def me_X9_bearsWith : bg_M := (⟨"BorderGuardsModel", "bearsWith", "(III)I"⟩, prog_11_method_25_code, 5, (some .int), cd_X9_bearsWith, (0, 0), 135)
def me_X9_bears : bg_M := (⟨"BorderGuardsModel", "bears", "(II)I"⟩, prog_11_method_26_code, 3, (some .int), cd_X9_bears, (0, 0), 136)
def me_X9_spread : bg_M := (⟨"BorderGuardsModel", "spread", "()Z"⟩, prog_11_method_27_code, 5, (some .boolean), cd_X9_spread, (0, 0), 137)
def me_X9_push : bg_M := (⟨"BorderGuardsModel", "push", "()I"⟩, prog_11_method_28_code, 6, (some .int), cd_X9_push, (0, 0), 138)
def me_X9_flow : bg_M := (⟨"BorderGuardsModel", "flow", "(II)I"⟩, prog_11_method_29_code, 4, (some .int), cd_X9_flow, (0, 0), 139)
def me_X9_mostBy : bg_M := (⟨"BorderGuardsModel", "mostBy", "(I)I"⟩, prog_11_method_30_code, 4, (some .int), cd_X9_mostBy, (0, 0), 140)
def me_X9_most : bg_M := (⟨"BorderGuardsModel", "most", "(II)I"⟩, prog_11_method_31_code, 6, (some .int), cd_X9_most, (0, 0), 141)
def me_X9_row : bg_M := (⟨"BorderGuardsModel", "row", "(II)I"⟩, prog_11_method_32_code, 4, (some .int), cd_X9_row, (0, 0), 142)
def me_X9_comeTo : bg_M := (⟨"BorderGuardsModel", "comeTo", "(I)I"⟩, prog_11_method_33_code, 4, (some .int), cd_X9_comeTo, (0, 0), 143)
def me_X9_judge : bg_M := (⟨"BorderGuardsModel", "judge", "(I)I"⟩, prog_11_method_34_code, 4, (some .int), cd_X9_judge, (0, 0), 144)
def me_X9_setMany : bg_M := (⟨"BorderGuardsModel", "setMany", "()I"⟩, prog_11_method_35_code, 1, (some .int), cd_X9_setMany, (0, 0), 145)
def me_X9_bestFor : bg_M := (⟨"BorderGuardsModel", "bestFor", "(I)I"⟩, prog_11_method_36_code, 4, (some .int), cd_X9_bestFor, (0, 0), 146)
def me_X9_best : bg_M := (⟨"BorderGuardsModel", "best", "(II)I"⟩, prog_11_method_37_code, 4, (some .int), cd_X9_best, (0, 0), 147)
def me_X9_fewest : bg_M := (⟨"BorderGuardsModel", "fewest", "(I)I"⟩, prog_11_method_38_code, 5, (some .int), cd_X9_fewest, (0, 0), 148)
def me_X9_more : bg_M := (⟨"BorderGuardsModel", "more", "()I"⟩, prog_11_method_39_code, 1, (some .int), cd_X9_more, (0, 0), 149)
def me_X9_oneMore : bg_M := (⟨"BorderGuardsModel", "oneMore", "(II)I"⟩, prog_11_method_40_code, 5, (some .int), cd_X9_oneMore, (0, 0), 150)
def me_X9_weigh : bg_M := (⟨"BorderGuardsModel", "weigh", "(III)I"⟩, prog_11_method_41_code, 4, (some .int), cd_X9_weigh, (0, 0), 151)
def me_X9_weighed : bg_M := (⟨"BorderGuardsModel", "weighed", "(III)I"⟩, prog_11_method_42_code, 6, (some .int), cd_X9_weighed, (0, 0), 152)
def me_X9_seenBy : bg_M := (⟨"BorderGuardsModel", "seenBy", "(I)I"⟩, prog_11_method_43_code, 4, (some .int), cd_X9_seenBy, (0, 0), 153)
def me_X9_layWays : bg_M := (⟨"BorderGuardsModel", "layWays", "()V"⟩, prog_11_method_44_code, 4, none, cd_X9_layWays, (0, 0), 154)
def me_X9_noteWay : bg_M := (⟨"BorderGuardsModel", "noteWay", "(I)V"⟩, prog_11_method_45_code, 3, none, cd_X9_noteWay, (0, 0), 155)
def me_X9_way : bg_M := (⟨"BorderGuardsModel", "way", "(II)I"⟩, prog_11_method_46_code, 3, (some .int), cd_X9_way, (0, 0), 156)
def me_X9_throughBy : bg_M := (⟨"BorderGuardsModel", "throughBy", "(II)I"⟩, prog_11_method_47_code, 6, (some .int), cd_X9_throughBy, (0, 0), 157)
def me_X9_through : bg_M := (⟨"BorderGuardsModel", "through", "(II)I"⟩, prog_11_method_48_code, 3, (some .int), cd_X9_through, (0, 0), 158)
def me_X9_gainBy : bg_M := (⟨"BorderGuardsModel", "gainBy", "(II)J"⟩, prog_11_method_49_code, 9, (some .long), cd_X9_gainBy, (0, 0), 159)
def me_X9_gain : bg_M := (⟨"BorderGuardsModel", "gain", "(II)J"⟩, prog_11_method_50_code, 3, (some .long), cd_X9_gain, (0, 0), 160)
def me_X9_bestWayBy : bg_M := (⟨"BorderGuardsModel", "bestWayBy", "(I)I"⟩, prog_11_method_51_code, 8, (some .int), cd_X9_bestWayBy, (0, 0), 161)
def me_X9_elseParts : bg_M := (⟨"BorderGuardsModel", "elseParts", "()J"⟩, prog_11_method_52_code, 1, (some .long), cd_X9_elseParts, (0, 0), 162)
def me_X9_bestWay : bg_M := (⟨"BorderGuardsModel", "bestWay", "(II)I"⟩, prog_11_method_53_code, 4, (some .int), cd_X9_bestWay, (0, 0), 163)
def me_X9_leastPay : bg_M := (⟨"BorderGuardsModel", "leastPay", "()I"⟩, prog_11_method_54_code, 4, (some .int), cd_X9_leastPay, (0, 0), 164)
def me_X9_guard : bg_M := (⟨"BorderGuardsModel", "guard", "(II)I"⟩, prog_11_method_55_code, 4, (some .int), cd_X9_guard, (0, 0), 165)
def me_X9_carrier : bg_M := (⟨"BorderGuardsModel", "carrier", "(II)I"⟩, prog_11_method_56_code, 4, (some .int), cd_X9_carrier, (0, 0), 166)
def me_X9_game : bg_M := (⟨"BorderGuardsModel", "game", "(II)I"⟩, prog_11_method_57_code, 3, (some .int), cd_X9_game, (0, 0), 167)
def me_X9_toldOnes : bg_M := (⟨"BorderGuardsModel", "toldOnes", "(I)I"⟩, prog_11_method_58_code, 4, (some .int), cd_X9_toldOnes, (0, 0), 168)
def me_X9_determinant : bg_M := (⟨"BorderGuardsModel", "determinant", "(I)J"⟩, prog_11_method_59_code, 14, (some .long), cd_X9_determinant, (0, 0), 169)
def me_X9_layCells : bg_M := (⟨"BorderGuardsModel", "layCells", "(III)V"⟩, prog_11_method_60_code, 8, none, cd_X9_layCells, (0, 0), 170)
def me_X9_layMembers : bg_M := (⟨"BorderGuardsModel", "layMembers", "(II)V"⟩, prog_11_method_61_code, 5, none, cd_X9_layMembers, (0, 0), 171)
def me_X9_solve : bg_M := (⟨"BorderGuardsModel", "solve", "(I)Z"⟩, prog_11_method_62_code, 12, (some .boolean), cd_X9_solve, (0, 0), 172)
def me_X9_holds : bg_M := (⟨"BorderGuardsModel", "holds", "()Z"⟩, prog_11_method_63_code, 8, (some .boolean), cd_X9_holds, (0, 0), 173)
def me_X9_isSupport : bg_M := (⟨"BorderGuardsModel", "isSupport", "(II)Z"⟩, prog_11_method_64_code, 3, (some .boolean), cd_X9_isSupport, (0, 0), 174)
def me_X9_play : bg_M := (⟨"BorderGuardsModel", "play", "()Z"⟩, prog_11_method_65_code, 6, (some .boolean), cd_X9_play, (0, 0), 175)
def me_X9_common : bg_M := (⟨"BorderGuardsModel", "common", "(JJ)J"⟩, prog_11_method_66_code, 10, (some .long), cd_X9_common, (0, 0), 176)
def me_X9_lowest : bg_M := (⟨"BorderGuardsModel", "lowest", "(JJI)J"⟩, prog_11_method_67_code, 7, (some .long), cd_X9_lowest, (0, 0), 177)
def me_X9_value : bg_M := (⟨"BorderGuardsModel", "value", "(I)J"⟩, prog_11_method_68_code, 2, (some .long), cd_X9_value, (0, 0), 178)
def me_X9_chance : bg_M := (⟨"BorderGuardsModel", "chance", "(III)J"⟩, prog_11_method_69_code, 4, (some .long), cd_X9_chance, (0, 0), 179)
def me_X9_tenths : bg_M := (⟨"BorderGuardsModel", "tenths", "(II)I"⟩, prog_11_method_70_code, 4, (some .int), cd_X9_tenths, (0, 0), 180)
def me_X9_told : bg_M := (⟨"BorderGuardsModel", "told", "()I"⟩, prog_11_method_71_code, 9, (some .int), cd_X9_told, (0, 0), 181)
def me_X9_nights : bg_M := (⟨"BorderGuardsModel", "nights", "(II)I"⟩, prog_11_method_72_code, 9, (some .int), cd_X9_nights, (0, 0), 182)
def me_X9_copy : bg_M := (⟨"BorderGuardsModel", "copy", "(II)V"⟩, prog_11_method_73_code, 4, none, cd_X9_copy, (0, 0), 183)
def me_X9_keep : bg_M := (⟨"BorderGuardsModel", "keep", "()I"⟩, prog_11_method_74_code, 1, (some .int), cd_X9_keep, (0, 0), 184)
def me_X9_back : bg_M := (⟨"BorderGuardsModel", "back", "()I"⟩, prog_11_method_75_code, 1, (some .int), cd_X9_back, (0, 0), 185)
def me_X9_count : bg_M := (⟨"BorderGuardsModel", "count", "(I)I"⟩, prog_11_method_76_code, 2, (some .int), cd_X9_count, (0, 0), 186)
def me_J6_numberOfTrailingZeros_0f7a4 : bg_M := (⟨"java/lang/Integer", "numberOfTrailingZeros", "(I)I"⟩, prog_12_method_48_code, 2, (some .int), cd_J6_numberOfTrailingZeros_0f7a4, (0, 0), 187)
def me_J6_bitCount_0f7a4 : bg_M := (⟨"java/lang/Integer", "bitCount", "(I)I"⟩, prog_12_method_49_code, 1, (some .int), cd_J6_bitCount_0f7a4, (0, 0), 188)
def me_J7_fill_d0a16 : bg_M := (⟨"java/util/Arrays", "fill", "([JJ)V"⟩, prog_15_method_101_code, 5, none, cd_J7_fill_d0a16, (0, 0), 189)
def me_J7_fill_53178 : bg_M := (⟨"java/util/Arrays", "fill", "([II)V"⟩, prog_15_method_103_code, 4, none, cd_J7_fill_53178, (0, 0), 190)
def me_X2_hundredthsThrough : bg_M := (⟨"BorderGuards$Land", "hundredthsThrough", "(II)I"⟩, prog_4_method_14_code, 4, (some .int), cd_X2_hundredthsThrough, (0, 0), 191)
def me_X2_carryingOn : bg_M := (⟨"BorderGuards$Land", "carryingOn", "(I)I"⟩, prog_4_method_15_code, 2, (some .int), cd_X2_carryingOn, (0, 0), 192)
def bg_MS : List bg_M := [me_X0_init, me_X1_init, me_X2_init, me_X3_init, me_X4_init, me_X5_init, me_X6_init, me_X7_init, me_X8_init, me_X9_init, me_X0_survey, me_X0_weigh, me_X0_outOfShore, me_X0_isNeeded, me_X0_sumOver, me_X0_placesOf, me_X1_findSupport, me_X1_findCarriers, me_X1_isSetOf, me_X1_mixes, me_X1_turnSigns, me_X1_areAllAbove0, me_X1_signedMinor, me_X1_fillLine, me_X1_minorOf, me_X1_noneDoesBetter, me_X1_meanBy, me_X1_meanOf, me_X1_lowest, me_X1_worthOfBeingTold, me_X2_clear, me_X2_copy, me_X2_takes, me_X2_takesNumber, me_X2_takesPath, me_X2_takesTower, me_X2_hasPath, me_X2_hasPosts, me_X2_costOf, me_X2_heldBy, me_X2_waitsOf, me_X2_bearing, me_X2_comesMoreThanGoes, me_X3_clear, me_X3_copy, me_X3_toldGuards, me_X3_toldCarriers, me_X3_toldOf, me_X4_forget, me_X4_prepare, me_X4_bestFor, me_X4_leastFor, me_X4_lowerMost, me_X4_sumNumbers, me_X4_sumAddends, me_X4_offerAll, me_X4_spreadBest, me_X4_weigh, me_X4_leastPaying, me_X5_begin, me_X5_leastSum, me_X5_leastBefore, me_X6_hasRoomFor, me_X6_append, me_X6_readInto, me_X6_readNumbers, me_X6_readNumber, me_X6_nextByte, me_X6_isFigure, me_X7_survey, me_X7_follow, me_X7_add, me_X7_lengthOf, me_X7_pathAt, me_X7_leastBearing, me_X7_gainOf, me_X7_bestOf, me_X7_greatestGain, me_X8_write, me_X8_wipe, me_X8_fault, me_X8_lay, me_X8_path, me_X8_posts, me_X8_bears, me_X8_most, me_X8_row, me_X8_judge, me_X8_best, me_X8_fewest, me_X8_more, me_X8_oneMore, me_X8_weighed, me_X8_way, me_X8_through, me_X8_gain, me_X8_bestWay, me_X8_leastPay, me_X8_guard, me_X8_carrier, me_X8_value, me_X8_chance, me_X8_tenths, me_X8_told, me_X8_nights, me_X8_keep, me_X8_back, me_X8_count, me_X8_survey, me_X8_mostBy, me_X8_playGame, me_X8_setUpGame, me_X9_in, me_X9_has, me_X9_bits, me_X9_noLand, me_X9_noPlayers, me_X9_write, me_X9_wipe, me_X9_byteAt, me_X9_figures, me_X9_pathItem, me_X9_towerItem, me_X9_item, me_X9_readAll, me_X9_fault, me_X9_copyLand, me_X9_lay, me_X9_isPath, me_X9_path, me_X9_arePosts, me_X9_costOf, me_X9_heldBy, me_X9_waitsBy, me_X9_posts, me_X9_bearsWith, me_X9_bears, me_X9_spread, me_X9_push, me_X9_flow, me_X9_mostBy, me_X9_most, me_X9_row, me_X9_comeTo, me_X9_judge, me_X9_setMany, me_X9_bestFor, me_X9_best, me_X9_fewest, me_X9_more, me_X9_oneMore, me_X9_weigh, me_X9_weighed, me_X9_seenBy, me_X9_layWays, me_X9_noteWay, me_X9_way, me_X9_throughBy, me_X9_through, me_X9_gainBy, me_X9_gain, me_X9_bestWayBy, me_X9_elseParts, me_X9_bestWay, me_X9_leastPay, me_X9_guard, me_X9_carrier, me_X9_game, me_X9_toldOnes, me_X9_determinant, me_X9_layCells, me_X9_layMembers, me_X9_solve, me_X9_holds, me_X9_isSupport, me_X9_play, me_X9_common, me_X9_lowest, me_X9_value, me_X9_chance, me_X9_tenths, me_X9_told, me_X9_nights, me_X9_copy, me_X9_keep, me_X9_back, me_X9_count, me_J6_numberOfTrailingZeros_0f7a4, me_J6_bitCount_0f7a4, me_J7_fill_d0a16, me_J7_fill_53178, me_X2_hundredthsThrough, me_X2_carryingOn]
end
section
/-! what is checked of every instruction of the tables, by program -/
def bg_len : Instr → Nat
  | .iconst _ => 1 | .bipush _ => 2 | .sipush _ => 3 | .ldc _ => 2 | .ldc_w _ => 3 | .ldc2_w _ => 3 | .lconst _ => 1
  | .iload _ => 2 | .lload _ => 2 | .aload _ => 2 | .istore _ => 2 | .lstore _ => 2 | .iinc _ _ => 3
  | .goto _ => 3 | .ifCond _ _ => 3 | .if_icmp _ _ => 3 | .getstatic _ => 3 | .getfield _ => 3 | .putfield _ => 3
  | .new _ => 3 | .newarray _ => 2 | .anewarray _ => 3 | .multianewarray _ _ => 4 | .invokevirtual _ => 3 | .invokestatic _ => 3 | .invokespecial _ => 3
  | _ => 1
def bg_tg (a b : Nat) : Nat := match bg_nth bg_tags a with
  | some l => (match bg_nth l b with
    | some t => t
    | none => 9)
  | none => 9
/-- the tables' words that stand in every state -/
def bg_tbl : List Cond := lw_tbl.filter goodWord
def bg_wd (p : Nat) (w : Cond) : Bool := decide (lw_tbl[p]? = some w) && goodWord w
def bg_fl (own : String) (i a b : Nat) (d : Int) : Bool := match bg_nth bg_cls a with
  | some (C, T, N) => Nat.blt b N && bg_wd d.toNat (.fieldLink own i C (T b).2.1 (T b).2.2.1)
  | none => false
def bg_ok1 (M : bg_M) (pc : Nat) (q : bg_I) : Bool :=
  match q with
  | (.tableswitch df lo hi offs, nx, (a, _, _, _, ps)) => decide (decode M.2.1 pc = .ok (.tableswitch df lo hi offs, nx - pc)) && decide ((pc : Int) + df = a) && decide (ps.map (·.1) = (List.range (hi - lo + 1).toNat).map (fun (j : Nat) => lo + (j : Int))) && ps.all (fun r => decide (offs[(r.1 - lo).toNat]? = some ((r.2 : Int) - pc)))
  | (.lookupswitch df prs, nx, (a, _, _, _, ps)) => decide (decode M.2.1 pc = .ok (.lookupswitch df prs, nx - pc)) && decide ((pc : Int) + df = a) && (prs.toList.zip (prs.toList.drop 1)).all (fun (x, y) => x.1 < y.1) && decide (ps = prs.toList.map (fun r => (r.1, ((pc : Int) + r.2).toNat))) && prs.toList.all (fun r => decide (0 ≤ (pc : Int) + r.2))
  | (ins, nx, (a, b, t, d, _)) => decide (decode M.2.1 pc = .ok (ins, bg_len ins)) && decide (nx = pc + bg_len ins) && (match ins with
    | .iconst n => decide (d = n)
    | .bipush n => decide (d = n ∧ -128 ≤ n ∧ n ≤ 127)
    | .sipush n => decide (d = n ∧ -32768 ≤ n ∧ n ≤ 32767)
    | .lconst n => decide (d = ((n : Nat) : Int))
    | .ldc i => bg_wd b (.constant M.1.cls i (Int32.ofInt d))
    | .ldc_w i => bg_wd b (.constant M.1.cls i (Int32.ofInt d))
    | .ldc2_w i => bg_wd b (.constantLong M.1.cls i (Int64.ofInt d))
    | .iload i => decide (a = i)
    | .iload_n i => decide (a = (i : Nat))
    | .lload i => decide (a = i)
    | .lload_n i => decide (a = (i : Nat))
    | .aload i => decide (a = i)
    | .aload_n i => decide (a = (i : Nat))
    | .istore i => decide (a = i ∧ a < M.2.2.1)
    | .istore_n i => decide (a = (i : Nat) ∧ a < M.2.2.1)
    | .lstore i => decide (a = i ∧ a + 1 < M.2.2.1)
    | .lstore_n i => decide (a = (i : Nat) ∧ a + 1 < M.2.2.1)
    | .astore_n i => decide (a = (i : Nat) ∧ a < M.2.2.1)
    | .iinc i n => decide (a = i ∧ d = n ∧ a < M.2.2.1)
    | .goto o => decide ((pc : Int) + o = a)
    | .ifCond _ o => decide ((pc : Int) + o = a)
    | .if_icmp _ o => decide ((pc : Int) + o = a)
    | .getstatic i => bg_wd d.toNat (.fieldLink M.1.cls i "BorderGuards$Land" "PATH_LIMITS" "[I")
    | .getfield i => bg_fl M.1.cls i a b d && decide (t = (match bg_tg a b with | 3 => 0 | x => x)) && decide (t ≤ 2)
    | .putfield i => bg_fl M.1.cls i a b d && decide (t = bg_tg a b) && decide (t ≤ 3) && (match bg_nth bg_cls a with
      | some (_, T, _) => decide ((T b).2.2.2 = false) || (decide (M.1.name = "<init>") && decide ((T b).1 = M.1.cls))
      | none => false)
    | .new i => (match bg_nth bg_cls a with
      | some (C, _, N) => decide (b = N) && bg_wd d.toNat (.classLink M.1.cls i C)
      | none => false)
    | .newarray ty => (decide (ty = .int ∧ a = 10) || decide (ty = .long ∧ a = 11)) && decide (b ≤ 5000)
    | .anewarray i => ((decide (a = 12) && bg_wd d.toNat (.classLink M.1.cls i "BorderGuards$Land")) || (decide (a = 13) && bg_wd d.toNat (.classLink M.1.cls i "BorderGuards$Lots"))) && decide (b ≤ 100)
    | .multianewarray i n => decide (n = 2) && ((decide (a = 14) && bg_wd d.toNat (.classLink M.1.cls i "[[I")) || (decide (a = 15) && bg_wd d.toNat (.classLink M.1.cls i "[[J"))) && decide (b ≤ 100 ∧ t ≤ 100)
    | .invokevirtual i => (match bg_nth bg_MS a with
      | some M' => bg_wd d.toNat (.methodLink M.1.cls i M'.1) && decide ((parseMethodDescriptor M'.1.desc).map (fun s => s.parameters.length) = some b) && decide ((bg_nth bg_cls t).map (·.1) = some M'.1.cls)
      | none => false)
    | .invokestatic i => (match t with
      | 1 => bg_wd d.toNat (.methodLink M.1.cls i arraycopyName)
      | 2 => bg_wd d.toNat (.methodLink M.1.cls i Lib.Math.max.name)
      | 3 => bg_wd d.toNat (.methodLink M.1.cls i Lib.Math.min.name)
      | 4 => bg_wd d.toNat (.methodLink M.1.cls i Lib.MathLoose.max_long.x)
      | _ => (match bg_nth bg_MS a with
        | some M' => bg_wd d.toNat (.methodLink M.1.cls i M'.1) && decide ((parseMethodDescriptor M'.1.desc).map (fun s => s.parameters.length) = some b)
        | none => false))
    | .invokespecial i => (match t with
      | 1 => bg_wd d.toNat (.methodLink M.1.cls i objectInit)
      | _ => (match bg_nth bg_MS a with
        | some M' => bg_wd d.toNat (.methodLink M.1.cls i M'.1) && decide ((parseMethodDescriptor M'.1.desc).map (fun s => s.parameters.length) = some b) && decide (M'.1.name = "<init>") && decide (M'.2.2.2.1 = none)
        | none => false))
    | .ireturn => decide (t = (match M.2.2.2.1 with | some .boolean => 1 | _ => 0)) && decide (M.2.2.2.1 = some .boolean ∨ M.2.2.2.1 = some .int)
    | .lreturn => decide (M.2.2.2.1 = some .long)
    | .return_ => decide (M.2.2.2.1 = none)
    | _ => true)
def bg_okc (M : bg_M) (cd : bg_K) : Bool := cd.all (fun ch => ch.2.all (fun r => bg_ok1 M r.1 r.2))
theorem bg_jn0 : ∀ w ∈ u_ws bg_R0 bg_T0 4, w ∈ bg_tbl := fun w hw => List.mem_filter.mpr ⟨bg_in0 w hw, List.all_eq_true.mp (show (u_ws bg_R0 bg_T0 4).all goodWord = true by decide +kernel) w hw⟩
theorem bg_jn1 : ∀ w ∈ u_ws bg_R1 bg_T1 6, w ∈ bg_tbl := fun w hw => List.mem_filter.mpr ⟨bg_in1 w hw, List.all_eq_true.mp (show (u_ws bg_R1 bg_T1 6).all goodWord = true by decide +kernel) w hw⟩
theorem bg_jn2 : ∀ w ∈ u_ws bg_R2 bg_T2 8, w ∈ bg_tbl := fun w hw => List.mem_filter.mpr ⟨bg_in2 w hw, List.all_eq_true.mp (show (u_ws bg_R2 bg_T2 8).all goodWord = true by decide +kernel) w hw⟩
theorem bg_jn3 : ∀ w ∈ u_ws bg_R3 bg_T3 2, w ∈ bg_tbl := fun w hw => List.mem_filter.mpr ⟨bg_in3 w hw, List.all_eq_true.mp (show (u_ws bg_R3 bg_T3 2).all goodWord = true by decide +kernel) w hw⟩
theorem bg_jn4 : ∀ w ∈ u_ws bg_R4 bg_T4 12, w ∈ bg_tbl := fun w hw => List.mem_filter.mpr ⟨bg_in4 w hw, List.all_eq_true.mp (show (u_ws bg_R4 bg_T4 12).all goodWord = true by decide +kernel) w hw⟩
theorem bg_jn5 : ∀ w ∈ u_ws bg_R5 bg_T5 4, w ∈ bg_tbl := fun w hw => List.mem_filter.mpr ⟨bg_in5 w hw, List.all_eq_true.mp (show (u_ws bg_R5 bg_T5 4).all goodWord = true by decide +kernel) w hw⟩
theorem bg_jn6 : ∀ w ∈ u_ws bg_R6 bg_T6 4, w ∈ bg_tbl := fun w hw => List.mem_filter.mpr ⟨bg_in6 w hw, List.all_eq_true.mp (show (u_ws bg_R6 bg_T6 4).all goodWord = true by decide +kernel) w hw⟩
theorem bg_jn7 : ∀ w ∈ u_ws bg_R7 bg_T7 6, w ∈ bg_tbl := fun w hw => List.mem_filter.mpr ⟨bg_in7 w hw, List.all_eq_true.mp (show (u_ws bg_R7 bg_T7 6).all goodWord = true by decide +kernel) w hw⟩
theorem bg_jn8 : ∀ w ∈ u_ws bg_R8 bg_T8 14, w ∈ bg_tbl := fun w hw => List.mem_filter.mpr ⟨bg_in8 w hw, List.all_eq_true.mp (show (u_ws bg_R8 bg_T8 14).all goodWord = true by decide +kernel) w hw⟩
theorem bg_jn9 : ∀ w ∈ u_ws bg_R9 bg_T9 33, w ∈ bg_tbl := fun w hw => List.mem_filter.mpr ⟨bg_in9 w hw, List.all_eq_true.mp (show (u_ws bg_R9 bg_T9 33).all goodWord = true by decide +kernel) w hw⟩
end
section
theorem ok_X0_init : bg_okc me_X0_init cd_X0_init = true := by decide +kernel
theorem ok_X1_init : bg_okc me_X1_init cd_X1_init = true := by decide +kernel
theorem ok_X2_init : bg_okc me_X2_init cd_X2_init = true := by decide +kernel
theorem ok_X3_init : bg_okc me_X3_init cd_X3_init = true := by decide +kernel
theorem ok_X4_init : bg_okc me_X4_init cd_X4_init = true := by decide +kernel
theorem ok_X5_init : bg_okc me_X5_init cd_X5_init = true := by decide +kernel
theorem ok_X6_init : bg_okc me_X6_init cd_X6_init = true := by decide +kernel
theorem ok_X7_init : bg_okc me_X7_init cd_X7_init = true := by decide +kernel
theorem ok_X8_init : bg_okc me_X8_init cd_X8_init = true := by decide +kernel
theorem ok_X9_init : bg_okc me_X9_init cd_X9_init = true := by decide +kernel
theorem ok_X0_survey : bg_okc me_X0_survey cd_X0_survey = true := by decide +kernel
theorem ok_X0_weigh : bg_okc me_X0_weigh cd_X0_weigh = true := by decide +kernel
theorem ok_X0_outOfShore : bg_okc me_X0_outOfShore cd_X0_outOfShore = true := by decide +kernel
theorem ok_X0_isNeeded : bg_okc me_X0_isNeeded cd_X0_isNeeded = true := by decide +kernel
theorem ok_X0_sumOver : bg_okc me_X0_sumOver cd_X0_sumOver = true := by decide +kernel
theorem ok_X0_placesOf : bg_okc me_X0_placesOf cd_X0_placesOf = true := by decide +kernel
theorem ok_X1_findSupport : bg_okc me_X1_findSupport cd_X1_findSupport = true := by decide +kernel
theorem ok_X1_findCarriers : bg_okc me_X1_findCarriers cd_X1_findCarriers = true := by decide +kernel
theorem ok_X1_isSetOf : bg_okc me_X1_isSetOf cd_X1_isSetOf = true := by decide +kernel
theorem ok_X1_mixes : bg_okc me_X1_mixes cd_X1_mixes = true := by decide +kernel
theorem ok_X1_turnSigns : bg_okc me_X1_turnSigns cd_X1_turnSigns = true := by decide +kernel
theorem ok_X1_areAllAbove0 : bg_okc me_X1_areAllAbove0 cd_X1_areAllAbove0 = true := by decide +kernel
theorem ok_X1_signedMinor : bg_okc me_X1_signedMinor cd_X1_signedMinor = true := by decide +kernel
theorem ok_X1_fillLine : bg_okc me_X1_fillLine cd_X1_fillLine = true := by decide +kernel
theorem ok_X1_minorOf : bg_okc me_X1_minorOf cd_X1_minorOf = true := by decide +kernel
theorem ok_X1_noneDoesBetter : bg_okc me_X1_noneDoesBetter cd_X1_noneDoesBetter = true := by decide +kernel
theorem ok_X1_meanBy : bg_okc me_X1_meanBy cd_X1_meanBy = true := by decide +kernel
theorem ok_X1_meanOf : bg_okc me_X1_meanOf cd_X1_meanOf = true := by decide +kernel
theorem ok_X1_lowest : bg_okc me_X1_lowest cd_X1_lowest = true := by decide +kernel
theorem ok_X1_worthOfBeingTold : bg_okc me_X1_worthOfBeingTold cd_X1_worthOfBeingTold = true := by decide +kernel
theorem ok_X2_clear : bg_okc me_X2_clear cd_X2_clear = true := by decide +kernel
theorem ok_X2_copy : bg_okc me_X2_copy cd_X2_copy = true := by decide +kernel
theorem ok_X2_takes : bg_okc me_X2_takes cd_X2_takes = true := by decide +kernel
theorem ok_X2_takesNumber : bg_okc me_X2_takesNumber cd_X2_takesNumber = true := by decide +kernel
theorem ok_X2_takesPath : bg_okc me_X2_takesPath cd_X2_takesPath = true := by decide +kernel
theorem ok_X2_takesTower : bg_okc me_X2_takesTower cd_X2_takesTower = true := by decide +kernel
theorem ok_X2_hasPath : bg_okc me_X2_hasPath cd_X2_hasPath = true := by decide +kernel
theorem ok_X2_hasPosts : bg_okc me_X2_hasPosts cd_X2_hasPosts = true := by decide +kernel
theorem ok_X2_costOf : bg_okc me_X2_costOf cd_X2_costOf = true := by decide +kernel
theorem ok_X2_heldBy : bg_okc me_X2_heldBy cd_X2_heldBy = true := by decide +kernel
theorem ok_X2_waitsOf : bg_okc me_X2_waitsOf cd_X2_waitsOf = true := by decide +kernel
theorem ok_X2_bearing : bg_okc me_X2_bearing cd_X2_bearing = true := by decide +kernel
theorem ok_X2_comesMoreThanGoes : bg_okc me_X2_comesMoreThanGoes cd_X2_comesMoreThanGoes = true := by decide +kernel
theorem ok_X3_clear : bg_okc me_X3_clear cd_X3_clear = true := by decide +kernel
theorem ok_X3_copy : bg_okc me_X3_copy cd_X3_copy = true := by decide +kernel
theorem ok_X3_toldGuards : bg_okc me_X3_toldGuards cd_X3_toldGuards = true := by decide +kernel
theorem ok_X3_toldCarriers : bg_okc me_X3_toldCarriers cd_X3_toldCarriers = true := by decide +kernel
theorem ok_X3_toldOf : bg_okc me_X3_toldOf cd_X3_toldOf = true := by decide +kernel
theorem ok_X4_forget : bg_okc me_X4_forget cd_X4_forget = true := by decide +kernel
theorem ok_X4_prepare : bg_okc me_X4_prepare cd_X4_prepare = true := by decide +kernel
theorem ok_X4_bestFor : bg_okc me_X4_bestFor cd_X4_bestFor = true := by decide +kernel
theorem ok_X4_leastFor : bg_okc me_X4_leastFor cd_X4_leastFor = true := by decide +kernel
theorem ok_X4_lowerMost : bg_okc me_X4_lowerMost cd_X4_lowerMost = true := by decide +kernel
theorem ok_X4_sumNumbers : bg_okc me_X4_sumNumbers cd_X4_sumNumbers = true := by decide +kernel
theorem ok_X4_sumAddends : bg_okc me_X4_sumAddends cd_X4_sumAddends = true := by decide +kernel
theorem ok_X4_offerAll : bg_okc me_X4_offerAll cd_X4_offerAll = true := by decide +kernel
theorem ok_X4_spreadBest : bg_okc me_X4_spreadBest cd_X4_spreadBest = true := by decide +kernel
theorem ok_X4_weigh : bg_okc me_X4_weigh cd_X4_weigh = true := by decide +kernel
theorem ok_X4_leastPaying : bg_okc me_X4_leastPaying cd_X4_leastPaying = true := by decide +kernel
theorem ok_X5_begin : bg_okc me_X5_begin cd_X5_begin = true := by decide +kernel
theorem ok_X5_leastSum : bg_okc me_X5_leastSum cd_X5_leastSum = true := by decide +kernel
theorem ok_X5_leastBefore : bg_okc me_X5_leastBefore cd_X5_leastBefore = true := by decide +kernel
theorem ok_X6_hasRoomFor : bg_okc me_X6_hasRoomFor cd_X6_hasRoomFor = true := by decide +kernel
theorem ok_X6_append : bg_okc me_X6_append cd_X6_append = true := by decide +kernel
theorem ok_X6_readInto : bg_okc me_X6_readInto cd_X6_readInto = true := by decide +kernel
theorem ok_X6_readNumbers : bg_okc me_X6_readNumbers cd_X6_readNumbers = true := by decide +kernel
theorem ok_X6_readNumber : bg_okc me_X6_readNumber cd_X6_readNumber = true := by decide +kernel
theorem ok_X6_nextByte : bg_okc me_X6_nextByte cd_X6_nextByte = true := by decide +kernel
theorem ok_X6_isFigure : bg_okc me_X6_isFigure cd_X6_isFigure = true := by decide +kernel
theorem ok_X7_survey : bg_okc me_X7_survey cd_X7_survey = true := by decide +kernel
theorem ok_X7_follow : bg_okc me_X7_follow cd_X7_follow = true := by decide +kernel
theorem ok_X7_add : bg_okc me_X7_add cd_X7_add = true := by decide +kernel
theorem ok_X7_lengthOf : bg_okc me_X7_lengthOf cd_X7_lengthOf = true := by decide +kernel
theorem ok_X7_pathAt : bg_okc me_X7_pathAt cd_X7_pathAt = true := by decide +kernel
theorem ok_X7_leastBearing : bg_okc me_X7_leastBearing cd_X7_leastBearing = true := by decide +kernel
theorem ok_X7_gainOf : bg_okc me_X7_gainOf cd_X7_gainOf = true := by decide +kernel
theorem ok_X7_bestOf : bg_okc me_X7_bestOf cd_X7_bestOf = true := by decide +kernel
theorem ok_X7_greatestGain : bg_okc me_X7_greatestGain cd_X7_greatestGain = true := by decide +kernel
theorem ok_X8_write : bg_okc me_X8_write cd_X8_write = true := by decide +kernel
theorem ok_X8_wipe : bg_okc me_X8_wipe cd_X8_wipe = true := by decide +kernel
theorem ok_X8_fault : bg_okc me_X8_fault cd_X8_fault = true := by decide +kernel
theorem ok_X8_lay : bg_okc me_X8_lay cd_X8_lay = true := by decide +kernel
theorem ok_X8_path : bg_okc me_X8_path cd_X8_path = true := by decide +kernel
theorem ok_X8_posts : bg_okc me_X8_posts cd_X8_posts = true := by decide +kernel
theorem ok_X8_bears : bg_okc me_X8_bears cd_X8_bears = true := by decide +kernel
theorem ok_X8_most : bg_okc me_X8_most cd_X8_most = true := by decide +kernel
theorem ok_X8_row : bg_okc me_X8_row cd_X8_row = true := by decide +kernel
theorem ok_X8_judge : bg_okc me_X8_judge cd_X8_judge = true := by decide +kernel
theorem ok_X8_best : bg_okc me_X8_best cd_X8_best = true := by decide +kernel
theorem ok_X8_fewest : bg_okc me_X8_fewest cd_X8_fewest = true := by decide +kernel
theorem ok_X8_more : bg_okc me_X8_more cd_X8_more = true := by decide +kernel
theorem ok_X8_oneMore : bg_okc me_X8_oneMore cd_X8_oneMore = true := by decide +kernel
theorem ok_X8_weighed : bg_okc me_X8_weighed cd_X8_weighed = true := by decide +kernel
theorem ok_X8_way : bg_okc me_X8_way cd_X8_way = true := by decide +kernel
theorem ok_X8_through : bg_okc me_X8_through cd_X8_through = true := by decide +kernel
end
section
theorem ok_X8_gain : bg_okc me_X8_gain cd_X8_gain = true := by decide +kernel
theorem ok_X8_bestWay : bg_okc me_X8_bestWay cd_X8_bestWay = true := by decide +kernel
theorem ok_X8_leastPay : bg_okc me_X8_leastPay cd_X8_leastPay = true := by decide +kernel
theorem ok_X8_guard : bg_okc me_X8_guard cd_X8_guard = true := by decide +kernel
theorem ok_X8_carrier : bg_okc me_X8_carrier cd_X8_carrier = true := by decide +kernel
theorem ok_X8_value : bg_okc me_X8_value cd_X8_value = true := by decide +kernel
theorem ok_X8_chance : bg_okc me_X8_chance cd_X8_chance = true := by decide +kernel
theorem ok_X8_tenths : bg_okc me_X8_tenths cd_X8_tenths = true := by decide +kernel
theorem ok_X8_told : bg_okc me_X8_told cd_X8_told = true := by decide +kernel
theorem ok_X8_nights : bg_okc me_X8_nights cd_X8_nights = true := by decide +kernel
theorem ok_X8_keep : bg_okc me_X8_keep cd_X8_keep = true := by decide +kernel
theorem ok_X8_back : bg_okc me_X8_back cd_X8_back = true := by decide +kernel
theorem ok_X8_count : bg_okc me_X8_count cd_X8_count = true := by decide +kernel
theorem ok_X8_survey : bg_okc me_X8_survey cd_X8_survey = true := by decide +kernel
theorem ok_X8_mostBy : bg_okc me_X8_mostBy cd_X8_mostBy = true := by decide +kernel
theorem ok_X8_playGame : bg_okc me_X8_playGame cd_X8_playGame = true := by decide +kernel
theorem ok_X8_setUpGame : bg_okc me_X8_setUpGame cd_X8_setUpGame = true := by decide +kernel
theorem ok_X9_in : bg_okc me_X9_in cd_X9_in = true := by decide +kernel
theorem ok_X9_has : bg_okc me_X9_has cd_X9_has = true := by decide +kernel
theorem ok_X9_bits : bg_okc me_X9_bits cd_X9_bits = true := by decide +kernel
theorem ok_X9_noLand : bg_okc me_X9_noLand cd_X9_noLand = true := by decide +kernel
theorem ok_X9_noPlayers : bg_okc me_X9_noPlayers cd_X9_noPlayers = true := by decide +kernel
theorem ok_X9_write : bg_okc me_X9_write cd_X9_write = true := by decide +kernel
theorem ok_X9_wipe : bg_okc me_X9_wipe cd_X9_wipe = true := by decide +kernel
theorem ok_X9_byteAt : bg_okc me_X9_byteAt cd_X9_byteAt = true := by decide +kernel
theorem ok_X9_figures : bg_okc me_X9_figures cd_X9_figures = true := by decide +kernel
theorem ok_X9_pathItem : bg_okc me_X9_pathItem cd_X9_pathItem = true := by decide +kernel
theorem ok_X9_towerItem : bg_okc me_X9_towerItem cd_X9_towerItem = true := by decide +kernel
theorem ok_X9_item : bg_okc me_X9_item cd_X9_item = true := by decide +kernel
theorem ok_X9_readAll : bg_okc me_X9_readAll cd_X9_readAll = true := by decide +kernel
theorem ok_X9_fault : bg_okc me_X9_fault cd_X9_fault = true := by decide +kernel
theorem ok_X9_copyLand : bg_okc me_X9_copyLand cd_X9_copyLand = true := by decide +kernel
theorem ok_X9_lay : bg_okc me_X9_lay cd_X9_lay = true := by decide +kernel
theorem ok_X9_isPath : bg_okc me_X9_isPath cd_X9_isPath = true := by decide +kernel
theorem ok_X9_path : bg_okc me_X9_path cd_X9_path = true := by decide +kernel
theorem ok_X9_arePosts : bg_okc me_X9_arePosts cd_X9_arePosts = true := by decide +kernel
theorem ok_X9_costOf : bg_okc me_X9_costOf cd_X9_costOf = true := by decide +kernel
theorem ok_X9_heldBy : bg_okc me_X9_heldBy cd_X9_heldBy = true := by decide +kernel
theorem ok_X9_waitsBy : bg_okc me_X9_waitsBy cd_X9_waitsBy = true := by decide +kernel
theorem ok_X9_posts : bg_okc me_X9_posts cd_X9_posts = true := by decide +kernel
theorem ok_X9_bearsWith : bg_okc me_X9_bearsWith cd_X9_bearsWith = true := by decide +kernel
theorem ok_X9_bears : bg_okc me_X9_bears cd_X9_bears = true := by decide +kernel
theorem ok_X9_spread : bg_okc me_X9_spread cd_X9_spread = true := by decide +kernel
theorem ok_X9_push : bg_okc me_X9_push cd_X9_push = true := by decide +kernel
theorem ok_X9_flow : bg_okc me_X9_flow cd_X9_flow = true := by decide +kernel
theorem ok_X9_mostBy : bg_okc me_X9_mostBy cd_X9_mostBy = true := by decide +kernel
theorem ok_X9_most : bg_okc me_X9_most cd_X9_most = true := by decide +kernel
theorem ok_X9_row : bg_okc me_X9_row cd_X9_row = true := by decide +kernel
theorem ok_X9_comeTo : bg_okc me_X9_comeTo cd_X9_comeTo = true := by decide +kernel
theorem ok_X9_judge : bg_okc me_X9_judge cd_X9_judge = true := by decide +kernel
theorem ok_X9_setMany : bg_okc me_X9_setMany cd_X9_setMany = true := by decide +kernel
theorem ok_X9_bestFor : bg_okc me_X9_bestFor cd_X9_bestFor = true := by decide +kernel
theorem ok_X9_best : bg_okc me_X9_best cd_X9_best = true := by decide +kernel
theorem ok_X9_fewest : bg_okc me_X9_fewest cd_X9_fewest = true := by decide +kernel
theorem ok_X9_more : bg_okc me_X9_more cd_X9_more = true := by decide +kernel
theorem ok_X9_oneMore : bg_okc me_X9_oneMore cd_X9_oneMore = true := by decide +kernel
theorem ok_X9_weigh : bg_okc me_X9_weigh cd_X9_weigh = true := by decide +kernel
theorem ok_X9_weighed : bg_okc me_X9_weighed cd_X9_weighed = true := by decide +kernel
theorem ok_X9_seenBy : bg_okc me_X9_seenBy cd_X9_seenBy = true := by decide +kernel
theorem ok_X9_layWays : bg_okc me_X9_layWays cd_X9_layWays = true := by decide +kernel
theorem ok_X9_noteWay : bg_okc me_X9_noteWay cd_X9_noteWay = true := by decide +kernel
theorem ok_X9_way : bg_okc me_X9_way cd_X9_way = true := by decide +kernel
theorem ok_X9_throughBy : bg_okc me_X9_throughBy cd_X9_throughBy = true := by decide +kernel
theorem ok_X9_through : bg_okc me_X9_through cd_X9_through = true := by decide +kernel
theorem ok_X9_gainBy : bg_okc me_X9_gainBy cd_X9_gainBy = true := by decide +kernel
theorem ok_X9_gain : bg_okc me_X9_gain cd_X9_gain = true := by decide +kernel
theorem ok_X9_bestWayBy : bg_okc me_X9_bestWayBy cd_X9_bestWayBy = true := by decide +kernel
theorem ok_X9_elseParts : bg_okc me_X9_elseParts cd_X9_elseParts = true := by decide +kernel
theorem ok_X9_bestWay : bg_okc me_X9_bestWay cd_X9_bestWay = true := by decide +kernel
theorem ok_X9_leastPay : bg_okc me_X9_leastPay cd_X9_leastPay = true := by decide +kernel
theorem ok_X9_guard : bg_okc me_X9_guard cd_X9_guard = true := by decide +kernel
theorem ok_X9_carrier : bg_okc me_X9_carrier cd_X9_carrier = true := by decide +kernel
theorem ok_X9_game : bg_okc me_X9_game cd_X9_game = true := by decide +kernel
theorem ok_X9_toldOnes : bg_okc me_X9_toldOnes cd_X9_toldOnes = true := by decide +kernel
theorem ok_X9_determinant : bg_okc me_X9_determinant cd_X9_determinant = true := by decide +kernel
theorem ok_X9_layCells : bg_okc me_X9_layCells cd_X9_layCells = true := by decide +kernel
theorem ok_X9_layMembers : bg_okc me_X9_layMembers cd_X9_layMembers = true := by decide +kernel
theorem ok_X9_solve : bg_okc me_X9_solve cd_X9_solve = true := by decide +kernel
theorem ok_X9_holds : bg_okc me_X9_holds cd_X9_holds = true := by decide +kernel
theorem ok_X9_isSupport : bg_okc me_X9_isSupport cd_X9_isSupport = true := by decide +kernel
theorem ok_X9_play : bg_okc me_X9_play cd_X9_play = true := by decide +kernel
theorem ok_X9_common : bg_okc me_X9_common cd_X9_common = true := by decide +kernel
theorem ok_X9_lowest : bg_okc me_X9_lowest cd_X9_lowest = true := by decide +kernel
theorem ok_X9_value : bg_okc me_X9_value cd_X9_value = true := by decide +kernel
theorem ok_X9_chance : bg_okc me_X9_chance cd_X9_chance = true := by decide +kernel
theorem ok_X9_tenths : bg_okc me_X9_tenths cd_X9_tenths = true := by decide +kernel
theorem ok_X9_told : bg_okc me_X9_told cd_X9_told = true := by decide +kernel
theorem ok_X9_nights : bg_okc me_X9_nights cd_X9_nights = true := by decide +kernel
theorem ok_X9_copy : bg_okc me_X9_copy cd_X9_copy = true := by decide +kernel
theorem ok_X9_keep : bg_okc me_X9_keep cd_X9_keep = true := by decide +kernel
theorem ok_X9_back : bg_okc me_X9_back cd_X9_back = true := by decide +kernel
theorem ok_X9_count : bg_okc me_X9_count cd_X9_count = true := by decide +kernel
theorem ok_J6_numberOfTrailingZeros_0f7a4 : bg_okc me_J6_numberOfTrailingZeros_0f7a4 cd_J6_numberOfTrailingZeros_0f7a4 = true := by decide +kernel
theorem ok_J6_bitCount_0f7a4 : bg_okc me_J6_bitCount_0f7a4 cd_J6_bitCount_0f7a4 = true := by decide +kernel
theorem ok_J7_fill_d0a16 : bg_okc me_J7_fill_d0a16 cd_J7_fill_d0a16 = true := by decide +kernel
theorem ok_J7_fill_53178 : bg_okc me_J7_fill_53178 cd_J7_fill_53178 = true := by decide +kernel
theorem ok_X2_hundredthsThrough : bg_okc me_X2_hundredthsThrough cd_X2_hundredthsThrough = true := by decide +kernel
theorem ok_X2_carryingOn : bg_okc me_X2_carryingOn cd_X2_carryingOn = true := by decide +kernel
end
section
def me_L_law : bg_M := (⟨"BorderGuardsLaw", "law", "([I)Z"⟩, code, 4, some .boolean, cd_L_law, (600000, 7302250), 999)
def bg_okn (M : bg_M) (cd : bg_K) (i : Nat) : Bool := match bg_nth cd i with
  | some ch => ch.2.all (fun r => bg_ok1 M r.1 r.2)
  | none => true
theorem ok_L_0 : bg_okn me_L_law cd_L_law 0 = true := by decide +kernel
theorem ok_L_1 : bg_okn me_L_law cd_L_law 1 = true := by decide +kernel
theorem ok_L_2 : bg_okn me_L_law cd_L_law 2 = true := by decide +kernel
theorem ok_L_3 : bg_okn me_L_law cd_L_law 3 = true := by decide +kernel
theorem ok_L_4 : bg_okn me_L_law cd_L_law 4 = true := by decide +kernel
end
section
theorem ok_L_5 : bg_okn me_L_law cd_L_law 5 = true := by decide +kernel
theorem ok_L_6 : bg_okn me_L_law cd_L_law 6 = true := by decide +kernel
theorem ok_L_7 : bg_okn me_L_law cd_L_law 7 = true := by decide +kernel
theorem ok_L_8 : bg_okn me_L_law cd_L_law 8 = true := by decide +kernel
theorem ok_L_9 : bg_okn me_L_law cd_L_law 9 = true := by decide +kernel
end
section
theorem ok_L_10 : bg_okn me_L_law cd_L_law 10 = true := by decide +kernel
theorem ok_L_11 : bg_okn me_L_law cd_L_law 11 = true := by decide +kernel
theorem ok_L_12 : bg_okn me_L_law cd_L_law 12 = true := by decide +kernel
theorem ok_L_13 : bg_okn me_L_law cd_L_law 13 = true := by decide +kernel
theorem ok_L_14 : bg_okn me_L_law cd_L_law 14 = true := by decide +kernel
end
section
theorem ok_L_15 : bg_okn me_L_law cd_L_law 15 = true := by decide +kernel
theorem ok_L_16 : bg_okn me_L_law cd_L_law 16 = true := by decide +kernel
theorem ok_L_17 : bg_okn me_L_law cd_L_law 17 = true := by decide +kernel
theorem ok_L_18 : bg_okn me_L_law cd_L_law 18 = true := by decide +kernel
theorem ok_L_19 : bg_okn me_L_law cd_L_law 19 = true := by decide +kernel
end
section
theorem ok_L_20 : bg_okn me_L_law cd_L_law 20 = true := by decide +kernel
theorem ok_L_21 : bg_okn me_L_law cd_L_law 21 = true := by decide +kernel
theorem ok_L_22 : bg_okn me_L_law cd_L_law 22 = true := by decide +kernel
theorem ok_L_23 : bg_okn me_L_law cd_L_law 23 = true := by decide +kernel
theorem ok_L_24 : bg_okn me_L_law cd_L_law 24 = true := by decide +kernel
end
section
theorem ok_L_25 : bg_okn me_L_law cd_L_law 25 = true := by decide +kernel
theorem ok_L_26 : bg_okn me_L_law cd_L_law 26 = true := by decide +kernel
theorem ok_L_27 : bg_okn me_L_law cd_L_law 27 = true := by decide +kernel
theorem ok_L_28 : bg_okn me_L_law cd_L_law 28 = true := by decide +kernel
end
section
/-- of each method: the places in the tables of its code, of its class's initialisation, 0 static, 1 instance, 2 constructor, and the places of that -/
def bg_PL : List (Nat × Nat × Nat × Nat × Nat) := [(171, 72, 2, 170, 0), (284, 76, 2, 283, 0), (115, 70, 2, 114, 0), (264, 75, 2, 263, 0), (219, 74, 2, 218, 0), (317, 77, 2, 316, 0), (94, 69, 2, 93, 0), (193, 73, 2, 192, 0), (86, 68, 2, 85, 0), (843, 78, 2, 842, 0), (341, 72, 1, 339, 340), (533, 72, 1, 531, 532), (543, 72, 1, 541, 542), (572, 72, 1, 570, 571), (539, 72, 1, 538, 9), (344, 72, 0, 343, 0), (722, 76, 1, 720, 721), (735, 76, 1, 734, 17), (725, 76, 0, 724, 0), (739, 76, 1, 738, 18), (758, 76, 1, 757, 22), (761, 76, 0, 760, 0), (746, 76, 1, 745, 19), (750, 76, 1, 749, 20), (754, 76, 1, 753, 21), (773, 76, 1, 772, 24), (769, 76, 1, 768, 23), (777, 76, 1, 776, 25), (782, 76, 1, 780, 781), (798, 76, 1, 796, 797), (122, 70, 1, 120, 121), (479, 70, 1, 477, 478), (453, 70, 1, 451, 452), (471, 70, 1, 470, 7), (457, 70, 1, 456, 5), (463, 70, 1, 462, 6), (467, 70, 1, 465, 466), (497, 70, 1, 495, 496), (501, 70, 1, 499, 500), (505, 70, 1, 503, 504), (509, 70, 1, 507, 508), (517, 70, 1, 515, 516), (555, 70, 1, 553, 554), (269, 75, 1, 267, 268), (829, 75, 1, 827, 828), (711, 75, 1, 709, 710), (718, 75, 1, 716, 717), (714, 75, 0, 713, 0), (363, 74, 1, 361, 362), (563, 74, 1, 561, 562), (604, 74, 1, 602, 603), (599, 74, 1, 597, 598), (576, 74, 1, 575, 10), (585, 74, 1, 584, 12), (581, 74, 1, 580, 11), (589, 74, 1, 588, 13), (595, 74, 1, 594, 14), (624, 74, 1, 622, 623), (681, 74, 1, 679, 680), (808, 77, 1, 806, 807), (813, 77, 1, 811, 812), (817, 77, 1, 816, 26), (414, 69, 1, 412, 413), (418, 69, 1, 416, 417), (430, 69, 1, 428, 429), (439, 69, 1, 438, 3), (443, 69, 1, 442, 4), (435, 69, 1, 434, 2), (446, 69, 0, 445, 0), (348, 73, 1, 346, 347), (351, 73, 0, 350, 0), (355, 73, 1, 354, 1), (632, 73, 1, 630, 631), (636, 73, 1, 634, 635), (644, 73, 1, 642, 643), (659, 73, 1, 657, 658), (671, 73, 1, 669, 670), (686, 73, 1, 684, 685), (410, 68, 1, 408, 409), (422, 68, 1, 420, 421), (426, 68, 1, 424, 425), (475, 68, 1, 473, 474), (488, 68, 1, 486, 487), (493, 68, 1, 491, 492), (513, 68, 1, 511, 512), (525, 68, 1, 523, 524), (547, 68, 1, 545, 546), (551, 68, 1, 549, 550), (559, 68, 1, 557, 558), (608, 68, 1, 606, 607), (612, 68, 1, 610, 611), (616, 68, 1, 614, 615), (620, 68, 1, 618, 619), (628, 68, 1, 626, 627), (640, 68, 1, 638, 639), (653, 68, 1, 651, 652), (667, 68, 1, 665, 666), (677, 68, 1, 675, 676), (690, 68, 1, 688, 689), (694, 68, 1, 692, 693), (698, 68, 1, 696, 697), (786, 68, 1, 784, 785), (790, 68, 1, 788, 789), (794, 68, 1, 792, 793), (803, 68, 1, 801, 802), (825, 68, 1, 823, 824), (834, 68, 1, 832, 833), (838, 68, 1, 836, 837), (337, 68, 1, 336, 0), (529, 68, 1, 528, 8), (703, 68, 1, 702, 15), (707, 68, 1, 706, 16), (960, 78, 0, 959, 0), (1029, 78, 0, 1028, 0), (1190, 78, 0, 1189, 0), (848, 78, 1, 847, 27), (852, 78, 1, 851, 28), (956, 78, 1, 954, 955), (965, 78, 1, 963, 964), (981, 78, 1, 980, 31), (989, 78, 1, 988, 33), (985, 78, 1, 984, 32), (996, 78, 1, 995, 34), (977, 78, 1, 976, 30), (973, 78, 1, 972, 29), (969, 78, 1, 967, 968), (1004, 78, 1, 1003, 35), (1000, 78, 1, 998, 999), (1012, 78, 1, 1011, 36), (1008, 78, 1, 1006, 1007), (1021, 78, 1, 1020, 37), (1026, 78, 1, 1025, 38), (1033, 78, 1, 1032, 39), (1037, 78, 1, 1036, 40), (1017, 78, 1, 1015, 1016), (1045, 78, 1, 1044, 41), (1041, 78, 1, 1039, 1040), (1057, 78, 1, 1056, 43), (1061, 78, 1, 1060, 44), (1053, 78, 1, 1052, 42), (1093, 78, 1, 1092, 48), (1049, 78, 1, 1047, 1048), (1066, 78, 1, 1064, 1065), (1076, 78, 1, 1075, 45), (1072, 78, 1, 1070, 1071), (1089, 78, 1, 1088, 47), (1085, 78, 1, 1084, 46), (1080, 78, 1, 1078, 1079), (1097, 78, 1, 1095, 1096), (1102, 78, 1, 1100, 1101), (1106, 78, 1, 1104, 1105), (1114, 78, 1, 1113, 49), (1110, 78, 1, 1108, 1109), (1126, 78, 1, 1125, 51), (1122, 78, 1, 1121, 50), (1130, 78, 1, 1129, 52), (1118, 78, 1, 1116, 1117), (1138, 78, 1, 1137, 53), (1134, 78, 1, 1132, 1133), (1147, 78, 1, 1146, 54), (1142, 78, 1, 1140, 1141), (1158, 78, 1, 1157, 55), (1162, 78, 1, 1161, 56), (1154, 78, 1, 1152, 1153), (1166, 78, 1, 1164, 1165), (1170, 78, 1, 1168, 1169), (1174, 78, 1, 1172, 1173), (1210, 78, 1, 1209, 63), (1187, 78, 1, 1186, 58), (1214, 78, 1, 1213, 64), (1206, 78, 1, 1205, 62), (1198, 78, 1, 1197, 60), (1202, 78, 1, 1201, 61), (1218, 78, 1, 1217, 65), (1194, 78, 1, 1193, 59), (1183, 78, 1, 1182, 57), (1224, 78, 0, 1223, 0), (1221, 78, 0, 1220, 0), (1179, 78, 1, 1177, 1178), (1229, 78, 1, 1227, 1228), (1233, 78, 1, 1231, 1232), (1238, 78, 1, 1236, 1237), (1242, 78, 1, 1240, 1241), (1252, 78, 1, 1251, 66), (1248, 78, 1, 1246, 1247), (1256, 78, 1, 1254, 1255), (1260, 78, 1, 1258, 1259), (764, 81, 0, 763, 0), (728, 81, 0, 727, 0), (742, 71, 0, 741, 0), (125, 71, 0, 124, 0), (521, 70, 1, 519, 520), (359, 70, 1, 357, 358)]
def bg_okm (M : bg_M) (k : Nat) (q : Nat × Nat × Nat × Nat × Nat) : Bool :=
  plainName M.1.cls && decide (M.1.cls ≠ "java/lang/invoke/MethodHandle" ∧ M.1.cls ≠ "java/lang/invoke/VarHandle") && bg_wd q.2.1 (.initialized M.1.cls) && decide (M.2.2.1 ≤ 100) && decide (M.2.2.2.2.2.1 = bg_mc k) && decide (M.2.2.2.1 = none ∨ M.2.2.2.1 = some .int ∨ M.2.2.2.1 = some .boolean ∨ M.2.2.2.1 = some .long) && (match q.2.2.1 with
    | 0 => bg_wd q.2.2.2.1 (.static M.1)
    | 1 => bg_wd q.2.2.2.1 (.instanceMethod M.1) && bg_wd q.2.2.2.2 (.selects M.1.cls M.1 M.1)
    | _ => bg_wd q.2.2.2.1 (.instanceMethod M.1))
def bg_okl : List bg_M → List (Nat × Nat × Nat × Nat × Nat) → Nat → Bool
  | [], [], _ => true
  | M :: l, q :: r, k => bg_okm M k q && bg_okl l r (k + 1)
  | _, _, _ => false
theorem bg_okl_of : ∀ (l : List bg_M) (r : List (Nat × Nat × Nat × Nat × Nat)) (n : Nat), bg_okl l r n = true → ∀ (k : Nat) (M : bg_M), bg_nth l k = some M → ∃ q, bg_nth r k = some q ∧ bg_okm M (n + k) q = true
  | [], [], _, _, k, M, h => by simp [bg_nth] at h
  | [], _ :: _, _, h, _, _, _ => by simp [bg_okl] at h
  | _ :: _, [], _, h, _, _, _ => by simp [bg_okl] at h
  | M0 :: l, q :: r, n, h, 0, M, hk => by
    simp only [bg_okl, Bool.and_eq_true] at h
    cases hk
    exact ⟨q, rfl, h.1⟩
  | M0 :: l, q :: r, n, h, k + 1, M, hk => by
    simp only [bg_okl, Bool.and_eq_true] at h
    obtain ⟨q', h1, h2⟩ := bg_okl_of l r (n + 1) h.2 k M hk
    exact ⟨q', h1, by rw [show n + (k + 1) = n + 1 + k by omega]; exact h2⟩
theorem cw_X0_init : lw_tbl[171]? = some (.code me_X0_init.1 me_X0_init.2.1 me_X0_init.2.2.1 me_X0_init.2.2.2.1) := by decide +kernel
theorem cw_X1_init : lw_tbl[284]? = some (.code me_X1_init.1 me_X1_init.2.1 me_X1_init.2.2.1 me_X1_init.2.2.2.1) := by decide +kernel
theorem cw_X2_init : lw_tbl[115]? = some (.code me_X2_init.1 me_X2_init.2.1 me_X2_init.2.2.1 me_X2_init.2.2.2.1) := by decide +kernel
theorem cw_X3_init : lw_tbl[264]? = some (.code me_X3_init.1 me_X3_init.2.1 me_X3_init.2.2.1 me_X3_init.2.2.2.1) := by decide +kernel
theorem cw_X4_init : lw_tbl[219]? = some (.code me_X4_init.1 me_X4_init.2.1 me_X4_init.2.2.1 me_X4_init.2.2.2.1) := by decide +kernel
theorem cw_X5_init : lw_tbl[317]? = some (.code me_X5_init.1 me_X5_init.2.1 me_X5_init.2.2.1 me_X5_init.2.2.2.1) := by decide +kernel
theorem cw_X6_init : lw_tbl[94]? = some (.code me_X6_init.1 me_X6_init.2.1 me_X6_init.2.2.1 me_X6_init.2.2.2.1) := by decide +kernel
theorem cw_X7_init : lw_tbl[193]? = some (.code me_X7_init.1 me_X7_init.2.1 me_X7_init.2.2.1 me_X7_init.2.2.2.1) := by decide +kernel
theorem cw_X8_init : lw_tbl[86]? = some (.code me_X8_init.1 me_X8_init.2.1 me_X8_init.2.2.1 me_X8_init.2.2.2.1) := by decide +kernel
theorem cw_X9_init : lw_tbl[843]? = some (.code me_X9_init.1 me_X9_init.2.1 me_X9_init.2.2.1 me_X9_init.2.2.2.1) := by decide +kernel
theorem cw_X0_survey : lw_tbl[341]? = some (.code me_X0_survey.1 me_X0_survey.2.1 me_X0_survey.2.2.1 me_X0_survey.2.2.2.1) := by decide +kernel
theorem cw_X0_weigh : lw_tbl[533]? = some (.code me_X0_weigh.1 me_X0_weigh.2.1 me_X0_weigh.2.2.1 me_X0_weigh.2.2.2.1) := by decide +kernel
theorem cw_X0_outOfShore : lw_tbl[543]? = some (.code me_X0_outOfShore.1 me_X0_outOfShore.2.1 me_X0_outOfShore.2.2.1 me_X0_outOfShore.2.2.2.1) := by decide +kernel
theorem cw_X0_isNeeded : lw_tbl[572]? = some (.code me_X0_isNeeded.1 me_X0_isNeeded.2.1 me_X0_isNeeded.2.2.1 me_X0_isNeeded.2.2.2.1) := by decide +kernel
theorem cw_X0_sumOver : lw_tbl[539]? = some (.code me_X0_sumOver.1 me_X0_sumOver.2.1 me_X0_sumOver.2.2.1 me_X0_sumOver.2.2.2.1) := by decide +kernel
theorem cw_X0_placesOf : lw_tbl[344]? = some (.code me_X0_placesOf.1 me_X0_placesOf.2.1 me_X0_placesOf.2.2.1 me_X0_placesOf.2.2.2.1) := by decide +kernel
theorem cw_X1_findSupport : lw_tbl[722]? = some (.code me_X1_findSupport.1 me_X1_findSupport.2.1 me_X1_findSupport.2.2.1 me_X1_findSupport.2.2.2.1) := by decide +kernel
theorem cw_X1_findCarriers : lw_tbl[735]? = some (.code me_X1_findCarriers.1 me_X1_findCarriers.2.1 me_X1_findCarriers.2.2.1 me_X1_findCarriers.2.2.2.1) := by decide +kernel
theorem cw_X1_isSetOf : lw_tbl[725]? = some (.code me_X1_isSetOf.1 me_X1_isSetOf.2.1 me_X1_isSetOf.2.2.1 me_X1_isSetOf.2.2.2.1) := by decide +kernel
theorem cw_X1_mixes : lw_tbl[739]? = some (.code me_X1_mixes.1 me_X1_mixes.2.1 me_X1_mixes.2.2.1 me_X1_mixes.2.2.2.1) := by decide +kernel
theorem cw_X1_turnSigns : lw_tbl[758]? = some (.code me_X1_turnSigns.1 me_X1_turnSigns.2.1 me_X1_turnSigns.2.2.1 me_X1_turnSigns.2.2.2.1) := by decide +kernel
theorem cw_X1_areAllAbove0 : lw_tbl[761]? = some (.code me_X1_areAllAbove0.1 me_X1_areAllAbove0.2.1 me_X1_areAllAbove0.2.2.1 me_X1_areAllAbove0.2.2.2.1) := by decide +kernel
theorem cw_X1_signedMinor : lw_tbl[746]? = some (.code me_X1_signedMinor.1 me_X1_signedMinor.2.1 me_X1_signedMinor.2.2.1 me_X1_signedMinor.2.2.2.1) := by decide +kernel
theorem cw_X1_fillLine : lw_tbl[750]? = some (.code me_X1_fillLine.1 me_X1_fillLine.2.1 me_X1_fillLine.2.2.1 me_X1_fillLine.2.2.2.1) := by decide +kernel
theorem cw_X1_minorOf : lw_tbl[754]? = some (.code me_X1_minorOf.1 me_X1_minorOf.2.1 me_X1_minorOf.2.2.1 me_X1_minorOf.2.2.2.1) := by decide +kernel
theorem cw_X1_noneDoesBetter : lw_tbl[773]? = some (.code me_X1_noneDoesBetter.1 me_X1_noneDoesBetter.2.1 me_X1_noneDoesBetter.2.2.1 me_X1_noneDoesBetter.2.2.2.1) := by decide +kernel
theorem cw_X1_meanBy : lw_tbl[769]? = some (.code me_X1_meanBy.1 me_X1_meanBy.2.1 me_X1_meanBy.2.2.1 me_X1_meanBy.2.2.2.1) := by decide +kernel
theorem cw_X1_meanOf : lw_tbl[777]? = some (.code me_X1_meanOf.1 me_X1_meanOf.2.1 me_X1_meanOf.2.2.1 me_X1_meanOf.2.2.2.1) := by decide +kernel
theorem cw_X1_lowest : lw_tbl[782]? = some (.code me_X1_lowest.1 me_X1_lowest.2.1 me_X1_lowest.2.2.1 me_X1_lowest.2.2.2.1) := by decide +kernel
theorem cw_X1_worthOfBeingTold : lw_tbl[798]? = some (.code me_X1_worthOfBeingTold.1 me_X1_worthOfBeingTold.2.1 me_X1_worthOfBeingTold.2.2.1 me_X1_worthOfBeingTold.2.2.2.1) := by decide +kernel
theorem cw_X2_clear : lw_tbl[122]? = some (.code me_X2_clear.1 me_X2_clear.2.1 me_X2_clear.2.2.1 me_X2_clear.2.2.2.1) := by decide +kernel
theorem cw_X2_copy : lw_tbl[479]? = some (.code me_X2_copy.1 me_X2_copy.2.1 me_X2_copy.2.2.1 me_X2_copy.2.2.2.1) := by decide +kernel
theorem cw_X2_takes : lw_tbl[453]? = some (.code me_X2_takes.1 me_X2_takes.2.1 me_X2_takes.2.2.1 me_X2_takes.2.2.2.1) := by decide +kernel
theorem cw_X2_takesNumber : lw_tbl[471]? = some (.code me_X2_takesNumber.1 me_X2_takesNumber.2.1 me_X2_takesNumber.2.2.1 me_X2_takesNumber.2.2.2.1) := by decide +kernel
theorem cw_X2_takesPath : lw_tbl[457]? = some (.code me_X2_takesPath.1 me_X2_takesPath.2.1 me_X2_takesPath.2.2.1 me_X2_takesPath.2.2.2.1) := by decide +kernel
theorem cw_X2_takesTower : lw_tbl[463]? = some (.code me_X2_takesTower.1 me_X2_takesTower.2.1 me_X2_takesTower.2.2.1 me_X2_takesTower.2.2.2.1) := by decide +kernel
theorem cw_X2_hasPath : lw_tbl[467]? = some (.code me_X2_hasPath.1 me_X2_hasPath.2.1 me_X2_hasPath.2.2.1 me_X2_hasPath.2.2.2.1) := by decide +kernel
theorem cw_X2_hasPosts : lw_tbl[497]? = some (.code me_X2_hasPosts.1 me_X2_hasPosts.2.1 me_X2_hasPosts.2.2.1 me_X2_hasPosts.2.2.2.1) := by decide +kernel
theorem cw_X2_costOf : lw_tbl[501]? = some (.code me_X2_costOf.1 me_X2_costOf.2.1 me_X2_costOf.2.2.1 me_X2_costOf.2.2.2.1) := by decide +kernel
theorem cw_X2_heldBy : lw_tbl[505]? = some (.code me_X2_heldBy.1 me_X2_heldBy.2.1 me_X2_heldBy.2.2.1 me_X2_heldBy.2.2.2.1) := by decide +kernel
theorem cw_X2_waitsOf : lw_tbl[509]? = some (.code me_X2_waitsOf.1 me_X2_waitsOf.2.1 me_X2_waitsOf.2.2.1 me_X2_waitsOf.2.2.2.1) := by decide +kernel
theorem cw_X2_bearing : lw_tbl[517]? = some (.code me_X2_bearing.1 me_X2_bearing.2.1 me_X2_bearing.2.2.1 me_X2_bearing.2.2.2.1) := by decide +kernel
theorem cw_X2_comesMoreThanGoes : lw_tbl[555]? = some (.code me_X2_comesMoreThanGoes.1 me_X2_comesMoreThanGoes.2.1 me_X2_comesMoreThanGoes.2.2.1 me_X2_comesMoreThanGoes.2.2.2.1) := by decide +kernel
theorem cw_X3_clear : lw_tbl[269]? = some (.code me_X3_clear.1 me_X3_clear.2.1 me_X3_clear.2.2.1 me_X3_clear.2.2.2.1) := by decide +kernel
theorem cw_X3_copy : lw_tbl[829]? = some (.code me_X3_copy.1 me_X3_copy.2.1 me_X3_copy.2.2.1 me_X3_copy.2.2.2.1) := by decide +kernel
theorem cw_X3_toldGuards : lw_tbl[711]? = some (.code me_X3_toldGuards.1 me_X3_toldGuards.2.1 me_X3_toldGuards.2.2.1 me_X3_toldGuards.2.2.2.1) := by decide +kernel
theorem cw_X3_toldCarriers : lw_tbl[718]? = some (.code me_X3_toldCarriers.1 me_X3_toldCarriers.2.1 me_X3_toldCarriers.2.2.1 me_X3_toldCarriers.2.2.2.1) := by decide +kernel
theorem cw_X3_toldOf : lw_tbl[714]? = some (.code me_X3_toldOf.1 me_X3_toldOf.2.1 me_X3_toldOf.2.2.1 me_X3_toldOf.2.2.2.1) := by decide +kernel
theorem cw_X4_forget : lw_tbl[363]? = some (.code me_X4_forget.1 me_X4_forget.2.1 me_X4_forget.2.2.1 me_X4_forget.2.2.2.1) := by decide +kernel
theorem cw_X4_prepare : lw_tbl[563]? = some (.code me_X4_prepare.1 me_X4_prepare.2.1 me_X4_prepare.2.2.1 me_X4_prepare.2.2.2.1) := by decide +kernel
theorem cw_X4_bestFor : lw_tbl[604]? = some (.code me_X4_bestFor.1 me_X4_bestFor.2.1 me_X4_bestFor.2.2.1 me_X4_bestFor.2.2.2.1) := by decide +kernel
theorem cw_X4_leastFor : lw_tbl[599]? = some (.code me_X4_leastFor.1 me_X4_leastFor.2.1 me_X4_leastFor.2.2.1 me_X4_leastFor.2.2.2.1) := by decide +kernel
theorem cw_X4_lowerMost : lw_tbl[576]? = some (.code me_X4_lowerMost.1 me_X4_lowerMost.2.1 me_X4_lowerMost.2.2.1 me_X4_lowerMost.2.2.2.1) := by decide +kernel
theorem cw_X4_sumNumbers : lw_tbl[585]? = some (.code me_X4_sumNumbers.1 me_X4_sumNumbers.2.1 me_X4_sumNumbers.2.2.1 me_X4_sumNumbers.2.2.2.1) := by decide +kernel
theorem cw_X4_sumAddends : lw_tbl[581]? = some (.code me_X4_sumAddends.1 me_X4_sumAddends.2.1 me_X4_sumAddends.2.2.1 me_X4_sumAddends.2.2.2.1) := by decide +kernel
theorem cw_X4_offerAll : lw_tbl[589]? = some (.code me_X4_offerAll.1 me_X4_offerAll.2.1 me_X4_offerAll.2.2.1 me_X4_offerAll.2.2.2.1) := by decide +kernel
theorem cw_X4_spreadBest : lw_tbl[595]? = some (.code me_X4_spreadBest.1 me_X4_spreadBest.2.1 me_X4_spreadBest.2.2.1 me_X4_spreadBest.2.2.2.1) := by decide +kernel
theorem cw_X4_weigh : lw_tbl[624]? = some (.code me_X4_weigh.1 me_X4_weigh.2.1 me_X4_weigh.2.2.1 me_X4_weigh.2.2.2.1) := by decide +kernel
theorem cw_X4_leastPaying : lw_tbl[681]? = some (.code me_X4_leastPaying.1 me_X4_leastPaying.2.1 me_X4_leastPaying.2.2.1 me_X4_leastPaying.2.2.2.1) := by decide +kernel
theorem cw_X5_begin : lw_tbl[808]? = some (.code me_X5_begin.1 me_X5_begin.2.1 me_X5_begin.2.2.1 me_X5_begin.2.2.2.1) := by decide +kernel
theorem cw_X5_leastSum : lw_tbl[813]? = some (.code me_X5_leastSum.1 me_X5_leastSum.2.1 me_X5_leastSum.2.2.1 me_X5_leastSum.2.2.2.1) := by decide +kernel
theorem cw_X5_leastBefore : lw_tbl[817]? = some (.code me_X5_leastBefore.1 me_X5_leastBefore.2.1 me_X5_leastBefore.2.2.1 me_X5_leastBefore.2.2.2.1) := by decide +kernel
theorem cw_X6_hasRoomFor : lw_tbl[414]? = some (.code me_X6_hasRoomFor.1 me_X6_hasRoomFor.2.1 me_X6_hasRoomFor.2.2.1 me_X6_hasRoomFor.2.2.2.1) := by decide +kernel
theorem cw_X6_append : lw_tbl[418]? = some (.code me_X6_append.1 me_X6_append.2.1 me_X6_append.2.2.1 me_X6_append.2.2.2.1) := by decide +kernel
theorem cw_X6_readInto : lw_tbl[430]? = some (.code me_X6_readInto.1 me_X6_readInto.2.1 me_X6_readInto.2.2.1 me_X6_readInto.2.2.2.1) := by decide +kernel
theorem cw_X6_readNumbers : lw_tbl[439]? = some (.code me_X6_readNumbers.1 me_X6_readNumbers.2.1 me_X6_readNumbers.2.2.1 me_X6_readNumbers.2.2.2.1) := by decide +kernel
theorem cw_X6_readNumber : lw_tbl[443]? = some (.code me_X6_readNumber.1 me_X6_readNumber.2.1 me_X6_readNumber.2.2.1 me_X6_readNumber.2.2.2.1) := by decide +kernel
theorem cw_X6_nextByte : lw_tbl[435]? = some (.code me_X6_nextByte.1 me_X6_nextByte.2.1 me_X6_nextByte.2.2.1 me_X6_nextByte.2.2.2.1) := by decide +kernel
theorem cw_X6_isFigure : lw_tbl[446]? = some (.code me_X6_isFigure.1 me_X6_isFigure.2.1 me_X6_isFigure.2.2.1 me_X6_isFigure.2.2.2.1) := by decide +kernel
theorem cw_X7_survey : lw_tbl[348]? = some (.code me_X7_survey.1 me_X7_survey.2.1 me_X7_survey.2.2.1 me_X7_survey.2.2.2.1) := by decide +kernel
theorem cw_X7_follow : lw_tbl[351]? = some (.code me_X7_follow.1 me_X7_follow.2.1 me_X7_follow.2.2.1 me_X7_follow.2.2.2.1) := by decide +kernel
theorem cw_X7_add : lw_tbl[355]? = some (.code me_X7_add.1 me_X7_add.2.1 me_X7_add.2.2.1 me_X7_add.2.2.2.1) := by decide +kernel
theorem cw_X7_lengthOf : lw_tbl[632]? = some (.code me_X7_lengthOf.1 me_X7_lengthOf.2.1 me_X7_lengthOf.2.2.1 me_X7_lengthOf.2.2.2.1) := by decide +kernel
theorem cw_X7_pathAt : lw_tbl[636]? = some (.code me_X7_pathAt.1 me_X7_pathAt.2.1 me_X7_pathAt.2.2.1 me_X7_pathAt.2.2.2.1) := by decide +kernel
theorem cw_X7_leastBearing : lw_tbl[644]? = some (.code me_X7_leastBearing.1 me_X7_leastBearing.2.1 me_X7_leastBearing.2.2.1 me_X7_leastBearing.2.2.2.1) := by decide +kernel
theorem cw_X7_gainOf : lw_tbl[659]? = some (.code me_X7_gainOf.1 me_X7_gainOf.2.1 me_X7_gainOf.2.2.1 me_X7_gainOf.2.2.2.1) := by decide +kernel
theorem cw_X7_bestOf : lw_tbl[671]? = some (.code me_X7_bestOf.1 me_X7_bestOf.2.1 me_X7_bestOf.2.2.1 me_X7_bestOf.2.2.2.1) := by decide +kernel
theorem cw_X7_greatestGain : lw_tbl[686]? = some (.code me_X7_greatestGain.1 me_X7_greatestGain.2.1 me_X7_greatestGain.2.2.1 me_X7_greatestGain.2.2.2.1) := by decide +kernel
theorem cw_X8_write : lw_tbl[410]? = some (.code me_X8_write.1 me_X8_write.2.1 me_X8_write.2.2.1 me_X8_write.2.2.2.1) := by decide +kernel
theorem cw_X8_wipe : lw_tbl[422]? = some (.code me_X8_wipe.1 me_X8_wipe.2.1 me_X8_wipe.2.2.1 me_X8_wipe.2.2.2.1) := by decide +kernel
theorem cw_X8_fault : lw_tbl[426]? = some (.code me_X8_fault.1 me_X8_fault.2.1 me_X8_fault.2.2.1 me_X8_fault.2.2.2.1) := by decide +kernel
theorem cw_X8_lay : lw_tbl[475]? = some (.code me_X8_lay.1 me_X8_lay.2.1 me_X8_lay.2.2.1 me_X8_lay.2.2.2.1) := by decide +kernel
theorem cw_X8_path : lw_tbl[488]? = some (.code me_X8_path.1 me_X8_path.2.1 me_X8_path.2.2.1 me_X8_path.2.2.2.1) := by decide +kernel
theorem cw_X8_posts : lw_tbl[493]? = some (.code me_X8_posts.1 me_X8_posts.2.1 me_X8_posts.2.2.1 me_X8_posts.2.2.2.1) := by decide +kernel
theorem cw_X8_bears : lw_tbl[513]? = some (.code me_X8_bears.1 me_X8_bears.2.1 me_X8_bears.2.2.1 me_X8_bears.2.2.2.1) := by decide +kernel
theorem cw_X8_most : lw_tbl[525]? = some (.code me_X8_most.1 me_X8_most.2.1 me_X8_most.2.2.1 me_X8_most.2.2.2.1) := by decide +kernel
theorem cw_X8_row : lw_tbl[547]? = some (.code me_X8_row.1 me_X8_row.2.1 me_X8_row.2.2.1 me_X8_row.2.2.2.1) := by decide +kernel
theorem cw_X8_judge : lw_tbl[551]? = some (.code me_X8_judge.1 me_X8_judge.2.1 me_X8_judge.2.2.1 me_X8_judge.2.2.2.1) := by decide +kernel
theorem cw_X8_best : lw_tbl[559]? = some (.code me_X8_best.1 me_X8_best.2.1 me_X8_best.2.2.1 me_X8_best.2.2.2.1) := by decide +kernel
theorem cw_X8_fewest : lw_tbl[608]? = some (.code me_X8_fewest.1 me_X8_fewest.2.1 me_X8_fewest.2.2.1 me_X8_fewest.2.2.2.1) := by decide +kernel
theorem cw_X8_more : lw_tbl[612]? = some (.code me_X8_more.1 me_X8_more.2.1 me_X8_more.2.2.1 me_X8_more.2.2.2.1) := by decide +kernel
theorem cw_X8_oneMore : lw_tbl[616]? = some (.code me_X8_oneMore.1 me_X8_oneMore.2.1 me_X8_oneMore.2.2.1 me_X8_oneMore.2.2.2.1) := by decide +kernel
theorem cw_X8_weighed : lw_tbl[620]? = some (.code me_X8_weighed.1 me_X8_weighed.2.1 me_X8_weighed.2.2.1 me_X8_weighed.2.2.2.1) := by decide +kernel
theorem cw_X8_way : lw_tbl[628]? = some (.code me_X8_way.1 me_X8_way.2.1 me_X8_way.2.2.1 me_X8_way.2.2.2.1) := by decide +kernel
theorem cw_X8_through : lw_tbl[640]? = some (.code me_X8_through.1 me_X8_through.2.1 me_X8_through.2.2.1 me_X8_through.2.2.2.1) := by decide +kernel
theorem cw_X8_gain : lw_tbl[653]? = some (.code me_X8_gain.1 me_X8_gain.2.1 me_X8_gain.2.2.1 me_X8_gain.2.2.2.1) := by decide +kernel
theorem cw_X8_bestWay : lw_tbl[667]? = some (.code me_X8_bestWay.1 me_X8_bestWay.2.1 me_X8_bestWay.2.2.1 me_X8_bestWay.2.2.2.1) := by decide +kernel
theorem cw_X8_leastPay : lw_tbl[677]? = some (.code me_X8_leastPay.1 me_X8_leastPay.2.1 me_X8_leastPay.2.2.1 me_X8_leastPay.2.2.2.1) := by decide +kernel
theorem cw_X8_guard : lw_tbl[690]? = some (.code me_X8_guard.1 me_X8_guard.2.1 me_X8_guard.2.2.1 me_X8_guard.2.2.2.1) := by decide +kernel
theorem cw_X8_carrier : lw_tbl[694]? = some (.code me_X8_carrier.1 me_X8_carrier.2.1 me_X8_carrier.2.2.1 me_X8_carrier.2.2.2.1) := by decide +kernel
theorem cw_X8_value : lw_tbl[698]? = some (.code me_X8_value.1 me_X8_value.2.1 me_X8_value.2.2.1 me_X8_value.2.2.2.1) := by decide +kernel
theorem cw_X8_chance : lw_tbl[786]? = some (.code me_X8_chance.1 me_X8_chance.2.1 me_X8_chance.2.2.1 me_X8_chance.2.2.2.1) := by decide +kernel
theorem cw_X8_tenths : lw_tbl[790]? = some (.code me_X8_tenths.1 me_X8_tenths.2.1 me_X8_tenths.2.2.1 me_X8_tenths.2.2.2.1) := by decide +kernel
theorem cw_X8_told : lw_tbl[794]? = some (.code me_X8_told.1 me_X8_told.2.1 me_X8_told.2.2.1 me_X8_told.2.2.2.1) := by decide +kernel
theorem cw_X8_nights : lw_tbl[803]? = some (.code me_X8_nights.1 me_X8_nights.2.1 me_X8_nights.2.2.1 me_X8_nights.2.2.2.1) := by decide +kernel
theorem cw_X8_keep : lw_tbl[825]? = some (.code me_X8_keep.1 me_X8_keep.2.1 me_X8_keep.2.2.1 me_X8_keep.2.2.2.1) := by decide +kernel
theorem cw_X8_back : lw_tbl[834]? = some (.code me_X8_back.1 me_X8_back.2.1 me_X8_back.2.2.1 me_X8_back.2.2.2.1) := by decide +kernel
theorem cw_X8_count : lw_tbl[838]? = some (.code me_X8_count.1 me_X8_count.2.1 me_X8_count.2.2.1 me_X8_count.2.2.2.1) := by decide +kernel
theorem cw_X8_survey : lw_tbl[337]? = some (.code me_X8_survey.1 me_X8_survey.2.1 me_X8_survey.2.2.1 me_X8_survey.2.2.2.1) := by decide +kernel
theorem cw_X8_mostBy : lw_tbl[529]? = some (.code me_X8_mostBy.1 me_X8_mostBy.2.1 me_X8_mostBy.2.2.1 me_X8_mostBy.2.2.2.1) := by decide +kernel
theorem cw_X8_playGame : lw_tbl[703]? = some (.code me_X8_playGame.1 me_X8_playGame.2.1 me_X8_playGame.2.2.1 me_X8_playGame.2.2.2.1) := by decide +kernel
theorem cw_X8_setUpGame : lw_tbl[707]? = some (.code me_X8_setUpGame.1 me_X8_setUpGame.2.1 me_X8_setUpGame.2.2.1 me_X8_setUpGame.2.2.2.1) := by decide +kernel
theorem cw_X9_in : lw_tbl[960]? = some (.code me_X9_in.1 me_X9_in.2.1 me_X9_in.2.2.1 me_X9_in.2.2.2.1) := by decide +kernel
theorem cw_X9_has : lw_tbl[1029]? = some (.code me_X9_has.1 me_X9_has.2.1 me_X9_has.2.2.1 me_X9_has.2.2.2.1) := by decide +kernel
theorem cw_X9_bits : lw_tbl[1190]? = some (.code me_X9_bits.1 me_X9_bits.2.1 me_X9_bits.2.2.1 me_X9_bits.2.2.2.1) := by decide +kernel
theorem cw_X9_noLand : lw_tbl[848]? = some (.code me_X9_noLand.1 me_X9_noLand.2.1 me_X9_noLand.2.2.1 me_X9_noLand.2.2.2.1) := by decide +kernel
theorem cw_X9_noPlayers : lw_tbl[852]? = some (.code me_X9_noPlayers.1 me_X9_noPlayers.2.1 me_X9_noPlayers.2.2.1 me_X9_noPlayers.2.2.2.1) := by decide +kernel
theorem cw_X9_write : lw_tbl[956]? = some (.code me_X9_write.1 me_X9_write.2.1 me_X9_write.2.2.1 me_X9_write.2.2.2.1) := by decide +kernel
theorem cw_X9_wipe : lw_tbl[965]? = some (.code me_X9_wipe.1 me_X9_wipe.2.1 me_X9_wipe.2.2.1 me_X9_wipe.2.2.2.1) := by decide +kernel
theorem cw_X9_byteAt : lw_tbl[981]? = some (.code me_X9_byteAt.1 me_X9_byteAt.2.1 me_X9_byteAt.2.2.1 me_X9_byteAt.2.2.2.1) := by decide +kernel
theorem cw_X9_figures : lw_tbl[989]? = some (.code me_X9_figures.1 me_X9_figures.2.1 me_X9_figures.2.2.1 me_X9_figures.2.2.2.1) := by decide +kernel
theorem cw_X9_pathItem : lw_tbl[985]? = some (.code me_X9_pathItem.1 me_X9_pathItem.2.1 me_X9_pathItem.2.2.1 me_X9_pathItem.2.2.2.1) := by decide +kernel
theorem cw_X9_towerItem : lw_tbl[996]? = some (.code me_X9_towerItem.1 me_X9_towerItem.2.1 me_X9_towerItem.2.2.1 me_X9_towerItem.2.2.2.1) := by decide +kernel
theorem cw_X9_item : lw_tbl[977]? = some (.code me_X9_item.1 me_X9_item.2.1 me_X9_item.2.2.1 me_X9_item.2.2.2.1) := by decide +kernel
theorem cw_X9_readAll : lw_tbl[973]? = some (.code me_X9_readAll.1 me_X9_readAll.2.1 me_X9_readAll.2.2.1 me_X9_readAll.2.2.2.1) := by decide +kernel
theorem cw_X9_fault : lw_tbl[969]? = some (.code me_X9_fault.1 me_X9_fault.2.1 me_X9_fault.2.2.1 me_X9_fault.2.2.2.1) := by decide +kernel
theorem cw_X9_copyLand : lw_tbl[1004]? = some (.code me_X9_copyLand.1 me_X9_copyLand.2.1 me_X9_copyLand.2.2.1 me_X9_copyLand.2.2.2.1) := by decide +kernel
theorem cw_X9_lay : lw_tbl[1000]? = some (.code me_X9_lay.1 me_X9_lay.2.1 me_X9_lay.2.2.1 me_X9_lay.2.2.2.1) := by decide +kernel
theorem cw_X9_isPath : lw_tbl[1012]? = some (.code me_X9_isPath.1 me_X9_isPath.2.1 me_X9_isPath.2.2.1 me_X9_isPath.2.2.2.1) := by decide +kernel
theorem cw_X9_path : lw_tbl[1008]? = some (.code me_X9_path.1 me_X9_path.2.1 me_X9_path.2.2.1 me_X9_path.2.2.2.1) := by decide +kernel
theorem cw_X9_arePosts : lw_tbl[1021]? = some (.code me_X9_arePosts.1 me_X9_arePosts.2.1 me_X9_arePosts.2.2.1 me_X9_arePosts.2.2.2.1) := by decide +kernel
theorem cw_X9_costOf : lw_tbl[1026]? = some (.code me_X9_costOf.1 me_X9_costOf.2.1 me_X9_costOf.2.2.1 me_X9_costOf.2.2.2.1) := by decide +kernel
theorem cw_X9_heldBy : lw_tbl[1033]? = some (.code me_X9_heldBy.1 me_X9_heldBy.2.1 me_X9_heldBy.2.2.1 me_X9_heldBy.2.2.2.1) := by decide +kernel
theorem cw_X9_waitsBy : lw_tbl[1037]? = some (.code me_X9_waitsBy.1 me_X9_waitsBy.2.1 me_X9_waitsBy.2.2.1 me_X9_waitsBy.2.2.2.1) := by decide +kernel
theorem cw_X9_posts : lw_tbl[1017]? = some (.code me_X9_posts.1 me_X9_posts.2.1 me_X9_posts.2.2.1 me_X9_posts.2.2.2.1) := by decide +kernel
theorem cw_X9_bearsWith : lw_tbl[1045]? = some (.code me_X9_bearsWith.1 me_X9_bearsWith.2.1 me_X9_bearsWith.2.2.1 me_X9_bearsWith.2.2.2.1) := by decide +kernel
theorem cw_X9_bears : lw_tbl[1041]? = some (.code me_X9_bears.1 me_X9_bears.2.1 me_X9_bears.2.2.1 me_X9_bears.2.2.2.1) := by decide +kernel
theorem cw_X9_spread : lw_tbl[1057]? = some (.code me_X9_spread.1 me_X9_spread.2.1 me_X9_spread.2.2.1 me_X9_spread.2.2.2.1) := by decide +kernel
theorem cw_X9_push : lw_tbl[1061]? = some (.code me_X9_push.1 me_X9_push.2.1 me_X9_push.2.2.1 me_X9_push.2.2.2.1) := by decide +kernel
theorem cw_X9_flow : lw_tbl[1053]? = some (.code me_X9_flow.1 me_X9_flow.2.1 me_X9_flow.2.2.1 me_X9_flow.2.2.2.1) := by decide +kernel
theorem cw_X9_mostBy : lw_tbl[1093]? = some (.code me_X9_mostBy.1 me_X9_mostBy.2.1 me_X9_mostBy.2.2.1 me_X9_mostBy.2.2.2.1) := by decide +kernel
theorem cw_X9_most : lw_tbl[1049]? = some (.code me_X9_most.1 me_X9_most.2.1 me_X9_most.2.2.1 me_X9_most.2.2.2.1) := by decide +kernel
theorem cw_X9_row : lw_tbl[1066]? = some (.code me_X9_row.1 me_X9_row.2.1 me_X9_row.2.2.1 me_X9_row.2.2.2.1) := by decide +kernel
theorem cw_X9_comeTo : lw_tbl[1076]? = some (.code me_X9_comeTo.1 me_X9_comeTo.2.1 me_X9_comeTo.2.2.1 me_X9_comeTo.2.2.2.1) := by decide +kernel
theorem cw_X9_judge : lw_tbl[1072]? = some (.code me_X9_judge.1 me_X9_judge.2.1 me_X9_judge.2.2.1 me_X9_judge.2.2.2.1) := by decide +kernel
theorem cw_X9_setMany : lw_tbl[1089]? = some (.code me_X9_setMany.1 me_X9_setMany.2.1 me_X9_setMany.2.2.1 me_X9_setMany.2.2.2.1) := by decide +kernel
theorem cw_X9_bestFor : lw_tbl[1085]? = some (.code me_X9_bestFor.1 me_X9_bestFor.2.1 me_X9_bestFor.2.2.1 me_X9_bestFor.2.2.2.1) := by decide +kernel
theorem cw_X9_best : lw_tbl[1080]? = some (.code me_X9_best.1 me_X9_best.2.1 me_X9_best.2.2.1 me_X9_best.2.2.2.1) := by decide +kernel
theorem cw_X9_fewest : lw_tbl[1097]? = some (.code me_X9_fewest.1 me_X9_fewest.2.1 me_X9_fewest.2.2.1 me_X9_fewest.2.2.2.1) := by decide +kernel
theorem cw_X9_more : lw_tbl[1102]? = some (.code me_X9_more.1 me_X9_more.2.1 me_X9_more.2.2.1 me_X9_more.2.2.2.1) := by decide +kernel
theorem cw_X9_oneMore : lw_tbl[1106]? = some (.code me_X9_oneMore.1 me_X9_oneMore.2.1 me_X9_oneMore.2.2.1 me_X9_oneMore.2.2.2.1) := by decide +kernel
theorem cw_X9_weigh : lw_tbl[1114]? = some (.code me_X9_weigh.1 me_X9_weigh.2.1 me_X9_weigh.2.2.1 me_X9_weigh.2.2.2.1) := by decide +kernel
theorem cw_X9_weighed : lw_tbl[1110]? = some (.code me_X9_weighed.1 me_X9_weighed.2.1 me_X9_weighed.2.2.1 me_X9_weighed.2.2.2.1) := by decide +kernel
theorem cw_X9_seenBy : lw_tbl[1126]? = some (.code me_X9_seenBy.1 me_X9_seenBy.2.1 me_X9_seenBy.2.2.1 me_X9_seenBy.2.2.2.1) := by decide +kernel
theorem cw_X9_layWays : lw_tbl[1122]? = some (.code me_X9_layWays.1 me_X9_layWays.2.1 me_X9_layWays.2.2.1 me_X9_layWays.2.2.2.1) := by decide +kernel
theorem cw_X9_noteWay : lw_tbl[1130]? = some (.code me_X9_noteWay.1 me_X9_noteWay.2.1 me_X9_noteWay.2.2.1 me_X9_noteWay.2.2.2.1) := by decide +kernel
theorem cw_X9_way : lw_tbl[1118]? = some (.code me_X9_way.1 me_X9_way.2.1 me_X9_way.2.2.1 me_X9_way.2.2.2.1) := by decide +kernel
theorem cw_X9_throughBy : lw_tbl[1138]? = some (.code me_X9_throughBy.1 me_X9_throughBy.2.1 me_X9_throughBy.2.2.1 me_X9_throughBy.2.2.2.1) := by decide +kernel
theorem cw_X9_through : lw_tbl[1134]? = some (.code me_X9_through.1 me_X9_through.2.1 me_X9_through.2.2.1 me_X9_through.2.2.2.1) := by decide +kernel
theorem cw_X9_gainBy : lw_tbl[1147]? = some (.code me_X9_gainBy.1 me_X9_gainBy.2.1 me_X9_gainBy.2.2.1 me_X9_gainBy.2.2.2.1) := by decide +kernel
theorem cw_X9_gain : lw_tbl[1142]? = some (.code me_X9_gain.1 me_X9_gain.2.1 me_X9_gain.2.2.1 me_X9_gain.2.2.2.1) := by decide +kernel
theorem cw_X9_bestWayBy : lw_tbl[1158]? = some (.code me_X9_bestWayBy.1 me_X9_bestWayBy.2.1 me_X9_bestWayBy.2.2.1 me_X9_bestWayBy.2.2.2.1) := by decide +kernel
theorem cw_X9_elseParts : lw_tbl[1162]? = some (.code me_X9_elseParts.1 me_X9_elseParts.2.1 me_X9_elseParts.2.2.1 me_X9_elseParts.2.2.2.1) := by decide +kernel
theorem cw_X9_bestWay : lw_tbl[1154]? = some (.code me_X9_bestWay.1 me_X9_bestWay.2.1 me_X9_bestWay.2.2.1 me_X9_bestWay.2.2.2.1) := by decide +kernel
theorem cw_X9_leastPay : lw_tbl[1166]? = some (.code me_X9_leastPay.1 me_X9_leastPay.2.1 me_X9_leastPay.2.2.1 me_X9_leastPay.2.2.2.1) := by decide +kernel
theorem cw_X9_guard : lw_tbl[1170]? = some (.code me_X9_guard.1 me_X9_guard.2.1 me_X9_guard.2.2.1 me_X9_guard.2.2.2.1) := by decide +kernel
theorem cw_X9_carrier : lw_tbl[1174]? = some (.code me_X9_carrier.1 me_X9_carrier.2.1 me_X9_carrier.2.2.1 me_X9_carrier.2.2.2.1) := by decide +kernel
theorem cw_X9_game : lw_tbl[1210]? = some (.code me_X9_game.1 me_X9_game.2.1 me_X9_game.2.2.1 me_X9_game.2.2.2.1) := by decide +kernel
theorem cw_X9_toldOnes : lw_tbl[1187]? = some (.code me_X9_toldOnes.1 me_X9_toldOnes.2.1 me_X9_toldOnes.2.2.1 me_X9_toldOnes.2.2.2.1) := by decide +kernel
theorem cw_X9_determinant : lw_tbl[1214]? = some (.code me_X9_determinant.1 me_X9_determinant.2.1 me_X9_determinant.2.2.1 me_X9_determinant.2.2.2.1) := by decide +kernel
theorem cw_X9_layCells : lw_tbl[1206]? = some (.code me_X9_layCells.1 me_X9_layCells.2.1 me_X9_layCells.2.2.1 me_X9_layCells.2.2.2.1) := by decide +kernel
theorem cw_X9_layMembers : lw_tbl[1198]? = some (.code me_X9_layMembers.1 me_X9_layMembers.2.1 me_X9_layMembers.2.2.1 me_X9_layMembers.2.2.2.1) := by decide +kernel
theorem cw_X9_solve : lw_tbl[1202]? = some (.code me_X9_solve.1 me_X9_solve.2.1 me_X9_solve.2.2.1 me_X9_solve.2.2.2.1) := by decide +kernel
theorem cw_X9_holds : lw_tbl[1218]? = some (.code me_X9_holds.1 me_X9_holds.2.1 me_X9_holds.2.2.1 me_X9_holds.2.2.2.1) := by decide +kernel
theorem cw_X9_isSupport : lw_tbl[1194]? = some (.code me_X9_isSupport.1 me_X9_isSupport.2.1 me_X9_isSupport.2.2.1 me_X9_isSupport.2.2.2.1) := by decide +kernel
theorem cw_X9_play : lw_tbl[1183]? = some (.code me_X9_play.1 me_X9_play.2.1 me_X9_play.2.2.1 me_X9_play.2.2.2.1) := by decide +kernel
theorem cw_X9_common : lw_tbl[1224]? = some (.code me_X9_common.1 me_X9_common.2.1 me_X9_common.2.2.1 me_X9_common.2.2.2.1) := by decide +kernel
theorem cw_X9_lowest : lw_tbl[1221]? = some (.code me_X9_lowest.1 me_X9_lowest.2.1 me_X9_lowest.2.2.1 me_X9_lowest.2.2.2.1) := by decide +kernel
theorem cw_X9_value : lw_tbl[1179]? = some (.code me_X9_value.1 me_X9_value.2.1 me_X9_value.2.2.1 me_X9_value.2.2.2.1) := by decide +kernel
theorem cw_X9_chance : lw_tbl[1229]? = some (.code me_X9_chance.1 me_X9_chance.2.1 me_X9_chance.2.2.1 me_X9_chance.2.2.2.1) := by decide +kernel
theorem cw_X9_tenths : lw_tbl[1233]? = some (.code me_X9_tenths.1 me_X9_tenths.2.1 me_X9_tenths.2.2.1 me_X9_tenths.2.2.2.1) := by decide +kernel
theorem cw_X9_told : lw_tbl[1238]? = some (.code me_X9_told.1 me_X9_told.2.1 me_X9_told.2.2.1 me_X9_told.2.2.2.1) := by decide +kernel
theorem cw_X9_nights : lw_tbl[1242]? = some (.code me_X9_nights.1 me_X9_nights.2.1 me_X9_nights.2.2.1 me_X9_nights.2.2.2.1) := by decide +kernel
theorem cw_X9_copy : lw_tbl[1252]? = some (.code me_X9_copy.1 me_X9_copy.2.1 me_X9_copy.2.2.1 me_X9_copy.2.2.2.1) := by decide +kernel
theorem cw_X9_keep : lw_tbl[1248]? = some (.code me_X9_keep.1 me_X9_keep.2.1 me_X9_keep.2.2.1 me_X9_keep.2.2.2.1) := by decide +kernel
theorem cw_X9_back : lw_tbl[1256]? = some (.code me_X9_back.1 me_X9_back.2.1 me_X9_back.2.2.1 me_X9_back.2.2.2.1) := by decide +kernel
theorem cw_X9_count : lw_tbl[1260]? = some (.code me_X9_count.1 me_X9_count.2.1 me_X9_count.2.2.1 me_X9_count.2.2.2.1) := by decide +kernel
theorem cw_J6_numberOfTrailingZeros_0f7a4 : lw_tbl[764]? = some (.code me_J6_numberOfTrailingZeros_0f7a4.1 me_J6_numberOfTrailingZeros_0f7a4.2.1 me_J6_numberOfTrailingZeros_0f7a4.2.2.1 me_J6_numberOfTrailingZeros_0f7a4.2.2.2.1) := by decide +kernel
theorem cw_J6_bitCount_0f7a4 : lw_tbl[728]? = some (.code me_J6_bitCount_0f7a4.1 me_J6_bitCount_0f7a4.2.1 me_J6_bitCount_0f7a4.2.2.1 me_J6_bitCount_0f7a4.2.2.2.1) := by decide +kernel
theorem cw_J7_fill_d0a16 : lw_tbl[742]? = some (.code me_J7_fill_d0a16.1 me_J7_fill_d0a16.2.1 me_J7_fill_d0a16.2.2.1 me_J7_fill_d0a16.2.2.2.1) := by decide +kernel
theorem cw_J7_fill_53178 : lw_tbl[125]? = some (.code me_J7_fill_53178.1 me_J7_fill_53178.2.1 me_J7_fill_53178.2.2.1 me_J7_fill_53178.2.2.2.1) := by decide +kernel
theorem cw_X2_hundredthsThrough : lw_tbl[521]? = some (.code me_X2_hundredthsThrough.1 me_X2_hundredthsThrough.2.1 me_X2_hundredthsThrough.2.2.1 me_X2_hundredthsThrough.2.2.2.1) := by decide +kernel
theorem cw_X2_carryingOn : lw_tbl[359]? = some (.code me_X2_carryingOn.1 me_X2_carryingOn.2.1 me_X2_carryingOn.2.2.1 me_X2_carryingOn.2.2.2.1) := by decide +kernel
def bg_cwl : List bg_M → Prop
  | [] => True
  | M :: l => Cond.code M.1 M.2.1 M.2.2.1 M.2.2.2.1 ∈ lw_tbl ∧ bg_cwl l
theorem bg_cw_all : bg_cwl bg_MS := ⟨List.mem_of_getElem? cw_X0_init, ⟨List.mem_of_getElem? cw_X1_init, ⟨List.mem_of_getElem? cw_X2_init, ⟨List.mem_of_getElem? cw_X3_init, ⟨List.mem_of_getElem? cw_X4_init, ⟨List.mem_of_getElem? cw_X5_init, ⟨List.mem_of_getElem? cw_X6_init, ⟨List.mem_of_getElem? cw_X7_init, ⟨List.mem_of_getElem? cw_X8_init, ⟨List.mem_of_getElem? cw_X9_init, ⟨List.mem_of_getElem? cw_X0_survey, ⟨List.mem_of_getElem? cw_X0_weigh, ⟨List.mem_of_getElem? cw_X0_outOfShore, ⟨List.mem_of_getElem? cw_X0_isNeeded, ⟨List.mem_of_getElem? cw_X0_sumOver, ⟨List.mem_of_getElem? cw_X0_placesOf, ⟨List.mem_of_getElem? cw_X1_findSupport, ⟨List.mem_of_getElem? cw_X1_findCarriers, ⟨List.mem_of_getElem? cw_X1_isSetOf, ⟨List.mem_of_getElem? cw_X1_mixes, ⟨List.mem_of_getElem? cw_X1_turnSigns, ⟨List.mem_of_getElem? cw_X1_areAllAbove0, ⟨List.mem_of_getElem? cw_X1_signedMinor, ⟨List.mem_of_getElem? cw_X1_fillLine, ⟨List.mem_of_getElem? cw_X1_minorOf, ⟨List.mem_of_getElem? cw_X1_noneDoesBetter, ⟨List.mem_of_getElem? cw_X1_meanBy, ⟨List.mem_of_getElem? cw_X1_meanOf, ⟨List.mem_of_getElem? cw_X1_lowest, ⟨List.mem_of_getElem? cw_X1_worthOfBeingTold, ⟨List.mem_of_getElem? cw_X2_clear, ⟨List.mem_of_getElem? cw_X2_copy, ⟨List.mem_of_getElem? cw_X2_takes, ⟨List.mem_of_getElem? cw_X2_takesNumber, ⟨List.mem_of_getElem? cw_X2_takesPath, ⟨List.mem_of_getElem? cw_X2_takesTower, ⟨List.mem_of_getElem? cw_X2_hasPath, ⟨List.mem_of_getElem? cw_X2_hasPosts, ⟨List.mem_of_getElem? cw_X2_costOf, ⟨List.mem_of_getElem? cw_X2_heldBy, ⟨List.mem_of_getElem? cw_X2_waitsOf, ⟨List.mem_of_getElem? cw_X2_bearing, ⟨List.mem_of_getElem? cw_X2_comesMoreThanGoes, ⟨List.mem_of_getElem? cw_X3_clear, ⟨List.mem_of_getElem? cw_X3_copy, ⟨List.mem_of_getElem? cw_X3_toldGuards, ⟨List.mem_of_getElem? cw_X3_toldCarriers, ⟨List.mem_of_getElem? cw_X3_toldOf, ⟨List.mem_of_getElem? cw_X4_forget, ⟨List.mem_of_getElem? cw_X4_prepare, ⟨List.mem_of_getElem? cw_X4_bestFor, ⟨List.mem_of_getElem? cw_X4_leastFor, ⟨List.mem_of_getElem? cw_X4_lowerMost, ⟨List.mem_of_getElem? cw_X4_sumNumbers, ⟨List.mem_of_getElem? cw_X4_sumAddends, ⟨List.mem_of_getElem? cw_X4_offerAll, ⟨List.mem_of_getElem? cw_X4_spreadBest, ⟨List.mem_of_getElem? cw_X4_weigh, ⟨List.mem_of_getElem? cw_X4_leastPaying, ⟨List.mem_of_getElem? cw_X5_begin, ⟨List.mem_of_getElem? cw_X5_leastSum, ⟨List.mem_of_getElem? cw_X5_leastBefore, ⟨List.mem_of_getElem? cw_X6_hasRoomFor, ⟨List.mem_of_getElem? cw_X6_append, ⟨List.mem_of_getElem? cw_X6_readInto, ⟨List.mem_of_getElem? cw_X6_readNumbers, ⟨List.mem_of_getElem? cw_X6_readNumber, ⟨List.mem_of_getElem? cw_X6_nextByte, ⟨List.mem_of_getElem? cw_X6_isFigure, ⟨List.mem_of_getElem? cw_X7_survey, ⟨List.mem_of_getElem? cw_X7_follow, ⟨List.mem_of_getElem? cw_X7_add, ⟨List.mem_of_getElem? cw_X7_lengthOf, ⟨List.mem_of_getElem? cw_X7_pathAt, ⟨List.mem_of_getElem? cw_X7_leastBearing, ⟨List.mem_of_getElem? cw_X7_gainOf, ⟨List.mem_of_getElem? cw_X7_bestOf, ⟨List.mem_of_getElem? cw_X7_greatestGain, ⟨List.mem_of_getElem? cw_X8_write, ⟨List.mem_of_getElem? cw_X8_wipe, ⟨List.mem_of_getElem? cw_X8_fault, ⟨List.mem_of_getElem? cw_X8_lay, ⟨List.mem_of_getElem? cw_X8_path, ⟨List.mem_of_getElem? cw_X8_posts, ⟨List.mem_of_getElem? cw_X8_bears, ⟨List.mem_of_getElem? cw_X8_most, ⟨List.mem_of_getElem? cw_X8_row, ⟨List.mem_of_getElem? cw_X8_judge, ⟨List.mem_of_getElem? cw_X8_best, ⟨List.mem_of_getElem? cw_X8_fewest, ⟨List.mem_of_getElem? cw_X8_more, ⟨List.mem_of_getElem? cw_X8_oneMore, ⟨List.mem_of_getElem? cw_X8_weighed, ⟨List.mem_of_getElem? cw_X8_way, ⟨List.mem_of_getElem? cw_X8_through, ⟨List.mem_of_getElem? cw_X8_gain, ⟨List.mem_of_getElem? cw_X8_bestWay, ⟨List.mem_of_getElem? cw_X8_leastPay, ⟨List.mem_of_getElem? cw_X8_guard, ⟨List.mem_of_getElem? cw_X8_carrier, ⟨List.mem_of_getElem? cw_X8_value, ⟨List.mem_of_getElem? cw_X8_chance, ⟨List.mem_of_getElem? cw_X8_tenths, ⟨List.mem_of_getElem? cw_X8_told, ⟨List.mem_of_getElem? cw_X8_nights, ⟨List.mem_of_getElem? cw_X8_keep, ⟨List.mem_of_getElem? cw_X8_back, ⟨List.mem_of_getElem? cw_X8_count, ⟨List.mem_of_getElem? cw_X8_survey, ⟨List.mem_of_getElem? cw_X8_mostBy, ⟨List.mem_of_getElem? cw_X8_playGame, ⟨List.mem_of_getElem? cw_X8_setUpGame, ⟨List.mem_of_getElem? cw_X9_in, ⟨List.mem_of_getElem? cw_X9_has, ⟨List.mem_of_getElem? cw_X9_bits, ⟨List.mem_of_getElem? cw_X9_noLand, ⟨List.mem_of_getElem? cw_X9_noPlayers, ⟨List.mem_of_getElem? cw_X9_write, ⟨List.mem_of_getElem? cw_X9_wipe, ⟨List.mem_of_getElem? cw_X9_byteAt, ⟨List.mem_of_getElem? cw_X9_figures, ⟨List.mem_of_getElem? cw_X9_pathItem, ⟨List.mem_of_getElem? cw_X9_towerItem, ⟨List.mem_of_getElem? cw_X9_item, ⟨List.mem_of_getElem? cw_X9_readAll, ⟨List.mem_of_getElem? cw_X9_fault, ⟨List.mem_of_getElem? cw_X9_copyLand, ⟨List.mem_of_getElem? cw_X9_lay, ⟨List.mem_of_getElem? cw_X9_isPath, ⟨List.mem_of_getElem? cw_X9_path, ⟨List.mem_of_getElem? cw_X9_arePosts, ⟨List.mem_of_getElem? cw_X9_costOf, ⟨List.mem_of_getElem? cw_X9_heldBy, ⟨List.mem_of_getElem? cw_X9_waitsBy, ⟨List.mem_of_getElem? cw_X9_posts, ⟨List.mem_of_getElem? cw_X9_bearsWith, ⟨List.mem_of_getElem? cw_X9_bears, ⟨List.mem_of_getElem? cw_X9_spread, ⟨List.mem_of_getElem? cw_X9_push, ⟨List.mem_of_getElem? cw_X9_flow, ⟨List.mem_of_getElem? cw_X9_mostBy, ⟨List.mem_of_getElem? cw_X9_most, ⟨List.mem_of_getElem? cw_X9_row, ⟨List.mem_of_getElem? cw_X9_comeTo, ⟨List.mem_of_getElem? cw_X9_judge, ⟨List.mem_of_getElem? cw_X9_setMany, ⟨List.mem_of_getElem? cw_X9_bestFor, ⟨List.mem_of_getElem? cw_X9_best, ⟨List.mem_of_getElem? cw_X9_fewest, ⟨List.mem_of_getElem? cw_X9_more, ⟨List.mem_of_getElem? cw_X9_oneMore, ⟨List.mem_of_getElem? cw_X9_weigh, ⟨List.mem_of_getElem? cw_X9_weighed, ⟨List.mem_of_getElem? cw_X9_seenBy, ⟨List.mem_of_getElem? cw_X9_layWays, ⟨List.mem_of_getElem? cw_X9_noteWay, ⟨List.mem_of_getElem? cw_X9_way, ⟨List.mem_of_getElem? cw_X9_throughBy, ⟨List.mem_of_getElem? cw_X9_through, ⟨List.mem_of_getElem? cw_X9_gainBy, ⟨List.mem_of_getElem? cw_X9_gain, ⟨List.mem_of_getElem? cw_X9_bestWayBy, ⟨List.mem_of_getElem? cw_X9_elseParts, ⟨List.mem_of_getElem? cw_X9_bestWay, ⟨List.mem_of_getElem? cw_X9_leastPay, ⟨List.mem_of_getElem? cw_X9_guard, ⟨List.mem_of_getElem? cw_X9_carrier, ⟨List.mem_of_getElem? cw_X9_game, ⟨List.mem_of_getElem? cw_X9_toldOnes, ⟨List.mem_of_getElem? cw_X9_determinant, ⟨List.mem_of_getElem? cw_X9_layCells, ⟨List.mem_of_getElem? cw_X9_layMembers, ⟨List.mem_of_getElem? cw_X9_solve, ⟨List.mem_of_getElem? cw_X9_holds, ⟨List.mem_of_getElem? cw_X9_isSupport, ⟨List.mem_of_getElem? cw_X9_play, ⟨List.mem_of_getElem? cw_X9_common, ⟨List.mem_of_getElem? cw_X9_lowest, ⟨List.mem_of_getElem? cw_X9_value, ⟨List.mem_of_getElem? cw_X9_chance, ⟨List.mem_of_getElem? cw_X9_tenths, ⟨List.mem_of_getElem? cw_X9_told, ⟨List.mem_of_getElem? cw_X9_nights, ⟨List.mem_of_getElem? cw_X9_copy, ⟨List.mem_of_getElem? cw_X9_keep, ⟨List.mem_of_getElem? cw_X9_back, ⟨List.mem_of_getElem? cw_X9_count, ⟨List.mem_of_getElem? cw_J6_numberOfTrailingZeros_0f7a4, ⟨List.mem_of_getElem? cw_J6_bitCount_0f7a4, ⟨List.mem_of_getElem? cw_J7_fill_d0a16, ⟨List.mem_of_getElem? cw_J7_fill_53178, ⟨List.mem_of_getElem? cw_X2_hundredthsThrough, ⟨List.mem_of_getElem? cw_X2_carryingOn, trivial⟩⟩⟩⟩⟩⟩⟩⟩⟩⟩⟩⟩⟩⟩⟩⟩⟩⟩⟩⟩⟩⟩⟩⟩⟩⟩⟩⟩⟩⟩⟩⟩⟩⟩⟩⟩⟩⟩⟩⟩⟩⟩⟩⟩⟩⟩⟩⟩⟩⟩⟩⟩⟩⟩⟩⟩⟩⟩⟩⟩⟩⟩⟩⟩⟩⟩⟩⟩⟩⟩⟩⟩⟩⟩⟩⟩⟩⟩⟩⟩⟩⟩⟩⟩⟩⟩⟩⟩⟩⟩⟩⟩⟩⟩⟩⟩⟩⟩⟩⟩⟩⟩⟩⟩⟩⟩⟩⟩⟩⟩⟩⟩⟩⟩⟩⟩⟩⟩⟩⟩⟩⟩⟩⟩⟩⟩⟩⟩⟩⟩⟩⟩⟩⟩⟩⟩⟩⟩⟩⟩⟩⟩⟩⟩⟩⟩⟩⟩⟩⟩⟩⟩⟩⟩⟩⟩⟩⟩⟩⟩⟩⟩⟩⟩⟩⟩⟩⟩⟩⟩⟩⟩⟩⟩⟩⟩⟩⟩⟩⟩⟩⟩⟩⟩⟩⟩⟩⟩⟩⟩⟩⟩⟩
theorem bg_cw_of : ∀ (l : List bg_M), bg_cwl l → ∀ (k : Nat) (M : bg_M), bg_nth l k = some M → Cond.code M.1 M.2.1 M.2.2.1 M.2.2.2.1 ∈ bg_tbl
  | [], _, k, M, h => by simp [bg_nth] at h
  | M0 :: l, h, 0, M, hk => by cases hk; exact List.mem_filter.mpr ⟨h.1, rfl⟩
  | M0 :: l, h, k + 1, M, hk => bg_cw_of l h.2 k M hk
theorem okm_X0_init : bg_okm me_X0_init 0 (171, 72, 2, 170, 0) = true := by decide +kernel
theorem okm_X1_init : bg_okm me_X1_init 1 (284, 76, 2, 283, 0) = true := by decide +kernel
theorem okm_X2_init : bg_okm me_X2_init 2 (115, 70, 2, 114, 0) = true := by decide +kernel
theorem okm_X3_init : bg_okm me_X3_init 3 (264, 75, 2, 263, 0) = true := by decide +kernel
theorem okm_X4_init : bg_okm me_X4_init 4 (219, 74, 2, 218, 0) = true := by decide +kernel
theorem okm_X5_init : bg_okm me_X5_init 5 (317, 77, 2, 316, 0) = true := by decide +kernel
theorem okm_X6_init : bg_okm me_X6_init 6 (94, 69, 2, 93, 0) = true := by decide +kernel
theorem okm_X7_init : bg_okm me_X7_init 7 (193, 73, 2, 192, 0) = true := by decide +kernel
theorem okm_X8_init : bg_okm me_X8_init 8 (86, 68, 2, 85, 0) = true := by decide +kernel
theorem okm_X9_init : bg_okm me_X9_init 9 (843, 78, 2, 842, 0) = true := by decide +kernel
theorem okm_X0_survey : bg_okm me_X0_survey 10 (341, 72, 1, 339, 340) = true := by decide +kernel
theorem okm_X0_weigh : bg_okm me_X0_weigh 11 (533, 72, 1, 531, 532) = true := by decide +kernel
theorem okm_X0_outOfShore : bg_okm me_X0_outOfShore 12 (543, 72, 1, 541, 542) = true := by decide +kernel
theorem okm_X0_isNeeded : bg_okm me_X0_isNeeded 13 (572, 72, 1, 570, 571) = true := by decide +kernel
theorem okm_X0_sumOver : bg_okm me_X0_sumOver 14 (539, 72, 1, 538, 9) = true := by decide +kernel
theorem okm_X0_placesOf : bg_okm me_X0_placesOf 15 (344, 72, 0, 343, 0) = true := by decide +kernel
theorem okm_X1_findSupport : bg_okm me_X1_findSupport 16 (722, 76, 1, 720, 721) = true := by decide +kernel
theorem okm_X1_findCarriers : bg_okm me_X1_findCarriers 17 (735, 76, 1, 734, 17) = true := by decide +kernel
theorem okm_X1_isSetOf : bg_okm me_X1_isSetOf 18 (725, 76, 0, 724, 0) = true := by decide +kernel
theorem okm_X1_mixes : bg_okm me_X1_mixes 19 (739, 76, 1, 738, 18) = true := by decide +kernel
theorem okm_X1_turnSigns : bg_okm me_X1_turnSigns 20 (758, 76, 1, 757, 22) = true := by decide +kernel
theorem okm_X1_areAllAbove0 : bg_okm me_X1_areAllAbove0 21 (761, 76, 0, 760, 0) = true := by decide +kernel
theorem okm_X1_signedMinor : bg_okm me_X1_signedMinor 22 (746, 76, 1, 745, 19) = true := by decide +kernel
theorem okm_X1_fillLine : bg_okm me_X1_fillLine 23 (750, 76, 1, 749, 20) = true := by decide +kernel
theorem okm_X1_minorOf : bg_okm me_X1_minorOf 24 (754, 76, 1, 753, 21) = true := by decide +kernel
theorem okm_X1_noneDoesBetter : bg_okm me_X1_noneDoesBetter 25 (773, 76, 1, 772, 24) = true := by decide +kernel
theorem okm_X1_meanBy : bg_okm me_X1_meanBy 26 (769, 76, 1, 768, 23) = true := by decide +kernel
theorem okm_X1_meanOf : bg_okm me_X1_meanOf 27 (777, 76, 1, 776, 25) = true := by decide +kernel
theorem okm_X1_lowest : bg_okm me_X1_lowest 28 (782, 76, 1, 780, 781) = true := by decide +kernel
theorem okm_X1_worthOfBeingTold : bg_okm me_X1_worthOfBeingTold 29 (798, 76, 1, 796, 797) = true := by decide +kernel
theorem okm_X2_clear : bg_okm me_X2_clear 30 (122, 70, 1, 120, 121) = true := by decide +kernel
theorem okm_X2_copy : bg_okm me_X2_copy 31 (479, 70, 1, 477, 478) = true := by decide +kernel
theorem okm_X2_takes : bg_okm me_X2_takes 32 (453, 70, 1, 451, 452) = true := by decide +kernel
theorem okm_X2_takesNumber : bg_okm me_X2_takesNumber 33 (471, 70, 1, 470, 7) = true := by decide +kernel
theorem okm_X2_takesPath : bg_okm me_X2_takesPath 34 (457, 70, 1, 456, 5) = true := by decide +kernel
theorem okm_X2_takesTower : bg_okm me_X2_takesTower 35 (463, 70, 1, 462, 6) = true := by decide +kernel
theorem okm_X2_hasPath : bg_okm me_X2_hasPath 36 (467, 70, 1, 465, 466) = true := by decide +kernel
theorem okm_X2_hasPosts : bg_okm me_X2_hasPosts 37 (497, 70, 1, 495, 496) = true := by decide +kernel
theorem okm_X2_costOf : bg_okm me_X2_costOf 38 (501, 70, 1, 499, 500) = true := by decide +kernel
theorem okm_X2_heldBy : bg_okm me_X2_heldBy 39 (505, 70, 1, 503, 504) = true := by decide +kernel
theorem okm_X2_waitsOf : bg_okm me_X2_waitsOf 40 (509, 70, 1, 507, 508) = true := by decide +kernel
theorem okm_X2_bearing : bg_okm me_X2_bearing 41 (517, 70, 1, 515, 516) = true := by decide +kernel
theorem okm_X2_comesMoreThanGoes : bg_okm me_X2_comesMoreThanGoes 42 (555, 70, 1, 553, 554) = true := by decide +kernel
theorem okm_X3_clear : bg_okm me_X3_clear 43 (269, 75, 1, 267, 268) = true := by decide +kernel
theorem okm_X3_copy : bg_okm me_X3_copy 44 (829, 75, 1, 827, 828) = true := by decide +kernel
theorem okm_X3_toldGuards : bg_okm me_X3_toldGuards 45 (711, 75, 1, 709, 710) = true := by decide +kernel
theorem okm_X3_toldCarriers : bg_okm me_X3_toldCarriers 46 (718, 75, 1, 716, 717) = true := by decide +kernel
theorem okm_X3_toldOf : bg_okm me_X3_toldOf 47 (714, 75, 0, 713, 0) = true := by decide +kernel
theorem okm_X4_forget : bg_okm me_X4_forget 48 (363, 74, 1, 361, 362) = true := by decide +kernel
theorem okm_X4_prepare : bg_okm me_X4_prepare 49 (563, 74, 1, 561, 562) = true := by decide +kernel
theorem okm_X4_bestFor : bg_okm me_X4_bestFor 50 (604, 74, 1, 602, 603) = true := by decide +kernel
theorem okm_X4_leastFor : bg_okm me_X4_leastFor 51 (599, 74, 1, 597, 598) = true := by decide +kernel
theorem okm_X4_lowerMost : bg_okm me_X4_lowerMost 52 (576, 74, 1, 575, 10) = true := by decide +kernel
theorem okm_X4_sumNumbers : bg_okm me_X4_sumNumbers 53 (585, 74, 1, 584, 12) = true := by decide +kernel
theorem okm_X4_sumAddends : bg_okm me_X4_sumAddends 54 (581, 74, 1, 580, 11) = true := by decide +kernel
theorem okm_X4_offerAll : bg_okm me_X4_offerAll 55 (589, 74, 1, 588, 13) = true := by decide +kernel
theorem okm_X4_spreadBest : bg_okm me_X4_spreadBest 56 (595, 74, 1, 594, 14) = true := by decide +kernel
theorem okm_X4_weigh : bg_okm me_X4_weigh 57 (624, 74, 1, 622, 623) = true := by decide +kernel
theorem okm_X4_leastPaying : bg_okm me_X4_leastPaying 58 (681, 74, 1, 679, 680) = true := by decide +kernel
theorem okm_X5_begin : bg_okm me_X5_begin 59 (808, 77, 1, 806, 807) = true := by decide +kernel
theorem okm_X5_leastSum : bg_okm me_X5_leastSum 60 (813, 77, 1, 811, 812) = true := by decide +kernel
theorem okm_X5_leastBefore : bg_okm me_X5_leastBefore 61 (817, 77, 1, 816, 26) = true := by decide +kernel
theorem okm_X6_hasRoomFor : bg_okm me_X6_hasRoomFor 62 (414, 69, 1, 412, 413) = true := by decide +kernel
theorem okm_X6_append : bg_okm me_X6_append 63 (418, 69, 1, 416, 417) = true := by decide +kernel
theorem okm_X6_readInto : bg_okm me_X6_readInto 64 (430, 69, 1, 428, 429) = true := by decide +kernel
theorem okm_X6_readNumbers : bg_okm me_X6_readNumbers 65 (439, 69, 1, 438, 3) = true := by decide +kernel
theorem okm_X6_readNumber : bg_okm me_X6_readNumber 66 (443, 69, 1, 442, 4) = true := by decide +kernel
theorem okm_X6_nextByte : bg_okm me_X6_nextByte 67 (435, 69, 1, 434, 2) = true := by decide +kernel
theorem okm_X6_isFigure : bg_okm me_X6_isFigure 68 (446, 69, 0, 445, 0) = true := by decide +kernel
theorem okm_X7_survey : bg_okm me_X7_survey 69 (348, 73, 1, 346, 347) = true := by decide +kernel
theorem okm_X7_follow : bg_okm me_X7_follow 70 (351, 73, 0, 350, 0) = true := by decide +kernel
theorem okm_X7_add : bg_okm me_X7_add 71 (355, 73, 1, 354, 1) = true := by decide +kernel
theorem okm_X7_lengthOf : bg_okm me_X7_lengthOf 72 (632, 73, 1, 630, 631) = true := by decide +kernel
theorem okm_X7_pathAt : bg_okm me_X7_pathAt 73 (636, 73, 1, 634, 635) = true := by decide +kernel
theorem okm_X7_leastBearing : bg_okm me_X7_leastBearing 74 (644, 73, 1, 642, 643) = true := by decide +kernel
theorem okm_X7_gainOf : bg_okm me_X7_gainOf 75 (659, 73, 1, 657, 658) = true := by decide +kernel
theorem okm_X7_bestOf : bg_okm me_X7_bestOf 76 (671, 73, 1, 669, 670) = true := by decide +kernel
theorem okm_X7_greatestGain : bg_okm me_X7_greatestGain 77 (686, 73, 1, 684, 685) = true := by decide +kernel
theorem okm_X8_write : bg_okm me_X8_write 78 (410, 68, 1, 408, 409) = true := by decide +kernel
theorem okm_X8_wipe : bg_okm me_X8_wipe 79 (422, 68, 1, 420, 421) = true := by decide +kernel
theorem okm_X8_fault : bg_okm me_X8_fault 80 (426, 68, 1, 424, 425) = true := by decide +kernel
theorem okm_X8_lay : bg_okm me_X8_lay 81 (475, 68, 1, 473, 474) = true := by decide +kernel
theorem okm_X8_path : bg_okm me_X8_path 82 (488, 68, 1, 486, 487) = true := by decide +kernel
theorem okm_X8_posts : bg_okm me_X8_posts 83 (493, 68, 1, 491, 492) = true := by decide +kernel
theorem okm_X8_bears : bg_okm me_X8_bears 84 (513, 68, 1, 511, 512) = true := by decide +kernel
theorem okm_X8_most : bg_okm me_X8_most 85 (525, 68, 1, 523, 524) = true := by decide +kernel
theorem okm_X8_row : bg_okm me_X8_row 86 (547, 68, 1, 545, 546) = true := by decide +kernel
theorem okm_X8_judge : bg_okm me_X8_judge 87 (551, 68, 1, 549, 550) = true := by decide +kernel
theorem okm_X8_best : bg_okm me_X8_best 88 (559, 68, 1, 557, 558) = true := by decide +kernel
theorem okm_X8_fewest : bg_okm me_X8_fewest 89 (608, 68, 1, 606, 607) = true := by decide +kernel
theorem okm_X8_more : bg_okm me_X8_more 90 (612, 68, 1, 610, 611) = true := by decide +kernel
theorem okm_X8_oneMore : bg_okm me_X8_oneMore 91 (616, 68, 1, 614, 615) = true := by decide +kernel
theorem okm_X8_weighed : bg_okm me_X8_weighed 92 (620, 68, 1, 618, 619) = true := by decide +kernel
theorem okm_X8_way : bg_okm me_X8_way 93 (628, 68, 1, 626, 627) = true := by decide +kernel
theorem okm_X8_through : bg_okm me_X8_through 94 (640, 68, 1, 638, 639) = true := by decide +kernel
theorem okm_X8_gain : bg_okm me_X8_gain 95 (653, 68, 1, 651, 652) = true := by decide +kernel
theorem okm_X8_bestWay : bg_okm me_X8_bestWay 96 (667, 68, 1, 665, 666) = true := by decide +kernel
theorem okm_X8_leastPay : bg_okm me_X8_leastPay 97 (677, 68, 1, 675, 676) = true := by decide +kernel
theorem okm_X8_guard : bg_okm me_X8_guard 98 (690, 68, 1, 688, 689) = true := by decide +kernel
theorem okm_X8_carrier : bg_okm me_X8_carrier 99 (694, 68, 1, 692, 693) = true := by decide +kernel
theorem okm_X8_value : bg_okm me_X8_value 100 (698, 68, 1, 696, 697) = true := by decide +kernel
theorem okm_X8_chance : bg_okm me_X8_chance 101 (786, 68, 1, 784, 785) = true := by decide +kernel
theorem okm_X8_tenths : bg_okm me_X8_tenths 102 (790, 68, 1, 788, 789) = true := by decide +kernel
theorem okm_X8_told : bg_okm me_X8_told 103 (794, 68, 1, 792, 793) = true := by decide +kernel
theorem okm_X8_nights : bg_okm me_X8_nights 104 (803, 68, 1, 801, 802) = true := by decide +kernel
theorem okm_X8_keep : bg_okm me_X8_keep 105 (825, 68, 1, 823, 824) = true := by decide +kernel
theorem okm_X8_back : bg_okm me_X8_back 106 (834, 68, 1, 832, 833) = true := by decide +kernel
theorem okm_X8_count : bg_okm me_X8_count 107 (838, 68, 1, 836, 837) = true := by decide +kernel
theorem okm_X8_survey : bg_okm me_X8_survey 108 (337, 68, 1, 336, 0) = true := by decide +kernel
theorem okm_X8_mostBy : bg_okm me_X8_mostBy 109 (529, 68, 1, 528, 8) = true := by decide +kernel
theorem okm_X8_playGame : bg_okm me_X8_playGame 110 (703, 68, 1, 702, 15) = true := by decide +kernel
theorem okm_X8_setUpGame : bg_okm me_X8_setUpGame 111 (707, 68, 1, 706, 16) = true := by decide +kernel
theorem okm_X9_in : bg_okm me_X9_in 112 (960, 78, 0, 959, 0) = true := by decide +kernel
theorem okm_X9_has : bg_okm me_X9_has 113 (1029, 78, 0, 1028, 0) = true := by decide +kernel
theorem okm_X9_bits : bg_okm me_X9_bits 114 (1190, 78, 0, 1189, 0) = true := by decide +kernel
theorem okm_X9_noLand : bg_okm me_X9_noLand 115 (848, 78, 1, 847, 27) = true := by decide +kernel
theorem okm_X9_noPlayers : bg_okm me_X9_noPlayers 116 (852, 78, 1, 851, 28) = true := by decide +kernel
theorem okm_X9_write : bg_okm me_X9_write 117 (956, 78, 1, 954, 955) = true := by decide +kernel
theorem okm_X9_wipe : bg_okm me_X9_wipe 118 (965, 78, 1, 963, 964) = true := by decide +kernel
theorem okm_X9_byteAt : bg_okm me_X9_byteAt 119 (981, 78, 1, 980, 31) = true := by decide +kernel
theorem okm_X9_figures : bg_okm me_X9_figures 120 (989, 78, 1, 988, 33) = true := by decide +kernel
theorem okm_X9_pathItem : bg_okm me_X9_pathItem 121 (985, 78, 1, 984, 32) = true := by decide +kernel
theorem okm_X9_towerItem : bg_okm me_X9_towerItem 122 (996, 78, 1, 995, 34) = true := by decide +kernel
theorem okm_X9_item : bg_okm me_X9_item 123 (977, 78, 1, 976, 30) = true := by decide +kernel
theorem okm_X9_readAll : bg_okm me_X9_readAll 124 (973, 78, 1, 972, 29) = true := by decide +kernel
theorem okm_X9_fault : bg_okm me_X9_fault 125 (969, 78, 1, 967, 968) = true := by decide +kernel
theorem okm_X9_copyLand : bg_okm me_X9_copyLand 126 (1004, 78, 1, 1003, 35) = true := by decide +kernel
theorem okm_X9_lay : bg_okm me_X9_lay 127 (1000, 78, 1, 998, 999) = true := by decide +kernel
theorem okm_X9_isPath : bg_okm me_X9_isPath 128 (1012, 78, 1, 1011, 36) = true := by decide +kernel
theorem okm_X9_path : bg_okm me_X9_path 129 (1008, 78, 1, 1006, 1007) = true := by decide +kernel
theorem okm_X9_arePosts : bg_okm me_X9_arePosts 130 (1021, 78, 1, 1020, 37) = true := by decide +kernel
theorem okm_X9_costOf : bg_okm me_X9_costOf 131 (1026, 78, 1, 1025, 38) = true := by decide +kernel
theorem okm_X9_heldBy : bg_okm me_X9_heldBy 132 (1033, 78, 1, 1032, 39) = true := by decide +kernel
theorem okm_X9_waitsBy : bg_okm me_X9_waitsBy 133 (1037, 78, 1, 1036, 40) = true := by decide +kernel
theorem okm_X9_posts : bg_okm me_X9_posts 134 (1017, 78, 1, 1015, 1016) = true := by decide +kernel
theorem okm_X9_bearsWith : bg_okm me_X9_bearsWith 135 (1045, 78, 1, 1044, 41) = true := by decide +kernel
theorem okm_X9_bears : bg_okm me_X9_bears 136 (1041, 78, 1, 1039, 1040) = true := by decide +kernel
theorem okm_X9_spread : bg_okm me_X9_spread 137 (1057, 78, 1, 1056, 43) = true := by decide +kernel
theorem okm_X9_push : bg_okm me_X9_push 138 (1061, 78, 1, 1060, 44) = true := by decide +kernel
theorem okm_X9_flow : bg_okm me_X9_flow 139 (1053, 78, 1, 1052, 42) = true := by decide +kernel
theorem okm_X9_mostBy : bg_okm me_X9_mostBy 140 (1093, 78, 1, 1092, 48) = true := by decide +kernel
theorem okm_X9_most : bg_okm me_X9_most 141 (1049, 78, 1, 1047, 1048) = true := by decide +kernel
theorem okm_X9_row : bg_okm me_X9_row 142 (1066, 78, 1, 1064, 1065) = true := by decide +kernel
theorem okm_X9_comeTo : bg_okm me_X9_comeTo 143 (1076, 78, 1, 1075, 45) = true := by decide +kernel
theorem okm_X9_judge : bg_okm me_X9_judge 144 (1072, 78, 1, 1070, 1071) = true := by decide +kernel
theorem okm_X9_setMany : bg_okm me_X9_setMany 145 (1089, 78, 1, 1088, 47) = true := by decide +kernel
theorem okm_X9_bestFor : bg_okm me_X9_bestFor 146 (1085, 78, 1, 1084, 46) = true := by decide +kernel
theorem okm_X9_best : bg_okm me_X9_best 147 (1080, 78, 1, 1078, 1079) = true := by decide +kernel
theorem okm_X9_fewest : bg_okm me_X9_fewest 148 (1097, 78, 1, 1095, 1096) = true := by decide +kernel
theorem okm_X9_more : bg_okm me_X9_more 149 (1102, 78, 1, 1100, 1101) = true := by decide +kernel
theorem okm_X9_oneMore : bg_okm me_X9_oneMore 150 (1106, 78, 1, 1104, 1105) = true := by decide +kernel
theorem okm_X9_weigh : bg_okm me_X9_weigh 151 (1114, 78, 1, 1113, 49) = true := by decide +kernel
theorem okm_X9_weighed : bg_okm me_X9_weighed 152 (1110, 78, 1, 1108, 1109) = true := by decide +kernel
theorem okm_X9_seenBy : bg_okm me_X9_seenBy 153 (1126, 78, 1, 1125, 51) = true := by decide +kernel
theorem okm_X9_layWays : bg_okm me_X9_layWays 154 (1122, 78, 1, 1121, 50) = true := by decide +kernel
theorem okm_X9_noteWay : bg_okm me_X9_noteWay 155 (1130, 78, 1, 1129, 52) = true := by decide +kernel
theorem okm_X9_way : bg_okm me_X9_way 156 (1118, 78, 1, 1116, 1117) = true := by decide +kernel
theorem okm_X9_throughBy : bg_okm me_X9_throughBy 157 (1138, 78, 1, 1137, 53) = true := by decide +kernel
theorem okm_X9_through : bg_okm me_X9_through 158 (1134, 78, 1, 1132, 1133) = true := by decide +kernel
theorem okm_X9_gainBy : bg_okm me_X9_gainBy 159 (1147, 78, 1, 1146, 54) = true := by decide +kernel
theorem okm_X9_gain : bg_okm me_X9_gain 160 (1142, 78, 1, 1140, 1141) = true := by decide +kernel
theorem okm_X9_bestWayBy : bg_okm me_X9_bestWayBy 161 (1158, 78, 1, 1157, 55) = true := by decide +kernel
theorem okm_X9_elseParts : bg_okm me_X9_elseParts 162 (1162, 78, 1, 1161, 56) = true := by decide +kernel
theorem okm_X9_bestWay : bg_okm me_X9_bestWay 163 (1154, 78, 1, 1152, 1153) = true := by decide +kernel
theorem okm_X9_leastPay : bg_okm me_X9_leastPay 164 (1166, 78, 1, 1164, 1165) = true := by decide +kernel
theorem okm_X9_guard : bg_okm me_X9_guard 165 (1170, 78, 1, 1168, 1169) = true := by decide +kernel
theorem okm_X9_carrier : bg_okm me_X9_carrier 166 (1174, 78, 1, 1172, 1173) = true := by decide +kernel
theorem okm_X9_game : bg_okm me_X9_game 167 (1210, 78, 1, 1209, 63) = true := by decide +kernel
theorem okm_X9_toldOnes : bg_okm me_X9_toldOnes 168 (1187, 78, 1, 1186, 58) = true := by decide +kernel
theorem okm_X9_determinant : bg_okm me_X9_determinant 169 (1214, 78, 1, 1213, 64) = true := by decide +kernel
theorem okm_X9_layCells : bg_okm me_X9_layCells 170 (1206, 78, 1, 1205, 62) = true := by decide +kernel
theorem okm_X9_layMembers : bg_okm me_X9_layMembers 171 (1198, 78, 1, 1197, 60) = true := by decide +kernel
theorem okm_X9_solve : bg_okm me_X9_solve 172 (1202, 78, 1, 1201, 61) = true := by decide +kernel
theorem okm_X9_holds : bg_okm me_X9_holds 173 (1218, 78, 1, 1217, 65) = true := by decide +kernel
theorem okm_X9_isSupport : bg_okm me_X9_isSupport 174 (1194, 78, 1, 1193, 59) = true := by decide +kernel
theorem okm_X9_play : bg_okm me_X9_play 175 (1183, 78, 1, 1182, 57) = true := by decide +kernel
theorem okm_X9_common : bg_okm me_X9_common 176 (1224, 78, 0, 1223, 0) = true := by decide +kernel
theorem okm_X9_lowest : bg_okm me_X9_lowest 177 (1221, 78, 0, 1220, 0) = true := by decide +kernel
theorem okm_X9_value : bg_okm me_X9_value 178 (1179, 78, 1, 1177, 1178) = true := by decide +kernel
theorem okm_X9_chance : bg_okm me_X9_chance 179 (1229, 78, 1, 1227, 1228) = true := by decide +kernel
theorem okm_X9_tenths : bg_okm me_X9_tenths 180 (1233, 78, 1, 1231, 1232) = true := by decide +kernel
theorem okm_X9_told : bg_okm me_X9_told 181 (1238, 78, 1, 1236, 1237) = true := by decide +kernel
theorem okm_X9_nights : bg_okm me_X9_nights 182 (1242, 78, 1, 1240, 1241) = true := by decide +kernel
theorem okm_X9_copy : bg_okm me_X9_copy 183 (1252, 78, 1, 1251, 66) = true := by decide +kernel
theorem okm_X9_keep : bg_okm me_X9_keep 184 (1248, 78, 1, 1246, 1247) = true := by decide +kernel
theorem okm_X9_back : bg_okm me_X9_back 185 (1256, 78, 1, 1254, 1255) = true := by decide +kernel
theorem okm_X9_count : bg_okm me_X9_count 186 (1260, 78, 1, 1258, 1259) = true := by decide +kernel
theorem okm_J6_numberOfTrailingZeros_0f7a4 : bg_okm me_J6_numberOfTrailingZeros_0f7a4 187 (764, 81, 0, 763, 0) = true := by decide +kernel
theorem okm_J6_bitCount_0f7a4 : bg_okm me_J6_bitCount_0f7a4 188 (728, 81, 0, 727, 0) = true := by decide +kernel
theorem okm_J7_fill_d0a16 : bg_okm me_J7_fill_d0a16 189 (742, 71, 0, 741, 0) = true := by decide +kernel
theorem okm_J7_fill_53178 : bg_okm me_J7_fill_53178 190 (125, 71, 0, 124, 0) = true := by decide +kernel
theorem okm_X2_hundredthsThrough : bg_okm me_X2_hundredthsThrough 191 (521, 70, 1, 519, 520) = true := by decide +kernel
theorem okm_X2_carryingOn : bg_okm me_X2_carryingOn 192 (359, 70, 1, 357, 358) = true := by decide +kernel
theorem bg_and2 {a b : Bool} (h1 : a = true) (h2 : b = true) : (a && b) = true := by rw [h1, h2]; rfl
set_option maxRecDepth 20000 in
theorem bg_okl_all : bg_okl bg_MS bg_PL 0 = true := bg_and2 okm_X0_init (bg_and2 okm_X1_init (bg_and2 okm_X2_init (bg_and2 okm_X3_init (bg_and2 okm_X4_init (bg_and2 okm_X5_init (bg_and2 okm_X6_init (bg_and2 okm_X7_init (bg_and2 okm_X8_init (bg_and2 okm_X9_init (bg_and2 okm_X0_survey (bg_and2 okm_X0_weigh (bg_and2 okm_X0_outOfShore (bg_and2 okm_X0_isNeeded (bg_and2 okm_X0_sumOver (bg_and2 okm_X0_placesOf (bg_and2 okm_X1_findSupport (bg_and2 okm_X1_findCarriers (bg_and2 okm_X1_isSetOf (bg_and2 okm_X1_mixes (bg_and2 okm_X1_turnSigns (bg_and2 okm_X1_areAllAbove0 (bg_and2 okm_X1_signedMinor (bg_and2 okm_X1_fillLine (bg_and2 okm_X1_minorOf (bg_and2 okm_X1_noneDoesBetter (bg_and2 okm_X1_meanBy (bg_and2 okm_X1_meanOf (bg_and2 okm_X1_lowest (bg_and2 okm_X1_worthOfBeingTold (bg_and2 okm_X2_clear (bg_and2 okm_X2_copy (bg_and2 okm_X2_takes (bg_and2 okm_X2_takesNumber (bg_and2 okm_X2_takesPath (bg_and2 okm_X2_takesTower (bg_and2 okm_X2_hasPath (bg_and2 okm_X2_hasPosts (bg_and2 okm_X2_costOf (bg_and2 okm_X2_heldBy (bg_and2 okm_X2_waitsOf (bg_and2 okm_X2_bearing (bg_and2 okm_X2_comesMoreThanGoes (bg_and2 okm_X3_clear (bg_and2 okm_X3_copy (bg_and2 okm_X3_toldGuards (bg_and2 okm_X3_toldCarriers (bg_and2 okm_X3_toldOf (bg_and2 okm_X4_forget (bg_and2 okm_X4_prepare (bg_and2 okm_X4_bestFor (bg_and2 okm_X4_leastFor (bg_and2 okm_X4_lowerMost (bg_and2 okm_X4_sumNumbers (bg_and2 okm_X4_sumAddends (bg_and2 okm_X4_offerAll (bg_and2 okm_X4_spreadBest (bg_and2 okm_X4_weigh (bg_and2 okm_X4_leastPaying (bg_and2 okm_X5_begin (bg_and2 okm_X5_leastSum (bg_and2 okm_X5_leastBefore (bg_and2 okm_X6_hasRoomFor (bg_and2 okm_X6_append (bg_and2 okm_X6_readInto (bg_and2 okm_X6_readNumbers (bg_and2 okm_X6_readNumber (bg_and2 okm_X6_nextByte (bg_and2 okm_X6_isFigure (bg_and2 okm_X7_survey (bg_and2 okm_X7_follow (bg_and2 okm_X7_add (bg_and2 okm_X7_lengthOf (bg_and2 okm_X7_pathAt (bg_and2 okm_X7_leastBearing (bg_and2 okm_X7_gainOf (bg_and2 okm_X7_bestOf (bg_and2 okm_X7_greatestGain (bg_and2 okm_X8_write (bg_and2 okm_X8_wipe (bg_and2 okm_X8_fault (bg_and2 okm_X8_lay (bg_and2 okm_X8_path (bg_and2 okm_X8_posts (bg_and2 okm_X8_bears (bg_and2 okm_X8_most (bg_and2 okm_X8_row (bg_and2 okm_X8_judge (bg_and2 okm_X8_best (bg_and2 okm_X8_fewest (bg_and2 okm_X8_more (bg_and2 okm_X8_oneMore (bg_and2 okm_X8_weighed (bg_and2 okm_X8_way (bg_and2 okm_X8_through (bg_and2 okm_X8_gain (bg_and2 okm_X8_bestWay (bg_and2 okm_X8_leastPay (bg_and2 okm_X8_guard (bg_and2 okm_X8_carrier (bg_and2 okm_X8_value (bg_and2 okm_X8_chance (bg_and2 okm_X8_tenths (bg_and2 okm_X8_told (bg_and2 okm_X8_nights (bg_and2 okm_X8_keep (bg_and2 okm_X8_back (bg_and2 okm_X8_count (bg_and2 okm_X8_survey (bg_and2 okm_X8_mostBy (bg_and2 okm_X8_playGame (bg_and2 okm_X8_setUpGame (bg_and2 okm_X9_in (bg_and2 okm_X9_has (bg_and2 okm_X9_bits (bg_and2 okm_X9_noLand (bg_and2 okm_X9_noPlayers (bg_and2 okm_X9_write (bg_and2 okm_X9_wipe (bg_and2 okm_X9_byteAt (bg_and2 okm_X9_figures (bg_and2 okm_X9_pathItem (bg_and2 okm_X9_towerItem (bg_and2 okm_X9_item (bg_and2 okm_X9_readAll (bg_and2 okm_X9_fault (bg_and2 okm_X9_copyLand (bg_and2 okm_X9_lay (bg_and2 okm_X9_isPath (bg_and2 okm_X9_path (bg_and2 okm_X9_arePosts (bg_and2 okm_X9_costOf (bg_and2 okm_X9_heldBy (bg_and2 okm_X9_waitsBy (bg_and2 okm_X9_posts (bg_and2 okm_X9_bearsWith (bg_and2 okm_X9_bears (bg_and2 okm_X9_spread (bg_and2 okm_X9_push (bg_and2 okm_X9_flow (bg_and2 okm_X9_mostBy (bg_and2 okm_X9_most (bg_and2 okm_X9_row (bg_and2 okm_X9_comeTo (bg_and2 okm_X9_judge (bg_and2 okm_X9_setMany (bg_and2 okm_X9_bestFor (bg_and2 okm_X9_best (bg_and2 okm_X9_fewest (bg_and2 okm_X9_more (bg_and2 okm_X9_oneMore (bg_and2 okm_X9_weigh (bg_and2 okm_X9_weighed (bg_and2 okm_X9_seenBy (bg_and2 okm_X9_layWays (bg_and2 okm_X9_noteWay (bg_and2 okm_X9_way (bg_and2 okm_X9_throughBy (bg_and2 okm_X9_through (bg_and2 okm_X9_gainBy (bg_and2 okm_X9_gain (bg_and2 okm_X9_bestWayBy (bg_and2 okm_X9_elseParts (bg_and2 okm_X9_bestWay (bg_and2 okm_X9_leastPay (bg_and2 okm_X9_guard (bg_and2 okm_X9_carrier (bg_and2 okm_X9_game (bg_and2 okm_X9_toldOnes (bg_and2 okm_X9_determinant (bg_and2 okm_X9_layCells (bg_and2 okm_X9_layMembers (bg_and2 okm_X9_solve (bg_and2 okm_X9_holds (bg_and2 okm_X9_isSupport (bg_and2 okm_X9_play (bg_and2 okm_X9_common (bg_and2 okm_X9_lowest (bg_and2 okm_X9_value (bg_and2 okm_X9_chance (bg_and2 okm_X9_tenths (bg_and2 okm_X9_told (bg_and2 okm_X9_nights (bg_and2 okm_X9_copy (bg_and2 okm_X9_keep (bg_and2 okm_X9_back (bg_and2 okm_X9_count (bg_and2 okm_J6_numberOfTrailingZeros_0f7a4 (bg_and2 okm_J6_bitCount_0f7a4 (bg_and2 okm_J7_fill_d0a16 (bg_and2 okm_J7_fill_53178 (bg_and2 okm_X2_hundredthsThrough (bg_and2 okm_X2_carryingOn (rfl)))))))))))))))))))))))))))))))))))))))))))))))))))))))))))))))))))))))))))))))))))))))))))))))))))))))))))))))))))))))))))))))))))))))))))))))))))))))))))))))))))))))))))))))))))))))))))))))))
def bg_okcl : List bg_M → Prop
  | [] => True
  | M :: l => bg_okc M M.2.2.2.2.1 = true ∧ bg_okcl l
theorem bg_okc_all : bg_okcl bg_MS := ⟨ok_X0_init, ⟨ok_X1_init, ⟨ok_X2_init, ⟨ok_X3_init, ⟨ok_X4_init, ⟨ok_X5_init, ⟨ok_X6_init, ⟨ok_X7_init, ⟨ok_X8_init, ⟨ok_X9_init, ⟨ok_X0_survey, ⟨ok_X0_weigh, ⟨ok_X0_outOfShore, ⟨ok_X0_isNeeded, ⟨ok_X0_sumOver, ⟨ok_X0_placesOf, ⟨ok_X1_findSupport, ⟨ok_X1_findCarriers, ⟨ok_X1_isSetOf, ⟨ok_X1_mixes, ⟨ok_X1_turnSigns, ⟨ok_X1_areAllAbove0, ⟨ok_X1_signedMinor, ⟨ok_X1_fillLine, ⟨ok_X1_minorOf, ⟨ok_X1_noneDoesBetter, ⟨ok_X1_meanBy, ⟨ok_X1_meanOf, ⟨ok_X1_lowest, ⟨ok_X1_worthOfBeingTold, ⟨ok_X2_clear, ⟨ok_X2_copy, ⟨ok_X2_takes, ⟨ok_X2_takesNumber, ⟨ok_X2_takesPath, ⟨ok_X2_takesTower, ⟨ok_X2_hasPath, ⟨ok_X2_hasPosts, ⟨ok_X2_costOf, ⟨ok_X2_heldBy, ⟨ok_X2_waitsOf, ⟨ok_X2_bearing, ⟨ok_X2_comesMoreThanGoes, ⟨ok_X3_clear, ⟨ok_X3_copy, ⟨ok_X3_toldGuards, ⟨ok_X3_toldCarriers, ⟨ok_X3_toldOf, ⟨ok_X4_forget, ⟨ok_X4_prepare, ⟨ok_X4_bestFor, ⟨ok_X4_leastFor, ⟨ok_X4_lowerMost, ⟨ok_X4_sumNumbers, ⟨ok_X4_sumAddends, ⟨ok_X4_offerAll, ⟨ok_X4_spreadBest, ⟨ok_X4_weigh, ⟨ok_X4_leastPaying, ⟨ok_X5_begin, ⟨ok_X5_leastSum, ⟨ok_X5_leastBefore, ⟨ok_X6_hasRoomFor, ⟨ok_X6_append, ⟨ok_X6_readInto, ⟨ok_X6_readNumbers, ⟨ok_X6_readNumber, ⟨ok_X6_nextByte, ⟨ok_X6_isFigure, ⟨ok_X7_survey, ⟨ok_X7_follow, ⟨ok_X7_add, ⟨ok_X7_lengthOf, ⟨ok_X7_pathAt, ⟨ok_X7_leastBearing, ⟨ok_X7_gainOf, ⟨ok_X7_bestOf, ⟨ok_X7_greatestGain, ⟨ok_X8_write, ⟨ok_X8_wipe, ⟨ok_X8_fault, ⟨ok_X8_lay, ⟨ok_X8_path, ⟨ok_X8_posts, ⟨ok_X8_bears, ⟨ok_X8_most, ⟨ok_X8_row, ⟨ok_X8_judge, ⟨ok_X8_best, ⟨ok_X8_fewest, ⟨ok_X8_more, ⟨ok_X8_oneMore, ⟨ok_X8_weighed, ⟨ok_X8_way, ⟨ok_X8_through, ⟨ok_X8_gain, ⟨ok_X8_bestWay, ⟨ok_X8_leastPay, ⟨ok_X8_guard, ⟨ok_X8_carrier, ⟨ok_X8_value, ⟨ok_X8_chance, ⟨ok_X8_tenths, ⟨ok_X8_told, ⟨ok_X8_nights, ⟨ok_X8_keep, ⟨ok_X8_back, ⟨ok_X8_count, ⟨ok_X8_survey, ⟨ok_X8_mostBy, ⟨ok_X8_playGame, ⟨ok_X8_setUpGame, ⟨ok_X9_in, ⟨ok_X9_has, ⟨ok_X9_bits, ⟨ok_X9_noLand, ⟨ok_X9_noPlayers, ⟨ok_X9_write, ⟨ok_X9_wipe, ⟨ok_X9_byteAt, ⟨ok_X9_figures, ⟨ok_X9_pathItem, ⟨ok_X9_towerItem, ⟨ok_X9_item, ⟨ok_X9_readAll, ⟨ok_X9_fault, ⟨ok_X9_copyLand, ⟨ok_X9_lay, ⟨ok_X9_isPath, ⟨ok_X9_path, ⟨ok_X9_arePosts, ⟨ok_X9_costOf, ⟨ok_X9_heldBy, ⟨ok_X9_waitsBy, ⟨ok_X9_posts, ⟨ok_X9_bearsWith, ⟨ok_X9_bears, ⟨ok_X9_spread, ⟨ok_X9_push, ⟨ok_X9_flow, ⟨ok_X9_mostBy, ⟨ok_X9_most, ⟨ok_X9_row, ⟨ok_X9_comeTo, ⟨ok_X9_judge, ⟨ok_X9_setMany, ⟨ok_X9_bestFor, ⟨ok_X9_best, ⟨ok_X9_fewest, ⟨ok_X9_more, ⟨ok_X9_oneMore, ⟨ok_X9_weigh, ⟨ok_X9_weighed, ⟨ok_X9_seenBy, ⟨ok_X9_layWays, ⟨ok_X9_noteWay, ⟨ok_X9_way, ⟨ok_X9_throughBy, ⟨ok_X9_through, ⟨ok_X9_gainBy, ⟨ok_X9_gain, ⟨ok_X9_bestWayBy, ⟨ok_X9_elseParts, ⟨ok_X9_bestWay, ⟨ok_X9_leastPay, ⟨ok_X9_guard, ⟨ok_X9_carrier, ⟨ok_X9_game, ⟨ok_X9_toldOnes, ⟨ok_X9_determinant, ⟨ok_X9_layCells, ⟨ok_X9_layMembers, ⟨ok_X9_solve, ⟨ok_X9_holds, ⟨ok_X9_isSupport, ⟨ok_X9_play, ⟨ok_X9_common, ⟨ok_X9_lowest, ⟨ok_X9_value, ⟨ok_X9_chance, ⟨ok_X9_tenths, ⟨ok_X9_told, ⟨ok_X9_nights, ⟨ok_X9_copy, ⟨ok_X9_keep, ⟨ok_X9_back, ⟨ok_X9_count, ⟨ok_J6_numberOfTrailingZeros_0f7a4, ⟨ok_J6_bitCount_0f7a4, ⟨ok_J7_fill_d0a16, ⟨ok_J7_fill_53178, ⟨ok_X2_hundredthsThrough, ⟨ok_X2_carryingOn, trivial⟩⟩⟩⟩⟩⟩⟩⟩⟩⟩⟩⟩⟩⟩⟩⟩⟩⟩⟩⟩⟩⟩⟩⟩⟩⟩⟩⟩⟩⟩⟩⟩⟩⟩⟩⟩⟩⟩⟩⟩⟩⟩⟩⟩⟩⟩⟩⟩⟩⟩⟩⟩⟩⟩⟩⟩⟩⟩⟩⟩⟩⟩⟩⟩⟩⟩⟩⟩⟩⟩⟩⟩⟩⟩⟩⟩⟩⟩⟩⟩⟩⟩⟩⟩⟩⟩⟩⟩⟩⟩⟩⟩⟩⟩⟩⟩⟩⟩⟩⟩⟩⟩⟩⟩⟩⟩⟩⟩⟩⟩⟩⟩⟩⟩⟩⟩⟩⟩⟩⟩⟩⟩⟩⟩⟩⟩⟩⟩⟩⟩⟩⟩⟩⟩⟩⟩⟩⟩⟩⟩⟩⟩⟩⟩⟩⟩⟩⟩⟩⟩⟩⟩⟩⟩⟩⟩⟩⟩⟩⟩⟩⟩⟩⟩⟩⟩⟩⟩⟩⟩⟩⟩⟩⟩⟩⟩⟩⟩⟩⟩⟩⟩⟩⟩⟩⟩⟩⟩⟩⟩⟩⟩⟩
theorem bg_okc_of : ∀ (l : List bg_M), bg_okcl l → ∀ (k : Nat) (M : bg_M), bg_nth l k = some M → bg_okc M M.2.2.2.2.1 = true
  | [], _, k, M, h => by simp [bg_nth] at h
  | M0 :: l, h, 0, M, hk => by cases hk; exact h.1
  | M0 :: l, h, k + 1, M, hk => bg_okc_of l h.2 k M hk
theorem bg_wd_in {p : Nat} {w : Cond} (h : bg_wd p w = true) : w ∈ bg_tbl := by
  simp only [bg_wd, Bool.and_eq_true, decide_eq_true_eq] at h
  exact List.mem_filter.mpr ⟨List.mem_of_getElem? h.1, h.2⟩
theorem bg_in_mem : ∀ (l : List (Nat × bg_I)) (pc : Nat) (q : bg_I), bg_in l pc = some q → (pc, q) ∈ l
  | [], pc, q, h => by simp [bg_in] at h
  | (i, x) :: l, pc, q, h => by
    unfold bg_in at h
    split at h
    · rename_i e
      have := Nat.eq_of_beq_eq_true e
      subst this
      cases h
      exact List.mem_cons_self
    · exact List.mem_cons_of_mem _ (bg_in_mem l pc q h)
theorem bg_look_ok {M : bg_M} : ∀ (cd : bg_K), bg_okc M cd = true → ∀ (pc : Nat) (q : bg_I), bg_look cd pc = some q → bg_ok1 M pc q = true
  | [], _, pc, q, h => by simp [bg_look] at h
  | (n, l) :: cd, hok, pc, q, h => by
    unfold bg_okc at hok
    rw [List.all_cons, Bool.and_eq_true] at hok
    unfold bg_look at h
    split at h
    · exact List.all_eq_true.mp hok.1 _ (bg_in_mem l pc q h)
    · exact bg_look_ok cd hok.2 pc q h
def bg_kd (a : Nat) : Nat := match bg_nth bg_PL a with
  | some q => q.2.2.1
  | none => 9
def bg_kq (q : bg_I) : Bool := match q with
  | (.invokevirtual _, _, (a, _)) => Nat.beq (bg_kd a) 1
  | (.invokestatic _, _, (a, _, t, _)) => (Nat.ble 1 t && Nat.ble t 4) || Nat.beq (bg_kd a) 0
  | (.invokespecial _, _, (a, _, t, _)) => Nat.beq t 1 || Nat.beq (bg_kd a) 2
  | _ => true
def bg_kc (cd : bg_K) : Bool := cd.all (fun ch => ch.2.all (fun r => bg_kq r.2))
theorem bg_kc_all : bg_MS.all (fun M => bg_kc M.2.2.2.2.1) = true := by decide +kernel
theorem bg_kc_law : bg_kc cd_L_law = true := by decide +kernel
theorem bg_look_kq : ∀ (cd : bg_K), bg_kc cd = true → ∀ (pc : Nat) (q : bg_I), bg_look cd pc = some q → bg_kq q = true
  | [], _, pc, q, h => by simp [bg_look] at h
  | (n, l) :: cd, hok, pc, q, h => by
    unfold bg_kc at hok
    rw [List.all_cons, Bool.and_eq_true] at hok
    unfold bg_look at h
    split at h
    · exact List.all_eq_true.mp hok.1 _ (bg_in_mem l pc q h)
    · exact bg_look_kq cd hok.2 pc q h
theorem bg_okn_all {M : bg_M} : ∀ (cd : bg_K), (∀ i, i < cd.length → bg_okn M cd i = true) → bg_okc M cd = true
  | [], _ => rfl
  | (n, l) :: cd, h => by
    unfold bg_okc
    rw [List.all_cons, Bool.and_eq_true]
    exact ⟨h 0 (by simp), bg_okn_all cd (fun i hi => h (i + 1) (by simpa using hi))⟩
theorem ok_L_law : bg_okc me_L_law cd_L_law = true := bg_okn_all cd_L_law (fun i hi => by
  have hi : i < 29 := hi
  match i, hi with
  | 0, _ => exact ok_L_0
  | 1, _ => exact ok_L_1
  | 2, _ => exact ok_L_2
  | 3, _ => exact ok_L_3
  | 4, _ => exact ok_L_4
  | 5, _ => exact ok_L_5
  | 6, _ => exact ok_L_6
  | 7, _ => exact ok_L_7
  | 8, _ => exact ok_L_8
  | 9, _ => exact ok_L_9
  | 10, _ => exact ok_L_10
  | 11, _ => exact ok_L_11
  | 12, _ => exact ok_L_12
  | 13, _ => exact ok_L_13
  | 14, _ => exact ok_L_14
  | 15, _ => exact ok_L_15
  | 16, _ => exact ok_L_16
  | 17, _ => exact ok_L_17
  | 18, _ => exact ok_L_18
  | 19, _ => exact ok_L_19
  | 20, _ => exact ok_L_20
  | 21, _ => exact ok_L_21
  | 22, _ => exact ok_L_22
  | 23, _ => exact ok_L_23
  | 24, _ => exact ok_L_24
  | 25, _ => exact ok_L_25
  | 26, _ => exact ok_L_26
  | 27, _ => exact ok_L_27
  | 28, _ => exact ok_L_28
  | i + 29, h => exact absurd h (by omega))
end
section
/-! how the abstract machine's frames stand for the machine's -/
def bg_cv (ad : Nat → Nat) : bg_V → Value
  | .inl x => .int (Int32.ofInt x)
  | .inr (.inl x) => .long (Int64.ofInt x)
  | .inr (.inr r) => va_rf (r.map ad)
def bg_fd (ad : Nat → Nat) (ci : Nat) (rs : List (Option Nat)) (g : Int → Int) (j : Nat) : Value := match bg_tg ci j with
  | 0 => .int (Int32.ofInt (g j))
  | 1 => .long (Int64.ofInt (g j))
  | 3 => .int (Int32.ofInt (g j))
  | _ => va_rf ((rs.getD j none).map ad)
def bg_ce (cy : Nat → ClassId) (ad : Nat → Nat) (c : bg_C) (g : Int → Int) : va_E :=
  if c.1 < 10 then .inr (c.1, (List.range c.2.1).map (bg_fd ad c.1 c.2.2 g))
  else .inl (cy c.1, c.2.1, if c.1 = 10 then .inl (fun j => Int32.ofInt (g j)) else if c.1 = 11 then .inr (.inl (fun j => Int64.ofInt (g j))) else .inr (.inr (.inr (.inr (fun j => (c.2.2.getD j none).map ad)))))
def bg_ws (cy : Nat → ClassId) (ad : Nat → Nat) (H : bg_H) : va_W := (List.range (H.1.length - 2)).map (fun i => (ad (i + 2), bg_ce cy ad (H.1.getD (i + 2) (0, 0, [])) (H.2 (i + 2))))
def bg_tys (cy : Nat → ClassId) : List (ClassId × FieldType) := [(cy 10, .int), (cy 11, .long), (cy 12, .object "BorderGuards$Land"), (cy 13, .object "BorderGuards$Lots"), (cy 14, .array .int), (cy 15, .array .long)]
def bg_vk (n : Nat) : bg_V → Prop
  | .inr (.inr (some r)) => r < n
  | _ => True
def bg_wf (H : bg_H) : Prop := (∃ L0, bg_nth H.1 0 = some (16, L0, []) ∧ L0 < 2 ^ 31 ∧ bg_nth H.1 1 = some (16, 7, [])) ∧
  ∀ k c, bg_nth H.1 k = some c → 2 ≤ k → c.1 < 16 ∧ c.2.1 < 2 ^ 31 ∧ (c.1 < 10 → ∃ C T, bg_cls[c.1]? = some (C, T, c.2.1)) ∧ (∀ j r, c.2.2.getD j none = some r → r < H.1.length) ∧ (12 ≤ c.1 ∨ c.1 < 10 → c.2.2.length = c.2.1)
def bg_ro (ad : Nat → Nat) (H : bg_H) (A : Nat → Prop) (s : State) : Prop :=
  (∀ L0, bg_nth H.1 0 = some (16, L0, []) → va_T .int (ad 0) L0 (fun j => .int (Int32.ofInt (H.2 0 j))) A s s.heap) ∧ va_T .int (ad 1) 7 (fun j => .int (Int32.ofInt (H.2 1 j))) A s s.heap ∧ va_Z "BorderGuards$Land" "PATH_LIMITS" "[I" (.ref (ad 1)) A s s.heap
def bg_rl (ad : Nat → Nat) (L : bg_L) (ls : Array Slot) (nL : Nat) : Prop := ls.size = nL ∧ lv_wf ls ∧ ∀ (j : Nat) (v : bg_V), bg_nth L j = some (some v) → ls[j]? = some (.val (bg_cv ad v))
/-- what has not changed since the entry -/
def bg_ex (E0 : (Nat → Nat) × bg_H) (ad : Nat → Nat) (Hh : bg_H) : Prop := (∀ k, k < E0.2.1.length → ad k = E0.1 k) ∧ E0.2.1.length ≤ Hh.1.length ∧ bg_nth Hh.1 0 = bg_nth E0.2.1 0 ∧ Hh.2 0 = E0.2.2 0 ∧ Hh.2 1 = E0.2.2 1
def bg_Re (s : State) (D : va_G) (cy : Nat → ClassId) (A : Nat → Prop) (E0 : (Nat → Nat) × bg_H) (nL : Nat) (L : bg_L) (st : List bg_V) (Hh : bg_H) (ad : Nat → Nat) (H : Heap) (locs : List Loc) (ls : Array Slot) : Prop :=
  va_P D bg_cls (bg_ws cy ad Hh) H ∧ va_D A (bg_ws cy ad Hh) ∧ va_S A s.heap H locs ∧ bg_rl ad L ls nL ∧ bg_wf Hh ∧ bg_ro ad Hh A s ∧ (∀ v ∈ st, bg_vk Hh.1.length v) ∧ (∀ (j : Nat) (v : bg_V), bg_nth L j = some (some v) → bg_vk Hh.1.length v) ∧ bg_ex E0 ad Hh
def bg_Sim (p : Program) (l : Launch) (e : Env) (R : Room) (s : State) (m : MethodId) (args : Array Value) (below : List Frame) (meth : Method) (c : Code) (Q : State → Prop) (D : va_G) (cy : Nat → ClassId) (A : Nat → Prop) (E0 : (Nat → Nat) × bg_H) (nL : Nat) (f : bg_F) : Prop := match f with
  | (pc, L, st, Hh, cn) => ∀ (ad : Nat → Nat) (H : Heap) (locs : List Loc) (ls : Array Slot), bg_Re s D cy A E0 nL L st Hh ad H locs ls → W p l e R s m args below meth c H locs cn.1 cn.2 Q (F0 m pc ls (st.map (bg_cv ad)))
def bg_AO (U : State) : Prop := ∀ ty ∈ [FieldType.object "BorderGuards$Land", .object "BorderGuards$Lots", .array .int, .array .long], (Cond.arrayOver ty).before #[] U = true
theorem bg_AO.moved {u U : State} (hvm : u.vm.Alike U.vm) (h : bg_AO u) : bg_AO U := fun ty hty => (Cond.arrayOver_setVmC (args := #[]) hvm ty).trans (h ty hty)
def bg_Cx (p : Program) (s : State) (m : MethodId) (args : Array Value) (meth : Method) (c : Code) (D : va_G) (cy : Nat → ClassId) (A : Nat → Prop) (M : bg_M) : Prop :=
  p.tables.exec = Jvm.exec ∧ c.code = M.2.1 ∧ c.maxLocals = M.2.2.1 ∧ s.vm.findClass M.1.cls = some m.cls ∧ (∀ w ∈ bg_tbl, w.before args s = true) ∧ va_K D bg_cls (bg_tys cy) s ∧ (∀ q, s.heap.size ≤ q → A q) ∧ meth.name = M.1.name ∧ bg_AO s
-- lists of cells
theorem bg_ws_len (cy : Nat → ClassId) (ad : Nat → Nat) (H : bg_H) : (bg_ws cy ad H).length = H.1.length - 2 := by simp [bg_ws]
theorem bg_nth_lt {α : Type} {l : List α} {k : Nat} {a : α} (h : bg_nth l k = some a) : k < l.length := by
  rw [bg_nth_eq] at h
  exact (List.getElem?_eq_some_iff.mp h).1
theorem bg_ws_at {cy : Nat → ClassId} {ad : Nat → Nat} {H : bg_H} {k : Nat} {c : bg_C} (h : bg_nth H.1 k = some c) (hk : 2 ≤ k) : (bg_ws cy ad H)[k - 2]? = some (ad k, bg_ce cy ad c (H.2 k)) := by
  have hl := bg_nth_lt h
  rw [bg_nth_eq] at h
  have e : k - 2 + 2 = k := by omega
  simp [bg_ws, List.getElem?_map, List.getElem?_range (show k - 2 < H.1.length - 2 by omega), e, List.getD_eq_getElem?_getD, h]
theorem bg_ws_eq {cy : Nat → ClassId} {ad : Nat → Nat} {H : bg_H} {w : va_W} (hl : w.length = H.1.length - 2) (h : ∀ k c, bg_nth H.1 k = some c → 2 ≤ k → w[k - 2]? = some (ad k, bg_ce cy ad c (H.2 k))) : w = bg_ws cy ad H := by
  apply List.ext_getElem?
  intro i
  by_cases hi : i < H.1.length - 2
  · have hk : i + 2 < H.1.length := by omega
    have e : bg_nth H.1 (i + 2) = some H.1[i + 2] := by rw [bg_nth_eq]; exact List.getElem?_eq_getElem hk
    have h1 := h (i + 2) _ e (by omega)
    have h2 := bg_ws_at (cy := cy) (ad := ad) e (by omega)
    rw [show i + 2 - 2 = i by omega] at h1 h2
    rw [h1, h2]
  · rw [List.getElem?_eq_none (by omega), List.getElem?_eq_none (by rw [bg_ws_len]; omega)]
/-- one cell's numbers change -/
theorem bg_ws_up {cy : Nat → ClassId} {ad : Nat → Nat} {H : bg_H} {k : Nat} {c : bg_C} {g : bg_G} (h : bg_nth H.1 k = some c) (hk : 2 ≤ k) (hg : ∀ k', k' ≠ k → g k' = H.2 k') : (bg_ws cy ad H).set (k - 2) (ad k, bg_ce cy ad c (g k)) = bg_ws cy ad (H.1, g) := by
  refine bg_ws_eq (by simp [bg_ws_len]) fun k' c' hc' hk' => ?_
  by_cases e : k' = k
  · subst e
    have : c' = c := Option.some.inj (hc'.symm.trans h)
    subst this
    rw [List.getElem?_set_self (by rw [bg_ws_len]; have := bg_nth_lt h; omega)]
  · rw [List.getElem?_set_ne (by omega), bg_ws_at (H := H) hc' hk']
    simp [hg k' e]
/-- one cell's references change -/
theorem bg_ws_rf {cy : Nat → ClassId} {ad : Nat → Nat} {H : bg_H} {k : Nat} {c c2 : bg_C} (h : bg_nth H.1 k = some c) (hk : 2 ≤ k) : (bg_ws cy ad H).set (k - 2) (ad k, bg_ce cy ad c2 (H.2 k)) = bg_ws cy ad (H.1.set k c2, H.2) := by
  have hl := bg_nth_lt h
  refine bg_ws_eq (by simp [bg_ws_len]) fun k' c' hc' hk' => ?_
  rw [bg_nth_eq] at hc'
  by_cases e : k' = k
  · subst e
    rw [List.getElem?_set_self (by rw [bg_ws_len]; omega)]
    simp only [List.getElem?_set_self hl] at hc'
    cases hc'
    rfl
  · simp only [List.getElem?_set_ne (fun q => e q.symm)] at hc'
    rw [List.getElem?_set_ne (by omega)]
    exact bg_ws_at (H := H) (by rw [bg_nth_eq]; exact hc') hk'
theorem bg_rl_has {ad : Nat → Nat} {L : bg_L} {ls : Array Slot} {nL : Nat} (h : bg_rl ad L ls nL) : lv_has ls nL ((List.range L.length).filterMap (fun j => match bg_nth L j with | some (some v) => some (j, bg_cv ad v) | _ => none)) := by
  refine ⟨h.1, h.2.1, fun q hq => ?_⟩
  obtain ⟨j, -, hj⟩ := List.mem_filterMap.mp hq
  split at hj
  · rename_i v hv
    cases hj
    exact h.2.2 j v hv
  · cases hj
theorem bg_rl_mem {ad : Nat → Nat} {L : bg_L} {j : Nat} {v : bg_V} (h : bg_nth L j = some (some v)) : (j, bg_cv ad v) ∈ (List.range L.length).filterMap (fun j => match bg_nth L j with | some (some v) => some (j, bg_cv ad v) | _ => none) := by
  refine List.mem_filterMap.mpr ⟨j, List.mem_range.mpr (bg_nth_lt h), ?_⟩
  rw [h]
def bg_lng : bg_V → Prop
  | .inr (.inl _) => True
  | _ => False
theorem bg_cat {ad : Nat → Nat} {v : bg_V} (h : ¬ bg_lng v) : ¬ (bg_cv ad v).category = 2 := by
  match v, h with
  | .inl x, _ => simp [bg_cv, Value.category]
  | .inr (.inl x), h => exact absurd trivial h
  | .inr (.inr none), _ => simp [bg_cv, va_rf, Value.category]
  | .inr (.inr (some r)), _ => simp [bg_cv, va_rf, Value.category]
theorem bg_clr_some {o : Option bg_V} {v : bg_V} (h : bg_clr o = some v) : o = some v ∧ ¬ bg_lng v := by
  match o, h with
  | some (.inl x), h => simp [bg_clr] at h; subst h; exact ⟨rfl, id⟩
  | some (.inr (.inl x)), h => simp [bg_clr] at h
  | some (.inr (.inr r)), h => simp [bg_clr] at h; subst h; exact ⟨rfl, id⟩
  | none, h => simp [bg_clr] at h
theorem bg_sto_nth : ∀ (L : bg_L) (i j : Nat) (x v : bg_V), bg_nth (bg_sto L i x) j = some (some v) → (j = i ∧ v = x) ∨ (j ≠ i ∧ bg_nth L j = some (some v) ∧ ¬ (j + 1 = i ∧ bg_lng v))
  | [], i, j, x, v, h => by simp [bg_sto, bg_nth] at h
  | a :: l, 0, 0, x, v, h => by simp [bg_sto, bg_nth] at h; exact Or.inl ⟨rfl, h.symm⟩
  | a :: l, 0, j + 1, x, v, h => by simp [bg_sto, bg_nth] at h; exact Or.inr ⟨by omega, by simpa [bg_nth] using h, by omega⟩
  | a :: l, 1, 0, x, v, h => by
    simp [bg_sto, bg_nth] at h
    have := bg_clr_some h
    exact Or.inr ⟨by omega, by simp [bg_nth, this.1], fun q => this.2 q.2⟩
  | a :: l, 1, j + 1, x, v, h => by
    simp only [bg_sto, bg_nth] at h
    rcases bg_sto_nth l 0 j x v h with ⟨a1, a2⟩ | ⟨a1, a2, a3⟩
    · exact Or.inl ⟨by omega, a2⟩
    · exact Or.inr ⟨by omega, by simpa [bg_nth] using a2, by omega⟩
  | a :: l, n + 2, 0, x, v, h => by
    simp only [bg_sto, bg_nth] at h
    exact Or.inr ⟨by omega, by simpa [bg_nth] using h, by omega⟩
  | a :: l, n + 2, j + 1, x, v, h => by
    simp only [bg_sto, bg_nth] at h
    rcases bg_sto_nth l (n + 1) j x v h with ⟨a1, a2⟩ | ⟨a1, a2, a3⟩
    · exact Or.inl ⟨by omega, a2⟩
    · exact Or.inr ⟨by omega, by simpa [bg_nth] using a2, fun q => a3 ⟨by omega, q.2⟩⟩
theorem bg_sto2_nth : ∀ (L : bg_L) (i j : Nat) (x v : bg_V), bg_nth (bg_sto2 L i x) j = some (some v) → (j = i ∧ v = x) ∨ (j ≠ i ∧ j ≠ i + 1 ∧ bg_nth L j = some (some v) ∧ ¬ (j + 1 = i ∧ bg_lng v))
  | [], 0, j, x, v, h => by simp [bg_sto2, bg_nth] at h
  | [], 1, j, x, v, h => by simp [bg_sto2, bg_nth] at h
  | [], n + 2, j, x, v, h => by simp [bg_sto2, bg_nth] at h
  | [a], 0, j, x, v, h => by simp [bg_sto2, bg_nth] at h
  | a :: b :: l, 0, 0, x, v, h => by simp [bg_sto2, bg_nth] at h; exact Or.inl ⟨rfl, h.symm⟩
  | a :: b :: l, 0, 1, x, v, h => by simp [bg_sto2, bg_nth] at h
  | a :: b :: l, 0, j + 2, x, v, h => by
    simp only [bg_sto2, bg_nth] at h
    exact Or.inr ⟨by omega, by omega, by simpa [bg_nth] using h, by omega⟩
  | a :: l, 1, 0, x, v, h => by
    simp [bg_sto2, bg_nth] at h
    have := bg_clr_some h
    exact Or.inr ⟨by omega, by omega, by simp [bg_nth, this.1], fun q => this.2 q.2⟩
  | a :: l, 1, j + 1, x, v, h => by
    simp only [bg_sto2, bg_nth] at h
    rcases bg_sto2_nth l 0 j x v h with ⟨a1, a2⟩ | ⟨a1, a0, a2, a3⟩
    · exact Or.inl ⟨by omega, a2⟩
    · exact Or.inr ⟨by omega, by omega, by simpa [bg_nth] using a2, by omega⟩
  | a :: l, n + 2, 0, x, v, h => by
    simp only [bg_sto2, bg_nth] at h
    exact Or.inr ⟨by omega, by omega, by simpa [bg_nth] using h, by omega⟩
  | a :: l, n + 2, j + 1, x, v, h => by
    simp only [bg_sto2, bg_nth] at h
    rcases bg_sto2_nth l (n + 1) j x v h with ⟨a1, a2⟩ | ⟨a1, a0, a2, a3⟩
    · exact Or.inl ⟨by omega, a2⟩
    · exact Or.inr ⟨by omega, by omega, by simpa [bg_nth] using a2, fun q => a3 ⟨by omega, q.2⟩⟩
theorem bg_rl_sto {ad : Nat → Nat} {L : bg_L} {ls ls' : Array Slot} {nL i : Nat} {x : bg_V} (h : bg_rl ad L ls nL) (h' : lv_has ls' nL ((i, bg_cv ad x) :: ((List.range L.length).filterMap (fun j => match bg_nth L j with | some (some v) => some (j, bg_cv ad v) | _ => none)).filter (fun q => !(q.1 == i) && !(q.1 + 1 == i && q.2.category == 2)))) : bg_rl ad (bg_sto L i x) ls' nL := by
  refine ⟨h'.1, h'.2.1, fun j v hj => ?_⟩
  rcases bg_sto_nth L i j x v hj with ⟨rfl, rfl⟩ | ⟨a1, a2, a3⟩
  · exact h'.2.2 (j, bg_cv ad v) List.mem_cons_self
  · refine h'.2.2 (j, bg_cv ad v) (List.mem_cons_of_mem _ (List.mem_filter.mpr ⟨bg_rl_mem a2, ?_⟩))
    by_cases e : j + 1 = i
    · have := bg_cat (ad := ad) (fun q => a3 ⟨e, q⟩)
      simp [a1, this]
    · simp [a1, e]
theorem bg_rl_sto2 {ad : Nat → Nat} {L : bg_L} {ls ls' : Array Slot} {nL i : Nat} {x : bg_V} (h : bg_rl ad L ls nL) (h' : lv_has ls' nL ((i, bg_cv ad x) :: ((List.range L.length).filterMap (fun j => match bg_nth L j with | some (some v) => some (j, bg_cv ad v) | _ => none)).filter (fun q => !(q.1 == i) && (!(q.1 == i + 1) && !(q.1 + 1 == i && q.2.category == 2))))) : bg_rl ad (bg_sto2 L i x) ls' nL := by
  refine ⟨h'.1, h'.2.1, fun j v hj => ?_⟩
  rcases bg_sto2_nth L i j x v hj with ⟨rfl, rfl⟩ | ⟨a1, a0, a2, a3⟩
  · exact h'.2.2 (j, bg_cv ad v) List.mem_cons_self
  · refine h'.2.2 (j, bg_cv ad v) (List.mem_cons_of_mem _ (List.mem_filter.mpr ⟨bg_rl_mem a2, ?_⟩))
    by_cases e : j + 1 = i
    · have := bg_cat (ad := ad) (fun q => a3 ⟨e, q⟩)
      simp [a1, a0, this]
    · simp [a1, a0, e]
theorem bg_sto_vk {L : bg_L} {n i : Nat} {x : bg_V} (hx : bg_vk n x) (h : ∀ (j : Nat) (v : bg_V), bg_nth L j = some (some v) → bg_vk n v) (j : Nat) (v : bg_V) (hj : bg_nth (bg_sto L i x) j = some (some v)) : bg_vk n v := by
  rcases bg_sto_nth L i j x v hj with ⟨-, rfl⟩ | ⟨-, a2, -⟩
  · exact hx
  · exact h j v a2
theorem bg_sto2_vk {L : bg_L} {n i : Nat} {x : bg_V} (hx : bg_vk n x) (h : ∀ (j : Nat) (v : bg_V), bg_nth L j = some (some v) → bg_vk n v) (j : Nat) (v : bg_V) (hj : bg_nth (bg_sto2 L i x) j = some (some v)) : bg_vk n v := by
  rcases bg_sto2_nth L i j x v hj with ⟨-, rfl⟩ | ⟨-, -, a2, -⟩
  · exact hx
  · exact h j v a2
end
section
/-! single instructions: what holds behind one holds ahead of it -/
theorem bg_i_w (x : Int) : Int32.ofInt (bg_w x) = Int32.ofInt x := Int32.ofInt_toInt _
theorem bg_vk2 {n : Nat} {v0 : bg_V} {l : List bg_V} (h0 : bg_vk n v0) (h : ∀ v ∈ l, bg_vk n v) : ∀ v ∈ v0 :: l, bg_vk n v := List.forall_mem_cons.mpr ⟨h0, h⟩
theorem bg_tl {n : Nat} {v0 : bg_V} {l : List bg_V} (h : ∀ v ∈ v0 :: l, bg_vk n v) : ∀ v ∈ l, bg_vk n v := fun v hv => h v (List.mem_cons_of_mem _ hv)
theorem bg_lc (n : Fin 2) : Int64.ofNat (n : Nat) = Int64.ofInt ((n : Nat) : Int) := by revert n; decide
section Bg
variable {p : Program} {l : Launch} {e : Env} {R : Room} {s : State} {m : MethodId} {args : Array Value} {below : List Frame} {meth : Method} {c : Code} {Q : State → Prop} {D : va_G} {cy : Nat → ClassId} {A : Nat → Prop} {M : bg_M} {E0 : (Nat → Nat) × bg_H}
variable {pc nx : Nat} {L : bg_L} {st r : List bg_V} {Hh : bg_H} {cn : Nat × Nat}
theorem bg_Re.stk {nL : Nat} {st2 : List bg_V} {ad : Nat → Nat} {H : Heap} {locs : List Loc} {ls : Array Slot} (h : bg_Re s D cy A E0 nL L st Hh ad H locs ls) (h2 : ∀ v ∈ st2, bg_vk Hh.1.length v) : bg_Re s D cy A E0 nL L st2 Hh ad H locs ls :=
  ⟨h.1, h.2.1, h.2.2.1, h.2.2.2.1, h.2.2.2.2.1, h.2.2.2.2.2.1, h2, h.2.2.2.2.2.2.2.1, h.2.2.2.2.2.2.2.2⟩
theorem bg_Re.vk {nL : Nat} {ad : Nat → Nat} {H : Heap} {locs : List Loc} {ls : Array Slot} (h : bg_Re s D cy A E0 nL L st Hh ad H locs ls) : ∀ v ∈ st, bg_vk Hh.1.length v := h.2.2.2.2.2.2.1
theorem bg_Re.sto {nL i : Nat} {x : bg_V} {ad : Nat → Nat} {H : Heap} {locs : List Loc} {ls ls' : Array Slot} (h : bg_Re s D cy A E0 nL L (x :: r) Hh ad H locs ls) (h' : lv_has ls' nL ((i, bg_cv ad x) :: ((List.range L.length).filterMap (fun j => match bg_nth L j with | some (some v) => some (j, bg_cv ad v) | _ => none)).filter (fun q => !(q.1 == i) && !(q.1 + 1 == i && q.2.category == 2)))) : bg_Re s D cy A E0 nL (bg_sto L i x) r Hh ad H locs ls' :=
  ⟨h.1, h.2.1, h.2.2.1, bg_rl_sto h.2.2.2.1 h', h.2.2.2.2.1, h.2.2.2.2.2.1, fun v hv => h.2.2.2.2.2.2.1 v (List.mem_cons_of_mem _ hv), bg_sto_vk (h.2.2.2.2.2.2.1 x List.mem_cons_self) h.2.2.2.2.2.2.2.1, h.2.2.2.2.2.2.2.2⟩
theorem bg_Re.sto2 {nL i : Nat} {x : bg_V} {ad : Nat → Nat} {H : Heap} {locs : List Loc} {ls ls' : Array Slot} (h : bg_Re s D cy A E0 nL L (x :: r) Hh ad H locs ls) (h' : lv_has ls' nL ((i, bg_cv ad x) :: ((List.range L.length).filterMap (fun j => match bg_nth L j with | some (some v) => some (j, bg_cv ad v) | _ => none)).filter (fun q => !(q.1 == i) && (!(q.1 == i + 1) && !(q.1 + 1 == i && q.2.category == 2))))) : bg_Re s D cy A E0 nL (bg_sto2 L i x) r Hh ad H locs ls' :=
  ⟨h.1, h.2.1, h.2.2.1, bg_rl_sto2 h.2.2.2.1 h', h.2.2.2.2.1, h.2.2.2.2.2.1, fun v hv => h.2.2.2.2.2.2.1 v (List.mem_cons_of_mem _ hv), bg_sto2_vk (h.2.2.2.2.2.2.1 x List.mem_cons_self) h.2.2.2.2.2.2.2.1, h.2.2.2.2.2.2.2.2⟩
theorem sm_iconst (hC : bg_Cx p s m args meth c D cy A M) {d : Int} (hd : decode M.2.1 pc = .ok (.iconst d, 1))  (hk : bg_Sim p l e R s m args below meth c Q D cy A E0 M.2.2.1 (pc + 1, L, .inl d :: st, Hh, cn)) : bg_Sim p l e R s m args below meth c Q D cy A E0 M.2.2.1 (pc, L, st, Hh, cn) := by
  intro ad H locs ls h
  exact lv_iconst hC.1 hC.2.1 hd rfl (hk ad H locs ls (h.stk (bg_vk2 trivial h.vk)))
theorem bg_i8 {d : Int} (h1 : -128 ≤ d) (h2 : d ≤ 127) : (Int8.ofInt d).toInt32 = Int32.ofInt d := by
  rw [← Int32.toInt_inj, Int8.toInt_toInt32, Int8.toInt_ofInt, Int32.toInt_ofInt, Int.bmod_eq_of_le (by simp; omega) (by simp; omega), Int.bmod_eq_of_le (by simp; omega) (by simp; omega)]
theorem bg_i16 {d : Int} (h1 : -32768 ≤ d) (h2 : d ≤ 32767) : (Int16.ofInt d).toInt32 = Int32.ofInt d := by
  rw [← Int32.toInt_inj, Int16.toInt_toInt32, Int16.toInt_ofInt, Int32.toInt_ofInt, Int.bmod_eq_of_le (by simp; omega) (by simp; omega), Int.bmod_eq_of_le (by simp; omega) (by simp; omega)]
theorem sm_bipush (hC : bg_Cx p s m args meth c D cy A M) {d : Int} (hd : decode M.2.1 pc = .ok (.bipush d, 2)) (hr : -128 ≤ d ∧ d ≤ 127) (hk : bg_Sim p l e R s m args below meth c Q D cy A E0 M.2.2.1 (pc + 2, L, .inl d :: st, Hh, cn)) : bg_Sim p l e R s m args below meth c Q D cy A E0 M.2.2.1 (pc, L, st, Hh, cn) := by
  intro ad H locs ls h
  exact lv_bipush hC.1 hC.2.1 hd (bg_i8 hr.1 hr.2) (hk ad H locs ls (h.stk (bg_vk2 trivial h.vk)))
theorem sm_sipush (hC : bg_Cx p s m args meth c D cy A M) {d : Int} (hd : decode M.2.1 pc = .ok (.sipush d, 3)) (hr : -32768 ≤ d ∧ d ≤ 32767) (hk : bg_Sim p l e R s m args below meth c Q D cy A E0 M.2.2.1 (pc + 3, L, .inl d :: st, Hh, cn)) : bg_Sim p l e R s m args below meth c Q D cy A E0 M.2.2.1 (pc, L, st, Hh, cn) := by
  intro ad H locs ls h
  exact lv_sipush hC.1 hC.2.1 hd (bg_i16 hr.1 hr.2) (hk ad H locs ls (h.stk (bg_vk2 trivial h.vk)))
theorem sm_ldc (hC : bg_Cx p s m args meth c D cy A M) {d : Int} {i : Nat} (hd : decode M.2.1 pc = .ok (.ldc i, 2)) (hw : Cond.constant M.1.cls i (Int32.ofInt d) ∈ bg_tbl) (hk : bg_Sim p l e R s m args below meth c Q D cy A E0 M.2.2.1 (pc + 2, L, .inl d :: st, Hh, cn)) : bg_Sim p l e R s m args below meth c Q D cy A E0 M.2.2.1 (pc, L, st, Hh, cn) := by
  intro ad H locs ls h
  exact lv_ldc hC.1 hC.2.1 hC.2.2.2.1 (hC.2.2.2.2.1 _ hw) hd (hk ad H locs ls (h.stk (bg_vk2 trivial h.vk)))
theorem sm_ldc_w (hC : bg_Cx p s m args meth c D cy A M) {d : Int} {i : Nat} (hd : decode M.2.1 pc = .ok (.ldc_w i, 3)) (hw : Cond.constant M.1.cls i (Int32.ofInt d) ∈ bg_tbl) (hk : bg_Sim p l e R s m args below meth c Q D cy A E0 M.2.2.1 (pc + 3, L, .inl d :: st, Hh, cn)) : bg_Sim p l e R s m args below meth c Q D cy A E0 M.2.2.1 (pc, L, st, Hh, cn) := by
  intro ad H locs ls h
  exact lv_ldcw hC.1 hC.2.1 hC.2.2.2.1 (hC.2.2.2.2.1 _ hw) hd (hk ad H locs ls (h.stk (bg_vk2 trivial h.vk)))
theorem sm_lconst (hC : bg_Cx p s m args meth c D cy A M) {d : Int} {n : Fin 2} (hd : decode M.2.1 pc = .ok (.lconst n, 1)) (hn : d = ((n : Nat) : Int)) (hk : bg_Sim p l e R s m args below meth c Q D cy A E0 M.2.2.1 (pc + 1, L, .inr (.inl d) :: st, Hh, cn)) : bg_Sim p l e R s m args below meth c Q D cy A E0 M.2.2.1 (pc, L, st, Hh, cn) := by
  intro ad H locs ls h
  subst hn
  exact lv_lconst hC.1 hC.2.1 hd (bg_lc n) (hk ad H locs ls (h.stk (bg_vk2 trivial h.vk)))
theorem sm_ldc2 (hC : bg_Cx p s m args meth c D cy A M) {d : Int} {i : Nat} (hd : decode M.2.1 pc = .ok (.ldc2_w i, 3)) (hw : Cond.constantLong M.1.cls i (Int64.ofInt d) ∈ bg_tbl) (hk : bg_Sim p l e R s m args below meth c Q D cy A E0 M.2.2.1 (pc + 3, L, .inr (.inl d) :: st, Hh, cn)) : bg_Sim p l e R s m args below meth c Q D cy A E0 M.2.2.1 (pc, L, st, Hh, cn) := by
  intro ad H locs ls h
  exact lv_ldc2 hC.1 hC.2.1 hC.2.2.2.1 (hC.2.2.2.2.1 _ hw) hd (hk ad H locs ls (h.stk (bg_vk2 trivial h.vk)))
theorem sm_iload (hC : bg_Cx p s m args meth c D cy A M) {x : Int} {i : Nat} (hd : decode M.2.1 pc = .ok (.iload i, 2)) (hx : bg_nth L i = some (some (.inl x))) (hk : bg_Sim p l e R s m args below meth c Q D cy A E0 M.2.2.1 (pc + 2, L, .inl x :: st, Hh, cn)) : bg_Sim p l e R s m args below meth c Q D cy A E0 M.2.2.1 (pc, L, st, Hh, cn) := by
  intro ad H locs ls h
  exact lv_iload hC.1 hC.2.1 hd (h.2.2.2.1.2.2 _ _ hx) (hk ad H locs ls (h.stk (bg_vk2 trivial h.vk)))
theorem sm_iload_n (hC : bg_Cx p s m args meth c D cy A M) {x : Int} {i : Nat} {k : Fin 4} (hd : decode M.2.1 pc = .ok (.iload_n k, 1)) (hi : i = (k : Nat)) (hx : bg_nth L i = some (some (.inl x))) (hk : bg_Sim p l e R s m args below meth c Q D cy A E0 M.2.2.1 (pc + 1, L, .inl x :: st, Hh, cn)) : bg_Sim p l e R s m args below meth c Q D cy A E0 M.2.2.1 (pc, L, st, Hh, cn) := by
  intro ad H locs ls h
  exact lv_iload_n hC.1 hC.2.1 hd hi.symm (h.2.2.2.1.2.2 _ _ hx) (hk ad H locs ls (h.stk (bg_vk2 trivial h.vk)))
theorem sm_lload (hC : bg_Cx p s m args meth c D cy A M) {x : Int} {i : Nat} (hd : decode M.2.1 pc = .ok (.lload i, 2)) (hx : bg_nth L i = some (some (.inr (.inl x)))) (hk : bg_Sim p l e R s m args below meth c Q D cy A E0 M.2.2.1 (pc + 2, L, .inr (.inl x) :: st, Hh, cn)) : bg_Sim p l e R s m args below meth c Q D cy A E0 M.2.2.1 (pc, L, st, Hh, cn) := by
  intro ad H locs ls h
  exact lv_lload hC.1 hC.2.1 hd (h.2.2.2.1.2.2 _ _ hx) (hk ad H locs ls (h.stk (bg_vk2 trivial h.vk)))
theorem sm_lload_n (hC : bg_Cx p s m args meth c D cy A M) {x : Int} {i : Nat} {k : Fin 4} (hd : decode M.2.1 pc = .ok (.lload_n k, 1)) (hi : i = (k : Nat)) (hx : bg_nth L i = some (some (.inr (.inl x)))) (hk : bg_Sim p l e R s m args below meth c Q D cy A E0 M.2.2.1 (pc + 1, L, .inr (.inl x) :: st, Hh, cn)) : bg_Sim p l e R s m args below meth c Q D cy A E0 M.2.2.1 (pc, L, st, Hh, cn) := by
  intro ad H locs ls h
  exact lv_lload_n hC.1 hC.2.1 hd hi.symm (h.2.2.2.1.2.2 _ _ hx) (hk ad H locs ls (h.stk (bg_vk2 trivial h.vk)))
theorem sm_aload (hC : bg_Cx p s m args meth c D cy A M) {x : Option Nat} {i : Nat} (hd : decode M.2.1 pc = .ok (.aload i, 2)) (hx : bg_nth L i = some (some (.inr (.inr x)))) (hk : bg_Sim p l e R s m args below meth c Q D cy A E0 M.2.2.1 (pc + 2, L, .inr (.inr x) :: st, Hh, cn)) : bg_Sim p l e R s m args below meth c Q D cy A E0 M.2.2.1 (pc, L, st, Hh, cn) := by
  intro ad H locs ls h
  have hl := h.2.2.2.1.2.2 _ _ hx
  have hz := hk ad H locs ls (h.stk (bg_vk2 (h.2.2.2.2.2.2.2.1 _ _ hx) h.vk))
  cases x with
  | none => exact lv_aloadN hC.1 hC.2.1 hd hl hz
  | some k => exact lv_aload hC.1 hC.2.1 hd hl hz
theorem sm_aload_n (hC : bg_Cx p s m args meth c D cy A M) {x : Option Nat} {i : Nat} {k : Fin 4} (hd : decode M.2.1 pc = .ok (.aload_n k, 1)) (hi : i = (k : Nat)) (hx : bg_nth L i = some (some (.inr (.inr x)))) (hk : bg_Sim p l e R s m args below meth c Q D cy A E0 M.2.2.1 (pc + 1, L, .inr (.inr x) :: st, Hh, cn)) : bg_Sim p l e R s m args below meth c Q D cy A E0 M.2.2.1 (pc, L, st, Hh, cn) := by
  intro ad H locs ls h
  have hl := h.2.2.2.1.2.2 _ _ hx
  have hz := hk ad H locs ls (h.stk (bg_vk2 (h.2.2.2.2.2.2.2.1 _ _ hx) h.vk))
  cases x with
  | none => exact lv_aload_nN hC.1 hC.2.1 hd hi.symm hl hz
  | some k => exact lv_aload_n hC.1 hC.2.1 hd hi.symm hl hz
theorem sm_istore (hC : bg_Cx p s m args meth c D cy A M) {x : Int} {i : Nat} (hd : decode M.2.1 pc = .ok (.istore i, 2)) (hi : i < M.2.2.1) (hk : bg_Sim p l e R s m args below meth c Q D cy A E0 M.2.2.1 (pc + 2, bg_sto L i (.inl x), r, Hh, cn)) : bg_Sim p l e R s m args below meth c Q D cy A E0 M.2.2.1 (pc, L, .inl x :: r, Hh, cn) := by
  intro ad H locs ls h
  exact lv_istore hC.1 hC.2.1 hd (bg_rl_has h.2.2.2.1) hi rfl (fun ls2 hl2 => hk ad H locs ls2 (h.sto hl2))
theorem sm_istore_n (hC : bg_Cx p s m args meth c D cy A M) {x : Int} {i : Nat} {k : Fin 4} (hd : decode M.2.1 pc = .ok (.istore_n k, 1)) (hk2 : i = (k : Nat)) (hi : i < M.2.2.1) (hk : bg_Sim p l e R s m args below meth c Q D cy A E0 M.2.2.1 (pc + 1, bg_sto L i (.inl x), r, Hh, cn)) : bg_Sim p l e R s m args below meth c Q D cy A E0 M.2.2.1 (pc, L, .inl x :: r, Hh, cn) := by
  intro ad H locs ls h
  exact lv_istore_n hC.1 hC.2.1 hd hk2.symm (bg_rl_has h.2.2.2.1) hi rfl (fun ls2 hl2 => hk ad H locs ls2 (h.sto hl2))
theorem sm_lstore (hC : bg_Cx p s m args meth c D cy A M) {x : Int} {i : Nat} (hd : decode M.2.1 pc = .ok (.lstore i, 2)) (hi : i + 1 < M.2.2.1) (hk : bg_Sim p l e R s m args below meth c Q D cy A E0 M.2.2.1 (pc + 2, bg_sto2 L i (.inr (.inl x)), r, Hh, cn)) : bg_Sim p l e R s m args below meth c Q D cy A E0 M.2.2.1 (pc, L, .inr (.inl x) :: r, Hh, cn) := by
  intro ad H locs ls h
  exact lv_lstore hC.1 hC.2.1 hd (bg_rl_has h.2.2.2.1) hi rfl (fun ls2 hl2 => hk ad H locs ls2 (h.sto2 hl2))
theorem sm_lstore_n (hC : bg_Cx p s m args meth c D cy A M) {x : Int} {i : Nat} {k : Fin 4} (hd : decode M.2.1 pc = .ok (.lstore_n k, 1)) (hk2 : i = (k : Nat)) (hi : i + 1 < M.2.2.1) (hk : bg_Sim p l e R s m args below meth c Q D cy A E0 M.2.2.1 (pc + 1, bg_sto2 L i (.inr (.inl x)), r, Hh, cn)) : bg_Sim p l e R s m args below meth c Q D cy A E0 M.2.2.1 (pc, L, .inr (.inl x) :: r, Hh, cn) := by
  intro ad H locs ls h
  exact lv_lstore_n hC.1 hC.2.1 hd hk2.symm (bg_rl_has h.2.2.2.1) hi rfl (fun ls2 hl2 => hk ad H locs ls2 (h.sto2 hl2))
theorem sm_astore_n (hC : bg_Cx p s m args meth c D cy A M) {x : Nat} {i : Nat} {k : Fin 4} (hd : decode M.2.1 pc = .ok (.astore_n k, 1)) (hk2 : i = (k : Nat)) (hi : i < M.2.2.1) (hk : bg_Sim p l e R s m args below meth c Q D cy A E0 M.2.2.1 (pc + 1, bg_sto L i (.inr (.inr (some x))), r, Hh, cn)) : bg_Sim p l e R s m args below meth c Q D cy A E0 M.2.2.1 (pc, L, .inr (.inr (some x)) :: r, Hh, cn) := by
  intro ad H locs ls h
  exact lv_astore_n hC.1 hC.2.1 hd hk2.symm (bg_rl_has h.2.2.2.1) hi rfl (fun ls2 hl2 => hk ad H locs ls2 (h.sto hl2))
theorem sm_iinc (hC : bg_Cx p s m args meth c D cy A M) {x d : Int} {i : Nat} (hd : decode M.2.1 pc = .ok (.iinc i d, 3)) (hi : i < M.2.2.1) (hx : bg_nth L i = some (some (.inl x))) (hk : bg_Sim p l e R s m args below meth c Q D cy A E0 M.2.2.1 (pc + 3, bg_sto L i (.inl (x + d)), st, Hh, cn)) : bg_Sim p l e R s m args below meth c Q D cy A E0 M.2.2.1 (pc, L, st, Hh, cn) := by
  intro ad H locs ls h
  obtain ⟨k, hk2⟩ := List.getElem?_of_mem (bg_rl_mem (ad := ad) hx)
  refine lv_iinc (v := Int32.ofInt (x + d)) hC.1 hC.2.1 hd (bg_rl_has h.2.2.2.1) hk2 (Int32.ofInt_add ..).symm hi rfl (fun ls2 hl2 => hk ad H locs ls2 ?_)
  exact bg_Re.sto (x := .inl (x + d)) (h.stk (st2 := .inl (x + d) :: st) (bg_vk2 trivial h.vk)) hl2
theorem sm_iadd (hC : bg_Cx p s m args meth c D cy A M) {x y : Int} (hd : decode M.2.1 pc = .ok (.iadd, 1)) (hk : bg_Sim p l e R s m args below meth c Q D cy A E0 M.2.2.1 (pc + 1, L, .inl (x + y) :: r, Hh, cn)) : bg_Sim p l e R s m args below meth c Q D cy A E0 M.2.2.1 (pc, L, .inl y :: .inl x :: r, Hh, cn) := by
  intro ad H locs ls h
  refine lv_iadd hC.1 hC.2.1 hd ?_
  have hz := hk ad H locs ls (h.stk (bg_vk2 trivial (bg_tl (bg_tl h.vk))))
  simp only [List.map_cons, bg_cv] at hz ⊢
  rw [show Int32.ofInt (x + y) = _ from Int32.ofInt_add ..] at hz
  exact hz
theorem sm_isub (hC : bg_Cx p s m args meth c D cy A M) {x y : Int} (hd : decode M.2.1 pc = .ok (.isub, 1)) (hk : bg_Sim p l e R s m args below meth c Q D cy A E0 M.2.2.1 (pc + 1, L, .inl (x - y) :: r, Hh, cn)) : bg_Sim p l e R s m args below meth c Q D cy A E0 M.2.2.1 (pc, L, .inl y :: .inl x :: r, Hh, cn) := by
  intro ad H locs ls h
  refine lv_isub hC.1 hC.2.1 hd ?_
  have hz := hk ad H locs ls (h.stk (bg_vk2 trivial (bg_tl (bg_tl h.vk))))
  simp only [List.map_cons, bg_cv] at hz ⊢
  rw [show Int32.ofInt (x - y) = _ from Int32.ofInt_sub ..] at hz
  exact hz
theorem sm_imul (hC : bg_Cx p s m args meth c D cy A M) {x y : Int} (hd : decode M.2.1 pc = .ok (.imul, 1)) (hk : bg_Sim p l e R s m args below meth c Q D cy A E0 M.2.2.1 (pc + 1, L, .inl (x * y) :: r, Hh, cn)) : bg_Sim p l e R s m args below meth c Q D cy A E0 M.2.2.1 (pc, L, .inl y :: .inl x :: r, Hh, cn) := by
  intro ad H locs ls h
  refine lv_imul hC.1 hC.2.1 hd ?_
  have hz := hk ad H locs ls (h.stk (bg_vk2 trivial (bg_tl (bg_tl h.vk))))
  simp only [List.map_cons, bg_cv] at hz ⊢
  rw [show Int32.ofInt (x * y) = _ from Int32.ofInt_mul ..] at hz
  exact hz
theorem sm_iand (hC : bg_Cx p s m args meth c D cy A M) {x y : Int} (hd : decode M.2.1 pc = .ok (.iand, 1)) (hk : bg_Sim p l e R s m args below meth c Q D cy A E0 M.2.2.1 (pc + 1, L, .inl (bg_and x y) :: r, Hh, cn)) : bg_Sim p l e R s m args below meth c Q D cy A E0 M.2.2.1 (pc, L, .inl y :: .inl x :: r, Hh, cn) := by
  intro ad H locs ls h
  refine lv_iand hC.1 hC.2.1 hd ?_
  have hz := hk ad H locs ls (h.stk (bg_vk2 trivial (bg_tl (bg_tl h.vk))))
  simp only [List.map_cons, bg_cv] at hz ⊢
  rw [show Int32.ofInt (bg_and x y) = _ from Int32.ofInt_toInt _] at hz
  exact hz
theorem sm_ior (hC : bg_Cx p s m args meth c D cy A M) {x y : Int} (hd : decode M.2.1 pc = .ok (.ior, 1)) (hk : bg_Sim p l e R s m args below meth c Q D cy A E0 M.2.2.1 (pc + 1, L, .inl (bg_or x y) :: r, Hh, cn)) : bg_Sim p l e R s m args below meth c Q D cy A E0 M.2.2.1 (pc, L, .inl y :: .inl x :: r, Hh, cn) := by
  intro ad H locs ls h
  refine lv_ior hC.1 hC.2.1 hd ?_
  have hz := hk ad H locs ls (h.stk (bg_vk2 trivial (bg_tl (bg_tl h.vk))))
  simp only [List.map_cons, bg_cv] at hz ⊢
  rw [show Int32.ofInt (bg_or x y) = _ from Int32.ofInt_toInt _] at hz
  exact hz
theorem sm_ixor (hC : bg_Cx p s m args meth c D cy A M) {x y : Int} (hd : decode M.2.1 pc = .ok (.ixor, 1)) (hk : bg_Sim p l e R s m args below meth c Q D cy A E0 M.2.2.1 (pc + 1, L, .inl (bg_xor x y) :: r, Hh, cn)) : bg_Sim p l e R s m args below meth c Q D cy A E0 M.2.2.1 (pc, L, .inl y :: .inl x :: r, Hh, cn) := by
  intro ad H locs ls h
  refine lv_ixor hC.1 hC.2.1 hd ?_
  have hz := hk ad H locs ls (h.stk (bg_vk2 trivial (bg_tl (bg_tl h.vk))))
  simp only [List.map_cons, bg_cv] at hz ⊢
  rw [show Int32.ofInt (bg_xor x y) = _ from Int32.ofInt_toInt _] at hz
  exact hz
theorem sm_ishl (hC : bg_Cx p s m args meth c D cy A M) {x y : Int} (hd : decode M.2.1 pc = .ok (.ishl, 1)) (hk : bg_Sim p l e R s m args below meth c Q D cy A E0 M.2.2.1 (pc + 1, L, .inl (bg_shl x y) :: r, Hh, cn)) : bg_Sim p l e R s m args below meth c Q D cy A E0 M.2.2.1 (pc, L, .inl y :: .inl x :: r, Hh, cn) := by
  intro ad H locs ls h
  refine lv_ishl hC.1 hC.2.1 hd ?_
  have hz := hk ad H locs ls (h.stk (bg_vk2 trivial (bg_tl (bg_tl h.vk))))
  simp only [List.map_cons, bg_cv] at hz ⊢
  rw [show Int32.ofInt (bg_shl x y) = _ from Int32.ofInt_toInt _] at hz
  exact hz
theorem sm_ishr (hC : bg_Cx p s m args meth c D cy A M) {x y : Int} (hd : decode M.2.1 pc = .ok (.ishr, 1)) (hk : bg_Sim p l e R s m args below meth c Q D cy A E0 M.2.2.1 (pc + 1, L, .inl (bg_shr x y) :: r, Hh, cn)) : bg_Sim p l e R s m args below meth c Q D cy A E0 M.2.2.1 (pc, L, .inl y :: .inl x :: r, Hh, cn) := by
  intro ad H locs ls h
  refine lv_ishr hC.1 hC.2.1 hd ?_
  have hz := hk ad H locs ls (h.stk (bg_vk2 trivial (bg_tl (bg_tl h.vk))))
  simp only [List.map_cons, bg_cv] at hz ⊢
  rw [show Int32.ofInt (bg_shr x y) = _ from Int32.ofInt_toInt _] at hz
  exact hz
theorem sm_idiv (hC : bg_Cx p s m args meth c D cy A M) {x y : Int} (hd : decode M.2.1 pc = .ok (.idiv, 1)) (hy : bg_w y ≠ 0) (hk : bg_Sim p l e R s m args below meth c Q D cy A E0 M.2.2.1 (pc + 1, L, .inl (bg_div x y) :: r, Hh, cn)) : bg_Sim p l e R s m args below meth c Q D cy A E0 M.2.2.1 (pc, L, .inl y :: .inl x :: r, Hh, cn) := by
  intro ad H locs ls h
  refine lv_idiv hC.1 hC.2.1 hd (fun q => hy (by unfold bg_w; rw [q]; rfl)) ?_
  have hz := hk ad H locs ls (h.stk (bg_vk2 trivial (bg_tl (bg_tl h.vk))))
  simp only [List.map_cons, bg_cv] at hz ⊢
  rw [show Int32.ofInt (bg_div x y) = _ from Int32.ofInt_toInt _] at hz
  exact hz
theorem sm_irem (hC : bg_Cx p s m args meth c D cy A M) {x y : Int} (hd : decode M.2.1 pc = .ok (.irem, 1)) (hy : bg_w y ≠ 0) (hk : bg_Sim p l e R s m args below meth c Q D cy A E0 M.2.2.1 (pc + 1, L, .inl (bg_rem x y) :: r, Hh, cn)) : bg_Sim p l e R s m args below meth c Q D cy A E0 M.2.2.1 (pc, L, .inl y :: .inl x :: r, Hh, cn) := by
  intro ad H locs ls h
  refine lv_irem hC.1 hC.2.1 hd (fun q => hy (by unfold bg_w; rw [q]; rfl)) ?_
  have hz := hk ad H locs ls (h.stk (bg_vk2 trivial (bg_tl (bg_tl h.vk))))
  simp only [List.map_cons, bg_cv] at hz ⊢
  rw [show Int32.ofInt (bg_rem x y) = _ from Int32.ofInt_toInt _] at hz
  exact hz
theorem sm_ineg (hC : bg_Cx p s m args meth c D cy A M) {x : Int} (hd : decode M.2.1 pc = .ok (.ineg, 1)) (hk : bg_Sim p l e R s m args below meth c Q D cy A E0 M.2.2.1 (pc + 1, L, .inl (-x) :: r, Hh, cn)) : bg_Sim p l e R s m args below meth c Q D cy A E0 M.2.2.1 (pc, L, .inl x :: r, Hh, cn) := by
  intro ad H locs ls h
  refine lv_ineg hC.1 hC.2.1 hd ?_
  have hz := hk ad H locs ls (h.stk (bg_vk2 trivial (bg_tl h.vk)))
  simp only [List.map_cons, bg_cv] at hz ⊢
  rw [show Int32.ofInt (-x) = _ from Int32.ofInt_neg ..] at hz
  exact hz
theorem sm_iushr (hC : bg_Cx p s m args meth c D cy A M) {x y : Int} (hd : decode M.2.1 pc = .ok (.iushr, 1)) (hk : bg_Sim p l e R s m args below meth c Q D cy A E0 M.2.2.1 (pc + 1, L, .inl (bg_ushr x y) :: r, Hh, cn)) : bg_Sim p l e R s m args below meth c Q D cy A E0 M.2.2.1 (pc, L, .inl y :: .inl x :: r, Hh, cn) := by
  intro ad H locs ls h
  exact lv_iushr hC.1 hC.2.1 hd (Int32.ofInt_toInt _).symm (hk ad H locs ls (h.stk (bg_vk2 trivial (bg_tl (bg_tl h.vk)))))
theorem sm_ladd (hC : bg_Cx p s m args meth c D cy A M) {x y : Int} (hd : decode M.2.1 pc = .ok (.ladd, 1)) (hk : bg_Sim p l e R s m args below meth c Q D cy A E0 M.2.2.1 (pc + 1, L, .inr (.inl (x + y)) :: r, Hh, cn)) : bg_Sim p l e R s m args below meth c Q D cy A E0 M.2.2.1 (pc, L, .inr (.inl y) :: .inr (.inl x) :: r, Hh, cn) := by
  intro ad H locs ls h
  refine lv_ladd hC.1 hC.2.1 hd ?_
  have hz := hk ad H locs ls (h.stk (bg_vk2 trivial (bg_tl (bg_tl h.vk))))
  simp only [List.map_cons, bg_cv] at hz ⊢
  rw [show Int64.ofInt (x + y) = _ from Int64.ofInt_add ..] at hz
  exact hz
theorem sm_lsub (hC : bg_Cx p s m args meth c D cy A M) {x y : Int} (hd : decode M.2.1 pc = .ok (.lsub, 1)) (hk : bg_Sim p l e R s m args below meth c Q D cy A E0 M.2.2.1 (pc + 1, L, .inr (.inl (x - y)) :: r, Hh, cn)) : bg_Sim p l e R s m args below meth c Q D cy A E0 M.2.2.1 (pc, L, .inr (.inl y) :: .inr (.inl x) :: r, Hh, cn) := by
  intro ad H locs ls h
  refine lv_lsub hC.1 hC.2.1 hd ?_
  have hz := hk ad H locs ls (h.stk (bg_vk2 trivial (bg_tl (bg_tl h.vk))))
  simp only [List.map_cons, bg_cv] at hz ⊢
  rw [show Int64.ofInt (x - y) = _ from Int64.ofInt_sub ..] at hz
  exact hz
theorem sm_lmul (hC : bg_Cx p s m args meth c D cy A M) {x y : Int} (hd : decode M.2.1 pc = .ok (.lmul, 1)) (hk : bg_Sim p l e R s m args below meth c Q D cy A E0 M.2.2.1 (pc + 1, L, .inr (.inl (x * y)) :: r, Hh, cn)) : bg_Sim p l e R s m args below meth c Q D cy A E0 M.2.2.1 (pc, L, .inr (.inl y) :: .inr (.inl x) :: r, Hh, cn) := by
  intro ad H locs ls h
  refine lv_lmul hC.1 hC.2.1 hd ?_
  have hz := hk ad H locs ls (h.stk (bg_vk2 trivial (bg_tl (bg_tl h.vk))))
  simp only [List.map_cons, bg_cv] at hz ⊢
  rw [show Int64.ofInt (x * y) = _ from Int64.ofInt_mul ..] at hz
  exact hz
theorem sm_land (hC : bg_Cx p s m args meth c D cy A M) {x y : Int} (hd : decode M.2.1 pc = .ok (.land, 1)) (hk : bg_Sim p l e R s m args below meth c Q D cy A E0 M.2.2.1 (pc + 1, L, .inr (.inl (bg_And x y)) :: r, Hh, cn)) : bg_Sim p l e R s m args below meth c Q D cy A E0 M.2.2.1 (pc, L, .inr (.inl y) :: .inr (.inl x) :: r, Hh, cn) := by
  intro ad H locs ls h
  refine lv_land hC.1 hC.2.1 hd ?_
  have hz := hk ad H locs ls (h.stk (bg_vk2 trivial (bg_tl (bg_tl h.vk))))
  simp only [List.map_cons, bg_cv] at hz ⊢
  rw [show Int64.ofInt (bg_And x y) = _ from Int64.ofInt_toInt _] at hz
  exact hz
theorem sm_lor (hC : bg_Cx p s m args meth c D cy A M) {x y : Int} (hd : decode M.2.1 pc = .ok (.lor, 1)) (hk : bg_Sim p l e R s m args below meth c Q D cy A E0 M.2.2.1 (pc + 1, L, .inr (.inl (bg_Or x y)) :: r, Hh, cn)) : bg_Sim p l e R s m args below meth c Q D cy A E0 M.2.2.1 (pc, L, .inr (.inl y) :: .inr (.inl x) :: r, Hh, cn) := by
  intro ad H locs ls h
  refine lv_lor hC.1 hC.2.1 hd ?_
  have hz := hk ad H locs ls (h.stk (bg_vk2 trivial (bg_tl (bg_tl h.vk))))
  simp only [List.map_cons, bg_cv] at hz ⊢
  rw [show Int64.ofInt (bg_Or x y) = _ from Int64.ofInt_toInt _] at hz
  exact hz
theorem sm_ldiv (hC : bg_Cx p s m args meth c D cy A M) {x y : Int} (hd : decode M.2.1 pc = .ok (.ldiv, 1)) (hy : bg_W y ≠ 0) (hk : bg_Sim p l e R s m args below meth c Q D cy A E0 M.2.2.1 (pc + 1, L, .inr (.inl (bg_Div x y)) :: r, Hh, cn)) : bg_Sim p l e R s m args below meth c Q D cy A E0 M.2.2.1 (pc, L, .inr (.inl y) :: .inr (.inl x) :: r, Hh, cn) := by
  intro ad H locs ls h
  refine lv_ldiv hC.1 hC.2.1 hd (fun q => hy (by unfold bg_W; rw [q]; rfl)) ?_
  have hz := hk ad H locs ls (h.stk (bg_vk2 trivial (bg_tl (bg_tl h.vk))))
  simp only [List.map_cons, bg_cv] at hz ⊢
  rw [show Int64.ofInt (bg_Div x y) = _ from Int64.ofInt_toInt _] at hz
  exact hz
theorem sm_lrem (hC : bg_Cx p s m args meth c D cy A M) {x y : Int} (hd : decode M.2.1 pc = .ok (.lrem, 1)) (hy : bg_W y ≠ 0) (hk : bg_Sim p l e R s m args below meth c Q D cy A E0 M.2.2.1 (pc + 1, L, .inr (.inl (bg_Rem x y)) :: r, Hh, cn)) : bg_Sim p l e R s m args below meth c Q D cy A E0 M.2.2.1 (pc, L, .inr (.inl y) :: .inr (.inl x) :: r, Hh, cn) := by
  intro ad H locs ls h
  refine lv_lrem hC.1 hC.2.1 hd (fun q => hy (by unfold bg_W; rw [q]; rfl)) ?_
  have hz := hk ad H locs ls (h.stk (bg_vk2 trivial (bg_tl (bg_tl h.vk))))
  simp only [List.map_cons, bg_cv] at hz ⊢
  rw [show Int64.ofInt (bg_Rem x y) = _ from Int64.ofInt_toInt _] at hz
  exact hz
theorem sm_lneg (hC : bg_Cx p s m args meth c D cy A M) {x : Int} (hd : decode M.2.1 pc = .ok (.lneg, 1)) (hk : bg_Sim p l e R s m args below meth c Q D cy A E0 M.2.2.1 (pc + 1, L, .inr (.inl (-x)) :: r, Hh, cn)) : bg_Sim p l e R s m args below meth c Q D cy A E0 M.2.2.1 (pc, L, .inr (.inl x) :: r, Hh, cn) := by
  intro ad H locs ls h
  refine lv_lneg hC.1 hC.2.1 hd ?_
  have hz := hk ad H locs ls (h.stk (bg_vk2 trivial (bg_tl h.vk)))
  simp only [List.map_cons, bg_cv] at hz ⊢
  rw [show Int64.ofInt (-x) = _ from Int64.ofInt_neg ..] at hz
  exact hz
theorem sm_lshl (hC : bg_Cx p s m args meth c D cy A M) {x y : Int} (hd : decode M.2.1 pc = .ok (.lshl, 1)) (hk : bg_Sim p l e R s m args below meth c Q D cy A E0 M.2.2.1 (pc + 1, L, .inr (.inl (bg_Shl x y)) :: r, Hh, cn)) : bg_Sim p l e R s m args below meth c Q D cy A E0 M.2.2.1 (pc, L, .inl y :: .inr (.inl x) :: r, Hh, cn) := by
  intro ad H locs ls h
  exact lv_lshl hC.1 hC.2.1 hd (Int64.ofInt_toInt _).symm (hk ad H locs ls (h.stk (bg_vk2 trivial (bg_tl (bg_tl h.vk)))))
theorem sm_lshr (hC : bg_Cx p s m args meth c D cy A M) {x y : Int} (hd : decode M.2.1 pc = .ok (.lshr, 1)) (hk : bg_Sim p l e R s m args below meth c Q D cy A E0 M.2.2.1 (pc + 1, L, .inr (.inl (bg_Shr x y)) :: r, Hh, cn)) : bg_Sim p l e R s m args below meth c Q D cy A E0 M.2.2.1 (pc, L, .inl y :: .inr (.inl x) :: r, Hh, cn) := by
  intro ad H locs ls h
  exact lv_lshr hC.1 hC.2.1 hd (Int64.ofInt_toInt _).symm (hk ad H locs ls (h.stk (bg_vk2 trivial (bg_tl (bg_tl h.vk)))))
theorem sm_lushr (hC : bg_Cx p s m args meth c D cy A M) {x y : Int} (hd : decode M.2.1 pc = .ok (.lushr, 1)) (hk : bg_Sim p l e R s m args below meth c Q D cy A E0 M.2.2.1 (pc + 1, L, .inr (.inl (bg_Ushr x y)) :: r, Hh, cn)) : bg_Sim p l e R s m args below meth c Q D cy A E0 M.2.2.1 (pc, L, .inl y :: .inr (.inl x) :: r, Hh, cn) := by
  intro ad H locs ls h
  exact lv_lushr hC.1 hC.2.1 hd (Int64.ofInt_toInt _).symm (hk ad H locs ls (h.stk (bg_vk2 trivial (bg_tl (bg_tl h.vk)))))
theorem bg_cmp_eq (x y : Int) : Int32.ofInt (bg_Cmp x y) = lg_cmp (Int64.ofInt x) (Int64.ofInt y) := by
  unfold bg_Cmp lg_cmp bg_W
  simp only [gt_iff_lt, Int64.lt_iff_toInt_lt, ← Int64.toInt_inj]
  split
  · rfl
  · split <;> rfl
theorem sm_lcmp (hC : bg_Cx p s m args meth c D cy A M) {x y : Int} (hd : decode M.2.1 pc = .ok (.lcmp, 1)) (hk : bg_Sim p l e R s m args below meth c Q D cy A E0 M.2.2.1 (pc + 1, L, .inl (bg_Cmp x y) :: r, Hh, cn)) : bg_Sim p l e R s m args below meth c Q D cy A E0 M.2.2.1 (pc, L, .inr (.inl y) :: .inr (.inl x) :: r, Hh, cn) := by
  intro ad H locs ls h
  refine W.lcmp hC.1 hC.2.1 hd ?_
  have hz := hk ad H locs ls (h.stk (bg_vk2 trivial (bg_tl (bg_tl h.vk))))
  simp only [List.map_cons, bg_cv] at hz ⊢
  rw [bg_cmp_eq] at hz
  exact hz
theorem bg_w_lo (x : Int) : -2147483648 ≤ bg_w x := by have := Int32.le_toInt (Int32.ofInt x); unfold bg_w; simpa using this
theorem bg_w_hi (x : Int) : bg_w x ≤ 2147483647 := by have := Int32.toInt_lt (Int32.ofInt x); unfold bg_w; have h2 : (2:Int) ^ 31 = 2147483648 := by decide
                                                      omega
theorem bg_i2l_val (x : Int) : (Int64.ofInt (bg_w x)).toInt = (Int32.ofInt x).toInt := by
  have h1 := bg_w_lo x
  have h2 := bg_w_hi x
  rw [Int64.toInt_ofInt, Int.bmod_eq_of_le (by simp; omega) (by simp; omega)]
  rfl
theorem sm_i2l (hC : bg_Cx p s m args meth c D cy A M) {x : Int} (hd : decode M.2.1 pc = .ok (.i2l, 1)) (hk : bg_Sim p l e R s m args below meth c Q D cy A E0 M.2.2.1 (pc + 1, L, .inr (.inl (bg_w x)) :: r, Hh, cn)) : bg_Sim p l e R s m args below meth c Q D cy A E0 M.2.2.1 (pc, L, .inl x :: r, Hh, cn) := by
  intro ad H locs ls h
  exact lv_i2l hC.1 hC.2.1 hd (by rw [← Int64.toInt_inj, Int32.toInt_toInt64]; exact (bg_i2l_val x).symm) (hk ad H locs ls (h.stk (bg_vk2 trivial (bg_tl h.vk))))
theorem sm_l2i (hC : bg_Cx p s m args meth c D cy A M) {x : Int} (hd : decode M.2.1 pc = .ok (.l2i, 1)) (hk : bg_Sim p l e R s m args below meth c Q D cy A E0 M.2.2.1 (pc + 1, L, .inl x :: r, Hh, cn)) : bg_Sim p l e R s m args below meth c Q D cy A E0 M.2.2.1 (pc, L, .inr (.inl x) :: r, Hh, cn) := by
  intro ad H locs ls h
  exact lv_l2i hC.1 hC.2.1 hd (by simp) (hk ad H locs ls (h.stk (bg_vk2 trivial (bg_tl h.vk))))
theorem sm_dup_i (hC : bg_Cx p s m args meth c D cy A M) {x : Int} (hd : decode M.2.1 pc = .ok (.dup, 1)) (hk : bg_Sim p l e R s m args below meth c Q D cy A E0 M.2.2.1 (pc + 1, L, .inl x :: .inl x :: r, Hh, cn)) : bg_Sim p l e R s m args below meth c Q D cy A E0 M.2.2.1 (pc, L, .inl x :: r, Hh, cn) := by
  intro ad H locs ls h
  exact lv_dup hC.1 hC.2.1 hd rfl (hk ad H locs ls (h.stk (bg_vk2 trivial h.vk)))
theorem sm_dup_r (hC : bg_Cx p s m args meth c D cy A M) {x : Option Nat} (hd : decode M.2.1 pc = .ok (.dup, 1)) (hk : bg_Sim p l e R s m args below meth c Q D cy A E0 M.2.2.1 (pc + 1, L, .inr (.inr x) :: .inr (.inr x) :: r, Hh, cn)) : bg_Sim p l e R s m args below meth c Q D cy A E0 M.2.2.1 (pc, L, .inr (.inr x) :: r, Hh, cn) := by
  intro ad H locs ls h
  exact lv_dup hC.1 hC.2.1 hd (by cases x <;> rfl) (hk ad H locs ls (h.stk (bg_vk2 (h.vk _ List.mem_cons_self) h.vk)))
theorem sm_dup2_ir (hC : bg_Cx p s m args meth c D cy A M) {i : Int} {x : Option Nat} (hd : decode M.2.1 pc = .ok (.dup2, 1)) (hk : bg_Sim p l e R s m args below meth c Q D cy A E0 M.2.2.1 (pc + 1, L, .inl i :: .inr (.inr x) :: .inl i :: .inr (.inr x) :: r, Hh, cn)) : bg_Sim p l e R s m args below meth c Q D cy A E0 M.2.2.1 (pc, L, .inl i :: .inr (.inr x) :: r, Hh, cn) := by
  intro ad H locs ls h
  refine lv_dup2_11 hC.1 hC.2.1 hd rfl (by cases x <;> rfl) (hk ad H locs ls (h.stk (fun v hv => ?_)))
  rcases List.mem_cons.mp hv with rfl | hv
  · trivial
  · rcases List.mem_cons.mp hv with rfl | hv
    · exact h.vk _ (List.mem_cons_of_mem _ List.mem_cons_self)
    · exact h.vk v hv
theorem sm_dup2_l (hC : bg_Cx p s m args meth c D cy A M) {x : Int} (hd : decode M.2.1 pc = .ok (.dup2, 1)) (hk : bg_Sim p l e R s m args below meth c Q D cy A E0 M.2.2.1 (pc + 1, L, .inr (.inl x) :: .inr (.inl x) :: r, Hh, cn)) : bg_Sim p l e R s m args below meth c Q D cy A E0 M.2.2.1 (pc, L, .inr (.inl x) :: r, Hh, cn) := by
  intro ad H locs ls h
  exact lv_dup2_2 hC.1 hC.2.1 hd rfl (hk ad H locs ls (h.stk (bg_vk2 trivial h.vk)))
theorem sm_goto (hC : bg_Cx p s m args meth c D cy A M) {a : Nat} {off : Int} (hd : decode M.2.1 pc = .ok (.goto off, 3)) (ha : (pc : Int) + off = a) (hk : bg_Sim p l e R s m args below meth c Q D cy A E0 M.2.2.1 (a, L, st, Hh, cn)) : bg_Sim p l e R s m args below meth c Q D cy A E0 M.2.2.1 (pc, L, st, Hh, cn) := by
  intro ad H locs ls h
  exact lv_goto hC.1 hC.2.1 hd ha (hk ad H locs ls h)
theorem sm_if_eq (hC : bg_Cx p s m args meth c D cy A M) {x off : Int} {a : Nat} (hd : decode M.2.1 pc = .ok (.ifCond .eq off, 3)) (ha : (pc : Int) + off = a) (ht : bg_w x = 0 → bg_Sim p l e R s m args below meth c Q D cy A E0 M.2.2.1 (a, L, r, Hh, cn)) (hf : ¬ bg_w x = 0 → bg_Sim p l e R s m args below meth c Q D cy A E0 M.2.2.1 (pc + 3, L, r, Hh, cn)) : bg_Sim p l e R s m args below meth c Q D cy A E0 M.2.2.1 (pc, L, .inl x :: r, Hh, cn) := by
  intro ad H locs ls h
  refine lv_if_eq hC.1 hC.2.1 hd ha (fun q => ht ?_ ad H locs ls (h.stk (fun v hv => h.vk v (List.mem_cons_of_mem _ (hv))))) (fun q => hf ?_ ad H locs ls (h.stk (fun v hv => h.vk v (List.mem_cons_of_mem _ (hv))))) <;> (unfold bg_w; simp only [Int32.lt_iff_toInt_lt, Int32.le_iff_toInt_le, ← Int32.toInt_inj, Int32.toInt_zero, ne_eq, Int.not_lt, Int.not_le, not_false_eq_true, Classical.not_not] at q ⊢; first | exact q | omega)
theorem sm_icmp_eq (hC : bg_Cx p s m args meth c D cy A M) {x y off : Int} {a : Nat} (hd : decode M.2.1 pc = .ok (.if_icmp .eq off, 3)) (ha : (pc : Int) + off = a) (ht : bg_w x = bg_w y → bg_Sim p l e R s m args below meth c Q D cy A E0 M.2.2.1 (a, L, r, Hh, cn)) (hf : ¬ bg_w x = bg_w y → bg_Sim p l e R s m args below meth c Q D cy A E0 M.2.2.1 (pc + 3, L, r, Hh, cn)) : bg_Sim p l e R s m args below meth c Q D cy A E0 M.2.2.1 (pc, L, .inl y :: .inl x :: r, Hh, cn) := by
  intro ad H locs ls h
  refine lv_icmp_eq hC.1 hC.2.1 hd ha (fun q => ht ?_ ad H locs ls (h.stk (fun v hv => h.vk v (List.mem_cons_of_mem _ (List.mem_cons_of_mem _ (hv)))))) (fun q => hf ?_ ad H locs ls (h.stk (fun v hv => h.vk v (List.mem_cons_of_mem _ (List.mem_cons_of_mem _ (hv)))))) <;> (unfold bg_w; simp only [Int32.lt_iff_toInt_lt, Int32.le_iff_toInt_le, ← Int32.toInt_inj, Int32.toInt_zero, ne_eq, Int.not_lt, Int.not_le, not_false_eq_true, Classical.not_not] at q ⊢; first | exact q | omega)
theorem sm_if_ne (hC : bg_Cx p s m args meth c D cy A M) {x off : Int} {a : Nat} (hd : decode M.2.1 pc = .ok (.ifCond .ne off, 3)) (ha : (pc : Int) + off = a) (ht : ¬ bg_w x = 0 → bg_Sim p l e R s m args below meth c Q D cy A E0 M.2.2.1 (a, L, r, Hh, cn)) (hf : bg_w x = 0 → bg_Sim p l e R s m args below meth c Q D cy A E0 M.2.2.1 (pc + 3, L, r, Hh, cn)) : bg_Sim p l e R s m args below meth c Q D cy A E0 M.2.2.1 (pc, L, .inl x :: r, Hh, cn) := by
  intro ad H locs ls h
  refine lv_if_ne hC.1 hC.2.1 hd ha (fun q => ht ?_ ad H locs ls (h.stk (fun v hv => h.vk v (List.mem_cons_of_mem _ (hv))))) (fun q => hf ?_ ad H locs ls (h.stk (fun v hv => h.vk v (List.mem_cons_of_mem _ (hv))))) <;> (unfold bg_w; simp only [Int32.lt_iff_toInt_lt, Int32.le_iff_toInt_le, ← Int32.toInt_inj, Int32.toInt_zero, ne_eq, Int.not_lt, Int.not_le, not_false_eq_true, Classical.not_not] at q ⊢; first | exact q | omega)
theorem sm_icmp_ne (hC : bg_Cx p s m args meth c D cy A M) {x y off : Int} {a : Nat} (hd : decode M.2.1 pc = .ok (.if_icmp .ne off, 3)) (ha : (pc : Int) + off = a) (ht : ¬ bg_w x = bg_w y → bg_Sim p l e R s m args below meth c Q D cy A E0 M.2.2.1 (a, L, r, Hh, cn)) (hf : bg_w x = bg_w y → bg_Sim p l e R s m args below meth c Q D cy A E0 M.2.2.1 (pc + 3, L, r, Hh, cn)) : bg_Sim p l e R s m args below meth c Q D cy A E0 M.2.2.1 (pc, L, .inl y :: .inl x :: r, Hh, cn) := by
  intro ad H locs ls h
  refine lv_icmp_ne hC.1 hC.2.1 hd ha (fun q => ht ?_ ad H locs ls (h.stk (fun v hv => h.vk v (List.mem_cons_of_mem _ (List.mem_cons_of_mem _ (hv)))))) (fun q => hf ?_ ad H locs ls (h.stk (fun v hv => h.vk v (List.mem_cons_of_mem _ (List.mem_cons_of_mem _ (hv)))))) <;> (unfold bg_w; simp only [Int32.lt_iff_toInt_lt, Int32.le_iff_toInt_le, ← Int32.toInt_inj, Int32.toInt_zero, ne_eq, Int.not_lt, Int.not_le, not_false_eq_true, Classical.not_not] at q ⊢; first | exact q | omega)
theorem sm_if_lt (hC : bg_Cx p s m args meth c D cy A M) {x off : Int} {a : Nat} (hd : decode M.2.1 pc = .ok (.ifCond .lt off, 3)) (ha : (pc : Int) + off = a) (ht : bg_w x < 0 → bg_Sim p l e R s m args below meth c Q D cy A E0 M.2.2.1 (a, L, r, Hh, cn)) (hf : ¬ bg_w x < 0 → bg_Sim p l e R s m args below meth c Q D cy A E0 M.2.2.1 (pc + 3, L, r, Hh, cn)) : bg_Sim p l e R s m args below meth c Q D cy A E0 M.2.2.1 (pc, L, .inl x :: r, Hh, cn) := by
  intro ad H locs ls h
  refine lv_if_lt hC.1 hC.2.1 hd ha (fun q => ht ?_ ad H locs ls (h.stk (fun v hv => h.vk v (List.mem_cons_of_mem _ (hv))))) (fun q => hf ?_ ad H locs ls (h.stk (fun v hv => h.vk v (List.mem_cons_of_mem _ (hv))))) <;> (unfold bg_w; simp only [Int32.lt_iff_toInt_lt, Int32.le_iff_toInt_le, ← Int32.toInt_inj, Int32.toInt_zero, ne_eq, Int.not_lt, Int.not_le, not_false_eq_true, Classical.not_not] at q ⊢; first | exact q | omega)
theorem sm_icmp_lt (hC : bg_Cx p s m args meth c D cy A M) {x y off : Int} {a : Nat} (hd : decode M.2.1 pc = .ok (.if_icmp .lt off, 3)) (ha : (pc : Int) + off = a) (ht : bg_w x < bg_w y → bg_Sim p l e R s m args below meth c Q D cy A E0 M.2.2.1 (a, L, r, Hh, cn)) (hf : ¬ bg_w x < bg_w y → bg_Sim p l e R s m args below meth c Q D cy A E0 M.2.2.1 (pc + 3, L, r, Hh, cn)) : bg_Sim p l e R s m args below meth c Q D cy A E0 M.2.2.1 (pc, L, .inl y :: .inl x :: r, Hh, cn) := by
  intro ad H locs ls h
  refine lv_icmp_lt hC.1 hC.2.1 hd ha (fun q => ht ?_ ad H locs ls (h.stk (fun v hv => h.vk v (List.mem_cons_of_mem _ (List.mem_cons_of_mem _ (hv)))))) (fun q => hf ?_ ad H locs ls (h.stk (fun v hv => h.vk v (List.mem_cons_of_mem _ (List.mem_cons_of_mem _ (hv)))))) <;> (unfold bg_w; simp only [Int32.lt_iff_toInt_lt, Int32.le_iff_toInt_le, ← Int32.toInt_inj, Int32.toInt_zero, ne_eq, Int.not_lt, Int.not_le, not_false_eq_true, Classical.not_not] at q ⊢; first | exact q | omega)
theorem sm_if_ge (hC : bg_Cx p s m args meth c D cy A M) {x off : Int} {a : Nat} (hd : decode M.2.1 pc = .ok (.ifCond .ge off, 3)) (ha : (pc : Int) + off = a) (ht : ¬ bg_w x < 0 → bg_Sim p l e R s m args below meth c Q D cy A E0 M.2.2.1 (a, L, r, Hh, cn)) (hf : bg_w x < 0 → bg_Sim p l e R s m args below meth c Q D cy A E0 M.2.2.1 (pc + 3, L, r, Hh, cn)) : bg_Sim p l e R s m args below meth c Q D cy A E0 M.2.2.1 (pc, L, .inl x :: r, Hh, cn) := by
  intro ad H locs ls h
  refine lv_if_ge hC.1 hC.2.1 hd ha (fun q => ht ?_ ad H locs ls (h.stk (fun v hv => h.vk v (List.mem_cons_of_mem _ (hv))))) (fun q => hf ?_ ad H locs ls (h.stk (fun v hv => h.vk v (List.mem_cons_of_mem _ (hv))))) <;> (unfold bg_w; simp only [Int32.lt_iff_toInt_lt, Int32.le_iff_toInt_le, ← Int32.toInt_inj, Int32.toInt_zero, ne_eq, Int.not_lt, Int.not_le, not_false_eq_true, Classical.not_not] at q ⊢; first | exact q | omega)
theorem sm_icmp_ge (hC : bg_Cx p s m args meth c D cy A M) {x y off : Int} {a : Nat} (hd : decode M.2.1 pc = .ok (.if_icmp .ge off, 3)) (ha : (pc : Int) + off = a) (ht : ¬ bg_w x < bg_w y → bg_Sim p l e R s m args below meth c Q D cy A E0 M.2.2.1 (a, L, r, Hh, cn)) (hf : bg_w x < bg_w y → bg_Sim p l e R s m args below meth c Q D cy A E0 M.2.2.1 (pc + 3, L, r, Hh, cn)) : bg_Sim p l e R s m args below meth c Q D cy A E0 M.2.2.1 (pc, L, .inl y :: .inl x :: r, Hh, cn) := by
  intro ad H locs ls h
  refine lv_icmp_ge hC.1 hC.2.1 hd ha (fun q => ht ?_ ad H locs ls (h.stk (fun v hv => h.vk v (List.mem_cons_of_mem _ (List.mem_cons_of_mem _ (hv)))))) (fun q => hf ?_ ad H locs ls (h.stk (fun v hv => h.vk v (List.mem_cons_of_mem _ (List.mem_cons_of_mem _ (hv)))))) <;> (unfold bg_w; simp only [Int32.lt_iff_toInt_lt, Int32.le_iff_toInt_le, ← Int32.toInt_inj, Int32.toInt_zero, ne_eq, Int.not_lt, Int.not_le, not_false_eq_true, Classical.not_not] at q ⊢; first | exact q | omega)
theorem sm_if_gt (hC : bg_Cx p s m args meth c D cy A M) {x off : Int} {a : Nat} (hd : decode M.2.1 pc = .ok (.ifCond .gt off, 3)) (ha : (pc : Int) + off = a) (ht : 0 < bg_w x → bg_Sim p l e R s m args below meth c Q D cy A E0 M.2.2.1 (a, L, r, Hh, cn)) (hf : ¬ 0 < bg_w x → bg_Sim p l e R s m args below meth c Q D cy A E0 M.2.2.1 (pc + 3, L, r, Hh, cn)) : bg_Sim p l e R s m args below meth c Q D cy A E0 M.2.2.1 (pc, L, .inl x :: r, Hh, cn) := by
  intro ad H locs ls h
  refine lv_if_gt hC.1 hC.2.1 hd ha (fun q => ht ?_ ad H locs ls (h.stk (fun v hv => h.vk v (List.mem_cons_of_mem _ (hv))))) (fun q => hf ?_ ad H locs ls (h.stk (fun v hv => h.vk v (List.mem_cons_of_mem _ (hv))))) <;> (unfold bg_w; simp only [Int32.lt_iff_toInt_lt, Int32.le_iff_toInt_le, ← Int32.toInt_inj, Int32.toInt_zero, ne_eq, Int.not_lt, Int.not_le, not_false_eq_true, Classical.not_not] at q ⊢; first | exact q | omega)
theorem sm_icmp_gt (hC : bg_Cx p s m args meth c D cy A M) {x y off : Int} {a : Nat} (hd : decode M.2.1 pc = .ok (.if_icmp .gt off, 3)) (ha : (pc : Int) + off = a) (ht : bg_w y < bg_w x → bg_Sim p l e R s m args below meth c Q D cy A E0 M.2.2.1 (a, L, r, Hh, cn)) (hf : ¬ bg_w y < bg_w x → bg_Sim p l e R s m args below meth c Q D cy A E0 M.2.2.1 (pc + 3, L, r, Hh, cn)) : bg_Sim p l e R s m args below meth c Q D cy A E0 M.2.2.1 (pc, L, .inl y :: .inl x :: r, Hh, cn) := by
  intro ad H locs ls h
  refine lv_icmp_gt hC.1 hC.2.1 hd ha (fun q => ht ?_ ad H locs ls (h.stk (fun v hv => h.vk v (List.mem_cons_of_mem _ (List.mem_cons_of_mem _ (hv)))))) (fun q => hf ?_ ad H locs ls (h.stk (fun v hv => h.vk v (List.mem_cons_of_mem _ (List.mem_cons_of_mem _ (hv)))))) <;> (unfold bg_w; simp only [Int32.lt_iff_toInt_lt, Int32.le_iff_toInt_le, ← Int32.toInt_inj, Int32.toInt_zero, ne_eq, Int.not_lt, Int.not_le, not_false_eq_true, Classical.not_not] at q ⊢; first | exact q | omega)
theorem sm_if_le (hC : bg_Cx p s m args meth c D cy A M) {x off : Int} {a : Nat} (hd : decode M.2.1 pc = .ok (.ifCond .le off, 3)) (ha : (pc : Int) + off = a) (ht : ¬ 0 < bg_w x → bg_Sim p l e R s m args below meth c Q D cy A E0 M.2.2.1 (a, L, r, Hh, cn)) (hf : 0 < bg_w x → bg_Sim p l e R s m args below meth c Q D cy A E0 M.2.2.1 (pc + 3, L, r, Hh, cn)) : bg_Sim p l e R s m args below meth c Q D cy A E0 M.2.2.1 (pc, L, .inl x :: r, Hh, cn) := by
  intro ad H locs ls h
  refine lv_if_le hC.1 hC.2.1 hd ha (fun q => ht ?_ ad H locs ls (h.stk (fun v hv => h.vk v (List.mem_cons_of_mem _ (hv))))) (fun q => hf ?_ ad H locs ls (h.stk (fun v hv => h.vk v (List.mem_cons_of_mem _ (hv))))) <;> (unfold bg_w; simp only [Int32.lt_iff_toInt_lt, Int32.le_iff_toInt_le, ← Int32.toInt_inj, Int32.toInt_zero, ne_eq, Int.not_lt, Int.not_le, not_false_eq_true, Classical.not_not] at q ⊢; first | exact q | omega)
theorem sm_icmp_le (hC : bg_Cx p s m args meth c D cy A M) {x y off : Int} {a : Nat} (hd : decode M.2.1 pc = .ok (.if_icmp .le off, 3)) (ha : (pc : Int) + off = a) (ht : ¬ bg_w y < bg_w x → bg_Sim p l e R s m args below meth c Q D cy A E0 M.2.2.1 (a, L, r, Hh, cn)) (hf : bg_w y < bg_w x → bg_Sim p l e R s m args below meth c Q D cy A E0 M.2.2.1 (pc + 3, L, r, Hh, cn)) : bg_Sim p l e R s m args below meth c Q D cy A E0 M.2.2.1 (pc, L, .inl y :: .inl x :: r, Hh, cn) := by
  intro ad H locs ls h
  refine lv_icmp_le hC.1 hC.2.1 hd ha (fun q => ht ?_ ad H locs ls (h.stk (fun v hv => h.vk v (List.mem_cons_of_mem _ (List.mem_cons_of_mem _ (hv)))))) (fun q => hf ?_ ad H locs ls (h.stk (fun v hv => h.vk v (List.mem_cons_of_mem _ (List.mem_cons_of_mem _ (hv)))))) <;> (unfold bg_w; simp only [Int32.lt_iff_toInt_lt, Int32.le_iff_toInt_le, ← Int32.toInt_inj, Int32.toInt_zero, ne_eq, Int.not_lt, Int.not_le, not_false_eq_true, Classical.not_not] at q ⊢; first | exact q | omega)
end Bg
end
section
/-! instructions that read and write cells -/
theorem bg_cls_in : ∀ (a : Nat) (C : String) (T : u_T) (N : Nat), bg_nth bg_cls a = some (C, T, N) → (∀ w ∈ u_ws C T N, w ∈ bg_tbl) ∧ (∀ b, b < N → (T b).1 = C) ∧ (∀ x, x < N → ∀ y, y < N → x ≠ y → (T x).2.1 ≠ (T y).2.1) ∧ a < 10
  | 0, _, _, _, h => by cases h; exact ⟨bg_jn0, by decide, bg_nm0, by decide⟩
  | 1, _, _, _, h => by cases h; exact ⟨bg_jn1, by decide, bg_nm1, by decide⟩
  | 2, _, _, _, h => by cases h; exact ⟨bg_jn2, by decide, bg_nm2, by decide⟩
  | 3, _, _, _, h => by cases h; exact ⟨bg_jn3, by decide, bg_nm3, by decide⟩
  | 4, _, _, _, h => by cases h; exact ⟨bg_jn4, by decide, bg_nm4, by decide⟩
  | 5, _, _, _, h => by cases h; exact ⟨bg_jn5, by decide, bg_nm5, by decide⟩
  | 6, _, _, _, h => by cases h; exact ⟨bg_jn6, by decide, bg_nm6, by decide⟩
  | 7, _, _, _, h => by cases h; exact ⟨bg_jn7, by decide, bg_nm7, by decide⟩
  | 8, _, _, _, h => by cases h; exact ⟨bg_jn8, by decide, bg_nm8, by decide⟩
  | 9, _, _, _, h => by cases h; exact ⟨bg_jn9, by decide, bg_nm9, by decide⟩
  | n + 10, _, _, _, h => by simp [bg_nth] at h
/-- the fields' types by their kinds -/
def bg_tyOf : Nat → Nat → FieldType := fun a => match a with
  | 0 => bg_ty0 | 1 => bg_ty1 | 2 => bg_ty2 | 3 => bg_ty3 | 4 => bg_ty4 | 5 => bg_ty5 | 6 => bg_ty6 | 7 => bg_ty7 | 8 => bg_ty8 | _ => bg_ty9
theorem bg_cls_ty : ∀ (a : Nat) (C : String) (T : u_T) (N : Nat), bg_nth bg_cls a = some (C, T, N) → (∀ k, k < N → parseFieldDescriptor (T k).2.2.1 = some (bg_tyOf a k))
  | 0, _, _, _, h => by cases h; exact bg_tk0
  | 1, _, _, _, h => by cases h; exact bg_tk1
  | 2, _, _, _, h => by cases h; exact bg_tk2
  | 3, _, _, _, h => by cases h; exact bg_tk3
  | 4, _, _, _, h => by cases h; exact bg_tk4
  | 5, _, _, _, h => by cases h; exact bg_tk5
  | 6, _, _, _, h => by cases h; exact bg_tk6
  | 7, _, _, _, h => by cases h; exact bg_tk7
  | 8, _, _, _, h => by cases h; exact bg_tk8
  | 9, _, _, _, h => by cases h; exact bg_tk9
  | n + 10, _, _, _, h => by simp [bg_nth] at h
def bg_tyt (t : Nat) (ty : FieldType) : Bool := match t, ty with
  | 0, .int => true
  | 1, .long => true
  | 2, .object _ => true
  | 2, .array _ => true
  | 3, .boolean => true
  | _, _ => false
theorem bg_cls_tg : ∀ (a : Nat) (C : String) (T : u_T) (N : Nat), bg_nth bg_cls a = some (C, T, N) → (∀ k, k < N → bg_tyt (bg_tg a k) (bg_tyOf a k) = true)
  | 0, _, _, _, h => by cases h; decide
  | 1, _, _, _, h => by cases h; decide
  | 2, _, _, _, h => by cases h; decide
  | 3, _, _, _, h => by cases h; decide
  | 4, _, _, _, h => by cases h; decide
  | 5, _, _, _, h => by cases h; decide
  | 6, _, _, _, h => by cases h; decide
  | 7, _, _, _, h => by cases h; decide
  | 8, _, _, _, h => by cases h; decide
  | 9, _, _, _, h => by cases h; decide
  | n + 10, _, _, _, h => by simp [bg_nth] at h
theorem bg_wf.ge {H : bg_H} (h : bg_wf H) {k : Nat} {c : bg_C} (hc : bg_nth H.1 k = some c) (h16 : c.1 < 16) : 2 ≤ k := by
  obtain ⟨⟨L0, h0, -, h1⟩, -⟩ := h
  match k, hc with
  | 0, hc => rw [h0] at hc; cases hc; exact absurd h16 (Nat.lt_irrefl 16)
  | 1, hc => rw [h1] at hc; cases hc; exact absurd h16 (Nat.lt_irrefl 16)
  | k + 2, _ => omega
theorem bg_wf.lt {H : bg_H} (h : bg_wf H) {k : Nat} {c : bg_C} (hc : bg_nth H.1 k = some c) (h16 : c.1 = 16) : k < 2 := by
  rcases Nat.lt_or_ge k 2 with h2 | h2
  · exact h2
  · have := (h.2 k c hc h2).1
    omega
theorem bg_wf.two {H : bg_H} (h : bg_wf H) : 2 ≤ H.1.length := by
  obtain ⟨⟨L0, h0, -, h1⟩, -⟩ := h
  exact bg_nth_lt h1
theorem bg_map_set {α : Type} (F F' : Nat → α) (N b : Nat) (v : α) (h1 : F' b = v) (h2 : ∀ j, j ≠ b → F' j = F j) : ((List.range N).map F).set b v = (List.range N).map F' := by
  apply List.ext_getElem?
  intro j
  by_cases hj : j < N
  · by_cases e : j = b
    · subst e
      rw [List.getElem?_set_self (by simpa using hj), List.getElem?_map, List.getElem?_range hj, Option.map_some, h1]
    · rw [List.getElem?_set_ne (fun q => e q.symm), List.getElem?_map, List.getElem?_map, List.getElem?_range hj, Option.map_some, Option.map_some, h2 j e]
  · rw [List.getElem?_eq_none (by simp; omega), List.getElem?_eq_none (by simp; omega)]
theorem bg_idx (i : Int) : (Int32.ofInt i).toNatClampNeg = (bg_w i).toNat := rfl
theorem bg_vin {i : Int} {n : Nat} (h : 0 ≤ bg_w i ∧ bg_w i < n) : vp_in (Int32.ofInt i) n := vp_in_iff.mpr h
section BgH
variable {p : Program} {l : Launch} {e : Env} {R : Room} {s : State} {m : MethodId} {args : Array Value} {below : List Frame} {meth : Method} {c : Code} {Q : State → Prop} {D : va_G} {cy : Nat → ClassId} {A : Nat → Prop} {M : bg_M} {E0 : (Nat → Nat) × bg_H}
variable {pc nx : Nat} {L : bg_L} {st r : List bg_V} {Hh : bg_H} {cn : Nat × Nat}
theorem bg_Re.heap {nL : Nat} {st2 : List bg_V} {g : bg_G} {ad : Nat → Nat} {H H1 : Heap} {locs locs1 : List Loc} {ls : Array Slot} (h : bg_Re s D cy A E0 nL L st Hh ad H locs ls) (h0 : g 0 = Hh.2 0) (h1 : g 1 = Hh.2 1) (hP : va_P D bg_cls (bg_ws cy ad (Hh.1, g)) H1) (hD : va_D A (bg_ws cy ad (Hh.1, g))) (hS : va_S A s.heap H1 locs1) (h2 : ∀ v ∈ st2, bg_vk Hh.1.length v) : bg_Re s D cy A E0 nL L st2 (Hh.1, g) ad H1 locs1 ls := by
  obtain ⟨a1, a2, a3, a4, a5, a6, a7, a8, x1, x2, x3, x4, x5⟩ := h
  refine ⟨hP, hD, hS, a4, a5, ?_, h2, a8, x1, x2, x3, h0.trans x4, h1.trans x5⟩
  unfold bg_ro at a6 ⊢
  simp only [h0, h1]
  exact a6
theorem bg_Re.refs {nL k : Nat} {st2 : List bg_V} {c0 c2 : bg_C} {ad : Nat → Nat} {H H1 : Heap} {locs locs1 : List Loc} {ls : Array Slot} (h : bg_Re s D cy A E0 nL L st Hh ad H locs ls) (hc : bg_nth Hh.1 k = some c0) (hk : 2 ≤ k) (he : c2.1 = c0.1 ∧ c2.2.1 = c0.2.1 ∧ c2.2.2.length = c0.2.2.length) (hr : ∀ j x, c2.2.2.getD j none = some x → x < Hh.1.length) (hP : va_P D bg_cls (bg_ws cy ad (Hh.1.set k c2, Hh.2)) H1) (hD : va_D A (bg_ws cy ad (Hh.1.set k c2, Hh.2))) (hS : va_S A s.heap H1 locs1) (h2 : ∀ v ∈ st2, bg_vk Hh.1.length v) : bg_Re s D cy A E0 nL L st2 (Hh.1.set k c2, Hh.2) ad H1 locs1 ls := by
  obtain ⟨a1, a2, a3, a4, ⟨⟨L0, b0, bL, b1⟩, b2⟩, a6, a7, a8, x1, x2, x3, x4, x5⟩ := h
  have n0 : bg_nth (Hh.1.set k c2) 0 = bg_nth Hh.1 0 := by rw [bg_nth_eq, bg_nth_eq, List.getElem?_set_ne (by omega)]
  have n1 : bg_nth (Hh.1.set k c2) 1 = bg_nth Hh.1 1 := by rw [bg_nth_eq, bg_nth_eq, List.getElem?_set_ne (by omega)]
  refine ⟨hP, hD, hS, a4, ⟨⟨L0, by rw [n0]; exact b0, bL, by rw [n1]; exact b1⟩, fun k' c' hc' hk' => ?_⟩, ?_, by simpa using h2, by simpa using a8, x1, by simpa using x2, by rw [n0]; exact x3, x4, x5⟩
  · rw [bg_nth_eq] at hc'
    by_cases ek : k' = k
    · subst ek
      simp only [List.getElem?_set_self (bg_nth_lt hc)] at hc'
      cases hc'
      obtain ⟨d1, d2, d3, d4, d5⟩ := b2 k' c0 hc hk
      obtain ⟨e1, e2, e3⟩ := he
      exact ⟨by rw [e1]; exact d1, by rw [e2]; exact d2, by rw [e1, e2]; exact d3, by simpa using hr, by rw [e1, e2, e3]; exact d5⟩
    · simp only [List.getElem?_set_ne (fun q => ek q.symm)] at hc'
      obtain ⟨d1, d2, d3, d4, d5⟩ := b2 k' c' (by rw [bg_nth_eq]; exact hc') hk'
      exact ⟨d1, d2, d3, by simpa using d4, d5⟩
  · unfold bg_ro at a6 ⊢
    simp only [n0]
    exact a6
theorem bg_obj {nL k : Nat} {c0 : bg_C} {ad : Nat → Nat} {H : Heap} {locs : List Loc} {ls : Array Slot} (h : bg_Re s D cy A E0 nL L st Hh ad H locs ls) (hc : bg_nth Hh.1 k = some c0) (hk : 2 ≤ k) (h10 : c0.1 < 10) : (bg_ws cy ad Hh)[k - 2]? = some (ad k, .inr (c0.1, (List.range c0.2.1).map (bg_fd ad c0.1 c0.2.2 (Hh.2 k)))) := by
  rw [bg_ws_at hc hk]
  simp [bg_ce, h10]
theorem bg_arr {nL k : Nat} {c0 : bg_C} {ad : Nat → Nat} {H : Heap} {locs : List Loc} {ls : Array Slot} (h : bg_Re s D cy A E0 nL L st Hh ad H locs ls) (hc : bg_nth Hh.1 k = some c0) (hk : 2 ≤ k) (h10 : ¬ c0.1 < 10) : (bg_ws cy ad Hh)[k - 2]? = some (ad k, .inl (cy c0.1, c0.2.1, if c0.1 = 10 then .inl (fun j => Int32.ofInt (Hh.2 k j)) else if c0.1 = 11 then .inr (.inl (fun j => Int64.ofInt (Hh.2 k j))) else .inr (.inr (.inr (.inr (fun j => (c0.2.2.getD j none).map ad)))))) := by
  rw [bg_ws_at hc hk]
  simp [bg_ce, h10]
theorem sm_getfield (hC : bg_Cx p s m args meth c D cy A M) {k i b : Nat} {c0 : bg_C} {C : String} {T : u_T} {N : Nat} {v : bg_V} (hd : decode M.2.1 pc = .ok (.getfield i, 3)) (hc : bg_nth Hh.1 k = some c0) (hcl : bg_nth bg_cls c0.1 = some (C, T, N)) (hb : b < N) (hw : Cond.fieldLink M.1.cls i C (T b).2.1 (T b).2.2.1 ∈ bg_tbl) (hv : ∀ ad : Nat → Nat, bg_fd ad c0.1 c0.2.2 (Hh.2 k) b = bg_cv ad v) (hvk : bg_wf Hh → 2 ≤ k → bg_vk Hh.1.length v) (hk : bg_Sim p l e R s m args below meth c Q D cy A E0 M.2.2.1 (pc + 3, L, v :: r, Hh, cn)) : bg_Sim p l e R s m args below meth c Q D cy A E0 M.2.2.1 (pc, L, .inr (.inr (some k)) :: r, Hh, cn) := by
  intro ad H locs ls h
  obtain ⟨q1, q2, q3, q4⟩ := bg_cls_in _ _ _ _ hcl
  have hwf := h.2.2.2.2.1
  have h2 : 2 ≤ k := hwf.ge hc (by omega)
  have hN : c0.2.1 = N := by
    obtain ⟨C', T', h3⟩ := (hwf.2 k c0 hc h2).2.2.1 q4
    rw [bg_nth_eq] at hcl
    rw [h3] at hcl
    cases hcl
    rfl
  refine va_get hC.1 hC.2.1 hC.2.2.2.2.1 q1 hC.2.2.2.1 hC.2.2.2.2.2.1 h.1 (k - 2) (bg_obj h hc h2 q4) (by rw [← bg_nth_eq]; exact hcl) b hb (hC.2.2.2.2.1 _ hw) (fun x hx => by rw [q2 b hb] at hx; exact hx) (v := bg_cv ad v) ?_ hd (hk ad H locs ls (h.stk (bg_vk2 (hvk hwf h2) (bg_tl h.vk))))
  rw [List.getElem?_map, List.getElem?_range (by omega), Option.map_some, hv ad]
theorem sm_putnum (hC : bg_Cx p s m args meth c D cy A M) {k i b : Nat} {c0 : bg_C} {C : String} {T : u_T} {N : Nat} {x : Int} {v : bg_V} {ty : FieldType} (hd : decode M.2.1 pc = .ok (.putfield i, 3)) (hc : bg_nth Hh.1 k = some c0) (hcl : bg_nth bg_cls c0.1 = some (C, T, N)) (hb : b < N) (hw : Cond.fieldLink M.1.cls i C (T b).2.1 (T b).2.2.1 ∈ bg_tbl)
    (hfin : (T b).2.2.2 = false ∨ (M.1.name = "<init>" ∧ (T b).1 = M.1.cls)) (hty : bg_tyOf c0.1 b = ty) (hn : ∀ ad : Nat → Nat, narrow ty (bg_cv ad v) = bg_cv ad v) (hf : ∀ ad : Nat → Nat, fits ty (bg_cv ad v) = true) (hvv : ∀ (ad : Nat → Nat) (g : Int → Int), g b = x → bg_fd ad c0.1 c0.2.2 g b = bg_cv ad v)
    (hk : bg_Sim p l e R s m args below meth c Q D cy A E0 M.2.2.1 (pc + 3, L, r, (Hh.1, bg_up Hh.2 k b x), cn)) : bg_Sim p l e R s m args below meth c Q D cy A E0 M.2.2.1 (pc, L, v :: .inr (.inr (some k)) :: r, Hh, cn) := by
  intro ad H locs ls h
  obtain ⟨q1, q2, q3, q4⟩ := bg_cls_in _ _ _ _ hcl
  have hwf := h.2.2.2.2.1
  have h2 : 2 ≤ k := hwf.ge hc (by omega)
  have hN : c0.2.1 = N := by
    obtain ⟨C', T', h3⟩ := (hwf.2 k c0 hc h2).2.2.1 q4
    rw [bg_nth_eq] at hcl
    rw [h3] at hcl
    cases hcl
    rfl
  have hset : ((bg_ws cy ad Hh).set (k - 2) (ad k, .inr (c0.1, ((List.range c0.2.1).map (bg_fd ad c0.1 c0.2.2 (Hh.2 k))).set b (bg_cv ad v)))) = bg_ws cy ad (Hh.1, bg_up Hh.2 k b x) := by
    rw [bg_map_set _ (bg_fd ad c0.1 c0.2.2 (bg_up Hh.2 k b x k)) _ _ _ (hvv ad _ (by simp [bg_up])) (fun j hj => ?_)]
    · rw [← bg_ws_up hc h2 (g := bg_up Hh.2 k b x) (fun k' hk' => by funext j; simp [bg_up, hk'])]
      simp [bg_ce, q4]
    · unfold bg_fd
      have : (bg_up Hh.2 k b x k (j : Int)) = Hh.2 k j := by simp [bg_up]; omega
      rw [this]
  have g0 : bg_up Hh.2 k b x 0 = Hh.2 0 := by funext j; simp [bg_up]; omega
  have g1 : bg_up Hh.2 k b x 1 = Hh.2 1 := by funext j; simp [bg_up]; omega
  have hdd := bg_cls_ty _ _ _ _ hcl b hb
  rw [hty] at hdd
  cases hff : (T b).2.2.2 with
  | false =>
    refine va_put hC.1 hC.2.1 hC.2.2.2.2.1 q1 _ (bg_cls_ty _ _ _ _ hcl) q3 hC.2.2.2.1 hC.2.2.2.2.2.1 h.1 h.2.1 h.2.2.1 (k - 2) (bg_obj h hc h2 q4) (by rw [← bg_nth_eq]; exact hcl) b hb (hC.2.2.2.2.1 _ hw) (fun x hx => by rw [q2 b hb] at hx; exact hx) hff hdd (hn ad) (hf ad) (by simp; omega) hd (fun H1 locs1 hP hD hS => ?_)
    rw [hset] at hP hD
    exact hk ad H1 locs1 ls (h.heap g0 g1 hP hD hS (bg_tl (bg_tl h.vk)))
  | true =>
    obtain ⟨hn1, hn2⟩ : M.1.name = "<init>" ∧ (T b).1 = M.1.cls := hfin.resolve_left (by rw [hff]; decide)
    refine va_putF (own := M.1.cls) hC.1 hC.2.1 hC.2.2.2.2.1 q1 _ (bg_cls_ty _ _ _ _ hcl) q3 hC.2.2.2.1 hC.2.2.2.2.2.1 h.1 h.2.1 h.2.2.1 (k - 2) (bg_obj h hc h2 q4) (by rw [← bg_nth_eq]; exact hcl) b hb (hC.2.2.2.2.1 _ hw) (fun x hx => by rw [q2 b hb] at hx; exact hx) hff (hC.2.2.2.2.2.2.2.1.trans hn1) hn2 hdd (hn ad) (hf ad) (by simp; omega) hd (fun H1 locs1 hP hD hS => ?_)
    rw [hset] at hP hD
    exact hk ad H1 locs1 ls (h.heap g0 g1 hP hD hS (bg_tl (bg_tl h.vk)))
theorem bg_getD_set {α : Type} (l : List (Option α)) (b j : Nat) (o : Option α) : (l.set b o).getD j none = if j = b ∧ b < l.length then o else l.getD j none := by
  rw [List.getD_eq_getElem?_getD, List.getD_eq_getElem?_getD]
  by_cases hb : b < l.length
  · by_cases e : j = b
    · subst e
      simp [hb]
    · rw [List.getElem?_set_ne (fun q => e q.symm)]
      simp [e]
  · rw [List.set_eq_of_length_le (by omega)]
    simp [hb]
theorem sm_putref (hC : bg_Cx p s m args meth c D cy A M) {k i b : Nat} {c0 : bg_C} {C : String} {T : u_T} {N : Nat} {o : Option Nat} (hd : decode M.2.1 pc = .ok (.putfield i, 3)) (hc : bg_nth Hh.1 k = some c0) (hcl : bg_nth bg_cls c0.1 = some (C, T, N)) (hb : b < N) (hw : Cond.fieldLink M.1.cls i C (T b).2.1 (T b).2.2.1 ∈ bg_tbl)
    (hfin : (T b).2.2.2 = false ∨ (M.1.name = "<init>" ∧ (T b).1 = M.1.cls)) (htg : bg_tg c0.1 b = 2) (hbl : b < c0.2.2.length)
    (hk : bg_Sim p l e R s m args below meth c Q D cy A E0 M.2.2.1 (pc + 3, L, r, (Hh.1.set k (c0.1, c0.2.1, c0.2.2.set b o), Hh.2), cn)) : bg_Sim p l e R s m args below meth c Q D cy A E0 M.2.2.1 (pc, L, .inr (.inr o) :: .inr (.inr (some k)) :: r, Hh, cn) := by
  intro ad H locs ls h
  obtain ⟨q1, q2, q3, q4⟩ := bg_cls_in _ _ _ _ hcl
  have hwf := h.2.2.2.2.1
  have h2 : 2 ≤ k := hwf.ge hc (by omega)
  have hN : c0.2.1 = N := by
    obtain ⟨C', T', h3⟩ := (hwf.2 k c0 hc h2).2.2.1 q4
    rw [bg_nth_eq] at hcl
    rw [h3] at hcl
    cases hcl
    rfl
  have hset : ((bg_ws cy ad Hh).set (k - 2) (ad k, .inr (c0.1, ((List.range c0.2.1).map (bg_fd ad c0.1 c0.2.2 (Hh.2 k))).set b (bg_cv ad (.inr (.inr o)))))) = bg_ws cy ad (Hh.1.set k (c0.1, c0.2.1, c0.2.2.set b o), Hh.2) := by
    rw [bg_map_set _ (bg_fd ad c0.1 (c0.2.2.set b o) (Hh.2 k)) _ _ _ ?_ (fun j hj => ?_)]
    · rw [← bg_ws_rf hc h2]
      simp [bg_ce, q4]
    · unfold bg_fd
      rw [htg, bg_getD_set, if_pos ⟨rfl, hbl⟩]
      rfl
    · unfold bg_fd
      rw [bg_getD_set]
      simp [hj]
  have hdd := bg_cls_ty _ _ _ _ hcl b hb
  have htt := bg_cls_tg _ _ _ _ hcl b hb
  rw [htg] at htt
  have hn : narrow (bg_tyOf c0.1 b) (va_rf (o.map ad)) = va_rf (o.map ad) := by
    generalize bg_tyOf c0.1 b = ty at htt ⊢
    cases ty <;> first | (simp [bg_tyt] at htt; done) | (cases o <;> rfl)
  have hf : fits (bg_tyOf c0.1 b) (va_rf (o.map ad)) = true := by
    generalize bg_tyOf c0.1 b = ty at htt ⊢
    cases ty <;> first | (simp [bg_tyt] at htt; done) | (cases o <;> rfl)
  have hvk := h.vk
  have hrr : ∀ j x, (c0.2.2.set b o).getD j none = some x → x < Hh.1.length := by
    intro j x hx
    rw [bg_getD_set] at hx
    split at hx
    · subst hx
      exact hvk _ List.mem_cons_self
    · exact (hwf.2 k c0 hc h2).2.2.2.1 j x hx
  cases hff : (T b).2.2.2 with
  | false =>
    refine va_put hC.1 hC.2.1 hC.2.2.2.2.1 q1 _ (bg_cls_ty _ _ _ _ hcl) q3 hC.2.2.2.1 hC.2.2.2.2.2.1 h.1 h.2.1 h.2.2.1 (k - 2) (bg_obj h hc h2 q4) (by rw [← bg_nth_eq]; exact hcl) b hb (hC.2.2.2.2.1 _ hw) (fun x hx => by rw [q2 b hb] at hx; exact hx) hff hdd hn hf (by simp; omega) hd (fun H1 locs1 hP hD hS => ?_)
    rw [hset] at hP hD
    exact hk ad H1 locs1 ls (h.refs hc h2 ⟨rfl, rfl, by simp⟩ hrr hP hD hS (bg_tl (bg_tl h.vk)))
  | true =>
    obtain ⟨hn1, hn2⟩ : M.1.name = "<init>" ∧ (T b).1 = M.1.cls := hfin.resolve_left (by rw [hff]; decide)
    refine va_putF (own := M.1.cls) hC.1 hC.2.1 hC.2.2.2.2.1 q1 _ (bg_cls_ty _ _ _ _ hcl) q3 hC.2.2.2.1 hC.2.2.2.2.2.1 h.1 h.2.1 h.2.2.1 (k - 2) (bg_obj h hc h2 q4) (by rw [← bg_nth_eq]; exact hcl) b hb (hC.2.2.2.2.1 _ hw) (fun x hx => by rw [q2 b hb] at hx; exact hx) hff (hC.2.2.2.2.2.2.2.1.trans hn1) hn2 hdd hn hf (by simp; omega) hd (fun H1 locs1 hP hD hS => ?_)
    rw [hset] at hP hD
    exact hk ad H1 locs1 ls (h.refs hc h2 ⟨rfl, rfl, by simp⟩ hrr hP hD hS (bg_tl (bg_tl h.vk)))
theorem sm_getstatic (hC : bg_Cx p s m args meth c D cy A M) {i : Nat} (hd : decode M.2.1 pc = .ok (.getstatic i, 3)) (hw : Cond.fieldLink M.1.cls i "BorderGuards$Land" "PATH_LIMITS" "[I" ∈ bg_tbl) (hk : bg_Sim p l e R s m args below meth c Q D cy A E0 M.2.2.1 (pc + 3, L, .inr (.inr (some 1)) :: st, Hh, cn)) : bg_Sim p l e R s m args below meth c Q D cy A E0 M.2.2.1 (pc, L, st, Hh, cn) := by
  intro ad H locs ls h
  exact va_gets hC.1 hC.2.1 h.2.2.2.2.2.1.2.2 h.2.2.1 hC.2.2.2.1 (hC.2.2.2.2.1 _ hw) (fun _ hx => hx) hd (hk ad H locs ls (h.stk (bg_vk2 (show 1 < Hh.1.length by have := h.2.2.2.2.1.two; omega) h.vk)))
theorem bg_ofNat (n : Nat) : Int32.ofNat n = Int32.ofInt (n : Int) := by
  rw [← Int32.toInt_inj, Int32.toInt_ofInt, Int32.toInt_ofNat']
theorem bg_ty_at {k : Nat} (h1 : 10 ≤ k) (h2 : k < 16) : ∃ (t0 : Nat) (ty : FieldType), (bg_tys cy)[t0]? = some (cy k, ty) ∧ (12 ≤ k → ty.isReference = true) ∧ (k = 10 → ty = .int) ∧ (k = 11 → ty = .long) := by
  obtain rfl | rfl | rfl | rfl | rfl | rfl : k = 10 ∨ k = 11 ∨ k = 12 ∨ k = 13 ∨ k = 14 ∨ k = 15 := by omega
  · exact ⟨0, _, rfl, by omega, fun _ => rfl, by omega⟩
  · exact ⟨1, _, rfl, by omega, by omega, fun _ => rfl⟩
  · exact ⟨2, _, rfl, fun _ => rfl, by omega, by omega⟩
  · exact ⟨3, _, rfl, fun _ => rfl, by omega, by omega⟩
  · exact ⟨4, _, rfl, fun _ => rfl, by omega, by omega⟩
  · exact ⟨5, _, rfl, fun _ => rfl, by omega, by omega⟩
theorem sm_alen (hC : bg_Cx p s m args meth c D cy A M) {k : Nat} {c0 : bg_C} (hd : decode M.2.1 pc = .ok (.arraylength, 1)) (hc : bg_nth Hh.1 k = some c0) (h10 : 10 ≤ c0.1) (hk : bg_Sim p l e R s m args below meth c Q D cy A E0 M.2.2.1 (pc + 1, L, .inl (c0.2.1 : Int) :: r, Hh, cn)) : bg_Sim p l e R s m args below meth c Q D cy A E0 M.2.2.1 (pc, L, .inr (.inr (some k)) :: r, Hh, cn) := by
  intro ad H locs ls h
  have hwf := h.2.2.2.2.1
  have hz := hk ad H locs ls (h.stk (bg_vk2 trivial (bg_tl h.vk)))
  rcases Nat.lt_or_ge c0.1 16 with h16 | h16
  · have h2 : 2 ≤ k := hwf.ge hc h16
    obtain ⟨t0, ty, ht, -⟩ := bg_ty_at (cy := cy) h10 h16
    exact va_alen hC.1 hC.2.1 hC.2.2.2.2.2.1 h.1 (k - 2) t0 (bg_arr h hc h2 (by omega)) ht (bg_ofNat _) hd hz
  · obtain ⟨⟨L0, b0, bL, b1⟩, b2⟩ := id hwf
    have hk2 : k < 2 := by
      rcases Nat.lt_or_ge k 2 with q | q
      · exact q
      · have := (b2 k c0 hc q).1
        omega
    rcases (show k = 0 ∨ k = 1 by omega) with rfl | rfl
    · rw [b0] at hc
      cases hc
      exact va_tlen hC.1 hC.2.1 (h.2.2.2.2.2.1.1 L0 b0) h.2.2.1 (bg_ofNat _) hd hz
    · rw [b1] at hc
      cases hc
      exact va_tlen hC.1 hC.2.1 h.2.2.2.2.2.1.2.1 h.2.2.1 (bg_ofNat _) hd hz
theorem sm_iaload (hC : bg_Cx p s m args meth c D cy A M) {k : Nat} {i : Int} {c0 : bg_C} (hd : decode M.2.1 pc = .ok (.iaload, 1)) (hc : bg_nth Hh.1 k = some c0) (h10 : c0.1 = 10 ∨ c0.1 = 16) (hi : 0 ≤ bg_w i ∧ bg_w i < c0.2.1) (hk : bg_Sim p l e R s m args below meth c Q D cy A E0 M.2.2.1 (pc + 1, L, .inl (Hh.2 k (bg_w i)) :: r, Hh, cn)) : bg_Sim p l e R s m args below meth c Q D cy A E0 M.2.2.1 (pc, L, .inl i :: .inr (.inr (some k)) :: r, Hh, cn) := by
  intro ad H locs ls h
  have hwf := h.2.2.2.2.1
  have hz := hk ad H locs ls (h.stk (bg_vk2 trivial (bg_tl (bg_tl h.vk))))
  have en : (((bg_w i).toNat : Nat) : Int) = bg_w i := by omega
  rcases h10 with h10 | h10
  · have h2 : 2 ≤ k := hwf.ge hc (by omega)
    obtain ⟨t0, ty, ht, -, e1, -⟩ := bg_ty_at (cy := cy) (k := c0.1) (by omega) (by omega)
    rw [e1 h10] at ht
    have ha := bg_arr h hc h2 (by omega)
    rw [if_pos h10] at ha
    refine va_iald hC.1 hC.2.1 hC.2.2.2.2.2.1 h.1 (k - 2) t0 ha ht (bg_vin hi) hd ?_
    rw [bg_idx, en]
    exact hz
  · have hk2 := hwf.lt hc h10
    obtain ⟨⟨L0, b0, bL, b1⟩, b2⟩ := id hwf
    rcases (show k = 0 ∨ k = 1 by omega) with rfl | rfl
    · rw [b0] at hc
      cases hc
      exact va_ti hC.1 hC.2.1 (h.2.2.2.2.2.1.1 L0 b0) h.2.2.1 (bg_vin hi) (show Value.int (Int32.ofInt (Hh.2 0 ((bg_w i).toNat : Nat))) = _ by rw [en]; rfl) hd hz
    · rw [b1] at hc
      cases hc
      exact va_ti hC.1 hC.2.1 h.2.2.2.2.2.1.2.1 h.2.2.1 (bg_vin hi) (show Value.int (Int32.ofInt (Hh.2 1 ((bg_w i).toNat : Nat))) = _ by rw [en]; rfl) hd hz
theorem sm_laload (hC : bg_Cx p s m args meth c D cy A M) {k : Nat} {i : Int} {c0 : bg_C} (hd : decode M.2.1 pc = .ok (.laload, 1)) (hc : bg_nth Hh.1 k = some c0) (h10 : c0.1 = 11) (hi : 0 ≤ bg_w i ∧ bg_w i < c0.2.1) (hk : bg_Sim p l e R s m args below meth c Q D cy A E0 M.2.2.1 (pc + 1, L, .inr (.inl (Hh.2 k (bg_w i))) :: r, Hh, cn)) : bg_Sim p l e R s m args below meth c Q D cy A E0 M.2.2.1 (pc, L, .inl i :: .inr (.inr (some k)) :: r, Hh, cn) := by
  intro ad H locs ls h
  have hwf := h.2.2.2.2.1
  have hz := hk ad H locs ls (h.stk (bg_vk2 trivial (bg_tl (bg_tl h.vk))))
  have en : (((bg_w i).toNat : Nat) : Int) = bg_w i := by omega
  have h2 : 2 ≤ k := hwf.ge hc (by omega)
  obtain ⟨t0, ty, ht, -, -, e1⟩ := bg_ty_at (cy := cy) (k := c0.1) (by omega) (by omega)
  rw [e1 h10] at ht
  have ha := bg_arr h hc h2 (by omega)
  rw [if_neg (by omega), if_pos h10] at ha
  refine va_lald hC.1 hC.2.1 hC.2.2.2.2.2.1 h.1 (k - 2) t0 ha ht (bg_vin hi) hd ?_
  rw [bg_idx, en]
  exact hz
theorem sm_aaload (hC : bg_Cx p s m args meth c D cy A M) {k : Nat} {i : Int} {c0 : bg_C} {o : Option Nat} (hd : decode M.2.1 pc = .ok (.aaload, 1)) (hc : bg_nth Hh.1 k = some c0) (h12 : 12 ≤ c0.1) (h15 : c0.1 ≤ 15) (hi : 0 ≤ bg_w i ∧ bg_w i < c0.2.1) (ho : bg_nth c0.2.2 (bg_w i).toNat = some o) (hk : bg_Sim p l e R s m args below meth c Q D cy A E0 M.2.2.1 (pc + 1, L, .inr (.inr o) :: r, Hh, cn)) : bg_Sim p l e R s m args below meth c Q D cy A E0 M.2.2.1 (pc, L, .inl i :: .inr (.inr (some k)) :: r, Hh, cn) := by
  intro ad H locs ls h
  have hwf := h.2.2.2.2.1
  have h2 : 2 ≤ k := hwf.ge hc (by omega)
  have hg : c0.2.2.getD (bg_w i).toNat none = o := by rw [List.getD_eq_getElem?_getD, ← bg_nth_eq, ho]; rfl
  have hz := hk ad H locs ls (h.stk (bg_vk2 (by
    cases o with
    | none => trivial
    | some x => exact (hwf.2 k c0 hc h2).2.2.2.1 _ x hg) (bg_tl (bg_tl h.vk))))
  obtain ⟨t0, ty, ht, e1, -⟩ := bg_ty_at (cy := cy) (k := c0.1) (by omega) (by omega)
  have ha := bg_arr h hc h2 (by omega)
  rw [if_neg (by omega), if_neg (by omega)] at ha
  have hin := bg_vin hi
  have hlt : (Int32.ofInt i).toNatClampNeg < c0.2.1 := Nat.not_le.mp fun q => hin (Or.inr q)
  exact W.aald (v := va_rf (o.map ad)) (ty := ty) hC.1 hC.2.1 (h.1 (k - 2) _ ha) ((hC.2.2.2.2.2.1.2 t0 _ ht).1 c0.2.1 (fun j => va_rf ((c0.2.2.getD j none).map ad))) (e1 h12) (fun q => by cases q) (by show ¬ (_ ∨ (arrV _ _ _).slots.size ≤ _); rw [arrV_size]; exact hin) (by show (arrV _ _ _).slots[_]? = _; rw [arrV_read _ _ hlt]; show some (va_rf ((c0.2.2.getD (bg_w i).toNat none).map ad)) = _; rw [hg]) rfl rfl hd hz
end BgH
end
section
/-! stores into arrays, copies, switches -/
theorem bg_upd (h : bg_G) (k : Nat) (a x : Int) (ha : 0 ≤ a) : upd (fun j : Nat => Int32.ofInt (h k j)) a.toNat (Int32.ofInt x) = (fun j : Nat => Int32.ofInt (bg_up h k a x k j)) := by
  funext j
  unfold upd bg_up
  by_cases e : j = a.toNat
  · rw [if_pos e, if_pos rfl, if_pos (by omega)]
  · rw [if_neg e, if_pos rfl, if_neg (by omega)]
theorem bg_updL (h : bg_G) (k : Nat) (a x : Int) (ha : 0 ≤ a) : vp_updL (fun j : Nat => Int64.ofInt (h k j)) a.toNat (Int64.ofInt x) = (fun j : Nat => Int64.ofInt (bg_up h k a x k j)) := by
  funext j
  unfold vp_updL bg_up
  by_cases e : j = a.toNat
  · rw [if_pos e, if_pos rfl, if_pos (by omega)]
  · rw [if_neg e, if_pos rfl, if_neg (by omega)]
theorem bg_up_ne {h : bg_G} {k k' : Nat} {a x : Int} (hk : k' ≠ k) : bg_up h k a x k' = h k' := by
  funext j
  unfold bg_up
  rw [if_neg hk]
theorem bg_cpy_ne {h : bg_G} {ks kd k' : Nat} {sp dp n : Int} (hk : k' ≠ kd) : bg_cpy h ks kd sp dp n k' = h k' := by
  funext j
  unfold bg_cpy
  rw [if_neg hk]
theorem bg_cpyN (h : bg_G) (ks kd : Nat) (sp dp n : Int) (h1 : 0 ≤ sp) (h2 : 0 ≤ dp) (h3 : 0 ≤ n) : va_cpy (fun j : Nat => Int32.ofInt (h ks j)) (fun j : Nat => Int32.ofInt (h kd j)) sp.toNat dp.toNat n.toNat = fun j : Nat => Int32.ofInt (bg_cpy h ks kd sp dp n kd j) := by
  funext j
  unfold va_cpy bg_cpy
  rw [if_pos (rfl : kd = kd)]
  by_cases ej : dp.toNat ≤ j ∧ j < dp.toNat + n.toNat
  · rw [if_pos ej, if_pos (show dp ≤ (j : Int) ∧ (j : Int) < dp + n by omega)]
    show Int32.ofInt (h ks ((sp.toNat + (j - dp.toNat) : Nat) : Int)) = _
    rw [show ((sp.toNat + (j - dp.toNat) : Nat) : Int) = sp + ((j : Int) - dp) by omega]
  · rw [if_neg ej, if_neg (show ¬ (dp ≤ (j : Int) ∧ (j : Int) < dp + n) by omega)]
section BgS
variable {p : Program} {l : Launch} {e : Env} {R : Room} {s : State} {m : MethodId} {args : Array Value} {below : List Frame} {meth : Method} {c : Code} {Q : State → Prop} {D : va_G} {cy : Nat → ClassId} {A : Nat → Prop} {M : bg_M} {E0 : (Nat → Nat) × bg_H}
variable {pc nx : Nat} {L : bg_L} {st r : List bg_V} {Hh : bg_H} {cn : Nat × Nat}
theorem sm_iastore (hC : bg_Cx p s m args meth c D cy A M) {k : Nat} {i x : Int} {c0 : bg_C} (hd : decode M.2.1 pc = .ok (.iastore, 1)) (hc : bg_nth Hh.1 k = some c0) (h10 : c0.1 = 10) (hi : 0 ≤ bg_w i ∧ bg_w i < c0.2.1) (hk : bg_Sim p l e R s m args below meth c Q D cy A E0 M.2.2.1 (pc + 1, L, r, (Hh.1, bg_up Hh.2 k (bg_w i) x), cn)) : bg_Sim p l e R s m args below meth c Q D cy A E0 M.2.2.1 (pc, L, .inl x :: .inl i :: .inr (.inr (some k)) :: r, Hh, cn) := by
  intro ad H locs ls h
  have hwf := h.2.2.2.2.1
  have h2 : 2 ≤ k := hwf.ge hc (by omega)
  obtain ⟨t0, ty, ht, -, e1, -⟩ := bg_ty_at (cy := cy) (k := c0.1) (by omega) (by omega)
  rw [e1 h10] at ht
  have ha := bg_arr h hc h2 (by omega)
  rw [if_pos h10] at ha
  refine va_iast hC.1 hC.2.1 hC.2.2.2.2.2.1 h.1 h.2.1 h.2.2.1 (k - 2) t0 ha ht (bg_vin hi) hd (fun H1 locs1 hP hD hS => ?_)
  have hset : (bg_ws cy ad Hh).set (k - 2) (ad k, .inl (cy c0.1, c0.2.1, .inl (upd (fun j : Nat => Int32.ofInt (Hh.2 k j)) (Int32.ofInt i).toNatClampNeg (Int32.ofInt x)))) = bg_ws cy ad (Hh.1, bg_up Hh.2 k (bg_w i) x) := by
    rw [bg_idx, bg_upd _ _ _ _ hi.1, ← bg_ws_up hc h2 (g := bg_up Hh.2 k (bg_w i) x) (fun k' hk' => bg_up_ne hk')]
    simp [bg_ce, h10]
  rw [hset] at hP hD
  exact hk ad H1 locs1 ls (h.heap (bg_up_ne (by omega)) (bg_up_ne (by omega)) hP hD hS (bg_tl (bg_tl (bg_tl h.vk))))
theorem sm_lastore (hC : bg_Cx p s m args meth c D cy A M) {k : Nat} {i x : Int} {c0 : bg_C} (hd : decode M.2.1 pc = .ok (.lastore, 1)) (hc : bg_nth Hh.1 k = some c0) (h10 : c0.1 = 11) (hi : 0 ≤ bg_w i ∧ bg_w i < c0.2.1) (hk : bg_Sim p l e R s m args below meth c Q D cy A E0 M.2.2.1 (pc + 1, L, r, (Hh.1, bg_up Hh.2 k (bg_w i) x), cn)) : bg_Sim p l e R s m args below meth c Q D cy A E0 M.2.2.1 (pc, L, .inr (.inl x) :: .inl i :: .inr (.inr (some k)) :: r, Hh, cn) := by
  intro ad H locs ls h
  have hwf := h.2.2.2.2.1
  have h2 : 2 ≤ k := hwf.ge hc (by omega)
  obtain ⟨t0, ty, ht, -, -, e1⟩ := bg_ty_at (cy := cy) (k := c0.1) (by omega) (by omega)
  rw [e1 h10] at ht
  have ha := bg_arr h hc h2 (by omega)
  rw [if_neg (by omega), if_pos h10] at ha
  refine va_last hC.1 hC.2.1 hC.2.2.2.2.2.1 h.1 h.2.1 h.2.2.1 (k - 2) t0 ha ht (bg_vin hi) hd (fun H1 locs1 hP hD hS => ?_)
  have hset : (bg_ws cy ad Hh).set (k - 2) (ad k, .inl (cy c0.1, c0.2.1, .inr (.inl (vp_updL (fun j : Nat => Int64.ofInt (Hh.2 k j)) (Int32.ofInt i).toNatClampNeg (Int64.ofInt x))))) = bg_ws cy ad (Hh.1, bg_up Hh.2 k (bg_w i) x) := by
    rw [bg_idx, bg_updL _ _ _ _ hi.1, ← bg_ws_up hc h2 (g := bg_up Hh.2 k (bg_w i) x) (fun k' hk' => bg_up_ne hk')]
    simp [bg_ce, h10]
  rw [hset] at hP hD
  exact hk ad H1 locs1 ls (h.heap (bg_up_ne (by omega)) (bg_up_ne (by omega)) hP hD hS (bg_tl (bg_tl (bg_tl h.vk))))
theorem sm_aastore (hC : bg_Cx p s m args meth c D cy A M) {k v : Nat} {i : Int} {c0 c1 : bg_C} (hd : decode M.2.1 pc = .ok (.aastore, 1)) (hc : bg_nth Hh.1 k = some c0) (hv : bg_nth Hh.1 v = some c1) (h12 : (c0.1 = 12 ∧ c1.1 = 2) ∨ (c0.1 = 13 ∧ c1.1 = 3)) (hi : 0 ≤ bg_w i ∧ bg_w i < c0.2.1) (hk : bg_Sim p l e R s m args below meth c Q D cy A E0 M.2.2.1 (pc + 1, L, r, (Hh.1.set k (c0.1, c0.2.1, c0.2.2.set (bg_w i).toNat (some v)), Hh.2), cn)) : bg_Sim p l e R s m args below meth c Q D cy A E0 M.2.2.1 (pc, L, .inr (.inr (some v)) :: .inl i :: .inr (.inr (some k)) :: r, Hh, cn) := by
  intro ad H locs ls h
  have hwf := h.2.2.2.2.1
  have h2 : 2 ≤ k := hwf.ge hc (by omega)
  have h3 : 2 ≤ v := hwf.ge hv (by omega)
  have ha := bg_arr h hc h2 (by omega)
  rw [if_neg (by omega), if_neg (by omega)] at ha
  have hlen := (hwf.2 k c0 hc h2).2.2.2.2 (by omega)
  have hset : (bg_ws cy ad Hh).set (k - 2) (ad k, .inl (cy c0.1, c0.2.1, .inr (.inr (.inr (.inr (va_up (fun j => (c0.2.2.getD j none).map ad) (Int32.ofInt i).toNatClampNeg (some (ad v)))))))) = bg_ws cy ad (Hh.1.set k (c0.1, c0.2.1, c0.2.2.set (bg_w i).toNat (some v)), Hh.2) := by
    rw [← bg_ws_rf hc h2]
    have : (va_up (fun j => (c0.2.2.getD j none).map ad) (Int32.ofInt i).toNatClampNeg (some (ad v))) = fun j => ((c0.2.2.set (bg_w i).toNat (some v)).getD j none).map ad := by
      funext j
      unfold va_up
      rw [bg_getD_set, bg_idx]
      by_cases ej : j = (bg_w i).toNat
      · rw [if_pos ej, if_pos ⟨ej, by omega⟩]
        rfl
      · rw [if_neg ej, if_neg (fun q => ej q.1)]
    rw [this]
    unfold bg_ce
    simp only [show ¬ c0.1 < 10 by omega, show ¬ c0.1 = 10 by omega, show ¬ c0.1 = 11 by omega, if_false]
  have hvk := h.vk
  have hrr : ∀ j x, (c0.2.2.set (bg_w i).toNat (some v)).getD j none = some x → x < Hh.1.length := by
    intro j x hx
    rw [bg_getD_set] at hx
    split at hx
    · cases hx
      exact hvk _ List.mem_cons_self
    · exact (hwf.2 k c0 hc h2).2.2.2.1 j x hx
  obtain ⟨t0, q, ht, hq⟩ : ∃ (t0 : Nat) (q : vw_C), (bg_tys cy)[t0]? = some (cy c0.1, .object q.1) ∧ bg_cls[c1.1]? = some q := by
    rcases h12 with ⟨e1, e2⟩ | ⟨e1, e2⟩
    · exact ⟨2, (bg_R2, bg_T2, 8), by rw [e1]; rfl, by rw [e2]; rfl⟩
    · exact ⟨3, (bg_R3, bg_T3, 2), by rw [e1]; rfl, by rw [e2]; rfl⟩
  refine va_astq hC.1 hC.2.1 hC.2.2.2.2.2.1 h.1 h.2.1 h.2.2.1 (k - 2) t0 (v - 2) c1.1 ha ht (bg_obj h hv h3 (by omega)) hq (bg_vin hi) hd (fun H1 locs1 hP hD hS => ?_)
  rw [hset] at hP hD
  exact hk ad H1 locs1 ls (h.refs hc h2 ⟨rfl, rfl, by simp⟩ hrr hP hD hS (bg_tl (bg_tl (bg_tl h.vk))))
theorem bg_cats_eq (ad : Nat → Nat) : ∀ st : List bg_V, ((st.map (bg_cv ad)).map fun v => v.category).sum = bg_cats st
  | [] => rfl
  | .inl x :: l => by simp [bg_cats, bg_cv, Value.category, ← bg_cats_eq ad l]
  | .inr (.inl x) :: l => by simp [bg_cats, bg_cv, Value.category, ← bg_cats_eq ad l]
  | .inr (.inr none) :: l => by simp [bg_cats, bg_cv, va_rf, Value.category, ← bg_cats_eq ad l]
  | .inr (.inr (some x)) :: l => by simp [bg_cats, bg_cv, va_rf, Value.category, ← bg_cats_eq ad l]
theorem sm_copy (hC : bg_Cx p s m args meth c D cy A M) (hRf : 1 ≤ R.frames) (hRl : 200 ≤ R.locals) {k i0 ks kd : Nat} {n dp sp : Int} {c0 c1 : bg_C} (hd : decode M.2.1 pc = .ok (.invokestatic i0, 3)) (hw : Cond.methodLink M.1.cls i0 arraycopyName ∈ bg_tbl) (hc0 : bg_nth Hh.1 ks = some c0) (hc1 : bg_nth Hh.1 kd = some c1) (h10 : c0.1 = 10) (h11 : c1.1 = 10) (h8 : bg_cats r ≤ 8)
    (h1 : 0 ≤ bg_w sp) (h2 : 0 ≤ bg_w dp) (h3 : 0 ≤ bg_w n) (h4 : bg_w sp + bg_w n ≤ c0.2.1) (h5 : bg_w dp + bg_w n ≤ c1.2.1) (hk : bg_Sim p l e R s m args below meth c Q D cy A E0 M.2.2.1 (pc + 3, L, r, (Hh.1, bg_cpy Hh.2 ks kd (bg_w sp) (bg_w dp) (bg_w n)), cn)) : bg_Sim p l e R s m args below meth c Q D cy A E0 M.2.2.1 (pc, L, .inl n :: .inl dp :: .inr (.inr (some kd)) :: .inl sp :: .inr (.inr (some ks)) :: r, Hh, cn) := by
  intro ad H locs ls h
  have hwf := h.2.2.2.2.1
  have g0 : 2 ≤ ks := hwf.ge hc0 (by omega)
  have g1 : 2 ≤ kd := hwf.ge hc1 (by omega)
  have ha0 := bg_arr h hc0 g0 (by omega)
  rw [if_pos h10, h10] at ha0
  have ha1 := bg_arr h hc1 g1 (by omega)
  rw [if_pos h11, h11] at ha1
  have hts := hC.2.2.2.2.1
  have hset : (bg_ws cy ad Hh).set (kd - 2) (ad kd, .inl (cy 10, c1.2.1, .inl (va_cpy (fun j : Nat => Int32.ofInt (Hh.2 ks j)) (fun j : Nat => Int32.ofInt (Hh.2 kd j)) (Int32.ofInt sp).toNatClampNeg (Int32.ofInt dp).toNatClampNeg (Int32.ofInt n).toNatClampNeg))) = bg_ws cy ad (Hh.1, bg_cpy Hh.2 ks kd (bg_w sp) (bg_w dp) (bg_w n)) := by
    have : (va_cpy (fun j : Nat => Int32.ofInt (Hh.2 ks j)) (fun j : Nat => Int32.ofInt (Hh.2 kd j)) (Int32.ofInt sp).toNatClampNeg (Int32.ofInt dp).toNatClampNeg (Int32.ofInt n).toNatClampNeg) = fun j : Nat => Int32.ofInt (bg_cpy Hh.2 ks kd (bg_w sp) (bg_w dp) (bg_w n) kd j) := bg_cpyN Hh.2 ks kd _ _ _ h1 h2 h3
    rw [this, ← bg_ws_up hc1 g1 (g := bg_cpy Hh.2 ks kd (bg_w sp) (bg_w dp) (bg_w n)) (fun k' hk' => bg_cpy_ne hk')]
    simp [bg_ce, h11]
  refine va_copyi hC.1 hC.2.1 (hC.2.2.1.trans h.2.2.2.1.1.symm) hC.2.2.2.1 (hts _ hw) (hts _ (by decide +kernel)) (hts _ (by decide +kernel)) (hts _ (by decide +kernel)) hC.2.2.2.2.2.1 h.1 h.2.1 h.2.2.1 (ks - 2) (kd - 2) 0 0 ha0 ha1 rfl rfl rfl ?_ ?_ ?_ ?_ ?_ (fun _ _ => rfl) hRf ?_ hd (fun H1 locs1 hP hD hS => ?_)
  · rw [Int32.lt_iff_toInt_lt]; exact Int.not_lt.mpr h1
  · rw [Int32.lt_iff_toInt_lt]; exact Int.not_lt.mpr h2
  · rw [Int32.lt_iff_toInt_lt]; exact Int.not_lt.mpr h3
  · simp only [bg_idx]; omega
  · simp only [bg_idx]; omega
  · rw [bg_cats_eq]
    have : nativeFrameWords "java/lang/System" "arraycopy" 5 ≤ 150 := by decide +kernel
    omega
  · rw [hset] at hP hD
    exact hk ad H1 locs1 ls (h.heap (bg_cpy_ne (by omega)) (bg_cpy_ne (by omega)) hP hD hS (bg_tl (bg_tl (bg_tl (bg_tl (bg_tl h.vk))))))
theorem bg_sw_of {v : Int} {d : Nat} {K : Nat → Prop} : ∀ (ps : List (Int × Nat)), bg_sw v d K ps → (∃ q ∈ ps, v = q.1 ∧ K q.2) ∨ ((∀ q ∈ ps, v ≠ q.1) ∧ K d)
  | [], h => Or.inr ⟨fun q hq => absurd hq List.not_mem_nil, h⟩
  | (a, t) :: ps, h => by
    by_cases e : v = a
    · exact Or.inl ⟨(a, t), List.mem_cons_self, e, h.1 e⟩
    · rcases bg_sw_of ps (h.2 e) with ⟨q, hq, h1⟩ | ⟨h1, h2⟩
      · exact Or.inl ⟨q, List.mem_cons_of_mem _ hq, h1⟩
      · exact Or.inr ⟨List.forall_mem_cons.mpr ⟨e, h1⟩, h2⟩
theorem sm_table (hC : bg_Cx p s m args meth c D cy A M) {x df lo hi : Int} {offs : Array Int} {len a : Nat} {ps : List (Int × Nat)} (hd : decode M.2.1 pc = .ok (.tableswitch df lo hi offs, len)) (ha : (pc : Int) + df = a) (hps : ps.map (·.1) = (List.range (hi - lo + 1).toNat).map (fun (j : Nat) => lo + (j : Int))) (hall : ∀ q ∈ ps, offs[(q.1 - lo).toNat]? = some ((q.2 : Int) - pc)) (hk : bg_sw (bg_w x) a (fun t => bg_Sim p l e R s m args below meth c Q D cy A E0 M.2.2.1 (t, L, r, Hh, cn)) ps) : bg_Sim p l e R s m args below meth c Q D cy A E0 M.2.2.1 (pc, L, .inl x :: r, Hh, cn) := by
  intro ad H locs ls h
  rcases bg_sw_of ps hk with ⟨q, hq, e1, e2⟩ | ⟨h1, h2⟩
  · have hm : q.1 ∈ (List.range (hi - lo + 1).toNat).map (fun (j : Nat) => lo + (j : Int)) := by rw [← hps]; exact List.mem_map_of_mem hq
    obtain ⟨j, hj, e3⟩ := List.mem_map.mp hm
    have hj := List.mem_range.mp hj
    have e4 : (Int32.ofInt x).toInt = q.1 := e1
    refine lv_tableIn hC.1 hC.2.1 hd (by omega) (by omega) (off := (q.2 : Int) - pc) (tgt := q.2) (by rw [e4]; exact hall q hq) (by omega) (e2 ad H locs ls (h.stk (bg_tl h.vk)))
  · refine lv_tableOut hC.1 hC.2.1 hd ?_ ha (h2 ad H locs ls (h.stk (bg_tl h.vk)))
    rcases Int.lt_or_le (Int32.ofInt x).toInt lo with g | g
    · exact Or.inl g
    · rcases Int.lt_or_le hi (Int32.ofInt x).toInt with g2 | g2
      · exact Or.inr g2
      · exfalso
        have hm : (Int32.ofInt x).toInt ∈ ps.map (·.1) := by
          rw [hps]
          exact List.mem_map.mpr ⟨((Int32.ofInt x).toInt - lo).toNat, List.mem_range.mpr (by omega), by omega⟩
        obtain ⟨q, hq, e1⟩ := List.mem_map.mp hm
        exact h1 q hq e1.symm
theorem bg_lk {v df : Int} {a : Nat} {K : Nat → Prop} (ha : (pc : Int) + df = a) : ∀ (l : List (Int × Int)), (∀ q ∈ l, 0 ≤ (pc : Int) + q.2) → bg_sw v a K (l.map (fun q => (q.1, ((pc : Int) + q.2).toNat))) → ∃ t : Nat, (pc : Int) + Op.lookupswitch.offset l df v = t ∧ K t
  | [], _, h => ⟨a, ha, h⟩
  | (x, o) :: l, hn, h => by
    rw [Op.lookupswitch.offset_cons]
    by_cases e : v = x
    · rw [if_pos e.symm]
      have h1 := (List.forall_mem_cons.mp hn).1
      exact ⟨((pc : Int) + o).toNat, by simp only at h1; omega, h.1 e⟩
    · rw [if_neg (fun q => e q.symm)]
      exact bg_lk ha l (List.forall_mem_cons.mp hn).2 (h.2 e)
theorem sm_lookup (hC : bg_Cx p s m args meth c D cy A M) {x df : Int} {prs : Array (Int × Int)} {len a : Nat} (hd : decode M.2.1 pc = .ok (.lookupswitch df prs, len)) (ha : (pc : Int) + df = a) (hp : (prs.toList.zip (prs.toList.drop 1)).all (fun (x, y) => x.1 < y.1) = true) (hn : ∀ q ∈ prs.toList, 0 ≤ (pc : Int) + q.2) (hk : bg_sw (bg_w x) a (fun t => bg_Sim p l e R s m args below meth c Q D cy A E0 M.2.2.1 (t, L, r, Hh, cn)) (prs.toList.map (fun q => (q.1, ((pc : Int) + q.2).toNat)))) : bg_Sim p l e R s m args below meth c Q D cy A E0 M.2.2.1 (pc, L, .inl x :: r, Hh, cn) := by
  intro ad H locs ls h
  obtain ⟨t, e1, e2⟩ := bg_lk ha prs.toList hn hk
  exact lv_lookup hC.1 hC.2.1 hd hp rfl e1 (e2 ad H locs ls (h.stk (bg_tl h.vk)))
end BgS
end
section
/-! instructions that make cells -/
def bg_ag (n : Nat) (ad ad' : Nat → Nat) : Prop := ∀ k, k < n → ad' k = ad k
theorem bg_cv_ag {n : Nat} {ad ad' : Nat → Nat} (h : bg_ag n ad ad') {v : bg_V} (hv : bg_vk n v) : bg_cv ad' v = bg_cv ad v := by
  match v, hv with
  | .inl x, _ => rfl
  | .inr (.inl x), _ => rfl
  | .inr (.inr none), _ => rfl
  | .inr (.inr (some r)), hv => simp [bg_cv, h r hv]
theorem bg_map_ag {n : Nat} {ad ad' : Nat → Nat} (h : bg_ag n ad ad') {st : List bg_V} (hv : ∀ v ∈ st, bg_vk n v) : st.map (bg_cv ad') = st.map (bg_cv ad) := List.map_congr_left (fun v hm => bg_cv_ag h (hv v hm))
theorem bg_rl_ag {n nL : Nat} {ad ad' : Nat → Nat} {L : bg_L} {ls : Array Slot} (h : bg_ag n ad ad') (hv : ∀ (j : Nat) (v : bg_V), bg_nth L j = some (some v) → bg_vk n v) (hr : bg_rl ad L ls nL) : bg_rl ad' L ls nL := ⟨hr.1, hr.2.1, fun j v hj => by rw [bg_cv_ag h (hv j v hj)]; exact hr.2.2 j v hj⟩
theorem bg_om_ag {n : Nat} {ad ad' : Nat → Nat} (h : bg_ag n ad ad') {o : Option Nat} (ho : ∀ r, o = some r → r < n) : o.map ad' = o.map ad := by
  cases o with
  | none => rfl
  | some r => simp [h r (ho r rfl)]
theorem bg_ce_ag {n : Nat} {cy : Nat → ClassId} {ad ad' : Nat → Nat} (h : bg_ag n ad ad') {c : bg_C} {g : Int → Int} (hc : ∀ j r, c.2.2.getD j none = some r → r < n) : bg_ce cy ad' c g = bg_ce cy ad c g := by
  unfold bg_ce
  have e1 : bg_fd ad' c.1 c.2.2 g = bg_fd ad c.1 c.2.2 g := by
    funext j
    unfold bg_fd
    rw [bg_om_ag h (fun r hr => hc j r hr)]
  have e2 : (fun j => (c.2.2.getD j none).map ad') = (fun j => (c.2.2.getD j none).map ad) := by
    funext j
    rw [bg_om_ag h (fun r hr => hc j r hr)]
  rw [e1, e2]
theorem bg_vk_le {n n' : Nat} (h : n ≤ n') {v : bg_V} (hv : bg_vk n v) : bg_vk n' v := by
  match v, hv with
  | .inl x, _ => trivial
  | .inr (.inl x), _ => trivial
  | .inr (.inr none), _ => trivial
  | .inr (.inr (some r)), hv => exact Nat.lt_of_lt_of_le hv h
theorem bg_ws_app {cy : Nat → ClassId} {ad ad' : Nat → Nat} {Hh : bg_H} {cs : List bg_C} {g : bg_G} {ex : va_W} (h2 : 2 ≤ Hh.1.length) (hr : ∀ k c, bg_nth Hh.1 k = some c → 2 ≤ k → ∀ j r, c.2.2.getD j none = some r → r < Hh.1.length) (hag : bg_ag Hh.1.length ad ad') (hg : ∀ k, k < Hh.1.length → g k = Hh.2 k) (hl : ex.length = cs.length) (he : ∀ i c, bg_nth cs i = some c → ex[i]? = some (ad' (Hh.1.length + i), bg_ce cy ad' c (g (Hh.1.length + i)))) : bg_ws cy ad Hh ++ ex = bg_ws cy ad' (Hh.1 ++ cs, g) := by
  refine bg_ws_eq (by simp [bg_ws_len]; omega) fun k c hc hk => ?_
  rw [bg_nth_eq] at hc
  rcases Nat.lt_or_ge k Hh.1.length with hlt | hge
  · rw [List.getElem?_append_left hlt, ← bg_nth_eq] at hc
    rw [List.getElem?_append_left (by rw [bg_ws_len]; omega), bg_ws_at hc hk, hag k hlt, bg_ce_ag hag (hr k c hc hk)]
    show _ = some (ad k, bg_ce cy ad c (g k))
    rw [hg k hlt]
  · rw [List.getElem?_append_right hge, ← bg_nth_eq] at hc
    rw [List.getElem?_append_right (by rw [bg_ws_len]; omega), bg_ws_len]
    have := he _ _ hc
    rw [show k - 2 - (Hh.1.length - 2) = k - Hh.1.length by omega, this, show Hh.1.length + (k - Hh.1.length) = k by omega]
def bg_d0 : Nat → Value
  | 0 => .int 0
  | 1 => .long 0
  | 3 => .int 0
  | _ => .null
theorem bg_def {t : Nat} {ty : FieldType} (h : bg_tyt t ty = true) : defaultValue ty = bg_d0 t := by
  unfold bg_tyt at h
  split at h <;> first | rfl | cases h
theorem bg_rep {b j : Nat} : (List.replicate b (none : Option Nat)).getD j none = none := by
  rw [List.getD_eq_getElem?_getD, List.getElem?_replicate]
  split <;> rfl
theorem bg_fd0 (ad : Nat → Nat) (a N j : Nat) : bg_fd ad a (List.replicate N none) (fun _ => 0) j = bg_d0 (bg_tg a j) := by
  unfold bg_fd
  rw [bg_rep]
  generalize bg_tg a j = t
  match t with
  | 0 => rfl
  | 1 => rfl
  | 2 => rfl
  | 3 => rfl
  | n + 4 => rfl
theorem bg_w_ai : Cond.arrayClass .int ∈ bg_tbl := by decide +kernel
theorem bg_w_al : Cond.arrayClass .long ∈ bg_tbl := by decide +kernel
section BgA
variable {p : Program} {l : Launch} {e : Env} {R : Room} {s : State} {m : MethodId} {args : Array Value} {below : List Frame} {meth : Method} {c : Code} {Q : State → Prop} {D : va_G} {cy : Nat → ClassId} {A : Nat → Prop} {M : bg_M} {E0 : (Nat → Nat) × bg_H}
variable {pc nx : Nat} {L : bg_L} {st r : List bg_V} {Hh : bg_H} {cn : Nat × Nat}
theorem bg_Re.grow {nL : Nat} {st2 : List bg_V} {Hh' : bg_H} {ad ad' : Nat → Nat} {H H1 : Heap} {locs locs1 : List Loc} {ls : Array Slot} (h : bg_Re s D cy A E0 nL L st Hh ad H locs ls) (hl : Hh.1.length ≤ Hh'.1.length) (hwf : bg_wf Hh') (hn0 : bg_nth Hh'.1 0 = bg_nth Hh.1 0) (h0 : Hh'.2 0 = Hh.2 0) (h1 : Hh'.2 1 = Hh.2 1) (hag : bg_ag Hh.1.length ad ad') (hP : va_P D bg_cls (bg_ws cy ad' Hh') H1) (hD : va_D A (bg_ws cy ad' Hh')) (hS : va_S A s.heap H1 locs1) (h2 : ∀ v ∈ st2, bg_vk Hh'.1.length v) : bg_Re s D cy A E0 nL L st2 Hh' ad' H1 locs1 ls := by
  obtain ⟨a1, a2, a3, a4, a5, a6, a7, a8, x1, x2, x3, x4, x5⟩ := h
  have h22 := a5.two
  refine ⟨hP, hD, hS, bg_rl_ag hag a8 a4, hwf, ?_, h2, fun j v hj => bg_vk_le hl (a8 j v hj), fun k hk => (hag k (by omega)).trans (x1 k hk), by omega, hn0.trans x3, h0.trans x4, h1.trans x5⟩
  unfold bg_ro at a6 ⊢
  simp only [h0, h1, hn0, hag 0 (by omega), hag 1 (by omega)]
  exact a6
theorem bg_wf_app {cs : List bg_C} {g : bg_G} (h : bg_wf Hh) (hc : ∀ c ∈ cs, c.1 < 16 ∧ c.2.1 < 2 ^ 31 ∧ (c.1 < 10 → ∃ C T, bg_cls[c.1]? = some (C, T, c.2.1)) ∧ (∀ j r, c.2.2.getD j none = some r → r < Hh.1.length + cs.length) ∧ (12 ≤ c.1 ∨ c.1 < 10 → c.2.2.length = c.2.1)) : bg_wf (Hh.1 ++ cs, g) := by
  have h2 := h.two
  obtain ⟨⟨L0, b0, bL, b1⟩, b2⟩ := h
  refine ⟨⟨L0, ?_, bL, ?_⟩, fun k c hk hk2 => ?_⟩
  · rw [bg_nth_eq]; show (Hh.1 ++ cs)[0]? = _; rw [List.getElem?_append_left (by omega), ← bg_nth_eq]; exact b0
  · rw [bg_nth_eq]; show (Hh.1 ++ cs)[1]? = _; rw [List.getElem?_append_left (by omega), ← bg_nth_eq]; exact b1
  · rw [bg_nth_eq] at hk
    have hk : (Hh.1 ++ cs)[k]? = some c := hk
    rcases Nat.lt_or_ge k Hh.1.length with hlt | hge
    · rw [List.getElem?_append_left hlt, ← bg_nth_eq] at hk
      obtain ⟨d1, d2, d3, d4, d5⟩ := b2 k c hk hk2
      exact ⟨d1, d2, d3, fun j r hr => by have := d4 j r hr; simp; omega, d5⟩
    · rw [List.getElem?_append_right hge] at hk
      obtain ⟨d1, d2, d3, d4, d5⟩ := hc c (List.mem_of_getElem? hk)
      exact ⟨d1, d2, d3, fun j r hr => by have := d4 j r hr; simp; omega, d5⟩
theorem bg_zero_lt {h : bg_G} {n m k : Nat} (hk : k < n) : bg_zero h n m k = h k := by
  funext j
  unfold bg_zero
  rw [if_neg (by omega)]
theorem bg_zero_in {h : bg_G} {n m i : Nat} (hi : i < m) : bg_zero h n m (n + i) = fun _ => 0 := by
  funext j
  unfold bg_zero
  rw [if_pos (by omega)]
theorem bg_nth1 {α : Type} {a b : α} {i : Nat} (h : bg_nth [a] i = some b) : i = 0 ∧ b = a := by
  match i, h with
  | 0, h => cases h; exact ⟨rfl, rfl⟩
  | i + 1, h => simp [bg_nth] at h
/-- one cell more -/
theorem bg_one {nL : Nat} {c0 : bg_C} {q : Nat} {ad : Nat → Nat} {H H1 : Heap} {locs locs1 : List Loc} {ls : Array Slot} {r : List bg_V} (h : bg_Re s D cy A E0 nL L st Hh ad H locs ls) (hr : ∀ v ∈ r, bg_vk Hh.1.length v) (h16 : c0.1 < 16) (h31 : c0.2.1 < 2 ^ 31) (hcl : c0.1 < 10 → ∃ C T, bg_cls[c0.1]? = some (C, T, c0.2.1)) (hn : ∀ j, c0.2.2.getD j none = none) (hln : 12 ≤ c0.1 ∨ c0.1 < 10 → c0.2.2.length = c0.2.1)
    (hP : va_P D bg_cls (bg_ws cy ad Hh ++ [(q, bg_ce cy ad c0 (fun _ => 0))]) H1) (hD : va_D A (bg_ws cy ad Hh ++ [(q, bg_ce cy ad c0 (fun _ => 0))])) (hS : va_S A s.heap H1 locs1) : bg_Re s D cy A E0 nL L (.inr (.inr (some Hh.1.length)) :: r) (Hh.1 ++ [c0], bg_zero Hh.2 Hh.1.length 1) (fun k => if k = Hh.1.length then q else ad k) H1 locs1 ls ∧ bg_ag Hh.1.length ad (fun k => if k = Hh.1.length then q else ad k) := by
  have hwf := h.2.2.2.2.1
  have h2 := hwf.two
  have hag : bg_ag Hh.1.length ad (fun k => if k = Hh.1.length then q else ad k) := fun k hk => by
    show (if k = Hh.1.length then q else ad k) = ad k
    rw [if_neg (by omega)]
  have he : bg_ws cy ad Hh ++ [(q, bg_ce cy ad c0 (fun _ => 0))] = bg_ws cy (fun k => if k = Hh.1.length then q else ad k) (Hh.1 ++ [c0], bg_zero Hh.2 Hh.1.length 1) := by
    refine bg_ws_app h2 (fun k c hc hk => (hwf.2 k c hc hk).2.2.2.1) hag (fun k hk => bg_zero_lt hk) rfl (fun i c hc => ?_)
    obtain ⟨rfl, rfl⟩ := bg_nth1 hc
    rw [bg_zero_in (by omega), bg_ce_ag hag (fun j r hr => by rw [hn j] at hr; cases hr)]
    simp
  rw [he] at hP hD
  refine ⟨h.grow (by simp) (bg_wf_app hwf (fun c hc => ?_)) ?_ (bg_zero_lt (by omega)) (bg_zero_lt (by omega)) hag hP hD hS (bg_vk2 ?_ (fun v hv => bg_vk_le (by simp) (hr v hv))), hag⟩
  · rw [List.mem_singleton] at hc
    subst hc
    exact ⟨h16, h31, hcl, fun j r hr => (by rw [hn j] at hr; cases hr), hln⟩
  · rw [bg_nth_eq, bg_nth_eq]
    exact List.getElem?_append_left (by omega)
  · show Hh.1.length < (Hh.1 ++ [c0]).length
    simp
theorem sm_new (hC : bg_Cx p s m args meth c D cy A M) {i a : Nat} {C : String} {T : u_T} {N : Nat} (hd : decode M.2.1 pc = .ok (.new i, 3)) (hcl : bg_nth bg_cls a = some (C, T, N)) (hw : Cond.classLink M.1.cls i C ∈ bg_tbl) (hw2 : Cond.instantiable C N ∈ bg_tbl) (hw3 : Cond.initialized C ∈ bg_tbl) (h1 : cn.1 + 1 ≤ R.cells) (h2 : cn.2 + N ≤ R.slots) (hN : N < 2 ^ 31)
    (hk : bg_Sim p l e R s m args below meth c Q D cy A E0 M.2.2.1 (pc + 3, L, .inr (.inr (some Hh.1.length)) :: st, (Hh.1 ++ [(a, N, List.replicate N none)], bg_zero Hh.2 Hh.1.length 1), (cn.1 + 1, cn.2 + N))) : bg_Sim p l e R s m args below meth c Q D cy A E0 M.2.2.1 (pc, L, st, Hh, cn) := by
  intro ad H locs ls h
  obtain ⟨q1, q2, q3, q4⟩ := bg_cls_in _ _ _ _ hcl
  have hts := hC.2.2.2.2.1
  refine va_new (fs := (List.range N).map (bg_fd ad a (List.replicate N none) (fun _ => 0))) hC.1 hC.2.1 hts q1 _ (bg_cls_ty _ _ _ _ hcl) hC.2.2.2.1 (hts _ hw) (hts _ hw2) (hts _ hw3) hC.2.2.2.2.2.1 h.1 h.2.1 h.2.2.1 hC.2.2.2.2.2.2.1 (by rw [← bg_nth_eq]; exact hcl) (fun j hj => ?_) h1 h2 hd (fun q H1 hP hD hS => ?_)
  · rw [bg_def (bg_cls_tg _ _ _ _ hcl j hj)]
    unfold vp_V
    rw [List.getD_eq_getElem?_getD, List.getElem?_map, List.getElem?_range hj]
    exact (bg_fd0 ad a N j).symm
  · have hce : (Sum.inr (a, (List.range N).map (bg_fd ad a (List.replicate N none) (fun _ => 0))) : va_E) = bg_ce cy ad (a, N, List.replicate N none) (fun _ => 0) := by
      simp [bg_ce, q4]
    rw [hce] at hP hD
    obtain ⟨g1, g2⟩ := bg_one h h.vk (c0 := (a, N, List.replicate N none)) (by show a < 16; omega) hN (fun _ => ⟨C, T, by rw [← bg_nth_eq]; exact hcl⟩) (fun j => bg_rep) (fun _ => List.length_replicate) hP hD hS
    have hz := hk _ H1 locs ls g1
    rw [List.map_cons, bg_map_ag g2 h.vk] at hz
    have : bg_cv (fun k => if k = Hh.1.length then q else ad k) (.inr (.inr (some Hh.1.length))) = .ref q := by simp [bg_cv, va_rf]
    rw [this] at hz
    exact hz
theorem bg_cy_eq {k t0 : Nat} {cA : ClassId} {ty : FieldType} (hK : va_K D bg_cls (bg_tys cy) s) (ht : (bg_tys cy)[t0]? = some (cy k, ty)) (hK2 : va_K D bg_cls (bg_tys cy ++ [(cA, ty)]) s) : cA = cy k := by
  have h1 := (hK.2 t0 _ ht).2
  have h2 := (hK2.2 (bg_tys cy).length (cA, ty) (by rw [List.getElem?_append_right (Nat.le_refl _)]; simp)).2
  cases ty with
  | object C =>
    obtain ⟨kA, comp, -, -, -, f1⟩ := h1
    obtain ⟨kA', comp', -, -, -, f2⟩ := h2
    exact Option.some.inj (f2.symm.trans f1)
  | _ => exact Option.some.inj (h2.symm.trans h1)
theorem bg_nn {b : Nat} (hb : b ≤ 5000) : ¬ Int32.ofInt (b : Int) < 0 ∧ (Int32.ofInt (b : Int)).toNatClampNeg = b := by
  have : (Int32.ofInt (b : Int)).toInt = b := by
    rw [Int32.toInt_ofInt, Int.bmod_eq_of_le (by simp <;> omega) (by simp <;> omega)]
  refine ⟨by rw [Int32.lt_iff_toInt_lt, this]; simp, ?_⟩
  show (Int32.ofInt (b : Int)).toInt.toNat = b
  rw [this]
  simp
theorem sm_newarray (hC : bg_Cx p s m args meth c D cy A M) {a b : Nat} {ty : ArrayType} (hd : decode M.2.1 pc = .ok (.newarray ty, 2)) (hty : (ty = .int ∧ a = 10) ∨ (ty = .long ∧ a = 11)) (hb : b ≤ 5000) (h1 : cn.1 + 1 ≤ R.cells) (h2 : cn.2 + b ≤ R.slots)
    (hk : bg_Sim p l e R s m args below meth c Q D cy A E0 M.2.2.1 (pc + 2, L, .inr (.inr (some Hh.1.length)) :: r, (Hh.1 ++ [(a, b, [])], bg_zero Hh.2 Hh.1.length 1), (cn.1 + 1, cn.2 + b))) : bg_Sim p l e R s m args below meth c Q D cy A E0 M.2.2.1 (pc, L, .inl (b : Int) :: r, Hh, cn) := by
  intro ad H locs ls h
  have hts := hC.2.2.2.2.1
  obtain ⟨n1, n2⟩ := bg_nn hb
  have key : ∀ (q : Nat) (H1 : Heap), va_P D bg_cls (bg_ws cy ad Hh ++ [(q, bg_ce cy ad (a, b, []) (fun _ => 0))]) H1 → va_D A (bg_ws cy ad Hh ++ [(q, bg_ce cy ad (a, b, []) (fun _ => 0))]) → va_S A s.heap H1 locs → W p l e R s m args below meth c H1 locs (cn.1 + 1) (cn.2 + b) Q (F0 m (pc + 2) ls (.ref q :: r.map (bg_cv ad))) := by
    intro q H1 hP hD hS
    obtain ⟨g1, g2⟩ := bg_one h (bg_tl h.vk) (c0 := (a, b, [])) (by show a < 16; omega) (by show b < _; omega) (fun q => by exfalso; have q : a < 10 := q; omega) (fun j => by simp) (fun q => by exfalso; have q : 12 ≤ a ∨ a < 10 := q; omega) hP hD hS
    have hz := hk _ H1 locs ls g1
    rw [List.map_cons, bg_map_ag g2 (bg_tl h.vk)] at hz
    have : bg_cv (fun k => if k = Hh.1.length then q else ad k) (.inr (.inr (some Hh.1.length))) = .ref q := by simp [bg_cv, va_rf]
    rw [this] at hz
    exact hz
  have w1 : (Cond.arrayClass (newarray.typeOf .int)).before args s = true := hts _ bg_w_ai
  have w2 : (Cond.arrayClass (newarray.typeOf .long)).before args s = true := hts _ bg_w_al
  rcases hty with ⟨rfl, rfl⟩ | ⟨rfl, rfl⟩
  · refine va_newa (ty := .int) (a0 := (b, .inl (fun _ => 0))) hC.1 hC.2.1 w1 rfl hC.2.2.2.2.2.1 h.1 h.2.1 h.2.2.1 hC.2.2.2.2.2.2.1 (fun _ => rfl) n1 n2 (by show b * 4 ≤ _; omega) h1 h2 hd (fun q cA H1 hK2 hP hD hS => ?_)
    rw [bg_cy_eq (k := 10) (t0 := 0) hC.2.2.2.2.2.1 rfl hK2] at hP hD
    exact key q H1 hP hD hS
  · refine va_newa (ty := .long) (a0 := (b, .inr (.inl (fun _ => 0)))) hC.1 hC.2.1 w2 rfl hC.2.2.2.2.2.1 h.1 h.2.1 h.2.2.1 hC.2.2.2.2.2.2.1 (fun _ => rfl) n1 n2 (by show b * 8 ≤ _; omega) h1 h2 hd (fun q cA H1 hK2 hP hD hS => ?_)
    rw [bg_cy_eq (k := 11) (t0 := 1) hC.2.2.2.2.2.1 rfl hK2] at hP hD
    exact key q H1 hP hD hS
end BgA
end
section
/-! new T[n], new T[n][m] -/
section BgN
variable {p : Program} {l : Launch} {e : Env} {R : Room} {s : State} {m : MethodId} {args : Array Value} {below : List Frame} {meth : Method} {c : Code} {Q : State → Prop} {D : va_G} {cy : Nat → ClassId} {A : Nat → Prop} {M : bg_M} {E0 : (Nat → Nat) × bg_H}
variable {pc nx : Nat} {L : bg_L} {st r : List bg_V} {Hh : bg_H} {cn : Nat × Nat}
theorem sm_anewarray (hC : bg_Cx p s m args meth c D cy A M) {a b i t0 : Nat} {C : String} (hd : decode M.2.1 pc = .ok (.anewarray i, 3)) (ha : a = 12 ∨ a = 13) (hty : ∀ cy : Nat → ClassId, (bg_tys cy)[t0]? = some (cy a, .object C)) (hw : Cond.classLink M.1.cls i C ∈ bg_tbl) (hw2 : FieldType.object C ∈ [FieldType.object "BorderGuards$Land", .object "BorderGuards$Lots", .array .int, .array .long]) (hb : b ≤ 100) (h1 : cn.1 + 1 ≤ R.cells) (h2 : cn.2 + b ≤ R.slots)
    (hk : bg_Sim p l e R s m args below meth c Q D cy A E0 M.2.2.1 (pc + 3, L, .inr (.inr (some Hh.1.length)) :: r, (Hh.1 ++ [(a, b, List.replicate b none)], bg_zero Hh.2 Hh.1.length 1), (cn.1 + 1, cn.2 + b))) : bg_Sim p l e R s m args below meth c Q D cy A E0 M.2.2.1 (pc, L, .inl (b : Int) :: r, Hh, cn) := by
  intro ad H locs ls h
  have hts := hC.2.2.2.2.1
  obtain ⟨n1, n2⟩ := bg_nn (b := b) (by omega)
  refine va_newq hC.1 hC.2.1 hC.2.2.2.1 (hts _ hw) (hC.2.2.2.2.2.2.2.2 _ hw2) hC.2.2.2.2.2.1 h.1 h.2.1 h.2.2.1 hC.2.2.2.2.2.2.1 n1 n2 (by omega) h1 h2 hd (fun q cA H1 hK2 hP hD hS => ?_)
  rw [bg_cy_eq (k := a) (t0 := t0) hC.2.2.2.2.2.1 (hty cy) hK2] at hP hD
  have hce : (Sum.inl (cy a, b, .inr (.inr (.inr (.inr (fun _ => none))))) : va_E) = bg_ce cy ad (a, b, List.replicate b none) (fun _ => 0) := by
    unfold bg_ce
    simp only [show ¬ a < 10 by omega, show ¬ a = 10 by omega, show ¬ a = 11 by omega, if_false, bg_rep]
    rfl
  rw [hce] at hP hD
  obtain ⟨g1, g2⟩ := bg_one h (bg_tl h.vk) (c0 := (a, b, List.replicate b none)) (by show a < 16; omega) (by show b < _; omega) (fun q => by exfalso; have q : a < 10 := q; omega) (fun j => bg_rep) (fun _ => List.length_replicate) hP hD hS
  have hz := hk _ H1 locs ls g1
  rw [List.map_cons, bg_map_ag g2 (bg_tl h.vk)] at hz
  have : bg_cv (fun k => if k = Hh.1.length then q else ad k) (.inr (.inr (some Hh.1.length))) = .ref q := by simp [bg_cv, va_rf]
  rw [this] at hz
  exact hz
theorem bg_nth_rep {α : Type} {x y : α} {n i : Nat} (h : bg_nth (List.replicate n x) i = some y) : y = x ∧ i < n := by
  rw [bg_nth_eq, List.getElem?_replicate] at h
  split at h
  · cases h; exact ⟨rfl, by assumption⟩
  · cases h
theorem bg_getD_rg {b n j : Nat} : ((List.range b).map (fun i => some (n + i))).getD j none = if j < b then some (n + j) else none := by
  rw [List.getD_eq_getElem?_getD, List.getElem?_map]
  by_cases h : j < b
  · rw [List.getElem?_range h, if_pos h]; rfl
  · rw [List.getElem?_eq_none (by simp; omega), if_neg h]; rfl
theorem bg_outer (c : ClassId) (N h0 : Nat) : ∀ i : Nat, Jvm.Free.Multi.outerC c N h0 i = arrV c N (fun j => va_rf (if j < i then some (h0 + 1 + j) else none))
  | 0 => by
    show ({ cls := c, slots := Array.replicate N .null, vm := .none } : Cell) = _
    rw [arrV_new]
    refine congrArg (arrV c N) (funext fun j => ?_)
    simp [va_rf]
  | i + 1 => by
    show (Jvm.Free.Multi.outerC c N h0 i).setSlot i (.ref (h0 + 1 + i)) = _
    rw [bg_outer c N h0 i, arrV_store]
    refine congrArg (arrV c N) (funext fun j => ?_)
    by_cases e : j = i
    · subst e
      simp [updV, va_rf]
    · by_cases h : j < i
      · simp [updV, e, h, Nat.lt_succ_of_lt h]
      · simp [updV, e, h, show ¬ j < i + 1 by omega]
theorem sm_multi (hC : bg_Cx p s m args meth c D cy A M) {a b t i : Nat} {ty : FieldType} (hd : decode M.2.1 pc = .ok (.multianewarray i 2, 4)) (ha : (a = 14 ∧ ty = .int) ∨ (a = 15 ∧ ty = .long)) (hw : Cond.classLink M.1.cls i ("[" ++ (FieldType.array ty).toString) ∈ bg_tbl) (hb : b ≤ 100 ∧ t ≤ 100) (h1 : cn.1 + 1 + b ≤ R.cells) (h2 : cn.2 + b + b * t ≤ R.slots)
    (hk : bg_Sim p l e R s m args below meth c Q D cy A E0 M.2.2.1 (pc + 4, L, .inr (.inr (some Hh.1.length)) :: r, (Hh.1 ++ (a, b, (List.range b).map (fun i => some (Hh.1.length + 1 + i))) :: List.replicate b (a - 4, t, []), bg_zero Hh.2 Hh.1.length (1 + b)), (cn.1 + 1 + b, cn.2 + b + b * t))) : bg_Sim p l e R s m args below meth c Q D cy A E0 M.2.2.1 (pc, L, .inl (t : Int) :: .inl (b : Int) :: r, Hh, cn) := by
  intro ad H locs ls h
  have hts := hC.2.2.2.2.1
  have hK := hC.2.2.2.2.2.1
  obtain ⟨n1, n2⟩ := bg_nn (b := b) (by omega)
  obtain ⟨k1, k2⟩ := bg_nn (b := t) (by omega)
  have hwf := h.2.2.2.2.1
  have h22 := hwf.two
  obtain ⟨t0, u0, hover, harr, hA0, hA1, hdf, hdd, hcb⟩ : ∃ t0 u0 : Nat, (Cond.arrayOver (.array ty)).before #[] s = true ∧ Cond.arrayClass ty ∈ bg_tbl ∧ (bg_tys cy)[t0]? = some (cy a, .array ty) ∧ (bg_tys cy)[u0]? = some (cy (a - 4), ty) ∧ fits ty (defaultValue ty) = true ∧ (defaultValue ty).isDefault = true ∧ componentBytes ty ≤ 8 := by
    rcases ha with ⟨rfl, rfl⟩ | ⟨rfl, rfl⟩
    · exact ⟨4, 0, hC.2.2.2.2.2.2.2.2 _ (by simp), bg_w_ai, rfl, rfl, rfl, rfl, by decide⟩
    · exact ⟨5, 1, hC.2.2.2.2.2.2.2.2 _ (by simp), bg_w_al, rfl, rfl, rfl, rfl, by decide⟩
  have hprod : t * componentBytes ty ≤ t * 8 := Nat.mul_le_mul_left t hcb
  intro T hT Xs
  obtain ⟨vm₁, cA, comp, -, fA, fC, -, -, X', step⟩ := Xs.multianewarray2F hC.1 hC.2.2.2.1 (hts _ hw) hover (hts _ harr) (g := F0 m pc ls (.int (Int32.ofInt t) :: .int (Int32.ofInt b) :: r.map (bg_cv ad))) rfl (by rw [hC.2.1]; exact hd) rfl n1 k1 (by rw [n2]; omega) (by rw [k2]; omega) (by rw [k2]; omega) hdf hdd (by rw [n2]; omega) (by rw [n2, k2]; omega)
  rw [n2, k2] at X' step
  have eA : cA = cy a := by
    have := (hK.2 t0 _ hA0).2
    exact Option.some.inj (fA.symm.trans this)
  have eC : comp = cy (a - 4) := by
    have := (hK.2 u0 _ hA1).2
    have e2 : s.vm.findClass (FieldType.array ty).toString = some (cy (a - 4)) := by
      rcases ha with ⟨rfl, rfl⟩ | ⟨rfl, rfl⟩
      · exact this
      · exact this
    exact Option.some.inj (fC.symm.trans e2)
  subst eA
  subst eC
  generalize hF : Jvm.Free.Multi.fill (T.setVm vm₁) (cy a) (cy (a - 4)) b t (defaultValue ty) b = F at X' step
  have hTh : (T.setVm vm₁).heap = H := hT
  obtain ⟨f1, f2, -, -⟩ := Jvm.Free.Multi.fill_facts (T.setVm vm₁) (cy a) (cy (a - 4)) b t (defaultValue ty) b
  rw [hF, hTh] at f1 f2
  have hold : ∀ x : Nat, x < H.size → F.heap[x]? = H[x]? := fun x hx => by
    have := Jvm.Free.Multi.fill_old (T.setVm vm₁) (cy a) (cy (a - 4)) b t (defaultValue ty) (a := x) (by rw [hTh]; exact hx) b
    rw [hF, hTh] at this
    exact this
  have hrow : ∀ j : Nat, j < b → F.heap[H.size + 1 + j]? = some (Jvm.Free.Multi.innerC (cy (a - 4)) t (defaultValue ty)) := fun j hj => by
    have := Jvm.Free.Multi.fill_inner (T.setVm vm₁) (cy a) (cy (a - 4)) b t (defaultValue ty) b j hj
    rw [hF, hTh] at this
    exact this
  rw [bg_outer] at f2
  -- the new addresses
  obtain ⟨ad', had⟩ : ∃ ad' : Nat → Nat, ad' = fun k => if Hh.1.length ≤ k then H.size + (k - Hh.1.length) else ad k := ⟨_, rfl⟩
  have hag : bg_ag Hh.1.length ad ad' := fun k hk => by rw [had]; show (if _ then _ else _) = _; rw [if_neg (by omega)]
  have hnew : ∀ i : Nat, ad' (Hh.1.length + i) = H.size + i := fun i => by rw [had]; show (if _ then _ else _) = _; rw [if_pos (by omega)]; omega
  obtain ⟨ex, hex⟩ : ∃ ex : va_W, ex = (H.size, .inl (cy a, b, .inr (.inr (.inr (.inr (fun j => if j < b then some (H.size + 1 + j) else none)))))) :: (List.range b).map (fun j => ((H.size + 1 + j, bg_ce cy ad' (a - 4, t, []) (fun _ => 0)) : Nat × va_E)) := ⟨_, rfl⟩
  have hxl : ex.length = b + 1 := by rw [hex]; simp
  have hx1 : ∀ (k9 : Nat) (x : Nat × va_E), ex[k9]? = some x → x.1 = H.size + k9 := fun k9 x hx => by
    rw [hex] at hx
    cases k9 with
    | zero => cases hx; rfl
    | succ k9 =>
      rw [List.getElem?_cons_succ, List.getElem?_map] at hx
      by_cases h9 : k9 < b
      · rw [List.getElem?_range h9] at hx
        cases hx
        show H.size + 1 + k9 = _
        omega
      · rw [List.getElem?_eq_none (by simp; omega)] at hx
        cases hx
  have hPe : va_P D bg_cls ex F.heap := fun k9 x hx => by
    rw [hex] at hx
    cases k9 with
    | zero => cases hx; exact f2
    | succ k9 =>
      rw [List.getElem?_cons_succ, List.getElem?_map] at hx
      by_cases h9 : k9 < b
      · rw [List.getElem?_range h9] at hx
        cases hx
        have := hrow k9 h9
        rcases ha with ⟨rfl, rfl⟩ | ⟨rfl, rfl⟩
        · show F.heap[H.size + 1 + k9]? = some (vp_cell _ _)
          rw [this]
          show some ({ cls := cy 10, slots := Array.replicate t (.int 0), vm := .none } : Cell) = some (arrV (cy 10) t (fun _ => .int 0))
          rw [← arrV_new]
        · show F.heap[H.size + 1 + k9]? = some (vp_cell _ _)
          rw [this]
          show some ({ cls := cy 11, slots := Array.replicate t (.long 0), vm := .none } : Cell) = some (arrV (cy 11) t (fun _ => .long 0))
          rw [← arrV_new]
      · rw [List.getElem?_eq_none (by simp; omega)] at hx
        cases hx
  have hP1 : va_P D bg_cls (bg_ws cy ad Hh ++ ex) F.heap := (h.1.kept (fun k9 x hx => hold x.1 ((h.1 k9 x hx).lt))).app hPe
  have hD1 : va_D A (bg_ws cy ad Hh ++ ex) := by
    refine va_D.app h.2.1 ⟨fun i j x y hi hj hxy => ?_, fun k9 x hx => ?_⟩ (fun i j x y hi hj => ?_)
    · have := hx1 i x hi
      have := hx1 j y hj
      omega
    · rw [hx1 k9 x hx]
      exact hC.2.2.2.2.2.2.1 _ (by have := h.2.2.1.1; omega)
    · have := (h.1 i x hi).lt
      have := hx1 j y hj
      omega
  have hS1 : va_S A s.heap F.heap locs := ⟨by rw [f1]; have := h.2.2.1.1; omega, fun x q1 q2 => (hold x (Nat.lt_of_lt_of_le q1 h.2.2.1.1)).trans (h.2.2.1.2.1 x q1 q2), h.2.2.1.2.2⟩
  have he : bg_ws cy ad Hh ++ ex = bg_ws cy ad' (Hh.1 ++ (a, b, (List.range b).map (fun i => some (Hh.1.length + 1 + i))) :: List.replicate b (a - 4, t, []), bg_zero Hh.2 Hh.1.length (1 + b)) := by
    refine bg_ws_app h22 (fun k c hc hk => (hwf.2 k c hc hk).2.2.2.1) hag (fun k hk => bg_zero_lt hk) (by rw [hxl]; simp) (fun i c hc => ?_)
    rw [hnew]
    cases i with
    | zero =>
      cases hc
      rw [hex]
      show some _ = some _
      rw [Nat.add_zero]
      congr 2
      unfold bg_ce
      rw [if_neg (by show ¬ a < 10; omega), if_neg (by show ¬ a = 10; omega), if_neg (by show ¬ a = 11; omega)]
      congr 6
      refine congrArg Sum.inr (funext fun j => ?_)
      show (if j < b then some (Array.size H + 1 + j) else none) = Option.map ad' (((List.range b).map (fun i => some (Hh.1.length + 1 + i))).getD j none)
      rw [bg_getD_rg]
      by_cases hj : j < b
      · rw [if_pos hj, if_pos hj, Option.map_some, show Hh.1.length + 1 + j = Hh.1.length + (1 + j) by omega, hnew, show H.size + 1 + j = H.size + (1 + j) by omega]
      · rw [if_neg hj, if_neg hj]
        rfl
    | succ i =>
      obtain ⟨rfl, hi⟩ := bg_nth_rep (show bg_nth (List.replicate b (a - 4, t, [])) i = some c from hc)
      rw [hex, List.getElem?_cons_succ, List.getElem?_map, List.getElem?_range hi, bg_zero_in (by omega), show H.size + (i + 1) = H.size + 1 + i by omega]
      rfl
  rw [he] at hP1 hD1
  have hlen : (Hh.1 ++ (a, b, (List.range b).map (fun i => some (Hh.1.length + 1 + i))) :: List.replicate b (a - 4, t, [])).length = Hh.1.length + (b + 1) := by simp
  have g1 : bg_Re s D cy A E0 M.2.2.1 L (.inr (.inr (some Hh.1.length)) :: r) (Hh.1 ++ (a, b, (List.range b).map (fun i => some (Hh.1.length + 1 + i))) :: List.replicate b (a - 4, t, []), bg_zero Hh.2 Hh.1.length (1 + b)) ad' F.heap locs ls := by
    refine h.grow (by show _ ≤ List.length _; rw [hlen]; omega) (bg_wf_app hwf (fun c hc => ?_)) ?_ (bg_zero_lt (by omega)) (bg_zero_lt (by omega)) hag hP1 hD1 hS1 (bg_vk2 ?_ (fun v hv => bg_vk_le (by show _ ≤ List.length _; rw [hlen]; omega) (bg_tl (bg_tl h.vk) v hv)))
    · rcases List.mem_cons.mp hc with rfl | hc
      · refine ⟨by show a < 16; omega, by show b < _; omega, fun q => by exfalso; have q : a < 10 := q; omega, fun j r hr => ?_, fun _ => by simp⟩
        rw [bg_getD_rg] at hr
        split at hr
        · cases hr
          simp
          omega
        · cases hr
      · have hc := (List.mem_replicate.mp hc).2
        subst hc
        exact ⟨by show a - 4 < 16; omega, by show t < _; omega, fun q => by exfalso; have q : a - 4 < 10 := q; omega, fun j r hr => by simp at hr, fun q => by exfalso; have q : 12 ≤ a - 4 ∨ a - 4 < 10 := q; omega⟩
    · rw [bg_nth_eq, bg_nth_eq]
      exact List.getElem?_append_left (by omega)
    · show Hh.1.length < List.length _
      rw [hlen]
      omega
  obtain ⟨tt, a1, b1⟩ := hk ad' F.heap locs ls g1 F rfl X'
  refine ⟨tt, step tt ?_, b1⟩
  have e1 : T.heap.size = H.size := by rw [hT]
  rw [e1]
  rw [List.map_cons, bg_map_ag hag (bg_tl (bg_tl h.vk))] at a1
  have : bg_cv ad' (.inr (.inr (some Hh.1.length))) = .ref H.size := by
    have := hnew 0
    rw [Nat.add_zero, Nat.add_zero] at this
    simp [bg_cv, va_rf, this]
  rw [this] at a1
  exact a1
end BgN
end
section
/-! contracts of all methods, out of the abstract machine -/
def bg_wds (M : bg_M) : List Cond := .code M.1 M.2.1 M.2.2.1 M.2.2.2.1 :: bg_tbl
def bg_rm (d k : Nat) : Room := { frames := d, cells := (bg_mc k).1, slots := (bg_mc k).2, locals := 200 * d }
abbrev bg_U : Type := (Nat → Nat) × bg_H × Option bg_V
def bg_Ps (D : va_G) (cy : Nat → ClassId) (ad : Nat → Nat) (Hh : bg_H) (sz : Nat) (U : State) : Prop := U.heap.size = sz ∧ va_P D bg_cls (bg_ws cy ad Hh) U.heap ∧ va_K D bg_cls (bg_tys cy) U ∧ va_D (fun _ => True) (bg_ws cy ad Hh) ∧ bg_AO U ∧ bg_ro ad Hh (va_A (bg_ws cy ad Hh) sz) U
def bg_po (Rt : bg_R) (ad : Nat → Nat) (Hh : bg_H) (u : bg_U) : Prop := Rt u.2.2 u.2.1 ∧ bg_ag Hh.1.length ad u.1 ∧ Hh.1.length ≤ u.2.1.1.length ∧ bg_wf u.2.1 ∧ bg_nth u.2.1.1 0 = bg_nth Hh.1 0 ∧ u.2.1.2 0 = Hh.2 0 ∧ u.2.1.2 1 = Hh.2 1
def bg_Bq (D : va_G) (cy : Nat → ClassId) (A : Nat → Prop) (u : bg_U) (t : State) : Prop := va_P D bg_cls (bg_ws cy u.1 u.2.1) t.heap ∧ va_K D bg_cls (bg_tys cy) t ∧ va_D A (bg_ws cy u.1 u.2.1)
def bg_Qc (ret : Option FieldType) (D : va_G) (cy : Nat → ClassId) (A : Nat → Prop) (Rt : bg_R) (ad : Nat → Nat) (Hh : bg_H) : Array Value → State → Outcome → State → Prop := match ret with
  | none => va_Qv (fun u => bg_po Rt ad Hh u ∧ u.2.2 = none) (bg_Bq D cy A) A
  | some .long => va_Ql (fun r u => bg_po Rt ad Hh u ∧ ∃ x, u.2.2 = some (.inr (.inl x)) ∧ r = Int64.ofInt x) (bg_Bq D cy A) A
  | some _ => va_Qi (fun r u => bg_po Rt ad Hh u ∧ ∃ x, u.2.2 = some (.inl x) ∧ r = Int32.ofInt x) (bg_Bq D cy A) A
def bg_Met (l : Launch) (d : Nat) : Prop := ∀ (k : Nat) (M : bg_M), bg_nth bg_MS k = some M → ∀ (D : va_G) (cy : Nat → ClassId) (ad : Nat → Nat) (Hh : bg_H) (sz : Nat) (as : List bg_V) (Rt : bg_R), bg_wf Hh → (∀ v ∈ as, bg_vk Hh.1.length v) → bg_Ca bg_MS d k as Hh Rt →
  Met l M.1 (bg_wds M) (bg_rm d k) (va_Pc (as.map (bg_cv ad)) (bg_Ps D cy ad Hh sz)) (bg_Qc M.2.2.2.1 D cy (va_A (bg_ws cy ad Hh) sz) Rt ad Hh) (bg_mc k).1 (bg_mc k).2 (va_A (bg_ws cy ad Hh) sz)
theorem bg_pop_eq : ∀ (n : Nat) (st acc : List bg_V) (as rest : List bg_V), bg_pop n st acc = some (as, rest) → as.reverse ++ rest = acc.reverse ++ st ∧ as.length = acc.length + n
  | 0, st, acc, as, rest, h => by cases h; exact ⟨rfl, by omega⟩
  | n + 1, [], acc, as, rest, h => by cases h
  | n + 1, v :: st, acc, as, rest, h => by
    obtain ⟨h1, h2⟩ := bg_pop_eq n st (v :: acc) as rest h
    exact ⟨by rw [h1]; simp, by simp at h2; omega⟩
theorem bg_blind {av : List Value} {D : va_G} {cy : Nat → ClassId} {ad : Nat → Nat} {Hh : bg_H} {sz : Nat} : FrameBlind (va_Pc av (bg_Ps D cy ad Hh sz)) := fun a U g mk q => by
  obtain ⟨q0, q1, qP, qK, qD, qa, qr0, qr1, qr2⟩ := q
  exact ⟨q0, q1, qP, va_K.moved (u := U) (U := U.calling g mk a) (Vm.Alike.refl U.vm) qK, qD, bg_AO.moved (u := U) (U := U.calling g mk a) (Vm.Alike.refl U.vm) qa, fun L0 h => va_T.moved (u := U) (U := U.calling g mk a) (Vm.Alike.refl U.vm) (qr0 L0 h), va_T.moved (u := U) (U := U.calling g mk a) (Vm.Alike.refl U.vm) qr1, va_Z.moved (u := U) (U := U.calling g mk a) (Vm.Alike.refl U.vm) qr2⟩
section BgC
variable {p : Program} {l : Launch} {e : Env} {R : Room} {s : State} {m : MethodId} {args : Array Value} {below : List Frame} {meth : Method} {c : Code} {Q : State → Prop} {D : va_G} {cy : Nat → ClassId} {A : Nat → Prop} {M : bg_M} {E0 : (Nat → Nat) × bg_H}
variable {pc nx : Nat} {L : bg_L} {st r : List bg_V} {Hh : bg_H} {cn : Nat × Nat}
theorem bg_pre (hC : bg_Cx p s m args meth c D cy A M) {nL : Nat} {as : List bg_V} {ad : Nat → Nat} {H : Heap} {locs : List Loc} {ls : Array Slot} (h : bg_Re s D cy A E0 nL L st Hh ad H locs ls) : ∀ U : State, U.heap = H → s.WarmedH U.vm → va_Pc (as.map (bg_cv ad)) (bg_Ps D cy ad Hh H.size) ((as.map (bg_cv ad)).toArray) U := by
  intro U hU hW
  have hAB : ∀ q, va_A (bg_ws cy ad Hh) H.size q → A q := fun q hq => by
    rcases hq with ⟨k, e1, hk⟩ | hq
    · exact h.2.1.2 k _ hk
    · exact hC.2.2.2.2.2.2.1 q (Nat.le_trans h.2.2.1.1 hq)
  have hkp : ∀ a : Nat, a < s.heap.size → ¬ A a → U.heap[a]? = s.heap[a]? := fun a h1 h2 => by rw [hU]; exact h.2.2.1.2.1 a h1 h2
  obtain ⟨r0, r1, r2⟩ := h.2.2.2.2.2.1
  exact ⟨rfl, by rw [hU], by rw [hU]; exact h.1, va_K.moved hW.alike hC.2.2.2.2.2.1, h.2.1.weaken (fun _ _ _ _ => trivial), bg_AO.moved hW.alike hC.2.2.2.2.2.2.2.2, fun L0 hl => (((r0 L0 hl).kept hkp).moved hW.alike).narrow hAB, ((r1.kept hkp).moved hW.alike).narrow hAB, ((r2.kept hkp).moved hW.alike).narrow hAB⟩
/-- behind a call -/
theorem bg_back (hC : bg_Cx p s m args meth c D cy A M) {k : Nat} {ret : Option FieldType} (hret : ret = none ∨ ret = some .int ∨ ret = some .boolean ∨ ret = some .long) {Rt : bg_R} {rest : List bg_V} {av : Array Value} {ad : Nat → Nat} {H : Heap} {locs : List Loc} {ls : Array Slot} {st0 : List Value} (h : bg_Re s D cy A E0 M.2.2.1 L st Hh ad H locs ls) (hrest : ∀ v ∈ rest, bg_vk Hh.1.length v)
    (hr : va_Run p l e R s m args below meth c H locs cn.1 cn.2 (bg_mc k).1 (bg_mc k).2 (F0 m pc ls st0) (rest.map (bg_cv ad)) (bg_Qc ret D cy (va_A (bg_ws cy ad Hh) H.size) Rt ad Hh av) (va_A (bg_ws cy ad Hh) H.size))
    (hk : ∀ v H', Rt v H' → bg_Sim p l e R s m args below meth c Q D cy A E0 M.2.2.1 (pc + 3, L, bg_push v rest, H', (cn.1 + (bg_mc k).1, cn.2 + (bg_mc k).2))) : W p l e R s m args below meth c H locs cn.1 cn.2 Q (F0 m pc ls st0) := by
  have hAB : ∀ q, va_A (bg_ws cy ad Hh) H.size q → A q := fun q hq => by
    rcases hq with ⟨k, e1, hk⟩ | hq
    · exact h.2.1.2 k _ hk
    · exact hC.2.2.2.2.2.2.1 q (Nat.le_trans h.2.2.1.1 hq)
  have key : ∀ (u : bg_U) (t : State) (H1 : Heap) (locs1 : List Loc), t.heap = H1 → bg_po Rt ad Hh u → bg_Bq D cy (va_A (bg_ws cy ad Hh) H.size) u t → va_S A s.heap H1 locs1 → (∀ v, u.2.2 = some v → bg_vk u.2.1.1.length v) → W p l e R s m args below meth c H1 locs1 (cn.1 + (bg_mc k).1) (cn.2 + (bg_mc k).2) Q (F0 m (pc + 3) ls ((bg_push u.2.2 rest).map (bg_cv u.1))) := by
    intro u t H1 locs1 ht hpo hB hS hv
    obtain ⟨b1, b2, b3⟩ := hB
    obtain ⟨p1, p2, p3, p4, p5, p6, p7⟩ := hpo
    rw [ht] at b1
    refine hk _ _ p1 u.1 H1 locs1 ls (h.grow p3 p4 p5 p6 p7 p2 b1 (b3.weaken (fun _ _ _ q => hAB _ q)) hS ?_)
    have hr2 : ∀ v ∈ rest, bg_vk u.2.1.1.length v := fun v hv => bg_vk_le p3 (hrest v hv)
    cases e : u.2.2 with
    | none => exact hr2
    | some v => exact bg_vk2 (hv v e) hr2
  have hmap : ∀ u : bg_U, bg_ag Hh.1.length ad u.1 → rest.map (bg_cv u.1) = rest.map (bg_cv ad) := fun u hu => bg_map_ag hu hrest
  rcases hret with rfl | rfl | rfl | rfl
  · refine va_callv (a := av) hr h.2.2.1 (fun q _ hq => hAB q hq) hAB (fun u t H1 locs1 ht hvm hw hB hz1 hk1 hS => ?_)
    have := key u t H1 locs1 ht hw.1 hB hS (fun v hv => by rw [hw.2] at hv; cases hv)
    rw [hw.2] at this
    simp only [bg_push, hmap u hw.1.2.1] at this
    exact this
  · refine va_calli (a := av) hr h.2.2.1 (fun q _ hq => hAB q hq) hAB (fun r u t H1 locs1 ht hvm hw hB hz1 hk1 hS => ?_)
    obtain ⟨hw, x, hx, rfl⟩ := hw
    have := key u t H1 locs1 ht hw hB hS (fun v hv => by rw [hx] at hv; cases hv; trivial)
    rw [hx] at this
    simp only [bg_push, List.map_cons, hmap u hw.2.1] at this
    exact this
  · refine va_calli (a := av) hr h.2.2.1 (fun q _ hq => hAB q hq) hAB (fun r u t H1 locs1 ht hvm hw hB hz1 hk1 hS => ?_)
    obtain ⟨hw, x, hx, rfl⟩ := hw
    have := key u t H1 locs1 ht hw hB hS (fun v hv => by rw [hx] at hv; cases hv; trivial)
    rw [hx] at this
    simp only [bg_push, List.map_cons, hmap u hw.2.1] at this
    exact this
  · refine va_calll (a := av) hr h.2.2.1 (fun q _ hq => hAB q hq) hAB (fun r u t H1 locs1 ht hvm hw hB hz1 hk1 hS => ?_)
    obtain ⟨hw, x, hx, rfl⟩ := hw
    have := key u t H1 locs1 ht hw hB hS (fun v hv => by rw [hx] at hv; cases hv; trivial)
    rw [hx] at this
    simp only [bg_push, List.map_cons, hmap u hw.2.1] at this
    exact this
theorem bg_wds_good (M' : bg_M) (h : Cond.code M'.1 M'.2.1 M'.2.2.1 M'.2.2.2.1 ∈ bg_tbl) : GoodIn bg_tbl (bg_wds M') := fun w hw => by
  have hm : w ∈ bg_tbl := by
    rcases List.mem_cons.mp hw with rfl | hw
    · exact h
    · exact hw
  exact ⟨hm, good_of_word (List.mem_filter.mp hm).2⟩
theorem bg_callB (hC : bg_Cx p s m args meth c D cy A M) {d k i n : Nat} {M' : bg_M} (hk : bg_nth bg_MS k = some M') (hl : Cond.methodLink M.1.cls i M'.1 ∈ bg_tbl) (hn : (parseMethodDescriptor M'.1.desc).map (fun s => s.parameters.length) = some n) (hRf : d + 1 ≤ R.frames) (hRl : 200 * (d + 1) ≤ R.locals) : CallB R s args M.1.cls i M'.1 M'.2.1 M'.2.2.1 M'.2.2.2.1 (bg_wds M') (bg_rm d k) (bg_mc k).1 (bg_mc k).2 n := by
  obtain ⟨q, hq, hm⟩ := bg_okl_of _ _ 0 bg_okl_all k M' hk
  simp only [bg_okm, Bool.and_eq_true, decide_eq_true_eq] at hm
  have hts := hC.2.2.2.2.1
  exact callB_of n hts (bg_wds_good M' (bg_cw_of _ bg_cw_all k M' hk)) rfl rfl rfl (hts _ (bg_wd_in hm.1.1.1.1.2)) (hts _ hl) ⟨hm.1.1.1.1.1.2.1, hm.1.1.1.1.1.2.2, hn⟩ ⟨hRf, by show 8 + (M'.2.2.1 + 11) + 200 * d ≤ _; have := hm.1.1.1.2; omega⟩
theorem bg_kind {k : Nat} {M' : bg_M} (hk : bg_nth bg_MS k = some M') : ∃ q, bg_nth bg_PL k = some q ∧ bg_okm M' k q = true := by
  obtain ⟨q, h1, h2⟩ := bg_okl_of _ _ 0 bg_okl_all k M' hk
  rw [Nat.zero_add] at h2
  exact ⟨q, h1, h2⟩
theorem bg_ret_ok {k : Nat} {M' : bg_M} (hk : bg_nth bg_MS k = some M') : M'.2.2.2.1 = none ∨ M'.2.2.2.1 = some .int ∨ M'.2.2.2.1 = some .boolean ∨ M'.2.2.2.1 = some .long := by
  obtain ⟨q, h1, h2⟩ := bg_kind hk
  simp only [bg_okm, Bool.and_eq_true, decide_eq_true_eq] at h2
  exact h2.1.2
end BgC
end
section
/-! every instruction -/
section BgD
variable {p : Program} {l : Launch} {e : Env} {R : Room} {s : State} {m : MethodId} {args : Array Value} {below : List Frame} {meth : Method} {c : Code} {Q : State → Prop} {D : va_G} {cy : Nat → ClassId} {A : Nat → Prop} {M : bg_M} {E0 : (Nat → Nat) × bg_H}
variable {pc nx : Nat} {L : bg_L} {st r : List bg_V} {Hh : bg_H} {cn : Nat × Nat}
theorem sm_callV (hC : bg_Cx p s m args meth c D cy A M) {d i k a b : Nat} (hM : bg_Met l d) (hRf : d + 1 ≤ R.frames) (hRl : 200 * (d + 1) ≤ R.locals) {M' : bg_M} {as rest : List bg_V} {c0 : bg_C} (hd : decode M.2.1 pc = .ok (.invokevirtual i, 3)) (hk : bg_nth bg_MS a = some M') (hl : Cond.methodLink M.1.cls i M'.1 ∈ bg_tbl) (hn : (parseMethodDescriptor M'.1.desc).map (fun s => s.parameters.length) = some b) (hkd : bg_kd a = 1) (hc : bg_nth Hh.1 k = some c0) (hcls : (bg_nth bg_cls c0.1).map (·.1) = some M'.1.cls) (hlen : as.length = b) (h8 : bg_cats rest ≤ 8) (h1 : cn.1 + (bg_mc a).1 ≤ R.cells) (h2 : cn.2 + (bg_mc a).2 ≤ R.slots)
    (hw : bg_Ca bg_MS d a (.inr (.inr (some k)) :: as) Hh (fun v H' => bg_Sim p l e R s m args below meth c Q D cy A E0 M.2.2.1 (pc + 3, L, bg_push v rest, H', (cn.1 + (bg_mc a).1, cn.2 + (bg_mc a).2)))) : bg_Sim p l e R s m args below meth c Q D cy A E0 M.2.2.1 (pc, L, (.inr (.inr (some k)) :: as).reverse ++ rest, Hh, cn) := by
  intro ad H locs ls h
  obtain ⟨q, hq, hm⟩ := bg_kind hk
  have hkq : q.2.2.1 = 1 := by
    have := hkd
    unfold bg_kd at this
    rw [hq] at this
    exact this
  simp only [bg_okm, hkq, Bool.and_eq_true, decide_eq_true_eq] at hm
  have hts := hC.2.2.2.2.1
  have hvs : ∀ v ∈ (.inr (.inr (some k)) :: as), bg_vk Hh.1.length v := fun v hv => h.vk v (List.mem_append_left _ (List.mem_reverse.mpr hv))
  have hrs : ∀ v ∈ rest, bg_vk Hh.1.length v := fun v hv => h.vk v (List.mem_append_right _ hv)
  obtain ⟨qq, hqq⟩ : ∃ qq, bg_nth bg_cls c0.1 = some qq := by
    cases hx : bg_nth bg_cls c0.1 with
    | none => rw [hx] at hcls; cases hcls
    | some qq => exact ⟨qq, rfl⟩
  rw [hqq] at hcls
  have hcn : qq.1 = M'.1.cls := Option.some.inj hcls
  have h10 := (bg_cls_in c0.1 qq.1 qq.2.1 qq.2.2 hqq).2.2.2
  have hk2 : 2 ≤ k := h.2.2.2.2.1.ge hc (by omega)
  have hrv := va_recv hC.2.2.2.2.2.1 h.1 (by rw [← bg_nth_eq]; exact hqq) (bg_obj h hc hk2 h10)
  rw [hcn] at hrv
  refine bg_back hC (k := a) (bg_ret_ok hk) (av := (bg_cv ad (.inr (.inr (some k))) :: as.map (bg_cv ad)).toArray) h hrs ?_ (fun v H' hv => hv)
  refine va_runV (As := as.map (bg_cv ad)) (b := ad k) (C := M'.1.cls) (nL := M.2.2.1) ⟨hC.1, hC.2.1, hC.2.2.1, hC.2.2.2.1, hts⟩ (hM a M' hk D cy ad Hh H.size _ _ h.2.2.2.2.1 hvs hw) ⟨bg_callB hC (n := b) hk hl hn hRf hRl, hts _ (bg_wd_in hm.2.1), hts _ (bg_wd_in hm.2.2)⟩ ⟨bg_blind, hrv, bg_pre (as := .inr (.inr (some k)) :: as) hC h⟩ rfl (by rw [List.length_map]; exact hlen) h.2.2.2.1.1 ?_ (lv_room (by rw [bg_cats_eq]; exact h8)) hd ⟨h1, h2⟩
  show List.map (bg_cv ad) ((.inr (.inr (some k)) :: as).reverse ++ rest) = _
  simp [List.map_append, List.map_reverse, bg_cv, va_rf]
theorem sm_callI (hC : bg_Cx p s m args meth c D cy A M) {d i k a b : Nat} (hM : bg_Met l d) (hRf : d + 1 ≤ R.frames) (hRl : 200 * (d + 1) ≤ R.locals) {M' : bg_M} {as rest : List bg_V} (hd : decode M.2.1 pc = .ok (.invokespecial i, 3)) (hk : bg_nth bg_MS a = some M') (hl : Cond.methodLink M.1.cls i M'.1 ∈ bg_tbl) (hn : (parseMethodDescriptor M'.1.desc).map (fun s => s.parameters.length) = some b) (hkd : bg_kd a = 2) (hin : M'.1.name = "<init>") (hrn : M'.2.2.2.1 = none) (hlen : as.length = b) (h8 : bg_cats rest ≤ 8) (h1 : cn.1 + (bg_mc a).1 ≤ R.cells) (h2 : cn.2 + (bg_mc a).2 ≤ R.slots)
    (hw : bg_Ca bg_MS d a (.inr (.inr (some k)) :: as) Hh (fun v H' => bg_Sim p l e R s m args below meth c Q D cy A E0 M.2.2.1 (pc + 3, L, bg_push v rest, H', (cn.1 + (bg_mc a).1, cn.2 + (bg_mc a).2)))) : bg_Sim p l e R s m args below meth c Q D cy A E0 M.2.2.1 (pc, L, (.inr (.inr (some k)) :: as).reverse ++ rest, Hh, cn) := by
  intro ad H locs ls h
  obtain ⟨q, hq, hm⟩ := bg_kind hk
  have hkq : q.2.2.1 = 2 := by
    have := hkd
    unfold bg_kd at this
    rw [hq] at this
    exact this
  simp only [bg_okm, hkq, Bool.and_eq_true, decide_eq_true_eq] at hm
  have hts := hC.2.2.2.2.1
  have hvs : ∀ v ∈ (.inr (.inr (some k)) :: as), bg_vk Hh.1.length v := fun v hv => h.vk v (List.mem_append_left _ (List.mem_reverse.mpr hv))
  have hrs : ∀ v ∈ rest, bg_vk Hh.1.length v := fun v hv => h.vk v (List.mem_append_right _ hv)
  have hcb := bg_callB (R := R) hC (n := b) hk hl hn hRf hRl
  rw [hrn] at hcb
  refine bg_back hC (k := a) (bg_ret_ok hk) (av := (bg_cv ad (.inr (.inr (some k))) :: as.map (bg_cv ad)).toArray) h hrs ?_ (fun v H' hv => hv)
  refine va_runI (As := as.map (bg_cv ad)) (b := ad k) (nL := M.2.2.1) ⟨hC.1, hC.2.1, hC.2.2.1, hC.2.2.2.1, hts⟩ (hM a M' hk D cy ad Hh H.size _ _ h.2.2.2.2.1 hvs hw) ⟨hcb, hin, hts _ (bg_wd_in hm.2)⟩ ⟨bg_blind, bg_pre (as := .inr (.inr (some k)) :: as) hC h⟩ rfl (by rw [List.length_map]; exact hlen) h.2.2.2.1.1 ?_ (lv_room (by rw [bg_cats_eq]; exact h8)) hd ⟨h1, h2⟩
  show List.map (bg_cv ad) ((.inr (.inr (some k)) :: as).reverse ++ rest) = _
  simp [List.map_append, List.map_reverse, bg_cv, va_rf]
theorem sm_callS (hC : bg_Cx p s m args meth c D cy A M) {d i a b : Nat} (hM : bg_Met l d) (hRf : d + 1 ≤ R.frames) (hRl : 200 * (d + 1) ≤ R.locals) {M' : bg_M} {as rest : List bg_V} (hd : decode M.2.1 pc = .ok (.invokestatic i, 3)) (hk : bg_nth bg_MS a = some M') (hl : Cond.methodLink M.1.cls i M'.1 ∈ bg_tbl) (hn : (parseMethodDescriptor M'.1.desc).map (fun s => s.parameters.length) = some b) (hkd : bg_kd a = 0) (hlen : as.length = b) (h8 : bg_cats rest ≤ 8) (h1 : cn.1 + (bg_mc a).1 ≤ R.cells) (h2 : cn.2 + (bg_mc a).2 ≤ R.slots)
    (hw : bg_Ca bg_MS d a as Hh (fun v H' => bg_Sim p l e R s m args below meth c Q D cy A E0 M.2.2.1 (pc + 3, L, bg_push v rest, H', (cn.1 + (bg_mc a).1, cn.2 + (bg_mc a).2)))) : bg_Sim p l e R s m args below meth c Q D cy A E0 M.2.2.1 (pc, L, as.reverse ++ rest, Hh, cn) := by
  intro ad H locs ls h
  obtain ⟨q, hq, hm⟩ := bg_kind hk
  have hkq : q.2.2.1 = 0 := by
    have := hkd
    unfold bg_kd at this
    rw [hq] at this
    exact this
  simp only [bg_okm, hkq, Bool.and_eq_true, decide_eq_true_eq] at hm
  have hts := hC.2.2.2.2.1
  have hvs : ∀ v ∈ as, bg_vk Hh.1.length v := fun v hv => h.vk v (List.mem_append_left _ (List.mem_reverse.mpr hv))
  have hrs : ∀ v ∈ rest, bg_vk Hh.1.length v := fun v hv => h.vk v (List.mem_append_right _ hv)
  refine bg_back hC (k := a) (bg_ret_ok hk) (av := (as.map (bg_cv ad)).toArray) h hrs ?_ (fun v H' hv => hv)
  refine va_runS (As := as.map (bg_cv ad)) (nL := M.2.2.1) ⟨hC.1, hC.2.1, hC.2.2.1, hC.2.2.2.1, hts⟩ (hM a M' hk D cy ad Hh H.size _ _ h.2.2.2.2.1 hvs hw) ⟨bg_callB hC (n := b) hk hl hn hRf hRl, hts _ (bg_wd_in hm.2)⟩ ⟨bg_blind, bg_pre (as := as) hC h⟩ rfl (by rw [List.length_map]; exact hlen) h.2.2.2.1.1 ?_ (lv_room (by rw [bg_cats_eq]; exact h8)) hd ⟨h1, h2⟩
  show List.map (bg_cv ad) (as.reverse ++ rest) = _
  simp [List.map_append, List.map_reverse]
theorem bg_w_ob : Cond.instanceMethod objectInit ∈ bg_tbl := by decide +kernel
theorem bg_w_oc : Cond.code objectInit ⟨#[0xb1]⟩ 1 none ∈ bg_tbl := by decide +kernel
theorem sm_objinit (hC : bg_Cx p s m args meth c D cy A M) {i k : Nat} (hRf : 1 ≤ R.frames) (hRl : 200 ≤ R.locals) (hd : decode M.2.1 pc = .ok (.invokespecial i, 3)) (hl : Cond.methodLink M.1.cls i objectInit ∈ bg_tbl) (h8 : bg_cats r ≤ 8) (hk : bg_Sim p l e R s m args below meth c Q D cy A E0 M.2.2.1 (pc + 3, L, r, Hh, cn)) : bg_Sim p l e R s m args below meth c Q D cy A E0 M.2.2.1 (pc, L, .inr (.inr (some k)) :: r, Hh, cn) := by
  intro ad H locs ls h
  have hts := hC.2.2.2.2.1
  refine W.objInit hC.1 hC.2.1 hC.2.2.2.1 (hts _ hl) (hts _ bg_w_ob) (hts _ bg_w_oc) rfl (h.2.2.2.1.1.trans hC.2.2.1.symm) (a := ad k) (rest := r.map (bg_cv ad)) rfl hd hRf ?_ (hk ad H locs ls (h.stk (bg_tl h.vk)))
  have := bg_cats_eq ad r
  show 2 * 0 + _ + 12 ≤ _
  omega
theorem bg_w_m1 : Cond.static Lib.Math.max.name ∈ bg_tbl ∧ Cond.initialized "java/lang/Math" ∈ bg_tbl ∧ Cond.code Lib.Math.max.name Lib.Math.max.code 2 (some .int) ∈ bg_tbl := by decide +kernel
theorem bg_w_m2 : Cond.static Lib.Math.min.name ∈ bg_tbl ∧ Cond.code Lib.Math.min.name Lib.Math.min.code 2 (some .int) ∈ bg_tbl := by decide +kernel
/-- the class calls no Math.max of longs: no link of the tables leads there -/
def bg_isl (y : MethodName) (w : Cond) : Bool := match w with
  | .methodLink _ _ z => decide (z = y)
  | _ => false
theorem bg_no_m3 : lw_tbl.all (fun w => !(bg_isl Lib.MathLoose.max_long.x w)) = true := by decide +kernel
theorem sm_mmax (hC : bg_Cx p s m args meth c D cy A M) {i : Nat} {x y : Int} (hRf : 1 ≤ R.frames) (hRl : 200 ≤ R.locals) (h1 : cn.1 ≤ R.cells) (h2 : cn.2 ≤ R.slots) (hd : decode M.2.1 pc = .ok (.invokestatic i, 3)) (hl : Cond.methodLink M.1.cls i Lib.Math.max.name ∈ bg_tbl) (h8 : bg_cats r ≤ 8) (hk : bg_Sim p l e R s m args below meth c Q D cy A E0 M.2.2.1 (pc + 3, L, .inl (if bg_w x < bg_w y then y else x) :: r, Hh, cn)) : bg_Sim p l e R s m args below meth c Q D cy A E0 M.2.2.1 (pc, L, .inl y :: .inl x :: r, Hh, cn) := by
  intro ad H locs ls h
  have hts := hC.2.2.2.2.1
  refine va_mmax hC.1 hC.2.1 (hC.2.2.1.trans h.2.2.2.1.1.symm) hC.2.2.2.1 (hts _ hl) (hts _ bg_w_m1.1) (hts _ bg_w_m1.2.1) (hts _ bg_w_m1.2.2) hRf (by rw [bg_cats_eq]; omega) h1 h2 hd ?_
  have hz := hk ad H locs ls (h.stk (bg_vk2 trivial (bg_tl (bg_tl h.vk))))
  have e1 : (if Int32.ofInt x < Int32.ofInt y then Int32.ofInt y else Int32.ofInt x) = Int32.ofInt (if bg_w x < bg_w y then y else x) := by
    simp only [Int32.lt_iff_toInt_lt]
    show (if bg_w x < bg_w y then Int32.ofInt y else Int32.ofInt x) = _
    split <;> rfl
  rw [e1]
  exact hz
theorem sm_mmin (hC : bg_Cx p s m args meth c D cy A M) {i : Nat} {x y : Int} (hRf : 1 ≤ R.frames) (hRl : 200 ≤ R.locals) (h1 : cn.1 ≤ R.cells) (h2 : cn.2 ≤ R.slots) (hd : decode M.2.1 pc = .ok (.invokestatic i, 3)) (hl : Cond.methodLink M.1.cls i Lib.Math.min.name ∈ bg_tbl) (h8 : bg_cats r ≤ 8) (hk : bg_Sim p l e R s m args below meth c Q D cy A E0 M.2.2.1 (pc + 3, L, .inl (if bg_w y < bg_w x then y else x) :: r, Hh, cn)) : bg_Sim p l e R s m args below meth c Q D cy A E0 M.2.2.1 (pc, L, .inl y :: .inl x :: r, Hh, cn) := by
  intro ad H locs ls h
  have hts := hC.2.2.2.2.1
  refine va_mmin hC.1 hC.2.1 (hC.2.2.1.trans h.2.2.2.1.1.symm) hC.2.2.2.1 (hts _ hl) (hts _ bg_w_m2.1) (hts _ bg_w_m1.2.1) (hts _ bg_w_m2.2) hRf (by rw [bg_cats_eq]; omega) h1 h2 hd ?_
  have hz := hk ad H locs ls (h.stk (bg_vk2 trivial (bg_tl (bg_tl h.vk))))
  have e1 : (if Int32.ofInt y < Int32.ofInt x then Int32.ofInt y else Int32.ofInt x) = Int32.ofInt (if bg_w y < bg_w x then y else x) := by
    simp only [Int32.lt_iff_toInt_lt]
    show (if bg_w y < bg_w x then Int32.ofInt y else Int32.ofInt x) = _
    split <;> rfl
  rw [e1]
  exact hz
theorem sm_mmaxl (hC : bg_Cx p s m args meth c D cy A M) {i : Nat} {x y : Int} (hRf : 1 ≤ R.frames) (hRl : 200 ≤ R.locals) (h1 : cn.1 ≤ R.cells) (h2 : cn.2 ≤ R.slots) (hd : decode M.2.1 pc = .ok (.invokestatic i, 3)) (hl : Cond.methodLink M.1.cls i Lib.MathLoose.max_long.x ∈ bg_tbl) (h8 : bg_cats r ≤ 8) (hk : bg_Sim p l e R s m args below meth c Q D cy A E0 M.2.2.1 (pc + 3, L, .inr (.inl (if bg_W y < bg_W x then x else y)) :: r, Hh, cn)) : bg_Sim p l e R s m args below meth c Q D cy A E0 M.2.2.1 (pc, L, .inr (.inl y) :: .inr (.inl x) :: r, Hh, cn) := by
  exfalso
  have h0 := (List.mem_filter.mp hl).1
  have h1 := List.all_eq_true.mp bg_no_m3 _ h0
  simp [bg_isl] at h1
end BgD
end
section
section BgE
variable {p : Program} {l : Launch} {e : Env} {R : Room} {s : State} {m : MethodId} {args : Array Value} {below : List Frame} {meth : Method} {c : Code} {Q : State → Prop} {D : va_G} {cy : Nat → ClassId} {A : Nat → Prop} {M : bg_M} {E0 : (Nat → Nat) × bg_H}
variable {pc nx : Nat} {L : bg_L} {st r : List bg_V} {Hh : bg_H} {cn : Nat × Nat}
theorem bg_fl_of {own : String} {i a b : Nat} {d : Int} (h : bg_fl own i a b d = true) : ∃ (C : String) (T : u_T) (N : Nat), bg_nth bg_cls a = some (C, T, N) ∧ b < N ∧ Cond.fieldLink own i C (T b).2.1 (T b).2.2.1 ∈ bg_tbl := by
  unfold bg_fl at h
  split at h
  · rename_i C T N hc
    rw [Bool.and_eq_true] at h
    exact ⟨C, T, N, hc, Nat.le_of_ble_eq_true h.1, bg_wd_in h.2⟩
  · cases h
theorem bg_if_of {b : Bool} {f : Prop} (h : bg_if b f) : b = true ∧ f := by
  cases b with
  | true => exact ⟨rfl, h⟩
  | false => exact h.elim
theorem bg_at_of {H : bg_H} {k : Nat} {f : Nat → Nat → List (Option Nat) → Prop} (h : bg_at H k f) : ∃ c0 : bg_C, bg_nth H.1 k = some c0 ∧ f c0.1 c0.2.1 c0.2.2 := by
  unfold bg_at at h
  split at h
  · rename_i c n rs hc
    exact ⟨(c, n, rs), hc, h⟩
  · exact h.elim
theorem bg_cls_w : ∀ (a : Nat) (C : String) (T : u_T) (N : Nat), bg_nth bg_cls a = some (C, T, N) → Cond.instantiable C N ∈ bg_tbl ∧ Cond.initialized C ∈ bg_tbl ∧ N < 100
  | 0, _, _, _, h => by cases h; decide +kernel
  | 1, _, _, _, h => by cases h; decide +kernel
  | 2, _, _, _, h => by cases h; decide +kernel
  | 3, _, _, _, h => by cases h; decide +kernel
  | 4, _, _, _, h => by cases h; decide +kernel
  | 5, _, _, _, h => by cases h; decide +kernel
  | 6, _, _, _, h => by cases h; decide +kernel
  | 7, _, _, _, h => by cases h; decide +kernel
  | 8, _, _, _, h => by cases h; decide +kernel
  | 9, _, _, _, h => by cases h; decide +kernel
  | n + 10, _, _, _, h => by simp [bg_nth] at h
set_option maxHeartbeats 4000000 in
theorem bg_step (hC : bg_Cx p s m args meth c D cy A M) {d : Nat} (hM : bg_Met l d) (hRf : d + 1 ≤ R.frames) (hRl : 200 * (d + 1) ≤ R.locals) {mx : Nat × Nat} (hRc : mx.1 ≤ R.cells) (hRs : mx.2 ≤ R.slots) {Rt : bg_R}
    (hI : ∀ (pc : Nat) (L : bg_L) (x : Int) (Hh : bg_H) (cn : Nat × Nat), decode M.2.1 pc = .ok (.ireturn, 1) → (M.2.2.2.1 = some .int ∨ (M.2.2.2.1 = some .boolean ∧ (x = 0 ∨ x = 1))) → cn.1 ≤ mx.1 → cn.2 ≤ mx.2 → Rt (some (.inl x)) Hh → bg_Sim p l e R s m args below meth c Q D cy A E0 M.2.2.1 (pc, L, [.inl x], Hh, cn))
    (hJ : ∀ (pc : Nat) (L : bg_L) (x : Int) (Hh : bg_H) (cn : Nat × Nat), decode M.2.1 pc = .ok (.lreturn, 1) → M.2.2.2.1 = some .long → cn.1 ≤ mx.1 → cn.2 ≤ mx.2 → Rt (some (.inr (.inl x))) Hh → bg_Sim p l e R s m args below meth c Q D cy A E0 M.2.2.1 (pc, L, [.inr (.inl x)], Hh, cn))
    (hV : ∀ (pc : Nat) (L : bg_L) (Hh : bg_H) (cn : Nat × Nat), decode M.2.1 pc = .ok (.return_, 1) → M.2.2.2.1 = none → cn.1 ≤ mx.1 → cn.2 ≤ mx.2 → Rt none Hh → bg_Sim p l e R s m args below meth c Q D cy A E0 M.2.2.1 (pc, L, [], Hh, cn))
    {q : bg_I} (hok : bg_ok1 M pc q = true) (hkq : bg_kq q = true) (hw : bg_wp (bg_Ca bg_MS d) mx q L st Hh cn (bg_Sim p l e R s m args below meth c Q D cy A E0 M.2.2.1) Rt) : bg_Sim p l e R s m args below meth c Q D cy A E0 M.2.2.1 (pc, L, st, Hh, cn) := by
  obtain ⟨ins, nx, a, b, t, dd, ps⟩ := q
  cases ins with
  | iconst n =>
    simp only [bg_ok1, Bool.and_eq_true, decide_eq_true_eq] at hok
    obtain ⟨⟨hd, rfl⟩, rfl⟩ := hok
    exact sm_iconst hC hd hw
  | bipush n =>
    simp only [bg_ok1, Bool.and_eq_true, decide_eq_true_eq] at hok
    obtain ⟨⟨hd, rfl⟩, rfl, h1, h2⟩ := hok
    exact sm_bipush hC hd ⟨h1, h2⟩ hw
  | sipush n =>
    simp only [bg_ok1, Bool.and_eq_true, decide_eq_true_eq] at hok
    obtain ⟨⟨hd, rfl⟩, rfl, h1, h2⟩ := hok
    exact sm_sipush hC hd ⟨h1, h2⟩ hw
  | lconst n =>
    simp only [bg_ok1, Bool.and_eq_true, decide_eq_true_eq] at hok
    obtain ⟨⟨hd, rfl⟩, h1⟩ := hok
    exact sm_lconst hC hd h1 hw
  | ldc i =>
    simp only [bg_ok1, Bool.and_eq_true, decide_eq_true_eq] at hok
    obtain ⟨⟨hd, rfl⟩, h1⟩ := hok
    exact sm_ldc hC hd (bg_wd_in h1) hw
  | ldc_w i =>
    simp only [bg_ok1, Bool.and_eq_true, decide_eq_true_eq] at hok
    obtain ⟨⟨hd, rfl⟩, h1⟩ := hok
    exact sm_ldc_w hC hd (bg_wd_in h1) hw
  | ldc2_w i =>
    simp only [bg_ok1, Bool.and_eq_true, decide_eq_true_eq] at hok
    obtain ⟨⟨hd, rfl⟩, h1⟩ := hok
    exact sm_ldc2 hC hd (bg_wd_in h1) hw
  | iload i =>
    simp only [bg_ok1, Bool.and_eq_true, decide_eq_true_eq] at hok
    obtain ⟨⟨hd, rfl⟩, rfl⟩ := hok
    simp only [bg_wp, bg_ldi] at hw
    split at hw
    · rename_i x hx
      exact sm_iload hC hd hx hw
    · exact hw.elim
  | iload_n i =>
    simp only [bg_ok1, Bool.and_eq_true, decide_eq_true_eq] at hok
    obtain ⟨⟨hd, rfl⟩, h1⟩ := hok
    simp only [bg_wp, bg_ldi] at hw
    split at hw
    · rename_i x hx
      exact sm_iload_n hC hd h1 hx hw
    · exact hw.elim
  | lload i =>
    simp only [bg_ok1, Bool.and_eq_true, decide_eq_true_eq] at hok
    obtain ⟨⟨hd, rfl⟩, rfl⟩ := hok
    simp only [bg_wp, bg_ldl] at hw
    split at hw
    · rename_i x hx
      exact sm_lload hC hd hx hw
    · exact hw.elim
  | lload_n i =>
    simp only [bg_ok1, Bool.and_eq_true, decide_eq_true_eq] at hok
    obtain ⟨⟨hd, rfl⟩, h1⟩ := hok
    simp only [bg_wp, bg_ldl] at hw
    split at hw
    · rename_i x hx
      exact sm_lload_n hC hd h1 hx hw
    · exact hw.elim
  | aload i =>
    simp only [bg_ok1, Bool.and_eq_true, decide_eq_true_eq] at hok
    obtain ⟨⟨hd, rfl⟩, rfl⟩ := hok
    simp only [bg_wp, bg_lda] at hw
    split at hw
    · rename_i x hx
      exact sm_aload hC hd hx hw
    · exact hw.elim
  | aload_n i =>
    simp only [bg_ok1, Bool.and_eq_true, decide_eq_true_eq] at hok
    obtain ⟨⟨hd, rfl⟩, h1⟩ := hok
    simp only [bg_wp, bg_lda] at hw
    split at hw
    · rename_i x hx
      exact sm_aload_n hC hd h1 hx hw
    · exact hw.elim
  | istore i =>
    simp only [bg_ok1, Bool.and_eq_true, decide_eq_true_eq] at hok
    obtain ⟨⟨hd, rfl⟩, rfl, h1⟩ := hok
    simp only [bg_wp, bg_p1] at hw
    split at hw
    · exact sm_istore hC hd h1 hw
    · exact hw.elim
  | istore_n i =>
    simp only [bg_ok1, Bool.and_eq_true, decide_eq_true_eq] at hok
    obtain ⟨⟨hd, rfl⟩, h1, h2⟩ := hok
    simp only [bg_wp, bg_p1] at hw
    split at hw
    · exact sm_istore_n hC hd h1 h2 hw
    · exact hw.elim
  | lstore i =>
    simp only [bg_ok1, Bool.and_eq_true, decide_eq_true_eq] at hok
    obtain ⟨⟨hd, rfl⟩, rfl, h1⟩ := hok
    simp only [bg_wp, bg_q1] at hw
    split at hw
    · exact sm_lstore hC hd h1 hw
    · exact hw.elim
  | lstore_n i =>
    simp only [bg_ok1, Bool.and_eq_true, decide_eq_true_eq] at hok
    obtain ⟨⟨hd, rfl⟩, h1, h2⟩ := hok
    simp only [bg_wp, bg_q1] at hw
    split at hw
    · exact sm_lstore_n hC hd h1 h2 hw
    · exact hw.elim
  | astore_n i =>
    simp only [bg_ok1, Bool.and_eq_true, decide_eq_true_eq] at hok
    obtain ⟨⟨hd, rfl⟩, h1, h2⟩ := hok
    simp only [bg_wp, bg_r1] at hw
    split at hw
    · exact sm_astore_n hC hd h1 h2 hw
    · exact hw.elim
  | iinc i n =>
    simp only [bg_ok1, Bool.and_eq_true, decide_eq_true_eq] at hok
    obtain ⟨⟨hd, rfl⟩, rfl, rfl, h1⟩ := hok
    simp only [bg_wp, bg_ldi] at hw
    split at hw
    · rename_i x hx
      exact sm_iinc hC hd h1 hx hw
    · exact hw.elim
  | iadd =>
    simp only [bg_ok1, Bool.and_eq_true, decide_eq_true_eq] at hok
    obtain ⟨⟨hd, rfl⟩, -⟩ := hok
    simp only [bg_wp, bg_p2] at hw
    split at hw
    · exact sm_iadd hC hd hw
    · exact hw.elim
  | isub =>
    simp only [bg_ok1, Bool.and_eq_true, decide_eq_true_eq] at hok
    obtain ⟨⟨hd, rfl⟩, -⟩ := hok
    simp only [bg_wp, bg_p2] at hw
    split at hw
    · exact sm_isub hC hd hw
    · exact hw.elim
  | imul =>
    simp only [bg_ok1, Bool.and_eq_true, decide_eq_true_eq] at hok
    obtain ⟨⟨hd, rfl⟩, -⟩ := hok
    simp only [bg_wp, bg_p2] at hw
    split at hw
    · exact sm_imul hC hd hw
    · exact hw.elim
  | iand =>
    simp only [bg_ok1, Bool.and_eq_true, decide_eq_true_eq] at hok
    obtain ⟨⟨hd, rfl⟩, -⟩ := hok
    simp only [bg_wp, bg_p2] at hw
    split at hw
    · exact sm_iand hC hd hw
    · exact hw.elim
  | ior =>
    simp only [bg_ok1, Bool.and_eq_true, decide_eq_true_eq] at hok
    obtain ⟨⟨hd, rfl⟩, -⟩ := hok
    simp only [bg_wp, bg_p2] at hw
    split at hw
    · exact sm_ior hC hd hw
    · exact hw.elim
  | ixor =>
    simp only [bg_ok1, Bool.and_eq_true, decide_eq_true_eq] at hok
    obtain ⟨⟨hd, rfl⟩, -⟩ := hok
    simp only [bg_wp, bg_p2] at hw
    split at hw
    · exact sm_ixor hC hd hw
    · exact hw.elim
  | ishl =>
    simp only [bg_ok1, Bool.and_eq_true, decide_eq_true_eq] at hok
    obtain ⟨⟨hd, rfl⟩, -⟩ := hok
    simp only [bg_wp, bg_p2] at hw
    split at hw
    · exact sm_ishl hC hd hw
    · exact hw.elim
  | ishr =>
    simp only [bg_ok1, Bool.and_eq_true, decide_eq_true_eq] at hok
    obtain ⟨⟨hd, rfl⟩, -⟩ := hok
    simp only [bg_wp, bg_p2] at hw
    split at hw
    · exact sm_ishr hC hd hw
    · exact hw.elim
  | iushr =>
    simp only [bg_ok1, Bool.and_eq_true, decide_eq_true_eq] at hok
    obtain ⟨⟨hd, rfl⟩, -⟩ := hok
    simp only [bg_wp, bg_p2] at hw
    split at hw
    · exact sm_iushr hC hd hw
    · exact hw.elim
  | idiv =>
    simp only [bg_ok1, Bool.and_eq_true, decide_eq_true_eq] at hok
    obtain ⟨⟨hd, rfl⟩, -⟩ := hok
    simp only [bg_wp, bg_p2] at hw
    split at hw
    · exact sm_idiv hC hd hw.1 hw.2
    · exact hw.elim
  | irem =>
    simp only [bg_ok1, Bool.and_eq_true, decide_eq_true_eq] at hok
    obtain ⟨⟨hd, rfl⟩, -⟩ := hok
    simp only [bg_wp, bg_p2] at hw
    split at hw
    · exact sm_irem hC hd hw.1 hw.2
    · exact hw.elim
  | ineg =>
    simp only [bg_ok1, Bool.and_eq_true, decide_eq_true_eq] at hok
    obtain ⟨⟨hd, rfl⟩, -⟩ := hok
    simp only [bg_wp, bg_p1] at hw
    split at hw
    · exact sm_ineg hC hd hw
    · exact hw.elim
  | ladd =>
    simp only [bg_ok1, Bool.and_eq_true, decide_eq_true_eq] at hok
    obtain ⟨⟨hd, rfl⟩, -⟩ := hok
    simp only [bg_wp, bg_q2] at hw
    split at hw
    · exact sm_ladd hC hd hw
    · exact hw.elim
  | lsub =>
    simp only [bg_ok1, Bool.and_eq_true, decide_eq_true_eq] at hok
    obtain ⟨⟨hd, rfl⟩, -⟩ := hok
    simp only [bg_wp, bg_q2] at hw
    split at hw
    · exact sm_lsub hC hd hw
    · exact hw.elim
  | lmul =>
    simp only [bg_ok1, Bool.and_eq_true, decide_eq_true_eq] at hok
    obtain ⟨⟨hd, rfl⟩, -⟩ := hok
    simp only [bg_wp, bg_q2] at hw
    split at hw
    · exact sm_lmul hC hd hw
    · exact hw.elim
  | land =>
    simp only [bg_ok1, Bool.and_eq_true, decide_eq_true_eq] at hok
    obtain ⟨⟨hd, rfl⟩, -⟩ := hok
    simp only [bg_wp, bg_q2] at hw
    split at hw
    · exact sm_land hC hd hw
    · exact hw.elim
  | lor =>
    simp only [bg_ok1, Bool.and_eq_true, decide_eq_true_eq] at hok
    obtain ⟨⟨hd, rfl⟩, -⟩ := hok
    simp only [bg_wp, bg_q2] at hw
    split at hw
    · exact sm_lor hC hd hw
    · exact hw.elim
  | lcmp =>
    simp only [bg_ok1, Bool.and_eq_true, decide_eq_true_eq] at hok
    obtain ⟨⟨hd, rfl⟩, -⟩ := hok
    simp only [bg_wp, bg_q2] at hw
    split at hw
    · exact sm_lcmp hC hd hw
    · exact hw.elim
  | ldiv =>
    simp only [bg_ok1, Bool.and_eq_true, decide_eq_true_eq] at hok
    obtain ⟨⟨hd, rfl⟩, -⟩ := hok
    simp only [bg_wp, bg_q2] at hw
    split at hw
    · exact sm_ldiv hC hd hw.1 hw.2
    · exact hw.elim
  | lrem =>
    simp only [bg_ok1, Bool.and_eq_true, decide_eq_true_eq] at hok
    obtain ⟨⟨hd, rfl⟩, -⟩ := hok
    simp only [bg_wp, bg_q2] at hw
    split at hw
    · exact sm_lrem hC hd hw.1 hw.2
    · exact hw.elim
  | lneg =>
    simp only [bg_ok1, Bool.and_eq_true, decide_eq_true_eq] at hok
    obtain ⟨⟨hd, rfl⟩, -⟩ := hok
    simp only [bg_wp, bg_q1] at hw
    split at hw
    · exact sm_lneg hC hd hw
    · exact hw.elim
  | lshl =>
    simp only [bg_ok1, Bool.and_eq_true, decide_eq_true_eq] at hok
    obtain ⟨⟨hd, rfl⟩, -⟩ := hok
    simp only [bg_wp, bg_pq] at hw
    split at hw
    · exact sm_lshl hC hd hw
    · exact hw.elim
  | lshr =>
    simp only [bg_ok1, Bool.and_eq_true, decide_eq_true_eq] at hok
    obtain ⟨⟨hd, rfl⟩, -⟩ := hok
    simp only [bg_wp, bg_pq] at hw
    split at hw
    · exact sm_lshr hC hd hw
    · exact hw.elim
  | lushr =>
    simp only [bg_ok1, Bool.and_eq_true, decide_eq_true_eq] at hok
    obtain ⟨⟨hd, rfl⟩, -⟩ := hok
    simp only [bg_wp, bg_pq] at hw
    split at hw
    · exact sm_lushr hC hd hw
    · exact hw.elim
  | i2l =>
    simp only [bg_ok1, Bool.and_eq_true, decide_eq_true_eq] at hok
    obtain ⟨⟨hd, rfl⟩, -⟩ := hok
    simp only [bg_wp, bg_p1] at hw
    split at hw
    · exact sm_i2l hC hd hw
    · exact hw.elim
  | l2i =>
    simp only [bg_ok1, Bool.and_eq_true, decide_eq_true_eq] at hok
    obtain ⟨⟨hd, rfl⟩, -⟩ := hok
    simp only [bg_wp, bg_q1] at hw
    split at hw
    · exact sm_l2i hC hd hw
    · exact hw.elim
  | dup =>
    simp only [bg_ok1, Bool.and_eq_true, decide_eq_true_eq] at hok
    obtain ⟨⟨hd, rfl⟩, -⟩ := hok
    simp only [bg_wp] at hw
    split at hw
    · exact sm_dup_i hC hd hw
    · exact sm_dup_r hC hd hw
    · exact hw.elim
  | dup2 =>
    simp only [bg_ok1, Bool.and_eq_true, decide_eq_true_eq] at hok
    obtain ⟨⟨hd, rfl⟩, -⟩ := hok
    simp only [bg_wp] at hw
    split at hw
    · exact sm_dup2_ir hC hd hw
    · exact sm_dup2_l hC hd hw
    · exact hw.elim
  | goto off =>
    simp only [bg_ok1, Bool.and_eq_true, decide_eq_true_eq] at hok
    obtain ⟨⟨hd, rfl⟩, h1⟩ := hok
    exact sm_goto hC hd h1 hw
  | ifCond cd off =>
    simp only [bg_ok1, Bool.and_eq_true, decide_eq_true_eq] at hok
    obtain ⟨⟨hd, rfl⟩, h1⟩ := hok
    cases cd with
    | eq =>
      simp only [bg_wp, bg_p1] at hw
      split at hw
      · exact sm_if_eq hC hd h1 hw.1 hw.2
      · exact hw.elim
    | ne =>
      simp only [bg_wp, bg_p1] at hw
      split at hw
      · exact sm_if_ne hC hd h1 hw.1 hw.2
      · exact hw.elim
    | lt =>
      simp only [bg_wp, bg_p1] at hw
      split at hw
      · exact sm_if_lt hC hd h1 hw.1 hw.2
      · exact hw.elim
    | ge =>
      simp only [bg_wp, bg_p1] at hw
      split at hw
      · exact sm_if_ge hC hd h1 hw.1 hw.2
      · exact hw.elim
    | gt =>
      simp only [bg_wp, bg_p1] at hw
      split at hw
      · exact sm_if_gt hC hd h1 hw.1 hw.2
      · exact hw.elim
    | le =>
      simp only [bg_wp, bg_p1] at hw
      split at hw
      · exact sm_if_le hC hd h1 hw.1 hw.2
      · exact hw.elim
  | if_icmp cd off =>
    simp only [bg_ok1, Bool.and_eq_true, decide_eq_true_eq] at hok
    obtain ⟨⟨hd, rfl⟩, h1⟩ := hok
    cases cd with
    | eq =>
      simp only [bg_wp, bg_p2] at hw
      split at hw
      · exact sm_icmp_eq hC hd h1 hw.1 hw.2
      · exact hw.elim
    | ne =>
      simp only [bg_wp, bg_p2] at hw
      split at hw
      · exact sm_icmp_ne hC hd h1 hw.1 hw.2
      · exact hw.elim
    | lt =>
      simp only [bg_wp, bg_p2] at hw
      split at hw
      · exact sm_icmp_lt hC hd h1 hw.1 hw.2
      · exact hw.elim
    | ge =>
      simp only [bg_wp, bg_p2] at hw
      split at hw
      · exact sm_icmp_ge hC hd h1 hw.1 hw.2
      · exact hw.elim
    | gt =>
      simp only [bg_wp, bg_p2] at hw
      split at hw
      · exact sm_icmp_gt hC hd h1 hw.1 hw.2
      · exact hw.elim
    | le =>
      simp only [bg_wp, bg_p2] at hw
      split at hw
      · exact sm_icmp_le hC hd h1 hw.1 hw.2
      · exact hw.elim
  | tableswitch df lo hi offs =>
    simp only [bg_ok1, Bool.and_eq_true, decide_eq_true_eq, List.all_eq_true] at hok
    obtain ⟨⟨⟨hd, h1⟩, h2⟩, h3⟩ := hok
    simp only [bg_wp, bg_p1] at hw
    split at hw
    · exact sm_table hC hd h1 h2 h3 hw
    · exact hw.elim
  | lookupswitch df prs =>
    simp only [bg_ok1, Bool.and_eq_true, decide_eq_true_eq] at hok
    obtain ⟨⟨⟨⟨hd, h1⟩, h2⟩, h3⟩, h4⟩ := hok
    simp only [List.all_eq_true (l := prs.toList), decide_eq_true_eq] at h4
    simp only [bg_wp, bg_p1] at hw
    split at hw
    · rw [h3] at hw
      exact sm_lookup hC hd h1 h2 h4 hw
    · exact hw.elim
  | getstatic i =>
    simp only [bg_ok1, Bool.and_eq_true, decide_eq_true_eq] at hok
    obtain ⟨⟨hd, rfl⟩, h1⟩ := hok
    exact sm_getstatic hC hd (bg_wd_in h1) hw
  | getfield i =>
    simp only [bg_ok1, Bool.and_eq_true, decide_eq_true_eq] at hok
    obtain ⟨⟨hd, rfl⟩, ⟨h1, h2⟩, h3⟩ := hok
    obtain ⟨C, T, N, hcl, hb, hwd⟩ := bg_fl_of h1
    simp only [bg_wp, bg_r1] at hw
    split at hw
    · rename_i k r
      obtain ⟨c0, hc, hw1⟩ := bg_at_of hw
      obtain ⟨he, hw2⟩ := bg_if_of hw1
      clear hw hw1
      have hw := hw2
      clear hw2
      have he : c0.1 = a := Nat.eq_of_beq_eq_true he
      subst he
      split at hw
      · refine sm_getfield hC hd hc hcl hb hwd (v := .inl (Hh.2 k b)) (fun ad => ?_) (fun _ _ => trivial) hw
        unfold bg_fd
        revert h2
        generalize bg_tg c0.1 b = tg
        intro h2
        match tg, h2 with
        | 0, _ => rfl
        | 3, _ => rfl
        | 1, h2 => cases h2
        | 2, h2 => cases h2
        | n + 4, h2 => cases h2
      · refine sm_getfield hC hd hc hcl hb hwd (v := .inr (.inl (Hh.2 k b))) (fun ad => ?_) (fun _ _ => trivial) hw
        unfold bg_fd
        revert h2
        generalize bg_tg c0.1 b = tg
        intro h2
        match tg, h2 with
        | 1, _ => rfl
        | 0, h2 => cases h2
        | 3, h2 => cases h2
        | 2, h2 => cases h2
        | n + 4, h2 => cases h2
      · rename_i hn0 hn1
        have ht2 : t = 2 := by
          have : t ≠ 0 := hn0
          have : t ≠ 1 := hn1
          omega
        subst ht2
        split at hw
        · rename_i oo ho
          have hg : c0.2.2.getD b none = oo := by rw [List.getD_eq_getElem?_getD, ← bg_nth_eq, ho]; rfl
          refine sm_getfield hC hd hc hcl hb hwd (v := .inr (.inr oo)) (fun ad => ?_) (fun hwf hk2 => ?_) hw
          · unfold bg_fd
            rw [hg]
            revert h2
            generalize bg_tg c0.1 b = tg
            intro h2
            match tg, h2 with
            | 2, _ => rfl
            | 0, h2 => cases h2
            | 1, h2 => cases h2
            | 3, h2 => cases h2
            | n + 4, h2 => rfl
          · cases oo with
            | none => trivial
            | some x => exact (hwf.2 k c0 hc hk2).2.2.2.1 _ x hg
        · exact hw.elim
    · exact hw.elim
  | putfield i =>
    simp only [bg_ok1, Bool.and_eq_true, decide_eq_true_eq] at hok
    obtain ⟨⟨hd, rfl⟩, ⟨⟨h1, h2⟩, h3⟩, h4⟩ := hok
    obtain ⟨C, T, N, hcl, hb, hwd⟩ := bg_fl_of h1
    rw [hcl] at h4
    simp only [Bool.or_eq_true, Bool.and_eq_true, decide_eq_true_eq] at h4
    have htt := bg_cls_tg _ _ _ _ hcl b hb
    rw [← h2] at htt
    simp only [bg_wp] at hw
    split at hw
    · rename_i x k r
      obtain ⟨c0, hc, hw1⟩ := bg_at_of hw
      obtain ⟨he, hw2⟩ := bg_if_of hw1
      clear hw hw1
      have hw := hw2
      clear hw2
      have he : c0.1 = a := Nat.eq_of_beq_eq_true he
      subst he
      split at hw
      · refine sm_putnum hC hd hc hcl hb hwd h4 (v := .inl x) rfl (fun ad => ?_) (fun ad => ?_) (fun ad g hg => ?_) hw
        · revert htt
          generalize bg_tyOf c0.1 b = ty
          intro htt
          cases ty <;> first | rfl | cases htt
        · revert htt
          generalize bg_tyOf c0.1 b = ty
          intro htt
          cases ty <;> first | rfl | cases htt
        · unfold bg_fd
          rw [← h2, hg]
          rfl
      · refine sm_putnum hC hd hc hcl hb hwd h4 (v := .inl x) rfl (fun ad => ?_) (fun ad => ?_) (fun ad g hg => ?_) hw.2
        · revert htt
          generalize bg_tyOf c0.1 b = ty
          intro htt
          rcases hw.1 with rfl | rfl <;> (cases ty <;> first | rfl | cases htt)
        · revert htt
          generalize bg_tyOf c0.1 b = ty
          intro htt
          rcases hw.1 with rfl | rfl <;> (cases ty <;> first | rfl | cases htt)
        · unfold bg_fd
          rw [← h2, hg]
          rfl
      · exact hw.elim
    · rename_i x k r
      obtain ⟨c0, hc, hw1⟩ := bg_at_of hw
      obtain ⟨he, hw2⟩ := bg_if_of hw1
      clear hw hw1
      have hw := hw2
      clear hw2
      rw [Bool.and_eq_true] at he
      have he1 : c0.1 = a := Nat.eq_of_beq_eq_true he.1
      have he2 : t = 1 := Nat.eq_of_beq_eq_true he.2
      subst he1
      subst he2
      refine sm_putnum hC hd hc hcl hb hwd h4 (v := .inr (.inl x)) rfl (fun ad => ?_) (fun ad => ?_) (fun ad g hg => ?_) hw
      · revert htt
        generalize bg_tyOf c0.1 b = ty
        intro htt
        cases ty <;> first | rfl | cases htt
      · revert htt
        generalize bg_tyOf c0.1 b = ty
        intro htt
        cases ty <;> first | rfl | cases htt
      · unfold bg_fd
        rw [← h2, hg]
        rfl
    · rename_i oo k r
      obtain ⟨c0, hc, hw1⟩ := bg_at_of hw
      obtain ⟨he, hw2⟩ := bg_if_of hw1
      clear hw hw1
      have hw := hw2
      clear hw2
      rw [Bool.and_eq_true, Bool.and_eq_true] at he
      have he1 : c0.1 = a := Nat.eq_of_beq_eq_true he.1.1
      have he2 : t = 2 := Nat.eq_of_beq_eq_true he.1.2
      subst he1
      subst he2
      exact sm_putref hC hd hc hcl hb hwd h4 h2.symm (Nat.le_of_ble_eq_true he.2) hw
    · exact hw.elim
  | arraylength =>
    simp only [bg_ok1, Bool.and_eq_true, decide_eq_true_eq] at hok
    obtain ⟨⟨hd, rfl⟩, -⟩ := hok
    simp only [bg_wp, bg_r1] at hw
    split at hw
    · obtain ⟨c0, hc, hw⟩ := bg_at_of hw
      obtain ⟨he, hw⟩ := bg_if_of hw
      exact sm_alen hC hd hc (Nat.le_of_ble_eq_true he) hw
    · exact hw.elim
  | iaload =>
    simp only [bg_ok1, Bool.and_eq_true, decide_eq_true_eq] at hok
    obtain ⟨⟨hd, rfl⟩, -⟩ := hok
    simp only [bg_wp, bg_pr] at hw
    split at hw
    · obtain ⟨c0, hc, hw⟩ := bg_at_of hw
      obtain ⟨he, hw⟩ := bg_if_of hw
      rw [Bool.or_eq_true] at he
      exact sm_iaload hC hd hc (he.imp Nat.eq_of_beq_eq_true Nat.eq_of_beq_eq_true) hw.1 hw.2
    · exact hw.elim
  | laload =>
    simp only [bg_ok1, Bool.and_eq_true, decide_eq_true_eq] at hok
    obtain ⟨⟨hd, rfl⟩, -⟩ := hok
    simp only [bg_wp, bg_pr] at hw
    split at hw
    · obtain ⟨c0, hc, hw⟩ := bg_at_of hw
      obtain ⟨he, hw⟩ := bg_if_of hw
      exact sm_laload hC hd hc (Nat.eq_of_beq_eq_true he) hw.1 hw.2
    · exact hw.elim
  | aaload =>
    simp only [bg_ok1, Bool.and_eq_true, decide_eq_true_eq] at hok
    obtain ⟨⟨hd, rfl⟩, -⟩ := hok
    simp only [bg_wp, bg_pr] at hw
    split at hw
    · obtain ⟨c0, hc, hw⟩ := bg_at_of hw
      obtain ⟨he, hw⟩ := bg_if_of hw
      rw [Bool.and_eq_true] at he
      obtain ⟨hi, hw⟩ := hw
      split at hw
      · rename_i oo ho
        exact sm_aaload hC hd hc (Nat.le_of_ble_eq_true he.1) (Nat.le_of_ble_eq_true he.2) hi ho hw
      · exact hw.elim
    · exact hw.elim
  | iastore =>
    simp only [bg_ok1, Bool.and_eq_true, decide_eq_true_eq] at hok
    obtain ⟨⟨hd, rfl⟩, -⟩ := hok
    simp only [bg_wp] at hw
    split at hw
    · obtain ⟨c0, hc, hw⟩ := bg_at_of hw
      obtain ⟨he, hw⟩ := bg_if_of hw
      exact sm_iastore hC hd hc (Nat.eq_of_beq_eq_true he) hw.1 hw.2
    · exact hw.elim
  | lastore =>
    simp only [bg_ok1, Bool.and_eq_true, decide_eq_true_eq] at hok
    obtain ⟨⟨hd, rfl⟩, -⟩ := hok
    simp only [bg_wp] at hw
    split at hw
    · obtain ⟨c0, hc, hw⟩ := bg_at_of hw
      obtain ⟨he, hw⟩ := bg_if_of hw
      exact sm_lastore hC hd hc (Nat.eq_of_beq_eq_true he) hw.1 hw.2
    · exact hw.elim
  | aastore =>
    simp only [bg_ok1, Bool.and_eq_true, decide_eq_true_eq] at hok
    obtain ⟨⟨hd, rfl⟩, -⟩ := hok
    simp only [bg_wp] at hw
    split at hw
    · obtain ⟨c0, hc, hw⟩ := bg_at_of hw
      obtain ⟨c1, hc1, hw⟩ := bg_at_of hw
      obtain ⟨he, hw⟩ := bg_if_of hw
      rw [Bool.or_eq_true, Bool.and_eq_true, Bool.and_eq_true] at he
      exact sm_aastore hC hd hc hc1 (he.imp (fun h => ⟨Nat.eq_of_beq_eq_true h.1, Nat.eq_of_beq_eq_true h.2⟩) (fun h => ⟨Nat.eq_of_beq_eq_true h.1, Nat.eq_of_beq_eq_true h.2⟩)) hw.1 hw.2
    · exact hw.elim
  | new i =>
    simp only [bg_ok1, Bool.and_eq_true, decide_eq_true_eq] at hok
    obtain ⟨⟨hd, rfl⟩, h1⟩ := hok
    split at h1
    · rename_i C T N hcl
      simp only [Bool.and_eq_true, decide_eq_true_eq] at h1
      obtain ⟨rfl, h1⟩ := h1
      obtain ⟨he, hw⟩ := bg_if_of hw
      rw [Bool.and_eq_true] at he
      obtain ⟨w2, w3, hN⟩ := bg_cls_w _ _ _ _ hcl
      exact sm_new hC hd hcl (bg_wd_in h1) w2 w3 (Nat.le_trans (Nat.le_of_ble_eq_true he.1) hRc) (Nat.le_trans (Nat.le_of_ble_eq_true he.2) hRs) (by omega) hw
    · cases h1
  | newarray ty =>
    simp only [bg_ok1, Bool.and_eq_true, decide_eq_true_eq] at hok
    obtain ⟨⟨hd, rfl⟩, h1, h2⟩ := hok
    simp only [Bool.or_eq_true, decide_eq_true_eq] at h1
    simp only [bg_wp, bg_p1] at hw
    split at hw
    · obtain ⟨he, hw1⟩ := bg_if_of hw
      clear hw
      rw [Bool.and_eq_true] at he
      obtain ⟨rfl, hw⟩ := hw1
      exact sm_newarray hC hd h1 h2 (Nat.le_trans (Nat.le_of_ble_eq_true he.1) hRc) (Nat.le_trans (Nat.le_of_ble_eq_true he.2) hRs) hw
    · exact hw.elim
  | anewarray i =>
    simp only [bg_ok1, Bool.and_eq_true, decide_eq_true_eq] at hok
    obtain ⟨⟨hd, rfl⟩, h1, h2⟩ := hok
    simp only [Bool.or_eq_true, Bool.and_eq_true, decide_eq_true_eq] at h1
    simp only [bg_wp, bg_p1] at hw
    split at hw
    · obtain ⟨he, hw1⟩ := bg_if_of hw
      clear hw
      rw [Bool.and_eq_true] at he
      obtain ⟨rfl, hw⟩ := hw1
      rcases h1 with ⟨rfl, h1⟩ | ⟨rfl, h1⟩
      · exact sm_anewarray (t0 := 2) hC hd (Or.inl rfl) (fun _ => rfl) (bg_wd_in h1) (by simp) h2 (Nat.le_trans (Nat.le_of_ble_eq_true he.1) hRc) (Nat.le_trans (Nat.le_of_ble_eq_true he.2) hRs) hw
      · exact sm_anewarray (t0 := 3) hC hd (Or.inr rfl) (fun _ => rfl) (bg_wd_in h1) (by simp) h2 (Nat.le_trans (Nat.le_of_ble_eq_true he.1) hRc) (Nat.le_trans (Nat.le_of_ble_eq_true he.2) hRs) hw
    · exact hw.elim
  | multianewarray i n =>
    simp only [bg_ok1, Bool.and_eq_true, decide_eq_true_eq] at hok
    obtain ⟨⟨hd, rfl⟩, ⟨rfl, h1⟩, h2⟩ := hok
    simp only [Bool.or_eq_true, Bool.and_eq_true, decide_eq_true_eq] at h1
    simp only [bg_wp, bg_p2] at hw
    split at hw
    · obtain ⟨he, hw1⟩ := bg_if_of hw
      clear hw
      rw [Bool.and_eq_true] at he
      obtain ⟨⟨rfl, rfl⟩, hw⟩ := hw1
      rcases h1 with ⟨rfl, h1⟩ | ⟨rfl, h1⟩
      · exact sm_multi (ty := .int) hC hd (Or.inl ⟨rfl, rfl⟩) (bg_wd_in h1) h2 (Nat.le_trans (Nat.le_of_ble_eq_true he.1) hRc) (Nat.le_trans (Nat.le_of_ble_eq_true he.2) hRs) hw
      · exact sm_multi (ty := .long) hC hd (Or.inr ⟨rfl, rfl⟩) (bg_wd_in h1) h2 (Nat.le_trans (Nat.le_of_ble_eq_true he.1) hRc) (Nat.le_trans (Nat.le_of_ble_eq_true he.2) hRs) hw
    · exact hw.elim
  | invokevirtual i =>
    simp only [bg_ok1, Bool.and_eq_true, decide_eq_true_eq] at hok
    obtain ⟨⟨hd, rfl⟩, h1⟩ := hok
    split at h1
    · rename_i M' hk
      simp only [Bool.and_eq_true, decide_eq_true_eq] at h1
      obtain ⟨⟨h1, h2⟩, h3⟩ := h1
      simp only [bg_wp] at hw
      split at hw
      · rename_i k as rest hp
        obtain ⟨e1, e2⟩ := bg_pop_eq _ _ _ _ _ hp
        obtain ⟨c0, hc, hw⟩ := bg_at_of hw
        obtain ⟨he0, hw⟩ := bg_if_of hw
        have he0 : c0.1 = t := Nat.eq_of_beq_eq_true he0
        unfold bg_call at hw
        obtain ⟨he, hw⟩ := bg_if_of hw
        simp only [Bool.and_eq_true] at he
        have g1 := Nat.le_trans (Nat.le_of_ble_eq_true he.1.2) hRc
        have g2 := Nat.le_trans (Nat.le_of_ble_eq_true he.2) hRs
        have g3 := Nat.le_of_ble_eq_true he.1.1
        rw [← he0] at h3
        have e1 : st = (Sum.inr (Sum.inr (some k)) :: as).reverse ++ rest := by rw [e1]; rfl
        rw [e1]
        exact sm_callV hC hM hRf hRl hd hk (bg_wd_in h1) h2 (Nat.eq_of_beq_eq_true hkq) hc h3 (by simp at e2; omega) g3 g1 g2 hw
      · exact hw.elim
    · cases h1
  | invokestatic i =>
    simp only [bg_ok1, Bool.and_eq_true, decide_eq_true_eq] at hok
    obtain ⟨⟨hd, rfl⟩, h1⟩ := hok
    simp only [bg_wp] at hw
    split at hw
    · split at hw
      · obtain ⟨c0, hc0, hw⟩ := bg_at_of hw
        obtain ⟨c1, hc1, hw⟩ := bg_at_of hw
        obtain ⟨he, hw⟩ := bg_if_of hw
        simp only [Bool.and_eq_true] at he
        obtain ⟨⟨q1, q2, q3, q4, q5⟩, hw⟩ := hw
        exact sm_copy (k := 0) hC (by omega) (by omega) hd (bg_wd_in h1) hc0 hc1 (Nat.eq_of_beq_eq_true he.1.1) (Nat.eq_of_beq_eq_true he.1.2) (Nat.le_of_ble_eq_true he.2) q1 q2 q3 q4 q5 hw
      · exact hw.elim
    · simp only [bg_p2] at hw
      split at hw
      · obtain ⟨he, hw⟩ := bg_if_of hw
        simp only [Bool.and_eq_true] at he
        exact sm_mmax hC (by omega) (by omega) (Nat.le_trans (Nat.le_of_ble_eq_true he.1.2) hRc) (Nat.le_trans (Nat.le_of_ble_eq_true he.2) hRs) hd (bg_wd_in h1) (Nat.le_of_ble_eq_true he.1.1) hw
      · exact hw.elim
    · simp only [bg_p2] at hw
      split at hw
      · obtain ⟨he, hw⟩ := bg_if_of hw
        simp only [Bool.and_eq_true] at he
        exact sm_mmin hC (by omega) (by omega) (Nat.le_trans (Nat.le_of_ble_eq_true he.1.2) hRc) (Nat.le_trans (Nat.le_of_ble_eq_true he.2) hRs) hd (bg_wd_in h1) (Nat.le_of_ble_eq_true he.1.1) hw
      · exact hw.elim
    · simp only [bg_q2] at hw
      split at hw
      · obtain ⟨he, hw⟩ := bg_if_of hw
        simp only [Bool.and_eq_true] at he
        exact sm_mmaxl hC (by omega) (by omega) (Nat.le_trans (Nat.le_of_ble_eq_true he.1.2) hRc) (Nat.le_trans (Nat.le_of_ble_eq_true he.2) hRs) hd (bg_wd_in h1) (Nat.le_of_ble_eq_true he.1.1) hw
      · exact hw.elim
    · rename_i hn1 hn2 hn3 hn4
      split at h1
      · exact absurd rfl hn1
      · exact absurd rfl hn2
      · exact absurd rfl hn3
      · exact absurd rfl hn4
      · split at h1
        · rename_i M' hk
          simp only [Bool.and_eq_true, decide_eq_true_eq] at h1
          split at hw
          · rename_i as rest hp
            obtain ⟨e1, e2⟩ := bg_pop_eq _ _ _ _ _ hp
            unfold bg_call at hw
            obtain ⟨he, hw⟩ := bg_if_of hw
            simp only [Bool.and_eq_true] at he
            have g1 := Nat.le_trans (Nat.le_of_ble_eq_true he.1.2) hRc
            have g2 := Nat.le_trans (Nat.le_of_ble_eq_true he.2) hRs
            have g3 := Nat.le_of_ble_eq_true he.1.1
            have e1 : st = as.reverse ++ rest := by rw [e1]; rfl
            rw [e1]
            have hkq2 : bg_kd a = 0 := by
              have : t ≠ 1 := hn1
              have : t ≠ 2 := hn2
              have : t ≠ 3 := hn3
              have : t ≠ 4 := hn4
              simp only [bg_kq, Bool.or_eq_true] at hkq
              rcases hkq with h | h
              · rw [Bool.and_eq_true] at h
                have := Nat.le_of_ble_eq_true h.1
                have := Nat.le_of_ble_eq_true h.2
                omega
              · exact Nat.eq_of_beq_eq_true h
            exact sm_callS hC hM hRf hRl hd hk (bg_wd_in h1.1) h1.2 hkq2 (by simp at e2; omega) g3 g1 g2 hw
          · exact hw.elim
        · cases h1
  | invokespecial i =>
    simp only [bg_ok1, Bool.and_eq_true, decide_eq_true_eq] at hok
    obtain ⟨⟨hd, rfl⟩, h1⟩ := hok
    simp only [bg_wp] at hw
    split at hw
    · simp only [bg_r1] at hw
      split at hw
      · obtain ⟨he, hw⟩ := bg_if_of hw
        exact sm_objinit hC (by omega) (by omega) hd (bg_wd_in h1) (Nat.le_of_ble_eq_true he) hw
      · exact hw.elim
    · rename_i hn1
      split at h1
      · exact absurd rfl hn1
      · split at h1
        · rename_i M' hk
          simp only [Bool.and_eq_true, decide_eq_true_eq] at h1
          obtain ⟨⟨⟨h1, h2⟩, h3⟩, h4⟩ := h1
          split at hw
          · rename_i k as rest hp
            obtain ⟨e1, e2⟩ := bg_pop_eq _ _ _ _ _ hp
            unfold bg_call at hw
            obtain ⟨he, hw⟩ := bg_if_of hw
            simp only [Bool.and_eq_true] at he
            have g1 := Nat.le_trans (Nat.le_of_ble_eq_true he.1.2) hRc
            have g2 := Nat.le_trans (Nat.le_of_ble_eq_true he.2) hRs
            have g3 := Nat.le_of_ble_eq_true he.1.1
            have e1 : st = (Sum.inr (Sum.inr (some k)) :: as).reverse ++ rest := by rw [e1]; rfl
            rw [e1]
            have hkq2 : bg_kd a = 2 := by
              simp only [bg_kq, Bool.or_eq_true] at hkq
              rcases hkq with h | h
              · exact absurd (Nat.eq_of_beq_eq_true h) hn1
              · exact Nat.eq_of_beq_eq_true h
            exact sm_callI hC hM hRf hRl hd hk (bg_wd_in h1) h2 hkq2 h3 h4 (by simp at e2; omega) g3 g1 g2 hw
          · exact hw.elim
        · cases h1
  | ireturn =>
    simp only [bg_ok1, Bool.and_eq_true, decide_eq_true_eq] at hok
    obtain ⟨⟨hd, -⟩, h1, h2⟩ := hok
    simp only [bg_wp] at hw
    split at hw
    · obtain ⟨he, hw⟩ := bg_if_of hw
      rw [Bool.and_eq_true] at he
      have g1 := Nat.le_of_ble_eq_true he.1
      have g2 := Nat.le_of_ble_eq_true he.2
      rcases h2 with h2 | h2
      · rw [h2] at h1
        subst h1
        exact hI _ _ _ _ _ hd (Or.inr ⟨h2, hw.1⟩) g1 g2 hw.2
      · rw [h2] at h1
        subst h1
        exact hI _ _ _ _ _ hd (Or.inl h2) g1 g2 hw
    · exact hw.elim
  | lreturn =>
    simp only [bg_ok1, Bool.and_eq_true, decide_eq_true_eq] at hok
    obtain ⟨⟨hd, -⟩, h1⟩ := hok
    simp only [bg_wp] at hw
    split at hw
    · obtain ⟨he, hw⟩ := bg_if_of hw
      rw [Bool.and_eq_true] at he
      exact hJ _ _ _ _ _ hd h1 (Nat.le_of_ble_eq_true he.1) (Nat.le_of_ble_eq_true he.2) hw
    · exact hw.elim
  | return_ =>
    simp only [bg_ok1, Bool.and_eq_true, decide_eq_true_eq] at hok
    obtain ⟨⟨hd, -⟩, h1⟩ := hok
    simp only [bg_wp] at hw
    split at hw
    · obtain ⟨he, hw⟩ := bg_if_of hw
      rw [Bool.and_eq_true] at he
      exact hV _ _ _ _ hd h1 (Nat.le_of_ble_eq_true he.1) (Nat.le_of_ble_eq_true he.2) hw
    · exact hw.elim
  | _ => exact hw.elim
end BgE
end
section
/-! every method's contract -/
theorem bg_lay_nth (ad : Nat → Nat) : ∀ (as : List bg_V) (n i0 j : Nat) (v : bg_V), bg_nth (bg_lay as n) j = some (some v) → (i0 + j, bg_cv ad v) ∈ lv_args i0 (as.map (bg_cv ad)) ∧ v ∈ as
  | [], 0, i0, j, v, h => by simp [bg_lay, bg_nth] at h
  | [], n + 1, i0, 0, v, h => by simp [bg_lay, bg_nth] at h
  | [], n + 1, i0, j + 1, v, h => by
    have := bg_lay_nth ad [] n (i0 + 1) j v (by simpa [bg_lay, bg_nth] using h)
    exact absurd this.2 List.not_mem_nil
  | .inr (.inl x) :: vs, n, i0, 0, v, h => by
    simp [bg_lay, bg_nth] at h
    subst h
    exact ⟨List.mem_cons_self, List.mem_cons_self⟩
  | .inr (.inl x) :: vs, n, i0, 1, v, h => by simp [bg_lay, bg_nth] at h
  | .inr (.inl x) :: vs, n, i0, j + 2, v, h => by
    have := bg_lay_nth ad vs (n - 2) (i0 + 2) j v (by simpa [bg_lay, bg_nth] using h)
    refine ⟨List.mem_cons_of_mem _ ?_, List.mem_cons_of_mem _ this.2⟩
    show (i0 + (j + 2), bg_cv ad v) ∈ lv_args (i0 + 2) _
    rw [show i0 + (j + 2) = i0 + 2 + j by omega]
    exact this.1
  | .inl x :: vs, n, i0, 0, v, h => by
    simp [bg_lay, bg_nth] at h
    subst h
    exact ⟨List.mem_cons_self, List.mem_cons_self⟩
  | .inl x :: vs, n, i0, j + 1, v, h => by
    have := bg_lay_nth ad vs (n - 1) (i0 + 1) j v (by simpa [bg_lay, bg_nth] using h)
    refine ⟨List.mem_cons_of_mem _ ?_, List.mem_cons_of_mem _ this.2⟩
    show (i0 + (j + 1), bg_cv ad v) ∈ lv_args (i0 + 1) _
    rw [show i0 + (j + 1) = i0 + 1 + j by omega]
    exact this.1
  | .inr (.inr o) :: vs, n, i0, 0, v, h => by
    simp [bg_lay, bg_nth] at h
    subst h
    exact ⟨List.mem_cons_self, List.mem_cons_self⟩
  | .inr (.inr o) :: vs, n, i0, j + 1, v, h => by
    have := bg_lay_nth ad vs (n - 1) (i0 + 1) j v (by simpa [bg_lay, bg_nth] using h)
    refine ⟨List.mem_cons_of_mem _ ?_, List.mem_cons_of_mem _ this.2⟩
    have e : (bg_cv ad (.inr (.inr o))).category = 1 := by cases o <;> rfl
    show (i0 + (j + 1), bg_cv ad v) ∈ lv_args (if (bg_cv ad (.inr (.inr o))).category = 2 then i0 + 2 else i0 + 1) _
    rw [e, if_neg (by decide), show i0 + (j + 1) = i0 + 1 + j by omega]
    exact this.1
theorem bg_sl_len (ad : Nat → Nat) : ∀ as : List bg_V, (lg_sl (as.map (bg_cv ad))).length = bg_cats as
  | [] => rfl
  | .inl x :: l => by
    have := bg_sl_len ad l
    simp only [lg_sl, List.map_cons, List.flatMap_cons, List.length_append] at this ⊢
    rw [this]; rfl
  | .inr (.inl x) :: l => by
    have := bg_sl_len ad l
    simp only [lg_sl, List.map_cons, List.flatMap_cons, List.length_append] at this ⊢
    rw [this]; rfl
  | .inr (.inr none) :: l => by
    have := bg_sl_len ad l
    simp only [lg_sl, List.map_cons, List.flatMap_cons, List.length_append] at this ⊢
    rw [this]; rfl
  | .inr (.inr (some x)) :: l => by
    have := bg_sl_len ad l
    simp only [lg_sl, List.map_cons, List.flatMap_cons, List.length_append] at this ⊢
    rw [this]; rfl
/-- the entry: the arguments lie in the locals -/
theorem bg_entry {as : List bg_V} {ml : Nat} (ad : Nat → Nat) (h : bg_cats as ≤ ml) : bg_rl ad (bg_lay as ml) ((lg_sl (as.map (bg_cv ad)) ++ List.replicate (ml - (lg_sl (as.map (bg_cv ad))).length) Slot.unset).toArray) ml := by
  have hl := lv_entry (as.map (bg_cv ad)) (n := ml) (by rw [bg_sl_len]; exact h)
  refine ⟨hl.1, hl.2.1, fun j v hj => ?_⟩
  have := (bg_lay_nth ad as ml 0 j v hj).1
  rw [Nat.zero_add] at this
  exact hl.2.2 _ this
set_option maxHeartbeats 4000000 in
theorem bg_met (l : Launch) : ∀ d : Nat, bg_Met l d
  | 0 => fun k M hk D cy ad Hh sz as Rt hwf has hca => hca.elim
  | d + 1 => fun k M hk D cy ad Hh sz as Rt hwf has hca => by
    obtain ⟨q, -, hm⟩ := bg_kind hk
    simp only [bg_okm, Bool.and_eq_true, decide_eq_true_eq] at hm
    unfold bg_Ca at hca
    rw [hk] at hca
    have hokc := bg_okc_of _ bg_okc_all k M hk
    have hokk : bg_kc M.2.2.2.2.1 = true := by
      have h1 : M ∈ bg_MS := by rw [bg_nth_eq] at hk; exact List.mem_of_getElem? hk
      exact List.all_eq_true.mp bg_kc_all M h1
    obtain ⟨y, bytes, ml, ret, cd, mx, ix⟩ := M
    obtain ⟨hcat, hrun⟩ := bg_if_of hca
    have hcat := Nat.le_of_ble_eq_true hcat
    have hmx : mx = bg_mc k := hm.1.1.2
    refine Met.ofW (cc := bytes) (maxL := ml) (ret := ret) hm.1.1.1.1.1.1 rfl ?_
    intro p e s m args below meth c s₁ B hml hv
    obtain ⟨rfl, hsz, hP, hK, hD0, hAO, hro⟩ := hv
    have hx := B.exec
    have hb := B.bytes
    have hr := B.returns
    have hts := atoms_spec (ws := bg_wds (y, bytes, ml, ret, cd, mx, ix)) B.pre
    have hown : s.vm.findClass y.cls = some m.cls := findClass_of_methodNamed B.named
    have hlocks := B.notSynchronized
    have hnm : meth.name = y.name := (name_of_methodNamed B.named B.method).1
    subst hsz
    have hD := hD0.self (sz := s.heap.size)
    generalize hAe : va_A (bg_ws cy ad Hh) s.heap.size = A at hD hro ⊢
    have hA : ∀ q : Nat, s.heap.size ≤ q → A q := fun q h => by rw [← hAe]; exact Or.inr h
    have hS : va_S A s.heap s.heap [] := va_S.rf
    have hC : bg_Cx p s m (as.map (bg_cv ad)).toArray meth c D cy A (y, bytes, ml, ret, cd, mx, ix) := ⟨hx, hb, hml, hown, fun w hw => hts w (List.mem_cons_of_mem _ hw), hK, hA, hnm, hAO⟩
    rw [lg_entry_eq]
    have key := hrun (bg_Sim p l e (headSpec (bg_wds (y, bytes, ml, ret, cd, mx, ix)) (bg_rm (d + 1) k)).room s m (as.map (bg_cv ad)).toArray below meth c (MQ below (bg_Qc ret D cy A Rt ad Hh) (as.map (bg_cv ad)).toArray s (bg_mc k).1 (bg_mc k).2 A) D cy A (ad, Hh) ml) (fun g hg => ?_)
    · exact key ad s.heap [] _ ⟨hP, hD, hS, bg_entry ad hcat, hwf, hro, fun v hv => absurd hv List.not_mem_nil, fun j v hj => has v (bg_lay_nth ad as ml 0 j v hj).2, fun _ _ => rfl, Nat.le_refl _, rfl, rfl, rfl⟩
    · obtain ⟨pc, L, st, Hg, cn⟩ := g
      simp only [bg_st] at hg
      split at hg
      · rename_i q0 hq0
        refine bg_step (M := (y, bytes, ml, ret, cd, mx, ix)) (R := (headSpec (bg_wds (y, bytes, ml, ret, cd, mx, ix)) (bg_rm (d + 1) k)).room) hC (bg_met l d) (Nat.le_refl _) (Nat.le_refl _) (mx := mx) (by rw [hmx]; exact Nat.le_refl _) (by rw [hmx]; exact Nat.le_refl _) ?_ ?_ ?_ (bg_look_ok cd hokc pc q0 hq0) (bg_look_kq cd hokk pc q0 hq0) hg
        · intro pc L x Hg cn hd hret h1 h2 hRt ad2 H locs ls h
          rw [hmx] at h1 h2
          refine W.widen h1 h2 ?_
          obtain ⟨a1, a2, a3, a4, a5, a6, a7, a8, x1, x2, x3, x4, x5⟩ := h
          have hpo : bg_po Rt ad Hh (ad2, Hg, some (.inl x)) := ⟨hRt, x1, x2, a5, x3, x4, x5⟩
          rcases hret with rfl | ⟨rfl, hbo⟩
          · exact W.iret hx hb hr (fun t ht hW => ⟨⟨Int32.ofInt x, (ad2, Hg, some (.inl x)), rfl, ⟨hpo, x, rfl, rfl⟩, by rw [ht]; exact a1, va_K.moved hW.alike hK, a2⟩, a3.F ht⟩) a3.2.2 hd hlocks
          · refine W.zret hx hb hr ?_ (fun t ht hW => ⟨⟨Int32.ofInt x, (ad2, Hg, some (.inl x)), rfl, ⟨hpo, x, rfl, rfl⟩, by rw [ht]; exact a1, va_K.moved hW.alike hK, a2⟩, a3.F ht⟩) a3.2.2 hd hlocks
            rcases hbo with rfl | rfl <;> rfl
        · intro pc L x Hg cn hd hret h1 h2 hRt ad2 H locs ls h
          rw [hmx] at h1 h2
          have hret : ret = some .long := hret
          subst hret
          refine W.widen h1 h2 ?_
          obtain ⟨a1, a2, a3, a4, a5, a6, a7, a8, x1, x2, x3, x4, x5⟩ := h
          have hpo : bg_po Rt ad Hh (ad2, Hg, some (.inr (.inl x))) := ⟨hRt, x1, x2, a5, x3, x4, x5⟩
          exact W.lret hx hb hr (fun t ht hW => ⟨⟨Int64.ofInt x, (ad2, Hg, some (.inr (.inl x))), rfl, ⟨hpo, x, rfl, rfl⟩, by rw [ht]; exact a1, va_K.moved hW.alike hK, a2⟩, a3.F ht⟩) a3.2.2 hd hlocks
        · intro pc L Hg cn hd hret h1 h2 hRt ad2 H locs ls h
          rw [hmx] at h1 h2
          have hret : ret = none := hret
          subst hret
          refine W.widen h1 h2 ?_
          obtain ⟨a1, a2, a3, a4, a5, a6, a7, a8, x1, x2, x3, x4, x5⟩ := h
          have hpo : bg_po Rt ad Hh (ad2, Hg, none) := ⟨hRt, x1, x2, a5, x3, x4, x5⟩
          exact W.vret hx hb hr (fun t ht hW => ⟨⟨(ad2, Hg, none), rfl, ⟨hpo, rfl⟩, by rw [ht]; exact a1, va_K.moved hW.alike hK, a2⟩, a3.F ht⟩) a3.2.2 hd hlocks
      · exact hg.elim
end
section
/-- the shapes of all cells behind both constructors; the first two are the script and the limits -/
def bg_SH (n : Nat) : List bg_C := (16, n, []) :: (16, 7, []) :: [(8, 14, [some 3, some 6, some 22, some 38, some 41, some 46, some 53, some 56, some 68, some 73, some 74, some 75, some 76, none]), (6, 4, [some 4, some 5, none, none]), (10, 400, []), (10, 7, []), (2, 8, [some 7, some 20, some 21, none, none, none, none, none]), (14, 12, [some 8, some 9, some 10, some 11, some 12, some 13, some 14, some 15, some 16, some 17, some 18, some 19]), (10, 7, []), (10, 7, []), (10, 7, []), (10, 7, []), (10, 7, []), (10, 7, []), (10, 7, []), (10, 7, []), (10, 7, []), (10, 7, []), (10, 7, []), (10, 7, []), (10, 3, []), (10, 3, []), (2, 8, [some 23, some 36, some 37, none, none, none, none, none]), (14, 12, [some 24, some 25, some 26, some 27, some 28, some 29, some 30, some 31, some 32, some 33, some 34, some 35]), (10, 7, []), (10, 7, []), (10, 7, []), (10, 7, []), (10, 7, []), (10, 7, []), (10, 7, []), (10, 7, []), (10, 7, []), (10, 7, []), (10, 7, []), (10, 7, []), (10, 3, []), (10, 3, []), (0, 4, [some 39, some 40, none, none]), (10, 64, []), (10, 12, []), (7, 6, [some 42, some 43, some 44, some 45, none, none]), (10, 2800, []), (10, 400, []), (10, 400, []), (10, 7, []), (4, 12, [some 47, some 48, some 49, some 50, some 51, some 52, none, none, none, none, none, none]), (10, 4096, []), (10, 4096, []), (10, 4096, []), (10, 12, []), (10, 301, []), (10, 301, []), (3, 2, [some 54, some 55]), (10, 4, []), (10, 4, []), (1, 6, [some 57, some 62, some 63, some 64, none, none]), (14, 4, [some 58, some 59, some 60, some 61]), (10, 4, []), (10, 4, []), (10, 4, []), (10, 4, []), (11, 4, []), (11, 4, []), (15, 3, [some 65, some 66, some 67]), (11, 3, []), (11, 3, []), (11, 3, []), (5, 4, [some 69, some 70, some 71, some 72]), (10, 4, []), (10, 4, []), (10, 4, []), (10, 4, []), (10, 12, []), (10, 4, []), (12, 2, [some 77, some 96]), (13, 2, [some 93, some 112]), (2, 8, [some 78, some 91, some 92, none, none, none, none, none]), (14, 12, [some 79, some 80, some 81, some 82, some 83, some 84, some 85, some 86, some 87, some 88, some 89, some 90]), (10, 7, []), (10, 7, []), (10, 7, []), (10, 7, []), (10, 7, []), (10, 7, []), (10, 7, []), (10, 7, []), (10, 7, []), (10, 7, []), (10, 7, []), (10, 7, []), (10, 3, []), (10, 3, []), (3, 2, [some 94, some 95]), (10, 4, []), (10, 4, []), (2, 8, [some 97, some 110, some 111, none, none, none, none, none]), (14, 12, [some 98, some 99, some 100, some 101, some 102, some 103, some 104, some 105, some 106, some 107, some 108, some 109]), (10, 7, []), (10, 7, []), (10, 7, []), (10, 7, []), (10, 7, []), (10, 7, []), (10, 7, []), (10, 7, []), (10, 7, []), (10, 7, []), (10, 7, []), (10, 7, []), (10, 3, []), (10, 3, []), (3, 2, [some 113, some 114]), (10, 4, []), (10, 4, []), (9, 33, [none, some 116, some 117, some 118, some 119, some 120, some 121, some 122, some 123, none, some 124, some 125, none, some 126, none, none, some 127, some 128, none, some 129, some 130, some 131, some 132, none, some 133, some 134, some 135, some 136, none, none, some 137, some 138, some 139]), (10, 400, []), (10, 4, []), (10, 336, []), (10, 4, []), (10, 36, []), (10, 12, []), (10, 12, []), (10, 12, []), (10, 12, []), (10, 4, []), (10, 4096, []), (10, 400, []), (10, 2800, []), (10, 7, []), (10, 12, []), (10, 12, []), (10, 8, []), (10, 8, []), (11, 4096, []), (11, 25, []), (11, 8, []), (10, 8, []), (10, 4, []), (10, 4, [])]
def bg_la : List bg_V → bg_L → bg_L
  | [], r => r
  | .inr (.inl x) :: vs, r => some (.inr (.inl x)) :: none :: bg_la vs r
  | .inl x :: vs, r => some (.inl x) :: bg_la vs r
  | .inr (.inr x) :: vs, r => some (.inr (.inr x)) :: bg_la vs r
def bg_n0 : Nat → bg_L
  | 0 => []
  | n + 1 => none :: bg_n0 n
theorem bg_lay_n0 : ∀ n : Nat, bg_lay [] n = bg_n0 n
  | 0 => by simp [bg_lay, bg_n0]
  | n + 1 => by simp [bg_lay, bg_n0, bg_lay_n0 n]
theorem bg_lay_eq : ∀ (as : List bg_V) (n : Nat), bg_lay as n = bg_la as (bg_n0 (n - bg_cats as))
  | [], n => by simp [bg_la, bg_cats, bg_lay_n0]
  | .inr (.inl x) :: vs, n => by simp [bg_lay, bg_la, bg_cats, bg_lay_eq vs, Nat.sub_sub]
  | .inl x :: vs, n => by simp [bg_lay, bg_la, bg_cats, bg_lay_eq vs, Nat.sub_sub]
  | .inr (.inr x) :: vs, n => by simp [bg_lay, bg_la, bg_cats, bg_lay_eq vs, Nat.sub_sub]
theorem bg_ca {d k ml i : Nat} {y : MethodName} {bytes : ByteArray} {ret : Option FieldType} {cd : bg_K} {mx : Nat × Nat} {as : List bg_V} {H : bg_H} {Rt : bg_R} (hM : bg_nth bg_MS k = some (y, bytes, ml, ret, cd, mx, i)) (hc : Nat.ble (bg_cats as) ml = true) (h : ∀ X : bg_F → Prop, (∀ g, bg_st (bg_Ca bg_MS d) cd mx g X Rt → X g) → X (0, bg_la as (bg_n0 (ml - bg_cats as)), [], H, (0, 0))) : bg_Ca bg_MS (d + 1) k as H Rt := by
  unfold bg_Ca
  rw [hM]
  show bg_if _ _
  rw [hc, bg_lay_eq]
  exact h
theorem bg_w_id {x : Int} (h1 : -2147483648 ≤ x) (h2 : x ≤ 2147483647) : bg_w x = x := by
  unfold bg_w
  rw [Int32.toInt_ofInt, Int.bmod_eq_of_le (by simp; omega) (by simp; omega)]
theorem bg_W_id {x : Int} (h1 : -9223372036854775808 ≤ x) (h2 : x ≤ 9223372036854775807) : bg_W x = x := by
  unfold bg_W
  rw [Int64.toInt_ofInt, Int.bmod_eq_of_le (by simp; omega) (by simp; omega)]
end
