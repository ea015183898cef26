section
-- ===== PART A: goes FIRST, ahead of the names: the tables' words, and 'selects' of the private methods out of them =====
/-- a private method of a class that the tables say can be made, by its rows of tables_1 -/
def lw_okq (q : MethodName × Nat) : Prop := (q.1.cls ≠ "java/lang/invoke/MethodHandle" ∧ q.1.cls ≠ "java/lang/invoke/VarHandle") ∧ Cond.instantiable q.1.cls q.2 ∈ tables_1 ∧ Cond.privateMethod q.1 ∈ tables_1 ∧ Cond.instanceMethod q.1 ∈ tables_1
theorem lw_p0 : lw_okq (⟨"TrouserWash$Kinds", "goOn", "(II)V"⟩, 4) := ⟨⟨by decide +kernel, by decide +kernel⟩, List.mem_of_getElem? (i := 178) (by decide +kernel), List.mem_of_getElem? (i := 475) (by decide +kernel), List.mem_of_getElem? (i := 476) (by decide +kernel)⟩
theorem lw_p1 : lw_okq (⟨"TrouserWash", "countWashed", "()I"⟩, 20) := ⟨⟨by decide +kernel, by decide +kernel⟩, List.mem_of_getElem? (i := 36) (by decide +kernel), List.mem_of_getElem? (i := 517) (by decide +kernel), List.mem_of_getElem? (i := 518) (by decide +kernel)⟩
theorem lw_p2 : lw_okq (⟨"java/lang/Throwable", "fillInStackTrace", "(I)Ljava/lang/Throwable;"⟩, 6) := ⟨⟨by decide +kernel, by decide +kernel⟩, List.mem_of_getElem? (i := 588) (by decide +kernel), List.mem_of_getElem? (i := 586) (by decide +kernel), List.mem_of_getElem? (i := 587) (by decide +kernel)⟩
theorem lw_p3 : lw_okq (⟨"TrouserWash$Text", "skipBlanks", "()V"⟩, 4) := ⟨⟨by decide +kernel, by decide +kernel⟩, List.mem_of_getElem? (i := 44) (by decide +kernel), List.mem_of_getElem? (i := 659) (by decide +kernel), List.mem_of_getElem? (i := 660) (by decide +kernel)⟩
theorem lw_p4 : lw_okq (⟨"TrouserWash$Recipe", "readBath", "(LTrouserWash$Text;)V"⟩, 3) := ⟨⟨by decide +kernel, by decide +kernel⟩, List.mem_of_getElem? (i := 69) (by decide +kernel), List.mem_of_getElem? (i := 663) (by decide +kernel), List.mem_of_getElem? (i := 664) (by decide +kernel)⟩
theorem lw_p5 : lw_okq (⟨"TrouserWash$Text", "refuse", "(I)V"⟩, 4) := ⟨⟨by decide +kernel, by decide +kernel⟩, List.mem_of_getElem? (i := 44) (by decide +kernel), List.mem_of_getElem? (i := 671) (by decide +kernel), List.mem_of_getElem? (i := 672) (by decide +kernel)⟩
theorem lw_p6 : lw_okq (⟨"TrouserWash$Text", "placeAmong", "(Ljava/lang/String;I)I"⟩, 4) := ⟨⟨by decide +kernel, by decide +kernel⟩, List.mem_of_getElem? (i := 44) (by decide +kernel), List.mem_of_getElem? (i := 680) (by decide +kernel), List.mem_of_getElem? (i := 681) (by decide +kernel)⟩
theorem lw_p7 : lw_okq (⟨"TrouserWash$Recipe", "add", "(II)V"⟩, 3) := ⟨⟨by decide +kernel, by decide +kernel⟩, List.mem_of_getElem? (i := 69) (by decide +kernel), List.mem_of_getElem? (i := 734) (by decide +kernel), List.mem_of_getElem? (i := 735) (by decide +kernel)⟩
theorem lw_p8 : lw_okq (⟨"TrouserWash", "tryRecipe", "(II)V"⟩, 20) := ⟨⟨by decide +kernel, by decide +kernel⟩, List.mem_of_getElem? (i := 36) (by decide +kernel), List.mem_of_getElem? (i := 789) (by decide +kernel), List.mem_of_getElem? (i := 790) (by decide +kernel)⟩
theorem lw_p9 : lw_okq (⟨"TrouserWash$Look", "fade", "(II)V"⟩, 6) := ⟨⟨by decide +kernel, by decide +kernel⟩, List.mem_of_getElem? (i := 114) (by decide +kernel), List.mem_of_getElem? (i := 802) (by decide +kernel), List.mem_of_getElem? (i := 803) (by decide +kernel)⟩
theorem lw_p10 : lw_okq (⟨"TrouserWash$Look", "wear", "(II)V"⟩, 6) := ⟨⟨by decide +kernel, by decide +kernel⟩, List.mem_of_getElem? (i := 114) (by decide +kernel), List.mem_of_getElem? (i := 807) (by decide +kernel), List.mem_of_getElem? (i := 808) (by decide +kernel)⟩
theorem lw_p11 : lw_okq (⟨"TrouserWash", "searchFor", "(IIIII)V"⟩, 20) := ⟨⟨by decide +kernel, by decide +kernel⟩, List.mem_of_getElem? (i := 36) (by decide +kernel), List.mem_of_getElem? (i := 836) (by decide +kernel), List.mem_of_getElem? (i := 837) (by decide +kernel)⟩
theorem lw_p12 : lw_okq (⟨"TrouserWash$Search", "descend", "(III)V"⟩, 8) := ⟨⟨by decide +kernel, by decide +kernel⟩, List.mem_of_getElem? (i := 144) (by decide +kernel), List.mem_of_getElem? (i := 850) (by decide +kernel), List.mem_of_getElem? (i := 851) (by decide +kernel)⟩
theorem lw_p13 : lw_okq (⟨"TrouserWash$Search", "keepIfBetter", "(II)V"⟩, 8) := ⟨⟨by decide +kernel, by decide +kernel⟩, List.mem_of_getElem? (i := 144) (by decide +kernel), List.mem_of_getElem? (i := 855) (by decide +kernel), List.mem_of_getElem? (i := 856) (by decide +kernel)⟩
theorem lw_p14 : lw_okq (⟨"TrouserWash$Water", "dirtiest", "(I)I"⟩, 9) := ⟨⟨by decide +kernel, by decide +kernel⟩, List.mem_of_getElem? (i := 198) (by decide +kernel), List.mem_of_getElem? (i := 921) (by decide +kernel), List.mem_of_getElem? (i := 922) (by decide +kernel)⟩
theorem lw_p15 : lw_okq (⟨"TrouserWash$Water", "isDirtier", "(II)Z"⟩, 9) := ⟨⟨by decide +kernel, by decide +kernel⟩, List.mem_of_getElem? (i := 198) (by decide +kernel), List.mem_of_getElem? (i := 926) (by decide +kernel), List.mem_of_getElem? (i := 927) (by decide +kernel)⟩
def lw_privs_1 : List (MethodName × Nat) := [(⟨"TrouserWash$Kinds", "goOn", "(II)V"⟩, 4), (⟨"TrouserWash", "countWashed", "()I"⟩, 20), (⟨"java/lang/Throwable", "fillInStackTrace", "(I)Ljava/lang/Throwable;"⟩, 6), (⟨"TrouserWash$Text", "skipBlanks", "()V"⟩, 4), (⟨"TrouserWash$Recipe", "readBath", "(LTrouserWash$Text;)V"⟩, 3), (⟨"TrouserWash$Text", "refuse", "(I)V"⟩, 4), (⟨"TrouserWash$Text", "placeAmong", "(Ljava/lang/String;I)I"⟩, 4), (⟨"TrouserWash$Recipe", "add", "(II)V"⟩, 3), (⟨"TrouserWash", "tryRecipe", "(II)V"⟩, 20), (⟨"TrouserWash$Look", "fade", "(II)V"⟩, 6), (⟨"TrouserWash$Look", "wear", "(II)V"⟩, 6), (⟨"TrouserWash", "searchFor", "(IIIII)V"⟩, 20), (⟨"TrouserWash$Search", "descend", "(III)V"⟩, 8), (⟨"TrouserWash$Search", "keepIfBetter", "(II)V"⟩, 8), (⟨"TrouserWash$Water", "dirtiest", "(I)I"⟩, 9), (⟨"TrouserWash$Water", "isDirtier", "(II)Z"⟩, 9)]
theorem lw_r1 : ∀ q ∈ lw_privs_1, lw_okq q := List.forall_mem_cons.mpr ⟨lw_p0, List.forall_mem_cons.mpr ⟨lw_p1, List.forall_mem_cons.mpr ⟨lw_p2, List.forall_mem_cons.mpr ⟨lw_p3, List.forall_mem_cons.mpr ⟨lw_p4, List.forall_mem_cons.mpr ⟨lw_p5, List.forall_mem_cons.mpr ⟨lw_p6, List.forall_mem_cons.mpr ⟨lw_p7, List.forall_mem_cons.mpr ⟨lw_p8, List.forall_mem_cons.mpr ⟨lw_p9, List.forall_mem_cons.mpr ⟨lw_p10, List.forall_mem_cons.mpr ⟨lw_p11, List.forall_mem_cons.mpr ⟨lw_p12, List.forall_mem_cons.mpr ⟨lw_p13, List.forall_mem_cons.mpr ⟨lw_p14, List.forall_mem_cons.mpr ⟨lw_p15, fun _ h => absurd h List.not_mem_nil⟩⟩⟩⟩⟩⟩⟩⟩⟩⟩⟩⟩⟩⟩⟩⟩
theorem lw_p16 : lw_okq (⟨"TrouserWash$Water", "runOff", "(II)V"⟩, 9) := ⟨⟨by decide +kernel, by decide +kernel⟩, List.mem_of_getElem? (i := 198) (by decide +kernel), List.mem_of_getElem? (i := 947) (by decide +kernel), List.mem_of_getElem? (i := 948) (by decide +kernel)⟩
theorem lw_p17 : lw_okq (⟨"TrouserWash$Garments", "sorts", "(I)I"⟩, 2) := ⟨⟨by decide +kernel, by decide +kernel⟩, List.mem_of_getElem? (i := 237) (by decide +kernel), List.mem_of_getElem? (i := 984) (by decide +kernel), List.mem_of_getElem? (i := 985) (by decide +kernel)⟩
theorem lw_p18 : lw_okq (⟨"TrouserWash$House", "readRule", "(LTrouserWash$Text;)V"⟩, 2) := ⟨⟨by decide +kernel, by decide +kernel⟩, List.mem_of_getElem? (i := 92) (by decide +kernel), List.mem_of_getElem? (i := 1012) (by decide +kernel), List.mem_of_getElem? (i := 1013) (by decide +kernel)⟩
theorem lw_p19 : lw_okq (⟨"TrouserWash$House", "readOfBath", "(LTrouserWash$Text;III)V"⟩, 2) := ⟨⟨by decide +kernel, by decide +kernel⟩, List.mem_of_getElem? (i := 92) (by decide +kernel), List.mem_of_getElem? (i := 1019) (by decide +kernel), List.mem_of_getElem? (i := 1020) (by decide +kernel)⟩
theorem lw_p20 : lw_okq (⟨"TrouserWash$House", "readPours", "(LTrouserWash$Text;)V"⟩, 2) := ⟨⟨by decide +kernel, by decide +kernel⟩, List.mem_of_getElem? (i := 92) (by decide +kernel), List.mem_of_getElem? (i := 1025) (by decide +kernel), List.mem_of_getElem? (i := 1026) (by decide +kernel)⟩
theorem lw_p21 : lw_okq (⟨"TrouserWash$House", "readAgain", "(LTrouserWash$Text;)V"⟩, 2) := ⟨⟨by decide +kernel, by decide +kernel⟩, List.mem_of_getElem? (i := 92) (by decide +kernel), List.mem_of_getElem? (i := 1030) (by decide +kernel), List.mem_of_getElem? (i := 1031) (by decide +kernel)⟩
theorem lw_p22 : lw_okq (⟨"TrouserWash", "addLot", "(LTrouserWash$Lot;)I"⟩, 20) := ⟨⟨by decide +kernel, by decide +kernel⟩, List.mem_of_getElem? (i := 36) (by decide +kernel), List.mem_of_getElem? (i := 1149) (by decide +kernel), List.mem_of_getElem? (i := 1150) (by decide +kernel)⟩
theorem lw_p23 : lw_okq (⟨"java/util/ArrayList", "add", "(Ljava/lang/Object;[Ljava/lang/Object;I)V"⟩, 3) := ⟨⟨by decide +kernel, by decide +kernel⟩, List.mem_of_getElem? (i := 253) (by decide +kernel), List.mem_of_getElem? (i := 1157) (by decide +kernel), List.mem_of_getElem? (i := 1158) (by decide +kernel)⟩
theorem lw_p24 : lw_okq (⟨"java/util/ArrayList", "grow", "()[Ljava/lang/Object;"⟩, 3) := ⟨⟨by decide +kernel, by decide +kernel⟩, List.mem_of_getElem? (i := 253) (by decide +kernel), List.mem_of_getElem? (i := 1161) (by decide +kernel), List.mem_of_getElem? (i := 1162) (by decide +kernel)⟩
theorem lw_p25 : lw_okq (⟨"java/util/ArrayList", "grow", "(I)[Ljava/lang/Object;"⟩, 3) := ⟨⟨by decide +kernel, by decide +kernel⟩, List.mem_of_getElem? (i := 253) (by decide +kernel), List.mem_of_getElem? (i := 1165) (by decide +kernel), List.mem_of_getElem? (i := 1166) (by decide +kernel)⟩
theorem lw_p26 : lw_okq (⟨"TrouserWash", "lotAt", "(I)LTrouserWash$Lot;"⟩, 20) := ⟨⟨by decide +kernel, by decide +kernel⟩, List.mem_of_getElem? (i := 36) (by decide +kernel), List.mem_of_getElem? (i := 1221) (by decide +kernel), List.mem_of_getElem? (i := 1222) (by decide +kernel)⟩
theorem lw_p27 : lw_okq (⟨"TrouserWash", "workDay", "(LTrouserWash$Machine;)V"⟩, 20) := ⟨⟨by decide +kernel, by decide +kernel⟩, List.mem_of_getElem? (i := 36) (by decide +kernel), List.mem_of_getElem? (i := 1236) (by decide +kernel), List.mem_of_getElem? (i := 1237) (by decide +kernel)⟩
theorem lw_p28 : lw_okq (⟨"TrouserWash", "takeNext", "(LTrouserWash$Machine;I)I"⟩, 20) := ⟨⟨by decide +kernel, by decide +kernel⟩, List.mem_of_getElem? (i := 36) (by decide +kernel), List.mem_of_getElem? (i := 1240) (by decide +kernel), List.mem_of_getElem? (i := 1241) (by decide +kernel)⟩
theorem lw_p29 : lw_okq (⟨"TrouserWash", "firstNotBarred", "(LTrouserWash$Machine;)I"⟩, 20) := ⟨⟨by decide +kernel, by decide +kernel⟩, List.mem_of_getElem? (i := 36) (by decide +kernel), List.mem_of_getElem? (i := 1244) (by decide +kernel), List.mem_of_getElem? (i := 1245) (by decide +kernel)⟩
theorem lw_p30 : lw_okq (⟨"TrouserWash", "finishIfNoneLeft", "(LTrouserWash$Machine;LTrouserWash$Lot;)V"⟩, 20) := ⟨⟨by decide +kernel, by decide +kernel⟩, List.mem_of_getElem? (i := 36) (by decide +kernel), List.mem_of_getElem? (i := 1257) (by decide +kernel), List.mem_of_getElem? (i := 1258) (by decide +kernel)⟩
theorem lw_p31 : lw_okq (⟨"TrouserWash", "doNextBath", "(LTrouserWash$Machine;I)I"⟩, 20) := ⟨⟨by decide +kernel, by decide +kernel⟩, List.mem_of_getElem? (i := 36) (by decide +kernel), List.mem_of_getElem? (i := 1261) (by decide +kernel), List.mem_of_getElem? (i := 1262) (by decide +kernel)⟩
def lw_privs_2 : List (MethodName × Nat) := [(⟨"TrouserWash$Water", "runOff", "(II)V"⟩, 9), (⟨"TrouserWash$Garments", "sorts", "(I)I"⟩, 2), (⟨"TrouserWash$House", "readRule", "(LTrouserWash$Text;)V"⟩, 2), (⟨"TrouserWash$House", "readOfBath", "(LTrouserWash$Text;III)V"⟩, 2), (⟨"TrouserWash$House", "readPours", "(LTrouserWash$Text;)V"⟩, 2), (⟨"TrouserWash$House", "readAgain", "(LTrouserWash$Text;)V"⟩, 2), (⟨"TrouserWash", "addLot", "(LTrouserWash$Lot;)I"⟩, 20), (⟨"java/util/ArrayList", "add", "(Ljava/lang/Object;[Ljava/lang/Object;I)V"⟩, 3), (⟨"java/util/ArrayList", "grow", "()[Ljava/lang/Object;"⟩, 3), (⟨"java/util/ArrayList", "grow", "(I)[Ljava/lang/Object;"⟩, 3), (⟨"TrouserWash", "lotAt", "(I)LTrouserWash$Lot;"⟩, 20), (⟨"TrouserWash", "workDay", "(LTrouserWash$Machine;)V"⟩, 20), (⟨"TrouserWash", "takeNext", "(LTrouserWash$Machine;I)I"⟩, 20), (⟨"TrouserWash", "firstNotBarred", "(LTrouserWash$Machine;)I"⟩, 20), (⟨"TrouserWash", "finishIfNoneLeft", "(LTrouserWash$Machine;LTrouserWash$Lot;)V"⟩, 20), (⟨"TrouserWash", "doNextBath", "(LTrouserWash$Machine;I)I"⟩, 20)]
theorem lw_r2 : ∀ q ∈ lw_privs_2, lw_okq q := List.forall_mem_cons.mpr ⟨lw_p16, List.forall_mem_cons.mpr ⟨lw_p17, List.forall_mem_cons.mpr ⟨lw_p18, List.forall_mem_cons.mpr ⟨lw_p19, List.forall_mem_cons.mpr ⟨lw_p20, List.forall_mem_cons.mpr ⟨lw_p21, List.forall_mem_cons.mpr ⟨lw_p22, List.forall_mem_cons.mpr ⟨lw_p23, List.forall_mem_cons.mpr ⟨lw_p24, List.forall_mem_cons.mpr ⟨lw_p25, List.forall_mem_cons.mpr ⟨lw_p26, List.forall_mem_cons.mpr ⟨lw_p27, List.forall_mem_cons.mpr ⟨lw_p28, List.forall_mem_cons.mpr ⟨lw_p29, List.forall_mem_cons.mpr ⟨lw_p30, List.forall_mem_cons.mpr ⟨lw_p31, fun _ h => absurd h List.not_mem_nil⟩⟩⟩⟩⟩⟩⟩⟩⟩⟩⟩⟩⟩⟩⟩⟩
theorem lw_p32 : lw_okq (⟨"TrouserWash", "judged", "(LTrouserWash$Lot;II)I"⟩, 20) := ⟨⟨by decide +kernel, by decide +kernel⟩, List.mem_of_getElem? (i := 36) (by decide +kernel), List.mem_of_getElem? (i := 1337) (by decide +kernel), List.mem_of_getElem? (i := 1338) (by decide +kernel)⟩
theorem lw_p33 : lw_okq (⟨"TrouserWash", "moveDark", "(LTrouserWash$Lot;LTrouserWash$Look;)V"⟩, 20) := ⟨⟨by decide +kernel, by decide +kernel⟩, List.mem_of_getElem? (i := 36) (by decide +kernel), List.mem_of_getElem? (i := 1372) (by decide +kernel), List.mem_of_getElem? (i := 1373) (by decide +kernel)⟩
theorem lw_p34 : lw_okq (⟨"TrouserWash", "findPacks", "(I)I"⟩, 20) := ⟨⟨by decide +kernel, by decide +kernel⟩, List.mem_of_getElem? (i := 36) (by decide +kernel), List.mem_of_getElem? (i := 1384) (by decide +kernel), List.mem_of_getElem? (i := 1385) (by decide +kernel)⟩
theorem lw_p35 : lw_okq (⟨"TrouserWash", "gatherGood", "(ILTrouserWash$Lot;)V"⟩, 20) := ⟨⟨by decide +kernel, by decide +kernel⟩, List.mem_of_getElem? (i := 36) (by decide +kernel), List.mem_of_getElem? (i := 1392) (by decide +kernel), List.mem_of_getElem? (i := 1393) (by decide +kernel)⟩
theorem lw_p36 : lw_okq (⟨"TrouserWash$Measures", "putInOrder", "()V"⟩, 10) := ⟨⟨by decide +kernel, by decide +kernel⟩, List.mem_of_getElem? (i := 279) (by decide +kernel), List.mem_of_getElem? (i := 1404) (by decide +kernel), List.mem_of_getElem? (i := 1405) (by decide +kernel)⟩
theorem lw_p37 : lw_okq (⟨"TrouserWash", "deliverPack", "(I)I"⟩, 20) := ⟨⟨by decide +kernel, by decide +kernel⟩, List.mem_of_getElem? (i := 36) (by decide +kernel), List.mem_of_getElem? (i := 1417) (by decide +kernel), List.mem_of_getElem? (i := 1418) (by decide +kernel)⟩
theorem lw_p38 : lw_okq (⟨"TrouserWash$Panels", "heatAt", "(II)I"⟩, 4) := ⟨⟨by decide +kernel, by decide +kernel⟩, List.mem_of_getElem? (i := 317) (by decide +kernel), List.mem_of_getElem? (i := 1474) (by decide +kernel), List.mem_of_getElem? (i := 1475) (by decide +kernel)⟩
theorem lw_p39 : lw_okq (⟨"TrouserWashModel", "uses", "()V"⟩, 80) := ⟨⟨by decide +kernel, by decide +kernel⟩, List.mem_of_getElem? (i := 1497) (by decide +kernel), List.mem_of_getElem? (i := 1760) (by decide +kernel), List.mem_of_getElem? (i := 1761) (by decide +kernel)⟩
theorem lw_p40 : lw_okq (⟨"TrouserWashModel", "readRecipe", "()Z"⟩, 80) := ⟨⟨by decide +kernel, by decide +kernel⟩, List.mem_of_getElem? (i := 1497) (by decide +kernel), List.mem_of_getElem? (i := 1764) (by decide +kernel), List.mem_of_getElem? (i := 1765) (by decide +kernel)⟩
theorem lw_p41 : lw_okq (⟨"TrouserWashModel", "blanks", "()V"⟩, 80) := ⟨⟨by decide +kernel, by decide +kernel⟩, List.mem_of_getElem? (i := 1497) (by decide +kernel), List.mem_of_getElem? (i := 1768) (by decide +kernel), List.mem_of_getElem? (i := 1769) (by decide +kernel)⟩
theorem lw_p42 : lw_okq (⟨"TrouserWashModel", "isAt", "(II)Z"⟩, 80) := ⟨⟨by decide +kernel, by decide +kernel⟩, List.mem_of_getElem? (i := 1497) (by decide +kernel), List.mem_of_getElem? (i := 1772) (by decide +kernel), List.mem_of_getElem? (i := 1773) (by decide +kernel)⟩
theorem lw_p43 : lw_okq (⟨"TrouserWashModel", "readBath", "()I"⟩, 80) := ⟨⟨by decide +kernel, by decide +kernel⟩, List.mem_of_getElem? (i := 1497) (by decide +kernel), List.mem_of_getElem? (i := 1776) (by decide +kernel), List.mem_of_getElem? (i := 1777) (by decide +kernel)⟩
theorem lw_p44 : lw_okq (⟨"TrouserWashModel", "word", "()V"⟩, 80) := ⟨⟨by decide +kernel, by decide +kernel⟩, List.mem_of_getElem? (i := 1497) (by decide +kernel), List.mem_of_getElem? (i := 1780) (by decide +kernel), List.mem_of_getElem? (i := 1781) (by decide +kernel)⟩
theorem lw_p45 : lw_okq (⟨"TrouserWashModel", "bathOf", "()I"⟩, 80) := ⟨⟨by decide +kernel, by decide +kernel⟩, List.mem_of_getElem? (i := 1497) (by decide +kernel), List.mem_of_getElem? (i := 1784) (by decide +kernel), List.mem_of_getElem? (i := 1785) (by decide +kernel)⟩
theorem lw_p46 : lw_okq (⟨"TrouserWashModel", "isWord", "(Ljava/lang/String;)Z"⟩, 80) := ⟨⟨by decide +kernel, by decide +kernel⟩, List.mem_of_getElem? (i := 1497) (by decide +kernel), List.mem_of_getElem? (i := 1789) (by decide +kernel), List.mem_of_getElem? (i := 1790) (by decide +kernel)⟩
theorem lw_p47 : lw_okq (⟨"TrouserWashModel", "number", "(III)I"⟩, 80) := ⟨⟨by decide +kernel, by decide +kernel⟩, List.mem_of_getElem? (i := 1497) (by decide +kernel), List.mem_of_getElem? (i := 1798) (by decide +kernel), List.mem_of_getElem? (i := 1799) (by decide +kernel)⟩
def lw_privs_3 : List (MethodName × Nat) := [(⟨"TrouserWash", "judged", "(LTrouserWash$Lot;II)I"⟩, 20), (⟨"TrouserWash", "moveDark", "(LTrouserWash$Lot;LTrouserWash$Look;)V"⟩, 20), (⟨"TrouserWash", "findPacks", "(I)I"⟩, 20), (⟨"TrouserWash", "gatherGood", "(ILTrouserWash$Lot;)V"⟩, 20), (⟨"TrouserWash$Measures", "putInOrder", "()V"⟩, 10), (⟨"TrouserWash", "deliverPack", "(I)I"⟩, 20), (⟨"TrouserWash$Panels", "heatAt", "(II)I"⟩, 4), (⟨"TrouserWashModel", "uses", "()V"⟩, 80), (⟨"TrouserWashModel", "readRecipe", "()Z"⟩, 80), (⟨"TrouserWashModel", "blanks", "()V"⟩, 80), (⟨"TrouserWashModel", "isAt", "(II)Z"⟩, 80), (⟨"TrouserWashModel", "readBath", "()I"⟩, 80), (⟨"TrouserWashModel", "word", "()V"⟩, 80), (⟨"TrouserWashModel", "bathOf", "()I"⟩, 80), (⟨"TrouserWashModel", "isWord", "(Ljava/lang/String;)Z"⟩, 80), (⟨"TrouserWashModel", "number", "(III)I"⟩, 80)]
theorem lw_r3 : ∀ q ∈ lw_privs_3, lw_okq q := List.forall_mem_cons.mpr ⟨lw_p32, List.forall_mem_cons.mpr ⟨lw_p33, List.forall_mem_cons.mpr ⟨lw_p34, List.forall_mem_cons.mpr ⟨lw_p35, List.forall_mem_cons.mpr ⟨lw_p36, List.forall_mem_cons.mpr ⟨lw_p37, List.forall_mem_cons.mpr ⟨lw_p38, List.forall_mem_cons.mpr ⟨lw_p39, List.forall_mem_cons.mpr ⟨lw_p40, List.forall_mem_cons.mpr ⟨lw_p41, List.forall_mem_cons.mpr ⟨lw_p42, List.forall_mem_cons.mpr ⟨lw_p43, List.forall_mem_cons.mpr ⟨lw_p44, List.forall_mem_cons.mpr ⟨lw_p45, List.forall_mem_cons.mpr ⟨lw_p46, List.forall_mem_cons.mpr ⟨lw_p47, fun _ h => absurd h List.not_mem_nil⟩⟩⟩⟩⟩⟩⟩⟩⟩⟩⟩⟩⟩⟩⟩⟩
theorem lw_p48 : lw_okq (⟨"TrouserWashModel", "throwsIf", "(ZI)Z"⟩, 80) := ⟨⟨by decide +kernel, by decide +kernel⟩, List.mem_of_getElem? (i := 1497) (by decide +kernel), List.mem_of_getElem? (i := 1802) (by decide +kernel), List.mem_of_getElem? (i := 1803) (by decide +kernel)⟩
theorem lw_p49 : lw_okq (⟨"TrouserWashModel", "copies", "(II)V"⟩, 80) := ⟨⟨by decide +kernel, by decide +kernel⟩, List.mem_of_getElem? (i := 1497) (by decide +kernel), List.mem_of_getElem? (i := 1806) (by decide +kernel), List.mem_of_getElem? (i := 1807) (by decide +kernel)⟩
theorem lw_p50 : lw_okq (⟨"TrouserWashModel", "noCloth", "(I)Z"⟩, 80) := ⟨⟨by decide +kernel, by decide +kernel⟩, List.mem_of_getElem? (i := 1497) (by decide +kernel), List.mem_of_getElem? (i := 1825) (by decide +kernel), List.mem_of_getElem? (i := 1826) (by decide +kernel)⟩
theorem lw_p51 : lw_okq (⟨"TrouserWashModel", "tries", "(II)V"⟩, 80) := ⟨⟨by decide +kernel, by decide +kernel⟩, List.mem_of_getElem? (i := 1497) (by decide +kernel), List.mem_of_getElem? (i := 1829) (by decide +kernel), List.mem_of_getElem? (i := 1830) (by decide +kernel)⟩
theorem lw_p52 : lw_okq (⟨"TrouserWashModel", "begins", "(II)V"⟩, 80) := ⟨⟨by decide +kernel, by decide +kernel⟩, List.mem_of_getElem? (i := 1497) (by decide +kernel), List.mem_of_getElem? (i := 1833) (by decide +kernel), List.mem_of_getElem? (i := 1834) (by decide +kernel)⟩
theorem lw_p53 : lw_okq (⟨"TrouserWashModel", "does", "(IIII)V"⟩, 80) := ⟨⟨by decide +kernel, by decide +kernel⟩, List.mem_of_getElem? (i := 1497) (by decide +kernel), List.mem_of_getElem? (i := 1837) (by decide +kernel), List.mem_of_getElem? (i := 1838) (by decide +kernel)⟩
theorem lw_p54 : lw_okq (⟨"TrouserWashModel", "less", "(III)V"⟩, 80) := ⟨⟨by decide +kernel, by decide +kernel⟩, List.mem_of_getElem? (i := 1497) (by decide +kernel), List.mem_of_getElem? (i := 1841) (by decide +kernel), List.mem_of_getElem? (i := 1842) (by decide +kernel)⟩
theorem lw_p55 : lw_okq (⟨"TrouserWashModel", "meetsIt", "(IIII)Z"⟩, 80) := ⟨⟨by decide +kernel, by decide +kernel⟩, List.mem_of_getElem? (i := 1497) (by decide +kernel), List.mem_of_getElem? (i := 1860) (by decide +kernel), List.mem_of_getElem? (i := 1861) (by decide +kernel)⟩
theorem lw_p56 : lw_okq (⟨"TrouserWashModel", "cheapestOf", "(IIIII)Z"⟩, 80) := ⟨⟨by decide +kernel, by decide +kernel⟩, List.mem_of_getElem? (i := 1497) (by decide +kernel), List.mem_of_getElem? (i := 1868) (by decide +kernel), List.mem_of_getElem? (i := 1869) (by decide +kernel)⟩
theorem lw_p57 : lw_okq (⟨"TrouserWashModel", "seeks", "(IIII)V"⟩, 80) := ⟨⟨by decide +kernel, by decide +kernel⟩, List.mem_of_getElem? (i := 1497) (by decide +kernel), List.mem_of_getElem? (i := 1872) (by decide +kernel), List.mem_of_getElem? (i := 1873) (by decide +kernel)⟩
theorem lw_p58 : lw_okq (⟨"TrouserWashModel", "draws", "(II)V"⟩, 80) := ⟨⟨by decide +kernel, by decide +kernel⟩, List.mem_of_getElem? (i := 1497) (by decide +kernel), List.mem_of_getElem? (i := 1912) (by decide +kernel), List.mem_of_getElem? (i := 1913) (by decide +kernel)⟩
theorem lw_p59 : lw_okq (⟨"TrouserWashModel", "dirtiest", "(I)I"⟩, 80) := ⟨⟨by decide +kernel, by decide +kernel⟩, List.mem_of_getElem? (i := 1497) (by decide +kernel), List.mem_of_getElem? (i := 1916) (by decide +kernel), List.mem_of_getElem? (i := 1917) (by decide +kernel)⟩
theorem lw_p60 : lw_okq (⟨"TrouserWashModel", "pours", "(III)V"⟩, 80) := ⟨⟨by decide +kernel, by decide +kernel⟩, List.mem_of_getElem? (i := 1497) (by decide +kernel), List.mem_of_getElem? (i := 1926) (by decide +kernel), List.mem_of_getElem? (i := 1927) (by decide +kernel)⟩
theorem lw_p61 : lw_okq (⟨"TrouserWashModel", "sortsFor", "(I)I"⟩, 80) := ⟨⟨by decide +kernel, by decide +kernel⟩, List.mem_of_getElem? (i := 1497) (by decide +kernel), List.mem_of_getElem? (i := 1942) (by decide +kernel), List.mem_of_getElem? (i := 1943) (by decide +kernel)⟩
theorem lw_p62 : lw_okq (⟨"TrouserWashModel", "readHouse", "()I"⟩, 80) := ⟨⟨by decide +kernel, by decide +kernel⟩, List.mem_of_getElem? (i := 1497) (by decide +kernel), List.mem_of_getElem? (i := 1954) (by decide +kernel), List.mem_of_getElem? (i := 1955) (by decide +kernel)⟩
theorem lw_p63 : lw_okq (⟨"TrouserWashModel", "asAtFirst", "()V"⟩, 80) := ⟨⟨by decide +kernel, by decide +kernel⟩, List.mem_of_getElem? (i := 1497) (by decide +kernel), List.mem_of_getElem? (i := 1958) (by decide +kernel), List.mem_of_getElem? (i := 1959) (by decide +kernel)⟩
def lw_privs_4 : List (MethodName × Nat) := [(⟨"TrouserWashModel", "throwsIf", "(ZI)Z"⟩, 80), (⟨"TrouserWashModel", "copies", "(II)V"⟩, 80), (⟨"TrouserWashModel", "noCloth", "(I)Z"⟩, 80), (⟨"TrouserWashModel", "tries", "(II)V"⟩, 80), (⟨"TrouserWashModel", "begins", "(II)V"⟩, 80), (⟨"TrouserWashModel", "does", "(IIII)V"⟩, 80), (⟨"TrouserWashModel", "less", "(III)V"⟩, 80), (⟨"TrouserWashModel", "meetsIt", "(IIII)Z"⟩, 80), (⟨"TrouserWashModel", "cheapestOf", "(IIIII)Z"⟩, 80), (⟨"TrouserWashModel", "seeks", "(IIII)V"⟩, 80), (⟨"TrouserWashModel", "draws", "(II)V"⟩, 80), (⟨"TrouserWashModel", "dirtiest", "(I)I"⟩, 80), (⟨"TrouserWashModel", "pours", "(III)V"⟩, 80), (⟨"TrouserWashModel", "sortsFor", "(I)I"⟩, 80), (⟨"TrouserWashModel", "readHouse", "()I"⟩, 80), (⟨"TrouserWashModel", "asAtFirst", "()V"⟩, 80)]
theorem lw_r4 : ∀ q ∈ lw_privs_4, lw_okq q := List.forall_mem_cons.mpr ⟨lw_p48, List.forall_mem_cons.mpr ⟨lw_p49, List.forall_mem_cons.mpr ⟨lw_p50, List.forall_mem_cons.mpr ⟨lw_p51, List.forall_mem_cons.mpr ⟨lw_p52, List.forall_mem_cons.mpr ⟨lw_p53, List.forall_mem_cons.mpr ⟨lw_p54, List.forall_mem_cons.mpr ⟨lw_p55, List.forall_mem_cons.mpr ⟨lw_p56, List.forall_mem_cons.mpr ⟨lw_p57, List.forall_mem_cons.mpr ⟨lw_p58, List.forall_mem_cons.mpr ⟨lw_p59, List.forall_mem_cons.mpr ⟨lw_p60, List.forall_mem_cons.mpr ⟨lw_p61, List.forall_mem_cons.mpr ⟨lw_p62, List.forall_mem_cons.mpr ⟨lw_p63, fun _ h => absurd h List.not_mem_nil⟩⟩⟩⟩⟩⟩⟩⟩⟩⟩⟩⟩⟩⟩⟩⟩
theorem lw_p64 : lw_okq (⟨"TrouserWashModel", "readRule", "(I)Z"⟩, 80) := ⟨⟨by decide +kernel, by decide +kernel⟩, List.mem_of_getElem? (i := 1497) (by decide +kernel), List.mem_of_getElem? (i := 1962) (by decide +kernel), List.mem_of_getElem? (i := 1963) (by decide +kernel)⟩
theorem lw_p65 : lw_okq (⟨"TrouserWashModel", "sets", "(III)Z"⟩, 80) := ⟨⟨by decide +kernel, by decide +kernel⟩, List.mem_of_getElem? (i := 1497) (by decide +kernel), List.mem_of_getElem? (i := 1967) (by decide +kernel), List.mem_of_getElem? (i := 1968) (by decide +kernel)⟩
theorem lw_p66 : lw_okq (⟨"TrouserWashModel", "readPours", "()Z"⟩, 80) := ⟨⟨by decide +kernel, by decide +kernel⟩, List.mem_of_getElem? (i := 1497) (by decide +kernel), List.mem_of_getElem? (i := 1973) (by decide +kernel), List.mem_of_getElem? (i := 1974) (by decide +kernel)⟩
theorem lw_p67 : lw_okq (⟨"TrouserWashModel", "readAgain", "()Z"⟩, 80) := ⟨⟨by decide +kernel, by decide +kernel⟩, List.mem_of_getElem? (i := 1497) (by decide +kernel), List.mem_of_getElem? (i := 1981) (by decide +kernel), List.mem_of_getElem? (i := 1982) (by decide +kernel)⟩
theorem lw_p68 : lw_okq (⟨"TrouserWashModel", "adds", "(IIIIIII)I"⟩, 80) := ⟨⟨by decide +kernel, by decide +kernel⟩, List.mem_of_getElem? (i := 1497) (by decide +kernel), List.mem_of_getElem? (i := 2001) (by decide +kernel), List.mem_of_getElem? (i := 2002) (by decide +kernel)⟩
theorem lw_p69 : lw_okq (⟨"TrouserWashModel", "noLot", "(I)Z"⟩, 80) := ⟨⟨by decide +kernel, by decide +kernel⟩, List.mem_of_getElem? (i := 1497) (by decide +kernel), List.mem_of_getElem? (i := 2009) (by decide +kernel), List.mem_of_getElem? (i := 2010) (by decide +kernel)⟩
theorem lw_p70 : lw_okq (⟨"TrouserWashModel", "noMachine", "(I)Z"⟩, 80) := ⟨⟨by decide +kernel, by decide +kernel⟩, List.mem_of_getElem? (i := 1497) (by decide +kernel), List.mem_of_getElem? (i := 2013) (by decide +kernel), List.mem_of_getElem? (i := 2014) (by decide +kernel)⟩
theorem lw_p71 : lw_okq (⟨"TrouserWashModel", "step", "(II)I"⟩, 80) := ⟨⟨by decide +kernel, by decide +kernel⟩, List.mem_of_getElem? (i := 1497) (by decide +kernel), List.mem_of_getElem? (i := 2021) (by decide +kernel), List.mem_of_getElem? (i := 2022) (by decide +kernel)⟩
theorem lw_p72 : lw_okq (⟨"TrouserWashModel", "bathes", "(I)V"⟩, 80) := ⟨⟨by decide +kernel, by decide +kernel⟩, List.mem_of_getElem? (i := 1497) (by decide +kernel), List.mem_of_getElem? (i := 2025) (by decide +kernel), List.mem_of_getElem? (i := 2026) (by decide +kernel)⟩
theorem lw_p73 : lw_okq (⟨"TrouserWashModel", "washes", "(I)V"⟩, 80) := ⟨⟨by decide +kernel, by decide +kernel⟩, List.mem_of_getElem? (i := 1497) (by decide +kernel), List.mem_of_getElem? (i := 2029) (by decide +kernel), List.mem_of_getElem? (i := 2030) (by decide +kernel)⟩
theorem lw_p74 : lw_okq (⟨"TrouserWashModel", "nextFor", "(I)I"⟩, 80) := ⟨⟨by decide +kernel, by decide +kernel⟩, List.mem_of_getElem? (i := 1497) (by decide +kernel), List.mem_of_getElem? (i := 2033) (by decide +kernel), List.mem_of_getElem? (i := 2034) (by decide +kernel)⟩
theorem lw_p75 : lw_okq (⟨"TrouserWashModel", "piecesOf", "(II)I"⟩, 80) := ⟨⟨by decide +kernel, by decide +kernel⟩, List.mem_of_getElem? (i := 1497) (by decide +kernel), List.mem_of_getElem? (i := 2041) (by decide +kernel), List.mem_of_getElem? (i := 2042) (by decide +kernel)⟩
theorem lw_p76 : lw_okq (⟨"TrouserWashModel", "noPiece", "(II)Z"⟩, 80) := ⟨⟨by decide +kernel, by decide +kernel⟩, List.mem_of_getElem? (i := 1497) (by decide +kernel), List.mem_of_getElem? (i := 2053) (by decide +kernel), List.mem_of_getElem? (i := 2054) (by decide +kernel)⟩
theorem lw_p77 : lw_okq (⟨"TrouserWashModel", "knownOf", "(III)I"⟩, 80) := ⟨⟨by decide +kernel, by decide +kernel⟩, List.mem_of_getElem? (i := 1497) (by decide +kernel), List.mem_of_getElem? (i := 2061) (by decide +kernel), List.mem_of_getElem? (i := 2062) (by decide +kernel)⟩
theorem lw_p78 : lw_okq (⟨"TrouserWashModel", "shadeOf", "(III)I"⟩, 80) := ⟨⟨by decide +kernel, by decide +kernel⟩, List.mem_of_getElem? (i := 1497) (by decide +kernel), List.mem_of_getElem? (i := 2065) (by decide +kernel), List.mem_of_getElem? (i := 2066) (by decide +kernel)⟩
theorem lw_p79 : lw_okq (⟨"TrouserWashModel", "sortedOf", "(III)I"⟩, 80) := ⟨⟨by decide +kernel, by decide +kernel⟩, List.mem_of_getElem? (i := 1497) (by decide +kernel), List.mem_of_getElem? (i := 2073) (by decide +kernel), List.mem_of_getElem? (i := 2074) (by decide +kernel)⟩
def lw_privs_5 : List (MethodName × Nat) := [(⟨"TrouserWashModel", "readRule", "(I)Z"⟩, 80), (⟨"TrouserWashModel", "sets", "(III)Z"⟩, 80), (⟨"TrouserWashModel", "readPours", "()Z"⟩, 80), (⟨"TrouserWashModel", "readAgain", "()Z"⟩, 80), (⟨"TrouserWashModel", "adds", "(IIIIIII)I"⟩, 80), (⟨"TrouserWashModel", "noLot", "(I)Z"⟩, 80), (⟨"TrouserWashModel", "noMachine", "(I)Z"⟩, 80), (⟨"TrouserWashModel", "step", "(II)I"⟩, 80), (⟨"TrouserWashModel", "bathes", "(I)V"⟩, 80), (⟨"TrouserWashModel", "washes", "(I)V"⟩, 80), (⟨"TrouserWashModel", "nextFor", "(I)I"⟩, 80), (⟨"TrouserWashModel", "piecesOf", "(II)I"⟩, 80), (⟨"TrouserWashModel", "noPiece", "(II)Z"⟩, 80), (⟨"TrouserWashModel", "knownOf", "(III)I"⟩, 80), (⟨"TrouserWashModel", "shadeOf", "(III)I"⟩, 80), (⟨"TrouserWashModel", "sortedOf", "(III)I"⟩, 80)]
theorem lw_r5 : ∀ q ∈ lw_privs_5, lw_okq q := List.forall_mem_cons.mpr ⟨lw_p64, List.forall_mem_cons.mpr ⟨lw_p65, List.forall_mem_cons.mpr ⟨lw_p66, List.forall_mem_cons.mpr ⟨lw_p67, List.forall_mem_cons.mpr ⟨lw_p68, List.forall_mem_cons.mpr ⟨lw_p69, List.forall_mem_cons.mpr ⟨lw_p70, List.forall_mem_cons.mpr ⟨lw_p71, List.forall_mem_cons.mpr ⟨lw_p72, List.forall_mem_cons.mpr ⟨lw_p73, List.forall_mem_cons.mpr ⟨lw_p74, List.forall_mem_cons.mpr ⟨lw_p75, List.forall_mem_cons.mpr ⟨lw_p76, List.forall_mem_cons.mpr ⟨lw_p77, List.forall_mem_cons.mpr ⟨lw_p78, List.forall_mem_cons.mpr ⟨lw_p79, fun _ h => absurd h List.not_mem_nil⟩⟩⟩⟩⟩⟩⟩⟩⟩⟩⟩⟩⟩⟩⟩⟩
theorem lw_p80 : lw_okq (⟨"TrouserWashModel", "gathers", "(I)V"⟩, 80) := ⟨⟨by decide +kernel, by decide +kernel⟩, List.mem_of_getElem? (i := 1497) (by decide +kernel), List.mem_of_getElem? (i := 2085) (by decide +kernel), List.mem_of_getElem? (i := 2086) (by decide +kernel)⟩
theorem lw_p81 : lw_okq (⟨"TrouserWashModel", "packsOf", "(I)I"⟩, 80) := ⟨⟨by decide +kernel, by decide +kernel⟩, List.mem_of_getElem? (i := 1497) (by decide +kernel), List.mem_of_getElem? (i := 2089) (by decide +kernel), List.mem_of_getElem? (i := 2090) (by decide +kernel)⟩
theorem lw_p82 : lw_okq (⟨"TrouserWashModel", "seamOf", "(I)I"⟩, 80) := ⟨⟨by decide +kernel, by decide +kernel⟩, List.mem_of_getElem? (i := 1497) (by decide +kernel), List.mem_of_getElem? (i := 2118) (by decide +kernel), List.mem_of_getElem? (i := 2119) (by decide +kernel)⟩
def lw_privs_6 : List (MethodName × Nat) := [(⟨"TrouserWashModel", "gathers", "(I)V"⟩, 80), (⟨"TrouserWashModel", "packsOf", "(I)I"⟩, 80), (⟨"TrouserWashModel", "seamOf", "(I)I"⟩, 80)]
theorem lw_r6 : ∀ q ∈ lw_privs_6, lw_okq q := List.forall_mem_cons.mpr ⟨lw_p80, List.forall_mem_cons.mpr ⟨lw_p81, List.forall_mem_cons.mpr ⟨lw_p82, fun _ h => absurd h List.not_mem_nil⟩⟩⟩
def lw_privs : List (MethodName × Nat) := lw_privs_1 ++ (lw_privs_2 ++ (lw_privs_3 ++ (lw_privs_4 ++ (lw_privs_5 ++ (lw_privs_6)))))
def lw_tbl : List Cond := k2_sels lw_privs ++ tables_1
theorem lw_privs_ok : ∀ q ∈ lw_privs, lw_okq q := by
  show ∀ q ∈ lw_privs_1 ++ (lw_privs_2 ++ (lw_privs_3 ++ (lw_privs_4 ++ (lw_privs_5 ++ (lw_privs_6))))), lw_okq q
  exact List.forall_mem_append.mpr ⟨lw_r1, List.forall_mem_append.mpr ⟨lw_r2, List.forall_mem_append.mpr ⟨lw_r3, List.forall_mem_append.mpr ⟨lw_r4, List.forall_mem_append.mpr ⟨lw_r5, lw_r6⟩⟩⟩⟩⟩
end
section
/-- my own: the kit's text names it and has it nowhere -/
def va_AOA (ty : FieldType) (U : State) : Prop := (Cond.arrayOver (.array ty)).before #[] U = true
theorem va_AOA.use {ty : FieldType} {A : Array Value} {U : State} (h : va_AOA ty U) : (Cond.arrayOver (.array ty)).before A U = true := h
/-! ===== BEGIN words of one list among another's, by their places ===== -/
theorem goodIn_r {big : List Cond} (ws : List Cond) (ps : List Nat) (hp : ws = ps.filterMap (fun i => big[i]?)) (h : ws.all goodWord = true) : GoodIn big ws := by
  intro w hw
  have h1 := List.all_eq_true.mp h w hw
  rw [hp] at hw
  obtain ⟨i, -, hi⟩ := List.mem_filterMap.mp hw
  have hm : w ∈ big := by first | exact List.mem_of_getElem? hi | exact List.getElem?_mem hi
  exact ⟨hm, good_of_word h1⟩
theorem goodIn_app {big a b : List Cond} (ha : GoodIn big a) (hb : GoodIn big b) : GoodIn big (a ++ b) := fun w h => (List.mem_append.mp h).elim (ha w) (hb w)
theorem goodIn_ca {big a b : List Cond} {c : Cond} (ha : GoodIn big (c :: a)) (hb : GoodIn big b) : GoodIn big (c :: (a ++ b)) := fun w h => (List.mem_cons.mp h).elim (fun e => ha w (List.mem_cons.mpr (Or.inl e))) (fun h => (List.mem_append.mp h).elim (fun h => ha w (List.mem_cons.mpr (Or.inr h))) (hb w))
theorem goodIn_sub {big ws : List Cond} (hm : ∀ w ∈ ws, w ∈ big) (h : ws.all goodWord = true) : GoodIn big ws := fun w hw => ⟨hm w hw, good_of_word (List.all_eq_true.mp h w hw)⟩
/-! ===== END ===== -/

/-! ===== BEGIN new T[n][m]: the outer array a place, the inner ones among the pooled ===== -/
/-- f, but v at every address of l -/
def vr_up {α : Type} (f : Nat → α) (l : List Nat) (v : α) : Nat → α := fun a => if a ∈ l then v else f a
theorem vr_up_in {α : Type} {f : Nat → α} {l : List Nat} {v : α} {a : Nat} (h : a ∈ l) : vr_up f l v a = v := if_pos h
theorem vr_up_ne {α : Type} {f : Nat → α} {l : List Nat} {v : α} {a : Nat} (h : a ∉ l) : vr_up f l v a = f a := if_neg h
theorem vr_rows {L l : List Nat} {f : Nat → va_E} {e : va_E} (h : ∀ a, a ∈ l → a ∉ L) : va_pl L f ++ l.map (fun a => (a, e)) = va_pl (L ++ l) (vr_up f l e) := by
  unfold va_pl
  rw [List.map_append]
  congr 1
  · apply List.map_congr_left
    intro a ha
    rw [vr_up_ne (fun q => h a q ha)]
  · apply List.map_congr_left
    intro a ha
    rw [vr_up_in ha]
theorem vr_lay {X rows : va_W} {x : Nat × va_E} {pl : va_W} {D : va_G} {cl : List vw_C} {H : Heap} (hP : va_P D cl (((X ++ pl) ++ [x]) ++ rows) H) : va_P D cl ((X ++ [x]) ++ (pl ++ rows)) H := by
  rw [List.append_assoc (X ++ pl)] at hP
  have h := va_P.swap hP
  rw [← List.append_assoc X] at h
  have h2 := va_P.swap h
  rw [List.append_assoc (X ++ [x])] at h2
  exact h2
theorem vr_layD {X rows : va_W} {x : Nat × va_E} {pl : va_W} {A : Nat → Prop} (hD : va_D A (((X ++ pl) ++ [x]) ++ rows)) : va_D A ((X ++ [x]) ++ (pl ++ rows)) := by
  rw [List.append_assoc (X ++ pl)] at hD
  have h := va_D.swap hD
  rw [← List.append_assoc X] at h
  have h2 := va_D.swap h
  rw [List.append_assoc (X ++ [x])] at h2
  exact h2
theorem vr_outer (c : ClassId) (N h0 : Nat) : ∀ i : Nat, Jvm.Free.Multi.outerC c N h0 i = arrV c N (fun j => va_rf (if j < i then some (h0 + 1 + j) else none))
  | 0 => by
    show ({ cls := c, slots := Array.replicate N .null, vm := .none } : Cell) = _
    rw [arrV_new]
    refine congrArg (arrV c N) (funext fun j => ?_)
    simp [va_rf]
  | i + 1 => by
    show (Jvm.Free.Multi.outerC c N h0 i).setSlot i (.ref (h0 + 1 + i)) = _
    rw [vr_outer c N h0 i, arrV_store]
    refine congrArg (arrV c N) (funext fun j => ?_)
    by_cases e : j = i
    · subst e
      simp [updV, va_rf]
    · by_cases h : j < i
      · simp [updV, e, h, Nat.lt_succ_of_lt h]
      · simp [updV, e, h, show ¬ j < i + 1 by omega]
section VGM
variable {p : Program} {l : Launch} {e : Env} {R : Room} {s : State} {m : MethodId} {args : Array Value} {below : List Frame} {meth : Method} {c : Code} {H : Heap} {locs : List Loc} {cells slots : Nat} {Q : State → Prop}
variable {cc : ByteArray} {pc : Nat} {ls : Array Slot} {rest : List Value} {D : va_G} {cl : List vw_C} {A : Nat → Prop} {a : Nat} {tys : List (ClassId × FieldType)} {ws : va_W} {H0 : Heap}
theorem va_mna {X : va_W} {L : List Nat} {f : Nat → va_E} {cc : ByteArray} (hexec : p.tables.exec = Jvm.exec) (hb : c.code = cc) {own : String} {index : Nat} {ty : FieldType} {cy : ClassId} (hown : s.vm.findClass own = some m.cls) (hclink : (Cond.classLink own index ("[" ++ (FieldType.array ty).toString)).before args s = true) (hover : va_AOA ty s) (harr : (Cond.arrayClass ty).before args s = true) (hcy : s.vm.findClass (FieldType.array ty).toString = some cy)
    (hK : va_K D cl tys s) (hP : va_P D cl (X ++ va_pl L f) H) (hD : va_D A (X ++ va_pl L f)) (hS : va_S A H0 H locs) (hA : ∀ q, H0.size ≤ q → A q) {n k : Int32} {N' K' : Nat} {z : vp_A} (hn : ¬ n < 0) (hk : ¬ k < 0) (hN : n.toNatClampNeg = N') (hM : k.toNatClampNeg = K')
    (hb1 : N' * 4 ≤ 536870912) (hb2 : K' * componentBytes ty ≤ 536870912) (hb3 : K' ≤ 536870912) (hdf : fits ty (defaultValue ty) = true) (hdd : (defaultValue ty).isDefault = true) (hcells : cells + (1 + N') ≤ R.cells) (hslots : slots + (N' + N' * K') ≤ R.slots) (hz : ∀ c : ClassId, Jvm.Free.Multi.innerC c K' (defaultValue ty) = vp_cell c z) (hdg : decode cc pc = .ok (.multianewarray index 2, 4))
    (kk : ∀ (q : Nat) (r : Nat → Nat) (cA : ClassId) (H1 : Heap), (∀ i j : Nat, i < N' → j < N' → r i = r j → i = j) → (∀ i : Nat, i < N' → r i ∉ L) → va_K D cl (tys ++ [(cA, .array ty)]) s →
      va_P D cl ((X ++ [(q, .inl (cA, N', .inr (.inr (.inr (.inr (fun i => if i < N' then some (r i) else none))))))]) ++ va_pl (L ++ (List.range N').map r) (vr_up f ((List.range N').map r) (.inl (cy, z)))) H1 → va_D A ((X ++ [(q, .inl (cA, N', .inr (.inr (.inr (.inr (fun i => if i < N' then some (r i) else none))))))]) ++ va_pl (L ++ (List.range N').map r) (vr_up f ((List.range N').map r) (.inl (cy, z)))) → va_S A H0 H1 locs →
      W p l e R s m args below meth c H1 locs (cells + 1 + N') (slots + N' + N' * K') Q (F0 m (pc + 4) ls (.ref q :: rest))) : W p l e R s m args below meth c H locs cells slots Q (F0 m pc ls (.int k :: .int n :: rest)) := by
  subst hN
  subst hM
  intro T hT Xs
  obtain ⟨vm₁, cA, comp, -, fA, fC, hO, -, X', step⟩ := Xs.multianewarray2F hexec hown hclink (va_AOA.use hover) harr (g := F0 m pc ls (.int k :: .int n :: rest)) rfl (by rw [hb]; exact hdg) rfl hn hk hb1 hb2 hb3 hdf hdd hcells hslots
  have ec : some cy = some comp := hcy.symm.trans fC
  cases ec
  generalize hF : Jvm.Free.Multi.fill (T.setVm vm₁) cA cy n.toNatClampNeg k.toNatClampNeg (defaultValue ty) n.toNatClampNeg = F at X' step
  have hTh : (T.setVm vm₁).heap = H := hT
  obtain ⟨f1, f2, -, -⟩ := Jvm.Free.Multi.fill_facts (T.setVm vm₁) cA cy n.toNatClampNeg k.toNatClampNeg (defaultValue ty) n.toNatClampNeg
  rw [hF, hTh] at f1 f2
  have hold : ∀ x : Nat, x < H.size → F.heap[x]? = H[x]? := fun x hx => by
    have := Jvm.Free.Multi.fill_old (T.setVm vm₁) cA cy n.toNatClampNeg k.toNatClampNeg (defaultValue ty) (a := x) (by rw [hTh]; exact hx) n.toNatClampNeg
    rw [hF, hTh] at this
    exact this
  have hrow : ∀ j : Nat, j < n.toNatClampNeg → F.heap[H.size + 1 + j]? = some (vp_cell cy z) := fun j hj => by
    have := Jvm.Free.Multi.fill_inner (T.setVm vm₁) cA cy n.toNatClampNeg k.toNatClampNeg (defaultValue ty) n.toNatClampNeg j hj
    rw [hF, hTh, hz] at this
    exact this
  have hout : Jvm.Free.Multi.outerC cA n.toNatClampNeg H.size n.toNatClampNeg = vp_cell cA (n.toNatClampNeg, .inr (.inr (.inr (.inr (fun i => if i < n.toNatClampNeg then some (H.size + 1 + i) else none))))) := by
    rw [vp_cell_q]
    exact vr_outer cA n.toNatClampNeg H.size n.toNatClampNeg
  rw [hout] at f2
  have hlt : ∀ a, a ∈ L → a < H.size := fun a ha => by
    obtain ⟨k9, hk9⟩ := va_pl_get (X := X) (f := f) ha
    exact (hP k9 _ hk9).lt
  have hnl : ∀ i : Nat, i < n.toNatClampNeg → H.size + 1 + i ∉ L := fun i _ h => by
    have := hlt _ h
    omega
  have hnm : ∀ a, a ∈ (List.range n.toNatClampNeg).map (fun i => H.size + 1 + i) → a ∉ L := fun a ha h => by
    obtain ⟨i, -, rfl⟩ := List.mem_map.mp ha
    have := hlt _ h
    omega
  have hP0 : va_P D cl (X ++ va_pl L f) F.heap := hP.kept (fun k9 x hx => hold x.1 ((hP k9 x hx).lt))
  have hP1 : va_P D cl ((X ++ va_pl L f) ++ [(H.size, .inl (cA, n.toNatClampNeg, .inr (.inr (.inr (.inr (fun i => if i < n.toNatClampNeg then some (H.size + 1 + i) else none))))))]) F.heap := hP0.app (fun k9 x hx => by
    have h0 : k9 < 1 := (List.getElem?_eq_some_iff.mp hx).1
    rw [show k9 = 0 by omega] at hx
    cases hx
    exact f2)
  have hP2 : va_P D cl (((X ++ va_pl L f) ++ [(H.size, .inl (cA, n.toNatClampNeg, .inr (.inr (.inr (.inr (fun i => if i < n.toNatClampNeg then some (H.size + 1 + i) else none))))))]) ++ ((List.range n.toNatClampNeg).map (fun i => H.size + 1 + i)).map (fun a => (a, .inl (cy, z)))) F.heap := hP1.app (fun k9 x hx => by
    obtain ⟨a, ha, rfl⟩ := List.mem_map.mp (List.mem_of_getElem? hx)
    obtain ⟨i, hi, rfl⟩ := List.mem_map.mp ha
    exact hrow i (List.mem_range.mp hi))
  have hD2 : va_D A (((X ++ va_pl L f) ++ [(H.size, .inl (cA, n.toNatClampNeg, .inr (.inr (.inr (.inr (fun i => if i < n.toNatClampNeg then some (H.size + 1 + i) else none))))))]) ++ ((List.range n.toNatClampNeg).map (fun i => H.size + 1 + i)).map (fun a => (a, .inl (cy, z)))) := by
    have hD1 := hD.push (e := .inl (cA, n.toNatClampNeg, .inr (.inr (.inr (.inr (fun i => if i < n.toNatClampNeg then some (H.size + 1 + i) else none)))))) hP rfl (hA _ hS.1)
    generalize hW1 : (X ++ va_pl L f) ++ [(H.size, .inl (cA, n.toNatClampNeg, .inr (.inr (.inr (.inr (fun i => if i < n.toNatClampNeg then some (H.size + 1 + i) else none))))))] = W1 at hD1 hP1 ⊢
    have hle : ∀ (k9 : Nat) (x : Nat × va_E), W1[k9]? = some x → x.1 ≤ H.size := fun k9 x hx => by
      rw [← hW1] at hx
      by_cases hl : k9 < (X ++ va_pl L f).length
      · rw [List.getElem?_append_left hl] at hx
        exact Nat.le_of_lt ((hP k9 x hx).lt)
      · rw [List.getElem?_append_right (by omega)] at hx
        have h0 : k9 - (X ++ va_pl L f).length < 1 := (List.getElem?_eq_some_iff.mp hx).1
        rw [show k9 - (X ++ va_pl L f).length = 0 by omega] at hx
        cases hx
        exact Nat.le_refl _
    have hr : ∀ (k9 : Nat) (x : Nat × va_E), (((List.range n.toNatClampNeg).map (fun i => H.size + 1 + i)).map (fun a => ((a, .inl (cy, z)) : Nat × va_E)))[k9]? = some x → x.1 = H.size + 1 + k9 := fun k9 x hx => by
      rw [List.getElem?_map, List.getElem?_map] at hx
      by_cases h9 : k9 < n.toNatClampNeg
      · rw [List.getElem?_range h9] at hx
        cases hx
        rfl
      · have hn0 : (List.range n.toNatClampNeg)[k9]? = none := List.getElem?_eq_none (by rw [List.length_range]; omega)
        rw [hn0] at hx
        cases hx
    refine ⟨fun i j x y hi hj hxy => ?_, fun k9 x hx => ?_⟩
    · by_cases h1 : i < W1.length <;> by_cases h2 : j < W1.length
      · rw [List.getElem?_append_left h1] at hi
        rw [List.getElem?_append_left h2] at hj
        exact hD1.1 i j x y hi hj hxy
      · rw [List.getElem?_append_left h1] at hi
        rw [List.getElem?_append_right (by omega)] at hj
        have := hle _ _ hi
        have := hr _ _ hj
        omega
      · rw [List.getElem?_append_right (by omega)] at hi
        rw [List.getElem?_append_left h2] at hj
        have := hle _ _ hj
        have := hr _ _ hi
        omega
      · rw [List.getElem?_append_right (by omega)] at hi hj
        have := hr _ _ hi
        have := hr _ _ hj
        omega
    · by_cases h1 : k9 < W1.length
      · rw [List.getElem?_append_left h1] at hx
        exact hD1.2 k9 x hx
      · rw [List.getElem?_append_right (by omega)] at hx
        have := hr _ _ hx
        exact hA _ (by have := hS.1; omega)
  have hAr : ArrOfT s cA (.array ty) := fun N9 z9 => by
    obtain ⟨-, k9, hk9, cm9, hkk9⟩ := (hO 0 0 0).1
    exact ⟨(fun q hq => by cases hq), k9, hk9, cm9, hkk9⟩
  have hK2 : va_K D cl (tys ++ [(cA, .array ty)]) s := ⟨hK.1, fun k9 x hx => by
    by_cases hl : k9 < tys.length
    · rw [List.getElem?_append_left hl] at hx
      exact hK.2 k9 x hx
    · rw [List.getElem?_append_right (by omega)] at hx
      have h0 : k9 - tys.length < 1 := (List.getElem?_eq_some_iff.mp hx).1
      rw [show k9 - tys.length = 0 by omega] at hx
      cases hx
      exact ⟨hAr, fA⟩⟩
  obtain ⟨t, a1, b1⟩ := kk H.size (fun i => H.size + 1 + i) cA F.heap (fun i j _ _ h => by have h9 : H.size + 1 + i = H.size + 1 + j := h; omega) hnl hK2 (by rw [← vr_rows hnm]; exact vr_lay hP2) (by rw [← vr_rows hnm]; exact vr_layD hD2) ⟨by rw [f1]; have := hS.1; omega, fun x h1 h2 => (hold x (Nat.lt_of_lt_of_le h1 hS.1)).trans (hS.2.1 x h1 h2), hS.2.2⟩ F rfl X'
  refine ⟨t, step t ?_, b1⟩
  have e : T.heap.size = H.size := by rw [hT]
  rw [e]
  exact a1
end VGM
/-! ===== END ===== -/

/-! ===== BEGIN exceptions that leave a method, and their catching by the caller (launches without stack traces) ===== -/
section VXA
/-! The laws vx_back, vx_callV, vx_callS, vx_callSW, vx_throw0, vx_throwS follow proofs of the library, with one case more: JvmDerived/Free/Laws.lean (Back.of_free), Shelf42/LK1.lean (callV, callS), Shelf/KitTraced.lean (throwNew0V, throwNewS). -/
/-- where a method has thrown q: the class by its name, the cell, what was written, the world -/
def vx_T (XC : String → State → State → Prop) (st : State) (q : Addr) (t : State) (mc ms : Nat) (free : Addr → Prop) : Prop :=
  ∃ (E : String) (ce : Cell) (L : List Loc), XC E st t ∧ t.heap[q]? = some ce ∧ ce.vm = .none ∧ st.vm.findClass E = some ce.cls ∧ st.WarmedH t.vm ∧ st.sameButNew ({ t with vm := st.vm } : State) L mc ms ∧ ∀ z ∈ L, free z.base
def vx_Q (Qc : Array Value → State → Outcome → State → Prop) (XC : String → State → State → Prop) (mc ms : Nat) (free : Addr → Prop) : Array Value → State → Outcome → State → Prop := fun a st o t =>
  (Qc a st o t ∧ ∃ L, FrameEnd st o t L mc ms ∧ ∀ q ∈ L, free q.base) ∨ ∃ q, o = .threw q ∧ vx_T XC st q t mc ms free
/-- a callee that returns or throws -/
def vx_Met (l : Launch) (y : MethodName) (ws : List Cond) (rm : Room) (Pc : Array Value → State → Prop) (Qc : Array Value → State → Outcome → State → Prop) (XC : String → State → State → Prop) (mc ms : Nat) (free : Addr → Prop) : Prop :=
  MetFree l y (headSpec ws rm) Pc (fun _ _ _ _ _ => True) (vx_Q Qc XC mc ms free)
def vx_Post (XC : String → State → State → Prop) (mc ms : Nat) (free : Addr → Prop) : Pt → Array Value → Addr → Pt → Prop := fun A a q B =>
  ∃ (g : JFrame) (mk : MethodId) (t : State) (L : List Loc) (E : String) (ce : Cell), B.U.heap = t.heap ∧ B.U.vm = t.vm ∧ XC E (A.U.calling g mk a) t ∧ t.heap[q]? = some ce ∧ ce.vm = .none ∧ A.U.vm.findClass E = some ce.cls ∧ B.locs = A.locs ++ L ∧ (∀ z ∈ L, free z.base) ∧ B.cells = A.cells + mc ∧ B.slots = A.slots + ms
def vx_Back (l : Launch) (R : Room) (p : Program) (e : Env) (below : List Frame) (s : State) (sargs : Array Value) (y : MethodName) (len W9 : Nat)
    (Pre : Pt → Array Value → Prop) (Post : Pt → Array Value → Option Value → Pt → Prop) (PostX : Pt → Array Value → Addr → Pt → Prop) : Prop :=
  ∀ (m : MethodId) (meth : Method) (c : Code) (A : Pt) (g : JFrame) (ig : Instr) (mk : MethodId) (a : Array Value),
    Stand p l e R s m sargs below meth c A.U A.locs A.cells A.slots → g.method = m → g.locals.size = c.maxLocals → decode c.code g.pc = .ok (ig, len) →
    2 * g.monitorRoom + (g.stack.map fun v => v.category).sum ≤ W9 → A.U.methodNamed? y = some mk → Pre A a →
    (∃ (v : Option Value) (B : Pt), Stand p l e R s m sargs below meth c B.U B.locs B.cells B.slots ∧ Post A a v B ∧
      Steps p.tables e below (doInvoke e (A.U.setTop g) [] mk a).1 (B.U.setTop { g with pc := g.pc + len, stack := v.toList ++ g.stack })) ∨
    (∃ (q : Addr) (B : Pt), Stand p l e R s m sargs below meth c B.U B.locs B.cells B.slots ∧ PostX A a q B ∧
      Steps p.tables e below (doInvoke e (A.U.setTop g) [] mk a).1 ((B.U.setTop g).pushFrame (.throwing q)))
section Payer
variable {l : Launch} {R : Room} {p : Program} {e : Env} {below : List Frame} {s : State} {sargs : Array Value} {y : MethodName} {len W9 : Nat}
theorem vx_back {ws : List Cond} {rm : Room} {Pc : Array Value → State → Prop} {Qc : Array Value → State → Outcome → State → Prop} {XC : String → State → State → Prop} {mc ms : Nat} {free : Addr → Prop} {bytes : ByteArray} {maxL : Nat} {ret : Option FieldType}
    (hM : vx_Met l y ws rm Pc Qc XC mc ms free) (hblind : FrameBlind Pc) (hrc : rm.cells = mc) (hrs : rm.slots = ms)
    (hframes : rm.frames + 1 ≤ R.frames) (hlocals : W9 + (maxL + 11) + rm.locals ≤ R.locals)
    (hws : ∀ w ∈ ws, ∀ a' U, s.WarmedH U.vm → w.before a' U = true) (hcode : Cond.code y bytes maxL ret ∈ ws) (hinit : ∀ a' U, s.WarmedH U.vm → (Cond.initialized y.cls).before a' U = true) :
    vx_Back l R p e below s sargs y len W9 (PreOf R mc ms Pc) (PostOf Qc mc ms free) (vx_Post XC mc ms free) := by
  intro m meth c A g ig mk a X hg hsize hdg hW hn hp
  have h1 : (headSpec ws rm).pre.before a A.U = true := atoms_intro fun w hw => hws w hw _ _ X.warmed
  have h2 : (Cond.code y bytes maxL ret).before a A.U = true := hws _ hcode _ _ X.warmed
  have h3 : (Cond.initialized y.cls).before a A.U = true := hinit _ _ X.warmed
  have h4 : A.cells + (headSpec ws rm).room.cells ≤ R.cells := by rw [show (headSpec ws rm).room.cells = mc from hrc]; exact hp.1
  have h5 : A.slots + (headSpec ws rm).room.slots ≤ R.slots := by rw [show (headSpec ws rm).room.slots = ms from hrs]; exact hp.2.1
  have hPc : Pc a (A.U.calling g mk a) := hblind _ _ _ _ hp.2.2
  obtain ⟨U, Ls, c0, s0⟩ := A
  dsimp only [Pt.U, Pt.locs, Pt.cells, Pt.slots] at h1 h2 h3 h4 h5 X hn hPc ⊢
  obtain ⟨methY, cY, hmY, hcY, -, hlY, -, -, -, -⟩ := Cond.code_spec hn h2
  obtain ⟨kY, hkY, -⟩ := className_of_methodNamed hn
  have hinitY : kY.init = .initialized := Cond.initialized_spec (findClass_of_methodNamed hn) hkY h3
  have h : At U g.method c below := by rw [hg]; exact X.here
  have hlocals9 : W9 + (maxL + 11) + (headSpec ws rm).room.locals ≤ R.locals := hlocals
  have happ : (headSpec ws rm).appliesLoose y e.platform (U.calling g mk a) = true :=
    Spec.appliesLoose_calling (g := g) h hdg hn hkY hinitY
      (X.room_calling (g := g) (R' := (headSpec ws rm).room) hsize hmY hcY hframes (by rw [hlY]; omega) h4 h5) h1
  obtain ⟨mid, hmid⟩ := h.above
  have hfr : (U.setTop g).frames = (.java g :: mid) ++ below := by rw [State.frames_setTop' g h.top, hmid]; rfl
  obtain ⟨o, s₂, hsteps, -, hend, hq⟩ := Steps.callFree hM p X.admits X.cas X.clock (acts := []) hfr happ hPc trivial
  have hq' : vx_Q Qc XC mc ms free a (U.calling g mk a) o s₂ := hq
  rw [State.frames_setTop' g h.top] at hend
  obtain ⟨g₀, hg0⟩ := Option.isSome_iff_exists.mp h.top
  obtain ⟨r, hr⟩ := State.topJava?_eq_some.mp hg0
  have hr' : (({ U with heap := s₂.heap, slotsUsed := s₂.slotsUsed } : State).setVm s₂.vm).frames = .java g₀ :: r := hr
  rcases hq' with ⟨hqc, L, hfe, hL⟩ | ⟨q, rfl, E, ce, L, hx, hce, hcv, hcl, hW₂, hsm, hL⟩
  · obtain ⟨⟨v, rfl⟩, hW₂, e2, q2, q3, q4, q5, q6⟩ := id hfe
    have e3 : s₂ = ({ (U.calling g mk a).setFrames s₂.frames with heap := s₂.heap, slotsUsed := s₂.slotsUsed } : State).setVm s₂.vm := by
      have : s₂ = ({ s₂ with vm := (U.calling g mk a).vm } : State).setVm s₂.vm := rfl
      rw [e2] at this
      exact this
    obtain ⟨c₂, i₂, len₂, hc₂, hd₂, hf₂⟩ := hend
    have hW' : U.WarmedH s₂.vm := hW₂
    have hcc : c₂ = c := by
      have h1 : s₂.code? g.method = U.code? g.method := by
        rw [State.code?_eq, State.code?_eq, hW'.alike.method?]
      exact Option.some.inj (hc₂.symm.trans (h1.trans h.code))
    subst hcc
    have hlen : len₂ = len := by rw [hdg] at hd₂; cases hd₂; rfl
    subst hlen
    have hs₂ : s₂ = (({ U with heap := s₂.heap, slotsUsed := s₂.slotsUsed } : State).setVm s₂.vm).setTop { g with pc := g.pc + len₂, stack := v.toList ++ g.stack } := by
      refine e3.trans ?_
      rw [hf₂, State.calling_eq h.top, State.setFrames_setFrames, State.setTop_of_frames _ hr', hr]
      rfl
    have hsame : U.sameButNew ({ U with heap := s₂.heap, slotsUsed := s₂.slotsUsed } : State) L mc ms := by
      refine ⟨?_, q2, q3, q4, q5, q6⟩
      obtain ⟨t, ht, -⟩ := State.frames_cons hr
      show ({ U with heap := s₂.heap, slotsUsed := s₂.slotsUsed } : State) = { U.setFrames U.frames with heap := s₂.heap, slotsUsed := s₂.slotsUsed }
      rw [State.setFrames_self ht]
    subst hg
    refine Or.inl ⟨v, ⟨(({ U with heap := s₂.heap, slotsUsed := s₂.slotsUsed } : State).setVm s₂.vm), Ls ++ L, c0 + mc, s0 + ms⟩,
      ⟨X.admits, X.cas, X.clock, X.frames, X.room, X.hears, X.method, X.code, (X.here.setHeapUsed s₂.heap s₂.slotsUsed).setVm hW'.alike, X.tail, State.WarmedH.trans X.warmed hW', X.limits, X.bytes, X.same.trans (hsame.setVm s.vm)⟩,
      ⟨g, mk, s₂, L, rfl, rfl, hqc, rfl, hL, rfl, rfl⟩, ?_⟩
    show Steps p.tables e below _ ((({ U with heap := s₂.heap, slotsUsed := s₂.slotsUsed } : State).setVm s₂.vm).setTop { g with pc := g.pc + len₂, stack := v.toList ++ g.stack })
    rw [← hs₂]
    exact hsteps
  · obtain ⟨e2, q2, q3, q4, q5, q6⟩ := id hsm
    have e3 : s₂ = ({ (U.calling g mk a).setFrames s₂.frames with heap := s₂.heap, slotsUsed := s₂.slotsUsed } : State).setVm s₂.vm := by
      have : s₂ = ({ s₂ with vm := (U.calling g mk a).vm } : State).setVm s₂.vm := rfl
      rw [e2] at this
      exact this
    have hf₂ : s₂.frames = .throwing q :: .java g :: U.frames.tail := hend
    have hW' : U.WarmedH s₂.vm := hW₂
    have hs₂ : s₂ = ((({ U with heap := s₂.heap, slotsUsed := s₂.slotsUsed } : State).setVm s₂.vm).setTop g).pushFrame (.throwing q) := by
      refine e3.trans ?_
      rw [hf₂, State.calling_eq h.top, State.setFrames_setFrames, State.pushFrame, State.frames_setTop _ hr', State.setTop_of_frames _ hr', State.setFrames_setFrames, hr]
      rfl
    have hsame : U.sameButNew ({ U with heap := s₂.heap, slotsUsed := s₂.slotsUsed } : State) L mc ms := by
      refine ⟨?_, q2, q3, q4, q5, q6⟩
      obtain ⟨t, ht, -⟩ := State.frames_cons hr
      show ({ U with heap := s₂.heap, slotsUsed := s₂.slotsUsed } : State) = { U.setFrames U.frames with heap := s₂.heap, slotsUsed := s₂.slotsUsed }
      rw [State.setFrames_self ht]
    subst hg
    refine Or.inr ⟨q, ⟨(({ U with heap := s₂.heap, slotsUsed := s₂.slotsUsed } : State).setVm s₂.vm), Ls ++ L, c0 + mc, s0 + ms⟩,
      ⟨X.admits, X.cas, X.clock, X.frames, X.room, X.hears, X.method, X.code, (X.here.setHeapUsed s₂.heap s₂.slotsUsed).setVm hW'.alike, X.tail, State.WarmedH.trans X.warmed hW', X.limits, X.bytes, X.same.trans (hsame.setVm s.vm)⟩,
      ⟨g, mk, s₂, L, E, ce, rfl, rfl, hx, hce, hcv, hcl, rfl, hL, rfl, rfl⟩, ?_⟩
    show Steps p.tables e below _ (((({ U with heap := s₂.heap, slotsUsed := s₂.slotsUsed } : State).setVm s₂.vm).setTop g).pushFrame (.throwing q))
    rw [← hs₂]
    exact hsteps
end Payer
section Calls
variable {p : Program} {l : Launch} {e : Env} {R : Room} {s : State} {m : MethodId} {args : Array Value} {below : List Frame} {meth : Method} {c : Code} {T : State} {locs : List Loc} {cells slots : Nat}
theorem vx_callV (X : Stand p l e R s m args below meth c T locs cells slots) (hexec : p.tables.exec = Jvm.exec) {own C : String} {index : Nat} {y : MethodName} {bytes : ByteArray} {maxL : Nat} {ret : Option FieldType}
    (hown : s.vm.findClass own = some m.cls) (hlink : (Cond.methodLink own index y).before args s = true) (hinst : (Cond.instanceMethod y).before args s = true) (hsel : (Cond.selects C y y).before args s = true)
    (hcode : (Cond.code y bytes maxL ret).before args s = true) (hy : y.cls ≠ "java/lang/invoke/MethodHandle" ∧ y.cls ≠ "java/lang/invoke/VarHandle")
    {W9 : Nat} {Pre : Pt → Array Value → Prop} {Post : Pt → Array Value → Option Value → Pt → Prop} {PostX : Pt → Array Value → Addr → Pt → Prop} (hK : vx_Back l R p e below s args y 3 W9 Pre Post PostX)
    {b : Addr} {cellB : Cell} (hcell : T.heap[b]? = some cellB) (hobj : cellB.vm.isStatics = false) (hcls : s.vm.findClass C = some cellB.cls)
    {g : JFrame} (hg : g.method = m) (hsize : g.locals.size = c.maxLocals) {argsL rest : List Value} (hlen : ∀ sig, parseMethodDescriptor y.desc = some sig → argsL.length = sig.parameters.length)
    (hstack : g.stack = argsL.reverse ++ .ref b :: rest) (hW : 2 * g.monitorRoom + (rest.map fun v => v.category).sum ≤ W9) (hdg : decode c.code g.pc = .ok (.invokevirtual index, 3))
    (hpre : ∀ vm₁, s.WarmedH vm₁ → Pre ⟨T.setVm vm₁, locs, cells, slots⟩ (Value.ref b :: argsL).toArray) :
    (∃ (v : Option Value) (vm₁ : Vm) (B : Pt), s.WarmedH vm₁ ∧ Stand p l e R s m args below meth c B.U B.locs B.cells B.slots ∧ Post ⟨T.setVm vm₁, locs, cells, slots⟩ (Value.ref b :: argsL).toArray v B ∧
      ∀ target, Steps p.tables e below (B.U.setTop { g with pc := g.pc + 3, stack := v.toList ++ rest }) target → Steps p.tables e below (T.setTop g) target) ∨
    (∃ (q : Addr) (vm₁ : Vm) (B : Pt), s.WarmedH vm₁ ∧ Stand p l e R s m args below meth c B.U B.locs B.cells B.slots ∧ PostX ⟨T.setVm vm₁, locs, cells, slots⟩ (Value.ref b :: argsL).toArray q B ∧
      Steps p.tables e below (T.setTop g) ((B.U.setTop { g with stack := rest }).pushFrame (.throwing q))) := by
  obtain ⟨mk, methM, hnamed, hmethM, hstM, habM⟩ := Cond.instanceMethod_spec hinst
  obtain ⟨methM', cM, hmethM', -, -, -, -, -, -, hsigM⟩ := Cond.code_spec hnamed hcode
  cases hmethM.symm.trans hmethM'
  obtain ⟨c2, r2, m2, q1, q2, q3, q4, kP, hkP, hkPi⟩ := Cond.selects_spec hsel
  cases hcls.symm.trans q1
  cases (State.methodFound?_of_named hnamed hy).symm.trans q2
  cases hnamed.symm.trans q3
  have hselP : selectMethod e.platform s.vm cellB.cls mk = .method mk := by rw [Launch.admits_selectMethod X.admits]; exact q4
  obtain ⟨vm₁, X₁, hstep₁⟩ := X.invokevirtual hexec hown hlink hnamed hmethM hstM hkP hkPi hy (a := b) (cell := cellB) hcell
    (fun z h => by rw [h] at hobj; cases hobj) hselP hmethM habM hkP hkPi (g := g) hg (argsL := argsL) (rest := rest) (hlen _ hsigM) hstack hdg
  rcases hK m meth c ⟨T.setVm vm₁, locs, cells, slots⟩ { g with stack := rest } (.invokevirtual index) mk (Value.ref b :: argsL).toArray X₁ hg hsize hdg hW (X₁.named hnamed) (hpre vm₁ X₁.warmed) with ⟨v, B, X', hpost, hsteps⟩ | ⟨q, B, X', hpost, hsteps⟩
  · exact Or.inl ⟨v, vm₁, B, X₁.warmed, X', hpost, fun target h => hstep₁ _ fun acts => by rw [doInvoke_state]; exact hsteps.trans h⟩
  · exact Or.inr ⟨q, vm₁, B, X₁.warmed, X', hpost, hstep₁ _ fun acts => by rw [doInvoke_state]; exact hsteps⟩
theorem vx_callS (X : Stand p l e R s m args below meth c T locs cells slots) (hexec : p.tables.exec = Jvm.exec) {own : String} {index : Nat} {y : MethodName} {bytes : ByteArray} {maxL : Nat} {ret : Option FieldType}
    (hown : s.vm.findClass own = some m.cls) (hlink : (Cond.methodLink own index y).before args s = true) (hstat : (Cond.static y).before args s = true) (hinit : (Cond.initialized y.cls).before args s = true)
    (hcode : (Cond.code y bytes maxL ret).before args s = true) (hy : y.cls ≠ "java/lang/invoke/MethodHandle" ∧ y.cls ≠ "java/lang/invoke/VarHandle")
    {W9 : Nat} {Pre : Pt → Array Value → Prop} {Post : Pt → Array Value → Option Value → Pt → Prop} {PostX : Pt → Array Value → Addr → Pt → Prop} (hK : vx_Back l R p e below s args y 3 W9 Pre Post PostX)
    {g : JFrame} (hg : g.method = m) (hsize : g.locals.size = c.maxLocals) {argsL rest : List Value} (hlen : ∀ sig, parseMethodDescriptor y.desc = some sig → argsL.length = sig.parameters.length)
    (hstack : g.stack = argsL.reverse ++ rest) (hW : 2 * g.monitorRoom + (rest.map fun v => v.category).sum ≤ W9) (hdg : decode c.code g.pc = .ok (.invokestatic index, 3))
    (hpre : ∀ vm₁, s.WarmedH vm₁ → Pre ⟨T.setVm vm₁, locs, cells, slots⟩ argsL.toArray) :
    (∃ (v : Option Value) (vm₁ : Vm) (B : Pt), s.WarmedH vm₁ ∧ Stand p l e R s m args below meth c B.U B.locs B.cells B.slots ∧ Post ⟨T.setVm vm₁, locs, cells, slots⟩ argsL.toArray v B ∧
      ∀ target, Steps p.tables e below (B.U.setTop { g with pc := g.pc + 3, stack := v.toList ++ rest }) target → Steps p.tables e below (T.setTop g) target) ∨
    (∃ (q : Addr) (vm₁ : Vm) (B : Pt), s.WarmedH vm₁ ∧ Stand p l e R s m args below meth c B.U B.locs B.cells B.slots ∧ PostX ⟨T.setVm vm₁, locs, cells, slots⟩ argsL.toArray q B ∧
      Steps p.tables e below (T.setTop g) ((B.U.setTop { g with stack := rest }).pushFrame (.throwing q))) := by
  obtain ⟨mk, hnamed⟩ := Cond.code_named hcode
  obtain ⟨methM, cM, hmethM, -, -, -, -, -, -, hsigM⟩ := Cond.code_spec hnamed hcode
  have hstatic : methM.isStatic = true := Cond.static_spec hnamed hmethM hstat
  obtain ⟨kP, hkP, -⟩ := className_of_methodNamed hnamed
  have hinitP : kP.init = .initialized := Cond.initialized_spec (findClass_of_methodNamed hnamed) hkP hinit
  obtain ⟨vm₁, X₁, hstep₁⟩ := X.invokestatic hexec hown hlink hnamed hmethM hstatic hkP hinitP hy (g := g) hg (argsL := argsL) (rest := rest) (hlen _ hsigM) hstack hdg
  rcases hK m meth c ⟨T.setVm vm₁, locs, cells, slots⟩ { g with stack := rest } (.invokestatic index) mk argsL.toArray X₁ hg hsize hdg hW (X₁.named hnamed) (hpre vm₁ X₁.warmed) with ⟨v, B, X', hpost, hsteps⟩ | ⟨q, B, X', hpost, hsteps⟩
  · exact Or.inl ⟨v, vm₁, B, X₁.warmed, X', hpost, fun target h => hstep₁ _ fun acts => by rw [doInvoke_state]; exact hsteps.trans h⟩
  · exact Or.inr ⟨q, vm₁, B, X₁.warmed, X', hpost, hstep₁ _ fun acts => by rw [doInvoke_state]; exact hsteps⟩
end Calls
theorem vx_cls {s : State} {T : State} {vm₁ : Vm} {E : String} {k : ClassId} (hW : s.WarmedH vm₁) (h : (T.setVm vm₁).vm.findClass E = some k) : s.vm.findClass E = some k := by
  have h1 : vm₁.findClass E = some k := h
  rw [hW.alike.findClass] at h1
  exact h1
/-- the method's frame g, with q thrown over it -/
def vx_W (p : Program) (l : Launch) (e : Env) (R : Room) (s : State) (m : MethodId) (args : Array Value) (below : List Frame) (meth : Method) (c : Code) (H : Heap) (locs : List Loc) (cells slots : Nat) (Q : State → Prop) (g : JFrame) (q : Addr) : Prop :=
  ∀ T : State, T.heap = H → Stand p l e R s m args below meth c T locs cells slots → ∃ t, Steps p.tables e below ((T.setTop g).pushFrame (.throwing q)) t ∧ Q t
def vx_Run (p : Program) (l : Launch) (e : Env) (R : Room) (s : State) (m : MethodId) (args : Array Value) (below : List Frame) (meth : Method) (c : Code) (H : Heap) (locs : List Loc) (cells slots mc ms : Nat) (g : JFrame) (rest : List Value) (Qa : State → Outcome → State → Prop) (XC : String → State → State → Prop) (free : Addr → Prop) : Prop :=
  ∀ T : State, T.heap = H → Stand p l e R s m args below meth c T locs cells slots →
    (∃ (v : Option Value) (st₀ t T' : State) (L : List Loc), st₀.heap = H ∧ Stand p l e R s m args below meth c T' (locs ++ L) (cells + mc) (slots + ms) ∧ (∀ q ∈ L, free q.base) ∧ T'.heap = t.heap ∧ T'.vm = t.vm ∧ Qa st₀ (.returned v) t ∧
      Goes p e below T g T' { g with pc := g.pc + 3, stack := v.toList ++ rest }) ∨
    (∃ (q : Addr) (st₀ t T' : State) (L : List Loc) (E : String) (ce : Cell), st₀.heap = H ∧ Stand p l e R s m args below meth c T' (locs ++ L) (cells + mc) (slots + ms) ∧ (∀ z ∈ L, free z.base) ∧ T'.heap = t.heap ∧ T'.vm = t.vm ∧ XC E st₀ t ∧ t.heap[q]? = some ce ∧ ce.vm = .none ∧ s.vm.findClass E = some ce.cls ∧
      Steps p.tables e below (T.setTop g) ((T'.setTop { g with stack := rest }).pushFrame (.throwing q)))
def vx_X {S : Type} (px : S → Prop) (B : String → S → State → Prop) (A : Nat → Prop) : String → State → State → Prop := fun E st t => ∃ u : S, px u ∧ B E u t ∧ va_F A st t
section Runs
variable {p : Program} {l : Launch} {e : Env} {R : Room} {s : State} {m : MethodId} {args : Array Value} {below : List Frame} {meth : Method} {c : Code} {H : Heap} {locs : List Loc} {cells slots : Nat}
variable {y : MethodName} {bytes cc : ByteArray} {maxL nL mc ms n index : Nat} {ret : Option FieldType} {ws : List Cond} {rm : Room} {Pc : Array Value → State → Prop} {Qc : Array Value → State → Outcome → State → Prop} {XC : String → State → State → Prop} {free : Addr → Prop} {Ts : List Cond} {own C : String} {b : Addr} {As rest : List Value} {g : JFrame}
theorem vx_callBack (cb : CallB R s args own index y bytes maxL ret ws rm mc ms n) (hM : vx_Met l y ws rm Pc Qc XC mc ms free) (hbl : FrameBlind Pc) : vx_Back l R p e below s args y 3 8 (PreOf R mc ms Pc) (PostOf Qc mc ms free) (vx_Post XC mc ms free) := by
  obtain ⟨hrc, hrs, hfr, hlo, hws, hcw, -, hini, -⟩ := cb
  exact vx_back (bytes := bytes) (maxL := maxL) (ret := ret) hM hbl hrc hrs hfr hlo hws hcw (fun a' U hW => word_at hW (Or.inl (by first | rfl | simp [Cond.onTables, Cond.keeps, Cond.steady])) hini)
theorem vx_runV (S : CallFix p m c cc nL s args Ts own) (hM : vx_Met l y ws rm Pc Qc XC mc ms free) (cw : CallW R s args own C index y bytes maxL ret ws rm mc ms n) (hp : PreV s H C b Pc As)
    (hg : g.method = m) (hn : As.length = n) (hsize : g.locals.size = nL) (hstack : g.stack = As.reverse ++ .ref b :: rest) (hW : 2 * g.monitorRoom + (rest.map fun v => v.category).sum ≤ 8) (hdg : decode cc g.pc = .ok (.invokevirtual index, 3)) (hf : cells + mc ≤ R.cells ∧ slots + ms ≤ R.slots) :
    vx_Run p l e R s m args below meth c H locs cells slots mc ms g rest (Qc (Value.ref b :: As).toArray) XC free := by
  have hK : vx_Back l R p e below s args y 3 8 (PreOf R mc ms Pc) (PostOf Qc mc ms free) (vx_Post XC mc ms free) := vx_callBack cw.1 hM hp.1
  obtain ⟨⟨-, -, -, -, -, -, hcode, -, hy, hlen, hl⟩, hin, hse⟩ := cw
  obtain ⟨hx, hb, hml, ho, -⟩ := S
  obtain ⟨-, ⟨cellB, hcB, hoB, hclB⟩, hPc⟩ := hp
  intro T hT X
  rcases vx_callV X hx (C := C) (bytes := bytes) (maxL := maxL) (ret := ret) ho hl hin hse hcode hy hK (by rw [hT]; exact hcB) hoB hclB hg (hsize.trans hml.symm) (argsL := As) (rest := rest) (fun sig h => hn.trans (hlen sig h)) hstack hW (by rw [hb]; exact hdg)
    (fun vm₁ hW₁ => ⟨hf.1, hf.2, hPc (T.setVm vm₁) hT hW₁⟩) with ⟨v, vm₁, ⟨U', l2, c2, s2⟩, hW₁, X', ⟨g', mk, t, L, e1, e2, hq, h1, hL, h2, h3⟩, st⟩ | ⟨q, vm₁, ⟨U', l2, c2, s2⟩, hW₁, X', ⟨g', mk, t, L, E, ce, e1, e2, hq, hce, hcv, hcl, h1, hL, h2, h3⟩, st⟩
  · dsimp only [Pt.U, Pt.locs, Pt.cells, Pt.slots] at X' e1 e2 h1 h2 h3 st
    subst h1; subst h2; subst h3
    exact Or.inl ⟨v, (T.setVm vm₁).calling g' mk (Value.ref b :: As).toArray, t, U', L, hT, X', hL, e1, e2, hq, st⟩
  · dsimp only [Pt.U, Pt.locs, Pt.cells, Pt.slots] at X' e1 e2 h1 h2 h3 st hcl
    subst h1; subst h2; subst h3
    exact Or.inr ⟨q, (T.setVm vm₁).calling g' mk (Value.ref b :: As).toArray, t, U', L, E, ce, hT, X', hL, e1, e2, hq, hce, hcv, vx_cls hW₁ hcl, st⟩
theorem vx_runS (S : CallFix p m c cc nL s args Ts own) (hM : vx_Met l y ws rm Pc Qc XC mc ms free) (cw : CallB R s args own index y bytes maxL ret ws rm mc ms n ∧ (Cond.static y).before args s = true) (hp : PreS s H Pc As)
    (hg : g.method = m) (hn : As.length = n) (hsize : g.locals.size = nL) (hstack : g.stack = As.reverse ++ rest) (hW : 2 * g.monitorRoom + (rest.map fun v => v.category).sum ≤ 8) (hdg : decode cc g.pc = .ok (.invokestatic index, 3)) (hf : cells + mc ≤ R.cells ∧ slots + ms ≤ R.slots) :
    vx_Run p l e R s m args below meth c H locs cells slots mc ms g rest (Qc As.toArray) XC free := by
  have hK : vx_Back l R p e below s args y 3 8 (PreOf R mc ms Pc) (PostOf Qc mc ms free) (vx_Post XC mc ms free) := vx_callBack cw.1 hM hp.1
  obtain ⟨⟨-, -, -, -, -, -, hcode, hini, hy, hlen, hl⟩, hstt⟩ := cw
  obtain ⟨hx, hb, hml, ho, -⟩ := S
  intro T hT X
  rcases vx_callS X hx (bytes := bytes) (maxL := maxL) (ret := ret) ho hl hstt hini hcode hy hK hg (hsize.trans hml.symm) (argsL := As) (rest := rest) (fun sig h => hn.trans (hlen sig h)) hstack hW (by rw [hb]; exact hdg)
    (fun vm₁ hW₁ => ⟨hf.1, hf.2, hp.2 (T.setVm vm₁) hT hW₁⟩) with ⟨v, vm₁, ⟨U', l2, c2, s2⟩, hW₁, X', ⟨g', mk, t, L, e1, e2, hq, h1, hL, h2, h3⟩, st⟩ | ⟨q, vm₁, ⟨U', l2, c2, s2⟩, hW₁, X', ⟨g', mk, t, L, E, ce, e1, e2, hq, hce, hcv, hcl, h1, hL, h2, h3⟩, st⟩
  · dsimp only [Pt.U, Pt.locs, Pt.cells, Pt.slots] at X' e1 e2 h1 h2 h3 st
    subst h1; subst h2; subst h3
    exact Or.inl ⟨v, (T.setVm vm₁).calling g' mk As.toArray, t, U', L, hT, X', hL, e1, e2, hq, st⟩
  · dsimp only [Pt.U, Pt.locs, Pt.cells, Pt.slots] at X' e1 e2 h1 h2 h3 st hcl
    subst h1; subst h2; subst h3
    exact Or.inr ⟨q, (T.setVm vm₁).calling g' mk As.toArray, t, U', L, E, ce, hT, X', hL, e1, e2, hq, hce, hcv, vx_cls hW₁ hcl, st⟩
end Runs
section Rows
variable {p : Program} {l : Launch} {e : Env} {R : Room} {s : State} {m : MethodId} {args : Array Value} {below : List Frame} {meth : Method} {c : Code} {H : Heap} {locs : List Loc} {cells slots : Nat} {Q : State → Prop}
variable {mc ms : Nat} {free : Addr → Prop} {A0 A1 : Nat → Prop} {H0 : Heap} {a : Array Value} {pc : Nat} {ls : Array Slot} {st0 rest : List Value}
theorem vx_keep {st₀ t T' : State} {L : List Loc} (h0 : st₀.heap = H) (e1 : T'.heap = t.heap) (hS : va_S A0 H0 H locs) (hA : ∀ q, q < H.size → A1 q → A0 q) (hf : ∀ q, free q → A0 q) (hL : ∀ q ∈ L, free q.base) (hF : va_F A1 st₀ t) :
    H.size ≤ T'.heap.size ∧ (∀ q : Nat, q < H.size → ¬ A1 q → T'.heap[q]? = H[q]?) ∧ va_S A0 H0 T'.heap (locs ++ L) := by
  obtain ⟨hz, hk⟩ := hF
  rw [h0] at hz hk
  exact ⟨by rw [e1]; exact hz, fun q h1 h2 => by rw [e1]; exact hk q h1 h2,
    ⟨Nat.le_trans hS.1 (by rw [e1]; exact hz), fun q h1 h2 => by rw [e1, hk q (Nat.lt_of_lt_of_le h1 hS.1) (fun z => h2 (hA q (Nat.lt_of_lt_of_le h1 hS.1) z))]; exact hS.2.1 q h1 h2, fun q hq => by
      rcases List.mem_append.mp hq with h | h
      · exact hS.2.2 q h
      · exact hf _ (hL q h)⟩⟩
theorem vx_calli {S SX : Type} {post : Int32 → S → Prop} {px : SX → Prop} {B : S → State → Prop} {BX : String → SX → State → Prop} {AX : Nat → Prop} (hr : vx_Run p l e R s m args below meth c H locs cells slots mc ms (F0 m pc ls st0) rest (va_Qi post B A1 a) (vx_X px BX AX) free) (hS : va_S A0 H0 H locs) (hA : ∀ q, q < H.size → A1 q → A0 q) (hf : ∀ q, free q → A0 q) (hAX : ∀ q, q < H.size → AX q → A0 q)
    (kx : ∀ (E : String) (ce : Cell) (q9 : Addr) (u : SX) (t : State) (H1 : Heap) (locs1 : List Loc), t.heap = H1 → s.vm.Alike t.vm → px u → BX E u t → H.size ≤ H1.size → (∀ q : Nat, q < H.size → ¬ AX q → H1[q]? = H[q]?) → va_S A0 H0 H1 locs1 → H1[q9]? = some ce → ce.vm = .none → s.vm.findClass E = some ce.cls → vx_W p l e R s m args below meth c H1 locs1 (cells + mc) (slots + ms) Q (F0 m pc ls rest) q9)
    (kk : ∀ (r : Int32) (u : S) (t : State) (H1 : Heap) (locs1 : List Loc), t.heap = H1 → s.vm.Alike t.vm → post r u → B u t → H.size ≤ H1.size → (∀ q : Nat, q < H.size → ¬ A1 q → H1[q]? = H[q]?) → va_S A0 H0 H1 locs1 → W p l e R s m args below meth c H1 locs1 (cells + mc) (slots + ms) Q (F0 m (pc + 3) ls (.int r :: rest))) : W p l e R s m args below meth c H locs cells slots Q (F0 m pc ls st0) := by
  intro T hT X
  rcases hr T hT X with ⟨v, st₀, t, T', L, h0, X', hL, e1, e2, ⟨⟨r, u, hv, hp, hb⟩, hF⟩, st⟩ | ⟨q, st₀, t, T', L, E, ce, h0, X', hL, e1, e2, ⟨u, hp, hb, hF⟩, hce, hcv, hcl, st⟩
  · cases hv
    obtain ⟨k1, k2, k3⟩ := vx_keep h0 e1 hS hA hf hL hF
    obtain ⟨t2, a1, b1⟩ := kk r u t T'.heap (locs ++ L) e1.symm (by rw [← e2]; exact X'.warmed.alike) hp hb k1 k2 k3 T' rfl X'
    exact ⟨t2, st t2 a1, b1⟩
  · obtain ⟨k1, k2, k3⟩ := vx_keep h0 e1 hS hAX hf hL hF
    obtain ⟨t2, a1, b1⟩ := kx E ce q u t T'.heap (locs ++ L) e1.symm (by rw [← e2]; exact X'.warmed.alike) hp hb k1 k2 k3 (by rw [e1]; exact hce) hcv hcl T' rfl X'
    exact ⟨t2, st.trans a1, b1⟩
theorem vx_calll {S SX : Type} {post : Int64 → S → Prop} {px : SX → Prop} {B : S → State → Prop} {BX : String → SX → State → Prop} {AX : Nat → Prop} (hr : vx_Run p l e R s m args below meth c H locs cells slots mc ms (F0 m pc ls st0) rest (va_Ql post B A1 a) (vx_X px BX AX) free) (hS : va_S A0 H0 H locs) (hA : ∀ q, q < H.size → A1 q → A0 q) (hf : ∀ q, free q → A0 q) (hAX : ∀ q, q < H.size → AX q → A0 q)
    (kx : ∀ (E : String) (ce : Cell) (q9 : Addr) (u : SX) (t : State) (H1 : Heap) (locs1 : List Loc), t.heap = H1 → s.vm.Alike t.vm → px u → BX E u t → H.size ≤ H1.size → (∀ q : Nat, q < H.size → ¬ AX q → H1[q]? = H[q]?) → va_S A0 H0 H1 locs1 → H1[q9]? = some ce → ce.vm = .none → s.vm.findClass E = some ce.cls → vx_W p l e R s m args below meth c H1 locs1 (cells + mc) (slots + ms) Q (F0 m pc ls rest) q9)
    (kk : ∀ (r : Int64) (u : S) (t : State) (H1 : Heap) (locs1 : List Loc), t.heap = H1 → s.vm.Alike t.vm → post r u → B u t → H.size ≤ H1.size → (∀ q : Nat, q < H.size → ¬ A1 q → H1[q]? = H[q]?) → va_S A0 H0 H1 locs1 → W p l e R s m args below meth c H1 locs1 (cells + mc) (slots + ms) Q (F0 m (pc + 3) ls (.long r :: rest))) : W p l e R s m args below meth c H locs cells slots Q (F0 m pc ls st0) := by
  intro T hT X
  rcases hr T hT X with ⟨v, st₀, t, T', L, h0, X', hL, e1, e2, ⟨⟨r, u, hv, hp, hb⟩, hF⟩, st⟩ | ⟨q, st₀, t, T', L, E, ce, h0, X', hL, e1, e2, ⟨u, hp, hb, hF⟩, hce, hcv, hcl, st⟩
  · cases hv
    obtain ⟨k1, k2, k3⟩ := vx_keep h0 e1 hS hA hf hL hF
    obtain ⟨t2, a1, b1⟩ := kk r u t T'.heap (locs ++ L) e1.symm (by rw [← e2]; exact X'.warmed.alike) hp hb k1 k2 k3 T' rfl X'
    exact ⟨t2, st t2 a1, b1⟩
  · obtain ⟨k1, k2, k3⟩ := vx_keep h0 e1 hS hAX hf hL hF
    obtain ⟨t2, a1, b1⟩ := kx E ce q u t T'.heap (locs ++ L) e1.symm (by rw [← e2]; exact X'.warmed.alike) hp hb k1 k2 k3 (by rw [e1]; exact hce) hcv hcl T' rfl X'
    exact ⟨t2, st.trans a1, b1⟩
theorem vx_callf {S SX : Type} {post : UInt32 → S → Prop} {px : SX → Prop} {B : S → State → Prop} {BX : String → SX → State → Prop} {AX : Nat → Prop} (hr : vx_Run p l e R s m args below meth c H locs cells slots mc ms (F0 m pc ls st0) rest (va_Qf post B A1 a) (vx_X px BX AX) free) (hS : va_S A0 H0 H locs) (hA : ∀ q, q < H.size → A1 q → A0 q) (hf : ∀ q, free q → A0 q) (hAX : ∀ q, q < H.size → AX q → A0 q)
    (kx : ∀ (E : String) (ce : Cell) (q9 : Addr) (u : SX) (t : State) (H1 : Heap) (locs1 : List Loc), t.heap = H1 → s.vm.Alike t.vm → px u → BX E u t → H.size ≤ H1.size → (∀ q : Nat, q < H.size → ¬ AX q → H1[q]? = H[q]?) → va_S A0 H0 H1 locs1 → H1[q9]? = some ce → ce.vm = .none → s.vm.findClass E = some ce.cls → vx_W p l e R s m args below meth c H1 locs1 (cells + mc) (slots + ms) Q (F0 m pc ls rest) q9)
    (kk : ∀ (r : UInt32) (u : S) (t : State) (H1 : Heap) (locs1 : List Loc), t.heap = H1 → s.vm.Alike t.vm → post r u → B u t → H.size ≤ H1.size → (∀ q : Nat, q < H.size → ¬ A1 q → H1[q]? = H[q]?) → va_S A0 H0 H1 locs1 → W p l e R s m args below meth c H1 locs1 (cells + mc) (slots + ms) Q (F0 m (pc + 3) ls (.float r :: rest))) : W p l e R s m args below meth c H locs cells slots Q (F0 m pc ls st0) := by
  intro T hT X
  rcases hr T hT X with ⟨v, st₀, t, T', L, h0, X', hL, e1, e2, ⟨⟨r, u, hv, hp, hb⟩, hF⟩, st⟩ | ⟨q, st₀, t, T', L, E, ce, h0, X', hL, e1, e2, ⟨u, hp, hb, hF⟩, hce, hcv, hcl, st⟩
  · cases hv
    obtain ⟨k1, k2, k3⟩ := vx_keep h0 e1 hS hA hf hL hF
    obtain ⟨t2, a1, b1⟩ := kk r u t T'.heap (locs ++ L) e1.symm (by rw [← e2]; exact X'.warmed.alike) hp hb k1 k2 k3 T' rfl X'
    exact ⟨t2, st t2 a1, b1⟩
  · obtain ⟨k1, k2, k3⟩ := vx_keep h0 e1 hS hAX hf hL hF
    obtain ⟨t2, a1, b1⟩ := kx E ce q u t T'.heap (locs ++ L) e1.symm (by rw [← e2]; exact X'.warmed.alike) hp hb k1 k2 k3 (by rw [e1]; exact hce) hcv hcl T' rfl X'
    exact ⟨t2, st.trans a1, b1⟩
theorem vx_calld {S SX : Type} {post : UInt64 → S → Prop} {px : SX → Prop} {B : S → State → Prop} {BX : String → SX → State → Prop} {AX : Nat → Prop} (hr : vx_Run p l e R s m args below meth c H locs cells slots mc ms (F0 m pc ls st0) rest (va_Qd post B A1 a) (vx_X px BX AX) free) (hS : va_S A0 H0 H locs) (hA : ∀ q, q < H.size → A1 q → A0 q) (hf : ∀ q, free q → A0 q) (hAX : ∀ q, q < H.size → AX q → A0 q)
    (kx : ∀ (E : String) (ce : Cell) (q9 : Addr) (u : SX) (t : State) (H1 : Heap) (locs1 : List Loc), t.heap = H1 → s.vm.Alike t.vm → px u → BX E u t → H.size ≤ H1.size → (∀ q : Nat, q < H.size → ¬ AX q → H1[q]? = H[q]?) → va_S A0 H0 H1 locs1 → H1[q9]? = some ce → ce.vm = .none → s.vm.findClass E = some ce.cls → vx_W p l e R s m args below meth c H1 locs1 (cells + mc) (slots + ms) Q (F0 m pc ls rest) q9)
    (kk : ∀ (r : UInt64) (u : S) (t : State) (H1 : Heap) (locs1 : List Loc), t.heap = H1 → s.vm.Alike t.vm → post r u → B u t → H.size ≤ H1.size → (∀ q : Nat, q < H.size → ¬ A1 q → H1[q]? = H[q]?) → va_S A0 H0 H1 locs1 → W p l e R s m args below meth c H1 locs1 (cells + mc) (slots + ms) Q (F0 m (pc + 3) ls (.double r :: rest))) : W p l e R s m args below meth c H locs cells slots Q (F0 m pc ls st0) := by
  intro T hT X
  rcases hr T hT X with ⟨v, st₀, t, T', L, h0, X', hL, e1, e2, ⟨⟨r, u, hv, hp, hb⟩, hF⟩, st⟩ | ⟨q, st₀, t, T', L, E, ce, h0, X', hL, e1, e2, ⟨u, hp, hb, hF⟩, hce, hcv, hcl, st⟩
  · cases hv
    obtain ⟨k1, k2, k3⟩ := vx_keep h0 e1 hS hA hf hL hF
    obtain ⟨t2, a1, b1⟩ := kk r u t T'.heap (locs ++ L) e1.symm (by rw [← e2]; exact X'.warmed.alike) hp hb k1 k2 k3 T' rfl X'
    exact ⟨t2, st t2 a1, b1⟩
  · obtain ⟨k1, k2, k3⟩ := vx_keep h0 e1 hS hAX hf hL hF
    obtain ⟨t2, a1, b1⟩ := kx E ce q u t T'.heap (locs ++ L) e1.symm (by rw [← e2]; exact X'.warmed.alike) hp hb k1 k2 k3 (by rw [e1]; exact hce) hcv hcl T' rfl X'
    exact ⟨t2, st.trans a1, b1⟩
theorem vx_callv {S SX : Type} {post : S → Prop} {px : SX → Prop} {B : S → State → Prop} {BX : String → SX → State → Prop} {AX : Nat → Prop} (hr : vx_Run p l e R s m args below meth c H locs cells slots mc ms (F0 m pc ls st0) rest (va_Qv post B A1 a) (vx_X px BX AX) free) (hS : va_S A0 H0 H locs) (hA : ∀ q, q < H.size → A1 q → A0 q) (hf : ∀ q, free q → A0 q) (hAX : ∀ q, q < H.size → AX q → A0 q)
    (kx : ∀ (E : String) (ce : Cell) (q9 : Addr) (u : SX) (t : State) (H1 : Heap) (locs1 : List Loc), t.heap = H1 → s.vm.Alike t.vm → px u → BX E u t → H.size ≤ H1.size → (∀ q : Nat, q < H.size → ¬ AX q → H1[q]? = H[q]?) → va_S A0 H0 H1 locs1 → H1[q9]? = some ce → ce.vm = .none → s.vm.findClass E = some ce.cls → vx_W p l e R s m args below meth c H1 locs1 (cells + mc) (slots + ms) Q (F0 m pc ls rest) q9)
    (kk : ∀ (u : S) (t : State) (H1 : Heap) (locs1 : List Loc), t.heap = H1 → s.vm.Alike t.vm → post u → B u t → H.size ≤ H1.size → (∀ q : Nat, q < H.size → ¬ A1 q → H1[q]? = H[q]?) → va_S A0 H0 H1 locs1 → W p l e R s m args below meth c H1 locs1 (cells + mc) (slots + ms) Q (F0 m (pc + 3) ls (rest))) : W p l e R s m args below meth c H locs cells slots Q (F0 m pc ls st0) := by
  intro T hT X
  rcases hr T hT X with ⟨v, st₀, t, T', L, h0, X', hL, e1, e2, ⟨⟨u, hv, hp, hb⟩, hF⟩, st⟩ | ⟨q, st₀, t, T', L, E, ce, h0, X', hL, e1, e2, ⟨u, hp, hb, hF⟩, hce, hcv, hcl, st⟩
  · cases hv
    obtain ⟨k1, k2, k3⟩ := vx_keep h0 e1 hS hA hf hL hF
    obtain ⟨t2, a1, b1⟩ := kk u t T'.heap (locs ++ L) e1.symm (by rw [← e2]; exact X'.warmed.alike) hp hb k1 k2 k3 T' rfl X'
    exact ⟨t2, st t2 a1, b1⟩
  · obtain ⟨k1, k2, k3⟩ := vx_keep h0 e1 hS hAX hf hL hF
    obtain ⟨t2, a1, b1⟩ := kx E ce q u t T'.heap (locs ++ L) e1.symm (by rw [← e2]; exact X'.warmed.alike) hp hb k1 k2 k3 (by rw [e1]; exact hce) hcv hcl T' rfl X'
    exact ⟨t2, st.trans a1, b1⟩
/-- caught by the row x of this method's table; the rows ahead don't take it -/
theorem vx_catch {own name : String} {E : String} {ce : Cell} {q : Addr} (hown : s.vm.findClass own = some m.cls) (pre : List ExceptionTableEntry) (x : ExceptionTableEntry) (suf : List ExceptionTableEntry) (hsplit : c.exceptionTable.toList = pre ++ x :: suf)
    (hpass : ∀ z ∈ pre, covers z pc = false ∨ (z.catchType ≠ 0 ∧ ∃ nm : String, (Cond.classLink own z.catchType nm).before args s = true ∧ va_Nc E nm s)) (hx : covers x pc = true) (h0 : x.catchType ≠ 0)
    (hlink : (Cond.classLink own x.catchType name).before args s = true) (hcast : (Cond.castable E name).before args s = true) (hcell : H[q]? = some ce) (hv : ce.vm = .none) (hcl : s.vm.findClass E = some ce.cls)
    (kk : W p l e R s m args below meth c H locs cells slots Q (F0 m x.handlerPc ls [.ref q])) : vx_W p l e R s m args below meth c H locs cells slots Q (F0 m pc ls rest) q := by
  intro T hT X
  have hpl : e.platform.magicAccessors = ({} : Platform).magicAccessors := by rw [X.admits.platform]
  obtain ⟨c3, c4, hc3, hc4, hasg⟩ := Cond.castable_spec hcast
  cases Option.some.inj (hc3.symm.trans hcl)
  obtain ⟨c5, hc5, hcl5⟩ := Cond.classLink_spec hown hlink e.platform hpl
  cases Option.some.inj (hc4.symm.trans hc5)
  obtain ⟨vm', X', st⟩ := X.thenCaughtThrough q (g := F0 m pc ls rest) rfl (Steps.refl _) (by rw [hT]; exact hcell) (by rw [hv]; rfl) (by obtain ⟨k9, h9, -⟩ := Vm.findClass_spec hcl; exact ⟨k9, h9⟩) pre x suf hsplit
    (fun z hz => by
      rcases hpass z hz with h | ⟨hz0, nm, hl1, hn1⟩
      · exact Or.inl h
      · obtain ⟨c6, hc6, hcl6⟩ := Cond.classLink_spec hown hl1 e.platform hpl
        obtain ⟨a8, b8, h1, h2, h3⟩ := hn1
        cases Option.some.inj (h1.symm.trans hcl)
        cases Option.some.inj (h2.symm.trans hc6)
        exact Or.inr ⟨hz0, _, hcl6, h3⟩) hx (Or.inr ⟨h0, c4, hcl5, hasg⟩)
  obtain ⟨t, a1, b1⟩ := kk (T.setVm vm') hT X'
  exact ⟨t, st.trans a1, b1⟩
end Rows
section Ends
variable {p : Program} {l : Launch} {e : Env} {R : Room} {s : State} {m : MethodId} {args : Array Value} {below : List Frame} {meth : Method} {c : Code} {H : Heap} {locs : List Loc} {cells slots : Nat} {Q : State → Prop}
variable {mc ms : Nat} {free : Addr → Prop} {A0 A1 : Nat → Prop} {H0 : Heap} {a : Array Value} {ls : Array Slot} {st0 rest : List Value}
variable {Qc : Array Value → State → Outcome → State → Prop} {XC : String → State → State → Prop}
/-- what a body that may throw owes at its end -/
def vx_MQ (below : List Frame) (Qc : Array Value → State → Outcome → State → Prop) (XC : String → State → State → Prop) (a : Array Value) (s : State) (mc ms : Nat) (free : Addr → Prop) : State → Prop := fun t =>
  ∃ o, t.status = .running ∧ Ended t below o ∧ vx_Q Qc XC mc ms free a s o t
theorem vx_ret {g : JFrame} {mc ms : Nat} (k : W p l e R s m args below meth c H locs cells slots (MQ below Qc args s mc ms free) g) : W p l e R s m args below meth c H locs cells slots (vx_MQ below Qc XC args s mc ms free) g := by
  intro T hT X
  obtain ⟨t, a1, o, b1, b2, b3, b4⟩ := k T hT X
  exact ⟨t, a1, o, b1, b2, Or.inl ⟨b3, b4⟩⟩
/-- not caught here: it goes on to the caller -/
theorem vx_widen {g : JFrame} {q : Addr} {k n : Nat} (h1 : cells ≤ k) (h2 : slots ≤ n) (kk : vx_W p l e R s m args below meth c H locs k n Q g q) : vx_W p l e R s m args below meth c H locs cells slots Q g q := fun T hT X => kk T hT (stand_widen X h1 h2)
theorem vx_out {pc : Nat} {E : String} {ce : Cell} {q : Addr} {mc ms : Nat} (hout : ∀ x ∈ c.exceptionTable.toList, covers x pc = false) (hlocks : meth.locks = false) (hcell : H[q]? = some ce) (hv : ce.vm = .none) (hcl : s.vm.findClass E = some ce.cls)
    (hx : ∀ t : State, t.heap = H → s.vm.Alike t.vm → XC E s t) (hf : ∀ z ∈ locs, free z.base) (hc : cells ≤ mc) (hs : slots ≤ ms) :
    vx_W p l e R s m args below meth c H locs cells slots (vx_MQ below Qc XC args s mc ms free) (F0 m pc ls rest) q := by
  intro T hT X
  obtain ⟨st1, hrun, hend, hW, hsm⟩ := X.leaveThrown q (g := F0 m pc ls rest) rfl rfl rfl hout hlocks
  have hcell9 : (T.setFrames (.throwing q :: below)).heap[q]? = some ce := by
    show T.heap[q]? = some ce
    rw [hT]; exact hcell
  exact ⟨_, st1, .threw q, hrun, hend, Or.inr ⟨q, rfl, E, ce, locs, hx _ hT hW.alike, hcell9, hv, hcl, hW, hsm.mono hc hs, hf⟩⟩
theorem vx_frame {U : State} {k n : Nat} (h : s.sameButNew ({ U with vm := s.vm } : State) locs k n) : s.heap.size ≤ U.heap.size ∧ ∀ q : Nat, q < s.heap.size → (∀ z ∈ locs, z.base ≠ q) → U.heap[q]? = s.heap[q]? := by
  obtain ⟨-, h2, -, -, -, h6⟩ := h
  refine ⟨h2, fun q hq hz => ?_⟩
  obtain ⟨c9, e1, e2, e3, e4⟩ := h6 q _ (Array.getElem?_eq_getElem hq)
  have hs : c9.slots = (s.heap[q]).slots := Array.ext_getElem? fun i => e4 i fun hm => hz _ hm rfl
  have h9 : c9 = s.heap[q] := by
    rw [hs] at e2
    exact e2
  have e5 : U.heap[q]? = some c9 := e1
  rw [e5, h9, Array.getElem?_eq_getElem hq]
/-- the words of a throw but the four that speak of the heap -/
def vx_no (w : Cond) : Bool := decide (w ≠ .isRef (.static Bundle.tN "UNASSIGNED_STACK" Bundle.steD)) && decide (w ≠ .isRef (.static Bundle.tN "SUPPRESSED_SENTINEL" Bundle.listD)) && decide (w ≠ .laysStatic Bundle.tN "UNASSIGNED_STACK" Bundle.steD) && decide (w ≠ .laysStatic Bundle.tN "SUPPRESSED_SENTINEL" Bundle.listD)
def vx_at0 (own : String) (ic : Nat) (X : String) (names : List String) : List Cond := (Bundle.ownAtoms0 own ic X names).filter vx_no
def vx_atS (own : String) (ic : Nat) (X : String) (names : List String) : List Cond := (Bundle.ownAtoms own ic X names).filter vx_no
/-- a word that the tables alone decide, or a good one -/
def vx_ot (w : Cond) : Bool := w.onTables || goodWord w
theorem vx_ot_at {args a' : Array Value} {s U : State} {w : Cond} (hW : s.WarmedH U.vm) (hvm : s.vm = U.vm) (hg : vx_ot w = true) (h : w.before args s = true) : w.before a' U = true := by
  simp only [vx_ot, Bool.or_eq_true] at hg
  rcases hg with hg | hg
  · exact va_tabs hg hvm h
  · exact word_at hW (good_of_word hg) h
/-- a list's words: the good ones out of the method's own list, the others by premises of their own -/
theorem vx_hat {args : Array Value} {s : State} {L B : List Cond} (h1 : ∀ w ∈ L.filter goodWord, w.before args s = true) (h2 : ∀ w ∈ L.filter (fun w => !goodWord w), w ∈ B) (h3 : ∀ w ∈ B, w.before args s = true) : ∀ w ∈ L, w.before args s = true := by
  intro w hw
  by_cases g : goodWord w = true
  · exact h1 w (List.mem_filter.mpr ⟨hw, g⟩)
  · refine h3 w (h2 w (List.mem_filter.mpr ⟨hw, ?_⟩))
    show (!goodWord w) = true
    cases hgw : goodWord w
    · rfl
    · exact absurd hgw g
theorem vx_c {args : Array Value} {s : State} {w : Cond} {B : List Cond} (h : w.before args s = true) (t : ∀ w ∈ B, w.before args s = true) : ∀ w' ∈ w :: B, w'.before args s = true := fun w' h' => (List.mem_cons.mp h').elim (fun e => by rw [e]; exact h) (t w')
theorem vx_n {args : Array Value} {s : State} : ∀ w ∈ ([] : List Cond), w.before args s = true := fun _ h => nomatch h
theorem vx_own {args : Array Value} {s : State} {L : List Cond} (h1 : ∀ w ∈ L.filter vx_no, w.before args s = true)
    (hU : (Cond.isRef (.static Bundle.tN "UNASSIGNED_STACK" Bundle.steD)).before args s = true) (hN : (Cond.isRef (.static Bundle.tN "SUPPRESSED_SENTINEL" Bundle.listD)).before args s = true)
    (lU : (Cond.laysStatic Bundle.tN "UNASSIGNED_STACK" Bundle.steD).before args s = true) (lN : (Cond.laysStatic Bundle.tN "SUPPRESSED_SENTINEL" Bundle.listD).before args s = true) : ∀ w ∈ L, w.before args s = true := by
  intro w hw
  by_cases e1 : w = .isRef (.static Bundle.tN "UNASSIGNED_STACK" Bundle.steD)
  · rw [e1]; exact hU
  · by_cases e2 : w = .isRef (.static Bundle.tN "SUPPRESSED_SENTINEL" Bundle.listD)
    · rw [e2]; exact hN
    · by_cases e3 : w = .laysStatic Bundle.tN "UNASSIGNED_STACK" Bundle.steD
      · rw [e3]; exact lU
      · by_cases e4 : w = .laysStatic Bundle.tN "SUPPRESSED_SENTINEL" Bundle.listD
        · rw [e4]; exact lN
        · exact h1 w (List.mem_filter.mpr ⟨hw, by unfold vx_no; rw [decide_eq_true e1, decide_eq_true e2, decide_eq_true e3, decide_eq_true e4]; rfl⟩)
/-- where a static field lies, its class's statics cell in H -/
def vx_L (C n d : String) (A : Nat → Prop) (U : State) (H : Heap) : Prop := ∃ (c : ClassId) (k : Class) (i : Nat) (f : Field) (a : Nat) (cell : Cell), U.vm.findClass C = some c ∧ U.fieldFound? C n d = some (c, k, i, f) ∧ f.isStatic = true ∧ k.statics = some a ∧ H[a]? = some cell ∧ cell.vm.isStatics = true ∧ cell.cls = c ∧ f.slot < cell.slots.size ∧ k.staticTypes[f.slot]? = some f.type ∧ ¬ A a
theorem vx_L.moved {C n d : String} {A : Nat → Prop} {u U : State} {H : Heap} (hvm : u.vm.Alike U.vm) (h : vx_L C n d A u H) : vx_L C n d A U H := by
  obtain ⟨c, k, i, f, a, cell, h1, h2, h3, h4, h5, h6, h7, h8, h9, h10⟩ := h
  obtain ⟨k', hi', he⟩ := State.fieldFound?_setVm hvm h2
  exact ⟨c, k', i, f, a, cell, by rw [hvm.findClass]; exact h1, hi', h3, by rw [he]; exact h4, h5, h6, h7, h8, by rw [he]; exact h9, h10⟩
theorem vx_L.kept {C n d : String} {A : Nat → Prop} {U : State} {H H1 : Heap} (h : vx_L C n d A U H) (hq : ∀ a : Nat, a < H.size → ¬ A a → H1[a]? = H[a]?) : vx_L C n d A U H1 := by
  obtain ⟨c, k, i, f, a, cell, h1, h2, h3, h4, h5, h6, h7, h8, h9, h10⟩ := h
  exact ⟨c, k, i, f, a, cell, h1, h2, h3, h4, by rw [hq a (Array.getElem?_eq_some_iff.mp h5).1 h10]; exact h5, h6, h7, h8, h9, h10⟩
theorem vx_L.narrow {C n d : String} {A B : Nat → Prop} {U : State} {H : Heap} (h : vx_L C n d A U H) (hAB : ∀ q, B q → A q) : vx_L C n d B U H := by
  obtain ⟨c, k, i, f, a, cell, h1, h2, h3, h4, h5, h6, h7, h8, h9, h10⟩ := h
  exact ⟨c, k, i, f, a, cell, h1, h2, h3, h4, h5, h6, h7, h8, h9, fun z => h10 (hAB _ z)⟩
theorem vx_L.word {C n d : String} {A : Nat → Prop} {s : State} {args : Array Value} (h : vx_L C n d A s s.heap) : (Cond.laysStatic C n d).before args s = true := by
  obtain ⟨c, k, i, f, a, cell, h1, h2, h3, h4, h5, h6, h7, h8, h9, -⟩ := h
  show (Cond.laysStatic C n d).holds args s none s [] = true
  exact Cond.laysStatic_of h1 h2 h3 h4 h5 h6 h7 h8 h9
/-- .. and what it holds: null or some reference -/
def vx_Zq (C n d : String) (A : Nat → Prop) (U : State) (H : Heap) : Prop := va_Zq C n d A U H ∧ vx_L C n d A U H
theorem vx_Zq.moved {C n d : String} {A : Nat → Prop} {u U : State} {H : Heap} (hvm : u.vm.Alike U.vm) (h : vx_Zq C n d A u H) : vx_Zq C n d A U H := ⟨va_Zq.moved hvm h.1, vx_L.moved hvm h.2⟩
theorem vx_Zq.kept {C n d : String} {A : Nat → Prop} {U : State} {H H1 : Heap} (h : vx_Zq C n d A U H) (hq : ∀ a : Nat, a < H.size → ¬ A a → H1[a]? = H[a]?) : vx_Zq C n d A U H1 := ⟨va_Zq.kept h.1 hq, vx_L.kept h.2 hq⟩
theorem vx_Zq.narrow {C n d : String} {A B : Nat → Prop} {U : State} {H : Heap} (h : vx_Zq C n d A U H) (hAB : ∀ q, B q → A q) : vx_Zq C n d B U H := ⟨va_Zq.narrow h.1 hAB, vx_L.narrow h.2 hAB⟩
theorem vx_Zqof {args : Array Value} {s : State} {C n d : String} {A : Nat → Prop} (hl : (Cond.laysStatic C n d).before args s = true) (hini : (Cond.initialized C).before args s = true) (h : (Cond.isRef (.static C n d)).before args s = true) (hA : ∀ a : Nat, a < s.heap.size → ¬ A a) : vx_Zq C n d A s s.heap := by
  refine ⟨va_Zqof hl hini h hA, ?_⟩
  obtain ⟨c, k, i, f, a, cell, h1, h2, h3, h4, h5, h6, h7, h8, h9⟩ := Cond.laysStatic_spec hl
  exact ⟨c, k, i, f, a, cell, h1, h2, h3, h4, h5, h6, h7, h8, h9, hA a (Array.getElem?_eq_some_iff.mp h5).1⟩
theorem vx_isRef {C n d : String} {v : Value} {A : Nat → Prop} {s : State} {args : Array Value} (h : va_Z C n d v A s s.heap) (hv : v.isRef = true) : (Cond.isRef (.static C n d)).before args s = true := by
  obtain ⟨cf, kf, fi, f, a, cell, h1, h2, h3, h4, h5, h6, h7, -⟩ := h
  have he : (Term.static C n d).eval args s none [] s = some v := by
    simp [Term.eval, State.fieldNamed?, h1, h2, h4, h5, h6, h7]
  simp only [Cond.before, Cond.holds, Cond.value, he]
  cases v <;> simp_all [Value.isRef]
theorem vx_isRefq {C n d : String} {A : Nat → Prop} {s : State} {args : Array Value} (h : va_Zq C n d A s s.heap) : (Cond.isRef (.static C n d)).before args s = true := by
  rcases h with h | ⟨t, h⟩
  · exact vx_isRef h rfl
  · exact vx_isRef h rfl
/-- the same frame, seen from here: as if the method were called anew in this heap -/
theorem vx_rebase {T : State} (X : Stand p l e R s m args below meth c T locs cells slots) {R' : Room} (hf : R'.frames ≤ R.frames) (hl : R'.locals ≤ R.locals) (hc : cells + R'.cells ≤ R.cells) (hs : slots + R'.slots ≤ R.slots) :
    Stand p l e R' ((T.setVm s.vm).setFrames (.invoking m args :: below)) m args below meth c T [] 0 0 := by
  have htop : (T.setVm s.vm).topJava?.isSome := X.here.top
  have hF : ((T.setVm s.vm).setFrames (.invoking m args :: below)).frames = .invoking m args :: below := State.frames_setFrames _ (State.cur_lt_of_top htop)
  obtain ⟨g₀, hg0⟩ := Option.isSome_iff_exists.mp htop
  obtain ⟨r, hr⟩ := State.topJava?_eq_some.mp hg0
  have hl9 : e.platform.stackLimits (T.setVm s.vm).me = e.platform.stackLimits s.me := X.limits
  have hb9 : (T.setVm s.vm).me.stackBytes = s.me.stackBytes := X.bytes
  refine ⟨X.admits, X.cas, X.clock, hF, ?_, X.hears, X.method, X.code, X.here, X.tail, X.warmed, ?_, ?_, ?_⟩
  · have h := X.room
    have hU : ((T.setVm s.vm).setFrames (.invoking m args :: below)).localsInUse = s.localsInUse := by
      rw [State.localsInUse_invoking hF (meth := meth) (c := c) X.method X.code, State.localsInUse_invoking X.frames X.method X.code]
    simp only [State.hasRoom, Bool.and_eq_true, decide_eq_true_eq] at h ⊢
    obtain ⟨⟨⟨⟨h1, h2, h3, h4, h5, h6⟩, h7⟩, h8⟩, h9⟩ := h
    rw [X.frames, List.length_cons] at h2 h3
    have q1 := X.heapSize
    have q2 := X.used
    simp only [hF, hU, List.length_cons, State.stackLimits_setFrames, State.stackBytes_setFrames, hl9, hb9]
    refine ⟨⟨⟨⟨by omega, by omega, by omega, by omega, by omega, h6⟩, ?_⟩, ?_⟩, X.book⟩
    · show T.heap.size + R'.cells ≤ e.platform.maxCells
      omega
    · show T.slotsUsed + R'.slots ≤ e.platform.maxSlots
      omega
  · rw [State.stackLimits_setFrames]; rfl
  · rw [State.stackBytes_setFrames]; rfl
  · refine ⟨?_, Nat.le_refl _, Nat.le_refl _, ?_, ?_, fun a c9 h9 => ⟨c9, h9, rfl, rfl, fun _ _ => rfl⟩⟩
    · obtain ⟨t, ht, -⟩ := State.frames_cons hr
      show T.setVm s.vm = { ((T.setVm s.vm).setFrames (.invoking m args :: below)).setFrames (T.setVm s.vm).frames with heap := T.heap, slotsUsed := T.slotsUsed }
      rw [State.setFrames_setFrames, State.setFrames_self ht]
      rfl
    · show T.slotsUsed = T.slotsUsed + ((T.heap.toList.drop T.heap.size).map (·.slots.size)).sum
      rw [List.drop_eq_nil_of_le (Nat.le_of_eq Array.length_toList)]
      rfl
    · show ((T.heap.toList.drop T.heap.size).map (·.slots.size)).sum ≤ 0
      rw [List.drop_eq_nil_of_le (Nat.le_of_eq Array.length_toList)]
      exact Nat.le_refl _
/-- 'throw new E()': new; dup; invokespecial; athrow -/
theorem vx_throw0 {cc : ByteArray} {pc : Nat} (hexec : p.tables.exec = Jvm.exec) (hb : c.code = cc) (hl : l.stackTraces = false) {own cls : String} {names : List String} {ik ic mc ms : Nat} {A : Nat → Prop}
    (hown : s.vm.findClass own = some m.cls) (hcls : Bundle.fit cls = true) (hnames : ∀ n ∈ names, Bundle.fit n = true)
    (hk : (Cond.classLink own ik cls).before args s = true) (hini : (Cond.initialized cls).before args s = true) (hat : ∀ w ∈ vx_at0 own ic cls names, w.before args s = true)
    (hgood : ∀ w ∈ Cond.classLink own ik cls :: Cond.initialized cls :: vx_at0 own ic cls names, vx_ot w = true)
    (hU : vx_Zq Bundle.tN "UNASSIGNED_STACK" Bundle.steD A s s.heap) (hN : vx_Zq Bundle.tN "SUPPRESSED_SENTINEL" Bundle.listD A s s.heap) (hS : va_S A s.heap H locs) (hsize : ls.size = c.maxLocals)
    (d0 : decode cc pc = .ok (.new ik, 3)) (d3 : decode cc (pc + 3) = .ok (.dup, 1)) (d4 : decode cc (pc + 4) = .ok (.invokespecial ic, 3)) (d7 : decode cc (pc + 7) = .ok (.athrow, 1))
    (hout : ∀ x ∈ c.exceptionTable.toList, covers x (pc + 7) = false)
    (hRframes : names.length + 3 < R.frames) (hRlocals : (rest.map fun v => v.category).sum + (13 * (names.length + 1) + 42) ≤ R.locals) (hRcells : cells + 1 ≤ R.cells) (hRslots : slots + 6 ≤ R.slots) (hlocks : meth.locks = false)
    (hx : ∀ t : State, s.vm.Alike t.vm → H.size ≤ t.heap.size → (∀ q : Nat, q < H.size → t.heap[q]? = H[q]?) → XC cls s t)
    (hf : ∀ z ∈ locs, free z.base) (hc : cells + 1 ≤ mc) (hs : slots + 6 ≤ ms) :
    W p l e R s m args below meth c H locs cells slots (vx_MQ below Qc XC args s mc ms free) (F0 m pc ls rest) := by
  intro T hT X
  have htr : e.platform.stackTraces = false := (show e.platform.stackTraces = l.stackTraces by rw [X.admits.platform]).trans hl
  have Y := vx_rebase X (R' := { frames := R.frames, locals := R.locals, cells := 1, slots := 6 }) (Nat.le_refl _) (Nat.le_refl _) hRcells hRslots
  obtain ⟨s', hA⟩ : ∃ z, z = (T.setVm s.vm).setFrames (.invoking m args :: below) := ⟨_, rfl⟩
  rw [← hA] at Y
  have hvm : s'.vm = s.vm := by rw [hA]; rfl
  have hhp : s'.heap = H := by rw [hA]; exact hT
  have hW0 : s.WarmedH s'.vm := by rw [hvm]; exact State.WarmedH.refl s
  have hat' : ∀ w ∈ vx_at0 own ic cls names, w.before args s' = true := fun w hw => vx_ot_at hW0 hvm.symm (hgood w (List.mem_cons_of_mem _ (List.mem_cons_of_mem _ hw))) (hat w hw)
  have hk' : (Cond.classLink own ik cls).before args s' = true := vx_ot_at hW0 hvm.symm (hgood _ List.mem_cons_self) hk
  have hini' : (Cond.initialized cls).before args s' = true := vx_ot_at hW0 hvm.symm (hgood _ (List.mem_cons_of_mem _ List.mem_cons_self)) hini
  have hU' : vx_Zq Bundle.tN "UNASSIGNED_STACK" Bundle.steD A s' s'.heap := by rw [hhp]; exact vx_Zq.moved hW0.alike (hU.kept hS.2.1)
  have hN' : vx_Zq Bundle.tN "SUPPRESSED_SENTINEL" Bundle.listD A s' s'.heap := by rw [hhp]; exact vx_Zq.moved hW0.alike (hN.kept hS.2.1)
  have h : ∀ w ∈ Bundle.ownAtoms0 own ic cls names, w.before args s' = true := vx_own hat' (vx_isRefq hU'.1) (vx_isRefq hN'.1) hU'.2.word hN'.2.word
  have hown' : s'.vm.findClass own = some m.cls := by rw [hvm]; exact hown
  have hins : (Cond.instantiable cls 6).before args s' = true := h _ (by simp [Bundle.ownAtoms0])
  obtain ⟨vm₁, cX, kX, hfX, hkX, -, -, X₁, st1⟩ := Y.newCold hexec (own := own) (C := cls) (index := ik) (n := 6) hown' hk' hins hini'
    (g := F0 m pc ls rest) rfl (by rw [hb]; exact d0) (Nat.le_refl _) (Nat.le_refl _)
  generalize hT1 : (T.setVm vm₁).pushCell { cls := cX, slots := kX.instanceTypes.map defaultValue, vm := .none } = T1 at X₁ st1
  have hcat : (Value.ref T.heap.size).category = 1 := rfl
  have hcellA : T1.heap[T.heap.size]? = some (freshCell cX kX) := by rw [← hT1]; exact State.heap_pushCell_size _ _
  have d3' : decode c.code (pc + 3) = .ok (.dup, 1) := by rw [hb]; exact d3
  obtain ⟨U, hsteps, hrun, hend, hW, hsame, ce, hce, hO⟩ := X₁.ctorThrow0 hexec htr (own := own) (cls := cls) (names := names) (ic := ic) hown' hcls hnames h (fun x hx => nomatch hx) hfX hkX hcellA (by rw [hhp, hT]; exact Nat.le_refl _)
    (g := { method := m, pc := pc + 4, locals := ls, stack := .ref T.heap.size :: .ref T.heap.size :: rest, locked := none }) rfl hsize rfl rfl (rest := rest) rfl
    (by rw [hb]; exact d4) (by rw [hb]; exact d7) hout hRframes (by simp only [List.map_cons, List.sum_cons, hcat]; omega) hlocks
  obtain ⟨f1, f2⟩ := vx_frame hsame
  rw [hhp] at f1 f2
  have hWs : s.WarmedH U.vm := State.WarmedH.trans hW0 hW
  have hcl : s.vm.findClass cls = some ce.cls := by
    have h9 := hO.cls
    rw [hvm] at h9
    exact h9
  have hall : s.sameButNew ({ U with vm := s.vm } : State) locs mc ms := by
    subst hA
    obtain ⟨e1, e2⟩ := hsame
    rw [State.setFrames_setFrames] at e1
    have h2 : (T.setVm s.vm).sameButNew ({ U with vm := s.vm } : State) [] (0 + 1) (0 + 6) := ⟨e1, e2⟩
    have h3 := X.same.trans h2
    rw [List.append_nil] at h3
    exact h3.mono hc hs
  refine ⟨U, ?_, .threw T.heap.size, hrun, hend, Or.inr ⟨T.heap.size, rfl, cls, ce, locs, hx U hWs.alike f1 (fun q hq => f2 q hq (fun z hz => nomatch hz)), hce, hO.vm, hcl, hWs, hall, hf⟩⟩
  refine st1 _ ?_
  show Steps p.tables e below (T1.setTop { method := m, pc := pc + 3, locals := ls, stack := .ref T.heap.size :: rest, locked := none }) _
  jvm_step X₁.here [X₁.here.top, hexec, d3', Value.category]
  exact hsteps
/-- 'throw new E("text")': new; dup; ldc; invokespecial; athrow -/
theorem vx_throwS {cc : ByteArray} {pc : Nat} (hexec : p.tables.exec = Jvm.exec) (hb : c.code = cc) (hl : l.stackTraces = false) {own cls text : String} {names : List String} {ik is ic mc ms sa : Nat} {A : Nat → Prop}
    (hown : s.vm.findClass own = some m.cls) (hcls : Bundle.fit cls = true) (hnames : ∀ n ∈ names, Bundle.fit n = true)
    (hk : (Cond.classLink own ik cls).before args s = true) (hini : (Cond.initialized cls).before args s = true) (hstr : vk_R own is text sa s) (hat : ∀ w ∈ vx_atS own ic cls names, w.before args s = true)
    (hgood : ∀ w ∈ Cond.classLink own ik cls :: Cond.initialized cls :: vx_atS own ic cls names, vx_ot w = true)
    (hU : vx_Zq Bundle.tN "UNASSIGNED_STACK" Bundle.steD A s s.heap) (hN : vx_Zq Bundle.tN "SUPPRESSED_SENTINEL" Bundle.listD A s s.heap) (hS : va_S A s.heap H locs) (hsize : ls.size = c.maxLocals)
    (d0 : decode cc pc = .ok (.new ik, 3)) (d3 : decode cc (pc + 3) = .ok (.dup, 1)) (d4 : decode cc (pc + 4) = .ok (.ldc is, 2)) (d6 : decode cc (pc + 6) = .ok (.invokespecial ic, 3)) (d9 : decode cc (pc + 9) = .ok (.athrow, 1))
    (hout : ∀ x ∈ c.exceptionTable.toList, covers x (pc + 9) = false)
    (hRframes : names.length + 3 < R.frames) (hRlocals : (rest.map fun v => v.category).sum + (13 * (names.length + 1) + 43) ≤ R.locals) (hRcells : cells + 1 ≤ R.cells) (hRslots : slots + 6 ≤ R.slots) (hlocks : meth.locks = false)
    (hx : ∀ t : State, s.vm.Alike t.vm → H.size ≤ t.heap.size → (∀ q : Nat, q < H.size → t.heap[q]? = H[q]?) → XC cls s t)
    (hf : ∀ z ∈ locs, free z.base) (hc : cells + 1 ≤ mc) (hs : slots + 6 ≤ ms) :
    W p l e R s m args below meth c H locs cells slots (vx_MQ below Qc XC args s mc ms free) (F0 m pc ls rest) := by
  intro T hT X
  have htr : e.platform.stackTraces = false := (show e.platform.stackTraces = l.stackTraces by rw [X.admits.platform]).trans hl
  have Y := vx_rebase X (R' := { frames := R.frames, locals := R.locals, cells := 1, slots := 6 }) (Nat.le_refl _) (Nat.le_refl _) hRcells hRslots
  obtain ⟨s', hA⟩ : ∃ z, z = (T.setVm s.vm).setFrames (.invoking m args :: below) := ⟨_, rfl⟩
  rw [← hA] at Y
  have hvm : s'.vm = s.vm := by rw [hA]; rfl
  have hhp : s'.heap = H := by rw [hA]; exact hT
  have hW0 : s.WarmedH s'.vm := by rw [hvm]; exact State.WarmedH.refl s
  have hat' : ∀ w ∈ vx_atS own ic cls names, w.before args s' = true := fun w hw => vx_ot_at hW0 hvm.symm (hgood w (List.mem_cons_of_mem _ (List.mem_cons_of_mem _ hw))) (hat w hw)
  have hk' : (Cond.classLink own ik cls).before args s' = true := vx_ot_at hW0 hvm.symm (hgood _ List.mem_cons_self) hk
  have hini' : (Cond.initialized cls).before args s' = true := vx_ot_at hW0 hvm.symm (hgood _ (List.mem_cons_of_mem _ List.mem_cons_self)) hini
  have hU' : vx_Zq Bundle.tN "UNASSIGNED_STACK" Bundle.steD A s' s'.heap := by rw [hhp]; exact vx_Zq.moved hW0.alike (hU.kept hS.2.1)
  have hN' : vx_Zq Bundle.tN "SUPPRESSED_SENTINEL" Bundle.listD A s' s'.heap := by rw [hhp]; exact vx_Zq.moved hW0.alike (hN.kept hS.2.1)
  have h : ∀ w ∈ Bundle.ownAtoms own ic cls names, w.before args s' = true := vx_own hat' (vx_isRefq hU'.1) (vx_isRefq hN'.1) hU'.2.word hN'.2.word
  have hown' : s'.vm.findClass own = some m.cls := by rw [hvm]; exact hown
  have hins : (Cond.instantiable cls 6).before args s' = true := h _ (by simp [Bundle.ownAtoms])
  obtain ⟨vm₁, cX, kX, hfX, hkX, -, -, X₁, st1⟩ := Y.newCold hexec (own := own) (C := cls) (index := ik) (n := 6) hown' hk' hins hini'
    (g := F0 m pc ls rest) rfl (by rw [hb]; exact d0) (Nat.le_refl _) (Nat.le_refl _)
  generalize hT1 : (T.setVm vm₁).pushCell { cls := cX, slots := kX.instanceTypes.map defaultValue, vm := .none } = T1 at X₁ st1
  have hcat : (Value.ref T.heap.size).category = 1 := rfl
  have hcellA : T1.heap[T.heap.size]? = some (freshCell cX kX) := by rw [← hT1]; exact State.heap_pushCell_size _ _
  have d3' : decode c.code (pc + 3) = .ok (.dup, 1) := by rw [hb]; exact d3
  have d4' : decode c.code (pc + 4) = .ok (.ldc is, 2) := by rw [hb]; exact d4
  have hstr' : vk_R own is text sa s' := vk_R.warm hW0 hstr
  obtain ⟨U, hsteps, hrun, hend, hW, hsame, ce, hce, hO⟩ := X₁.ctorThrowS hexec htr (own := own) (cls := cls) (names := names) (ic := ic) hown' hcls hnames h (fun x hx => nomatch hx) hfX hkX hcellA (by rw [hhp, hT]; exact Nat.le_refl _) (msg := .ref sa) rfl
    (g := { method := m, pc := pc + 6, locals := ls, stack := .ref sa :: .ref T.heap.size :: .ref T.heap.size :: rest, locked := none }) rfl hsize rfl rfl (rest := rest) rfl
    (by rw [hb]; exact d6) (by rw [hb]; exact d9) hout hRframes (by simp only [List.map_cons, List.sum_cons, hcat]; omega) hlocks
  obtain ⟨f1, f2⟩ := vx_frame hsame
  rw [hhp] at f1 f2
  have hWs : s.WarmedH U.vm := State.WarmedH.trans hW0 hW
  have hcl : s.vm.findClass cls = some ce.cls := by
    have h9 := hO.cls
    rw [hvm] at h9
    exact h9
  have hall : s.sameButNew ({ U with vm := s.vm } : State) locs mc ms := by
    subst hA
    obtain ⟨e1, e2⟩ := hsame
    rw [State.setFrames_setFrames] at e1
    have h2 : (T.setVm s.vm).sameButNew ({ U with vm := s.vm } : State) [] (0 + 1) (0 + 6) := ⟨e1, e2⟩
    have h3 := X.same.trans h2
    rw [List.append_nil] at h3
    exact h3.mono hc hs
  refine ⟨U, ?_, .threw T.heap.size, hrun, hend, Or.inr ⟨T.heap.size, rfl, cls, ce, locs, hx U hWs.alike f1 (fun q hq => f2 q hq (fun z hz => nomatch hz)), hce, hO.vm, hcl, hWs, hall, hf⟩⟩
  refine st1 _ ?_
  show Steps p.tables e below (T1.setTop { method := m, pc := pc + 3, locals := ls, stack := .ref T.heap.size :: rest, locked := none }) _
  jvm_step X₁.here [X₁.here.top, hexec, d3', Value.category]
  exact X₁.ldcString hexec (own := own) (text := text) (index := is) (a := sa) hown' hstr'.1 hstr'.2
    (g := { method := m, pc := pc + 4, locals := ls, stack := .ref T.heap.size :: .ref T.heap.size :: rest, locked := none }) rfl d4' _ hsteps
/-- 'throw new E("text")', the text by a wide index -/
theorem vx_throwSW {cc : ByteArray} {pc : Nat} (hexec : p.tables.exec = Jvm.exec) (hb : c.code = cc) (hl : l.stackTraces = false) {own cls text : String} {names : List String} {ik is ic mc ms sa : Nat} {A : Nat → Prop}
    (hown : s.vm.findClass own = some m.cls) (hcls : Bundle.fit cls = true) (hnames : ∀ n ∈ names, Bundle.fit n = true)
    (hk : (Cond.classLink own ik cls).before args s = true) (hini : (Cond.initialized cls).before args s = true) (hstr : vk_R own is text sa s) (hat : ∀ w ∈ vx_atS own ic cls names, w.before args s = true)
    (hgood : ∀ w ∈ Cond.classLink own ik cls :: Cond.initialized cls :: vx_atS own ic cls names, vx_ot w = true)
    (hU : vx_Zq Bundle.tN "UNASSIGNED_STACK" Bundle.steD A s s.heap) (hN : vx_Zq Bundle.tN "SUPPRESSED_SENTINEL" Bundle.listD A s s.heap) (hS : va_S A s.heap H locs) (hsize : ls.size = c.maxLocals)
    (d0 : decode cc pc = .ok (.new ik, 3)) (d3 : decode cc (pc + 3) = .ok (.dup, 1)) (d4 : decode cc (pc + 4) = .ok (.ldc_w is, 3)) (d7 : decode cc (pc + 7) = .ok (.invokespecial ic, 3)) (d10 : decode cc (pc + 10) = .ok (.athrow, 1))
    (hout : ∀ x ∈ c.exceptionTable.toList, covers x (pc + 10) = false)
    (hRframes : names.length + 3 < R.frames) (hRlocals : (rest.map fun v => v.category).sum + (13 * (names.length + 1) + 43) ≤ R.locals) (hRcells : cells + 1 ≤ R.cells) (hRslots : slots + 6 ≤ R.slots) (hlocks : meth.locks = false)
    (hx : ∀ t : State, s.vm.Alike t.vm → H.size ≤ t.heap.size → (∀ q : Nat, q < H.size → t.heap[q]? = H[q]?) → XC cls s t)
    (hf : ∀ z ∈ locs, free z.base) (hc : cells + 1 ≤ mc) (hs : slots + 6 ≤ ms) :
    W p l e R s m args below meth c H locs cells slots (vx_MQ below Qc XC args s mc ms free) (F0 m pc ls rest) := by
  intro T hT X
  have htr : e.platform.stackTraces = false := (show e.platform.stackTraces = l.stackTraces by rw [X.admits.platform]).trans hl
  have Y := vx_rebase X (R' := { frames := R.frames, locals := R.locals, cells := 1, slots := 6 }) (Nat.le_refl _) (Nat.le_refl _) hRcells hRslots
  obtain ⟨s', hA⟩ : ∃ z, z = (T.setVm s.vm).setFrames (.invoking m args :: below) := ⟨_, rfl⟩
  rw [← hA] at Y
  have hvm : s'.vm = s.vm := by rw [hA]; rfl
  have hhp : s'.heap = H := by rw [hA]; exact hT
  have hW0 : s.WarmedH s'.vm := by rw [hvm]; exact State.WarmedH.refl s
  have hat' : ∀ w ∈ vx_atS own ic cls names, w.before args s' = true := fun w hw => vx_ot_at hW0 hvm.symm (hgood w (List.mem_cons_of_mem _ (List.mem_cons_of_mem _ hw))) (hat w hw)
  have hk' : (Cond.classLink own ik cls).before args s' = true := vx_ot_at hW0 hvm.symm (hgood _ List.mem_cons_self) hk
  have hini' : (Cond.initialized cls).before args s' = true := vx_ot_at hW0 hvm.symm (hgood _ (List.mem_cons_of_mem _ List.mem_cons_self)) hini
  have hU' : vx_Zq Bundle.tN "UNASSIGNED_STACK" Bundle.steD A s' s'.heap := by rw [hhp]; exact vx_Zq.moved hW0.alike (hU.kept hS.2.1)
  have hN' : vx_Zq Bundle.tN "SUPPRESSED_SENTINEL" Bundle.listD A s' s'.heap := by rw [hhp]; exact vx_Zq.moved hW0.alike (hN.kept hS.2.1)
  have h : ∀ w ∈ Bundle.ownAtoms own ic cls names, w.before args s' = true := vx_own hat' (vx_isRefq hU'.1) (vx_isRefq hN'.1) hU'.2.word hN'.2.word
  have hown' : s'.vm.findClass own = some m.cls := by rw [hvm]; exact hown
  have hins : (Cond.instantiable cls 6).before args s' = true := h _ (by simp [Bundle.ownAtoms])
  obtain ⟨vm₁, cX, kX, hfX, hkX, -, -, X₁, st1⟩ := Y.newCold hexec (own := own) (C := cls) (index := ik) (n := 6) hown' hk' hins hini'
    (g := F0 m pc ls rest) rfl (by rw [hb]; exact d0) (Nat.le_refl _) (Nat.le_refl _)
  generalize hT1 : (T.setVm vm₁).pushCell { cls := cX, slots := kX.instanceTypes.map defaultValue, vm := .none } = T1 at X₁ st1
  have hcat : (Value.ref T.heap.size).category = 1 := rfl
  have hcellA : T1.heap[T.heap.size]? = some (freshCell cX kX) := by rw [← hT1]; exact State.heap_pushCell_size _ _
  have d3' : decode c.code (pc + 3) = .ok (.dup, 1) := by rw [hb]; exact d3
  have d4' : decode c.code (pc + 4) = .ok (.ldc_w is, 3) := by rw [hb]; exact d4
  have hstr' : vk_R own is text sa s' := vk_R.warm hW0 hstr
  obtain ⟨U, hsteps, hrun, hend, hW, hsame, ce, hce, hO⟩ := X₁.ctorThrowS hexec htr (own := own) (cls := cls) (names := names) (ic := ic) hown' hcls hnames h (fun x hx => nomatch hx) hfX hkX hcellA (by rw [hhp, hT]; exact Nat.le_refl _) (msg := .ref sa) rfl
    (g := { method := m, pc := pc + 7, locals := ls, stack := .ref sa :: .ref T.heap.size :: .ref T.heap.size :: rest, locked := none }) rfl hsize rfl rfl (rest := rest) rfl
    (by rw [hb]; exact d7) (by rw [hb]; exact d10) hout hRframes (by simp only [List.map_cons, List.sum_cons, hcat]; omega) hlocks
  obtain ⟨f1, f2⟩ := vx_frame hsame
  rw [hhp] at f1 f2
  have hWs : s.WarmedH U.vm := State.WarmedH.trans hW0 hW
  have hcl : s.vm.findClass cls = some ce.cls := by
    have h9 := hO.cls
    rw [hvm] at h9
    exact h9
  have hall : s.sameButNew ({ U with vm := s.vm } : State) locs mc ms := by
    subst hA
    obtain ⟨e1, e2⟩ := hsame
    rw [State.setFrames_setFrames] at e1
    have h2 : (T.setVm s.vm).sameButNew ({ U with vm := s.vm } : State) [] (0 + 1) (0 + 6) := ⟨e1, e2⟩
    have h3 := X.same.trans h2
    rw [List.append_nil] at h3
    exact h3.mono hc hs
  refine ⟨U, ?_, .threw T.heap.size, hrun, hend, Or.inr ⟨T.heap.size, rfl, cls, ce, locs, hx U hWs.alike f1 (fun q hq => f2 q hq (fun z hz => nomatch hz)), hce, hO.vm, hcl, hWs, hall, hf⟩⟩
  refine st1 _ ?_
  show Steps p.tables e below (T1.setTop { method := m, pc := pc + 3, locals := ls, stack := .ref T.heap.size :: rest, locked := none }) _
  jvm_step X₁.here [X₁.here.top, hexec, d3', Value.category]
  exact X₁.ldcStringW hexec (own := own) (text := text) (index := is) (a := sa) hown' hstr'.1 hstr'.2
    (g := { method := m, pc := pc + 4, locals := ls, stack := .ref T.heap.size :: .ref T.heap.size :: rest, locked := none }) rfl d4' _ hsteps
end Ends
section Bodies
variable {l : Launch}
theorem vx_ofW {y : MethodName} {ws ws' : List Cond} {rm : Room} {Pc : Array Value → State → Prop} {Qc : Array Value → State → Outcome → State → Prop} {XC : String → State → State → Prop} {mc ms : Nat} {free : Addr → Prop} {cc : ByteArray} {maxL : Nat} {ret : Option FieldType}
    (hy : plainName y.cls = true) (hw : ws = Cond.code y cc maxL ret :: ws')
    (body : ∀ p e s m args below meth c s₁, BodyLoose p l y (headSpec ws rm) cc maxL ret e s m args below meth c s₁ → c.maxLocals = maxL → (∀ x ∈ c.exceptionTable.toList, False) → Pc args s →
      W p l e (headSpec ws rm).room s m args below meth c s.heap [] 0 0 (vx_MQ below Qc XC args s mc ms free) (entryFrame m args maxL)) : vx_Met l y ws rm Pc Qc XC mc ms free := by
  refine MetFree.of_bodyS (code := cc) (maxLocals := maxL) (ret := ret) hy ?_ ?_
  · intro args s m h hn
    obtain ⟨meth, c, h1, h2, h3, h4, h5, h6, -, -⟩ := Cond.code_spec hn (atoms_spec (ws := ws) h _ (by rw [hw]; exact List.mem_cons_self))
    exact ⟨meth, c, h1, h2, h3, h4, h5, h6⟩
  · intro p e s m args below meth c s₁ B hml hP _
    have hh0 : s₁.heap = s.heap := by rw [B.state]; rfl
    have ht : ∀ x ∈ c.exceptionTable.toList, False := by
      obtain ⟨meth9, c9, h1, h2, -, -, -, -, h7, -⟩ := Cond.code_spec B.named (atoms_spec (ws := ws) B.pre _ (by rw [hw]; exact List.mem_cons_self))
      cases Option.some.inj (h1.symm.trans B.method)
      cases Option.some.inj (h2.symm.trans (Stand.of_body B).code)
      intro x hx
      rw [Array.isEmpty_iff.mp h7] at hx
      cases hx
    obtain ⟨t, a1, o, b1, b2, b3⟩ := body p e s m args below meth c s₁ B hml ht hP s₁ hh0 (Stand.of_body B)
    exact ⟨t, o, a1, b1, b2, b3⟩
/-- the table of a body with handlers -/
theorem vx_table {p : Program} {x y : MethodName} {S : Spec} {cc bytes : ByteArray} {maxL maxL' : Nat} {ret ret' : Option FieldType} {e : Env} {s s₁ : State} {m : MethodId} {args : Array Value} {below : List Frame} {meth : Method} {c : Code} {hh : List (Nat × Nat × Nat × Nat)}
    (B : BodyLoose p l y S cc maxL ret e s m args below meth c s₁) (h : (Cond.codeWith y bytes maxL' ret' hh).before args s = true) : c.exceptionTable.toList = tableOf hh := by
  obtain ⟨m9, meth9, c9, hn9, h1, h2, -, -, h6, -⟩ := Cond.codeWith_spec h
  cases Option.some.inj (hn9.symm.trans B.named)
  cases Option.some.inj (h1.symm.trans B.method)
  cases Option.some.inj (h2.symm.trans (Stand.of_body B).code)
  rw [← h6, table_eq]
end Bodies
end VXA
/-! ===== END ===== -/
/-! ===== BEGIN a static call of a method with an exception table ===== -/
section VXS
variable {p : Program} {l : Launch} {e : Env} {R : Room} {s : State} {m : MethodId} {args : Array Value} {below : List Frame} {meth : Method} {c : Code} {T : State} {H : Heap} {locs : List Loc} {cells slots : Nat}
abbrev vx_CSW (R : Room) (s : State) (args : Array Value) (own : String) (index : Nat) (y : MethodName) (bytes : ByteArray) (maxL : Nat) (ret : Option FieldType) (hh : List (Nat × Nat × Nat × Nat)) (ws : List Cond) (rm : Room) (mc ms n : Nat) : Prop :=
  (rm.cells = mc ∧ rm.slots = ms ∧ rm.frames + 1 ≤ R.frames ∧ 8 + (maxL + 11) + rm.locals ≤ R.locals ∧ (∀ w ∈ ws, ∀ (a' : Array Value) (U : State), s.WarmedH U.vm → w.before a' U = true) ∧ Cond.codeWith y bytes maxL ret hh ∈ ws) ∧
  (Cond.codeWith y bytes maxL ret hh).before args s = true ∧ (Cond.initialized y.cls).before args s = true ∧ (y.cls ≠ "java/lang/invoke/MethodHandle" ∧ y.cls ≠ "java/lang/invoke/VarHandle") ∧
  (∀ sig, parseMethodDescriptor y.desc = some sig → n = sig.parameters.length) ∧ (Cond.methodLink own index y).before args s = true ∧ (Cond.static y).before args s = true
theorem vx_cwSW {own : String} {index maxL mc ms : Nat} {y : MethodName} {bytes : ByteArray} {ret : Option FieldType} {hh : List (Nat × Nat × Nat × Nat)} {Ts ws ws' : List Cond} {rm : Room} (n : Nat) (ht : ∀ w ∈ Ts, w.before args s = true) (hT : GoodIn Ts (va_wsS own index y ws)) (hw : ws = Cond.codeWith y bytes maxL ret hh :: ws') (hrc : rm.cells = mc) (hrs : rm.slots = ms)
    (hd : y.cls ≠ "java/lang/invoke/MethodHandle" ∧ y.cls ≠ "java/lang/invoke/VarHandle" ∧ (parseMethodDescriptor y.desc).map (fun d => d.parameters.length) = some n) (hR : rm.frames + 1 ≤ R.frames ∧ 8 + (maxL + 11) + rm.locals ≤ R.locals) :
    vx_CSW R s args own index y bytes maxL ret hh ws rm mc ms n := by
  have ok : ∀ w ∈ va_wsS own index y ws, w.before args s = true := fun w h => ht w (hT w h).1
  have hG : GoodIn Ts ws := fun w h => hT w (by unfold va_wsS; exact List.mem_append_right _ h)
  have hc : Cond.codeWith y bytes maxL ret hh ∈ ws := by rw [hw]; exact List.mem_cons_self
  refine ⟨⟨hrc, hrs, hR.1, hR.2, pay_in ht hG, hc⟩, ht _ (hG _ hc).1, ok _ (by simp [va_wsS]), ⟨hd.1, hd.2.1⟩, fun sig h => ?_, ok _ (by simp [va_wsS]), ok _ (by simp [va_wsS])⟩
  have h2 := hd.2.2
  rw [h] at h2
  exact (Option.some.inj h2).symm
theorem vx_callSW (X : Stand p l e R s m args below meth c T locs cells slots) (hexec : p.tables.exec = Jvm.exec) {own : String} {index : Nat} {y : MethodName} {bytes : ByteArray} {maxL : Nat} {ret : Option FieldType} {hh : List (Nat × Nat × Nat × Nat)}
    (hown : s.vm.findClass own = some m.cls) (hlink : (Cond.methodLink own index y).before args s = true) (hstat : (Cond.static y).before args s = true) (hinit : (Cond.initialized y.cls).before args s = true)
    (hcode : (Cond.codeWith y bytes maxL ret hh).before args s = true) (hy : y.cls ≠ "java/lang/invoke/MethodHandle" ∧ y.cls ≠ "java/lang/invoke/VarHandle")
    {W9 : Nat} {Pre : Pt → Array Value → Prop} {Post : Pt → Array Value → Option Value → Pt → Prop} (hK : Back l R p e below s args y 3 W9 Pre Post)
    {g : JFrame} (hg : g.method = m) (hsize : g.locals.size = c.maxLocals) {argsL rest : List Value} (hlen : ∀ sig, parseMethodDescriptor y.desc = some sig → argsL.length = sig.parameters.length)
    (hstack : g.stack = argsL.reverse ++ rest) (hW : 2 * g.monitorRoom + (rest.map fun v => v.category).sum ≤ W9) (hdg : decode c.code g.pc = .ok (.invokestatic index, 3))
    (hpre : ∀ vm₁, s.WarmedH vm₁ → Pre ⟨T.setVm vm₁, locs, cells, slots⟩ argsL.toArray) :
    ∃ (v : Option Value) (vm₁ : Vm) (B : Pt), s.WarmedH vm₁ ∧ Stand p l e R s m args below meth c B.U B.locs B.cells B.slots ∧ Post ⟨T.setVm vm₁, locs, cells, slots⟩ argsL.toArray v B ∧
      ∀ target, Steps p.tables e below (B.U.setTop { g with pc := g.pc + 3, stack := v.toList ++ rest }) target → Steps p.tables e below (T.setTop g) target := by
  obtain ⟨mk, methM, cM, hnamed, hmethM, -, -, -, -, -, -, hsigM⟩ := Cond.codeWith_spec hcode
  have hstatic : methM.isStatic = true := Cond.static_spec hnamed hmethM hstat
  obtain ⟨kP, hkP, -⟩ := className_of_methodNamed hnamed
  have hinitP : kP.init = .initialized := Cond.initialized_spec (findClass_of_methodNamed hnamed) hkP hinit
  obtain ⟨vm₁, X₁, hstep₁⟩ := X.invokestatic hexec hown hlink hnamed hmethM hstatic hkP hinitP hy (g := g) hg (argsL := argsL) (rest := rest) (hlen _ hsigM) hstack hdg
  obtain ⟨v, B, X', hpost, hsteps⟩ := hK m meth c ⟨T.setVm vm₁, locs, cells, slots⟩ { g with stack := rest } (.invokestatic index) mk argsL.toArray X₁ hg hsize hdg hW (X₁.named hnamed) (hpre vm₁ X₁.warmed)
  exact ⟨v, vm₁, B, X₁.warmed, X', hpost, fun target h => hstep₁ _ fun acts => by rw [doInvoke_state]; exact hsteps.trans h⟩
theorem vx_runSW {y : MethodName} {bytes cc : ByteArray} {maxL nL mc ms n index : Nat} {ret : Option FieldType} {hh : List (Nat × Nat × Nat × Nat)} {ws : List Cond} {rm : Room} {Pc : Array Value → State → Prop} {Qc : Array Value → State → Outcome → State → Prop} {free : Addr → Prop} {Ts : List Cond} {own : String} {As rest : List Value} {g : JFrame}
    (S : CallFix p m c cc nL s args Ts own) (hM : Met l y ws rm Pc Qc mc ms free) (cw : vx_CSW R s args own index y bytes maxL ret hh ws rm mc ms n) (hp : PreS s H Pc As)
    (hg : g.method = m) (hn : As.length = n) (hsize : g.locals.size = nL) (hstack : g.stack = As.reverse ++ rest) (hW : 2 * g.monitorRoom + (rest.map fun v => v.category).sum ≤ 8) (hdg : decode cc g.pc = .ok (.invokestatic index, 3)) (hf : cells + mc ≤ R.cells ∧ slots + ms ≤ R.slots) :
    va_Run p l e R s m args below meth c H locs cells slots mc ms g rest (Qc As.toArray) (free) := by
  obtain ⟨⟨hrc, hrs, hfr, hlo, hws, hcw⟩, hcode, hini, hy, hlen, hl, hstt⟩ := cw
  have hK : Back l R p e below s args y 3 8 (PreOf R mc ms Pc) (PostOf Qc mc ms free) := va_backW (hh := hh) (bytes := bytes) (maxL := maxL) (ret := ret) hM hp.1 hrc hrs hfr hlo hws hcw (fun a' U hW => word_at hW (Or.inl (by first | rfl | simp [Cond.onTables, Cond.keeps, Cond.steady])) hini)
  obtain ⟨hx, hb, hml, ho, -⟩ := S
  intro T hT X
  obtain ⟨v, vm₁, ⟨U', l2, c2, s2⟩, hW₁, X', ⟨g', mk, t, L, e1, e2, hq, h1, hL, h2, h3⟩, st⟩ := vx_callSW X hx (hh := hh) (bytes := bytes) (maxL := maxL) (ret := ret) ho hl hstt hini hcode hy hK hg (hsize.trans hml.symm) (argsL := As) (rest := rest) (fun sig h => hn.trans (hlen sig h)) hstack hW (by rw [hb]; exact hdg)
    (fun vm₁ hW₁ => ⟨hf.1, hf.2, hp.2 (T.setVm vm₁) hT hW₁⟩)
  dsimp only [Pt.U, Pt.locs, Pt.cells, Pt.slots] at X' e1 e2 h1 h2 h3 st
  subst h1; subst h2; subst h3
  exact ⟨v, (T.setVm vm₁).calling g' mk As.toArray, t, U', L, hT, X', hL, e1, e2, hq, st⟩
/-- not caught here, past rows that name other classes: it goes on to the caller -/
theorem vx_outP {p : Program} {l : Launch} {e : Env} {R : Room} {s : State} {m : MethodId} {args : Array Value} {below : List Frame} {meth : Method} {c : Code} {H : Heap} {locs : List Loc} {cells slots : Nat} {free : Addr → Prop} {ls : Array Slot} {rest : List Value} {Qc : Array Value → State → Outcome → State → Prop} {XC : String → State → State → Prop}
    {pc : Nat} {own E : String} {ce : Cell} {q : Addr} {mc ms : Nat} (hown : s.vm.findClass own = some m.cls) (hlocks : meth.locks = false)
    (hpass : ∀ z ∈ c.exceptionTable.toList, covers z pc = false ∨ (z.catchType ≠ 0 ∧ ∃ nm : String, (Cond.classLink own z.catchType nm).before args s = true ∧ va_Nc E nm s)) (hcell : H[q]? = some ce) (hv : ce.vm = .none) (hcl : s.vm.findClass E = some ce.cls)
    (hx : ∀ t : State, t.heap = H → s.vm.Alike t.vm → XC E s t) (hf : ∀ z ∈ locs, free z.base) (hc : cells ≤ mc) (hs : slots ≤ ms) :
    vx_W p l e R s m args below meth c H locs cells slots (vx_MQ below Qc XC args s mc ms free) (F0 m pc ls rest) q := by
  intro T hT X
  have hpl : e.platform.magicAccessors = ({} : Platform).magicAccessors := by rw [X.admits.platform]
  obtain ⟨vm', hW', X', st⟩ := X.outThrough hlocks q (g := F0 m pc ls rest) rfl rfl rfl (cell := ce) (by rw [hT]; exact hcell) (by rw [hv]; rfl)
    (by obtain ⟨k9, h9, -⟩ := Vm.findClass_spec hcl; exact ⟨k9, h9⟩) (fun z hz => by
      rcases hpass z hz with h | ⟨hz0, nm, hl1, hn1⟩
      · exact Or.inl h
      · obtain ⟨c6, hc6, hcl6⟩ := Cond.classLink_spec hown hl1 e.platform hpl
        obtain ⟨a8, b8, h1, h2, h3⟩ := hn1
        cases Option.some.inj (h1.symm.trans hcl)
        cases Option.some.inj (h2.symm.trans hc6)
        exact Or.inr ⟨hz0, _, hcl6, h3⟩)
  obtain ⟨g₀, hfr⟩ := X'.frames_eq
  have hcell9 : ((T.setVm vm').setFrames (.throwing q :: below)).heap[q]? = some ce := by
    show T.heap[q]? = some ce
    rw [hT]; exact hcell
  have hend : Ended ((T.setVm vm').setFrames (.throwing q :: below)) below (.threw q) := State.frames_setFrames _ (State.cur_lt_of_frames hfr)
  refine ⟨(T.setVm vm').setFrames (.throwing q :: below), ?_, .threw q, X'.here.running, hend, Or.inr ⟨q, rfl, E, ce, locs, hx _ hT (X'.ends _).1.alike, hcell9, hv, hcl, (X'.ends _).1, (X'.ends _).2.mono hc hs, hf⟩⟩
  rw [X.pushThrowing_eq]
  exact st
/-- a thing of a world lies in the heap -/
theorem vx_lt {D : va_G} {cl : List vw_C} {ws : va_W} {H1 : Heap} (h : va_P D cl ws H1) {k : Nat} {q : Nat × va_E} (hk : ws[k]? = some q) : q.1 < H1.size := (h k q hk).lt
end VXS
/-! ===== END ===== -/
/-! ===== BEGIN methods with a table of their own: called by a name, returning or throwing ===== -/
section VXH
/-! vx_backW, vx_callVX, vx_callSX, vx_callVW, vx_runVW, vx_runVX, vx_runSX, vx_ofWH follow the same proofs as their sisters above (Free/Laws.lean, Shelf42/LK1.lean); vx_outP calls Shelf42/NT130.lean (outThrough). -/
section
variable {l : Launch} {R : Room} {p : Program} {e : Env} {below : List Frame} {s : State} {sargs : Array Value} {y : MethodName} {len W9 : Nat}
theorem vx_backW {ws : List Cond} {rm : Room} {Pc : Array Value → State → Prop} {Qc : Array Value → State → Outcome → State → Prop} {XC : String → State → State → Prop} {mc ms : Nat} {free : Addr → Prop} {bytes : ByteArray} {maxL : Nat} {ret : Option FieldType} {hh : List (Nat × Nat × Nat × Nat)}
    (hM : vx_Met l y ws rm Pc Qc XC mc ms free) (hblind : FrameBlind Pc) (hrc : rm.cells = mc) (hrs : rm.slots = ms)
    (hframes : rm.frames + 1 ≤ R.frames) (hlocals : W9 + (maxL + 11) + rm.locals ≤ R.locals)
    (hws : ∀ w ∈ ws, ∀ a' U, s.WarmedH U.vm → w.before a' U = true) (hcode : Cond.codeWith y bytes maxL ret hh ∈ ws) (hinit : ∀ a' U, s.WarmedH U.vm → (Cond.initialized y.cls).before a' U = true) :
    vx_Back l R p e below s sargs y len W9 (PreOf R mc ms Pc) (PostOf Qc mc ms free) (vx_Post XC mc ms free) := by
  intro m meth c A g ig mk a X hg hsize hdg hW hn hp
  have h1 : (headSpec ws rm).pre.before a A.U = true := atoms_intro fun w hw => hws w hw _ _ X.warmed
  have h2 : (Cond.codeWith y bytes maxL ret hh).before a A.U = true := hws _ hcode _ _ X.warmed
  have h3 : (Cond.initialized y.cls).before a A.U = true := hinit _ _ X.warmed
  have h4 : A.cells + (headSpec ws rm).room.cells ≤ R.cells := by rw [show (headSpec ws rm).room.cells = mc from hrc]; exact hp.1
  have h5 : A.slots + (headSpec ws rm).room.slots ≤ R.slots := by rw [show (headSpec ws rm).room.slots = ms from hrs]; exact hp.2.1
  have hPc : Pc a (A.U.calling g mk a) := hblind _ _ _ _ hp.2.2
  obtain ⟨U, Ls, c0, s0⟩ := A
  dsimp only [Pt.U, Pt.locs, Pt.cells, Pt.slots] at h1 h2 h3 h4 h5 X hn hPc ⊢
  obtain ⟨m9, methY, cY, hn9, hmY, hcY, -, hlY, -⟩ := Cond.codeWith_spec h2
  cases Option.some.inj (hn9.symm.trans hn)
  obtain ⟨kY, hkY, -⟩ := className_of_methodNamed hn
  have hinitY : kY.init = .initialized := Cond.initialized_spec (findClass_of_methodNamed hn) hkY h3
  have h : At U g.method c below := by rw [hg]; exact X.here
  have hlocals9 : W9 + (maxL + 11) + (headSpec ws rm).room.locals ≤ R.locals := hlocals
  have happ : (headSpec ws rm).appliesLoose y e.platform (U.calling g mk a) = true :=
    Spec.appliesLoose_calling (g := g) h hdg hn hkY hinitY
      (X.room_calling (g := g) (R' := (headSpec ws rm).room) hsize hmY hcY hframes (by rw [hlY]; omega) h4 h5) h1
  obtain ⟨mid, hmid⟩ := h.above
  have hfr : (U.setTop g).frames = (.java g :: mid) ++ below := by rw [State.frames_setTop' g h.top, hmid]; rfl
  obtain ⟨o, s₂, hsteps, -, hend, hq⟩ := Steps.callFree hM p X.admits X.cas X.clock (acts := []) hfr happ hPc trivial
  have hq' : vx_Q Qc XC mc ms free a (U.calling g mk a) o s₂ := hq
  rw [State.frames_setTop' g h.top] at hend
  obtain ⟨g₀, hg0⟩ := Option.isSome_iff_exists.mp h.top
  obtain ⟨r, hr⟩ := State.topJava?_eq_some.mp hg0
  have hr' : (({ U with heap := s₂.heap, slotsUsed := s₂.slotsUsed } : State).setVm s₂.vm).frames = .java g₀ :: r := hr
  rcases hq' with ⟨hqc, L, hfe, hL⟩ | ⟨q, rfl, E, ce, L, hx, hce, hcv, hcl, hW₂, hsm, hL⟩
  · obtain ⟨⟨v, rfl⟩, hW₂, e2, q2, q3, q4, q5, q6⟩ := id hfe
    have e3 : s₂ = ({ (U.calling g mk a).setFrames s₂.frames with heap := s₂.heap, slotsUsed := s₂.slotsUsed } : State).setVm s₂.vm := by
      have : s₂ = ({ s₂ with vm := (U.calling g mk a).vm } : State).setVm s₂.vm := rfl
      rw [e2] at this
      exact this
    obtain ⟨c₂, i₂, len₂, hc₂, hd₂, hf₂⟩ := hend
    have hW' : U.WarmedH s₂.vm := hW₂
    have hcc : c₂ = c := by
      have h1 : s₂.code? g.method = U.code? g.method := by
        rw [State.code?_eq, State.code?_eq, hW'.alike.method?]
      exact Option.some.inj (hc₂.symm.trans (h1.trans h.code))
    subst hcc
    have hlen : len₂ = len := by rw [hdg] at hd₂; cases hd₂; rfl
    subst hlen
    have hs₂ : s₂ = (({ U with heap := s₂.heap, slotsUsed := s₂.slotsUsed } : State).setVm s₂.vm).setTop { g with pc := g.pc + len₂, stack := v.toList ++ g.stack } := by
      refine e3.trans ?_
      rw [hf₂, State.calling_eq h.top, State.setFrames_setFrames, State.setTop_of_frames _ hr', hr]
      rfl
    have hsame : U.sameButNew ({ U with heap := s₂.heap, slotsUsed := s₂.slotsUsed } : State) L mc ms := by
      refine ⟨?_, q2, q3, q4, q5, q6⟩
      obtain ⟨t, ht, -⟩ := State.frames_cons hr
      show ({ U with heap := s₂.heap, slotsUsed := s₂.slotsUsed } : State) = { U.setFrames U.frames with heap := s₂.heap, slotsUsed := s₂.slotsUsed }
      rw [State.setFrames_self ht]
    subst hg
    refine Or.inl ⟨v, ⟨(({ U with heap := s₂.heap, slotsUsed := s₂.slotsUsed } : State).setVm s₂.vm), Ls ++ L, c0 + mc, s0 + ms⟩,
      ⟨X.admits, X.cas, X.clock, X.frames, X.room, X.hears, X.method, X.code, (X.here.setHeapUsed s₂.heap s₂.slotsUsed).setVm hW'.alike, X.tail, State.WarmedH.trans X.warmed hW', X.limits, X.bytes, X.same.trans (hsame.setVm s.vm)⟩,
      ⟨g, mk, s₂, L, rfl, rfl, hqc, rfl, hL, rfl, rfl⟩, ?_⟩
    show Steps p.tables e below _ ((({ U with heap := s₂.heap, slotsUsed := s₂.slotsUsed } : State).setVm s₂.vm).setTop { g with pc := g.pc + len₂, stack := v.toList ++ g.stack })
    rw [← hs₂]
    exact hsteps
  · obtain ⟨e2, q2, q3, q4, q5, q6⟩ := id hsm
    have e3 : s₂ = ({ (U.calling g mk a).setFrames s₂.frames with heap := s₂.heap, slotsUsed := s₂.slotsUsed } : State).setVm s₂.vm := by
      have : s₂ = ({ s₂ with vm := (U.calling g mk a).vm } : State).setVm s₂.vm := rfl
      rw [e2] at this
      exact this
    have hf₂ : s₂.frames = .throwing q :: .java g :: U.frames.tail := hend
    have hW' : U.WarmedH s₂.vm := hW₂
    have hs₂ : s₂ = ((({ U with heap := s₂.heap, slotsUsed := s₂.slotsUsed } : State).setVm s₂.vm).setTop g).pushFrame (.throwing q) := by
      refine e3.trans ?_
      rw [hf₂, State.calling_eq h.top, State.setFrames_setFrames, State.pushFrame, State.frames_setTop _ hr', State.setTop_of_frames _ hr', State.setFrames_setFrames, hr]
      rfl
    have hsame : U.sameButNew ({ U with heap := s₂.heap, slotsUsed := s₂.slotsUsed } : State) L mc ms := by
      refine ⟨?_, q2, q3, q4, q5, q6⟩
      obtain ⟨t, ht, -⟩ := State.frames_cons hr
      show ({ U with heap := s₂.heap, slotsUsed := s₂.slotsUsed } : State) = { U.setFrames U.frames with heap := s₂.heap, slotsUsed := s₂.slotsUsed }
      rw [State.setFrames_self ht]
    subst hg
    refine Or.inr ⟨q, ⟨(({ U with heap := s₂.heap, slotsUsed := s₂.slotsUsed } : State).setVm s₂.vm), Ls ++ L, c0 + mc, s0 + ms⟩,
      ⟨X.admits, X.cas, X.clock, X.frames, X.room, X.hears, X.method, X.code, (X.here.setHeapUsed s₂.heap s₂.slotsUsed).setVm hW'.alike, X.tail, State.WarmedH.trans X.warmed hW', X.limits, X.bytes, X.same.trans (hsame.setVm s.vm)⟩,
      ⟨g, mk, s₂, L, E, ce, rfl, rfl, hx, hce, hcv, hcl, rfl, hL, rfl, rfl⟩, ?_⟩
    show Steps p.tables e below _ (((({ U with heap := s₂.heap, slotsUsed := s₂.slotsUsed } : State).setVm s₂.vm).setTop g).pushFrame (.throwing q))
    rw [← hs₂]
    exact hsteps
end
variable {p : Program} {l : Launch} {e : Env} {R : Room} {s : State} {m : MethodId} {args : Array Value} {below : List Frame} {meth : Method} {c : Code} {T : State} {H : Heap} {locs : List Loc} {cells slots : Nat}
theorem vx_callVX (X : Stand p l e R s m args below meth c T locs cells slots) (hexec : p.tables.exec = Jvm.exec) {own C : String} {index : Nat} {y : MethodName} {bytes : ByteArray} {maxL : Nat} {ret : Option FieldType} {hh : List (Nat × Nat × Nat × Nat)}
    (hown : s.vm.findClass own = some m.cls) (hlink : (Cond.methodLink own index y).before args s = true) (hinst : (Cond.instanceMethod y).before args s = true) (hsel : (Cond.selects C y y).before args s = true)
    (hcode : (Cond.codeWith y bytes maxL ret hh).before args s = true) (hy : y.cls ≠ "java/lang/invoke/MethodHandle" ∧ y.cls ≠ "java/lang/invoke/VarHandle")
    {W9 : Nat} {Pre : Pt → Array Value → Prop} {Post : Pt → Array Value → Option Value → Pt → Prop} {PostX : Pt → Array Value → Addr → Pt → Prop} (hK : vx_Back l R p e below s args y 3 W9 Pre Post PostX)
    {b : Addr} {cellB : Cell} (hcell : T.heap[b]? = some cellB) (hobj : cellB.vm.isStatics = false) (hcls : s.vm.findClass C = some cellB.cls)
    {g : JFrame} (hg : g.method = m) (hsize : g.locals.size = c.maxLocals) {argsL rest : List Value} (hlen : ∀ sig, parseMethodDescriptor y.desc = some sig → argsL.length = sig.parameters.length)
    (hstack : g.stack = argsL.reverse ++ .ref b :: rest) (hW : 2 * g.monitorRoom + (rest.map fun v => v.category).sum ≤ W9) (hdg : decode c.code g.pc = .ok (.invokevirtual index, 3))
    (hpre : ∀ vm₁, s.WarmedH vm₁ → Pre ⟨T.setVm vm₁, locs, cells, slots⟩ (Value.ref b :: argsL).toArray) :
    (∃ (v : Option Value) (vm₁ : Vm) (B : Pt), s.WarmedH vm₁ ∧ Stand p l e R s m args below meth c B.U B.locs B.cells B.slots ∧ Post ⟨T.setVm vm₁, locs, cells, slots⟩ (Value.ref b :: argsL).toArray v B ∧
      ∀ target, Steps p.tables e below (B.U.setTop { g with pc := g.pc + 3, stack := v.toList ++ rest }) target → Steps p.tables e below (T.setTop g) target) ∨
    (∃ (q : Addr) (vm₁ : Vm) (B : Pt), s.WarmedH vm₁ ∧ Stand p l e R s m args below meth c B.U B.locs B.cells B.slots ∧ PostX ⟨T.setVm vm₁, locs, cells, slots⟩ (Value.ref b :: argsL).toArray q B ∧
      Steps p.tables e below (T.setTop g) ((B.U.setTop { g with stack := rest }).pushFrame (.throwing q))) := by
  obtain ⟨mk, methM, hnamed, hmethM, hstM, habM⟩ := Cond.instanceMethod_spec hinst
  obtain ⟨m8, methM', cM, hn8, hmethM', -, -, -, -, -, -, hsigM⟩ := Cond.codeWith_spec hcode
  cases Option.some.inj (hn8.symm.trans hnamed)
  cases hmethM.symm.trans hmethM'
  obtain ⟨c2, r2, m2, q1, q2, q3, q4, kP, hkP, hkPi⟩ := Cond.selects_spec hsel
  cases hcls.symm.trans q1
  cases (State.methodFound?_of_named hnamed hy).symm.trans q2
  cases hnamed.symm.trans q3
  have hselP : selectMethod e.platform s.vm cellB.cls mk = .method mk := by rw [Launch.admits_selectMethod X.admits]; exact q4
  obtain ⟨vm₁, X₁, hstep₁⟩ := X.invokevirtual hexec hown hlink hnamed hmethM hstM hkP hkPi hy (a := b) (cell := cellB) hcell
    (fun z h => by rw [h] at hobj; cases hobj) hselP hmethM habM hkP hkPi (g := g) hg (argsL := argsL) (rest := rest) (hlen _ hsigM) hstack hdg
  rcases hK m meth c ⟨T.setVm vm₁, locs, cells, slots⟩ { g with stack := rest } (.invokevirtual index) mk (Value.ref b :: argsL).toArray X₁ hg hsize hdg hW (X₁.named hnamed) (hpre vm₁ X₁.warmed) with ⟨v, B, X', hpost, hsteps⟩ | ⟨q, B, X', hpost, hsteps⟩
  · exact Or.inl ⟨v, vm₁, B, X₁.warmed, X', hpost, fun target h => hstep₁ _ fun acts => by rw [doInvoke_state]; exact hsteps.trans h⟩
  · exact Or.inr ⟨q, vm₁, B, X₁.warmed, X', hpost, hstep₁ _ fun acts => by rw [doInvoke_state]; exact hsteps⟩
theorem vx_callSX (X : Stand p l e R s m args below meth c T locs cells slots) (hexec : p.tables.exec = Jvm.exec) {own : String} {index : Nat} {y : MethodName} {bytes : ByteArray} {maxL : Nat} {ret : Option FieldType} {hh : List (Nat × Nat × Nat × Nat)}
    (hown : s.vm.findClass own = some m.cls) (hlink : (Cond.methodLink own index y).before args s = true) (hstat : (Cond.static y).before args s = true) (hinit : (Cond.initialized y.cls).before args s = true)
    (hcode : (Cond.codeWith y bytes maxL ret hh).before args s = true) (hy : y.cls ≠ "java/lang/invoke/MethodHandle" ∧ y.cls ≠ "java/lang/invoke/VarHandle")
    {W9 : Nat} {Pre : Pt → Array Value → Prop} {Post : Pt → Array Value → Option Value → Pt → Prop} {PostX : Pt → Array Value → Addr → Pt → Prop} (hK : vx_Back l R p e below s args y 3 W9 Pre Post PostX)
    {g : JFrame} (hg : g.method = m) (hsize : g.locals.size = c.maxLocals) {argsL rest : List Value} (hlen : ∀ sig, parseMethodDescriptor y.desc = some sig → argsL.length = sig.parameters.length)
    (hstack : g.stack = argsL.reverse ++ rest) (hW : 2 * g.monitorRoom + (rest.map fun v => v.category).sum ≤ W9) (hdg : decode c.code g.pc = .ok (.invokestatic index, 3))
    (hpre : ∀ vm₁, s.WarmedH vm₁ → Pre ⟨T.setVm vm₁, locs, cells, slots⟩ argsL.toArray) :
    (∃ (v : Option Value) (vm₁ : Vm) (B : Pt), s.WarmedH vm₁ ∧ Stand p l e R s m args below meth c B.U B.locs B.cells B.slots ∧ Post ⟨T.setVm vm₁, locs, cells, slots⟩ argsL.toArray v B ∧
      ∀ target, Steps p.tables e below (B.U.setTop { g with pc := g.pc + 3, stack := v.toList ++ rest }) target → Steps p.tables e below (T.setTop g) target) ∨
    (∃ (q : Addr) (vm₁ : Vm) (B : Pt), s.WarmedH vm₁ ∧ Stand p l e R s m args below meth c B.U B.locs B.cells B.slots ∧ PostX ⟨T.setVm vm₁, locs, cells, slots⟩ argsL.toArray q B ∧
      Steps p.tables e below (T.setTop g) ((B.U.setTop { g with stack := rest }).pushFrame (.throwing q))) := by
  obtain ⟨mk, methM, cM, hnamed, hmethM, -, -, -, -, -, -, hsigM⟩ := Cond.codeWith_spec hcode
  have hstatic : methM.isStatic = true := Cond.static_spec hnamed hmethM hstat
  obtain ⟨kP, hkP, -⟩ := className_of_methodNamed hnamed
  have hinitP : kP.init = .initialized := Cond.initialized_spec (findClass_of_methodNamed hnamed) hkP hinit
  obtain ⟨vm₁, X₁, hstep₁⟩ := X.invokestatic hexec hown hlink hnamed hmethM hstatic hkP hinitP hy (g := g) hg (argsL := argsL) (rest := rest) (hlen _ hsigM) hstack hdg
  rcases hK m meth c ⟨T.setVm vm₁, locs, cells, slots⟩ { g with stack := rest } (.invokestatic index) mk argsL.toArray X₁ hg hsize hdg hW (X₁.named hnamed) (hpre vm₁ X₁.warmed) with ⟨v, B, X', hpost, hsteps⟩ | ⟨q, B, X', hpost, hsteps⟩
  · exact Or.inl ⟨v, vm₁, B, X₁.warmed, X', hpost, fun target h => hstep₁ _ fun acts => by rw [doInvoke_state]; exact hsteps.trans h⟩
  · exact Or.inr ⟨q, vm₁, B, X₁.warmed, X', hpost, hstep₁ _ fun acts => by rw [doInvoke_state]; exact hsteps⟩
theorem vx_callVW (X : Stand p l e R s m args below meth c T locs cells slots) (hexec : p.tables.exec = Jvm.exec) {own C : String} {index : Nat} {y : MethodName} {bytes : ByteArray} {maxL : Nat} {ret : Option FieldType} {hh : List (Nat × Nat × Nat × Nat)}
    (hown : s.vm.findClass own = some m.cls) (hlink : (Cond.methodLink own index y).before args s = true) (hinst : (Cond.instanceMethod y).before args s = true) (hsel : (Cond.selects C y y).before args s = true)
    (hcode : (Cond.codeWith y bytes maxL ret hh).before args s = true) (hy : y.cls ≠ "java/lang/invoke/MethodHandle" ∧ y.cls ≠ "java/lang/invoke/VarHandle")
    {W9 : Nat} {Pre : Pt → Array Value → Prop} {Post : Pt → Array Value → Option Value → Pt → Prop} (hK : Back l R p e below s args y 3 W9 Pre Post)
    {b : Addr} {cellB : Cell} (hcell : T.heap[b]? = some cellB) (hobj : cellB.vm.isStatics = false) (hcls : s.vm.findClass C = some cellB.cls)
    {g : JFrame} (hg : g.method = m) (hsize : g.locals.size = c.maxLocals) {argsL rest : List Value} (hlen : ∀ sig, parseMethodDescriptor y.desc = some sig → argsL.length = sig.parameters.length)
    (hstack : g.stack = argsL.reverse ++ .ref b :: rest) (hW : 2 * g.monitorRoom + (rest.map fun v => v.category).sum ≤ W9) (hdg : decode c.code g.pc = .ok (.invokevirtual index, 3))
    (hpre : ∀ vm₁, s.WarmedH vm₁ → Pre ⟨T.setVm vm₁, locs, cells, slots⟩ (Value.ref b :: argsL).toArray) :
    ∃ (v : Option Value) (vm₁ : Vm) (B : Pt), s.WarmedH vm₁ ∧ Stand p l e R s m args below meth c B.U B.locs B.cells B.slots ∧ Post ⟨T.setVm vm₁, locs, cells, slots⟩ (Value.ref b :: argsL).toArray v B ∧
      ∀ target, Steps p.tables e below (B.U.setTop { g with pc := g.pc + 3, stack := v.toList ++ rest }) target → Steps p.tables e below (T.setTop g) target := by
  obtain ⟨mk, methM, hnamed, hmethM, hstM, habM⟩ := Cond.instanceMethod_spec hinst
  obtain ⟨m8, methM', cM, hn8, hmethM', -, -, -, -, -, -, hsigM⟩ := Cond.codeWith_spec hcode
  cases Option.some.inj (hn8.symm.trans hnamed)
  cases hmethM.symm.trans hmethM'
  obtain ⟨c2, r2, m2, q1, q2, q3, q4, kP, hkP, hkPi⟩ := Cond.selects_spec hsel
  cases hcls.symm.trans q1
  cases (State.methodFound?_of_named hnamed hy).symm.trans q2
  cases hnamed.symm.trans q3
  have hselP : selectMethod e.platform s.vm cellB.cls mk = .method mk := by rw [Launch.admits_selectMethod X.admits]; exact q4
  obtain ⟨vm₁, X₁, hstep₁⟩ := X.invokevirtual hexec hown hlink hnamed hmethM hstM hkP hkPi hy (a := b) (cell := cellB) hcell
    (fun z h => by rw [h] at hobj; cases hobj) hselP hmethM habM hkP hkPi (g := g) hg (argsL := argsL) (rest := rest) (hlen _ hsigM) hstack hdg
  obtain ⟨v, B, X', hpost, hsteps⟩ := hK m meth c ⟨T.setVm vm₁, locs, cells, slots⟩ { g with stack := rest } (.invokevirtual index) mk (Value.ref b :: argsL).toArray X₁ hg hsize hdg hW (X₁.named hnamed) (hpre vm₁ X₁.warmed)
  exact ⟨v, vm₁, B, X₁.warmed, X', hpost, fun target h => hstep₁ _ fun acts => by rw [doInvoke_state]; exact hsteps.trans h⟩
abbrev vx_CVW (R : Room) (s : State) (args : Array Value) (own C : String) (index : Nat) (y : MethodName) (bytes : ByteArray) (maxL : Nat) (ret : Option FieldType) (hh : List (Nat × Nat × Nat × Nat)) (ws : List Cond) (rm : Room) (mc ms n : Nat) : Prop :=
  (rm.cells = mc ∧ rm.slots = ms ∧ rm.frames + 1 ≤ R.frames ∧ 8 + (maxL + 11) + rm.locals ≤ R.locals ∧ (∀ w ∈ ws, ∀ (a' : Array Value) (U : State), s.WarmedH U.vm → w.before a' U = true) ∧ Cond.codeWith y bytes maxL ret hh ∈ ws) ∧
  (Cond.codeWith y bytes maxL ret hh).before args s = true ∧ (Cond.initialized y.cls).before args s = true ∧ (y.cls ≠ "java/lang/invoke/MethodHandle" ∧ y.cls ≠ "java/lang/invoke/VarHandle") ∧
  (∀ sig, parseMethodDescriptor y.desc = some sig → n = sig.parameters.length) ∧ (Cond.methodLink own index y).before args s = true ∧ (Cond.instanceMethod y).before args s = true ∧ (Cond.selects C y y).before args s = true
theorem vx_cwVW {own C : String} {index maxL mc ms : Nat} {y : MethodName} {bytes : ByteArray} {ret : Option FieldType} {hh : List (Nat × Nat × Nat × Nat)} {Ts ws ws' : List Cond} {rm : Room} (n : Nat) (ht : ∀ w ∈ Ts, w.before args s = true) (hT : GoodIn Ts (wsV own index C y ws)) (hw : ws = Cond.codeWith y bytes maxL ret hh :: ws') (hrc : rm.cells = mc) (hrs : rm.slots = ms)
    (hd : y.cls = C ∧ y.cls ≠ "java/lang/invoke/MethodHandle" ∧ y.cls ≠ "java/lang/invoke/VarHandle" ∧ (parseMethodDescriptor y.desc).map (fun d => d.parameters.length) = some n) (hR : rm.frames + 1 ≤ R.frames ∧ 8 + (maxL + 11) + rm.locals ≤ R.locals) :
    vx_CVW R s args own C index y bytes maxL ret hh ws rm mc ms n := by
  obtain ⟨hC, hd⟩ := hd
  subst hC
  have ok : ∀ w ∈ wsV own index y.cls y ws, w.before args s = true := fun w h => ht w (hT w h).1
  have hG : GoodIn Ts ws := fun w h => hT w (by unfold wsV; exact List.mem_append_right _ h)
  have hc : Cond.codeWith y bytes maxL ret hh ∈ ws := by rw [hw]; exact List.mem_cons_self
  refine ⟨⟨hrc, hrs, hR.1, hR.2, pay_in ht hG, hc⟩, ht _ (hG _ hc).1, ok _ (by simp [wsV]), ⟨hd.1, hd.2.1⟩, fun sig h => ?_, ok _ (by simp [wsV]), ok _ (by simp [wsV]), ok _ (by simp [wsV])⟩
  have h2 := hd.2.2
  rw [h] at h2
  exact (Option.some.inj h2).symm
theorem vx_runVW {y : MethodName} {bytes cc : ByteArray} {maxL nL mc ms n index : Nat} {ret : Option FieldType} {hh : List (Nat × Nat × Nat × Nat)} {ws : List Cond} {rm : Room} {Pc : Array Value → State → Prop} {Qc : Array Value → State → Outcome → State → Prop} {free : Addr → Prop} {Ts : List Cond} {own C : String} {b : Addr} {As rest : List Value} {g : JFrame}
    (S : CallFix p m c cc nL s args Ts own) (hM : Met l y ws rm Pc Qc mc ms free) (cw : vx_CVW R s args own C index y bytes maxL ret hh ws rm mc ms n) (hp : PreV s H C b Pc As)
    (hg : g.method = m) (hn : As.length = n) (hsize : g.locals.size = nL) (hstack : g.stack = As.reverse ++ .ref b :: rest) (hW : 2 * g.monitorRoom + (rest.map fun v => v.category).sum ≤ 8) (hdg : decode cc g.pc = .ok (.invokevirtual index, 3)) (hf : cells + mc ≤ R.cells ∧ slots + ms ≤ R.slots) :
    va_Run p l e R s m args below meth c H locs cells slots mc ms g rest (Qc (Value.ref b :: As).toArray) free := by
  obtain ⟨⟨hrc, hrs, hfr, hlo, hws, hcw⟩, hcode, hini, hy, hlen, hl, hin, hse⟩ := cw
  have hK : Back l R p e below s args y 3 8 (PreOf R mc ms Pc) (PostOf Qc mc ms free) := va_backW (hh := hh) (bytes := bytes) (maxL := maxL) (ret := ret) hM hp.1 hrc hrs hfr hlo hws hcw (fun a' U hW => word_at hW (Or.inl (by first | rfl | simp [Cond.onTables, Cond.keeps, Cond.steady])) hini)
  obtain ⟨hx, hb, hml, ho, -⟩ := S
  obtain ⟨-, ⟨cellB, hcB, hoB, hclB⟩, hPc⟩ := hp
  intro T hT X
  obtain ⟨v, vm₁, ⟨U', l2, c2, s2⟩, hW₁, X', ⟨g', mk, t, L, e1, e2, hq, h1, hL, h2, h3⟩, st⟩ := vx_callVW X hx (C := C) (hh := hh) (bytes := bytes) (maxL := maxL) (ret := ret) ho hl hin hse hcode hy hK (by rw [hT]; exact hcB) hoB hclB hg (hsize.trans hml.symm) (argsL := As) (rest := rest) (fun sig h => hn.trans (hlen sig h)) hstack hW (by rw [hb]; exact hdg)
    (fun vm₁ hW₁ => ⟨hf.1, hf.2, hPc (T.setVm vm₁) hT hW₁⟩)
  dsimp only [Pt.U, Pt.locs, Pt.cells, Pt.slots] at X' e1 e2 h1 h2 h3 st
  subst h1; subst h2; subst h3
  exact ⟨v, (T.setVm vm₁).calling g' mk (Value.ref b :: As).toArray, t, U', L, hT, X', hL, e1, e2, hq, st⟩
section
variable {y : MethodName} {bytes cc : ByteArray} {maxL nL mc ms n index : Nat} {ret : Option FieldType} {ws : List Cond} {rm : Room} {Pc : Array Value → State → Prop} {Qc : Array Value → State → Outcome → State → Prop} {XC : String → State → State → Prop} {free : Addr → Prop} {Ts : List Cond} {own C : String} {b : Addr} {As rest : List Value} {g : JFrame}
theorem vx_runVX {hh : List (Nat × Nat × Nat × Nat)} (S : CallFix p m c cc nL s args Ts own) (hM : vx_Met l y ws rm Pc Qc XC mc ms free) (cw : vx_CVW R s args own C index y bytes maxL ret hh ws rm mc ms n) (hp : PreV s H C b Pc As)
    (hg : g.method = m) (hn : As.length = n) (hsize : g.locals.size = nL) (hstack : g.stack = As.reverse ++ .ref b :: rest) (hW : 2 * g.monitorRoom + (rest.map fun v => v.category).sum ≤ 8) (hdg : decode cc g.pc = .ok (.invokevirtual index, 3)) (hf : cells + mc ≤ R.cells ∧ slots + ms ≤ R.slots) :
    vx_Run p l e R s m args below meth c H locs cells slots mc ms g rest (Qc (Value.ref b :: As).toArray) XC free := by
  obtain ⟨⟨hrc, hrs, hfr, hlo, hws, hcw⟩, hcode, hini, hy, hlen, hl, hin, hse⟩ := cw
  have hK : vx_Back l R p e below s args y 3 8 (PreOf R mc ms Pc) (PostOf Qc mc ms free) (vx_Post XC mc ms free) := vx_backW (hh := hh) (bytes := bytes) (maxL := maxL) (ret := ret) hM hp.1 hrc hrs hfr hlo hws hcw (fun a' U hW => word_at hW (Or.inl (by first | rfl | simp [Cond.onTables, Cond.keeps, Cond.steady])) hini)
  obtain ⟨hx, hb, hml, ho, -⟩ := S
  obtain ⟨-, ⟨cellB, hcB, hoB, hclB⟩, hPc⟩ := hp
  intro T hT X
  rcases vx_callVX X hx (C := C) (hh := hh) (bytes := bytes) (maxL := maxL) (ret := ret) ho hl hin hse hcode hy hK (by rw [hT]; exact hcB) hoB hclB hg (hsize.trans hml.symm) (argsL := As) (rest := rest) (fun sig h => hn.trans (hlen sig h)) hstack hW (by rw [hb]; exact hdg)
    (fun vm₁ hW₁ => ⟨hf.1, hf.2, hPc (T.setVm vm₁) hT hW₁⟩) with ⟨v, vm₁, ⟨U', l2, c2, s2⟩, hW₁, X', ⟨g', mk, t, L, e1, e2, hq, h1, hL, h2, h3⟩, st⟩ | ⟨q, vm₁, ⟨U', l2, c2, s2⟩, hW₁, X', ⟨g', mk, t, L, E, ce, e1, e2, hq, hce, hcv, hcl, h1, hL, h2, h3⟩, st⟩
  · dsimp only [Pt.U, Pt.locs, Pt.cells, Pt.slots] at X' e1 e2 h1 h2 h3 st
    subst h1; subst h2; subst h3
    exact Or.inl ⟨v, (T.setVm vm₁).calling g' mk (Value.ref b :: As).toArray, t, U', L, hT, X', hL, e1, e2, hq, st⟩
  · dsimp only [Pt.U, Pt.locs, Pt.cells, Pt.slots] at X' e1 e2 h1 h2 h3 st hcl
    subst h1; subst h2; subst h3
    exact Or.inr ⟨q, (T.setVm vm₁).calling g' mk (Value.ref b :: As).toArray, t, U', L, E, ce, hT, X', hL, e1, e2, hq, hce, hcv, vx_cls hW₁ hcl, st⟩
theorem vx_runSX {hh : List (Nat × Nat × Nat × Nat)} (S : CallFix p m c cc nL s args Ts own) (hM : vx_Met l y ws rm Pc Qc XC mc ms free) (cw : vx_CSW R s args own index y bytes maxL ret hh ws rm mc ms n) (hp : PreS s H Pc As)
    (hg : g.method = m) (hn : As.length = n) (hsize : g.locals.size = nL) (hstack : g.stack = As.reverse ++ rest) (hW : 2 * g.monitorRoom + (rest.map fun v => v.category).sum ≤ 8) (hdg : decode cc g.pc = .ok (.invokestatic index, 3)) (hf : cells + mc ≤ R.cells ∧ slots + ms ≤ R.slots) :
    vx_Run p l e R s m args below meth c H locs cells slots mc ms g rest (Qc As.toArray) XC free := by
  obtain ⟨⟨hrc, hrs, hfr, hlo, hws, hcw⟩, hcode, hini, hy, hlen, hl, hstt⟩ := cw
  have hK : vx_Back l R p e below s args y 3 8 (PreOf R mc ms Pc) (PostOf Qc mc ms free) (vx_Post XC mc ms free) := vx_backW (hh := hh) (bytes := bytes) (maxL := maxL) (ret := ret) hM hp.1 hrc hrs hfr hlo hws hcw (fun a' U hW => word_at hW (Or.inl (by first | rfl | simp [Cond.onTables, Cond.keeps, Cond.steady])) hini)
  obtain ⟨hx, hb, hml, ho, -⟩ := S
  intro T hT X
  rcases vx_callSX X hx (hh := hh) (bytes := bytes) (maxL := maxL) (ret := ret) ho hl hstt hini hcode hy hK hg (hsize.trans hml.symm) (argsL := As) (rest := rest) (fun sig h => hn.trans (hlen sig h)) hstack hW (by rw [hb]; exact hdg)
    (fun vm₁ hW₁ => ⟨hf.1, hf.2, hp.2 (T.setVm vm₁) hT hW₁⟩) with ⟨v, vm₁, ⟨U', l2, c2, s2⟩, hW₁, X', ⟨g', mk, t, L, e1, e2, hq, h1, hL, h2, h3⟩, st⟩ | ⟨q, vm₁, ⟨U', l2, c2, s2⟩, hW₁, X', ⟨g', mk, t, L, E, ce, e1, e2, hq, hce, hcv, hcl, h1, hL, h2, h3⟩, st⟩
  · dsimp only [Pt.U, Pt.locs, Pt.cells, Pt.slots] at X' e1 e2 h1 h2 h3 st
    subst h1; subst h2; subst h3
    exact Or.inl ⟨v, (T.setVm vm₁).calling g' mk As.toArray, t, U', L, hT, X', hL, e1, e2, hq, st⟩
  · dsimp only [Pt.U, Pt.locs, Pt.cells, Pt.slots] at X' e1 e2 h1 h2 h3 st hcl
    subst h1; subst h2; subst h3
    exact Or.inr ⟨q, (T.setVm vm₁).calling g' mk As.toArray, t, U', L, E, ce, hT, X', hL, e1, e2, hq, hce, hcv, vx_cls hW₁ hcl, st⟩
end
end VXH
theorem vx_ofWH {l : Launch} {y : MethodName} {ws ws' : List Cond} {rm : Room} {Pc : Array Value → State → Prop} {Qc : Array Value → State → Outcome → State → Prop} {XC : String → State → State → Prop} {mc ms : Nat} {free : Addr → Prop} {cc : ByteArray} {maxL : Nat} {ret : Option FieldType} {hh : List (Nat × Nat × Nat × Nat)}
    (hy : plainName y.cls = true) (hw : ws = Cond.codeWith y cc maxL ret hh :: ws')
    (body : ∀ p e s m args below meth c s₁, BodyLoose p l y (headSpec ws rm) cc maxL ret e s m args below meth c s₁ → c.maxLocals = maxL → Pc args s →
      W p l e (headSpec ws rm).room s m args below meth c s.heap [] 0 0 (vx_MQ below Qc XC args s mc ms free) (entryFrame m args maxL)) : vx_Met l y ws rm Pc Qc XC mc ms free := by
  refine MetFree.of_bodyS (code := cc) (maxLocals := maxL) (ret := ret) hy ?_ ?_
  · intro args s m h hn
    obtain ⟨m9, meth, c, hn9, h1, h2, h3, h4, -, h5, h6, -⟩ := Cond.codeWith_spec (atoms_spec (ws := ws) h _ (by rw [hw]; exact List.mem_cons_self))
    cases hn.symm.trans hn9
    exact ⟨meth, c, h1, h2, h3, h4, h5, h6⟩
  · intro p e s m args below meth c s₁ B hml hP _
    have hh0 : s₁.heap = s.heap := by rw [B.state]; rfl
    obtain ⟨t, a1, o, b1, b2, b3⟩ := body p e s m args below meth c s₁ B hml hP s₁ hh0 (Stand.of_body B)
    exact ⟨t, o, a1, b1, b2, b3⟩
/-! ===== END ===== -/
end
section
/-! ===== BEGIN printed: names, fields, word lists, decode rows ===== -/
def RX0 : String := "TrouserWash$Garments"
def TX0 : u_T := fun k => match k with
  | 0 => ("TrouserWash$Garments", "shades", "[I", true)
  | _ => ("TrouserWash$Garments", "size", "I", false)
def tyX0 : Nat → FieldType := fun k => match k with
  | 0 => .array .int
  | _ => .int
abbrev wsX00 : List Cond := u_ws RX0 TX0 2
theorem nmX0 : ∀ a, a < 2 → ∀ b, b < 2 → a ≠ b → (TX0 a).2.1 ≠ (TX0 b).2.1 := by decide +kernel
theorem tyX0_ok : ∀ k, k < 2 → parseFieldDescriptor (TX0 k).2.2.1 = some (tyX0 k) := by decide +kernel
abbrev cX0_init : ByteArray := prog_2_method_1_code
def yX0_init : MethodName := ⟨RX0, "<init>", "()V"⟩
abbrev cX0_add : ByteArray := prog_2_method_2_code
def yX0_add : MethodName := ⟨RX0, "add", "(I)I"⟩
abbrev cX0_leastSpread : ByteArray := prog_2_method_3_code
def yX0_leastSpread : MethodName := ⟨RX0, "leastSpread", "(I)I"⟩
abbrev cX0_sorts : ByteArray := prog_2_method_4_code
def yX0_sorts : MethodName := ⟨RX0, "sorts", "(I)I"⟩
abbrev cX0_fullPacks : ByteArray := prog_2_method_5_code
def yX0_fullPacks : MethodName := ⟨RX0, "fullPacks", "(II)I"⟩
def RX1 : String := "TrouserWash$House"
def TX1 : u_T := fun k => match k with
  | 0 => ("TrouserWash$House", "told", "[I", true)
  | _ => ("TrouserWash$House", "rules", "I", false)
def tyX1 : Nat → FieldType := fun k => match k with
  | 0 => .array .int
  | _ => .int
abbrev wsX10 : List Cond := u_ws RX1 TX1 2
theorem nmX1 : ∀ a, a < 2 → ∀ b, b < 2 → a ≠ b → (TX1 a).2.1 ≠ (TX1 b).2.1 := by decide +kernel
theorem tyX1_ok : ∀ k, k < 2 → parseFieldDescriptor (TX1 k).2.2.1 = some (tyX1 k) := by decide +kernel
abbrev cX1_init : ByteArray := prog_3_method_1_code
def yX1_init : MethodName := ⟨RX1, "<init>", "()V"⟩
abbrev cX1_value : ByteArray := prog_3_method_2_code
def yX1_value : MethodName := ⟨RX1, "value", "(I)I"⟩
abbrev cX1_read : ByteArray := prog_3_method_3_code
def yX1_read : MethodName := ⟨RX1, "read", "(LTrouserWash$Text;)V"⟩
abbrev cX1_readRule : ByteArray := prog_3_method_4_code
def yX1_readRule : MethodName := ⟨RX1, "readRule", "(LTrouserWash$Text;)V"⟩
abbrev cX1_readOfBath : ByteArray := prog_3_method_5_code
def yX1_readOfBath : MethodName := ⟨RX1, "readOfBath", "(LTrouserWash$Text;III)V"⟩
abbrev cX1_readPours : ByteArray := prog_3_method_6_code
def yX1_readPours : MethodName := ⟨RX1, "readPours", "(LTrouserWash$Text;)V"⟩
abbrev cX1_readAgain : ByteArray := prog_3_method_7_code
def yX1_readAgain : MethodName := ⟨RX1, "readAgain", "(LTrouserWash$Text;)V"⟩
def RX2 : String := "TrouserWash$Kinds"
def TX2 : u_T := fun k => match k with
  | 0 => ("TrouserWash$Kinds", "carried", "[I", true)
  | 1 => ("TrouserWash$Kinds", "kindOf", "[I", true)
  | 2 => ("TrouserWash$Kinds", "batches", "I", false)
  | _ => ("TrouserWash$Kinds", "sums", "[I", true)
def tyX2 : Nat → FieldType := fun k => match k with
  | 0 => .array .int
  | 1 => .array .int
  | 2 => .int
  | _ => .array .int
abbrev wsX20 : List Cond := u_ws RX2 TX2 4
theorem nmX2 : ∀ a, a < 4 → ∀ b, b < 4 → a ≠ b → (TX2 a).2.1 ≠ (TX2 b).2.1 := by decide +kernel
theorem tyX2_ok : ∀ k, k < 4 → parseFieldDescriptor (TX2 k).2.2.1 = some (tyX2 k) := by decide +kernel
abbrev cX2_init : ByteArray := prog_4_method_1_code
def yX2_init : MethodName := ⟨RX2, "<init>", "()V"⟩
abbrev cX2_tell : ByteArray := prog_4_method_2_code
def yX2_tell : MethodName := ⟨RX2, "tell", "(III)V"⟩
abbrev cX2_between : ByteArray := prog_4_method_3_code
def yX2_between : MethodName := ⟨RX2, "between", "(II)I"⟩
abbrev cX2_addBatch : ByteArray := prog_4_method_4_code
def yX2_addBatch : MethodName := ⟨RX2, "addBatch", "(I)I"⟩
abbrev cX2_leastSum : ByteArray := prog_4_method_5_code
def yX2_leastSum : MethodName := ⟨RX2, "leastSum", "()I"⟩
abbrev cX2_goOn : ByteArray := prog_4_method_6_code
def yX2_goOn : MethodName := ⟨RX2, "goOn", "(II)V"⟩
abbrev cX2_lesser : ByteArray := prog_4_method_7_code
def yX2_lesser : MethodName := ⟨RX2, "lesser", "(II)I"⟩
def RX3 : String := "TrouserWash$Look"
def TX3 : u_T := fun k => match k with
  | 0 => ("TrouserWash$Look", "least", "I", false)
  | 1 => ("TrouserWash$Look", "greatest", "I", false)
  | 2 => ("TrouserWash$Look", "weakest", "I", false)
  | 3 => ("TrouserWash$Look", "strongest", "I", false)
  | 4 => ("TrouserWash$Look", "lye", "Z", false)
  | _ => ("TrouserWash$Look", "hard", "I", false)
def tyX3 : Nat → FieldType := fun k => match k with
  | 0 => .int
  | 1 => .int
  | 2 => .int
  | 3 => .int
  | 4 => .boolean
  | _ => .int
abbrev wsX30 : List Cond := u_ws RX3 TX3 6
theorem nmX3 : ∀ a, a < 6 → ∀ b, b < 6 → a ≠ b → (TX3 a).2.1 ≠ (TX3 b).2.1 := by decide +kernel
theorem tyX3_ok : ∀ k, k < 6 → parseFieldDescriptor (TX3 k).2.2.1 = some (tyX3 k) := by decide +kernel
abbrev cX3_init : ByteArray := prog_5_method_1_code
def yX3_init : MethodName := ⟨RX3, "<init>", "()V"⟩
abbrev cX3_begin : ByteArray := prog_5_method_2_code
def yX3_begin : MethodName := ⟨RX3, "begin", "(III)V"⟩
abbrev cX3_copy : ByteArray := prog_5_method_3_code
def yX3_copy : MethodName := ⟨RX3, "copy", "(LTrouserWash$Look;)V"⟩
abbrev cX3_take : ByteArray := prog_5_method_4_code
def yX3_take : MethodName := ⟨RX3, "take", "(II)V"⟩
abbrev cX3_fade : ByteArray := prog_5_method_5_code
def yX3_fade : MethodName := ⟨RX3, "fade", "(II)V"⟩
abbrev cX3_wear : ByteArray := prog_5_method_6_code
def yX3_wear : MethodName := ⟨RX3, "wear", "(II)V"⟩
abbrev cX3_surelyMeets : ByteArray := prog_5_method_7_code
def yX3_surelyMeets : MethodName := ⟨RX3, "surelyMeets", "(III)Z"⟩
abbrev cX3_part : ByteArray := prog_5_method_8_code
def yX3_part : MethodName := ⟨RX3, "part", "(I)I"⟩
def RX4 : String := "TrouserWash$Lot"
def TX4 : u_T := fun k => match k with
  | 0 => ("TrouserWash$Lot", "cloth", "I", true)
  | 1 => ("TrouserWash$Lot", "pieces", "I", true)
  | 2 => ("TrouserWash$Lot", "kind", "I", true)
  | 3 => ("TrouserWash$Lot", "due", "I", true)
  | 4 => ("TrouserWash$Lot", "from", "I", false)
  | 5 => ("TrouserWash$Lot", "to", "I", false)
  | 6 => ("TrouserWash$Lot", "strength", "I", false)
  | 7 => ("TrouserWash$Lot", "recipe", "LTrouserWash$Recipe;", true)
  | 8 => ("TrouserWash$Lot", "look", "LTrouserWash$Look;", true)
  | 9 => ("TrouserWash$Lot", "state", "I", false)
  | 10 => ("TrouserWash$Lot", "machine", "I", false)
  | 11 => ("TrouserWash$Lot", "done", "I", false)
  | 12 => ("TrouserWash$Lot", "washedOn", "I", false)
  | 13 => ("TrouserWash$Lot", "origin", "I", false)
  | 14 => ("TrouserWash$Lot", "times", "I", false)
  | 15 => ("TrouserWash$Lot", "placed", "[I", true)
  | _ => ("TrouserWash$Lot", "latest", "[I", true)
def tyX4 : Nat → FieldType := fun k => match k with
  | 0 => .int
  | 1 => .int
  | 2 => .int
  | 3 => .int
  | 4 => .int
  | 5 => .int
  | 6 => .int
  | 7 => .object "TrouserWash$Recipe"
  | 8 => .object "TrouserWash$Look"
  | 9 => .int
  | 10 => .int
  | 11 => .int
  | 12 => .int
  | 13 => .int
  | 14 => .int
  | 15 => .array .int
  | _ => .array .int
abbrev wsX40 : List Cond := u_ws RX4 TX4 17
theorem nmX4 : ∀ a, a < 17 → ∀ b, b < 17 → a ≠ b → (TX4 a).2.1 ≠ (TX4 b).2.1 := by decide +kernel
theorem tyX4_ok : ∀ k, k < 17 → parseFieldDescriptor (TX4 k).2.2.1 = some (tyX4 k) := by decide +kernel
abbrev cX4_init : ByteArray := prog_6_method_1_code
def yX4_init : MethodName := ⟨RX4, "<init>", "(IIIII)V"⟩
abbrev cX4_wishFor : ByteArray := prog_6_method_2_code
def yX4_wishFor : MethodName := ⟨RX4, "wishFor", "(III)V"⟩
abbrev cX4_isStillHere : ByteArray := prog_6_method_3_code
def yX4_isStillHere : MethodName := ⟨RX4, "isStillHere", "(I)Z"⟩
abbrev cX4_setDelivered : ByteArray := prog_6_method_4_code
def yX4_setDelivered : MethodName := ⟨RX4, "setDelivered", "(I)V"⟩
abbrev cX4_countPlaced : ByteArray := prog_6_method_5_code
def yX4_countPlaced : MethodName := ⟨RX4, "countPlaced", "(I)I"⟩
abbrev cX4_judge : ByteArray := prog_6_method_6_code
def yX4_judge : MethodName := ⟨RX4, "judge", "(I)I"⟩
def RX5 : String := "TrouserWash$Machine"
def TX5 : u_T := fun k => match k with
  | 0 => ("TrouserWash$Machine", "holds", "I", false)
  | 1 => ("TrouserWash$Machine", "queue", "[I", true)
  | 2 => ("TrouserWash$Machine", "queued", "I", false)
  | 3 => ("TrouserWash$Machine", "inside", "I", false)
  | 4 => ("TrouserWash$Machine", "lastKind", "I", false)
  | _ => ("TrouserWash$Machine", "minutes", "I", false)
def tyX5 : Nat → FieldType := fun k => match k with
  | 0 => .int
  | 1 => .array .int
  | 2 => .int
  | 3 => .int
  | 4 => .int
  | _ => .int
abbrev wsX50 : List Cond := u_ws RX5 TX5 6
theorem nmX5 : ∀ a, a < 6 → ∀ b, b < 6 → a ≠ b → (TX5 a).2.1 ≠ (TX5 b).2.1 := by decide +kernel
theorem tyX5_ok : ∀ k, k < 6 → parseFieldDescriptor (TX5 k).2.2.1 = some (tyX5 k) := by decide +kernel
abbrev cX5_init : ByteArray := prog_7_method_1_code
def yX5_init : MethodName := ⟨RX5, "<init>", "()V"⟩
abbrev cX5_enqueue : ByteArray := prog_7_method_2_code
def yX5_enqueue : MethodName := ⟨RX5, "enqueue", "(I)V"⟩
abbrev cX5_takeIn : ByteArray := prog_7_method_3_code
def yX5_takeIn : MethodName := ⟨RX5, "takeIn", "(II)V"⟩
def RX6 : String := "TrouserWash$Measures"
def TX6 : u_T := fun k => match k with
  | 0 => ("TrouserWash$Measures", "shades", "[I", true)
  | 1 => ("TrouserWash$Measures", "told", "[I", true)
  | 2 => ("TrouserWash$Measures", "before", "[I", true)
  | 3 => ("TrouserWash$Measures", "size", "I", false)
  | 4 => ("TrouserWash$Measures", "odd", "I", false)
  | 5 => ("TrouserWash$Measures", "gathered", "[I", true)
  | 6 => ("TrouserWash$Measures", "ordered", "[I", true)
  | 7 => ("TrouserWash$Measures", "packBegins", "[I", true)
  | 8 => ("TrouserWash$Measures", "places", "[I", true)
  | _ => ("TrouserWash$Measures", "gatheredSize", "I", false)
def tyX6 : Nat → FieldType := fun k => match k with
  | 0 => .array .int
  | 1 => .array .int
  | 2 => .array .int
  | 3 => .int
  | 4 => .int
  | 5 => .array .int
  | 6 => .array .int
  | 7 => .array .int
  | 8 => .array .int
  | _ => .int
abbrev wsX60 : List Cond := u_ws RX6 TX6 10
theorem nmX6 : ∀ a, a < 10 → ∀ b, b < 10 → a ≠ b → (TX6 a).2.1 ≠ (TX6 b).2.1 := by decide +kernel
theorem tyX6_ok : ∀ k, k < 10 → parseFieldDescriptor (TX6 k).2.2.1 = some (tyX6 k) := by decide +kernel
abbrev cX6_init : ByteArray := prog_8_method_1_code
def yX6_init : MethodName := ⟨RX6, "<init>", "()V"⟩
abbrev cX6_tell : ByteArray := prog_8_method_2_code
def yX6_tell : MethodName := ⟨RX6, "tell", "(III)I"⟩
abbrev cX6_shadeOn : ByteArray := prog_8_method_3_code
def yX6_shadeOn : MethodName := ⟨RX6, "shadeOn", "(II)I"⟩
abbrev cX6_gatherNone : ByteArray := prog_8_method_4_code
def yX6_gatherNone : MethodName := ⟨RX6, "gatherNone", "()V"⟩
abbrev cX6_gather : ByteArray := prog_8_method_5_code
def yX6_gather : MethodName := ⟨RX6, "gather", "(III)V"⟩
abbrev cX6_putInOrder : ByteArray := prog_8_method_6_code
def yX6_putInOrder : MethodName := ⟨RX6, "putInOrder", "()V"⟩
abbrev cX6_shadeOf : ByteArray := prog_8_method_7_code
def yX6_shadeOf : MethodName := ⟨RX6, "shadeOf", "(I)I"⟩
abbrev cX6_formPacks : ByteArray := prog_8_method_8_code
def yX6_formPacks : MethodName := ⟨RX6, "formPacks", "(II)I"⟩
abbrev cX6_packBegin : ByteArray := prog_8_method_9_code
def yX6_packBegin : MethodName := ⟨RX6, "packBegin", "(I)I"⟩
abbrev cX6_lotOf : ByteArray := prog_8_method_10_code
def yX6_lotOf : MethodName := ⟨RX6, "lotOf", "(I)I"⟩
abbrev cX6_pieceOf : ByteArray := prog_8_method_11_code
def yX6_pieceOf : MethodName := ⟨RX6, "pieceOf", "(I)I"⟩
def RX7 : String := "TrouserWash$Panels"
def TX7 : u_T := fun k => match k with
  | 0 => ("TrouserWash$Panels", "heats", "[I", true)
  | 1 => ("TrouserWash$Panels", "w", "I", false)
  | 2 => ("TrouserWash$Panels", "h", "I", false)
  | _ => ("TrouserWash$Panels", "burns", "[[I", true)
def tyX7 : Nat → FieldType := fun k => match k with
  | 0 => .array .int
  | 1 => .int
  | 2 => .int
  | _ => .array (.array .int)
abbrev wsX70 : List Cond := u_ws RX7 TX7 4
theorem nmX7 : ∀ a, a < 4 → ∀ b, b < 4 → a ≠ b → (TX7 a).2.1 ≠ (TX7 b).2.1 := by decide +kernel
theorem tyX7_ok : ∀ k, k < 4 → parseFieldDescriptor (TX7 k).2.2.1 = some (tyX7 k) := by decide +kernel
abbrev cX7_init : ByteArray := prog_9_method_1_code
def yX7_init : MethodName := ⟨RX7, "<init>", "()V"⟩
abbrev cX7_beginPattern : ByteArray := prog_9_method_2_code
def yX7_beginPattern : MethodName := ⟨RX7, "beginPattern", "(II)V"⟩
abbrev cX7_setHeat : ByteArray := prog_9_method_3_code
def yX7_setHeat : MethodName := ⟨RX7, "setHeat", "(III)Z"⟩
abbrev cX7_burnOne : ByteArray := prog_9_method_4_code
def yX7_burnOne : MethodName := ⟨RX7, "burnOne", "(III)V"⟩
abbrev cX7_heatAt : ByteArray := prog_9_method_5_code
def yX7_heatAt : MethodName := ⟨RX7, "heatAt", "(II)I"⟩
abbrev cX7_unlike : ByteArray := prog_9_method_6_code
def yX7_unlike : MethodName := ⟨RX7, "unlike", "(I)I"⟩
abbrev cX7_bestTurn : ByteArray := prog_9_method_7_code
def yX7_bestTurn : MethodName := ⟨RX7, "bestTurn", "()I"⟩
def RX8 : String := "TrouserWash$Recipe"
def TX8 : u_T := fun k => match k with
  | 0 => ("TrouserWash$Recipe", "baths", "[I", true)
  | 1 => ("TrouserWash$Recipe", "amounts", "[I", true)
  | _ => ("TrouserWash$Recipe", "length", "I", false)
def tyX8 : Nat → FieldType := fun k => match k with
  | 0 => .array .int
  | 1 => .array .int
  | _ => .int
abbrev wsX80 : List Cond := u_ws RX8 TX8 3
theorem nmX8 : ∀ a, a < 3 → ∀ b, b < 3 → a ≠ b → (TX8 a).2.1 ≠ (TX8 b).2.1 := by decide +kernel
theorem tyX8_ok : ∀ k, k < 3 → parseFieldDescriptor (TX8 k).2.2.1 = some (tyX8 k) := by decide +kernel
abbrev cX8_init : ByteArray := prog_10_method_1_code
def yX8_init : MethodName := ⟨RX8, "<init>", "(I)V"⟩
abbrev cX8_read : ByteArray := prog_10_method_2_code
def yX8_read : MethodName := ⟨RX8, "read", "(LTrouserWash$Text;)V"⟩
abbrev cX8_readBath : ByteArray := prog_10_method_3_code
def yX8_readBath : MethodName := ⟨RX8, "readBath", "(LTrouserWash$Text;)V"⟩
abbrev cX8_add : ByteArray := prog_10_method_4_code
def yX8_add : MethodName := ⟨RX8, "add", "(II)V"⟩
abbrev cX8_setOnly : ByteArray := prog_10_method_5_code
def yX8_setOnly : MethodName := ⟨RX8, "setOnly", "(II)V"⟩
abbrev cX8_copy : ByteArray := prog_10_method_6_code
def yX8_copy : MethodName := ⟨RX8, "copy", "(LTrouserWash$Recipe;)V"⟩
abbrev cX8_bathAt : ByteArray := prog_10_method_7_code
def yX8_bathAt : MethodName := ⟨RX8, "bathAt", "(I)I"⟩
abbrev cX8_amountAt : ByteArray := prog_10_method_8_code
def yX8_amountAt : MethodName := ⟨RX8, "amountAt", "(I)I"⟩
abbrev cX8_price : ByteArray := prog_10_method_9_code
def yX8_price : MethodName := ⟨RX8, "price", "()I"⟩
abbrev cX8_priceOf : ByteArray := prog_10_method_10_code
def yX8_priceOf : MethodName := ⟨RX8, "priceOf", "(II)I"⟩
abbrev cX8_soil : ByteArray := prog_10_method_11_code
def yX8_soil : MethodName := ⟨RX8, "soil", "(II)I"⟩
def RX9 : String := "TrouserWash$Search"
def TX9 : u_T := fun k => match k with
  | 0 => ("TrouserWash$Search", "looks", "[LTrouserWash$Look;", true)
  | 1 => ("TrouserWash$Search", "row", "[I", true)
  | 2 => ("TrouserWash$Search", "best", "[I", true)
  | 3 => ("TrouserWash$Search", "bestCost", "I", false)
  | 4 => ("TrouserWash$Search", "bestLength", "I", false)
  | 5 => ("TrouserWash$Search", "from", "I", false)
  | 6 => ("TrouserWash$Search", "to", "I", false)
  | _ => ("TrouserWash$Search", "strength", "I", false)
def tyX9 : Nat → FieldType := fun k => match k with
  | 0 => .array (.object "TrouserWash$Look")
  | 1 => .array .int
  | 2 => .array .int
  | 3 => .int
  | 4 => .int
  | 5 => .int
  | 6 => .int
  | _ => .int
abbrev wsX90 : List Cond := u_ws RX9 TX9 8
theorem nmX9 : ∀ a, a < 8 → ∀ b, b < 8 → a ≠ b → (TX9 a).2.1 ≠ (TX9 b).2.1 := by decide +kernel
theorem tyX9_ok : ∀ k, k < 8 → parseFieldDescriptor (TX9 k).2.2.1 = some (tyX9 k) := by decide +kernel
abbrev cX9_init : ByteArray := prog_11_method_1_code
def yX9_init : MethodName := ⟨RX9, "<init>", "()V"⟩
abbrev cX9_wishFor : ByteArray := prog_11_method_2_code
def yX9_wishFor : MethodName := ⟨RX9, "wishFor", "(III)V"⟩
abbrev cX9_run : ByteArray := prog_11_method_3_code
def yX9_run : MethodName := ⟨RX9, "run", "(LTrouserWash$Look;I)V"⟩
abbrev cX9_bestBath : ByteArray := prog_11_method_4_code
def yX9_bestBath : MethodName := ⟨RX9, "bestBath", "(I)I"⟩
abbrev cX9_descend : ByteArray := prog_11_method_5_code
def yX9_descend : MethodName := ⟨RX9, "descend", "(III)V"⟩
abbrev cX9_keepIfBetter : ByteArray := prog_11_method_6_code
def yX9_keepIfBetter : MethodName := ⟨RX9, "keepIfBetter", "(II)V"⟩
def RX10 : String := "TrouserWash$Text"
def TX10 : u_T := fun k => match k with
  | 0 => ("TrouserWash$Text", "bytes", "[B", true)
  | 1 => ("TrouserWash$Text", "length", "I", false)
  | 2 => ("TrouserWash$Text", "at", "I", false)
  | _ => ("TrouserWash$Text", "wrong", "I", false)
def tyX10 : Nat → FieldType := fun k => match k with
  | 0 => .array .byte
  | 1 => .int
  | 2 => .int
  | _ => .int
abbrev wsX100 : List Cond := u_ws RX10 TX10 4
theorem nmX10 : ∀ a, a < 4 → ∀ b, b < 4 → a ≠ b → (TX10 a).2.1 ≠ (TX10 b).2.1 := by decide +kernel
theorem tyX10_ok : ∀ k, k < 4 → parseFieldDescriptor (TX10 k).2.2.1 = some (tyX10 k) := by decide +kernel
abbrev cX10_init : ByteArray := prog_12_method_1_code
def yX10_init : MethodName := ⟨RX10, "<init>", "()V"⟩
abbrev cX10_hasRoom : ByteArray := prog_12_method_2_code
def yX10_hasRoom : MethodName := ⟨RX10, "hasRoom", "()Z"⟩
abbrev cX10_append : ByteArray := prog_12_method_3_code
def yX10_append : MethodName := ⟨RX10, "append", "(I)V"⟩
abbrev cX10_open : ByteArray := prog_12_method_4_code
def yX10_open : MethodName := ⟨RX10, "open", "()V"⟩
abbrev cX10_isBlank : ByteArray := prog_12_method_5_code
def yX10_isBlank : MethodName := ⟨RX10, "isBlank", "()Z"⟩
abbrev cX10_skipBlanks : ByteArray := prog_12_method_6_code
def yX10_skipBlanks : MethodName := ⟨RX10, "skipBlanks", "()V"⟩
abbrev cX10_refuseNext : ByteArray := prog_12_method_7_code
def yX10_refuseNext : MethodName := ⟨RX10, "refuseNext", "()V"⟩
abbrev cX10_refuse : ByteArray := prog_12_method_8_code
def yX10_refuse : MethodName := ⟨RX10, "refuse", "(I)V"⟩
abbrev cX10_pick : ByteArray := prog_12_method_9_code
def yX10_pick : MethodName := ⟨RX10, "pick", "(Ljava/lang/String;)I"⟩
abbrev cX10_placeAmong : ByteArray := prog_12_method_10_code
def yX10_placeAmong : MethodName := ⟨RX10, "placeAmong", "(Ljava/lang/String;I)I"⟩
abbrev cX10_number : ByteArray := prog_12_method_11_code
def yX10_number : MethodName := ⟨RX10, "number", "(III)I"⟩
abbrev cX10_goesOn : ByteArray := prog_12_method_12_code
def yX10_goesOn : MethodName := ⟨RX10, "goesOn", "()Z"⟩
def RX11 : String := "TrouserWash$Water"
def TX11 : u_T := fun k => match k with
  | 0 => ("TrouserWash$Water", "holds", "[I", true)
  | 1 => ("TrouserWash$Water", "litres", "[I", true)
  | 2 => ("TrouserWash$Water", "dirt", "[I", true)
  | 3 => ("TrouserWash$Water", "tanks", "I", false)
  | 4 => ("TrouserWash$Water", "fresh", "I", false)
  | 5 => ("TrouserWash$Water", "lastFresh", "I", false)
  | 6 => ("TrouserWash$Water", "ranOff", "I", false)
  | 7 => ("TrouserWash$Water", "drawnDirt", "I", false)
  | _ => ("TrouserWash$Water", "dirtOff", "I", false)
def tyX11 : Nat → FieldType := fun k => match k with
  | 0 => .array .int
  | 1 => .array .int
  | 2 => .array .int
  | 3 => .int
  | 4 => .int
  | 5 => .int
  | 6 => .int
  | 7 => .int
  | _ => .int
abbrev wsX110 : List Cond := u_ws RX11 TX11 9
theorem nmX11 : ∀ a, a < 9 → ∀ b, b < 9 → a ≠ b → (TX11 a).2.1 ≠ (TX11 b).2.1 := by decide +kernel
theorem tyX11_ok : ∀ k, k < 9 → parseFieldDescriptor (TX11 k).2.2.1 = some (tyX11 k) := by decide +kernel
abbrev cX11_init : ByteArray := prog_13_method_1_code
def yX11_init : MethodName := ⟨RX11, "<init>", "()V"⟩
abbrev cX11_add : ByteArray := prog_13_method_2_code
def yX11_add : MethodName := ⟨RX11, "add", "(I)I"⟩
abbrev cX11_part : ByteArray := prog_13_method_3_code
def yX11_part : MethodName := ⟨RX11, "part", "(II)I"⟩
abbrev cX11_dirtInTanks : ByteArray := prog_13_method_4_code
def yX11_dirtInTanks : MethodName := ⟨RX11, "dirtInTanks", "()I"⟩
abbrev cX11_takeOut : ByteArray := prog_13_method_5_code
def yX11_takeOut : MethodName := ⟨RX11, "takeOut", "(II)I"⟩
abbrev cX11_dirtiest : ByteArray := prog_13_method_6_code
def yX11_dirtiest : MethodName := ⟨RX11, "dirtiest", "(I)I"⟩
abbrev cX11_isDirtier : ByteArray := prog_13_method_7_code
def yX11_isDirtier : MethodName := ⟨RX11, "isDirtier", "(II)Z"⟩
abbrev cX11_partUp : ByteArray := prog_13_method_8_code
def yX11_partUp : MethodName := ⟨RX11, "partUp", "(III)I"⟩
abbrev cX11_putIn : ByteArray := prog_13_method_9_code
def yX11_putIn : MethodName := ⟨RX11, "putIn", "(III)I"⟩
abbrev cX11_runOff : ByteArray := prog_13_method_10_code
def yX11_runOff : MethodName := ⟨RX11, "runOff", "(II)V"⟩
abbrev cX11_giveBack : ByteArray := prog_13_method_11_code
def yX11_giveBack : MethodName := ⟨RX11, "giveBack", "(III)V"⟩
abbrev cX11_washOut : ByteArray := prog_13_method_12_code
def yX11_washOut : MethodName := ⟨RX11, "washOut", "(I)V"⟩
def RX12 : String := "TrouserWash"
def TX12 : u_T := fun k => match k with
  | 0 => ("TrouserWash", "text", "LTrouserWash$Text;", true)
  | 1 => ("TrouserWash", "cloths", "[LTrouserWash$Look;", true)
  | 2 => ("TrouserWash", "clothCount", "I", false)
  | 3 => ("TrouserWash", "recipe", "LTrouserWash$Recipe;", false)
  | 4 => ("TrouserWash", "spareRecipe", "LTrouserWash$Recipe;", false)
  | 5 => ("TrouserWash", "house", "LTrouserWash$House;", false)
  | 6 => ("TrouserWash", "spareHouse", "LTrouserWash$House;", false)
  | 7 => ("TrouserWash", "trial", "LTrouserWash$Look;", true)
  | 8 => ("TrouserWash", "search", "LTrouserWash$Search;", true)
  | 9 => ("TrouserWash", "kinds", "LTrouserWash$Kinds;", true)
  | 10 => ("TrouserWash", "water", "LTrouserWash$Water;", true)
  | 11 => ("TrouserWash", "garments", "LTrouserWash$Garments;", true)
  | 12 => ("TrouserWash", "machines", "[LTrouserWash$Machine;", true)
  | 13 => ("TrouserWash", "machineCount", "I", false)
  | 14 => ("TrouserWash", "lots", "Ljava/util/ArrayList;", true)
  | 15 => ("TrouserWash", "today", "I", false)
  | 16 => ("TrouserWash", "measures", "LTrouserWash$Measures;", true)
  | 17 => ("TrouserWash", "packsDelivered", "I", false)
  | 18 => ("TrouserWash", "latePieces", "I", false)
  | _ => ("TrouserWash", "panels", "LTrouserWash$Panels;", true)
def tyX12 : Nat → FieldType := fun k => match k with
  | 0 => .object "TrouserWash$Text"
  | 1 => .array (.object "TrouserWash$Look")
  | 2 => .int
  | 3 => .object "TrouserWash$Recipe"
  | 4 => .object "TrouserWash$Recipe"
  | 5 => .object "TrouserWash$House"
  | 6 => .object "TrouserWash$House"
  | 7 => .object "TrouserWash$Look"
  | 8 => .object "TrouserWash$Search"
  | 9 => .object "TrouserWash$Kinds"
  | 10 => .object "TrouserWash$Water"
  | 11 => .object "TrouserWash$Garments"
  | 12 => .array (.object "TrouserWash$Machine")
  | 13 => .int
  | 14 => .object "java/util/ArrayList"
  | 15 => .int
  | 16 => .object "TrouserWash$Measures"
  | 17 => .int
  | 18 => .int
  | _ => .object "TrouserWash$Panels"
abbrev wsX120 : List Cond := u_ws RX12 TX12 20
theorem nmX12 : ∀ a, a < 20 → ∀ b, b < 20 → a ≠ b → (TX12 a).2.1 ≠ (TX12 b).2.1 := by decide +kernel
theorem tyX12_ok : ∀ k, k < 20 → parseFieldDescriptor (TX12 k).2.2.1 = some (tyX12 k) := by decide +kernel
abbrev cX12_init : ByteArray := prog_1_method_1_code
def yX12_init : MethodName := ⟨RX12, "<init>", "()V"⟩
abbrev cX12_feed : ByteArray := prog_1_method_2_code
def yX12_feed : MethodName := ⟨RX12, "feed", "(IIIII)I"⟩
abbrev cX12_end : ByteArray := prog_1_method_3_code
def yX12_end : MethodName := ⟨RX12, "end", "(I)Z"⟩
abbrev cX12_cloth : ByteArray := prog_1_method_4_code
def yX12_cloth : MethodName := ⟨RX12, "cloth", "(III)I"⟩
abbrev cX12_recipe : ByteArray := prog_1_method_5_code
def yX12_recipe : MethodName := ⟨RX12, "recipe", "()I"⟩
abbrev cX12_fault : ByteArray := prog_1_method_6_code
def yX12_fault : MethodName := ⟨RX12, "fault", "()I"⟩
abbrev cX12_look : ByteArray := prog_1_method_7_code
def yX12_look : MethodName := ⟨RX12, "look", "(III)I"⟩
abbrev cX12_cost : ByteArray := prog_1_method_8_code
def yX12_cost : MethodName := ⟨RX12, "cost", "()I"⟩
abbrev cX12_meets : ByteArray := prog_1_method_9_code
def yX12_meets : MethodName := ⟨RX12, "meets", "(IIII)Z"⟩
abbrev cX12_cheapest : ByteArray := prog_1_method_10_code
def yX12_cheapest : MethodName := ⟨RX12, "cheapest", "(IIIII)I"⟩
abbrev cX12_bath : ByteArray := prog_1_method_11_code
def yX12_bath : MethodName := ⟨RX12, "bath", "(IIIIII)I"⟩
abbrev cX12_carry : ByteArray := prog_1_method_12_code
def yX12_carry : MethodName := ⟨RX12, "carry", "(III)V"⟩
abbrev cX12_batch : ByteArray := prog_1_method_13_code
def yX12_batch : MethodName := ⟨RX12, "batch", "(I)I"⟩
abbrev cX12_order : ByteArray := prog_1_method_14_code
def yX12_order : MethodName := ⟨RX12, "order", "()I"⟩
abbrev cX12_clear : ByteArray := prog_1_method_15_code
def yX12_clear : MethodName := ⟨RX12, "clear", "()I"⟩
abbrev cX12_tank : ByteArray := prog_1_method_16_code
def yX12_tank : MethodName := ⟨RX12, "tank", "(I)I"⟩
abbrev cX12_draw : ByteArray := prog_1_method_17_code
def yX12_draw : MethodName := ⟨RX12, "draw", "(II)I"⟩
abbrev cX12_pour : ByteArray := prog_1_method_18_code
def yX12_pour : MethodName := ⟨RX12, "pour", "(III)I"⟩
abbrev cX12_has : ByteArray := prog_1_method_19_code
def yX12_has : MethodName := ⟨RX12, "has", "(II)I"⟩
abbrev cX12_garment : ByteArray := prog_1_method_20_code
def yX12_garment : MethodName := ⟨RX12, "garment", "(I)I"⟩
abbrev cX12_spread : ByteArray := prog_1_method_21_code
def yX12_spread : MethodName := ⟨RX12, "spread", "(I)I"⟩
abbrev cX12_packs : ByteArray := prog_1_method_22_code
def yX12_packs : MethodName := ⟨RX12, "packs", "(IIZ)I"⟩
abbrev cX12_house : ByteArray := prog_1_method_23_code
def yX12_house : MethodName := ⟨RX12, "house", "()I"⟩
abbrev cX12_tells : ByteArray := prog_1_method_24_code
def yX12_tells : MethodName := ⟨RX12, "tells", "(I)I"⟩
abbrev cX12_machine : ByteArray := prog_1_method_25_code
def yX12_machine : MethodName := ⟨RX12, "machine", "(I)I"⟩
abbrev cX12_lot : ByteArray := prog_1_method_26_code
def yX12_lot : MethodName := ⟨RX12, "lot", "(IIIIIII)I"⟩
abbrev cX12_load : ByteArray := prog_1_method_27_code
def yX12_load : MethodName := ⟨RX12, "load", "(II)Z"⟩
abbrev cX12_days : ByteArray := prog_1_method_28_code
def yX12_days : MethodName := ⟨RX12, "days", "(I)I"⟩
abbrev cX12_led : ByteArray := prog_1_method_29_code
def yX12_led : MethodName := ⟨RX12, "led", "(II)I"⟩
abbrev cX12_works : ByteArray := prog_1_method_30_code
def yX12_works : MethodName := ⟨RX12, "works", "(II)I"⟩
abbrev cX12_measure : ByteArray := prog_1_method_31_code
def yX12_measure : MethodName := ⟨RX12, "measure", "(III)I"⟩
abbrev cX12_known : ByteArray := prog_1_method_32_code
def yX12_known : MethodName := ⟨RX12, "known", "(III)I"⟩
abbrev cX12_sorted : ByteArray := prog_1_method_33_code
def yX12_sorted : MethodName := ⟨RX12, "sorted", "(III)I"⟩
abbrev cX12_again : ByteArray := prog_1_method_34_code
def yX12_again : MethodName := ⟨RX12, "again", "(I)I"⟩
abbrev cX12_deliver : ByteArray := prog_1_method_35_code
def yX12_deliver : MethodName := ⟨RX12, "deliver", "(II)I"⟩
abbrev cX12_ready : ByteArray := prog_1_method_36_code
def yX12_ready : MethodName := ⟨RX12, "ready", "(I)I"⟩
abbrev cX12_pattern : ByteArray := prog_1_method_37_code
def yX12_pattern : MethodName := ⟨RX12, "pattern", "(II)V"⟩
abbrev cX12_heat : ByteArray := prog_1_method_38_code
def yX12_heat : MethodName := ⟨RX12, "heat", "(III)Z"⟩
abbrev cX12_burn : ByteArray := prog_1_method_39_code
def yX12_burn : MethodName := ⟨RX12, "burn", "(III)V"⟩
abbrev cX12_burned : ByteArray := prog_1_method_40_code
def yX12_burned : MethodName := ⟨RX12, "burned", "(III)I"⟩
abbrev cX12_seam : ByteArray := prog_1_method_41_code
def yX12_seam : MethodName := ⟨RX12, "seam", "(I)I"⟩
abbrev cX12_shift : ByteArray := prog_1_method_42_code
def yX12_shift : MethodName := ⟨RX12, "shift", "()I"⟩
abbrev cX12_count : ByteArray := prog_1_method_43_code
def yX12_count : MethodName := ⟨RX12, "count", "(I)I"⟩
abbrev cX12_within : ByteArray := prog_1_method_44_code
def yX12_within : MethodName := ⟨RX12, "within", "(III)Z"⟩
abbrev cX12_need : ByteArray := prog_1_method_45_code
def yX12_need : MethodName := ⟨RX12, "need", "(Z)V"⟩
abbrev cX12_needIndex : ByteArray := prog_1_method_46_code
def yX12_needIndex : MethodName := ⟨RX12, "needIndex", "(II)V"⟩
abbrev cX12_needWhat : ByteArray := prog_1_method_47_code
def yX12_needWhat : MethodName := ⟨RX12, "needWhat", "(II)V"⟩
abbrev cX12_needRoom : ByteArray := prog_1_method_48_code
def yX12_needRoom : MethodName := ⟨RX12, "needRoom", "(II)V"⟩
abbrev cX12_needWish : ByteArray := prog_1_method_49_code
def yX12_needWish : MethodName := ⟨RX12, "needWish", "(III)V"⟩
abbrev cX12_needWashed : ByteArray := prog_1_method_50_code
def yX12_needWashed : MethodName := ⟨RX12, "needWashed", "(LTrouserWash$Lot;)V"⟩
abbrev cX12_lotAt : ByteArray := prog_1_method_51_code
def yX12_lotAt : MethodName := ⟨RX12, "lotAt", "(I)LTrouserWash$Lot;"⟩
abbrev cX12_addLot : ByteArray := prog_1_method_52_code
def yX12_addLot : MethodName := ⟨RX12, "addLot", "(LTrouserWash$Lot;)I"⟩
abbrev cX12_tryRecipe : ByteArray := prog_1_method_53_code
def yX12_tryRecipe : MethodName := ⟨RX12, "tryRecipe", "(II)V"⟩
abbrev cX12_searchFor : ByteArray := prog_1_method_54_code
def yX12_searchFor : MethodName := ⟨RX12, "searchFor", "(IIIII)V"⟩
abbrev cX12_workDay : ByteArray := prog_1_method_55_code
def yX12_workDay : MethodName := ⟨RX12, "workDay", "(LTrouserWash$Machine;)V"⟩
abbrev cX12_takeNext : ByteArray := prog_1_method_56_code
def yX12_takeNext : MethodName := ⟨RX12, "takeNext", "(LTrouserWash$Machine;I)I"⟩
abbrev cX12_firstNotBarred : ByteArray := prog_1_method_57_code
def yX12_firstNotBarred : MethodName := ⟨RX12, "firstNotBarred", "(LTrouserWash$Machine;)I"⟩
abbrev cX12_doNextBath : ByteArray := prog_1_method_58_code
def yX12_doNextBath : MethodName := ⟨RX12, "doNextBath", "(LTrouserWash$Machine;I)I"⟩
abbrev cX12_finishIfNoneLeft : ByteArray := prog_1_method_59_code
def yX12_finishIfNoneLeft : MethodName := ⟨RX12, "finishIfNoneLeft", "(LTrouserWash$Machine;LTrouserWash$Lot;)V"⟩
abbrev cX12_countWashed : ByteArray := prog_1_method_60_code
def yX12_countWashed : MethodName := ⟨RX12, "countWashed", "()I"⟩
abbrev cX12_judged : ByteArray := prog_1_method_61_code
def yX12_judged : MethodName := ⟨RX12, "judged", "(LTrouserWash$Lot;II)I"⟩
abbrev cX12_moveDark : ByteArray := prog_1_method_62_code
def yX12_moveDark : MethodName := ⟨RX12, "moveDark", "(LTrouserWash$Lot;LTrouserWash$Look;)V"⟩
abbrev cX12_findPacks : ByteArray := prog_1_method_63_code
def yX12_findPacks : MethodName := ⟨RX12, "findPacks", "(I)I"⟩
abbrev cX12_gatherGood : ByteArray := prog_1_method_64_code
def yX12_gatherGood : MethodName := ⟨RX12, "gatherGood", "(ILTrouserWash$Lot;)V"⟩
abbrev cX12_deliverPack : ByteArray := prog_1_method_65_code
def yX12_deliverPack : MethodName := ⟨RX12, "deliverPack", "(I)I"⟩
def RX13 : String := "TrouserWashModel"
def TX13 : u_T := fun k => match k with
  | 0 => ("TrouserWashModel", "thrown", "I", false)
  | 1 => ("TrouserWashModel", "tape", "[B", true)
  | 2 => ("TrouserWashModel", "taped", "I", false)
  | 3 => ("TrouserWashModel", "point", "I", false)
  | 4 => ("TrouserWashModel", "end", "I", false)
  | 5 => ("TrouserWashModel", "begin", "I", false)
  | 6 => ("TrouserWashModel", "faultAt", "I", false)
  | 7 => ("TrouserWashModel", "five", "[I", true)
  | 8 => ("TrouserWashModel", "baths", "[I", true)
  | 9 => ("TrouserWashModel", "sort", "[I", true)
  | 10 => ("TrouserWashModel", "strong", "[I", true)
  | 11 => ("TrouserWashModel", "shade", "[I", true)
  | 12 => ("TrouserWashModel", "strength", "[I", true)
  | 13 => ("TrouserWashModel", "hard", "[I", true)
  | 14 => ("TrouserWashModel", "cloths", "I", false)
  | 15 => ("TrouserWashModel", "look", "[I", true)
  | 16 => ("TrouserWashModel", "way", "[I", true)
  | 17 => ("TrouserWashModel", "bestWay", "[I", true)
  | 18 => ("TrouserWashModel", "bestCost", "I", false)
  | 19 => ("TrouserWashModel", "bestMany", "I", false)
  | 20 => ("TrouserWashModel", "wFrom", "I", false)
  | 21 => ("TrouserWashModel", "wTo", "I", false)
  | 22 => ("TrouserWashModel", "wStrength", "I", false)
  | 23 => ("TrouserWashModel", "carry", "[I", true)
  | 24 => ("TrouserWashModel", "batch", "[I", true)
  | 25 => ("TrouserWashModel", "batches", "I", false)
  | 26 => ("TrouserWashModel", "least", "[I", true)
  | 27 => ("TrouserWashModel", "hold", "[I", true)
  | 28 => ("TrouserWashModel", "water", "[I", true)
  | 29 => ("TrouserWashModel", "dirt", "[I", true)
  | 30 => ("TrouserWashModel", "tanks", "I", false)
  | 31 => ("TrouserWashModel", "fresh", "I", false)
  | 32 => ("TrouserWashModel", "ranOff", "I", false)
  | 33 => ("TrouserWashModel", "dirtDrawn", "I", false)
  | 34 => ("TrouserWashModel", "dirtOff", "I", false)
  | 35 => ("TrouserWashModel", "lastFresh", "I", false)
  | 36 => ("TrouserWashModel", "lastDirt", "I", false)
  | 37 => ("TrouserWashModel", "lastOff", "I", false)
  | 38 => ("TrouserWashModel", "garment", "[I", true)
  | 39 => ("TrouserWashModel", "garments", "I", false)
  | 40 => ("TrouserWashModel", "says", "[I", true)
  | 41 => ("TrouserWashModel", "rules", "I", false)
  | 42 => ("TrouserWashModel", "today", "I", false)
  | 43 => ("TrouserWashModel", "holds", "[I", true)
  | 44 => ("TrouserWashModel", "inside", "[I", true)
  | 45 => ("TrouserWashModel", "lastKind", "[I", true)
  | 46 => ("TrouserWashModel", "minutes", "[I", true)
  | 47 => ("TrouserWashModel", "machines", "I", false)
  | 48 => ("TrouserWashModel", "lCloth", "[I", true)
  | 49 => ("TrouserWashModel", "lPieces", "[I", true)
  | 50 => ("TrouserWashModel", "lKind", "[I", true)
  | 51 => ("TrouserWashModel", "lFrom", "[I", true)
  | 52 => ("TrouserWashModel", "lTo", "[I", true)
  | 53 => ("TrouserWashModel", "lStrength", "[I", true)
  | 54 => ("TrouserWashModel", "lDue", "[I", true)
  | 55 => ("TrouserWashModel", "lState", "[I", true)
  | 56 => ("TrouserWashModel", "lMachine", "[I", true)
  | 57 => ("TrouserWashModel", "lDone", "[I", true)
  | 58 => ("TrouserWashModel", "lDay", "[I", true)
  | 59 => ("TrouserWashModel", "lOf", "[I", true)
  | 60 => ("TrouserWashModel", "lTimes", "[I", true)
  | 61 => ("TrouserWashModel", "lTurn", "[I", true)
  | 62 => ("TrouserWashModel", "lots", "I", false)
  | 63 => ("TrouserWashModel", "loadings", "I", false)
  | 64 => ("TrouserWashModel", "piece", "[I", true)
  | 65 => ("TrouserWashModel", "mLot", "[I", true)
  | 66 => ("TrouserWashModel", "mPiece", "[I", true)
  | 67 => ("TrouserWashModel", "mShade", "[I", true)
  | 68 => ("TrouserWashModel", "mDay", "[I", true)
  | 69 => ("TrouserWashModel", "measures", "I", false)
  | 70 => ("TrouserWashModel", "odds", "I", false)
  | 71 => ("TrouserWashModel", "those", "[I", true)
  | 72 => ("TrouserWashModel", "theirs", "[I", true)
  | 73 => ("TrouserWashModel", "many", "I", false)
  | 74 => ("TrouserWashModel", "packed", "I", false)
  | 75 => ("TrouserWashModel", "late", "I", false)
  | 76 => ("TrouserWashModel", "pWide", "I", false)
  | 77 => ("TrouserWashModel", "pHigh", "I", false)
  | 78 => ("TrouserWashModel", "heat", "[I", true)
  | _ => ("TrouserWashModel", "burn", "[I", true)
def tyX13 : Nat → FieldType := fun k => match k with
  | 0 => .int
  | 1 => .array .byte
  | 2 => .int
  | 3 => .int
  | 4 => .int
  | 5 => .int
  | 6 => .int
  | 7 => .array .int
  | 8 => .array .int
  | 9 => .array .int
  | 10 => .array .int
  | 11 => .array .int
  | 12 => .array .int
  | 13 => .array .int
  | 14 => .int
  | 15 => .array .int
  | 16 => .array .int
  | 17 => .array .int
  | 18 => .int
  | 19 => .int
  | 20 => .int
  | 21 => .int
  | 22 => .int
  | 23 => .array .int
  | 24 => .array .int
  | 25 => .int
  | 26 => .array .int
  | 27 => .array .int
  | 28 => .array .int
  | 29 => .array .int
  | 30 => .int
  | 31 => .int
  | 32 => .int
  | 33 => .int
  | 34 => .int
  | 35 => .int
  | 36 => .int
  | 37 => .int
  | 38 => .array .int
  | 39 => .int
  | 40 => .array .int
  | 41 => .int
  | 42 => .int
  | 43 => .array .int
  | 44 => .array .int
  | 45 => .array .int
  | 46 => .array .int
  | 47 => .int
  | 48 => .array .int
  | 49 => .array .int
  | 50 => .array .int
  | 51 => .array .int
  | 52 => .array .int
  | 53 => .array .int
  | 54 => .array .int
  | 55 => .array .int
  | 56 => .array .int
  | 57 => .array .int
  | 58 => .array .int
  | 59 => .array .int
  | 60 => .array .int
  | 61 => .array .int
  | 62 => .int
  | 63 => .int
  | 64 => .array .int
  | 65 => .array .int
  | 66 => .array .int
  | 67 => .array .int
  | 68 => .array .int
  | 69 => .int
  | 70 => .int
  | 71 => .array .int
  | 72 => .array .int
  | 73 => .int
  | 74 => .int
  | 75 => .int
  | 76 => .int
  | 77 => .int
  | 78 => .array .int
  | _ => .array .int
abbrev wsX130 : List Cond := u_ws RX13 TX13 80
theorem nmX13 : ∀ a, a < 80 → ∀ b, b < 80 → a ≠ b → (TX13 a).2.1 ≠ (TX13 b).2.1 := by decide +kernel
theorem tyX13_ok : ∀ k, k < 80 → parseFieldDescriptor (TX13 k).2.2.1 = some (tyX13 k) := by decide +kernel
abbrev cX13_init : ByteArray := prog_15_method_1_code
def yX13_init : MethodName := ⟨RX13, "<init>", "()V"⟩
abbrev cX13_thrown : ByteArray := prog_15_method_2_code
def yX13_thrown : MethodName := ⟨RX13, "thrown", "()I"⟩
abbrev cX13_throwsIf : ByteArray := prog_15_method_3_code
def yX13_throwsIf : MethodName := ⟨RX13, "throwsIf", "(ZI)Z"⟩
abbrev cX13_in : ByteArray := prog_15_method_4_code
def yX13_in : MethodName := ⟨RX13, "in", "(III)Z"⟩
abbrev cX13_feed : ByteArray := prog_15_method_5_code
def yX13_feed : MethodName := ⟨RX13, "feed", "(IIIII)I"⟩
abbrev cX13_end : ByteArray := prog_15_method_6_code
def yX13_end : MethodName := ⟨RX13, "end", "(I)Z"⟩
abbrev cX13_uses : ByteArray := prog_15_method_7_code
def yX13_uses : MethodName := ⟨RX13, "uses", "()V"⟩
abbrev cX13_isAt : ByteArray := prog_15_method_8_code
def yX13_isAt : MethodName := ⟨RX13, "isAt", "(II)Z"⟩
abbrev cX13_blanks : ByteArray := prog_15_method_9_code
def yX13_blanks : MethodName := ⟨RX13, "blanks", "()V"⟩
abbrev cX13_word : ByteArray := prog_15_method_10_code
def yX13_word : MethodName := ⟨RX13, "word", "()V"⟩
abbrev cX13_isWord : ByteArray := prog_15_method_11_code
def yX13_isWord : MethodName := ⟨RX13, "isWord", "(Ljava/lang/String;)Z"⟩
abbrev cX13_number : ByteArray := prog_15_method_12_code
def yX13_number : MethodName := ⟨RX13, "number", "(III)I"⟩
abbrev cX13_bathOf : ByteArray := prog_15_method_13_code
def yX13_bathOf : MethodName := ⟨RX13, "bathOf", "()I"⟩
abbrev cX13_readBath : ByteArray := prog_15_method_14_code
def yX13_readBath : MethodName := ⟨RX13, "readBath", "()I"⟩
abbrev cX13_readRecipe : ByteArray := prog_15_method_15_code
def yX13_readRecipe : MethodName := ⟨RX13, "readRecipe", "()Z"⟩
abbrev cX13_copies : ByteArray := prog_15_method_16_code
def yX13_copies : MethodName := ⟨RX13, "copies", "(II)V"⟩
abbrev cX13_recipe : ByteArray := prog_15_method_17_code
def yX13_recipe : MethodName := ⟨RX13, "recipe", "()I"⟩
abbrev cX13_fault : ByteArray := prog_15_method_18_code
def yX13_fault : MethodName := ⟨RX13, "fault", "()I"⟩
abbrev cX13_noCloth : ByteArray := prog_15_method_19_code
def yX13_noCloth : MethodName := ⟨RX13, "noCloth", "(I)Z"⟩
abbrev cX13_cloth : ByteArray := prog_15_method_20_code
def yX13_cloth : MethodName := ⟨RX13, "cloth", "(III)I"⟩
abbrev cX13_begins : ByteArray := prog_15_method_21_code
def yX13_begins : MethodName := ⟨RX13, "begins", "(II)V"⟩
abbrev cX13_less : ByteArray := prog_15_method_22_code
def yX13_less : MethodName := ⟨RX13, "less", "(III)V"⟩
abbrev cX13_does : ByteArray := prog_15_method_23_code
def yX13_does : MethodName := ⟨RX13, "does", "(IIII)V"⟩
abbrev cX13_tries : ByteArray := prog_15_method_24_code
def yX13_tries : MethodName := ⟨RX13, "tries", "(II)V"⟩
abbrev cX13_look : ByteArray := prog_15_method_25_code
def yX13_look : MethodName := ⟨RX13, "look", "(III)I"⟩
abbrev cX13_costOf : ByteArray := prog_15_method_26_code
def yX13_costOf : MethodName := ⟨RX13, "costOf", "(II)I"⟩
abbrev cX13_cost : ByteArray := prog_15_method_27_code
def yX13_cost : MethodName := ⟨RX13, "cost", "()I"⟩
abbrev cX13_noWish : ByteArray := prog_15_method_28_code
def yX13_noWish : MethodName := ⟨RX13, "noWish", "(III)Z"⟩
abbrev cX13_meetsIt : ByteArray := prog_15_method_29_code
def yX13_meetsIt : MethodName := ⟨RX13, "meetsIt", "(IIII)Z"⟩
abbrev cX13_meets : ByteArray := prog_15_method_30_code
def yX13_meets : MethodName := ⟨RX13, "meets", "(IIII)Z"⟩
abbrev cX13_usual : ByteArray := prog_15_method_31_code
def yX13_usual : MethodName := ⟨RX13, "usual", "(I)I"⟩
abbrev cX13_seeks : ByteArray := prog_15_method_32_code
def yX13_seeks : MethodName := ⟨RX13, "seeks", "(IIII)V"⟩
abbrev cX13_cheapestOf : ByteArray := prog_15_method_33_code
def yX13_cheapestOf : MethodName := ⟨RX13, "cheapestOf", "(IIIII)Z"⟩
abbrev cX13_cheapest : ByteArray := prog_15_method_34_code
def yX13_cheapest : MethodName := ⟨RX13, "cheapest", "(IIIII)I"⟩
abbrev cX13_bath : ByteArray := prog_15_method_35_code
def yX13_bath : MethodName := ⟨RX13, "bath", "(IIIIII)I"⟩
abbrev cX13_noKind : ByteArray := prog_15_method_36_code
def yX13_noKind : MethodName := ⟨RX13, "noKind", "(I)Z"⟩
abbrev cX13_carry : ByteArray := prog_15_method_37_code
def yX13_carry : MethodName := ⟨RX13, "carry", "(III)V"⟩
abbrev cX13_batch : ByteArray := prog_15_method_38_code
def yX13_batch : MethodName := ⟨RX13, "batch", "(I)I"⟩
abbrev cX13_order : ByteArray := prog_15_method_39_code
def yX13_order : MethodName := ⟨RX13, "order", "()I"⟩
abbrev cX13_clear : ByteArray := prog_15_method_40_code
def yX13_clear : MethodName := ⟨RX13, "clear", "()I"⟩
abbrev cX13_tank : ByteArray := prog_15_method_41_code
def yX13_tank : MethodName := ⟨RX13, "tank", "(I)I"⟩
abbrev cX13_dirtiest : ByteArray := prog_15_method_42_code
def yX13_dirtiest : MethodName := ⟨RX13, "dirtiest", "(I)I"⟩
abbrev cX13_draws : ByteArray := prog_15_method_43_code
def yX13_draws : MethodName := ⟨RX13, "draws", "(II)V"⟩
abbrev cX13_pours : ByteArray := prog_15_method_44_code
def yX13_pours : MethodName := ⟨RX13, "pours", "(III)V"⟩
abbrev cX13_draw : ByteArray := prog_15_method_45_code
def yX13_draw : MethodName := ⟨RX13, "draw", "(II)I"⟩
abbrev cX13_pour : ByteArray := prog_15_method_46_code
def yX13_pour : MethodName := ⟨RX13, "pour", "(III)I"⟩
abbrev cX13_has : ByteArray := prog_15_method_47_code
def yX13_has : MethodName := ⟨RX13, "has", "(II)I"⟩
abbrev cX13_garment : ByteArray := prog_15_method_48_code
def yX13_garment : MethodName := ⟨RX13, "garment", "(I)I"⟩
abbrev cX13_sortsFor : ByteArray := prog_15_method_49_code
def yX13_sortsFor : MethodName := ⟨RX13, "sortsFor", "(I)I"⟩
abbrev cX13_spread : ByteArray := prog_15_method_50_code
def yX13_spread : MethodName := ⟨RX13, "spread", "(I)I"⟩
abbrev cX13_packs : ByteArray := prog_15_method_51_code
def yX13_packs : MethodName := ⟨RX13, "packs", "(IIZ)I"⟩
abbrev cX13_asAtFirst : ByteArray := prog_15_method_52_code
def yX13_asAtFirst : MethodName := ⟨RX13, "asAtFirst", "()V"⟩
abbrev cX13_sets : ByteArray := prog_15_method_53_code
def yX13_sets : MethodName := ⟨RX13, "sets", "(III)Z"⟩
abbrev cX13_readPours : ByteArray := prog_15_method_54_code
def yX13_readPours : MethodName := ⟨RX13, "readPours", "()Z"⟩
abbrev cX13_readAgain : ByteArray := prog_15_method_55_code
def yX13_readAgain : MethodName := ⟨RX13, "readAgain", "()Z"⟩
abbrev cX13_readRule : ByteArray := prog_15_method_56_code
def yX13_readRule : MethodName := ⟨RX13, "readRule", "(I)Z"⟩
abbrev cX13_readHouse : ByteArray := prog_15_method_57_code
def yX13_readHouse : MethodName := ⟨RX13, "readHouse", "()I"⟩
abbrev cX13_house : ByteArray := prog_15_method_58_code
def yX13_house : MethodName := ⟨RX13, "house", "()I"⟩
abbrev cX13_tells : ByteArray := prog_15_method_59_code
def yX13_tells : MethodName := ⟨RX13, "tells", "(I)I"⟩
abbrev cX13_noLot : ByteArray := prog_15_method_60_code
def yX13_noLot : MethodName := ⟨RX13, "noLot", "(I)Z"⟩
abbrev cX13_noMachine : ByteArray := prog_15_method_61_code
def yX13_noMachine : MethodName := ⟨RX13, "noMachine", "(I)Z"⟩
abbrev cX13_machine : ByteArray := prog_15_method_62_code
def yX13_machine : MethodName := ⟨RX13, "machine", "(I)I"⟩
abbrev cX13_adds : ByteArray := prog_15_method_63_code
def yX13_adds : MethodName := ⟨RX13, "adds", "(IIIIIII)I"⟩
abbrev cX13_lot : ByteArray := prog_15_method_64_code
def yX13_lot : MethodName := ⟨RX13, "lot", "(IIIIIII)I"⟩
abbrev cX13_load : ByteArray := prog_15_method_65_code
def yX13_load : MethodName := ⟨RX13, "load", "(II)Z"⟩
abbrev cX13_nextFor : ByteArray := prog_15_method_66_code
def yX13_nextFor : MethodName := ⟨RX13, "nextFor", "(I)I"⟩
abbrev cX13_bathes : ByteArray := prog_15_method_67_code
def yX13_bathes : MethodName := ⟨RX13, "bathes", "(I)V"⟩
abbrev cX13_washes : ByteArray := prog_15_method_68_code
def yX13_washes : MethodName := ⟨RX13, "washes", "(I)V"⟩
abbrev cX13_step : ByteArray := prog_15_method_69_code
def yX13_step : MethodName := ⟨RX13, "step", "(II)I"⟩
abbrev cX13_days : ByteArray := prog_15_method_70_code
def yX13_days : MethodName := ⟨RX13, "days", "(I)I"⟩
abbrev cX13_piecesOf : ByteArray := prog_15_method_71_code
def yX13_piecesOf : MethodName := ⟨RX13, "piecesOf", "(II)I"⟩
abbrev cX13_led : ByteArray := prog_15_method_72_code
def yX13_led : MethodName := ⟨RX13, "led", "(II)I"⟩
abbrev cX13_works : ByteArray := prog_15_method_73_code
def yX13_works : MethodName := ⟨RX13, "works", "(II)I"⟩
abbrev cX13_noPiece : ByteArray := prog_15_method_74_code
def yX13_noPiece : MethodName := ⟨RX13, "noPiece", "(II)Z"⟩
abbrev cX13_measure : ByteArray := prog_15_method_75_code
def yX13_measure : MethodName := ⟨RX13, "measure", "(III)I"⟩
abbrev cX13_shadeOf : ByteArray := prog_15_method_76_code
def yX13_shadeOf : MethodName := ⟨RX13, "shadeOf", "(III)I"⟩
abbrev cX13_knownOf : ByteArray := prog_15_method_77_code
def yX13_knownOf : MethodName := ⟨RX13, "knownOf", "(III)I"⟩
abbrev cX13_known : ByteArray := prog_15_method_78_code
def yX13_known : MethodName := ⟨RX13, "known", "(III)I"⟩
abbrev cX13_sortedOf : ByteArray := prog_15_method_79_code
def yX13_sortedOf : MethodName := ⟨RX13, "sortedOf", "(III)I"⟩
abbrev cX13_sorted : ByteArray := prog_15_method_80_code
def yX13_sorted : MethodName := ⟨RX13, "sorted", "(III)I"⟩
abbrev cX13_again : ByteArray := prog_15_method_81_code
def yX13_again : MethodName := ⟨RX13, "again", "(I)I"⟩
abbrev cX13_gathers : ByteArray := prog_15_method_82_code
def yX13_gathers : MethodName := ⟨RX13, "gathers", "(I)V"⟩
abbrev cX13_packsOf : ByteArray := prog_15_method_83_code
def yX13_packsOf : MethodName := ⟨RX13, "packsOf", "(I)I"⟩
abbrev cX13_deliver : ByteArray := prog_15_method_84_code
def yX13_deliver : MethodName := ⟨RX13, "deliver", "(II)I"⟩
abbrev cX13_ready : ByteArray := prog_15_method_85_code
def yX13_ready : MethodName := ⟨RX13, "ready", "(I)I"⟩
abbrev cX13_pattern : ByteArray := prog_15_method_86_code
def yX13_pattern : MethodName := ⟨RX13, "pattern", "(II)V"⟩
abbrev cX13_heat : ByteArray := prog_15_method_87_code
def yX13_heat : MethodName := ⟨RX13, "heat", "(III)Z"⟩
abbrev cX13_burn : ByteArray := prog_15_method_88_code
def yX13_burn : MethodName := ⟨RX13, "burn", "(III)V"⟩
abbrev cX13_burned : ByteArray := prog_15_method_89_code
def yX13_burned : MethodName := ⟨RX13, "burned", "(III)I"⟩
abbrev cX13_seamOf : ByteArray := prog_15_method_90_code
def yX13_seamOf : MethodName := ⟨RX13, "seamOf", "(I)I"⟩
abbrev cX13_seam : ByteArray := prog_15_method_91_code
def yX13_seam : MethodName := ⟨RX13, "seam", "(I)I"⟩
abbrev cX13_shift : ByteArray := prog_15_method_92_code
def yX13_shift : MethodName := ⟨RX13, "shift", "()I"⟩
abbrev cX13_count : ByteArray := prog_15_method_93_code
def yX13_count : MethodName := ⟨RX13, "count", "(I)I"⟩
def RJx145de : String := "java/io/Serializable"
def TJx145de : u_T := fun k => match k with
  | _ => ("", "", "", false)
def tyJx145de : Nat → FieldType := fun k => match k with
  | _ => .int
abbrev wsJx145de0 : List Cond := u_ws RJx145de TJx145de 0
theorem nmJx145de : ∀ a, a < 0 → ∀ b, b < 0 → a ≠ b → (TJx145de a).2.1 ≠ (TJx145de b).2.1 := by decide +kernel
theorem tyJx145de_ok : ∀ k, k < 0 → parseFieldDescriptor (TJx145de k).2.2.1 = some (tyJx145de k) := by decide +kernel
def RJx8e188 : String := "java/lang/Cloneable"
def TJx8e188 : u_T := fun k => match k with
  | _ => ("", "", "", false)
def tyJx8e188 : Nat → FieldType := fun k => match k with
  | _ => .int
abbrev wsJx8e1880 : List Cond := u_ws RJx8e188 TJx8e188 0
theorem nmJx8e188 : ∀ a, a < 0 → ∀ b, b < 0 → a ≠ b → (TJx8e188 a).2.1 ≠ (TJx8e188 b).2.1 := by decide +kernel
theorem tyJx8e188_ok : ∀ k, k < 0 → parseFieldDescriptor (TJx8e188 k).2.2.1 = some (tyJx8e188 k) := by decide +kernel
def RJxab1ab : String := "java/lang/Iterable"
def TJxab1ab : u_T := fun k => match k with
  | _ => ("", "", "", false)
def tyJxab1ab : Nat → FieldType := fun k => match k with
  | _ => .int
abbrev wsJxab1ab0 : List Cond := u_ws RJxab1ab TJxab1ab 0
theorem nmJxab1ab : ∀ a, a < 0 → ∀ b, b < 0 → a ≠ b → (TJxab1ab a).2.1 ≠ (TJxab1ab b).2.1 := by decide +kernel
theorem tyJxab1ab_ok : ∀ k, k < 0 → parseFieldDescriptor (TJxab1ab k).2.2.1 = some (tyJxab1ab k) := by decide +kernel
def RJ9 : String := "java/lang/Math"
def TJ9 : u_T := fun k => match k with
  | _ => ("", "", "", false)
def tyJ9 : Nat → FieldType := fun k => match k with
  | _ => .int
abbrev wsJ90 : List Cond := u_ws RJ9 TJ9 0
theorem nmJ9 : ∀ a, a < 0 → ∀ b, b < 0 → a ≠ b → (TJ9 a).2.1 ≠ (TJ9 b).2.1 := by decide +kernel
theorem tyJ9_ok : ∀ k, k < 0 → parseFieldDescriptor (TJ9 k).2.2.1 = some (tyJ9 k) := by decide +kernel
abbrev cJ9_floorMod_7cf53 : ByteArray := prog_23_method_50_code
def yJ9_floorMod_7cf53 : MethodName := ⟨RJ9, "floorMod", "(II)I"⟩
abbrev cJ9_max_7cf53 : ByteArray := prog_23_method_65_code
def yJ9_max_7cf53 : MethodName := ⟨RJ9, "max", "(II)I"⟩
abbrev cJ9_min_7cf53 : ByteArray := prog_23_method_69_code
def yJ9_min_7cf53 : MethodName := ⟨RJ9, "min", "(II)I"⟩
def RJ0 : String := "java/lang/String"
def TJ0 : u_T := fun k => match k with
  | _ => ("", "", "", false)
def tyJ0 : Nat → FieldType := fun k => match k with
  | _ => .int
abbrev wsJ00 : List Cond := u_ws RJ0 TJ0 0
theorem nmJ0 : ∀ a, a < 0 → ∀ b, b < 0 → a ≠ b → (TJ0 a).2.1 ≠ (TJ0 b).2.1 := by decide +kernel
theorem tyJ0_ok : ∀ k, k < 0 → parseFieldDescriptor (TJ0 k).2.2.1 = some (tyJ0 k) := by decide +kernel
abbrev cJ0_length_8abf5 : ByteArray := prog_25_method_54_code
def yJ0_length_8abf5 : MethodName := ⟨RJ0, "length", "()I"⟩
abbrev cJ0_charAt_5068e : ByteArray := prog_25_method_56_code
def yJ0_charAt_5068e : MethodName := ⟨RJ0, "charAt", "(I)C"⟩
abbrev cJ0_coder_7d493 : ByteArray := prog_25_method_152_code
def yJ0_coder_7d493 : MethodName := ⟨RJ0, "coder", "()B"⟩
abbrev cJ0_isLatin1_aae02 : ByteArray := prog_25_method_154_code
def yJ0_isLatin1_aae02 : MethodName := ⟨RJ0, "isLatin1", "()Z"⟩
abbrev cJ0_checkIndex_df160 : ByteArray := prog_25_method_155_code
def yJ0_checkIndex_df160 : MethodName := ⟨RJ0, "checkIndex", "(II)V"⟩
def RJ1 : String := "java/lang/StringLatin1"
def TJ1 : u_T := fun k => match k with
  | _ => ("", "", "", false)
def tyJ1 : Nat → FieldType := fun k => match k with
  | _ => .int
abbrev wsJ10 : List Cond := u_ws RJ1 TJ1 0
theorem nmJ1 : ∀ a, a < 0 → ∀ b, b < 0 → a ≠ b → (TJ1 a).2.1 ≠ (TJ1 b).2.1 := by decide +kernel
theorem tyJ1_ok : ∀ k, k < 0 → parseFieldDescriptor (TJ1 k).2.2.1 = some (tyJ1 k) := by decide +kernel
abbrev cJ1_charAt_3b067 : ByteArray := prog_26_method_2_code
def yJ1_charAt_3b067 : MethodName := ⟨RJ1, "charAt", "([BI)C"⟩
def RJ2 : String := "java/lang/StringUTF16"
def TJ2 : u_T := fun k => match k with
  | _ => ("", "", "", false)
def tyJ2 : Nat → FieldType := fun k => match k with
  | _ => .int
abbrev wsJ20 : List Cond := u_ws RJ2 TJ2 0
theorem nmJ2 : ∀ a, a < 0 → ∀ b, b < 0 → a ≠ b → (TJ2 a).2.1 ≠ (TJ2 b).2.1 := by decide +kernel
theorem tyJ2_ok : ∀ k, k < 0 → parseFieldDescriptor (TJ2 k).2.2.1 = some (tyJ2 k) := by decide +kernel
abbrev cJ2_getChar_3b067 : ByteArray := prog_27_method_5_code
def yJ2_getChar_3b067 : MethodName := ⟨RJ2, "getChar", "([BI)C"⟩
abbrev cJ2_length_9d52b : ByteArray := prog_27_method_6_code
def yJ2_length_9d52b : MethodName := ⟨RJ2, "length", "([B)I"⟩
abbrev cJ2_charAt_3b067 : ByteArray := prog_27_method_83_code
def yJ2_charAt_3b067 : MethodName := ⟨RJ2, "charAt", "([BI)C"⟩
abbrev cJ2_checkIndex_2214a : ByteArray := prog_27_method_91_code
def yJ2_checkIndex_2214a : MethodName := ⟨RJ2, "checkIndex", "(I[B)V"⟩
def RJ10 : String := "java/lang/System"
def TJ10 : u_T := fun k => match k with
  | _ => ("", "", "", false)
def tyJ10 : Nat → FieldType := fun k => match k with
  | _ => .int
abbrev wsJ100 : List Cond := u_ws RJ10 TJ10 0
theorem nmJ10 : ∀ a, a < 0 → ∀ b, b < 0 → a ≠ b → (TJ10 a).2.1 ≠ (TJ10 b).2.1 := by decide +kernel
theorem tyJ10_ok : ∀ k, k < 0 → parseFieldDescriptor (TJ10 k).2.2.1 = some (tyJ10 k) := by decide +kernel
def RJxa1e45 : String := "java/util/AbstractCollection"
def TJxa1e45 : u_T := fun k => match k with
  | _ => ("", "", "", false)
def tyJxa1e45 : Nat → FieldType := fun k => match k with
  | _ => .int
abbrev wsJxa1e450 : List Cond := u_ws RJxa1e45 TJxa1e45 0
theorem nmJxa1e45 : ∀ a, a < 0 → ∀ b, b < 0 → a ≠ b → (TJxa1e45 a).2.1 ≠ (TJxa1e45 b).2.1 := by decide +kernel
theorem tyJxa1e45_ok : ∀ k, k < 0 → parseFieldDescriptor (TJxa1e45 k).2.2.1 = some (tyJxa1e45 k) := by decide +kernel
abbrev cJxa1e45_init_da8c8 : ByteArray := prog_31_method_1_code
def yJxa1e45_init_da8c8 : MethodName := ⟨RJxa1e45, "<init>", "()V"⟩
def RJxc12de : String := "java/util/AbstractList"
def TJxc12de : u_T := fun k => match k with
  | _ => ("", "", "", false)
def tyJxc12de : Nat → FieldType := fun k => match k with
  | _ => .int
abbrev wsJxc12de0 : List Cond := u_ws RJxc12de TJxc12de 0
theorem nmJxc12de : ∀ a, a < 0 → ∀ b, b < 0 → a ≠ b → (TJxc12de a).2.1 ≠ (TJxc12de b).2.1 := by decide +kernel
theorem tyJxc12de_ok : ∀ k, k < 0 → parseFieldDescriptor (TJxc12de k).2.2.1 = some (tyJxc12de k) := by decide +kernel
abbrev cJxc12de_init_da8c8 : ByteArray := prog_32_method_1_code
def yJxc12de_init_da8c8 : MethodName := ⟨RJxc12de, "<init>", "()V"⟩
def RJx4a65c : String := "java/util/ArrayList"
def TJx4a65c : u_T := fun k => match k with
  | 0 => ("java/util/AbstractList", "modCount", "I", false)
  | 1 => ("java/util/ArrayList", "elementData", "[Ljava/lang/Object;", false)
  | _ => ("java/util/ArrayList", "size", "I", false)
def tyJx4a65c : Nat → FieldType := fun k => match k with
  | 0 => .int
  | 1 => .array (.object "java/lang/Object")
  | _ => .int
abbrev wsJx4a65c0 : List Cond := u_ws RJx4a65c TJx4a65c 3
theorem nmJx4a65c : ∀ a, a < 3 → ∀ b, b < 3 → a ≠ b → (TJx4a65c a).2.1 ≠ (TJx4a65c b).2.1 := by decide +kernel
theorem tyJx4a65c_ok : ∀ k, k < 3 → parseFieldDescriptor (TJx4a65c k).2.2.1 = some (tyJx4a65c k) := by decide +kernel
abbrev cJx4a65c_init_da8c8 : ByteArray := prog_33_method_2_code
def yJx4a65c_init_da8c8 : MethodName := ⟨RJx4a65c, "<init>", "()V"⟩
abbrev cJx4a65c_grow_92f84 : ByteArray := prog_33_method_6_code
def yJx4a65c_grow_92f84 : MethodName := ⟨RJx4a65c, "grow", "(I)[Ljava/lang/Object;"⟩
abbrev cJx4a65c_grow_d5877 : ByteArray := prog_33_method_7_code
def yJx4a65c_grow_d5877 : MethodName := ⟨RJx4a65c, "grow", "()[Ljava/lang/Object;"⟩
abbrev cJx4a65c_size_8abf5 : ByteArray := prog_33_method_8_code
def yJx4a65c_size_8abf5 : MethodName := ⟨RJx4a65c, "size", "()I"⟩
abbrev cJx4a65c_elementData_915e3 : ByteArray := prog_33_method_18_code
def yJx4a65c_elementData_915e3 : MethodName := ⟨RJx4a65c, "elementData", "(I)Ljava/lang/Object;"⟩
abbrev cJx4a65c_get_915e3 : ByteArray := prog_33_method_20_code
def yJx4a65c_get_915e3 : MethodName := ⟨RJx4a65c, "get", "(I)Ljava/lang/Object;"⟩
abbrev cJx4a65c_add_72be8 : ByteArray := prog_33_method_24_code
def yJx4a65c_add_72be8 : MethodName := ⟨RJx4a65c, "add", "(Ljava/lang/Object;[Ljava/lang/Object;I)V"⟩
abbrev cJx4a65c_add_9ea2d : ByteArray := prog_33_method_25_code
def yJx4a65c_add_9ea2d : MethodName := ⟨RJx4a65c, "add", "(Ljava/lang/Object;)Z"⟩
def RJ7 : String := "java/util/Arrays"
def TJ7 : u_T := fun k => match k with
  | _ => ("", "", "", false)
def tyJ7 : Nat → FieldType := fun k => match k with
  | _ => .int
abbrev wsJ70 : List Cond := u_ws RJ7 TJ7 0
theorem nmJ7 : ∀ a, a < 0 → ∀ b, b < 0 → a ≠ b → (TJ7 a).2.1 ≠ (TJ7 b).2.1 := by decide +kernel
theorem tyJ7_ok : ∀ k, k < 0 → parseFieldDescriptor (TJ7 k).2.2.1 = some (tyJ7 k) := by decide +kernel
abbrev cJ7_fill_53178 : ByteArray := prog_34_method_103_code
def yJ7_fill_53178 : MethodName := ⟨RJ7, "fill", "([II)V"⟩
abbrev cJ7_copyOf_1904c : ByteArray := prog_34_method_119_code
def yJ7_copyOf_1904c : MethodName := ⟨RJ7, "copyOf", "([Ljava/lang/Object;I)[Ljava/lang/Object;"⟩
abbrev cJ7_copyOf_6403c : ByteArray := prog_34_method_120_code
def yJ7_copyOf_6403c : MethodName := ⟨RJ7, "copyOf", "([Ljava/lang/Object;ILjava/lang/Class;)[Ljava/lang/Object;"⟩
def RJx5ef63 : String := "java/util/Collection"
def TJx5ef63 : u_T := fun k => match k with
  | _ => ("", "", "", false)
def tyJx5ef63 : Nat → FieldType := fun k => match k with
  | _ => .int
abbrev wsJx5ef630 : List Cond := u_ws RJx5ef63 TJx5ef63 0
theorem nmJx5ef63 : ∀ a, a < 0 → ∀ b, b < 0 → a ≠ b → (TJx5ef63 a).2.1 ≠ (TJx5ef63 b).2.1 := by decide +kernel
theorem tyJx5ef63_ok : ∀ k, k < 0 → parseFieldDescriptor (TJx5ef63 k).2.2.1 = some (tyJx5ef63 k) := by decide +kernel
def RJxbd725 : String := "java/util/List"
def TJxbd725 : u_T := fun k => match k with
  | _ => ("", "", "", false)
def tyJxbd725 : Nat → FieldType := fun k => match k with
  | _ => .int
abbrev wsJxbd7250 : List Cond := u_ws RJxbd725 TJxbd725 0
theorem nmJxbd725 : ∀ a, a < 0 → ∀ b, b < 0 → a ≠ b → (TJxbd725 a).2.1 ≠ (TJxbd725 b).2.1 := by decide +kernel
theorem tyJxbd725_ok : ∀ k, k < 0 → parseFieldDescriptor (TJxbd725 k).2.2.1 = some (tyJxbd725 k) := by decide +kernel
def RJ15 : String := "java/util/Objects"
def TJ15 : u_T := fun k => match k with
  | _ => ("", "", "", false)
def tyJ15 : Nat → FieldType := fun k => match k with
  | _ => .int
abbrev wsJ150 : List Cond := u_ws RJ15 TJ15 0
theorem nmJ15 : ∀ a, a < 0 → ∀ b, b < 0 → a ≠ b → (TJ15 a).2.1 ≠ (TJ15 b).2.1 := by decide +kernel
theorem tyJ15_ok : ∀ k, k < 0 → parseFieldDescriptor (TJ15 k).2.2.1 = some (tyJ15 k) := by decide +kernel
abbrev cJ15_checkIndex_7cf53 : ByteArray := prog_38_method_17_code
def yJ15_checkIndex_7cf53 : MethodName := ⟨RJ15, "checkIndex", "(II)I"⟩
def RJxf0a74 : String := "java/util/RandomAccess"
def TJxf0a74 : u_T := fun k => match k with
  | _ => ("", "", "", false)
def tyJxf0a74 : Nat → FieldType := fun k => match k with
  | _ => .int
abbrev wsJxf0a740 : List Cond := u_ws RJxf0a74 TJxf0a74 0
theorem nmJxf0a74 : ∀ a, a < 0 → ∀ b, b < 0 → a ≠ b → (TJxf0a74 a).2.1 ≠ (TJxf0a74 b).2.1 := by decide +kernel
theorem tyJxf0a74_ok : ∀ k, k < 0 → parseFieldDescriptor (TJxf0a74 k).2.2.1 = some (tyJxf0a74 k) := by decide +kernel
def RJxa66e6 : String := "java/util/SequencedCollection"
def TJxa66e6 : u_T := fun k => match k with
  | _ => ("", "", "", false)
def tyJxa66e6 : Nat → FieldType := fun k => match k with
  | _ => .int
abbrev wsJxa66e60 : List Cond := u_ws RJxa66e6 TJxa66e6 0
theorem nmJxa66e6 : ∀ a, a < 0 → ∀ b, b < 0 → a ≠ b → (TJxa66e6 a).2.1 ≠ (TJxa66e6 b).2.1 := by decide +kernel
theorem tyJxa66e6_ok : ∀ k, k < 0 → parseFieldDescriptor (TJxa66e6 k).2.2.1 = some (tyJxa66e6 k) := by decide +kernel
def RJ8 : String := "jdk/internal/util/ArraysSupport"
def TJ8 : u_T := fun k => match k with
  | _ => ("", "", "", false)
def tyJ8 : Nat → FieldType := fun k => match k with
  | _ => .int
abbrev wsJ80 : List Cond := u_ws RJ8 TJ8 0
theorem nmJ8 : ∀ a, a < 0 → ∀ b, b < 0 → a ≠ b → (TJ8 a).2.1 ≠ (TJ8 b).2.1 := by decide +kernel
theorem tyJ8_ok : ∀ k, k < 0 → parseFieldDescriptor (TJ8 k).2.2.1 = some (tyJ8 k) := by decide +kernel
abbrev cJ8_newLength_cabcc : ByteArray := prog_41_method_27_code
def yJ8_newLength_cabcc : MethodName := ⟨RJ8, "newLength", "(III)I"⟩
abbrev cJ8_hugeLength_7cf53 : ByteArray := prog_41_method_28_code
def yJ8_hugeLength_7cf53 : MethodName := ⟨RJ8, "hugeLength", "(II)I"⟩
def RJ3 : String := "jdk/internal/util/Preconditions"
def TJ3 : u_T := fun k => match k with
  | _ => ("", "", "", false)
def tyJ3 : Nat → FieldType := fun k => match k with
  | _ => .int
abbrev wsJ30 : List Cond := u_ws RJ3 TJ3 0
theorem nmJ3 : ∀ a, a < 0 → ∀ b, b < 0 → a ≠ b → (TJ3 a).2.1 ≠ (TJ3 b).2.1 := by decide +kernel
theorem tyJ3_ok : ∀ k, k < 0 → parseFieldDescriptor (TJ3 k).2.2.1 = some (tyJ3 k) := by decide +kernel
abbrev cJ3_checkIndex_8e157 : ByteArray := prog_42_method_11_code
def yJ3_checkIndex_8e157 : MethodName := ⟨RJ3, "checkIndex", "(IILjava/util/function/BiFunction;)I"⟩
def RL : String := "TrouserWashLaw"
abbrev cL_cloth : ByteArray := method_3_code
def yL_cloth : MethodName := ⟨RL, "cloth", "(LTrouserWash;III[J)I"⟩
abbrev cL_recipe : ByteArray := method_4_code
def yL_recipe : MethodName := ⟨RL, "recipe", "(LTrouserWash;[J)I"⟩
abbrev cL_look : ByteArray := method_5_code
def yL_look : MethodName := ⟨RL, "look", "(LTrouserWash;III[J)I"⟩
abbrev cL_meets : ByteArray := method_6_code
def yL_meets : MethodName := ⟨RL, "meets", "(LTrouserWash;IIII[J)I"⟩
abbrev cL_cheapest : ByteArray := method_7_code
def yL_cheapest : MethodName := ⟨RL, "cheapest", "(LTrouserWash;IIIII[J)I"⟩
abbrev cL_bath : ByteArray := method_8_code
def yL_bath : MethodName := ⟨RL, "bath", "(LTrouserWash;IIIIII[J)I"⟩
abbrev cL_carry : ByteArray := method_9_code
def yL_carry : MethodName := ⟨RL, "carry", "(LTrouserWash;III)I"⟩
abbrev cL_batch : ByteArray := method_10_code
def yL_batch : MethodName := ⟨RL, "batch", "(LTrouserWash;I[J)I"⟩
abbrev cL_tank : ByteArray := method_11_code
def yL_tank : MethodName := ⟨RL, "tank", "(LTrouserWash;I[J)I"⟩
abbrev cL_draw : ByteArray := method_12_code
def yL_draw : MethodName := ⟨RL, "draw", "(LTrouserWash;II[J)I"⟩
abbrev cL_pour : ByteArray := method_13_code
def yL_pour : MethodName := ⟨RL, "pour", "(LTrouserWash;III[J)I"⟩
abbrev cL_has : ByteArray := method_14_code
def yL_has : MethodName := ⟨RL, "has", "(LTrouserWash;II[J)I"⟩
abbrev cL_garment : ByteArray := method_15_code
def yL_garment : MethodName := ⟨RL, "garment", "(LTrouserWash;I[J)I"⟩
abbrev cL_spread : ByteArray := method_16_code
def yL_spread : MethodName := ⟨RL, "spread", "(LTrouserWash;I[J)I"⟩
abbrev cL_packs : ByteArray := method_17_code
def yL_packs : MethodName := ⟨RL, "packs", "(LTrouserWash;IIZ[J)I"⟩
abbrev cL_house : ByteArray := method_18_code
def yL_house : MethodName := ⟨RL, "house", "(LTrouserWash;[J)I"⟩
abbrev cL_tells : ByteArray := method_19_code
def yL_tells : MethodName := ⟨RL, "tells", "(LTrouserWash;I[J)I"⟩
abbrev cL_machine : ByteArray := method_20_code
def yL_machine : MethodName := ⟨RL, "machine", "(LTrouserWash;I[J)I"⟩
abbrev cL_lot : ByteArray := method_21_code
def yL_lot : MethodName := ⟨RL, "lot", "(LTrouserWash;IIIIIII[J)I"⟩
abbrev cL_load : ByteArray := method_22_code
def yL_load : MethodName := ⟨RL, "load", "(LTrouserWash;II[J)I"⟩
abbrev cL_days : ByteArray := method_23_code
def yL_days : MethodName := ⟨RL, "days", "(LTrouserWash;I[J)I"⟩
abbrev cL_led : ByteArray := method_24_code
def yL_led : MethodName := ⟨RL, "led", "(LTrouserWash;II[J)I"⟩
abbrev cL_works : ByteArray := method_25_code
def yL_works : MethodName := ⟨RL, "works", "(LTrouserWash;II[J)I"⟩
abbrev cL_measure : ByteArray := method_26_code
def yL_measure : MethodName := ⟨RL, "measure", "(LTrouserWash;III[J)I"⟩
abbrev cL_known : ByteArray := method_27_code
def yL_known : MethodName := ⟨RL, "known", "(LTrouserWash;III[J)I"⟩
abbrev cL_sorted : ByteArray := method_28_code
def yL_sorted : MethodName := ⟨RL, "sorted", "(LTrouserWash;III[J)I"⟩
abbrev cL_again : ByteArray := method_29_code
def yL_again : MethodName := ⟨RL, "again", "(LTrouserWash;I[J)I"⟩
abbrev cL_deliver : ByteArray := method_30_code
def yL_deliver : MethodName := ⟨RL, "deliver", "(LTrouserWash;II[J)I"⟩
abbrev cL_ready : ByteArray := method_31_code
def yL_ready : MethodName := ⟨RL, "ready", "(LTrouserWash;I[J)I"⟩
abbrev cL_pattern : ByteArray := method_32_code
def yL_pattern : MethodName := ⟨RL, "pattern", "(LTrouserWash;II)I"⟩
abbrev cL_heat : ByteArray := method_33_code
def yL_heat : MethodName := ⟨RL, "heat", "(LTrouserWash;III[J)I"⟩
abbrev cL_burn : ByteArray := method_34_code
def yL_burn : MethodName := ⟨RL, "burn", "(LTrouserWash;III)I"⟩
abbrev cL_burned : ByteArray := method_35_code
def yL_burned : MethodName := ⟨RL, "burned", "(LTrouserWash;III[J)I"⟩
abbrev cL_seam : ByteArray := method_36_code
def yL_seam : MethodName := ⟨RL, "seam", "(LTrouserWash;I[J)I"⟩
abbrev cL_law : ByteArray := code
def yL_law : MethodName := ⟨RL, "law", "([I)Z"⟩
abbrev vwCl : List vw_C := [(RJx4a65c, TJx4a65c, 3), (RX0, TX0, 2), (RX1, TX1, 2), (RX2, TX2, 4), (RX3, TX3, 6), (RX4, TX4, 17), (RX5, TX5, 6), (RX6, TX6, 10), (RX7, TX7, 4), (RX8, TX8, 3), (RX9, TX9, 8), (RX10, TX10, 4), (RX11, TX11, 9), (RX12, TX12, 20), (RX13, TX13, 80)]
end
section
-- made by wip/tools/gen04.py out of the printed tables
/-- a method: name, bytes, number of its class, locals, what it returns, its handlers, its arguments (the receiver among them) -/
abbrev q_M : Type := MethodName × ByteArray × Nat × Nat × Option FieldType × List (Nat × Nat × Nat × Nat) × Nat
def q_on : Nat → String := fun o => match o with
  | 0 => RJx4a65c
  | 1 => RX0
  | 2 => RX1
  | 3 => RX2
  | 4 => RX3
  | 5 => RX4
  | 6 => RX5
  | 7 => RX6
  | 8 => RX7
  | 9 => RX8
  | 10 => RX9
  | 11 => RX10
  | 12 => RX11
  | 13 => RX12
  | 14 => RX13
  | 20 => RL
  | _ => RJ7
def q_T : Nat → u_T := fun o => match o with
  | 0 => TJx4a65c
  | 1 => TX0
  | 2 => TX1
  | 3 => TX2
  | 4 => TX3
  | 5 => TX4
  | 6 => TX5
  | 7 => TX6
  | 8 => TX7
  | 9 => TX8
  | 10 => TX9
  | 11 => TX10
  | 12 => TX11
  | 13 => TX12
  | _ => TX13
def q_Ty : Nat → Nat → FieldType := fun o => match o with
  | 0 => tyJx4a65c
  | 1 => tyX0
  | 2 => tyX1
  | 3 => tyX2
  | 4 => tyX3
  | 5 => tyX4
  | 6 => tyX5
  | 7 => tyX6
  | 8 => tyX7
  | 9 => tyX8
  | 10 => tyX9
  | 11 => tyX10
  | 12 => tyX11
  | 13 => tyX12
  | _ => tyX13
def q_N : Nat → Nat := fun o => match o with
  | 0 => 3
  | 1 => 2
  | 2 => 2
  | 3 => 4
  | 4 => 6
  | 5 => 17
  | 6 => 6
  | 7 => 10
  | 8 => 4
  | 9 => 3
  | 10 => 8
  | 11 => 4
  | 12 => 9
  | 13 => 20
  | _ => 80
def M_X12_init : q_M := (yX12_init, cX12_init, 13, 2, none, [], 1)
def M_X10_init : q_M := (yX10_init, cX10_init, 11, 1, none, [], 1)
def M_X8_init : q_M := (yX8_init, cX8_init, 9, 3, none, [], 2)
def M_X1_init : q_M := (yX1_init, cX1_init, 2, 1, none, [], 1)
def M_X3_init : q_M := (yX3_init, cX3_init, 4, 1, none, [], 1)
def M_X9_init : q_M := (yX9_init, cX9_init, 10, 2, none, [], 1)
def M_X2_init : q_M := (yX2_init, cX2_init, 3, 1, none, [], 1)
def M_X11_init : q_M := (yX11_init, cX11_init, 12, 1, none, [], 1)
def M_X0_init : q_M := (yX0_init, cX0_init, 1, 1, none, [], 1)
def M_X6_init : q_M := (yX6_init, cX6_init, 7, 1, none, [], 1)
def M_X7_init : q_M := (yX7_init, cX7_init, 8, 1, none, [], 1)
def M_X5_init : q_M := (yX5_init, cX5_init, 6, 1, none, [], 1)
def M_X12_feed : q_M := (yX12_feed, cX12_feed, 13, 6, (some .int), [], 6)
def M_X10_hasRoom : q_M := (yX10_hasRoom, cX10_hasRoom, 11, 1, (some .boolean), [], 1)
def M_X10_append : q_M := (yX10_append, cX10_append, 11, 3, none, [], 2)
def M_X12_end : q_M := (yX12_end, cX12_end, 13, 2, (some .boolean), [], 2)
def M_X12_within : q_M := (yX12_within, cX12_within, 13, 3, (some .boolean), [], 3)
def M_X12_fault : q_M := (yX12_fault, cX12_fault, 13, 1, (some .int), [], 1)
def M_X12_cost : q_M := (yX12_cost, cX12_cost, 13, 1, (some .int), [], 1)
def M_X8_price : q_M := (yX8_price, cX8_price, 9, 3, (some .int), [], 1)
def M_X8_priceOf : q_M := (yX8_priceOf, cX8_priceOf, 9, 2, (some .int), [], 2)
def M_X12_order : q_M := (yX12_order, cX12_order, 13, 1, (some .int), [], 1)
def M_X2_leastSum : q_M := (yX2_leastSum, cX2_leastSum, 3, 4, (some .int), [], 1)
def M_J7_fill_53178 : q_M := (yJ7_fill_53178, cJ7_fill_53178, 22, 4, none, [], 2)
def M_X2_goOn : q_M := (yX2_goOn, cX2_goOn, 3, 7, none, [], 3)
def M_X2_between : q_M := (yX2_between, cX2_between, 3, 3, (some .int), [], 3)
def M_X2_lesser : q_M := (yX2_lesser, cX2_lesser, 3, 2, (some .int), [], 2)
def M_X12_clear : q_M := (yX12_clear, cX12_clear, 13, 2, (some .int), [], 1)
def M_X12_shift : q_M := (yX12_shift, cX12_shift, 13, 1, (some .int), [], 1)
def M_X7_bestTurn : q_M := (yX7_bestTurn, cX7_bestTurn, 8, 3, (some .int), [], 1)
def M_X7_unlike : q_M := (yX7_unlike, cX7_unlike, 8, 6, (some .int), [], 2)
def M_X12_count : q_M := (yX12_count, cX12_count, 13, 2, (some .int), [], 2)
def M_X11_dirtInTanks : q_M := (yX11_dirtInTanks, cX11_dirtInTanks, 12, 3, (some .int), [], 1)
def M_X12_countWashed : q_M := (yX12_countWashed, cX12_countWashed, 13, 3, (some .int), [], 1)
def M_X12_cloth : q_M := (yX12_cloth, cX12_cloth, 13, 4, (some .int), [], 4)
def M_X12_need : q_M := (yX12_need, cX12_need, 13, 1, none, [], 1)
def M_X12_needRoom : q_M := (yX12_needRoom, cX12_needRoom, 13, 2, none, [], 2)
def M_X3_begin : q_M := (yX3_begin, cX3_begin, 4, 4, none, [], 4)
def M_X12_recipe : q_M := (yX12_recipe, cX12_recipe, 13, 2, (some .int), [], 1)
def M_X10_open : q_M := (yX10_open, cX10_open, 11, 1, none, [], 1)
def M_X8_read : q_M := (yX8_read, cX8_read, 9, 4, none, [], 2)
def M_X10_isBlank : q_M := (yX10_isBlank, cX10_isBlank, 11, 1, (some .boolean), [], 1)
def M_X10_skipBlanks : q_M := (yX10_skipBlanks, cX10_skipBlanks, 11, 1, none, [], 1)
def M_X8_readBath : q_M := (yX8_readBath, cX8_readBath, 9, 4, none, [], 2)
def M_X10_refuseNext : q_M := (yX10_refuseNext, cX10_refuseNext, 11, 1, none, [], 1)
def M_X10_refuse : q_M := (yX10_refuse, cX10_refuse, 11, 2, none, [], 2)
def M_X10_pick : q_M := (yX10_pick, cX10_pick, 11, 4, (some .int), [], 2)
def M_X10_placeAmong : q_M := (yX10_placeAmong, cX10_placeAmong, 11, 6, (some .int), [], 3)
def M_X10_number : q_M := (yX10_number, cX10_number, 11, 7, (some .int), [], 4)
def M_X8_add : q_M := (yX8_add, cX8_add, 9, 3, none, [], 3)
def M_X10_goesOn : q_M := (yX10_goesOn, cX10_goesOn, 11, 1, (some .boolean), [], 1)
def M_X12_look : q_M := (yX12_look, cX12_look, 13, 4, (some .int), [], 4)
def M_X12_needIndex : q_M := (yX12_needIndex, cX12_needIndex, 13, 2, none, [], 2)
def M_X12_needWhat : q_M := (yX12_needWhat, cX12_needWhat, 13, 2, none, [], 2)
def M_X12_tryRecipe : q_M := (yX12_tryRecipe, cX12_tryRecipe, 13, 5, none, [], 3)
def M_X3_copy : q_M := (yX3_copy, cX3_copy, 4, 2, none, [], 2)
def M_X3_take : q_M := (yX3_take, cX3_take, 4, 3, none, [], 3)
def M_X3_fade : q_M := (yX3_fade, cX3_fade, 4, 3, none, [], 3)
def M_X3_wear : q_M := (yX3_wear, cX3_wear, 4, 3, none, [], 3)
def M_X3_part : q_M := (yX3_part, cX3_part, 4, 2, (some .int), [], 2)
def M_X12_meets : q_M := (yX12_meets, cX12_meets, 13, 5, (some .boolean), [], 5)
def M_X12_needWish : q_M := (yX12_needWish, cX12_needWish, 13, 3, none, [], 3)
def M_X3_surelyMeets : q_M := (yX3_surelyMeets, cX3_surelyMeets, 4, 4, (some .boolean), [], 4)
def M_X12_cheapest : q_M := (yX12_cheapest, cX12_cheapest, 13, 6, (some .int), [], 6)
def M_X12_searchFor : q_M := (yX12_searchFor, cX12_searchFor, 13, 6, none, [], 6)
def M_X9_wishFor : q_M := (yX9_wishFor, cX9_wishFor, 10, 4, none, [], 4)
def M_X9_run : q_M := (yX9_run, cX9_run, 10, 3, none, [], 3)
def M_X9_descend : q_M := (yX9_descend, cX9_descend, 10, 6, none, [], 4)
def M_X9_keepIfBetter : q_M := (yX9_keepIfBetter, cX9_keepIfBetter, 10, 3, none, [], 3)
def M_X12_bath : q_M := (yX12_bath, cX12_bath, 13, 7, (some .int), [], 7)
def M_X9_bestBath : q_M := (yX9_bestBath, cX9_bestBath, 10, 2, (some .int), [], 2)
def M_X12_carry : q_M := (yX12_carry, cX12_carry, 13, 4, none, [], 4)
def M_X2_tell : q_M := (yX2_tell, cX2_tell, 3, 4, none, [], 4)
def M_X12_batch : q_M := (yX12_batch, cX12_batch, 13, 2, (some .int), [], 2)
def M_X2_addBatch : q_M := (yX2_addBatch, cX2_addBatch, 3, 2, (some .int), [], 2)
def M_X12_tank : q_M := (yX12_tank, cX12_tank, 13, 2, (some .int), [], 2)
def M_X11_add : q_M := (yX11_add, cX11_add, 12, 2, (some .int), [], 2)
def M_X12_draw : q_M := (yX12_draw, cX12_draw, 13, 3, (some .int), [], 3)
def M_X11_takeOut : q_M := (yX11_takeOut, cX11_takeOut, 12, 9, (some .int), [], 3)
def M_X11_dirtiest : q_M := (yX11_dirtiest, cX11_dirtiest, 12, 5, (some .int), [], 2)
def M_X11_isDirtier : q_M := (yX11_isDirtier, cX11_isDirtier, 12, 3, (some .boolean), [], 3)
def M_X11_partUp : q_M := (yX11_partUp, cX11_partUp, 12, 3, (some .int), [], 3)
def M_X12_pour : q_M := (yX12_pour, cX12_pour, 13, 4, (some .int), [], 4)
def M_X11_putIn : q_M := (yX11_putIn, cX11_putIn, 12, 6, (some .int), [], 4)
def M_X11_runOff : q_M := (yX11_runOff, cX11_runOff, 12, 3, none, [], 3)
def M_X12_has : q_M := (yX12_has, cX12_has, 13, 3, (some .int), [], 3)
def M_X11_part : q_M := (yX11_part, cX11_part, 12, 3, (some .int), [], 3)
def M_X12_garment : q_M := (yX12_garment, cX12_garment, 13, 2, (some .int), [], 2)
def M_X0_add : q_M := (yX0_add, cX0_add, 1, 3, (some .int), [], 2)
def M_X12_spread : q_M := (yX12_spread, cX12_spread, 13, 2, (some .int), [], 2)
def M_X0_leastSpread : q_M := (yX0_leastSpread, cX0_leastSpread, 1, 3, (some .int), [], 2)
def M_X0_sorts : q_M := (yX0_sorts, cX0_sorts, 1, 5, (some .int), [], 2)
def M_X12_packs : q_M := (yX12_packs, cX12_packs, 13, 5, (some .int), [], 4)
def M_X0_fullPacks : q_M := (yX0_fullPacks, cX0_fullPacks, 1, 6, (some .int), [], 3)
def M_X12_house : q_M := (yX12_house, cX12_house, 13, 2, (some .int), [], 1)
def M_X1_read : q_M := (yX1_read, cX1_read, 2, 4, none, [], 2)
def M_X1_readRule : q_M := (yX1_readRule, cX1_readRule, 2, 2, none, [], 2)
def M_X1_readOfBath : q_M := (yX1_readOfBath, cX1_readOfBath, 2, 7, none, [], 5)
def M_X1_readPours : q_M := (yX1_readPours, cX1_readPours, 2, 4, none, [], 2)
def M_X1_readAgain : q_M := (yX1_readAgain, cX1_readAgain, 2, 2, none, [], 2)
def M_X12_tells : q_M := (yX12_tells, cX12_tells, 13, 2, (some .int), [], 2)
def M_X1_value : q_M := (yX1_value, cX1_value, 2, 2, (some .int), [], 2)
def M_X12_machine : q_M := (yX12_machine, cX12_machine, 13, 2, (some .int), [], 2)
def M_X12_lot : q_M := (yX12_lot, cX12_lot, 13, 9, (some .int), [], 8)
def M_X4_init : q_M := (yX4_init, cX4_init, 5, 6, none, [], 6)
def M_X4_wishFor : q_M := (yX4_wishFor, cX4_wishFor, 5, 4, none, [], 4)
def M_X8_copy : q_M := (yX8_copy, cX8_copy, 9, 3, none, [], 2)
def M_X12_addLot : q_M := (yX12_addLot, cX12_addLot, 13, 2, (some .int), [], 2)
def M_J7_copyOf_1904c : q_M := (yJ7_copyOf_1904c, cJ7_copyOf_1904c, 22, 2, (some (.array (.object "java/lang/Object"))), [], 2)
def M_J7_copyOf_6403c : q_M := (yJ7_copyOf_6403c, cJ7_copyOf_6403c, 22, 4, (some (.array (.object "java/lang/Object"))), [], 3)
def M_X12_load : q_M := (yX12_load, cX12_load, 13, 5, (some .boolean), [], 3)
def M_X12_lotAt : q_M := (yX12_lotAt, cX12_lotAt, 13, 2, (some (.object "TrouserWash$Lot")), [], 2)
def M_X5_enqueue : q_M := (yX5_enqueue, cX5_enqueue, 6, 2, none, [], 2)
def M_X12_days : q_M := (yX12_days, cX12_days, 13, 4, (some .int), [], 2)
def M_X12_workDay : q_M := (yX12_workDay, cX12_workDay, 13, 4, none, [], 2)
def M_X12_takeNext : q_M := (yX12_takeNext, cX12_takeNext, 13, 6, (some .int), [], 3)
def M_X12_firstNotBarred : q_M := (yX12_firstNotBarred, cX12_firstNotBarred, 13, 3, (some .int), [], 2)
def M_X5_takeIn : q_M := (yX5_takeIn, cX5_takeIn, 6, 4, none, [], 3)
def M_X11_washOut : q_M := (yX11_washOut, cX11_washOut, 12, 2, none, [], 2)
def M_X12_finishIfNoneLeft : q_M := (yX12_finishIfNoneLeft, cX12_finishIfNoneLeft, 13, 3, none, [], 3)
def M_X12_doNextBath : q_M := (yX12_doNextBath, cX12_doNextBath, 13, 9, (some .int), [], 3)
def M_X8_bathAt : q_M := (yX8_bathAt, cX8_bathAt, 9, 2, (some .int), [], 2)
def M_X8_amountAt : q_M := (yX8_amountAt, cX8_amountAt, 9, 2, (some .int), [], 2)
def M_X8_soil : q_M := (yX8_soil, cX8_soil, 9, 2, (some .int), [], 2)
def M_X11_giveBack : q_M := (yX11_giveBack, cX11_giveBack, 12, 4, none, [], 4)
def M_X12_led : q_M := (yX12_led, cX12_led, 13, 4, (some .int), [], 3)
def M_X4_countPlaced : q_M := (yX4_countPlaced, cX4_countPlaced, 5, 4, (some .int), [], 2)
def M_X12_works : q_M := (yX12_works, cX12_works, 13, 4, (some .int), [], 3)
def M_X12_measure : q_M := (yX12_measure, cX12_measure, 13, 6, (some .int), [], 4)
def M_X12_needWashed : q_M := (yX12_needWashed, cX12_needWashed, 13, 1, none, [], 1)
def M_X6_tell : q_M := (yX6_tell, cX6_tell, 7, 4, (some .int), [], 4)
def M_X12_known : q_M := (yX12_known, cX12_known, 13, 5, (some .int), [], 4)
def M_X12_judged : q_M := (yX12_judged, cX12_judged, 13, 4, (some .int), [], 4)
def M_X6_shadeOn : q_M := (yX6_shadeOn, cX6_shadeOn, 7, 5, (some .int), [], 3)
def M_X4_judge : q_M := (yX4_judge, cX4_judge, 5, 2, (some .int), [], 2)
def M_X12_sorted : q_M := (yX12_sorted, cX12_sorted, 13, 7, (some .int), [], 4)
def M_X4_isStillHere : q_M := (yX4_isStillHere, cX4_isStillHere, 5, 2, (some .boolean), [], 2)
def M_X12_again : q_M := (yX12_again, cX12_again, 13, 5, (some .int), [], 2)
def M_X8_setOnly : q_M := (yX8_setOnly, cX8_setOnly, 9, 3, none, [], 3)
def M_X12_moveDark : q_M := (yX12_moveDark, cX12_moveDark, 13, 7, none, [], 3)
def M_X12_deliver : q_M := (yX12_deliver, cX12_deliver, 13, 5, (some .int), [], 3)
def M_X12_findPacks : q_M := (yX12_findPacks, cX12_findPacks, 13, 4, (some .int), [], 2)
def M_X6_gatherNone : q_M := (yX6_gatherNone, cX6_gatherNone, 7, 1, none, [], 1)
def M_X12_gatherGood : q_M := (yX12_gatherGood, cX12_gatherGood, 13, 4, none, [], 3)
def M_X6_gather : q_M := (yX6_gather, cX6_gather, 7, 4, none, [], 4)
def M_X6_formPacks : q_M := (yX6_formPacks, cX6_formPacks, 7, 6, (some .int), [], 3)
def M_X6_putInOrder : q_M := (yX6_putInOrder, cX6_putInOrder, 7, 3, none, [], 1)
def M_X6_shadeOf : q_M := (yX6_shadeOf, cX6_shadeOf, 7, 1, (some .int), [], 1)
def M_X6_packBegin : q_M := (yX6_packBegin, cX6_packBegin, 7, 2, (some .int), [], 2)
def M_X12_deliverPack : q_M := (yX12_deliverPack, cX12_deliverPack, 13, 6, (some .int), [], 2)
def M_X6_lotOf : q_M := (yX6_lotOf, cX6_lotOf, 7, 2, (some .int), [], 2)
def M_X6_pieceOf : q_M := (yX6_pieceOf, cX6_pieceOf, 7, 2, (some .int), [], 2)
def M_X4_setDelivered : q_M := (yX4_setDelivered, cX4_setDelivered, 5, 2, none, [], 2)
def M_X12_ready : q_M := (yX12_ready, cX12_ready, 13, 2, (some .int), [], 2)
def M_X12_pattern : q_M := (yX12_pattern, cX12_pattern, 13, 3, none, [], 3)
def M_X7_beginPattern : q_M := (yX7_beginPattern, cX7_beginPattern, 8, 3, none, [], 3)
def M_X12_heat : q_M := (yX12_heat, cX12_heat, 13, 4, (some .boolean), [], 4)
def M_X7_setHeat : q_M := (yX7_setHeat, cX7_setHeat, 8, 6, (some .boolean), [], 4)
def M_X12_burn : q_M := (yX12_burn, cX12_burn, 13, 4, none, [], 4)
def M_X7_burnOne : q_M := (yX7_burnOne, cX7_burnOne, 8, 8, none, [], 4)
def M_X7_heatAt : q_M := (yX7_heatAt, cX7_heatAt, 8, 3, (some .int), [], 3)
def M_X12_burned : q_M := (yX12_burned, cX12_burned, 13, 4, (some .int), [], 4)
def M_X12_seam : q_M := (yX12_seam, cX12_seam, 13, 2, (some .int), [], 2)
def M_X13_init : q_M := (yX13_init, cX13_init, 14, 1, none, [], 1)
def M_X13_thrown : q_M := (yX13_thrown, cX13_thrown, 14, 1, (some .int), [], 1)
def M_X13_feed : q_M := (yX13_feed, cX13_feed, 14, 7, (some .int), [], 6)
def M_X13_end : q_M := (yX13_end, cX13_end, 14, 2, (some .boolean), [], 2)
def M_X13_recipe : q_M := (yX13_recipe, cX13_recipe, 14, 2, (some .int), [], 1)
def M_X13_uses : q_M := (yX13_uses, cX13_uses, 14, 1, none, [], 1)
def M_X13_readRecipe : q_M := (yX13_readRecipe, cX13_readRecipe, 14, 3, (some .boolean), [], 1)
def M_X13_blanks : q_M := (yX13_blanks, cX13_blanks, 14, 1, none, [], 1)
def M_X13_isAt : q_M := (yX13_isAt, cX13_isAt, 14, 3, (some .boolean), [], 3)
def M_X13_readBath : q_M := (yX13_readBath, cX13_readBath, 14, 1, (some .int), [], 1)
def M_X13_word : q_M := (yX13_word, cX13_word, 14, 1, none, [], 1)
def M_X13_bathOf : q_M := (yX13_bathOf, cX13_bathOf, 14, 1, (some .int), [], 1)
def M_X13_isWord : q_M := (yX13_isWord, cX13_isWord, 14, 4, (some .boolean), [], 2)
def M_X13_number : q_M := (yX13_number, cX13_number, 14, 5, (some .int), [], 4)
def M_X13_throwsIf : q_M := (yX13_throwsIf, cX13_throwsIf, 14, 3, (some .boolean), [], 3)
def M_X13_copies : q_M := (yX13_copies, cX13_copies, 14, 4, none, [], 3)
def M_X13_fault : q_M := (yX13_fault, cX13_fault, 14, 1, (some .int), [], 1)
def M_X13_cloth : q_M := (yX13_cloth, cX13_cloth, 14, 4, (some .int), [], 4)
def M_X13_in : q_M := (yX13_in, cX13_in, 14, 3, (some .boolean), [], 3)
def M_X13_look : q_M := (yX13_look, cX13_look, 14, 4, (some .int), [], 4)
def M_X13_noCloth : q_M := (yX13_noCloth, cX13_noCloth, 14, 2, (some .boolean), [], 2)
def M_X13_tries : q_M := (yX13_tries, cX13_tries, 14, 4, none, [], 3)
def M_X13_begins : q_M := (yX13_begins, cX13_begins, 14, 3, none, [], 3)
def M_X13_does : q_M := (yX13_does, cX13_does, 14, 7, none, [], 5)
def M_X13_less : q_M := (yX13_less, cX13_less, 14, 4, none, [], 4)
def M_X13_cost : q_M := (yX13_cost, cX13_cost, 14, 3, (some .int), [], 1)
def M_X13_costOf : q_M := (yX13_costOf, cX13_costOf, 14, 2, (some .int), [], 2)
def M_X13_meets : q_M := (yX13_meets, cX13_meets, 14, 5, (some .boolean), [], 5)
def M_X13_noWish : q_M := (yX13_noWish, cX13_noWish, 14, 3, (some .boolean), [], 3)
def M_X13_meetsIt : q_M := (yX13_meetsIt, cX13_meetsIt, 14, 5, (some .boolean), [], 5)
def M_X13_cheapest : q_M := (yX13_cheapest, cX13_cheapest, 14, 6, (some .int), [], 6)
def M_X13_cheapestOf : q_M := (yX13_cheapestOf, cX13_cheapestOf, 14, 6, (some .boolean), [], 6)
def M_X13_seeks : q_M := (yX13_seeks, cX13_seeks, 14, 8, none, [], 5)
def M_X13_usual : q_M := (yX13_usual, cX13_usual, 14, 1, (some .int), [], 1)
def M_X13_bath : q_M := (yX13_bath, cX13_bath, 14, 7, (some .int), [], 7)
def M_X13_carry : q_M := (yX13_carry, cX13_carry, 14, 4, none, [], 4)
def M_X13_noKind : q_M := (yX13_noKind, cX13_noKind, 14, 1, (some .boolean), [], 1)
def M_X13_batch : q_M := (yX13_batch, cX13_batch, 14, 2, (some .int), [], 2)
def M_X13_order : q_M := (yX13_order, cX13_order, 14, 8, (some .int), [], 1)
def M_X13_clear : q_M := (yX13_clear, cX13_clear, 14, 2, (some .int), [], 1)
def M_X13_tank : q_M := (yX13_tank, cX13_tank, 14, 2, (some .int), [], 2)
def M_X13_draw : q_M := (yX13_draw, cX13_draw, 14, 3, (some .int), [], 3)
def M_X13_draws : q_M := (yX13_draws, cX13_draws, 14, 6, none, [], 3)
def M_X13_dirtiest : q_M := (yX13_dirtiest, cX13_dirtiest, 14, 4, (some .int), [], 2)
def M_X13_pour : q_M := (yX13_pour, cX13_pour, 14, 4, (some .int), [], 4)
def M_X13_pours : q_M := (yX13_pours, cX13_pours, 14, 6, none, [], 4)
def M_X13_has : q_M := (yX13_has, cX13_has, 14, 3, (some .int), [], 3)
def M_X13_garment : q_M := (yX13_garment, cX13_garment, 14, 3, (some .int), [], 2)
def M_X13_spread : q_M := (yX13_spread, cX13_spread, 14, 3, (some .int), [], 2)
def M_X13_sortsFor : q_M := (yX13_sortsFor, cX13_sortsFor, 14, 5, (some .int), [], 2)
def M_X13_packs : q_M := (yX13_packs, cX13_packs, 14, 7, (some .int), [], 4)
def M_X13_house : q_M := (yX13_house, cX13_house, 14, 3, (some .int), [], 1)
def M_X13_readHouse : q_M := (yX13_readHouse, cX13_readHouse, 14, 2, (some .int), [], 1)
def M_X13_asAtFirst : q_M := (yX13_asAtFirst, cX13_asAtFirst, 14, 2, none, [], 1)
def M_X13_readRule : q_M := (yX13_readRule, cX13_readRule, 14, 3, (some .boolean), [], 2)
def M_X13_sets : q_M := (yX13_sets, cX13_sets, 14, 5, (some .boolean), [], 4)
def M_X13_readPours : q_M := (yX13_readPours, cX13_readPours, 14, 2, (some .boolean), [], 1)
def M_X13_readAgain : q_M := (yX13_readAgain, cX13_readAgain, 14, 2, (some .boolean), [], 1)
def M_X13_tells : q_M := (yX13_tells, cX13_tells, 14, 2, (some .int), [], 2)
def M_X13_machine : q_M := (yX13_machine, cX13_machine, 14, 2, (some .int), [], 2)
def M_X13_lot : q_M := (yX13_lot, cX13_lot, 14, 8, (some .int), [], 8)
def M_X13_adds : q_M := (yX13_adds, cX13_adds, 14, 9, (some .int), [], 8)
def M_X13_load : q_M := (yX13_load, cX13_load, 14, 3, (some .boolean), [], 3)
def M_X13_noLot : q_M := (yX13_noLot, cX13_noLot, 14, 2, (some .boolean), [], 2)
def M_X13_noMachine : q_M := (yX13_noMachine, cX13_noMachine, 14, 2, (some .boolean), [], 2)
def M_X13_days : q_M := (yX13_days, cX13_days, 14, 6, (some .int), [], 2)
def M_X13_step : q_M := (yX13_step, cX13_step, 14, 5, (some .int), [], 3)
def M_X13_bathes : q_M := (yX13_bathes, cX13_bathes, 14, 8, none, [], 2)
def M_X13_washes : q_M := (yX13_washes, cX13_washes, 14, 3, none, [], 2)
def M_X13_nextFor : q_M := (yX13_nextFor, cX13_nextFor, 14, 4, (some .int), [], 2)
def M_X13_led : q_M := (yX13_led, cX13_led, 14, 3, (some .int), [], 3)
def M_X13_piecesOf : q_M := (yX13_piecesOf, cX13_piecesOf, 14, 5, (some .int), [], 3)
def M_X13_works : q_M := (yX13_works, cX13_works, 14, 5, (some .int), [], 3)
def M_X13_measure : q_M := (yX13_measure, cX13_measure, 14, 4, (some .int), [], 4)
def M_X13_noPiece : q_M := (yX13_noPiece, cX13_noPiece, 14, 3, (some .boolean), [], 3)
def M_X13_known : q_M := (yX13_known, cX13_known, 14, 4, (some .int), [], 4)
def M_X13_knownOf : q_M := (yX13_knownOf, cX13_knownOf, 14, 5, (some .int), [], 4)
def M_X13_shadeOf : q_M := (yX13_shadeOf, cX13_shadeOf, 14, 5, (some .int), [], 4)
def M_X13_sorted : q_M := (yX13_sorted, cX13_sorted, 14, 4, (some .int), [], 4)
def M_X13_sortedOf : q_M := (yX13_sortedOf, cX13_sortedOf, 14, 6, (some .int), [], 4)
def M_X13_again : q_M := (yX13_again, cX13_again, 14, 5, (some .int), [], 2)
def M_X13_deliver : q_M := (yX13_deliver, cX13_deliver, 14, 5, (some .int), [], 3)
def M_X13_gathers : q_M := (yX13_gathers, cX13_gathers, 14, 6, none, [], 2)
def M_X13_packsOf : q_M := (yX13_packsOf, cX13_packsOf, 14, 5, (some .int), [], 2)
def M_X13_ready : q_M := (yX13_ready, cX13_ready, 14, 2, (some .int), [], 2)
def M_X13_pattern : q_M := (yX13_pattern, cX13_pattern, 14, 4, none, [], 3)
def M_X13_heat : q_M := (yX13_heat, cX13_heat, 14, 5, (some .boolean), [], 4)
def M_X13_burn : q_M := (yX13_burn, cX13_burn, 14, 7, none, [], 4)
def M_X13_burned : q_M := (yX13_burned, cX13_burned, 14, 4, (some .int), [], 4)
def M_X13_seam : q_M := (yX13_seam, cX13_seam, 14, 2, (some .int), [], 2)
def M_X13_seamOf : q_M := (yX13_seamOf, cX13_seamOf, 14, 4, (some .int), [], 2)
def M_X13_shift : q_M := (yX13_shift, cX13_shift, 14, 3, (some .int), [], 1)
def M_X13_count : q_M := (yX13_count, cX13_count, 14, 4, (some .int), [], 2)
def M_L_cloth : q_M := (yL_cloth, cL_cloth, 20, 6, (some .int), [(0, 12, 15, 13), (0, 12, 19, 15)], 5)
def M_L_recipe : q_M := (yL_recipe, cL_recipe, 20, 3, (some .int), [(0, 8, 11, 13)], 2)
def M_L_look : q_M := (yL_look, cL_look, 20, 6, (some .int), [(0, 12, 15, 24), (0, 12, 19, 13), (0, 12, 23, 26)], 5)
def M_L_meets : q_M := (yL_meets, cL_meets, 20, 7, (some .int), [(0, 21, 24, 24), (0, 21, 28, 13)], 6)
def M_L_cheapest : q_M := (yL_cheapest, cL_cheapest, 20, 8, (some .int), [(0, 16, 19, 24), (0, 16, 23, 13)], 7)
def M_L_bath : q_M := (yL_bath, cL_bath, 20, 9, (some .int), [(0, 18, 21, 24), (0, 18, 25, 13)], 8)
def M_L_carry : q_M := (yL_carry, cL_carry, 20, 5, (some .int), [(0, 7, 10, 24), (0, 7, 14, 13)], 4)
def M_L_batch : q_M := (yL_batch, cL_batch, 20, 4, (some .int), [(0, 9, 12, 24)], 3)
def M_L_tank : q_M := (yL_tank, cL_tank, 20, 4, (some .int), [(0, 9, 12, 13), (0, 9, 15, 15)], 3)
def M_L_draw : q_M := (yL_draw, cL_draw, 20, 5, (some .int), [(0, 10, 13, 13)], 4)
def M_L_pour : q_M := (yL_pour, cL_pour, 20, 6, (some .int), [(0, 12, 15, 24), (0, 12, 19, 13)], 5)
def M_L_has : q_M := (yL_has, cL_has, 20, 5, (some .int), [(0, 10, 13, 24), (0, 10, 17, 26)], 4)
def M_L_garment : q_M := (yL_garment, cL_garment, 20, 4, (some .int), [(0, 9, 12, 13)], 3)
def M_L_spread : q_M := (yL_spread, cL_spread, 20, 4, (some .int), [(0, 9, 12, 13)], 3)
def M_L_packs : q_M := (yL_packs, cL_packs, 20, 6, (some .int), [(0, 12, 15, 13)], 5)
def M_L_house : q_M := (yL_house, cL_house, 20, 3, (some .int), [(0, 8, 11, 13)], 2)
def M_L_tells : q_M := (yL_tells, cL_tells, 20, 4, (some .int), [(0, 9, 12, 26)], 3)
def M_L_machine : q_M := (yL_machine, cL_machine, 20, 4, (some .int), [(0, 9, 12, 13), (0, 9, 15, 15)], 3)
def M_L_lot : q_M := (yL_lot, cL_lot, 20, 10, (some .int), [(0, 20, 23, 24), (0, 20, 27, 13), (0, 20, 31, 15)], 9)
def M_L_load : q_M := (yL_load, cL_load, 20, 5, (some .int), [(0, 17, 20, 24)], 4)
def M_L_days : q_M := (yL_days, cL_days, 20, 4, (some .int), [(0, 9, 12, 13)], 3)
def M_L_led : q_M := (yL_led, cL_led, 20, 5, (some .int), [(0, 10, 13, 24), (0, 10, 17, 26)], 4)
def M_L_works : q_M := (yL_works, cL_works, 20, 5, (some .int), [(0, 10, 13, 24), (0, 10, 17, 26)], 4)
def M_L_measure : q_M := (yL_measure, cL_measure, 20, 6, (some .int), [(0, 12, 15, 24), (0, 12, 19, 100), (0, 12, 23, 13)], 5)
def M_L_known : q_M := (yL_known, cL_known, 20, 6, (some .int), [(0, 12, 15, 24)], 5)
def M_L_sorted : q_M := (yL_sorted, cL_sorted, 20, 6, (some .int), [(0, 12, 15, 24), (0, 12, 19, 26)], 5)
def M_L_again : q_M := (yL_again, cL_again, 20, 4, (some .int), [(0, 9, 12, 24), (0, 9, 15, 100)], 3)
def M_L_deliver : q_M := (yL_deliver, cL_deliver, 20, 5, (some .int), [(0, 10, 13, 24), (0, 10, 17, 13)], 4)
def M_L_ready : q_M := (yL_ready, cL_ready, 20, 4, (some .int), [(0, 9, 12, 24)], 3)
def M_L_pattern : q_M := (yL_pattern, cL_pattern, 20, 4, (some .int), [(0, 6, 9, 13)], 3)
def M_L_heat : q_M := (yL_heat, cL_heat, 20, 6, (some .int), [(0, 19, 22, 13)], 5)
def M_L_burn : q_M := (yL_burn, cL_burn, 20, 5, (some .int), [(0, 7, 10, 24), (0, 7, 14, 13)], 4)
def M_L_burned : q_M := (yL_burned, cL_burned, 20, 6, (some .int), [(0, 12, 15, 24), (0, 12, 19, 13)], 5)
def M_L_seam : q_M := (yL_seam, cL_seam, 20, 4, (some .int), [(0, 9, 12, 13)], 3)
def M_L_law : q_M := (yL_law, cL_law, 20, 7, some .boolean, [], 1)
abbrev q_y (M : q_M) : MethodName := M.1
abbrev q_cc (M : q_M) : ByteArray := M.2.1
abbrev q_o (M : q_M) : Nat := M.2.2.1
abbrev q_ml (M : q_M) : Nat := M.2.2.2.1
abbrev q_rt (M : q_M) : Option FieldType := M.2.2.2.2.1
abbrev q_hh (M : q_M) : List (Nat × Nat × Nat × Nat) := M.2.2.2.2.2.1
abbrev q_na (M : q_M) : Nat := M.2.2.2.2.2.2
/-- its own word -/
def q_cw (M : q_M) : Cond := if q_hh M = [] then .code (q_y M) (q_cc M) (q_ml M) (q_rt M) else .codeWith (q_y M) (q_cc M) (q_ml M) (q_rt M) (q_hh M)
/-- what a callee owes: kind 0 of an object, 1 static, 2 a constructor -/
def q_okY (k : Nat) (M : q_M) : Prop := q_cw M ∈ lw_tbl ∧ Cond.initialized (q_y M).cls ∈ lw_tbl ∧ (k = 1 → Cond.static (q_y M) ∈ lw_tbl) ∧ (k ≠ 1 → Cond.instanceMethod (q_y M) ∈ lw_tbl) ∧ (k = 0 → Cond.selects (q_y M).cls (q_y M) (q_y M) ∈ lw_tbl) ∧ (k = 2 → (q_y M).name = "<init>" ∧ q_rt M = none) ∧ (q_y M).cls = q_on (q_o M) ∧ (q_y M).cls ≠ "java/lang/invoke/MethodHandle" ∧ (q_y M).cls ≠ "java/lang/invoke/VarHandle" ∧ plainName (q_y M).cls = true ∧ (parseMethodDescriptor (q_y M).desc).map (fun d => d.parameters.length) = some (q_na M - if k = 1 then 0 else 1) ∧ (k ≠ 1 → 0 < q_na M) ∧ q_na M ≤ q_ml M ∧ q_ml M ≤ 40
theorem kY_X12_init : q_okY 2 M_X12_init := ⟨(List.mem_of_getElem? (i := 122) (by decide +kernel)), (List.mem_of_getElem? (i := 84) (by decide +kernel)), fun h => absurd h (by decide), fun _ => (List.mem_of_getElem? (i := 121) (by decide +kernel)), fun h => absurd h (by decide), fun _ => ⟨rfl, rfl⟩, rfl, by decide +kernel, by decide +kernel, by decide +kernel, by decide +kernel, fun _ => by decide, by decide, by decide⟩
theorem kY_X10_init : q_okY 2 M_X10_init := ⟨(List.mem_of_getElem? (i := 130) (by decide +kernel)), (List.mem_of_getElem? (i := 85) (by decide +kernel)), fun h => absurd h (by decide), fun _ => (List.mem_of_getElem? (i := 129) (by decide +kernel)), fun h => absurd h (by decide), fun _ => ⟨rfl, rfl⟩, rfl, by decide +kernel, by decide +kernel, by decide +kernel, by decide +kernel, fun _ => by decide, by decide, by decide⟩
theorem kY_X8_init : q_okY 2 M_X8_init := ⟨(List.mem_of_getElem? (i := 155) (by decide +kernel)), (List.mem_of_getElem? (i := 86) (by decide +kernel)), fun h => absurd h (by decide), fun _ => (List.mem_of_getElem? (i := 154) (by decide +kernel)), fun h => absurd h (by decide), fun _ => ⟨rfl, rfl⟩, rfl, by decide +kernel, by decide +kernel, by decide +kernel, by decide +kernel, fun _ => by decide, by decide, by decide⟩
theorem kY_X1_init : q_okY 2 M_X1_init := ⟨(List.mem_of_getElem? (i := 178) (by decide +kernel)), (List.mem_of_getElem? (i := 88) (by decide +kernel)), fun h => absurd h (by decide), fun _ => (List.mem_of_getElem? (i := 177) (by decide +kernel)), fun h => absurd h (by decide), fun _ => ⟨rfl, rfl⟩, rfl, by decide +kernel, by decide +kernel, by decide +kernel, by decide +kernel, fun _ => by decide, by decide, by decide⟩
theorem kY_X3_init : q_okY 2 M_X3_init := ⟨(List.mem_of_getElem? (i := 200) (by decide +kernel)), (List.mem_of_getElem? (i := 89) (by decide +kernel)), fun h => absurd h (by decide), fun _ => (List.mem_of_getElem? (i := 199) (by decide +kernel)), fun h => absurd h (by decide), fun _ => ⟨rfl, rfl⟩, rfl, by decide +kernel, by decide +kernel, by decide +kernel, by decide +kernel, fun _ => by decide, by decide, by decide⟩
theorem kY_X9_init : q_okY 2 M_X9_init := ⟨(List.mem_of_getElem? (i := 230) (by decide +kernel)), (List.mem_of_getElem? (i := 90) (by decide +kernel)), fun h => absurd h (by decide), fun _ => (List.mem_of_getElem? (i := 229) (by decide +kernel)), fun h => absurd h (by decide), fun _ => ⟨rfl, rfl⟩, rfl, by decide +kernel, by decide +kernel, by decide +kernel, by decide +kernel, fun _ => by decide, by decide, by decide⟩
theorem kY_X2_init : q_okY 2 M_X2_init := ⟨(List.mem_of_getElem? (i := 264) (by decide +kernel)), (List.mem_of_getElem? (i := 91) (by decide +kernel)), fun h => absurd h (by decide), fun _ => (List.mem_of_getElem? (i := 263) (by decide +kernel)), fun h => absurd h (by decide), fun _ => ⟨rfl, rfl⟩, rfl, by decide +kernel, by decide +kernel, by decide +kernel, by decide +kernel, fun _ => by decide, by decide, by decide⟩
theorem kY_X11_init : q_okY 2 M_X11_init := ⟨(List.mem_of_getElem? (i := 284) (by decide +kernel)), (List.mem_of_getElem? (i := 92) (by decide +kernel)), fun h => absurd h (by decide), fun _ => (List.mem_of_getElem? (i := 283) (by decide +kernel)), fun h => absurd h (by decide), fun _ => ⟨rfl, rfl⟩, rfl, by decide +kernel, by decide +kernel, by decide +kernel, by decide +kernel, fun _ => by decide, by decide, by decide⟩
theorem kY_X0_init : q_okY 2 M_X0_init := ⟨(List.mem_of_getElem? (i := 323) (by decide +kernel)), (List.mem_of_getElem? (i := 93) (by decide +kernel)), fun h => absurd h (by decide), fun _ => (List.mem_of_getElem? (i := 322) (by decide +kernel)), fun h => absurd h (by decide), fun _ => ⟨rfl, rfl⟩, rfl, by decide +kernel, by decide +kernel, by decide +kernel, by decide +kernel, fun _ => by decide, by decide, by decide⟩
theorem kY_X6_init : q_okY 2 M_X6_init := ⟨(List.mem_of_getElem? (i := 365) (by decide +kernel)), (List.mem_of_getElem? (i := 97) (by decide +kernel)), fun h => absurd h (by decide), fun _ => (List.mem_of_getElem? (i := 364) (by decide +kernel)), fun h => absurd h (by decide), fun _ => ⟨rfl, rfl⟩, rfl, by decide +kernel, by decide +kernel, by decide +kernel, by decide +kernel, fun _ => by decide, by decide, by decide⟩
theorem kY_X7_init : q_okY 2 M_X7_init := ⟨(List.mem_of_getElem? (i := 403) (by decide +kernel)), (List.mem_of_getElem? (i := 98) (by decide +kernel)), fun h => absurd h (by decide), fun _ => (List.mem_of_getElem? (i := 402) (by decide +kernel)), fun h => absurd h (by decide), fun _ => ⟨rfl, rfl⟩, rfl, by decide +kernel, by decide +kernel, by decide +kernel, by decide +kernel, fun _ => by decide, by decide, by decide⟩
theorem kY_X5_init : q_okY 2 M_X5_init := ⟨(List.mem_of_getElem? (i := 426) (by decide +kernel)), (List.mem_of_getElem? (i := 99) (by decide +kernel)), fun h => absurd h (by decide), fun _ => (List.mem_of_getElem? (i := 425) (by decide +kernel)), fun h => absurd h (by decide), fun _ => ⟨rfl, rfl⟩, rfl, by decide +kernel, by decide +kernel, by decide +kernel, by decide +kernel, fun _ => by decide, by decide, by decide⟩
theorem kY_X12_feed : q_okY 0 M_X12_feed := ⟨(List.mem_of_getElem? (i := 515) (by decide +kernel)), (List.mem_of_getElem? (i := 84) (by decide +kernel)), fun h => absurd h (by decide), fun _ => (List.mem_of_getElem? (i := 513) (by decide +kernel)), fun _ => (List.mem_of_getElem? (i := 514) (by decide +kernel)), fun h => absurd h (by decide), rfl, by decide +kernel, by decide +kernel, by decide +kernel, by decide +kernel, fun _ => by decide, by decide, by decide⟩
theorem kY_X10_hasRoom : q_okY 0 M_X10_hasRoom := ⟨(List.mem_of_getElem? (i := 519) (by decide +kernel)), (List.mem_of_getElem? (i := 85) (by decide +kernel)), fun h => absurd h (by decide), fun _ => (List.mem_of_getElem? (i := 517) (by decide +kernel)), fun _ => (List.mem_of_getElem? (i := 518) (by decide +kernel)), fun h => absurd h (by decide), rfl, by decide +kernel, by decide +kernel, by decide +kernel, by decide +kernel, fun _ => by decide, by decide, by decide⟩
theorem kY_X10_append : q_okY 0 M_X10_append := ⟨(List.mem_of_getElem? (i := 523) (by decide +kernel)), (List.mem_of_getElem? (i := 85) (by decide +kernel)), fun h => absurd h (by decide), fun _ => (List.mem_of_getElem? (i := 521) (by decide +kernel)), fun _ => (List.mem_of_getElem? (i := 522) (by decide +kernel)), fun h => absurd h (by decide), rfl, by decide +kernel, by decide +kernel, by decide +kernel, by decide +kernel, fun _ => by decide, by decide, by decide⟩
theorem kY_X12_end : q_okY 0 M_X12_end := ⟨(List.mem_of_getElem? (i := 527) (by decide +kernel)), (List.mem_of_getElem? (i := 84) (by decide +kernel)), fun h => absurd h (by decide), fun _ => (List.mem_of_getElem? (i := 525) (by decide +kernel)), fun _ => (List.mem_of_getElem? (i := 526) (by decide +kernel)), fun h => absurd h (by decide), rfl, by decide +kernel, by decide +kernel, by decide +kernel, by decide +kernel, fun _ => by decide, by decide, by decide⟩
theorem kY_X12_within : q_okY 1 M_X12_within := ⟨(List.mem_of_getElem? (i := 530) (by decide +kernel)), (List.mem_of_getElem? (i := 84) (by decide +kernel)), fun _ => (List.mem_of_getElem? (i := 529) (by decide +kernel)), fun h => absurd rfl h, fun h => absurd h (by decide), fun h => absurd h (by decide), rfl, by decide +kernel, by decide +kernel, by decide +kernel, by decide +kernel, fun h => absurd rfl h, by decide, by decide⟩
theorem kY_X12_fault : q_okY 0 M_X12_fault := ⟨(List.mem_of_getElem? (i := 534) (by decide +kernel)), (List.mem_of_getElem? (i := 84) (by decide +kernel)), fun h => absurd h (by decide), fun _ => (List.mem_of_getElem? (i := 532) (by decide +kernel)), fun _ => (List.mem_of_getElem? (i := 533) (by decide +kernel)), fun h => absurd h (by decide), rfl, by decide +kernel, by decide +kernel, by decide +kernel, by decide +kernel, fun _ => by decide, by decide, by decide⟩
theorem kY_X12_cost : q_okY 0 M_X12_cost := ⟨(List.mem_of_getElem? (i := 538) (by decide +kernel)), (List.mem_of_getElem? (i := 84) (by decide +kernel)), fun h => absurd h (by decide), fun _ => (List.mem_of_getElem? (i := 536) (by decide +kernel)), fun _ => (List.mem_of_getElem? (i := 537) (by decide +kernel)), fun h => absurd h (by decide), rfl, by decide +kernel, by decide +kernel, by decide +kernel, by decide +kernel, fun _ => by decide, by decide, by decide⟩
theorem kY_X8_price : q_okY 0 M_X8_price := ⟨(List.mem_of_getElem? (i := 542) (by decide +kernel)), (List.mem_of_getElem? (i := 86) (by decide +kernel)), fun h => absurd h (by decide), fun _ => (List.mem_of_getElem? (i := 540) (by decide +kernel)), fun _ => (List.mem_of_getElem? (i := 541) (by decide +kernel)), fun h => absurd h (by decide), rfl, by decide +kernel, by decide +kernel, by decide +kernel, by decide +kernel, fun _ => by decide, by decide, by decide⟩
theorem kY_X8_priceOf : q_okY 1 M_X8_priceOf := ⟨(List.mem_of_getElem? (i := 545) (by decide +kernel)), (List.mem_of_getElem? (i := 86) (by decide +kernel)), fun _ => (List.mem_of_getElem? (i := 544) (by decide +kernel)), fun h => absurd rfl h, fun h => absurd h (by decide), fun h => absurd h (by decide), rfl, by decide +kernel, by decide +kernel, by decide +kernel, by decide +kernel, fun h => absurd rfl h, by decide, by decide⟩
theorem kY_X12_order : q_okY 0 M_X12_order := ⟨(List.mem_of_getElem? (i := 549) (by decide +kernel)), (List.mem_of_getElem? (i := 84) (by decide +kernel)), fun h => absurd h (by decide), fun _ => (List.mem_of_getElem? (i := 547) (by decide +kernel)), fun _ => (List.mem_of_getElem? (i := 548) (by decide +kernel)), fun h => absurd h (by decide), rfl, by decide +kernel, by decide +kernel, by decide +kernel, by decide +kernel, fun _ => by decide, by decide, by decide⟩
theorem kY_X2_leastSum : q_okY 0 M_X2_leastSum := ⟨(List.mem_of_getElem? (i := 553) (by decide +kernel)), (List.mem_of_getElem? (i := 91) (by decide +kernel)), fun h => absurd h (by decide), fun _ => (List.mem_of_getElem? (i := 551) (by decide +kernel)), fun _ => (List.mem_of_getElem? (i := 552) (by decide +kernel)), fun h => absurd h (by decide), rfl, by decide +kernel, by decide +kernel, by decide +kernel, by decide +kernel, fun _ => by decide, by decide, by decide⟩
theorem kY_J7_fill_53178 : q_okY 1 M_J7_fill_53178 := ⟨(List.mem_of_getElem? (i := 556) (by decide +kernel)), (List.mem_of_getElem? (i := 113) (by decide +kernel)), fun _ => (List.mem_of_getElem? (i := 555) (by decide +kernel)), fun h => absurd rfl h, fun h => absurd h (by decide), fun h => absurd h (by decide), rfl, by decide +kernel, by decide +kernel, by decide +kernel, by decide +kernel, fun h => absurd rfl h, by decide, by decide⟩
theorem kY_X2_goOn : q_okY 0 M_X2_goOn := ⟨(List.mem_of_getElem? (i := 560) (by decide +kernel)), (List.mem_of_getElem? (i := 91) (by decide +kernel)), fun h => absurd h (by decide), fun _ => (List.mem_of_getElem? (i := 559) (by decide +kernel)), fun _ => (List.mem_of_getElem? (i := 0) (by decide +kernel)), fun h => absurd h (by decide), rfl, by decide +kernel, by decide +kernel, by decide +kernel, by decide +kernel, fun _ => by decide, by decide, by decide⟩
theorem kY_X2_between : q_okY 0 M_X2_between := ⟨(List.mem_of_getElem? (i := 564) (by decide +kernel)), (List.mem_of_getElem? (i := 91) (by decide +kernel)), fun h => absurd h (by decide), fun _ => (List.mem_of_getElem? (i := 562) (by decide +kernel)), fun _ => (List.mem_of_getElem? (i := 563) (by decide +kernel)), fun h => absurd h (by decide), rfl, by decide +kernel, by decide +kernel, by decide +kernel, by decide +kernel, fun _ => by decide, by decide, by decide⟩
theorem kY_X2_lesser : q_okY 1 M_X2_lesser := ⟨(List.mem_of_getElem? (i := 567) (by decide +kernel)), (List.mem_of_getElem? (i := 91) (by decide +kernel)), fun _ => (List.mem_of_getElem? (i := 566) (by decide +kernel)), fun h => absurd rfl h, fun h => absurd h (by decide), fun h => absurd h (by decide), rfl, by decide +kernel, by decide +kernel, by decide +kernel, by decide +kernel, fun h => absurd rfl h, by decide, by decide⟩
theorem kY_X12_clear : q_okY 0 M_X12_clear := ⟨(List.mem_of_getElem? (i := 574) (by decide +kernel)), (List.mem_of_getElem? (i := 84) (by decide +kernel)), fun h => absurd h (by decide), fun _ => (List.mem_of_getElem? (i := 572) (by decide +kernel)), fun _ => (List.mem_of_getElem? (i := 573) (by decide +kernel)), fun h => absurd h (by decide), rfl, by decide +kernel, by decide +kernel, by decide +kernel, by decide +kernel, fun _ => by decide, by decide, by decide⟩
theorem kY_X12_shift : q_okY 0 M_X12_shift := ⟨(List.mem_of_getElem? (i := 578) (by decide +kernel)), (List.mem_of_getElem? (i := 84) (by decide +kernel)), fun h => absurd h (by decide), fun _ => (List.mem_of_getElem? (i := 576) (by decide +kernel)), fun _ => (List.mem_of_getElem? (i := 577) (by decide +kernel)), fun h => absurd h (by decide), rfl, by decide +kernel, by decide +kernel, by decide +kernel, by decide +kernel, fun _ => by decide, by decide, by decide⟩
theorem kY_X7_bestTurn : q_okY 0 M_X7_bestTurn := ⟨(List.mem_of_getElem? (i := 582) (by decide +kernel)), (List.mem_of_getElem? (i := 98) (by decide +kernel)), fun h => absurd h (by decide), fun _ => (List.mem_of_getElem? (i := 580) (by decide +kernel)), fun _ => (List.mem_of_getElem? (i := 581) (by decide +kernel)), fun h => absurd h (by decide), rfl, by decide +kernel, by decide +kernel, by decide +kernel, by decide +kernel, fun _ => by decide, by decide, by decide⟩
theorem kY_X7_unlike : q_okY 0 M_X7_unlike := ⟨(List.mem_of_getElem? (i := 586) (by decide +kernel)), (List.mem_of_getElem? (i := 98) (by decide +kernel)), fun h => absurd h (by decide), fun _ => (List.mem_of_getElem? (i := 584) (by decide +kernel)), fun _ => (List.mem_of_getElem? (i := 585) (by decide +kernel)), fun h => absurd h (by decide), rfl, by decide +kernel, by decide +kernel, by decide +kernel, by decide +kernel, fun _ => by decide, by decide, by decide⟩
theorem kY_X12_count : q_okY 0 M_X12_count := ⟨(List.mem_of_getElem? (i := 590) (by decide +kernel)), (List.mem_of_getElem? (i := 84) (by decide +kernel)), fun h => absurd h (by decide), fun _ => (List.mem_of_getElem? (i := 588) (by decide +kernel)), fun _ => (List.mem_of_getElem? (i := 589) (by decide +kernel)), fun h => absurd h (by decide), rfl, by decide +kernel, by decide +kernel, by decide +kernel, by decide +kernel, fun _ => by decide, by decide, by decide⟩
theorem kY_X11_dirtInTanks : q_okY 0 M_X11_dirtInTanks := ⟨(List.mem_of_getElem? (i := 594) (by decide +kernel)), (List.mem_of_getElem? (i := 92) (by decide +kernel)), fun h => absurd h (by decide), fun _ => (List.mem_of_getElem? (i := 592) (by decide +kernel)), fun _ => (List.mem_of_getElem? (i := 593) (by decide +kernel)), fun h => absurd h (by decide), rfl, by decide +kernel, by decide +kernel, by decide +kernel, by decide +kernel, fun _ => by decide, by decide, by decide⟩
theorem kY_X12_countWashed : q_okY 0 M_X12_countWashed := ⟨(List.mem_of_getElem? (i := 602) (by decide +kernel)), (List.mem_of_getElem? (i := 84) (by decide +kernel)), fun h => absurd h (by decide), fun _ => (List.mem_of_getElem? (i := 601) (by decide +kernel)), fun _ => (List.mem_of_getElem? (i := 1) (by decide +kernel)), fun h => absurd h (by decide), rfl, by decide +kernel, by decide +kernel, by decide +kernel, by decide +kernel, fun _ => by decide, by decide, by decide⟩
theorem kY_X12_cloth : q_okY 0 M_X12_cloth := ⟨(List.mem_of_getElem? (i := 626) (by decide +kernel)), (List.mem_of_getElem? (i := 84) (by decide +kernel)), fun h => absurd h (by decide), fun _ => (List.mem_of_getElem? (i := 624) (by decide +kernel)), fun _ => (List.mem_of_getElem? (i := 625) (by decide +kernel)), fun h => absurd h (by decide), rfl, by decide +kernel, by decide +kernel, by decide +kernel, by decide +kernel, fun _ => by decide, by decide, by decide⟩
theorem kY_X12_need : q_okY 1 M_X12_need := ⟨(List.mem_of_getElem? (i := 629) (by decide +kernel)), (List.mem_of_getElem? (i := 84) (by decide +kernel)), fun _ => (List.mem_of_getElem? (i := 628) (by decide +kernel)), fun h => absurd rfl h, fun h => absurd h (by decide), fun h => absurd h (by decide), rfl, by decide +kernel, by decide +kernel, by decide +kernel, by decide +kernel, fun h => absurd rfl h, by decide, by decide⟩
theorem kY_X12_needRoom : q_okY 1 M_X12_needRoom := ⟨(List.mem_of_getElem? (i := 701) (by decide +kernel)), (List.mem_of_getElem? (i := 84) (by decide +kernel)), fun _ => (List.mem_of_getElem? (i := 700) (by decide +kernel)), fun h => absurd rfl h, fun h => absurd h (by decide), fun h => absurd h (by decide), rfl, by decide +kernel, by decide +kernel, by decide +kernel, by decide +kernel, fun h => absurd rfl h, by decide, by decide⟩
theorem kY_X3_begin : q_okY 0 M_X3_begin := ⟨(List.mem_of_getElem? (i := 721) (by decide +kernel)), (List.mem_of_getElem? (i := 89) (by decide +kernel)), fun h => absurd h (by decide), fun _ => (List.mem_of_getElem? (i := 719) (by decide +kernel)), fun _ => (List.mem_of_getElem? (i := 720) (by decide +kernel)), fun h => absurd h (by decide), rfl, by decide +kernel, by decide +kernel, by decide +kernel, by decide +kernel, fun _ => by decide, by decide, by decide⟩
theorem kY_X12_recipe : q_okY 0 M_X12_recipe := ⟨(List.mem_of_getElem? (i := 728) (by decide +kernel)), (List.mem_of_getElem? (i := 84) (by decide +kernel)), fun h => absurd h (by decide), fun _ => (List.mem_of_getElem? (i := 726) (by decide +kernel)), fun _ => (List.mem_of_getElem? (i := 727) (by decide +kernel)), fun h => absurd h (by decide), rfl, by decide +kernel, by decide +kernel, by decide +kernel, by decide +kernel, fun _ => by decide, by decide, by decide⟩
theorem kY_X10_open : q_okY 0 M_X10_open := ⟨(List.mem_of_getElem? (i := 732) (by decide +kernel)), (List.mem_of_getElem? (i := 85) (by decide +kernel)), fun h => absurd h (by decide), fun _ => (List.mem_of_getElem? (i := 730) (by decide +kernel)), fun _ => (List.mem_of_getElem? (i := 731) (by decide +kernel)), fun h => absurd h (by decide), rfl, by decide +kernel, by decide +kernel, by decide +kernel, by decide +kernel, fun _ => by decide, by decide, by decide⟩
theorem kY_X8_read : q_okY 0 M_X8_read := ⟨(List.mem_of_getElem? (i := 736) (by decide +kernel)), (List.mem_of_getElem? (i := 86) (by decide +kernel)), fun h => absurd h (by decide), fun _ => (List.mem_of_getElem? (i := 734) (by decide +kernel)), fun _ => (List.mem_of_getElem? (i := 735) (by decide +kernel)), fun h => absurd h (by decide), rfl, by decide +kernel, by decide +kernel, by decide +kernel, by decide +kernel, fun _ => by decide, by decide, by decide⟩
theorem kY_X10_isBlank : q_okY 0 M_X10_isBlank := ⟨(List.mem_of_getElem? (i := 740) (by decide +kernel)), (List.mem_of_getElem? (i := 85) (by decide +kernel)), fun h => absurd h (by decide), fun _ => (List.mem_of_getElem? (i := 738) (by decide +kernel)), fun _ => (List.mem_of_getElem? (i := 739) (by decide +kernel)), fun h => absurd h (by decide), rfl, by decide +kernel, by decide +kernel, by decide +kernel, by decide +kernel, fun _ => by decide, by decide, by decide⟩
theorem kY_X10_skipBlanks : q_okY 0 M_X10_skipBlanks := ⟨(List.mem_of_getElem? (i := 744) (by decide +kernel)), (List.mem_of_getElem? (i := 85) (by decide +kernel)), fun h => absurd h (by decide), fun _ => (List.mem_of_getElem? (i := 743) (by decide +kernel)), fun _ => (List.mem_of_getElem? (i := 3) (by decide +kernel)), fun h => absurd h (by decide), rfl, by decide +kernel, by decide +kernel, by decide +kernel, by decide +kernel, fun _ => by decide, by decide, by decide⟩
theorem kY_X8_readBath : q_okY 0 M_X8_readBath := ⟨(List.mem_of_getElem? (i := 748) (by decide +kernel)), (List.mem_of_getElem? (i := 86) (by decide +kernel)), fun h => absurd h (by decide), fun _ => (List.mem_of_getElem? (i := 747) (by decide +kernel)), fun _ => (List.mem_of_getElem? (i := 4) (by decide +kernel)), fun h => absurd h (by decide), rfl, by decide +kernel, by decide +kernel, by decide +kernel, by decide +kernel, fun _ => by decide, by decide, by decide⟩
theorem kY_X10_refuseNext : q_okY 0 M_X10_refuseNext := ⟨(List.mem_of_getElem? (i := 752) (by decide +kernel)), (List.mem_of_getElem? (i := 85) (by decide +kernel)), fun h => absurd h (by decide), fun _ => (List.mem_of_getElem? (i := 750) (by decide +kernel)), fun _ => (List.mem_of_getElem? (i := 751) (by decide +kernel)), fun h => absurd h (by decide), rfl, by decide +kernel, by decide +kernel, by decide +kernel, by decide +kernel, fun _ => by decide, by decide, by decide⟩
theorem kY_X10_refuse : q_okY 0 M_X10_refuse := ⟨(List.mem_of_getElem? (i := 756) (by decide +kernel)), (List.mem_of_getElem? (i := 85) (by decide +kernel)), fun h => absurd h (by decide), fun _ => (List.mem_of_getElem? (i := 755) (by decide +kernel)), fun _ => (List.mem_of_getElem? (i := 5) (by decide +kernel)), fun h => absurd h (by decide), rfl, by decide +kernel, by decide +kernel, by decide +kernel, by decide +kernel, fun _ => by decide, by decide, by decide⟩
theorem kY_X10_pick : q_okY 0 M_X10_pick := ⟨(List.mem_of_getElem? (i := 761) (by decide +kernel)), (List.mem_of_getElem? (i := 85) (by decide +kernel)), fun h => absurd h (by decide), fun _ => (List.mem_of_getElem? (i := 759) (by decide +kernel)), fun _ => (List.mem_of_getElem? (i := 760) (by decide +kernel)), fun h => absurd h (by decide), rfl, by decide +kernel, by decide +kernel, by decide +kernel, by decide +kernel, fun _ => by decide, by decide, by decide⟩
theorem kY_X10_placeAmong : q_okY 0 M_X10_placeAmong := ⟨(List.mem_of_getElem? (i := 765) (by decide +kernel)), (List.mem_of_getElem? (i := 85) (by decide +kernel)), fun h => absurd h (by decide), fun _ => (List.mem_of_getElem? (i := 764) (by decide +kernel)), fun _ => (List.mem_of_getElem? (i := 6) (by decide +kernel)), fun h => absurd h (by decide), rfl, by decide +kernel, by decide +kernel, by decide +kernel, by decide +kernel, fun _ => by decide, by decide, by decide⟩
theorem kY_X10_number : q_okY 0 M_X10_number := ⟨(List.mem_of_getElem? (i := 815) (by decide +kernel)), (List.mem_of_getElem? (i := 85) (by decide +kernel)), fun h => absurd h (by decide), fun _ => (List.mem_of_getElem? (i := 813) (by decide +kernel)), fun _ => (List.mem_of_getElem? (i := 814) (by decide +kernel)), fun h => absurd h (by decide), rfl, by decide +kernel, by decide +kernel, by decide +kernel, by decide +kernel, fun _ => by decide, by decide, by decide⟩
theorem kY_X8_add : q_okY 0 M_X8_add := ⟨(List.mem_of_getElem? (i := 819) (by decide +kernel)), (List.mem_of_getElem? (i := 86) (by decide +kernel)), fun h => absurd h (by decide), fun _ => (List.mem_of_getElem? (i := 818) (by decide +kernel)), fun _ => (List.mem_of_getElem? (i := 7) (by decide +kernel)), fun h => absurd h (by decide), rfl, by decide +kernel, by decide +kernel, by decide +kernel, by decide +kernel, fun _ => by decide, by decide, by decide⟩
theorem kY_X10_goesOn : q_okY 0 M_X10_goesOn := ⟨(List.mem_of_getElem? (i := 823) (by decide +kernel)), (List.mem_of_getElem? (i := 85) (by decide +kernel)), fun h => absurd h (by decide), fun _ => (List.mem_of_getElem? (i := 821) (by decide +kernel)), fun _ => (List.mem_of_getElem? (i := 822) (by decide +kernel)), fun h => absurd h (by decide), rfl, by decide +kernel, by decide +kernel, by decide +kernel, by decide +kernel, fun _ => by decide, by decide, by decide⟩
theorem kY_X12_look : q_okY 0 M_X12_look := ⟨(List.mem_of_getElem? (i := 832) (by decide +kernel)), (List.mem_of_getElem? (i := 84) (by decide +kernel)), fun h => absurd h (by decide), fun _ => (List.mem_of_getElem? (i := 830) (by decide +kernel)), fun _ => (List.mem_of_getElem? (i := 831) (by decide +kernel)), fun h => absurd h (by decide), rfl, by decide +kernel, by decide +kernel, by decide +kernel, by decide +kernel, fun _ => by decide, by decide, by decide⟩
theorem kY_X12_needIndex : q_okY 1 M_X12_needIndex := ⟨(List.mem_of_getElem? (i := 835) (by decide +kernel)), (List.mem_of_getElem? (i := 84) (by decide +kernel)), fun _ => (List.mem_of_getElem? (i := 834) (by decide +kernel)), fun h => absurd rfl h, fun h => absurd h (by decide), fun h => absurd h (by decide), rfl, by decide +kernel, by decide +kernel, by decide +kernel, by decide +kernel, fun h => absurd rfl h, by decide, by decide⟩
theorem kY_X12_needWhat : q_okY 1 M_X12_needWhat := ⟨(List.mem_of_getElem? (i := 854) (by decide +kernel)), (List.mem_of_getElem? (i := 84) (by decide +kernel)), fun _ => (List.mem_of_getElem? (i := 853) (by decide +kernel)), fun h => absurd rfl h, fun h => absurd h (by decide), fun h => absurd h (by decide), rfl, by decide +kernel, by decide +kernel, by decide +kernel, by decide +kernel, fun h => absurd rfl h, by decide, by decide⟩
theorem kY_X12_tryRecipe : q_okY 0 M_X12_tryRecipe := ⟨(List.mem_of_getElem? (i := 874) (by decide +kernel)), (List.mem_of_getElem? (i := 84) (by decide +kernel)), fun h => absurd h (by decide), fun _ => (List.mem_of_getElem? (i := 873) (by decide +kernel)), fun _ => (List.mem_of_getElem? (i := 8) (by decide +kernel)), fun h => absurd h (by decide), rfl, by decide +kernel, by decide +kernel, by decide +kernel, by decide +kernel, fun _ => by decide, by decide, by decide⟩
theorem kY_X3_copy : q_okY 0 M_X3_copy := ⟨(List.mem_of_getElem? (i := 878) (by decide +kernel)), (List.mem_of_getElem? (i := 89) (by decide +kernel)), fun h => absurd h (by decide), fun _ => (List.mem_of_getElem? (i := 876) (by decide +kernel)), fun _ => (List.mem_of_getElem? (i := 877) (by decide +kernel)), fun h => absurd h (by decide), rfl, by decide +kernel, by decide +kernel, by decide +kernel, by decide +kernel, fun _ => by decide, by decide, by decide⟩
theorem kY_X3_take : q_okY 0 M_X3_take := ⟨(List.mem_of_getElem? (i := 883) (by decide +kernel)), (List.mem_of_getElem? (i := 89) (by decide +kernel)), fun h => absurd h (by decide), fun _ => (List.mem_of_getElem? (i := 881) (by decide +kernel)), fun _ => (List.mem_of_getElem? (i := 882) (by decide +kernel)), fun h => absurd h (by decide), rfl, by decide +kernel, by decide +kernel, by decide +kernel, by decide +kernel, fun _ => by decide, by decide, by decide⟩
theorem kY_X3_fade : q_okY 0 M_X3_fade := ⟨(List.mem_of_getElem? (i := 887) (by decide +kernel)), (List.mem_of_getElem? (i := 89) (by decide +kernel)), fun h => absurd h (by decide), fun _ => (List.mem_of_getElem? (i := 886) (by decide +kernel)), fun _ => (List.mem_of_getElem? (i := 9) (by decide +kernel)), fun h => absurd h (by decide), rfl, by decide +kernel, by decide +kernel, by decide +kernel, by decide +kernel, fun _ => by decide, by decide, by decide⟩
theorem kY_X3_wear : q_okY 0 M_X3_wear := ⟨(List.mem_of_getElem? (i := 892) (by decide +kernel)), (List.mem_of_getElem? (i := 89) (by decide +kernel)), fun h => absurd h (by decide), fun _ => (List.mem_of_getElem? (i := 891) (by decide +kernel)), fun _ => (List.mem_of_getElem? (i := 10) (by decide +kernel)), fun h => absurd h (by decide), rfl, by decide +kernel, by decide +kernel, by decide +kernel, by decide +kernel, fun _ => by decide, by decide, by decide⟩
theorem kY_X3_part : q_okY 0 M_X3_part := ⟨(List.mem_of_getElem? (i := 896) (by decide +kernel)), (List.mem_of_getElem? (i := 89) (by decide +kernel)), fun h => absurd h (by decide), fun _ => (List.mem_of_getElem? (i := 894) (by decide +kernel)), fun _ => (List.mem_of_getElem? (i := 895) (by decide +kernel)), fun h => absurd h (by decide), rfl, by decide +kernel, by decide +kernel, by decide +kernel, by decide +kernel, fun _ => by decide, by decide, by decide⟩
theorem kY_X12_meets : q_okY 0 M_X12_meets := ⟨(List.mem_of_getElem? (i := 903) (by decide +kernel)), (List.mem_of_getElem? (i := 84) (by decide +kernel)), fun h => absurd h (by decide), fun _ => (List.mem_of_getElem? (i := 901) (by decide +kernel)), fun _ => (List.mem_of_getElem? (i := 902) (by decide +kernel)), fun h => absurd h (by decide), rfl, by decide +kernel, by decide +kernel, by decide +kernel, by decide +kernel, fun _ => by decide, by decide, by decide⟩
theorem kY_X12_needWish : q_okY 1 M_X12_needWish := ⟨(List.mem_of_getElem? (i := 906) (by decide +kernel)), (List.mem_of_getElem? (i := 84) (by decide +kernel)), fun _ => (List.mem_of_getElem? (i := 905) (by decide +kernel)), fun h => absurd rfl h, fun h => absurd h (by decide), fun h => absurd h (by decide), rfl, by decide +kernel, by decide +kernel, by decide +kernel, by decide +kernel, fun h => absurd rfl h, by decide, by decide⟩
theorem kY_X3_surelyMeets : q_okY 0 M_X3_surelyMeets := ⟨(List.mem_of_getElem? (i := 910) (by decide +kernel)), (List.mem_of_getElem? (i := 89) (by decide +kernel)), fun h => absurd h (by decide), fun _ => (List.mem_of_getElem? (i := 908) (by decide +kernel)), fun _ => (List.mem_of_getElem? (i := 909) (by decide +kernel)), fun h => absurd h (by decide), rfl, by decide +kernel, by decide +kernel, by decide +kernel, by decide +kernel, fun _ => by decide, by decide, by decide⟩
theorem kY_X12_cheapest : q_okY 0 M_X12_cheapest := ⟨(List.mem_of_getElem? (i := 917) (by decide +kernel)), (List.mem_of_getElem? (i := 84) (by decide +kernel)), fun h => absurd h (by decide), fun _ => (List.mem_of_getElem? (i := 915) (by decide +kernel)), fun _ => (List.mem_of_getElem? (i := 916) (by decide +kernel)), fun h => absurd h (by decide), rfl, by decide +kernel, by decide +kernel, by decide +kernel, by decide +kernel, fun _ => by decide, by decide, by decide⟩
theorem kY_X12_searchFor : q_okY 0 M_X12_searchFor := ⟨(List.mem_of_getElem? (i := 921) (by decide +kernel)), (List.mem_of_getElem? (i := 84) (by decide +kernel)), fun h => absurd h (by decide), fun _ => (List.mem_of_getElem? (i := 920) (by decide +kernel)), fun _ => (List.mem_of_getElem? (i := 11) (by decide +kernel)), fun h => absurd h (by decide), rfl, by decide +kernel, by decide +kernel, by decide +kernel, by decide +kernel, fun _ => by decide, by decide, by decide⟩
theorem kY_X9_wishFor : q_okY 0 M_X9_wishFor := ⟨(List.mem_of_getElem? (i := 925) (by decide +kernel)), (List.mem_of_getElem? (i := 90) (by decide +kernel)), fun h => absurd h (by decide), fun _ => (List.mem_of_getElem? (i := 923) (by decide +kernel)), fun _ => (List.mem_of_getElem? (i := 924) (by decide +kernel)), fun h => absurd h (by decide), rfl, by decide +kernel, by decide +kernel, by decide +kernel, by decide +kernel, fun _ => by decide, by decide, by decide⟩
theorem kY_X9_run : q_okY 0 M_X9_run := ⟨(List.mem_of_getElem? (i := 929) (by decide +kernel)), (List.mem_of_getElem? (i := 90) (by decide +kernel)), fun h => absurd h (by decide), fun _ => (List.mem_of_getElem? (i := 927) (by decide +kernel)), fun _ => (List.mem_of_getElem? (i := 928) (by decide +kernel)), fun h => absurd h (by decide), rfl, by decide +kernel, by decide +kernel, by decide +kernel, by decide +kernel, fun _ => by decide, by decide, by decide⟩
theorem kY_X9_descend : q_okY 0 M_X9_descend := ⟨(List.mem_of_getElem? (i := 935) (by decide +kernel)), (List.mem_of_getElem? (i := 90) (by decide +kernel)), fun h => absurd h (by decide), fun _ => (List.mem_of_getElem? (i := 934) (by decide +kernel)), fun _ => (List.mem_of_getElem? (i := 12) (by decide +kernel)), fun h => absurd h (by decide), rfl, by decide +kernel, by decide +kernel, by decide +kernel, by decide +kernel, fun _ => by decide, by decide, by decide⟩
theorem kY_X9_keepIfBetter : q_okY 0 M_X9_keepIfBetter := ⟨(List.mem_of_getElem? (i := 940) (by decide +kernel)), (List.mem_of_getElem? (i := 90) (by decide +kernel)), fun h => absurd h (by decide), fun _ => (List.mem_of_getElem? (i := 939) (by decide +kernel)), fun _ => (List.mem_of_getElem? (i := 13) (by decide +kernel)), fun h => absurd h (by decide), rfl, by decide +kernel, by decide +kernel, by decide +kernel, by decide +kernel, fun _ => by decide, by decide, by decide⟩
theorem kY_X12_bath : q_okY 0 M_X12_bath := ⟨(List.mem_of_getElem? (i := 954) (by decide +kernel)), (List.mem_of_getElem? (i := 84) (by decide +kernel)), fun h => absurd h (by decide), fun _ => (List.mem_of_getElem? (i := 952) (by decide +kernel)), fun _ => (List.mem_of_getElem? (i := 953) (by decide +kernel)), fun h => absurd h (by decide), rfl, by decide +kernel, by decide +kernel, by decide +kernel, by decide +kernel, fun _ => by decide, by decide, by decide⟩
theorem kY_X9_bestBath : q_okY 0 M_X9_bestBath := ⟨(List.mem_of_getElem? (i := 958) (by decide +kernel)), (List.mem_of_getElem? (i := 90) (by decide +kernel)), fun h => absurd h (by decide), fun _ => (List.mem_of_getElem? (i := 956) (by decide +kernel)), fun _ => (List.mem_of_getElem? (i := 957) (by decide +kernel)), fun h => absurd h (by decide), rfl, by decide +kernel, by decide +kernel, by decide +kernel, by decide +kernel, fun _ => by decide, by decide, by decide⟩
theorem kY_X12_carry : q_okY 0 M_X12_carry := ⟨(List.mem_of_getElem? (i := 965) (by decide +kernel)), (List.mem_of_getElem? (i := 84) (by decide +kernel)), fun h => absurd h (by decide), fun _ => (List.mem_of_getElem? (i := 963) (by decide +kernel)), fun _ => (List.mem_of_getElem? (i := 964) (by decide +kernel)), fun h => absurd h (by decide), rfl, by decide +kernel, by decide +kernel, by decide +kernel, by decide +kernel, fun _ => by decide, by decide, by decide⟩
theorem kY_X2_tell : q_okY 0 M_X2_tell := ⟨(List.mem_of_getElem? (i := 969) (by decide +kernel)), (List.mem_of_getElem? (i := 91) (by decide +kernel)), fun h => absurd h (by decide), fun _ => (List.mem_of_getElem? (i := 967) (by decide +kernel)), fun _ => (List.mem_of_getElem? (i := 968) (by decide +kernel)), fun h => absurd h (by decide), rfl, by decide +kernel, by decide +kernel, by decide +kernel, by decide +kernel, fun _ => by decide, by decide, by decide⟩
theorem kY_X12_batch : q_okY 0 M_X12_batch := ⟨(List.mem_of_getElem? (i := 976) (by decide +kernel)), (List.mem_of_getElem? (i := 84) (by decide +kernel)), fun h => absurd h (by decide), fun _ => (List.mem_of_getElem? (i := 974) (by decide +kernel)), fun _ => (List.mem_of_getElem? (i := 975) (by decide +kernel)), fun h => absurd h (by decide), rfl, by decide +kernel, by decide +kernel, by decide +kernel, by decide +kernel, fun _ => by decide, by decide, by decide⟩
theorem kY_X2_addBatch : q_okY 0 M_X2_addBatch := ⟨(List.mem_of_getElem? (i := 980) (by decide +kernel)), (List.mem_of_getElem? (i := 91) (by decide +kernel)), fun h => absurd h (by decide), fun _ => (List.mem_of_getElem? (i := 978) (by decide +kernel)), fun _ => (List.mem_of_getElem? (i := 979) (by decide +kernel)), fun h => absurd h (by decide), rfl, by decide +kernel, by decide +kernel, by decide +kernel, by decide +kernel, fun _ => by decide, by decide, by decide⟩
theorem kY_X12_tank : q_okY 0 M_X12_tank := ⟨(List.mem_of_getElem? (i := 987) (by decide +kernel)), (List.mem_of_getElem? (i := 84) (by decide +kernel)), fun h => absurd h (by decide), fun _ => (List.mem_of_getElem? (i := 985) (by decide +kernel)), fun _ => (List.mem_of_getElem? (i := 986) (by decide +kernel)), fun h => absurd h (by decide), rfl, by decide +kernel, by decide +kernel, by decide +kernel, by decide +kernel, fun _ => by decide, by decide, by decide⟩
theorem kY_X11_add : q_okY 0 M_X11_add := ⟨(List.mem_of_getElem? (i := 991) (by decide +kernel)), (List.mem_of_getElem? (i := 92) (by decide +kernel)), fun h => absurd h (by decide), fun _ => (List.mem_of_getElem? (i := 989) (by decide +kernel)), fun _ => (List.mem_of_getElem? (i := 990) (by decide +kernel)), fun h => absurd h (by decide), rfl, by decide +kernel, by decide +kernel, by decide +kernel, by decide +kernel, fun _ => by decide, by decide, by decide⟩
theorem kY_X12_draw : q_okY 0 M_X12_draw := ⟨(List.mem_of_getElem? (i := 998) (by decide +kernel)), (List.mem_of_getElem? (i := 84) (by decide +kernel)), fun h => absurd h (by decide), fun _ => (List.mem_of_getElem? (i := 996) (by decide +kernel)), fun _ => (List.mem_of_getElem? (i := 997) (by decide +kernel)), fun h => absurd h (by decide), rfl, by decide +kernel, by decide +kernel, by decide +kernel, by decide +kernel, fun _ => by decide, by decide, by decide⟩
theorem kY_X11_takeOut : q_okY 0 M_X11_takeOut := ⟨(List.mem_of_getElem? (i := 1002) (by decide +kernel)), (List.mem_of_getElem? (i := 92) (by decide +kernel)), fun h => absurd h (by decide), fun _ => (List.mem_of_getElem? (i := 1000) (by decide +kernel)), fun _ => (List.mem_of_getElem? (i := 1001) (by decide +kernel)), fun h => absurd h (by decide), rfl, by decide +kernel, by decide +kernel, by decide +kernel, by decide +kernel, fun _ => by decide, by decide, by decide⟩
theorem kY_X11_dirtiest : q_okY 0 M_X11_dirtiest := ⟨(List.mem_of_getElem? (i := 1006) (by decide +kernel)), (List.mem_of_getElem? (i := 92) (by decide +kernel)), fun h => absurd h (by decide), fun _ => (List.mem_of_getElem? (i := 1005) (by decide +kernel)), fun _ => (List.mem_of_getElem? (i := 14) (by decide +kernel)), fun h => absurd h (by decide), rfl, by decide +kernel, by decide +kernel, by decide +kernel, by decide +kernel, fun _ => by decide, by decide, by decide⟩
theorem kY_X11_isDirtier : q_okY 0 M_X11_isDirtier := ⟨(List.mem_of_getElem? (i := 1011) (by decide +kernel)), (List.mem_of_getElem? (i := 92) (by decide +kernel)), fun h => absurd h (by decide), fun _ => (List.mem_of_getElem? (i := 1010) (by decide +kernel)), fun _ => (List.mem_of_getElem? (i := 15) (by decide +kernel)), fun h => absurd h (by decide), rfl, by decide +kernel, by decide +kernel, by decide +kernel, by decide +kernel, fun _ => by decide, by decide, by decide⟩
theorem kY_X11_partUp : q_okY 1 M_X11_partUp := ⟨(List.mem_of_getElem? (i := 1015) (by decide +kernel)), (List.mem_of_getElem? (i := 92) (by decide +kernel)), fun _ => (List.mem_of_getElem? (i := 1014) (by decide +kernel)), fun h => absurd rfl h, fun h => absurd h (by decide), fun h => absurd h (by decide), rfl, by decide +kernel, by decide +kernel, by decide +kernel, by decide +kernel, fun h => absurd rfl h, by decide, by decide⟩
theorem kY_X12_pour : q_okY 0 M_X12_pour := ⟨(List.mem_of_getElem? (i := 1022) (by decide +kernel)), (List.mem_of_getElem? (i := 84) (by decide +kernel)), fun h => absurd h (by decide), fun _ => (List.mem_of_getElem? (i := 1020) (by decide +kernel)), fun _ => (List.mem_of_getElem? (i := 1021) (by decide +kernel)), fun h => absurd h (by decide), rfl, by decide +kernel, by decide +kernel, by decide +kernel, by decide +kernel, fun _ => by decide, by decide, by decide⟩
theorem kY_X11_putIn : q_okY 0 M_X11_putIn := ⟨(List.mem_of_getElem? (i := 1027) (by decide +kernel)), (List.mem_of_getElem? (i := 92) (by decide +kernel)), fun h => absurd h (by decide), fun _ => (List.mem_of_getElem? (i := 1025) (by decide +kernel)), fun _ => (List.mem_of_getElem? (i := 1026) (by decide +kernel)), fun h => absurd h (by decide), rfl, by decide +kernel, by decide +kernel, by decide +kernel, by decide +kernel, fun _ => by decide, by decide, by decide⟩
theorem kY_X11_runOff : q_okY 0 M_X11_runOff := ⟨(List.mem_of_getElem? (i := 1032) (by decide +kernel)), (List.mem_of_getElem? (i := 92) (by decide +kernel)), fun h => absurd h (by decide), fun _ => (List.mem_of_getElem? (i := 1031) (by decide +kernel)), fun _ => (List.mem_of_getElem? (i := 16) (by decide +kernel)), fun h => absurd h (by decide), rfl, by decide +kernel, by decide +kernel, by decide +kernel, by decide +kernel, fun _ => by decide, by decide, by decide⟩
theorem kY_X12_has : q_okY 0 M_X12_has := ⟨(List.mem_of_getElem? (i := 1039) (by decide +kernel)), (List.mem_of_getElem? (i := 84) (by decide +kernel)), fun h => absurd h (by decide), fun _ => (List.mem_of_getElem? (i := 1037) (by decide +kernel)), fun _ => (List.mem_of_getElem? (i := 1038) (by decide +kernel)), fun h => absurd h (by decide), rfl, by decide +kernel, by decide +kernel, by decide +kernel, by decide +kernel, fun _ => by decide, by decide, by decide⟩
theorem kY_X11_part : q_okY 0 M_X11_part := ⟨(List.mem_of_getElem? (i := 1043) (by decide +kernel)), (List.mem_of_getElem? (i := 92) (by decide +kernel)), fun h => absurd h (by decide), fun _ => (List.mem_of_getElem? (i := 1041) (by decide +kernel)), fun _ => (List.mem_of_getElem? (i := 1042) (by decide +kernel)), fun h => absurd h (by decide), rfl, by decide +kernel, by decide +kernel, by decide +kernel, by decide +kernel, fun _ => by decide, by decide, by decide⟩
theorem kY_X12_garment : q_okY 0 M_X12_garment := ⟨(List.mem_of_getElem? (i := 1050) (by decide +kernel)), (List.mem_of_getElem? (i := 84) (by decide +kernel)), fun h => absurd h (by decide), fun _ => (List.mem_of_getElem? (i := 1048) (by decide +kernel)), fun _ => (List.mem_of_getElem? (i := 1049) (by decide +kernel)), fun h => absurd h (by decide), rfl, by decide +kernel, by decide +kernel, by decide +kernel, by decide +kernel, fun _ => by decide, by decide, by decide⟩
theorem kY_X0_add : q_okY 0 M_X0_add := ⟨(List.mem_of_getElem? (i := 1054) (by decide +kernel)), (List.mem_of_getElem? (i := 93) (by decide +kernel)), fun h => absurd h (by decide), fun _ => (List.mem_of_getElem? (i := 1052) (by decide +kernel)), fun _ => (List.mem_of_getElem? (i := 1053) (by decide +kernel)), fun h => absurd h (by decide), rfl, by decide +kernel, by decide +kernel, by decide +kernel, by decide +kernel, fun _ => by decide, by decide, by decide⟩
theorem kY_X12_spread : q_okY 0 M_X12_spread := ⟨(List.mem_of_getElem? (i := 1061) (by decide +kernel)), (List.mem_of_getElem? (i := 84) (by decide +kernel)), fun h => absurd h (by decide), fun _ => (List.mem_of_getElem? (i := 1059) (by decide +kernel)), fun _ => (List.mem_of_getElem? (i := 1060) (by decide +kernel)), fun h => absurd h (by decide), rfl, by decide +kernel, by decide +kernel, by decide +kernel, by decide +kernel, fun _ => by decide, by decide, by decide⟩
theorem kY_X0_leastSpread : q_okY 0 M_X0_leastSpread := ⟨(List.mem_of_getElem? (i := 1065) (by decide +kernel)), (List.mem_of_getElem? (i := 93) (by decide +kernel)), fun h => absurd h (by decide), fun _ => (List.mem_of_getElem? (i := 1063) (by decide +kernel)), fun _ => (List.mem_of_getElem? (i := 1064) (by decide +kernel)), fun h => absurd h (by decide), rfl, by decide +kernel, by decide +kernel, by decide +kernel, by decide +kernel, fun _ => by decide, by decide, by decide⟩
theorem kY_X0_sorts : q_okY 0 M_X0_sorts := ⟨(List.mem_of_getElem? (i := 1069) (by decide +kernel)), (List.mem_of_getElem? (i := 93) (by decide +kernel)), fun h => absurd h (by decide), fun _ => (List.mem_of_getElem? (i := 1068) (by decide +kernel)), fun _ => (List.mem_of_getElem? (i := 17) (by decide +kernel)), fun h => absurd h (by decide), rfl, by decide +kernel, by decide +kernel, by decide +kernel, by decide +kernel, fun _ => by decide, by decide, by decide⟩
theorem kY_X12_packs : q_okY 0 M_X12_packs := ⟨(List.mem_of_getElem? (i := 1076) (by decide +kernel)), (List.mem_of_getElem? (i := 84) (by decide +kernel)), fun h => absurd h (by decide), fun _ => (List.mem_of_getElem? (i := 1074) (by decide +kernel)), fun _ => (List.mem_of_getElem? (i := 1075) (by decide +kernel)), fun h => absurd h (by decide), rfl, by decide +kernel, by decide +kernel, by decide +kernel, by decide +kernel, fun _ => by decide, by decide, by decide⟩
theorem kY_X0_fullPacks : q_okY 0 M_X0_fullPacks := ⟨(List.mem_of_getElem? (i := 1080) (by decide +kernel)), (List.mem_of_getElem? (i := 93) (by decide +kernel)), fun h => absurd h (by decide), fun _ => (List.mem_of_getElem? (i := 1078) (by decide +kernel)), fun _ => (List.mem_of_getElem? (i := 1079) (by decide +kernel)), fun h => absurd h (by decide), rfl, by decide +kernel, by decide +kernel, by decide +kernel, by decide +kernel, fun _ => by decide, by decide, by decide⟩
theorem kY_X12_house : q_okY 0 M_X12_house := ⟨(List.mem_of_getElem? (i := 1087) (by decide +kernel)), (List.mem_of_getElem? (i := 84) (by decide +kernel)), fun h => absurd h (by decide), fun _ => (List.mem_of_getElem? (i := 1085) (by decide +kernel)), fun _ => (List.mem_of_getElem? (i := 1086) (by decide +kernel)), fun h => absurd h (by decide), rfl, by decide +kernel, by decide +kernel, by decide +kernel, by decide +kernel, fun _ => by decide, by decide, by decide⟩
theorem kY_X1_read : q_okY 0 M_X1_read := ⟨(List.mem_of_getElem? (i := 1091) (by decide +kernel)), (List.mem_of_getElem? (i := 88) (by decide +kernel)), fun h => absurd h (by decide), fun _ => (List.mem_of_getElem? (i := 1089) (by decide +kernel)), fun _ => (List.mem_of_getElem? (i := 1090) (by decide +kernel)), fun h => absurd h (by decide), rfl, by decide +kernel, by decide +kernel, by decide +kernel, by decide +kernel, fun _ => by decide, by decide, by decide⟩
theorem kY_X1_readRule : q_okY 0 M_X1_readRule := ⟨(List.mem_of_getElem? (i := 1097) (by decide +kernel)), (List.mem_of_getElem? (i := 88) (by decide +kernel)), fun h => absurd h (by decide), fun _ => (List.mem_of_getElem? (i := 1096) (by decide +kernel)), fun _ => (List.mem_of_getElem? (i := 18) (by decide +kernel)), fun h => absurd h (by decide), rfl, by decide +kernel, by decide +kernel, by decide +kernel, by decide +kernel, fun _ => by decide, by decide, by decide⟩
theorem kY_X1_readOfBath : q_okY 0 M_X1_readOfBath := ⟨(List.mem_of_getElem? (i := 1104) (by decide +kernel)), (List.mem_of_getElem? (i := 88) (by decide +kernel)), fun h => absurd h (by decide), fun _ => (List.mem_of_getElem? (i := 1103) (by decide +kernel)), fun _ => (List.mem_of_getElem? (i := 19) (by decide +kernel)), fun h => absurd h (by decide), rfl, by decide +kernel, by decide +kernel, by decide +kernel, by decide +kernel, fun _ => by decide, by decide, by decide⟩
theorem kY_X1_readPours : q_okY 0 M_X1_readPours := ⟨(List.mem_of_getElem? (i := 1110) (by decide +kernel)), (List.mem_of_getElem? (i := 88) (by decide +kernel)), fun h => absurd h (by decide), fun _ => (List.mem_of_getElem? (i := 1109) (by decide +kernel)), fun _ => (List.mem_of_getElem? (i := 20) (by decide +kernel)), fun h => absurd h (by decide), rfl, by decide +kernel, by decide +kernel, by decide +kernel, by decide +kernel, fun _ => by decide, by decide, by decide⟩
theorem kY_X1_readAgain : q_okY 0 M_X1_readAgain := ⟨(List.mem_of_getElem? (i := 1115) (by decide +kernel)), (List.mem_of_getElem? (i := 88) (by decide +kernel)), fun h => absurd h (by decide), fun _ => (List.mem_of_getElem? (i := 1114) (by decide +kernel)), fun _ => (List.mem_of_getElem? (i := 21) (by decide +kernel)), fun h => absurd h (by decide), rfl, by decide +kernel, by decide +kernel, by decide +kernel, by decide +kernel, fun _ => by decide, by decide, by decide⟩
theorem kY_X12_tells : q_okY 0 M_X12_tells := ⟨(List.mem_of_getElem? (i := 1126) (by decide +kernel)), (List.mem_of_getElem? (i := 84) (by decide +kernel)), fun h => absurd h (by decide), fun _ => (List.mem_of_getElem? (i := 1124) (by decide +kernel)), fun _ => (List.mem_of_getElem? (i := 1125) (by decide +kernel)), fun h => absurd h (by decide), rfl, by decide +kernel, by decide +kernel, by decide +kernel, by decide +kernel, fun _ => by decide, by decide, by decide⟩
theorem kY_X1_value : q_okY 0 M_X1_value := ⟨(List.mem_of_getElem? (i := 1130) (by decide +kernel)), (List.mem_of_getElem? (i := 88) (by decide +kernel)), fun h => absurd h (by decide), fun _ => (List.mem_of_getElem? (i := 1128) (by decide +kernel)), fun _ => (List.mem_of_getElem? (i := 1129) (by decide +kernel)), fun h => absurd h (by decide), rfl, by decide +kernel, by decide +kernel, by decide +kernel, by decide +kernel, fun _ => by decide, by decide, by decide⟩
theorem kY_X12_machine : q_okY 0 M_X12_machine := ⟨(List.mem_of_getElem? (i := 1137) (by decide +kernel)), (List.mem_of_getElem? (i := 84) (by decide +kernel)), fun h => absurd h (by decide), fun _ => (List.mem_of_getElem? (i := 1135) (by decide +kernel)), fun _ => (List.mem_of_getElem? (i := 1136) (by decide +kernel)), fun h => absurd h (by decide), rfl, by decide +kernel, by decide +kernel, by decide +kernel, by decide +kernel, fun _ => by decide, by decide, by decide⟩
theorem kY_X12_lot : q_okY 0 M_X12_lot := ⟨(List.mem_of_getElem? (i := 1144) (by decide +kernel)), (List.mem_of_getElem? (i := 84) (by decide +kernel)), fun h => absurd h (by decide), fun _ => (List.mem_of_getElem? (i := 1142) (by decide +kernel)), fun _ => (List.mem_of_getElem? (i := 1143) (by decide +kernel)), fun h => absurd h (by decide), rfl, by decide +kernel, by decide +kernel, by decide +kernel, by decide +kernel, fun _ => by decide, by decide, by decide⟩
theorem kY_X4_init : q_okY 2 M_X4_init := ⟨(List.mem_of_getElem? (i := 1148) (by decide +kernel)), (List.mem_of_getElem? (i := 114) (by decide +kernel)), fun h => absurd h (by decide), fun _ => (List.mem_of_getElem? (i := 1147) (by decide +kernel)), fun h => absurd h (by decide), fun _ => ⟨rfl, rfl⟩, rfl, by decide +kernel, by decide +kernel, by decide +kernel, by decide +kernel, fun _ => by decide, by decide, by decide⟩
theorem kY_X4_wishFor : q_okY 0 M_X4_wishFor := ⟨(List.mem_of_getElem? (i := 1226) (by decide +kernel)), (List.mem_of_getElem? (i := 114) (by decide +kernel)), fun h => absurd h (by decide), fun _ => (List.mem_of_getElem? (i := 1224) (by decide +kernel)), fun _ => (List.mem_of_getElem? (i := 1225) (by decide +kernel)), fun h => absurd h (by decide), rfl, by decide +kernel, by decide +kernel, by decide +kernel, by decide +kernel, fun _ => by decide, by decide, by decide⟩
theorem kY_X8_copy : q_okY 0 M_X8_copy := ⟨(List.mem_of_getElem? (i := 1230) (by decide +kernel)), (List.mem_of_getElem? (i := 86) (by decide +kernel)), fun h => absurd h (by decide), fun _ => (List.mem_of_getElem? (i := 1228) (by decide +kernel)), fun _ => (List.mem_of_getElem? (i := 1229) (by decide +kernel)), fun h => absurd h (by decide), rfl, by decide +kernel, by decide +kernel, by decide +kernel, by decide +kernel, fun _ => by decide, by decide, by decide⟩
theorem kY_X12_addLot : q_okY 0 M_X12_addLot := ⟨(List.mem_of_getElem? (i := 1234) (by decide +kernel)), (List.mem_of_getElem? (i := 84) (by decide +kernel)), fun h => absurd h (by decide), fun _ => (List.mem_of_getElem? (i := 1233) (by decide +kernel)), fun _ => (List.mem_of_getElem? (i := 22) (by decide +kernel)), fun h => absurd h (by decide), rfl, by decide +kernel, by decide +kernel, by decide +kernel, by decide +kernel, fun _ => by decide, by decide, by decide⟩
theorem kY_J7_copyOf_1904c : q_okY 1 M_J7_copyOf_1904c := ⟨(List.mem_of_getElem? (i := 1261) (by decide +kernel)), (List.mem_of_getElem? (i := 113) (by decide +kernel)), fun _ => (List.mem_of_getElem? (i := 1260) (by decide +kernel)), fun h => absurd rfl h, fun h => absurd h (by decide), fun h => absurd h (by decide), rfl, by decide +kernel, by decide +kernel, by decide +kernel, by decide +kernel, fun h => absurd rfl h, by decide, by decide⟩
theorem kY_J7_copyOf_6403c : q_okY 1 M_J7_copyOf_6403c := ⟨(List.mem_of_getElem? (i := 1288) (by decide +kernel)), (List.mem_of_getElem? (i := 113) (by decide +kernel)), fun _ => (List.mem_of_getElem? (i := 1287) (by decide +kernel)), fun h => absurd rfl h, fun h => absurd h (by decide), fun h => absurd h (by decide), rfl, by decide +kernel, by decide +kernel, by decide +kernel, by decide +kernel, fun h => absurd rfl h, by decide, by decide⟩
theorem kY_X12_load : q_okY 0 M_X12_load := ⟨(List.mem_of_getElem? (i := 1302) (by decide +kernel)), (List.mem_of_getElem? (i := 84) (by decide +kernel)), fun h => absurd h (by decide), fun _ => (List.mem_of_getElem? (i := 1300) (by decide +kernel)), fun _ => (List.mem_of_getElem? (i := 1301) (by decide +kernel)), fun h => absurd h (by decide), rfl, by decide +kernel, by decide +kernel, by decide +kernel, by decide +kernel, fun _ => by decide, by decide, by decide⟩
theorem kY_X12_lotAt : q_okY 0 M_X12_lotAt := ⟨(List.mem_of_getElem? (i := 1306) (by decide +kernel)), (List.mem_of_getElem? (i := 84) (by decide +kernel)), fun h => absurd h (by decide), fun _ => (List.mem_of_getElem? (i := 1305) (by decide +kernel)), fun _ => (List.mem_of_getElem? (i := 26) (by decide +kernel)), fun h => absurd h (by decide), rfl, by decide +kernel, by decide +kernel, by decide +kernel, by decide +kernel, fun _ => by decide, by decide, by decide⟩
theorem kY_X5_enqueue : q_okY 0 M_X5_enqueue := ⟨(List.mem_of_getElem? (i := 1310) (by decide +kernel)), (List.mem_of_getElem? (i := 99) (by decide +kernel)), fun h => absurd h (by decide), fun _ => (List.mem_of_getElem? (i := 1308) (by decide +kernel)), fun _ => (List.mem_of_getElem? (i := 1309) (by decide +kernel)), fun h => absurd h (by decide), rfl, by decide +kernel, by decide +kernel, by decide +kernel, by decide +kernel, fun _ => by decide, by decide, by decide⟩
theorem kY_X12_days : q_okY 0 M_X12_days := ⟨(List.mem_of_getElem? (i := 1317) (by decide +kernel)), (List.mem_of_getElem? (i := 84) (by decide +kernel)), fun h => absurd h (by decide), fun _ => (List.mem_of_getElem? (i := 1315) (by decide +kernel)), fun _ => (List.mem_of_getElem? (i := 1316) (by decide +kernel)), fun h => absurd h (by decide), rfl, by decide +kernel, by decide +kernel, by decide +kernel, by decide +kernel, fun _ => by decide, by decide, by decide⟩
theorem kY_X12_workDay : q_okY 0 M_X12_workDay := ⟨(List.mem_of_getElem? (i := 1321) (by decide +kernel)), (List.mem_of_getElem? (i := 84) (by decide +kernel)), fun h => absurd h (by decide), fun _ => (List.mem_of_getElem? (i := 1320) (by decide +kernel)), fun _ => (List.mem_of_getElem? (i := 27) (by decide +kernel)), fun h => absurd h (by decide), rfl, by decide +kernel, by decide +kernel, by decide +kernel, by decide +kernel, fun _ => by decide, by decide, by decide⟩
theorem kY_X12_takeNext : q_okY 0 M_X12_takeNext := ⟨(List.mem_of_getElem? (i := 1325) (by decide +kernel)), (List.mem_of_getElem? (i := 84) (by decide +kernel)), fun h => absurd h (by decide), fun _ => (List.mem_of_getElem? (i := 1324) (by decide +kernel)), fun _ => (List.mem_of_getElem? (i := 28) (by decide +kernel)), fun h => absurd h (by decide), rfl, by decide +kernel, by decide +kernel, by decide +kernel, by decide +kernel, fun _ => by decide, by decide, by decide⟩
theorem kY_X12_firstNotBarred : q_okY 0 M_X12_firstNotBarred := ⟨(List.mem_of_getElem? (i := 1329) (by decide +kernel)), (List.mem_of_getElem? (i := 84) (by decide +kernel)), fun h => absurd h (by decide), fun _ => (List.mem_of_getElem? (i := 1328) (by decide +kernel)), fun _ => (List.mem_of_getElem? (i := 29) (by decide +kernel)), fun h => absurd h (by decide), rfl, by decide +kernel, by decide +kernel, by decide +kernel, by decide +kernel, fun _ => by decide, by decide, by decide⟩
theorem kY_X5_takeIn : q_okY 0 M_X5_takeIn := ⟨(List.mem_of_getElem? (i := 1334) (by decide +kernel)), (List.mem_of_getElem? (i := 99) (by decide +kernel)), fun h => absurd h (by decide), fun _ => (List.mem_of_getElem? (i := 1332) (by decide +kernel)), fun _ => (List.mem_of_getElem? (i := 1333) (by decide +kernel)), fun h => absurd h (by decide), rfl, by decide +kernel, by decide +kernel, by decide +kernel, by decide +kernel, fun _ => by decide, by decide, by decide⟩
theorem kY_X11_washOut : q_okY 0 M_X11_washOut := ⟨(List.mem_of_getElem? (i := 1338) (by decide +kernel)), (List.mem_of_getElem? (i := 92) (by decide +kernel)), fun h => absurd h (by decide), fun _ => (List.mem_of_getElem? (i := 1336) (by decide +kernel)), fun _ => (List.mem_of_getElem? (i := 1337) (by decide +kernel)), fun h => absurd h (by decide), rfl, by decide +kernel, by decide +kernel, by decide +kernel, by decide +kernel, fun _ => by decide, by decide, by decide⟩
theorem kY_X12_finishIfNoneLeft : q_okY 0 M_X12_finishIfNoneLeft := ⟨(List.mem_of_getElem? (i := 1342) (by decide +kernel)), (List.mem_of_getElem? (i := 84) (by decide +kernel)), fun h => absurd h (by decide), fun _ => (List.mem_of_getElem? (i := 1341) (by decide +kernel)), fun _ => (List.mem_of_getElem? (i := 30) (by decide +kernel)), fun h => absurd h (by decide), rfl, by decide +kernel, by decide +kernel, by decide +kernel, by decide +kernel, fun _ => by decide, by decide, by decide⟩
theorem kY_X12_doNextBath : q_okY 0 M_X12_doNextBath := ⟨(List.mem_of_getElem? (i := 1346) (by decide +kernel)), (List.mem_of_getElem? (i := 84) (by decide +kernel)), fun h => absurd h (by decide), fun _ => (List.mem_of_getElem? (i := 1345) (by decide +kernel)), fun _ => (List.mem_of_getElem? (i := 31) (by decide +kernel)), fun h => absurd h (by decide), rfl, by decide +kernel, by decide +kernel, by decide +kernel, by decide +kernel, fun _ => by decide, by decide, by decide⟩
theorem kY_X8_bathAt : q_okY 0 M_X8_bathAt := ⟨(List.mem_of_getElem? (i := 1350) (by decide +kernel)), (List.mem_of_getElem? (i := 86) (by decide +kernel)), fun h => absurd h (by decide), fun _ => (List.mem_of_getElem? (i := 1348) (by decide +kernel)), fun _ => (List.mem_of_getElem? (i := 1349) (by decide +kernel)), fun h => absurd h (by decide), rfl, by decide +kernel, by decide +kernel, by decide +kernel, by decide +kernel, fun _ => by decide, by decide, by decide⟩
theorem kY_X8_amountAt : q_okY 0 M_X8_amountAt := ⟨(List.mem_of_getElem? (i := 1354) (by decide +kernel)), (List.mem_of_getElem? (i := 86) (by decide +kernel)), fun h => absurd h (by decide), fun _ => (List.mem_of_getElem? (i := 1352) (by decide +kernel)), fun _ => (List.mem_of_getElem? (i := 1353) (by decide +kernel)), fun h => absurd h (by decide), rfl, by decide +kernel, by decide +kernel, by decide +kernel, by decide +kernel, fun _ => by decide, by decide, by decide⟩
theorem kY_X8_soil : q_okY 1 M_X8_soil := ⟨(List.mem_of_getElem? (i := 1357) (by decide +kernel)), (List.mem_of_getElem? (i := 86) (by decide +kernel)), fun _ => (List.mem_of_getElem? (i := 1356) (by decide +kernel)), fun h => absurd rfl h, fun h => absurd h (by decide), fun h => absurd h (by decide), rfl, by decide +kernel, by decide +kernel, by decide +kernel, by decide +kernel, fun h => absurd rfl h, by decide, by decide⟩
theorem kY_X11_giveBack : q_okY 0 M_X11_giveBack := ⟨(List.mem_of_getElem? (i := 1361) (by decide +kernel)), (List.mem_of_getElem? (i := 92) (by decide +kernel)), fun h => absurd h (by decide), fun _ => (List.mem_of_getElem? (i := 1359) (by decide +kernel)), fun _ => (List.mem_of_getElem? (i := 1360) (by decide +kernel)), fun h => absurd h (by decide), rfl, by decide +kernel, by decide +kernel, by decide +kernel, by decide +kernel, fun _ => by decide, by decide, by decide⟩
theorem kY_X12_led : q_okY 0 M_X12_led := ⟨(List.mem_of_getElem? (i := 1369) (by decide +kernel)), (List.mem_of_getElem? (i := 84) (by decide +kernel)), fun h => absurd h (by decide), fun _ => (List.mem_of_getElem? (i := 1367) (by decide +kernel)), fun _ => (List.mem_of_getElem? (i := 1368) (by decide +kernel)), fun h => absurd h (by decide), rfl, by decide +kernel, by decide +kernel, by decide +kernel, by decide +kernel, fun _ => by decide, by decide, by decide⟩
theorem kY_X4_countPlaced : q_okY 0 M_X4_countPlaced := ⟨(List.mem_of_getElem? (i := 1373) (by decide +kernel)), (List.mem_of_getElem? (i := 114) (by decide +kernel)), fun h => absurd h (by decide), fun _ => (List.mem_of_getElem? (i := 1371) (by decide +kernel)), fun _ => (List.mem_of_getElem? (i := 1372) (by decide +kernel)), fun h => absurd h (by decide), rfl, by decide +kernel, by decide +kernel, by decide +kernel, by decide +kernel, fun _ => by decide, by decide, by decide⟩
theorem kY_X12_works : q_okY 0 M_X12_works := ⟨(List.mem_of_getElem? (i := 1380) (by decide +kernel)), (List.mem_of_getElem? (i := 84) (by decide +kernel)), fun h => absurd h (by decide), fun _ => (List.mem_of_getElem? (i := 1378) (by decide +kernel)), fun _ => (List.mem_of_getElem? (i := 1379) (by decide +kernel)), fun h => absurd h (by decide), rfl, by decide +kernel, by decide +kernel, by decide +kernel, by decide +kernel, fun _ => by decide, by decide, by decide⟩
theorem kY_X12_measure : q_okY 0 M_X12_measure := ⟨(List.mem_of_getElem? (i := 1388) (by decide +kernel)), (List.mem_of_getElem? (i := 84) (by decide +kernel)), fun h => absurd h (by decide), fun _ => (List.mem_of_getElem? (i := 1386) (by decide +kernel)), fun _ => (List.mem_of_getElem? (i := 1387) (by decide +kernel)), fun h => absurd h (by decide), rfl, by decide +kernel, by decide +kernel, by decide +kernel, by decide +kernel, fun _ => by decide, by decide, by decide⟩
theorem kY_X12_needWashed : q_okY 1 M_X12_needWashed := ⟨(List.mem_of_getElem? (i := 1391) (by decide +kernel)), (List.mem_of_getElem? (i := 84) (by decide +kernel)), fun _ => (List.mem_of_getElem? (i := 1390) (by decide +kernel)), fun h => absurd rfl h, fun h => absurd h (by decide), fun h => absurd h (by decide), rfl, by decide +kernel, by decide +kernel, by decide +kernel, by decide +kernel, fun h => absurd rfl h, by decide, by decide⟩
theorem kY_X6_tell : q_okY 0 M_X6_tell := ⟨(List.mem_of_getElem? (i := 1411) (by decide +kernel)), (List.mem_of_getElem? (i := 97) (by decide +kernel)), fun h => absurd h (by decide), fun _ => (List.mem_of_getElem? (i := 1409) (by decide +kernel)), fun _ => (List.mem_of_getElem? (i := 1410) (by decide +kernel)), fun h => absurd h (by decide), rfl, by decide +kernel, by decide +kernel, by decide +kernel, by decide +kernel, fun _ => by decide, by decide, by decide⟩
theorem kY_X12_known : q_okY 0 M_X12_known := ⟨(List.mem_of_getElem? (i := 1418) (by decide +kernel)), (List.mem_of_getElem? (i := 84) (by decide +kernel)), fun h => absurd h (by decide), fun _ => (List.mem_of_getElem? (i := 1416) (by decide +kernel)), fun _ => (List.mem_of_getElem? (i := 1417) (by decide +kernel)), fun h => absurd h (by decide), rfl, by decide +kernel, by decide +kernel, by decide +kernel, by decide +kernel, fun _ => by decide, by decide, by decide⟩
theorem kY_X12_judged : q_okY 0 M_X12_judged := ⟨(List.mem_of_getElem? (i := 1422) (by decide +kernel)), (List.mem_of_getElem? (i := 84) (by decide +kernel)), fun h => absurd h (by decide), fun _ => (List.mem_of_getElem? (i := 1421) (by decide +kernel)), fun _ => (List.mem_of_getElem? (i := 32) (by decide +kernel)), fun h => absurd h (by decide), rfl, by decide +kernel, by decide +kernel, by decide +kernel, by decide +kernel, fun _ => by decide, by decide, by decide⟩
theorem kY_X6_shadeOn : q_okY 0 M_X6_shadeOn := ⟨(List.mem_of_getElem? (i := 1426) (by decide +kernel)), (List.mem_of_getElem? (i := 97) (by decide +kernel)), fun h => absurd h (by decide), fun _ => (List.mem_of_getElem? (i := 1424) (by decide +kernel)), fun _ => (List.mem_of_getElem? (i := 1425) (by decide +kernel)), fun h => absurd h (by decide), rfl, by decide +kernel, by decide +kernel, by decide +kernel, by decide +kernel, fun _ => by decide, by decide, by decide⟩
theorem kY_X4_judge : q_okY 0 M_X4_judge := ⟨(List.mem_of_getElem? (i := 1430) (by decide +kernel)), (List.mem_of_getElem? (i := 114) (by decide +kernel)), fun h => absurd h (by decide), fun _ => (List.mem_of_getElem? (i := 1428) (by decide +kernel)), fun _ => (List.mem_of_getElem? (i := 1429) (by decide +kernel)), fun h => absurd h (by decide), rfl, by decide +kernel, by decide +kernel, by decide +kernel, by decide +kernel, fun _ => by decide, by decide, by decide⟩
theorem kY_X12_sorted : q_okY 0 M_X12_sorted := ⟨(List.mem_of_getElem? (i := 1437) (by decide +kernel)), (List.mem_of_getElem? (i := 84) (by decide +kernel)), fun h => absurd h (by decide), fun _ => (List.mem_of_getElem? (i := 1435) (by decide +kernel)), fun _ => (List.mem_of_getElem? (i := 1436) (by decide +kernel)), fun h => absurd h (by decide), rfl, by decide +kernel, by decide +kernel, by decide +kernel, by decide +kernel, fun _ => by decide, by decide, by decide⟩
theorem kY_X4_isStillHere : q_okY 0 M_X4_isStillHere := ⟨(List.mem_of_getElem? (i := 1441) (by decide +kernel)), (List.mem_of_getElem? (i := 114) (by decide +kernel)), fun h => absurd h (by decide), fun _ => (List.mem_of_getElem? (i := 1439) (by decide +kernel)), fun _ => (List.mem_of_getElem? (i := 1440) (by decide +kernel)), fun h => absurd h (by decide), rfl, by decide +kernel, by decide +kernel, by decide +kernel, by decide +kernel, fun _ => by decide, by decide, by decide⟩
theorem kY_X12_again : q_okY 0 M_X12_again := ⟨(List.mem_of_getElem? (i := 1448) (by decide +kernel)), (List.mem_of_getElem? (i := 84) (by decide +kernel)), fun h => absurd h (by decide), fun _ => (List.mem_of_getElem? (i := 1446) (by decide +kernel)), fun _ => (List.mem_of_getElem? (i := 1447) (by decide +kernel)), fun h => absurd h (by decide), rfl, by decide +kernel, by decide +kernel, by decide +kernel, by decide +kernel, fun _ => by decide, by decide, by decide⟩
theorem kY_X8_setOnly : q_okY 0 M_X8_setOnly := ⟨(List.mem_of_getElem? (i := 1453) (by decide +kernel)), (List.mem_of_getElem? (i := 86) (by decide +kernel)), fun h => absurd h (by decide), fun _ => (List.mem_of_getElem? (i := 1451) (by decide +kernel)), fun _ => (List.mem_of_getElem? (i := 1452) (by decide +kernel)), fun h => absurd h (by decide), rfl, by decide +kernel, by decide +kernel, by decide +kernel, by decide +kernel, fun _ => by decide, by decide, by decide⟩
theorem kY_X12_moveDark : q_okY 0 M_X12_moveDark := ⟨(List.mem_of_getElem? (i := 1457) (by decide +kernel)), (List.mem_of_getElem? (i := 84) (by decide +kernel)), fun h => absurd h (by decide), fun _ => (List.mem_of_getElem? (i := 1456) (by decide +kernel)), fun _ => (List.mem_of_getElem? (i := 33) (by decide +kernel)), fun h => absurd h (by decide), rfl, by decide +kernel, by decide +kernel, by decide +kernel, by decide +kernel, fun _ => by decide, by decide, by decide⟩
theorem kY_X12_deliver : q_okY 0 M_X12_deliver := ⟨(List.mem_of_getElem? (i := 1465) (by decide +kernel)), (List.mem_of_getElem? (i := 84) (by decide +kernel)), fun h => absurd h (by decide), fun _ => (List.mem_of_getElem? (i := 1463) (by decide +kernel)), fun _ => (List.mem_of_getElem? (i := 1464) (by decide +kernel)), fun h => absurd h (by decide), rfl, by decide +kernel, by decide +kernel, by decide +kernel, by decide +kernel, fun _ => by decide, by decide, by decide⟩
theorem kY_X12_findPacks : q_okY 0 M_X12_findPacks := ⟨(List.mem_of_getElem? (i := 1469) (by decide +kernel)), (List.mem_of_getElem? (i := 84) (by decide +kernel)), fun h => absurd h (by decide), fun _ => (List.mem_of_getElem? (i := 1468) (by decide +kernel)), fun _ => (List.mem_of_getElem? (i := 34) (by decide +kernel)), fun h => absurd h (by decide), rfl, by decide +kernel, by decide +kernel, by decide +kernel, by decide +kernel, fun _ => by decide, by decide, by decide⟩
theorem kY_X6_gatherNone : q_okY 0 M_X6_gatherNone := ⟨(List.mem_of_getElem? (i := 1473) (by decide +kernel)), (List.mem_of_getElem? (i := 97) (by decide +kernel)), fun h => absurd h (by decide), fun _ => (List.mem_of_getElem? (i := 1471) (by decide +kernel)), fun _ => (List.mem_of_getElem? (i := 1472) (by decide +kernel)), fun h => absurd h (by decide), rfl, by decide +kernel, by decide +kernel, by decide +kernel, by decide +kernel, fun _ => by decide, by decide, by decide⟩
theorem kY_X12_gatherGood : q_okY 0 M_X12_gatherGood := ⟨(List.mem_of_getElem? (i := 1477) (by decide +kernel)), (List.mem_of_getElem? (i := 84) (by decide +kernel)), fun h => absurd h (by decide), fun _ => (List.mem_of_getElem? (i := 1476) (by decide +kernel)), fun _ => (List.mem_of_getElem? (i := 35) (by decide +kernel)), fun h => absurd h (by decide), rfl, by decide +kernel, by decide +kernel, by decide +kernel, by decide +kernel, fun _ => by decide, by decide, by decide⟩
theorem kY_X6_gather : q_okY 0 M_X6_gather := ⟨(List.mem_of_getElem? (i := 1481) (by decide +kernel)), (List.mem_of_getElem? (i := 97) (by decide +kernel)), fun h => absurd h (by decide), fun _ => (List.mem_of_getElem? (i := 1479) (by decide +kernel)), fun _ => (List.mem_of_getElem? (i := 1480) (by decide +kernel)), fun h => absurd h (by decide), rfl, by decide +kernel, by decide +kernel, by decide +kernel, by decide +kernel, fun _ => by decide, by decide, by decide⟩
theorem kY_X6_formPacks : q_okY 0 M_X6_formPacks := ⟨(List.mem_of_getElem? (i := 1485) (by decide +kernel)), (List.mem_of_getElem? (i := 97) (by decide +kernel)), fun h => absurd h (by decide), fun _ => (List.mem_of_getElem? (i := 1483) (by decide +kernel)), fun _ => (List.mem_of_getElem? (i := 1484) (by decide +kernel)), fun h => absurd h (by decide), rfl, by decide +kernel, by decide +kernel, by decide +kernel, by decide +kernel, fun _ => by decide, by decide, by decide⟩
theorem kY_X6_putInOrder : q_okY 0 M_X6_putInOrder := ⟨(List.mem_of_getElem? (i := 1489) (by decide +kernel)), (List.mem_of_getElem? (i := 97) (by decide +kernel)), fun h => absurd h (by decide), fun _ => (List.mem_of_getElem? (i := 1488) (by decide +kernel)), fun _ => (List.mem_of_getElem? (i := 36) (by decide +kernel)), fun h => absurd h (by decide), rfl, by decide +kernel, by decide +kernel, by decide +kernel, by decide +kernel, fun _ => by decide, by decide, by decide⟩
theorem kY_X6_shadeOf : q_okY 1 M_X6_shadeOf := ⟨(List.mem_of_getElem? (i := 1493) (by decide +kernel)), (List.mem_of_getElem? (i := 97) (by decide +kernel)), fun _ => (List.mem_of_getElem? (i := 1492) (by decide +kernel)), fun h => absurd rfl h, fun h => absurd h (by decide), fun h => absurd h (by decide), rfl, by decide +kernel, by decide +kernel, by decide +kernel, by decide +kernel, fun h => absurd rfl h, by decide, by decide⟩
theorem kY_X6_packBegin : q_okY 0 M_X6_packBegin := ⟨(List.mem_of_getElem? (i := 1498) (by decide +kernel)), (List.mem_of_getElem? (i := 97) (by decide +kernel)), fun h => absurd h (by decide), fun _ => (List.mem_of_getElem? (i := 1496) (by decide +kernel)), fun _ => (List.mem_of_getElem? (i := 1497) (by decide +kernel)), fun h => absurd h (by decide), rfl, by decide +kernel, by decide +kernel, by decide +kernel, by decide +kernel, fun _ => by decide, by decide, by decide⟩
theorem kY_X12_deliverPack : q_okY 0 M_X12_deliverPack := ⟨(List.mem_of_getElem? (i := 1502) (by decide +kernel)), (List.mem_of_getElem? (i := 84) (by decide +kernel)), fun h => absurd h (by decide), fun _ => (List.mem_of_getElem? (i := 1501) (by decide +kernel)), fun _ => (List.mem_of_getElem? (i := 37) (by decide +kernel)), fun h => absurd h (by decide), rfl, by decide +kernel, by decide +kernel, by decide +kernel, by decide +kernel, fun _ => by decide, by decide, by decide⟩
theorem kY_X6_lotOf : q_okY 0 M_X6_lotOf := ⟨(List.mem_of_getElem? (i := 1506) (by decide +kernel)), (List.mem_of_getElem? (i := 97) (by decide +kernel)), fun h => absurd h (by decide), fun _ => (List.mem_of_getElem? (i := 1504) (by decide +kernel)), fun _ => (List.mem_of_getElem? (i := 1505) (by decide +kernel)), fun h => absurd h (by decide), rfl, by decide +kernel, by decide +kernel, by decide +kernel, by decide +kernel, fun _ => by decide, by decide, by decide⟩
theorem kY_X6_pieceOf : q_okY 0 M_X6_pieceOf := ⟨(List.mem_of_getElem? (i := 1510) (by decide +kernel)), (List.mem_of_getElem? (i := 97) (by decide +kernel)), fun h => absurd h (by decide), fun _ => (List.mem_of_getElem? (i := 1508) (by decide +kernel)), fun _ => (List.mem_of_getElem? (i := 1509) (by decide +kernel)), fun h => absurd h (by decide), rfl, by decide +kernel, by decide +kernel, by decide +kernel, by decide +kernel, fun _ => by decide, by decide, by decide⟩
theorem kY_X4_setDelivered : q_okY 0 M_X4_setDelivered := ⟨(List.mem_of_getElem? (i := 1514) (by decide +kernel)), (List.mem_of_getElem? (i := 114) (by decide +kernel)), fun h => absurd h (by decide), fun _ => (List.mem_of_getElem? (i := 1512) (by decide +kernel)), fun _ => (List.mem_of_getElem? (i := 1513) (by decide +kernel)), fun h => absurd h (by decide), rfl, by decide +kernel, by decide +kernel, by decide +kernel, by decide +kernel, fun _ => by decide, by decide, by decide⟩
theorem kY_X12_ready : q_okY 0 M_X12_ready := ⟨(List.mem_of_getElem? (i := 1521) (by decide +kernel)), (List.mem_of_getElem? (i := 84) (by decide +kernel)), fun h => absurd h (by decide), fun _ => (List.mem_of_getElem? (i := 1519) (by decide +kernel)), fun _ => (List.mem_of_getElem? (i := 1520) (by decide +kernel)), fun h => absurd h (by decide), rfl, by decide +kernel, by decide +kernel, by decide +kernel, by decide +kernel, fun _ => by decide, by decide, by decide⟩
theorem kY_X12_pattern : q_okY 0 M_X12_pattern := ⟨(List.mem_of_getElem? (i := 1528) (by decide +kernel)), (List.mem_of_getElem? (i := 84) (by decide +kernel)), fun h => absurd h (by decide), fun _ => (List.mem_of_getElem? (i := 1526) (by decide +kernel)), fun _ => (List.mem_of_getElem? (i := 1527) (by decide +kernel)), fun h => absurd h (by decide), rfl, by decide +kernel, by decide +kernel, by decide +kernel, by decide +kernel, fun _ => by decide, by decide, by decide⟩
theorem kY_X7_beginPattern : q_okY 0 M_X7_beginPattern := ⟨(List.mem_of_getElem? (i := 1532) (by decide +kernel)), (List.mem_of_getElem? (i := 98) (by decide +kernel)), fun h => absurd h (by decide), fun _ => (List.mem_of_getElem? (i := 1530) (by decide +kernel)), fun _ => (List.mem_of_getElem? (i := 1531) (by decide +kernel)), fun h => absurd h (by decide), rfl, by decide +kernel, by decide +kernel, by decide +kernel, by decide +kernel, fun _ => by decide, by decide, by decide⟩
theorem kY_X12_heat : q_okY 0 M_X12_heat := ⟨(List.mem_of_getElem? (i := 1540) (by decide +kernel)), (List.mem_of_getElem? (i := 84) (by decide +kernel)), fun h => absurd h (by decide), fun _ => (List.mem_of_getElem? (i := 1538) (by decide +kernel)), fun _ => (List.mem_of_getElem? (i := 1539) (by decide +kernel)), fun h => absurd h (by decide), rfl, by decide +kernel, by decide +kernel, by decide +kernel, by decide +kernel, fun _ => by decide, by decide, by decide⟩
theorem kY_X7_setHeat : q_okY 0 M_X7_setHeat := ⟨(List.mem_of_getElem? (i := 1544) (by decide +kernel)), (List.mem_of_getElem? (i := 98) (by decide +kernel)), fun h => absurd h (by decide), fun _ => (List.mem_of_getElem? (i := 1542) (by decide +kernel)), fun _ => (List.mem_of_getElem? (i := 1543) (by decide +kernel)), fun h => absurd h (by decide), rfl, by decide +kernel, by decide +kernel, by decide +kernel, by decide +kernel, fun _ => by decide, by decide, by decide⟩
theorem kY_X12_burn : q_okY 0 M_X12_burn := ⟨(List.mem_of_getElem? (i := 1551) (by decide +kernel)), (List.mem_of_getElem? (i := 84) (by decide +kernel)), fun h => absurd h (by decide), fun _ => (List.mem_of_getElem? (i := 1549) (by decide +kernel)), fun _ => (List.mem_of_getElem? (i := 1550) (by decide +kernel)), fun h => absurd h (by decide), rfl, by decide +kernel, by decide +kernel, by decide +kernel, by decide +kernel, fun _ => by decide, by decide, by decide⟩
theorem kY_X7_burnOne : q_okY 0 M_X7_burnOne := ⟨(List.mem_of_getElem? (i := 1555) (by decide +kernel)), (List.mem_of_getElem? (i := 98) (by decide +kernel)), fun h => absurd h (by decide), fun _ => (List.mem_of_getElem? (i := 1553) (by decide +kernel)), fun _ => (List.mem_of_getElem? (i := 1554) (by decide +kernel)), fun h => absurd h (by decide), rfl, by decide +kernel, by decide +kernel, by decide +kernel, by decide +kernel, fun _ => by decide, by decide, by decide⟩
theorem kY_X7_heatAt : q_okY 0 M_X7_heatAt := ⟨(List.mem_of_getElem? (i := 1559) (by decide +kernel)), (List.mem_of_getElem? (i := 98) (by decide +kernel)), fun h => absurd h (by decide), fun _ => (List.mem_of_getElem? (i := 1558) (by decide +kernel)), fun _ => (List.mem_of_getElem? (i := 38) (by decide +kernel)), fun h => absurd h (by decide), rfl, by decide +kernel, by decide +kernel, by decide +kernel, by decide +kernel, fun _ => by decide, by decide, by decide⟩
theorem kY_X12_burned : q_okY 0 M_X12_burned := ⟨(List.mem_of_getElem? (i := 1570) (by decide +kernel)), (List.mem_of_getElem? (i := 84) (by decide +kernel)), fun h => absurd h (by decide), fun _ => (List.mem_of_getElem? (i := 1568) (by decide +kernel)), fun _ => (List.mem_of_getElem? (i := 1569) (by decide +kernel)), fun h => absurd h (by decide), rfl, by decide +kernel, by decide +kernel, by decide +kernel, by decide +kernel, fun _ => by decide, by decide, by decide⟩
theorem kY_X12_seam : q_okY 0 M_X12_seam := ⟨(List.mem_of_getElem? (i := 1577) (by decide +kernel)), (List.mem_of_getElem? (i := 84) (by decide +kernel)), fun h => absurd h (by decide), fun _ => (List.mem_of_getElem? (i := 1575) (by decide +kernel)), fun _ => (List.mem_of_getElem? (i := 1576) (by decide +kernel)), fun h => absurd h (by decide), rfl, by decide +kernel, by decide +kernel, by decide +kernel, by decide +kernel, fun _ => by decide, by decide, by decide⟩
theorem kY_X13_init : q_okY 2 M_X13_init := ⟨(List.mem_of_getElem? (i := 1583) (by decide +kernel)), (List.mem_of_getElem? (i := 100) (by decide +kernel)), fun h => absurd h (by decide), fun _ => (List.mem_of_getElem? (i := 1582) (by decide +kernel)), fun h => absurd h (by decide), fun _ => ⟨rfl, rfl⟩, rfl, by decide +kernel, by decide +kernel, by decide +kernel, by decide +kernel, fun _ => by decide, by decide, by decide⟩
theorem kY_X13_thrown : q_okY 0 M_X13_thrown := ⟨(List.mem_of_getElem? (i := 1829) (by decide +kernel)), (List.mem_of_getElem? (i := 100) (by decide +kernel)), fun h => absurd h (by decide), fun _ => (List.mem_of_getElem? (i := 1827) (by decide +kernel)), fun _ => (List.mem_of_getElem? (i := 1828) (by decide +kernel)), fun h => absurd h (by decide), rfl, by decide +kernel, by decide +kernel, by decide +kernel, by decide +kernel, fun _ => by decide, by decide, by decide⟩
theorem kY_X13_feed : q_okY 0 M_X13_feed := ⟨(List.mem_of_getElem? (i := 1833) (by decide +kernel)), (List.mem_of_getElem? (i := 100) (by decide +kernel)), fun h => absurd h (by decide), fun _ => (List.mem_of_getElem? (i := 1831) (by decide +kernel)), fun _ => (List.mem_of_getElem? (i := 1832) (by decide +kernel)), fun h => absurd h (by decide), rfl, by decide +kernel, by decide +kernel, by decide +kernel, by decide +kernel, fun _ => by decide, by decide, by decide⟩
theorem kY_X13_end : q_okY 0 M_X13_end := ⟨(List.mem_of_getElem? (i := 1837) (by decide +kernel)), (List.mem_of_getElem? (i := 100) (by decide +kernel)), fun h => absurd h (by decide), fun _ => (List.mem_of_getElem? (i := 1835) (by decide +kernel)), fun _ => (List.mem_of_getElem? (i := 1836) (by decide +kernel)), fun h => absurd h (by decide), rfl, by decide +kernel, by decide +kernel, by decide +kernel, by decide +kernel, fun _ => by decide, by decide, by decide⟩
theorem kY_X13_recipe : q_okY 0 M_X13_recipe := ⟨(List.mem_of_getElem? (i := 1841) (by decide +kernel)), (List.mem_of_getElem? (i := 100) (by decide +kernel)), fun h => absurd h (by decide), fun _ => (List.mem_of_getElem? (i := 1839) (by decide +kernel)), fun _ => (List.mem_of_getElem? (i := 1840) (by decide +kernel)), fun h => absurd h (by decide), rfl, by decide +kernel, by decide +kernel, by decide +kernel, by decide +kernel, fun _ => by decide, by decide, by decide⟩
theorem kY_X13_uses : q_okY 0 M_X13_uses := ⟨(List.mem_of_getElem? (i := 1845) (by decide +kernel)), (List.mem_of_getElem? (i := 100) (by decide +kernel)), fun h => absurd h (by decide), fun _ => (List.mem_of_getElem? (i := 1844) (by decide +kernel)), fun _ => (List.mem_of_getElem? (i := 39) (by decide +kernel)), fun h => absurd h (by decide), rfl, by decide +kernel, by decide +kernel, by decide +kernel, by decide +kernel, fun _ => by decide, by decide, by decide⟩
theorem kY_X13_readRecipe : q_okY 0 M_X13_readRecipe := ⟨(List.mem_of_getElem? (i := 1849) (by decide +kernel)), (List.mem_of_getElem? (i := 100) (by decide +kernel)), fun h => absurd h (by decide), fun _ => (List.mem_of_getElem? (i := 1848) (by decide +kernel)), fun _ => (List.mem_of_getElem? (i := 40) (by decide +kernel)), fun h => absurd h (by decide), rfl, by decide +kernel, by decide +kernel, by decide +kernel, by decide +kernel, fun _ => by decide, by decide, by decide⟩
theorem kY_X13_blanks : q_okY 0 M_X13_blanks := ⟨(List.mem_of_getElem? (i := 1853) (by decide +kernel)), (List.mem_of_getElem? (i := 100) (by decide +kernel)), fun h => absurd h (by decide), fun _ => (List.mem_of_getElem? (i := 1852) (by decide +kernel)), fun _ => (List.mem_of_getElem? (i := 41) (by decide +kernel)), fun h => absurd h (by decide), rfl, by decide +kernel, by decide +kernel, by decide +kernel, by decide +kernel, fun _ => by decide, by decide, by decide⟩
theorem kY_X13_isAt : q_okY 0 M_X13_isAt := ⟨(List.mem_of_getElem? (i := 1857) (by decide +kernel)), (List.mem_of_getElem? (i := 100) (by decide +kernel)), fun h => absurd h (by decide), fun _ => (List.mem_of_getElem? (i := 1856) (by decide +kernel)), fun _ => (List.mem_of_getElem? (i := 42) (by decide +kernel)), fun h => absurd h (by decide), rfl, by decide +kernel, by decide +kernel, by decide +kernel, by decide +kernel, fun _ => by decide, by decide, by decide⟩
theorem kY_X13_readBath : q_okY 0 M_X13_readBath := ⟨(List.mem_of_getElem? (i := 1861) (by decide +kernel)), (List.mem_of_getElem? (i := 100) (by decide +kernel)), fun h => absurd h (by decide), fun _ => (List.mem_of_getElem? (i := 1860) (by decide +kernel)), fun _ => (List.mem_of_getElem? (i := 43) (by decide +kernel)), fun h => absurd h (by decide), rfl, by decide +kernel, by decide +kernel, by decide +kernel, by decide +kernel, fun _ => by decide, by decide, by decide⟩
theorem kY_X13_word : q_okY 0 M_X13_word := ⟨(List.mem_of_getElem? (i := 1865) (by decide +kernel)), (List.mem_of_getElem? (i := 100) (by decide +kernel)), fun h => absurd h (by decide), fun _ => (List.mem_of_getElem? (i := 1864) (by decide +kernel)), fun _ => (List.mem_of_getElem? (i := 44) (by decide +kernel)), fun h => absurd h (by decide), rfl, by decide +kernel, by decide +kernel, by decide +kernel, by decide +kernel, fun _ => by decide, by decide, by decide⟩
theorem kY_X13_bathOf : q_okY 0 M_X13_bathOf := ⟨(List.mem_of_getElem? (i := 1869) (by decide +kernel)), (List.mem_of_getElem? (i := 100) (by decide +kernel)), fun h => absurd h (by decide), fun _ => (List.mem_of_getElem? (i := 1868) (by decide +kernel)), fun _ => (List.mem_of_getElem? (i := 45) (by decide +kernel)), fun h => absurd h (by decide), rfl, by decide +kernel, by decide +kernel, by decide +kernel, by decide +kernel, fun _ => by decide, by decide, by decide⟩
theorem kY_X13_isWord : q_okY 0 M_X13_isWord := ⟨(List.mem_of_getElem? (i := 1874) (by decide +kernel)), (List.mem_of_getElem? (i := 100) (by decide +kernel)), fun h => absurd h (by decide), fun _ => (List.mem_of_getElem? (i := 1873) (by decide +kernel)), fun _ => (List.mem_of_getElem? (i := 46) (by decide +kernel)), fun h => absurd h (by decide), rfl, by decide +kernel, by decide +kernel, by decide +kernel, by decide +kernel, fun _ => by decide, by decide, by decide⟩
theorem kY_X13_number : q_okY 0 M_X13_number := ⟨(List.mem_of_getElem? (i := 1883) (by decide +kernel)), (List.mem_of_getElem? (i := 100) (by decide +kernel)), fun h => absurd h (by decide), fun _ => (List.mem_of_getElem? (i := 1882) (by decide +kernel)), fun _ => (List.mem_of_getElem? (i := 47) (by decide +kernel)), fun h => absurd h (by decide), rfl, by decide +kernel, by decide +kernel, by decide +kernel, by decide +kernel, fun _ => by decide, by decide, by decide⟩
theorem kY_X13_throwsIf : q_okY 0 M_X13_throwsIf := ⟨(List.mem_of_getElem? (i := 1887) (by decide +kernel)), (List.mem_of_getElem? (i := 100) (by decide +kernel)), fun h => absurd h (by decide), fun _ => (List.mem_of_getElem? (i := 1886) (by decide +kernel)), fun _ => (List.mem_of_getElem? (i := 48) (by decide +kernel)), fun h => absurd h (by decide), rfl, by decide +kernel, by decide +kernel, by decide +kernel, by decide +kernel, fun _ => by decide, by decide, by decide⟩
theorem kY_X13_copies : q_okY 0 M_X13_copies := ⟨(List.mem_of_getElem? (i := 1891) (by decide +kernel)), (List.mem_of_getElem? (i := 100) (by decide +kernel)), fun h => absurd h (by decide), fun _ => (List.mem_of_getElem? (i := 1890) (by decide +kernel)), fun _ => (List.mem_of_getElem? (i := 49) (by decide +kernel)), fun h => absurd h (by decide), rfl, by decide +kernel, by decide +kernel, by decide +kernel, by decide +kernel, fun _ => by decide, by decide, by decide⟩
theorem kY_X13_fault : q_okY 0 M_X13_fault := ⟨(List.mem_of_getElem? (i := 1895) (by decide +kernel)), (List.mem_of_getElem? (i := 100) (by decide +kernel)), fun h => absurd h (by decide), fun _ => (List.mem_of_getElem? (i := 1893) (by decide +kernel)), fun _ => (List.mem_of_getElem? (i := 1894) (by decide +kernel)), fun h => absurd h (by decide), rfl, by decide +kernel, by decide +kernel, by decide +kernel, by decide +kernel, fun _ => by decide, by decide, by decide⟩
theorem kY_X13_cloth : q_okY 0 M_X13_cloth := ⟨(List.mem_of_getElem? (i := 1899) (by decide +kernel)), (List.mem_of_getElem? (i := 100) (by decide +kernel)), fun h => absurd h (by decide), fun _ => (List.mem_of_getElem? (i := 1897) (by decide +kernel)), fun _ => (List.mem_of_getElem? (i := 1898) (by decide +kernel)), fun h => absurd h (by decide), rfl, by decide +kernel, by decide +kernel, by decide +kernel, by decide +kernel, fun _ => by decide, by decide, by decide⟩
theorem kY_X13_in : q_okY 1 M_X13_in := ⟨(List.mem_of_getElem? (i := 1902) (by decide +kernel)), (List.mem_of_getElem? (i := 100) (by decide +kernel)), fun _ => (List.mem_of_getElem? (i := 1901) (by decide +kernel)), fun h => absurd rfl h, fun h => absurd h (by decide), fun h => absurd h (by decide), rfl, by decide +kernel, by decide +kernel, by decide +kernel, by decide +kernel, fun h => absurd rfl h, by decide, by decide⟩
theorem kY_X13_look : q_okY 0 M_X13_look := ⟨(List.mem_of_getElem? (i := 1906) (by decide +kernel)), (List.mem_of_getElem? (i := 100) (by decide +kernel)), fun h => absurd h (by decide), fun _ => (List.mem_of_getElem? (i := 1904) (by decide +kernel)), fun _ => (List.mem_of_getElem? (i := 1905) (by decide +kernel)), fun h => absurd h (by decide), rfl, by decide +kernel, by decide +kernel, by decide +kernel, by decide +kernel, fun _ => by decide, by decide, by decide⟩
theorem kY_X13_noCloth : q_okY 0 M_X13_noCloth := ⟨(List.mem_of_getElem? (i := 1910) (by decide +kernel)), (List.mem_of_getElem? (i := 100) (by decide +kernel)), fun h => absurd h (by decide), fun _ => (List.mem_of_getElem? (i := 1909) (by decide +kernel)), fun _ => (List.mem_of_getElem? (i := 50) (by decide +kernel)), fun h => absurd h (by decide), rfl, by decide +kernel, by decide +kernel, by decide +kernel, by decide +kernel, fun _ => by decide, by decide, by decide⟩
theorem kY_X13_tries : q_okY 0 M_X13_tries := ⟨(List.mem_of_getElem? (i := 1914) (by decide +kernel)), (List.mem_of_getElem? (i := 100) (by decide +kernel)), fun h => absurd h (by decide), fun _ => (List.mem_of_getElem? (i := 1913) (by decide +kernel)), fun _ => (List.mem_of_getElem? (i := 51) (by decide +kernel)), fun h => absurd h (by decide), rfl, by decide +kernel, by decide +kernel, by decide +kernel, by decide +kernel, fun _ => by decide, by decide, by decide⟩
theorem kY_X13_begins : q_okY 0 M_X13_begins := ⟨(List.mem_of_getElem? (i := 1918) (by decide +kernel)), (List.mem_of_getElem? (i := 100) (by decide +kernel)), fun h => absurd h (by decide), fun _ => (List.mem_of_getElem? (i := 1917) (by decide +kernel)), fun _ => (List.mem_of_getElem? (i := 52) (by decide +kernel)), fun h => absurd h (by decide), rfl, by decide +kernel, by decide +kernel, by decide +kernel, by decide +kernel, fun _ => by decide, by decide, by decide⟩
theorem kY_X13_does : q_okY 0 M_X13_does := ⟨(List.mem_of_getElem? (i := 1922) (by decide +kernel)), (List.mem_of_getElem? (i := 100) (by decide +kernel)), fun h => absurd h (by decide), fun _ => (List.mem_of_getElem? (i := 1921) (by decide +kernel)), fun _ => (List.mem_of_getElem? (i := 53) (by decide +kernel)), fun h => absurd h (by decide), rfl, by decide +kernel, by decide +kernel, by decide +kernel, by decide +kernel, fun _ => by decide, by decide, by decide⟩
theorem kY_X13_less : q_okY 0 M_X13_less := ⟨(List.mem_of_getElem? (i := 1926) (by decide +kernel)), (List.mem_of_getElem? (i := 100) (by decide +kernel)), fun h => absurd h (by decide), fun _ => (List.mem_of_getElem? (i := 1925) (by decide +kernel)), fun _ => (List.mem_of_getElem? (i := 54) (by decide +kernel)), fun h => absurd h (by decide), rfl, by decide +kernel, by decide +kernel, by decide +kernel, by decide +kernel, fun _ => by decide, by decide, by decide⟩
theorem kY_X13_cost : q_okY 0 M_X13_cost := ⟨(List.mem_of_getElem? (i := 1931) (by decide +kernel)), (List.mem_of_getElem? (i := 100) (by decide +kernel)), fun h => absurd h (by decide), fun _ => (List.mem_of_getElem? (i := 1929) (by decide +kernel)), fun _ => (List.mem_of_getElem? (i := 1930) (by decide +kernel)), fun h => absurd h (by decide), rfl, by decide +kernel, by decide +kernel, by decide +kernel, by decide +kernel, fun _ => by decide, by decide, by decide⟩
theorem kY_X13_costOf : q_okY 1 M_X13_costOf := ⟨(List.mem_of_getElem? (i := 1934) (by decide +kernel)), (List.mem_of_getElem? (i := 100) (by decide +kernel)), fun _ => (List.mem_of_getElem? (i := 1933) (by decide +kernel)), fun h => absurd rfl h, fun h => absurd h (by decide), fun h => absurd h (by decide), rfl, by decide +kernel, by decide +kernel, by decide +kernel, by decide +kernel, fun h => absurd rfl h, by decide, by decide⟩
theorem kY_X13_meets : q_okY 0 M_X13_meets := ⟨(List.mem_of_getElem? (i := 1938) (by decide +kernel)), (List.mem_of_getElem? (i := 100) (by decide +kernel)), fun h => absurd h (by decide), fun _ => (List.mem_of_getElem? (i := 1936) (by decide +kernel)), fun _ => (List.mem_of_getElem? (i := 1937) (by decide +kernel)), fun h => absurd h (by decide), rfl, by decide +kernel, by decide +kernel, by decide +kernel, by decide +kernel, fun _ => by decide, by decide, by decide⟩
theorem kY_X13_noWish : q_okY 1 M_X13_noWish := ⟨(List.mem_of_getElem? (i := 1941) (by decide +kernel)), (List.mem_of_getElem? (i := 100) (by decide +kernel)), fun _ => (List.mem_of_getElem? (i := 1940) (by decide +kernel)), fun h => absurd rfl h, fun h => absurd h (by decide), fun h => absurd h (by decide), rfl, by decide +kernel, by decide +kernel, by decide +kernel, by decide +kernel, fun h => absurd rfl h, by decide, by decide⟩
theorem kY_X13_meetsIt : q_okY 0 M_X13_meetsIt := ⟨(List.mem_of_getElem? (i := 1945) (by decide +kernel)), (List.mem_of_getElem? (i := 100) (by decide +kernel)), fun h => absurd h (by decide), fun _ => (List.mem_of_getElem? (i := 1944) (by decide +kernel)), fun _ => (List.mem_of_getElem? (i := 55) (by decide +kernel)), fun h => absurd h (by decide), rfl, by decide +kernel, by decide +kernel, by decide +kernel, by decide +kernel, fun _ => by decide, by decide, by decide⟩
theorem kY_X13_cheapest : q_okY 0 M_X13_cheapest := ⟨(List.mem_of_getElem? (i := 1949) (by decide +kernel)), (List.mem_of_getElem? (i := 100) (by decide +kernel)), fun h => absurd h (by decide), fun _ => (List.mem_of_getElem? (i := 1947) (by decide +kernel)), fun _ => (List.mem_of_getElem? (i := 1948) (by decide +kernel)), fun h => absurd h (by decide), rfl, by decide +kernel, by decide +kernel, by decide +kernel, by decide +kernel, fun _ => by decide, by decide, by decide⟩
theorem kY_X13_cheapestOf : q_okY 0 M_X13_cheapestOf := ⟨(List.mem_of_getElem? (i := 1953) (by decide +kernel)), (List.mem_of_getElem? (i := 100) (by decide +kernel)), fun h => absurd h (by decide), fun _ => (List.mem_of_getElem? (i := 1952) (by decide +kernel)), fun _ => (List.mem_of_getElem? (i := 56) (by decide +kernel)), fun h => absurd h (by decide), rfl, by decide +kernel, by decide +kernel, by decide +kernel, by decide +kernel, fun _ => by decide, by decide, by decide⟩
theorem kY_X13_seeks : q_okY 0 M_X13_seeks := ⟨(List.mem_of_getElem? (i := 1957) (by decide +kernel)), (List.mem_of_getElem? (i := 100) (by decide +kernel)), fun h => absurd h (by decide), fun _ => (List.mem_of_getElem? (i := 1956) (by decide +kernel)), fun _ => (List.mem_of_getElem? (i := 57) (by decide +kernel)), fun h => absurd h (by decide), rfl, by decide +kernel, by decide +kernel, by decide +kernel, by decide +kernel, fun _ => by decide, by decide, by decide⟩
theorem kY_X13_usual : q_okY 1 M_X13_usual := ⟨(List.mem_of_getElem? (i := 1960) (by decide +kernel)), (List.mem_of_getElem? (i := 100) (by decide +kernel)), fun _ => (List.mem_of_getElem? (i := 1959) (by decide +kernel)), fun h => absurd rfl h, fun h => absurd h (by decide), fun h => absurd h (by decide), rfl, by decide +kernel, by decide +kernel, by decide +kernel, by decide +kernel, fun h => absurd rfl h, by decide, by decide⟩
theorem kY_X13_bath : q_okY 0 M_X13_bath := ⟨(List.mem_of_getElem? (i := 1964) (by decide +kernel)), (List.mem_of_getElem? (i := 100) (by decide +kernel)), fun h => absurd h (by decide), fun _ => (List.mem_of_getElem? (i := 1962) (by decide +kernel)), fun _ => (List.mem_of_getElem? (i := 1963) (by decide +kernel)), fun h => absurd h (by decide), rfl, by decide +kernel, by decide +kernel, by decide +kernel, by decide +kernel, fun _ => by decide, by decide, by decide⟩
theorem kY_X13_carry : q_okY 0 M_X13_carry := ⟨(List.mem_of_getElem? (i := 1968) (by decide +kernel)), (List.mem_of_getElem? (i := 100) (by decide +kernel)), fun h => absurd h (by decide), fun _ => (List.mem_of_getElem? (i := 1966) (by decide +kernel)), fun _ => (List.mem_of_getElem? (i := 1967) (by decide +kernel)), fun h => absurd h (by decide), rfl, by decide +kernel, by decide +kernel, by decide +kernel, by decide +kernel, fun _ => by decide, by decide, by decide⟩
theorem kY_X13_noKind : q_okY 1 M_X13_noKind := ⟨(List.mem_of_getElem? (i := 1971) (by decide +kernel)), (List.mem_of_getElem? (i := 100) (by decide +kernel)), fun _ => (List.mem_of_getElem? (i := 1970) (by decide +kernel)), fun h => absurd rfl h, fun h => absurd h (by decide), fun h => absurd h (by decide), rfl, by decide +kernel, by decide +kernel, by decide +kernel, by decide +kernel, fun h => absurd rfl h, by decide, by decide⟩
theorem kY_X13_batch : q_okY 0 M_X13_batch := ⟨(List.mem_of_getElem? (i := 1975) (by decide +kernel)), (List.mem_of_getElem? (i := 100) (by decide +kernel)), fun h => absurd h (by decide), fun _ => (List.mem_of_getElem? (i := 1973) (by decide +kernel)), fun _ => (List.mem_of_getElem? (i := 1974) (by decide +kernel)), fun h => absurd h (by decide), rfl, by decide +kernel, by decide +kernel, by decide +kernel, by decide +kernel, fun _ => by decide, by decide, by decide⟩
theorem kY_X13_order : q_okY 0 M_X13_order := ⟨(List.mem_of_getElem? (i := 1979) (by decide +kernel)), (List.mem_of_getElem? (i := 100) (by decide +kernel)), fun h => absurd h (by decide), fun _ => (List.mem_of_getElem? (i := 1977) (by decide +kernel)), fun _ => (List.mem_of_getElem? (i := 1978) (by decide +kernel)), fun h => absurd h (by decide), rfl, by decide +kernel, by decide +kernel, by decide +kernel, by decide +kernel, fun _ => by decide, by decide, by decide⟩
theorem kY_X13_clear : q_okY 0 M_X13_clear := ⟨(List.mem_of_getElem? (i := 1985) (by decide +kernel)), (List.mem_of_getElem? (i := 100) (by decide +kernel)), fun h => absurd h (by decide), fun _ => (List.mem_of_getElem? (i := 1983) (by decide +kernel)), fun _ => (List.mem_of_getElem? (i := 1984) (by decide +kernel)), fun h => absurd h (by decide), rfl, by decide +kernel, by decide +kernel, by decide +kernel, by decide +kernel, fun _ => by decide, by decide, by decide⟩
theorem kY_X13_tank : q_okY 0 M_X13_tank := ⟨(List.mem_of_getElem? (i := 1989) (by decide +kernel)), (List.mem_of_getElem? (i := 100) (by decide +kernel)), fun h => absurd h (by decide), fun _ => (List.mem_of_getElem? (i := 1987) (by decide +kernel)), fun _ => (List.mem_of_getElem? (i := 1988) (by decide +kernel)), fun h => absurd h (by decide), rfl, by decide +kernel, by decide +kernel, by decide +kernel, by decide +kernel, fun _ => by decide, by decide, by decide⟩
theorem kY_X13_draw : q_okY 0 M_X13_draw := ⟨(List.mem_of_getElem? (i := 1993) (by decide +kernel)), (List.mem_of_getElem? (i := 100) (by decide +kernel)), fun h => absurd h (by decide), fun _ => (List.mem_of_getElem? (i := 1991) (by decide +kernel)), fun _ => (List.mem_of_getElem? (i := 1992) (by decide +kernel)), fun h => absurd h (by decide), rfl, by decide +kernel, by decide +kernel, by decide +kernel, by decide +kernel, fun _ => by decide, by decide, by decide⟩
theorem kY_X13_draws : q_okY 0 M_X13_draws := ⟨(List.mem_of_getElem? (i := 1997) (by decide +kernel)), (List.mem_of_getElem? (i := 100) (by decide +kernel)), fun h => absurd h (by decide), fun _ => (List.mem_of_getElem? (i := 1996) (by decide +kernel)), fun _ => (List.mem_of_getElem? (i := 58) (by decide +kernel)), fun h => absurd h (by decide), rfl, by decide +kernel, by decide +kernel, by decide +kernel, by decide +kernel, fun _ => by decide, by decide, by decide⟩
theorem kY_X13_dirtiest : q_okY 0 M_X13_dirtiest := ⟨(List.mem_of_getElem? (i := 2001) (by decide +kernel)), (List.mem_of_getElem? (i := 100) (by decide +kernel)), fun h => absurd h (by decide), fun _ => (List.mem_of_getElem? (i := 2000) (by decide +kernel)), fun _ => (List.mem_of_getElem? (i := 59) (by decide +kernel)), fun h => absurd h (by decide), rfl, by decide +kernel, by decide +kernel, by decide +kernel, by decide +kernel, fun _ => by decide, by decide, by decide⟩
theorem kY_X13_pour : q_okY 0 M_X13_pour := ⟨(List.mem_of_getElem? (i := 2006) (by decide +kernel)), (List.mem_of_getElem? (i := 100) (by decide +kernel)), fun h => absurd h (by decide), fun _ => (List.mem_of_getElem? (i := 2004) (by decide +kernel)), fun _ => (List.mem_of_getElem? (i := 2005) (by decide +kernel)), fun h => absurd h (by decide), rfl, by decide +kernel, by decide +kernel, by decide +kernel, by decide +kernel, fun _ => by decide, by decide, by decide⟩
theorem kY_X13_pours : q_okY 0 M_X13_pours := ⟨(List.mem_of_getElem? (i := 2011) (by decide +kernel)), (List.mem_of_getElem? (i := 100) (by decide +kernel)), fun h => absurd h (by decide), fun _ => (List.mem_of_getElem? (i := 2010) (by decide +kernel)), fun _ => (List.mem_of_getElem? (i := 60) (by decide +kernel)), fun h => absurd h (by decide), rfl, by decide +kernel, by decide +kernel, by decide +kernel, by decide +kernel, fun _ => by decide, by decide, by decide⟩
theorem kY_X13_has : q_okY 0 M_X13_has := ⟨(List.mem_of_getElem? (i := 2015) (by decide +kernel)), (List.mem_of_getElem? (i := 100) (by decide +kernel)), fun h => absurd h (by decide), fun _ => (List.mem_of_getElem? (i := 2013) (by decide +kernel)), fun _ => (List.mem_of_getElem? (i := 2014) (by decide +kernel)), fun h => absurd h (by decide), rfl, by decide +kernel, by decide +kernel, by decide +kernel, by decide +kernel, fun _ => by decide, by decide, by decide⟩
theorem kY_X13_garment : q_okY 0 M_X13_garment := ⟨(List.mem_of_getElem? (i := 2019) (by decide +kernel)), (List.mem_of_getElem? (i := 100) (by decide +kernel)), fun h => absurd h (by decide), fun _ => (List.mem_of_getElem? (i := 2017) (by decide +kernel)), fun _ => (List.mem_of_getElem? (i := 2018) (by decide +kernel)), fun h => absurd h (by decide), rfl, by decide +kernel, by decide +kernel, by decide +kernel, by decide +kernel, fun _ => by decide, by decide, by decide⟩
theorem kY_X13_spread : q_okY 0 M_X13_spread := ⟨(List.mem_of_getElem? (i := 2023) (by decide +kernel)), (List.mem_of_getElem? (i := 100) (by decide +kernel)), fun h => absurd h (by decide), fun _ => (List.mem_of_getElem? (i := 2021) (by decide +kernel)), fun _ => (List.mem_of_getElem? (i := 2022) (by decide +kernel)), fun h => absurd h (by decide), rfl, by decide +kernel, by decide +kernel, by decide +kernel, by decide +kernel, fun _ => by decide, by decide, by decide⟩
theorem kY_X13_sortsFor : q_okY 0 M_X13_sortsFor := ⟨(List.mem_of_getElem? (i := 2027) (by decide +kernel)), (List.mem_of_getElem? (i := 100) (by decide +kernel)), fun h => absurd h (by decide), fun _ => (List.mem_of_getElem? (i := 2026) (by decide +kernel)), fun _ => (List.mem_of_getElem? (i := 61) (by decide +kernel)), fun h => absurd h (by decide), rfl, by decide +kernel, by decide +kernel, by decide +kernel, by decide +kernel, fun _ => by decide, by decide, by decide⟩
theorem kY_X13_packs : q_okY 0 M_X13_packs := ⟨(List.mem_of_getElem? (i := 2031) (by decide +kernel)), (List.mem_of_getElem? (i := 100) (by decide +kernel)), fun h => absurd h (by decide), fun _ => (List.mem_of_getElem? (i := 2029) (by decide +kernel)), fun _ => (List.mem_of_getElem? (i := 2030) (by decide +kernel)), fun h => absurd h (by decide), rfl, by decide +kernel, by decide +kernel, by decide +kernel, by decide +kernel, fun _ => by decide, by decide, by decide⟩
theorem kY_X13_house : q_okY 0 M_X13_house := ⟨(List.mem_of_getElem? (i := 2035) (by decide +kernel)), (List.mem_of_getElem? (i := 100) (by decide +kernel)), fun h => absurd h (by decide), fun _ => (List.mem_of_getElem? (i := 2033) (by decide +kernel)), fun _ => (List.mem_of_getElem? (i := 2034) (by decide +kernel)), fun h => absurd h (by decide), rfl, by decide +kernel, by decide +kernel, by decide +kernel, by decide +kernel, fun _ => by decide, by decide, by decide⟩
theorem kY_X13_readHouse : q_okY 0 M_X13_readHouse := ⟨(List.mem_of_getElem? (i := 2039) (by decide +kernel)), (List.mem_of_getElem? (i := 100) (by decide +kernel)), fun h => absurd h (by decide), fun _ => (List.mem_of_getElem? (i := 2038) (by decide +kernel)), fun _ => (List.mem_of_getElem? (i := 62) (by decide +kernel)), fun h => absurd h (by decide), rfl, by decide +kernel, by decide +kernel, by decide +kernel, by decide +kernel, fun _ => by decide, by decide, by decide⟩
theorem kY_X13_asAtFirst : q_okY 0 M_X13_asAtFirst := ⟨(List.mem_of_getElem? (i := 2043) (by decide +kernel)), (List.mem_of_getElem? (i := 100) (by decide +kernel)), fun h => absurd h (by decide), fun _ => (List.mem_of_getElem? (i := 2042) (by decide +kernel)), fun _ => (List.mem_of_getElem? (i := 63) (by decide +kernel)), fun h => absurd h (by decide), rfl, by decide +kernel, by decide +kernel, by decide +kernel, by decide +kernel, fun _ => by decide, by decide, by decide⟩
theorem kY_X13_readRule : q_okY 0 M_X13_readRule := ⟨(List.mem_of_getElem? (i := 2047) (by decide +kernel)), (List.mem_of_getElem? (i := 100) (by decide +kernel)), fun h => absurd h (by decide), fun _ => (List.mem_of_getElem? (i := 2046) (by decide +kernel)), fun _ => (List.mem_of_getElem? (i := 64) (by decide +kernel)), fun h => absurd h (by decide), rfl, by decide +kernel, by decide +kernel, by decide +kernel, by decide +kernel, fun _ => by decide, by decide, by decide⟩
theorem kY_X13_sets : q_okY 0 M_X13_sets := ⟨(List.mem_of_getElem? (i := 2052) (by decide +kernel)), (List.mem_of_getElem? (i := 100) (by decide +kernel)), fun h => absurd h (by decide), fun _ => (List.mem_of_getElem? (i := 2051) (by decide +kernel)), fun _ => (List.mem_of_getElem? (i := 65) (by decide +kernel)), fun h => absurd h (by decide), rfl, by decide +kernel, by decide +kernel, by decide +kernel, by decide +kernel, fun _ => by decide, by decide, by decide⟩
theorem kY_X13_readPours : q_okY 0 M_X13_readPours := ⟨(List.mem_of_getElem? (i := 2058) (by decide +kernel)), (List.mem_of_getElem? (i := 100) (by decide +kernel)), fun h => absurd h (by decide), fun _ => (List.mem_of_getElem? (i := 2057) (by decide +kernel)), fun _ => (List.mem_of_getElem? (i := 66) (by decide +kernel)), fun h => absurd h (by decide), rfl, by decide +kernel, by decide +kernel, by decide +kernel, by decide +kernel, fun _ => by decide, by decide, by decide⟩
theorem kY_X13_readAgain : q_okY 0 M_X13_readAgain := ⟨(List.mem_of_getElem? (i := 2066) (by decide +kernel)), (List.mem_of_getElem? (i := 100) (by decide +kernel)), fun h => absurd h (by decide), fun _ => (List.mem_of_getElem? (i := 2065) (by decide +kernel)), fun _ => (List.mem_of_getElem? (i := 67) (by decide +kernel)), fun h => absurd h (by decide), rfl, by decide +kernel, by decide +kernel, by decide +kernel, by decide +kernel, fun _ => by decide, by decide, by decide⟩
theorem kY_X13_tells : q_okY 0 M_X13_tells := ⟨(List.mem_of_getElem? (i := 2074) (by decide +kernel)), (List.mem_of_getElem? (i := 100) (by decide +kernel)), fun h => absurd h (by decide), fun _ => (List.mem_of_getElem? (i := 2072) (by decide +kernel)), fun _ => (List.mem_of_getElem? (i := 2073) (by decide +kernel)), fun h => absurd h (by decide), rfl, by decide +kernel, by decide +kernel, by decide +kernel, by decide +kernel, fun _ => by decide, by decide, by decide⟩
theorem kY_X13_machine : q_okY 0 M_X13_machine := ⟨(List.mem_of_getElem? (i := 2078) (by decide +kernel)), (List.mem_of_getElem? (i := 100) (by decide +kernel)), fun h => absurd h (by decide), fun _ => (List.mem_of_getElem? (i := 2076) (by decide +kernel)), fun _ => (List.mem_of_getElem? (i := 2077) (by decide +kernel)), fun h => absurd h (by decide), rfl, by decide +kernel, by decide +kernel, by decide +kernel, by decide +kernel, fun _ => by decide, by decide, by decide⟩
theorem kY_X13_lot : q_okY 0 M_X13_lot := ⟨(List.mem_of_getElem? (i := 2082) (by decide +kernel)), (List.mem_of_getElem? (i := 100) (by decide +kernel)), fun h => absurd h (by decide), fun _ => (List.mem_of_getElem? (i := 2080) (by decide +kernel)), fun _ => (List.mem_of_getElem? (i := 2081) (by decide +kernel)), fun h => absurd h (by decide), rfl, by decide +kernel, by decide +kernel, by decide +kernel, by decide +kernel, fun _ => by decide, by decide, by decide⟩
theorem kY_X13_adds : q_okY 0 M_X13_adds := ⟨(List.mem_of_getElem? (i := 2086) (by decide +kernel)), (List.mem_of_getElem? (i := 100) (by decide +kernel)), fun h => absurd h (by decide), fun _ => (List.mem_of_getElem? (i := 2085) (by decide +kernel)), fun _ => (List.mem_of_getElem? (i := 68) (by decide +kernel)), fun h => absurd h (by decide), rfl, by decide +kernel, by decide +kernel, by decide +kernel, by decide +kernel, fun _ => by decide, by decide, by decide⟩
theorem kY_X13_load : q_okY 0 M_X13_load := ⟨(List.mem_of_getElem? (i := 2090) (by decide +kernel)), (List.mem_of_getElem? (i := 100) (by decide +kernel)), fun h => absurd h (by decide), fun _ => (List.mem_of_getElem? (i := 2088) (by decide +kernel)), fun _ => (List.mem_of_getElem? (i := 2089) (by decide +kernel)), fun h => absurd h (by decide), rfl, by decide +kernel, by decide +kernel, by decide +kernel, by decide +kernel, fun _ => by decide, by decide, by decide⟩
theorem kY_X13_noLot : q_okY 0 M_X13_noLot := ⟨(List.mem_of_getElem? (i := 2094) (by decide +kernel)), (List.mem_of_getElem? (i := 100) (by decide +kernel)), fun h => absurd h (by decide), fun _ => (List.mem_of_getElem? (i := 2093) (by decide +kernel)), fun _ => (List.mem_of_getElem? (i := 69) (by decide +kernel)), fun h => absurd h (by decide), rfl, by decide +kernel, by decide +kernel, by decide +kernel, by decide +kernel, fun _ => by decide, by decide, by decide⟩
theorem kY_X13_noMachine : q_okY 0 M_X13_noMachine := ⟨(List.mem_of_getElem? (i := 2098) (by decide +kernel)), (List.mem_of_getElem? (i := 100) (by decide +kernel)), fun h => absurd h (by decide), fun _ => (List.mem_of_getElem? (i := 2097) (by decide +kernel)), fun _ => (List.mem_of_getElem? (i := 70) (by decide +kernel)), fun h => absurd h (by decide), rfl, by decide +kernel, by decide +kernel, by decide +kernel, by decide +kernel, fun _ => by decide, by decide, by decide⟩
theorem kY_X13_days : q_okY 0 M_X13_days := ⟨(List.mem_of_getElem? (i := 2102) (by decide +kernel)), (List.mem_of_getElem? (i := 100) (by decide +kernel)), fun h => absurd h (by decide), fun _ => (List.mem_of_getElem? (i := 2100) (by decide +kernel)), fun _ => (List.mem_of_getElem? (i := 2101) (by decide +kernel)), fun h => absurd h (by decide), rfl, by decide +kernel, by decide +kernel, by decide +kernel, by decide +kernel, fun _ => by decide, by decide, by decide⟩
theorem kY_X13_step : q_okY 0 M_X13_step := ⟨(List.mem_of_getElem? (i := 2106) (by decide +kernel)), (List.mem_of_getElem? (i := 100) (by decide +kernel)), fun h => absurd h (by decide), fun _ => (List.mem_of_getElem? (i := 2105) (by decide +kernel)), fun _ => (List.mem_of_getElem? (i := 71) (by decide +kernel)), fun h => absurd h (by decide), rfl, by decide +kernel, by decide +kernel, by decide +kernel, by decide +kernel, fun _ => by decide, by decide, by decide⟩
theorem kY_X13_bathes : q_okY 0 M_X13_bathes := ⟨(List.mem_of_getElem? (i := 2110) (by decide +kernel)), (List.mem_of_getElem? (i := 100) (by decide +kernel)), fun h => absurd h (by decide), fun _ => (List.mem_of_getElem? (i := 2109) (by decide +kernel)), fun _ => (List.mem_of_getElem? (i := 72) (by decide +kernel)), fun h => absurd h (by decide), rfl, by decide +kernel, by decide +kernel, by decide +kernel, by decide +kernel, fun _ => by decide, by decide, by decide⟩
theorem kY_X13_washes : q_okY 0 M_X13_washes := ⟨(List.mem_of_getElem? (i := 2114) (by decide +kernel)), (List.mem_of_getElem? (i := 100) (by decide +kernel)), fun h => absurd h (by decide), fun _ => (List.mem_of_getElem? (i := 2113) (by decide +kernel)), fun _ => (List.mem_of_getElem? (i := 73) (by decide +kernel)), fun h => absurd h (by decide), rfl, by decide +kernel, by decide +kernel, by decide +kernel, by decide +kernel, fun _ => by decide, by decide, by decide⟩
theorem kY_X13_nextFor : q_okY 0 M_X13_nextFor := ⟨(List.mem_of_getElem? (i := 2118) (by decide +kernel)), (List.mem_of_getElem? (i := 100) (by decide +kernel)), fun h => absurd h (by decide), fun _ => (List.mem_of_getElem? (i := 2117) (by decide +kernel)), fun _ => (List.mem_of_getElem? (i := 74) (by decide +kernel)), fun h => absurd h (by decide), rfl, by decide +kernel, by decide +kernel, by decide +kernel, by decide +kernel, fun _ => by decide, by decide, by decide⟩
theorem kY_X13_led : q_okY 0 M_X13_led := ⟨(List.mem_of_getElem? (i := 2122) (by decide +kernel)), (List.mem_of_getElem? (i := 100) (by decide +kernel)), fun h => absurd h (by decide), fun _ => (List.mem_of_getElem? (i := 2120) (by decide +kernel)), fun _ => (List.mem_of_getElem? (i := 2121) (by decide +kernel)), fun h => absurd h (by decide), rfl, by decide +kernel, by decide +kernel, by decide +kernel, by decide +kernel, fun _ => by decide, by decide, by decide⟩
theorem kY_X13_piecesOf : q_okY 0 M_X13_piecesOf := ⟨(List.mem_of_getElem? (i := 2126) (by decide +kernel)), (List.mem_of_getElem? (i := 100) (by decide +kernel)), fun h => absurd h (by decide), fun _ => (List.mem_of_getElem? (i := 2125) (by decide +kernel)), fun _ => (List.mem_of_getElem? (i := 75) (by decide +kernel)), fun h => absurd h (by decide), rfl, by decide +kernel, by decide +kernel, by decide +kernel, by decide +kernel, fun _ => by decide, by decide, by decide⟩
theorem kY_X13_works : q_okY 0 M_X13_works := ⟨(List.mem_of_getElem? (i := 2130) (by decide +kernel)), (List.mem_of_getElem? (i := 100) (by decide +kernel)), fun h => absurd h (by decide), fun _ => (List.mem_of_getElem? (i := 2128) (by decide +kernel)), fun _ => (List.mem_of_getElem? (i := 2129) (by decide +kernel)), fun h => absurd h (by decide), rfl, by decide +kernel, by decide +kernel, by decide +kernel, by decide +kernel, fun _ => by decide, by decide, by decide⟩
theorem kY_X13_measure : q_okY 0 M_X13_measure := ⟨(List.mem_of_getElem? (i := 2134) (by decide +kernel)), (List.mem_of_getElem? (i := 100) (by decide +kernel)), fun h => absurd h (by decide), fun _ => (List.mem_of_getElem? (i := 2132) (by decide +kernel)), fun _ => (List.mem_of_getElem? (i := 2133) (by decide +kernel)), fun h => absurd h (by decide), rfl, by decide +kernel, by decide +kernel, by decide +kernel, by decide +kernel, fun _ => by decide, by decide, by decide⟩
theorem kY_X13_noPiece : q_okY 0 M_X13_noPiece := ⟨(List.mem_of_getElem? (i := 2138) (by decide +kernel)), (List.mem_of_getElem? (i := 100) (by decide +kernel)), fun h => absurd h (by decide), fun _ => (List.mem_of_getElem? (i := 2137) (by decide +kernel)), fun _ => (List.mem_of_getElem? (i := 76) (by decide +kernel)), fun h => absurd h (by decide), rfl, by decide +kernel, by decide +kernel, by decide +kernel, by decide +kernel, fun _ => by decide, by decide, by decide⟩
theorem kY_X13_known : q_okY 0 M_X13_known := ⟨(List.mem_of_getElem? (i := 2142) (by decide +kernel)), (List.mem_of_getElem? (i := 100) (by decide +kernel)), fun h => absurd h (by decide), fun _ => (List.mem_of_getElem? (i := 2140) (by decide +kernel)), fun _ => (List.mem_of_getElem? (i := 2141) (by decide +kernel)), fun h => absurd h (by decide), rfl, by decide +kernel, by decide +kernel, by decide +kernel, by decide +kernel, fun _ => by decide, by decide, by decide⟩
theorem kY_X13_knownOf : q_okY 0 M_X13_knownOf := ⟨(List.mem_of_getElem? (i := 2146) (by decide +kernel)), (List.mem_of_getElem? (i := 100) (by decide +kernel)), fun h => absurd h (by decide), fun _ => (List.mem_of_getElem? (i := 2145) (by decide +kernel)), fun _ => (List.mem_of_getElem? (i := 77) (by decide +kernel)), fun h => absurd h (by decide), rfl, by decide +kernel, by decide +kernel, by decide +kernel, by decide +kernel, fun _ => by decide, by decide, by decide⟩
theorem kY_X13_shadeOf : q_okY 0 M_X13_shadeOf := ⟨(List.mem_of_getElem? (i := 2150) (by decide +kernel)), (List.mem_of_getElem? (i := 100) (by decide +kernel)), fun h => absurd h (by decide), fun _ => (List.mem_of_getElem? (i := 2149) (by decide +kernel)), fun _ => (List.mem_of_getElem? (i := 78) (by decide +kernel)), fun h => absurd h (by decide), rfl, by decide +kernel, by decide +kernel, by decide +kernel, by decide +kernel, fun _ => by decide, by decide, by decide⟩
theorem kY_X13_sorted : q_okY 0 M_X13_sorted := ⟨(List.mem_of_getElem? (i := 2154) (by decide +kernel)), (List.mem_of_getElem? (i := 100) (by decide +kernel)), fun h => absurd h (by decide), fun _ => (List.mem_of_getElem? (i := 2152) (by decide +kernel)), fun _ => (List.mem_of_getElem? (i := 2153) (by decide +kernel)), fun h => absurd h (by decide), rfl, by decide +kernel, by decide +kernel, by decide +kernel, by decide +kernel, fun _ => by decide, by decide, by decide⟩
theorem kY_X13_sortedOf : q_okY 0 M_X13_sortedOf := ⟨(List.mem_of_getElem? (i := 2158) (by decide +kernel)), (List.mem_of_getElem? (i := 100) (by decide +kernel)), fun h => absurd h (by decide), fun _ => (List.mem_of_getElem? (i := 2157) (by decide +kernel)), fun _ => (List.mem_of_getElem? (i := 79) (by decide +kernel)), fun h => absurd h (by decide), rfl, by decide +kernel, by decide +kernel, by decide +kernel, by decide +kernel, fun _ => by decide, by decide, by decide⟩
theorem kY_X13_again : q_okY 0 M_X13_again := ⟨(List.mem_of_getElem? (i := 2162) (by decide +kernel)), (List.mem_of_getElem? (i := 100) (by decide +kernel)), fun h => absurd h (by decide), fun _ => (List.mem_of_getElem? (i := 2160) (by decide +kernel)), fun _ => (List.mem_of_getElem? (i := 2161) (by decide +kernel)), fun h => absurd h (by decide), rfl, by decide +kernel, by decide +kernel, by decide +kernel, by decide +kernel, fun _ => by decide, by decide, by decide⟩
theorem kY_X13_deliver : q_okY 0 M_X13_deliver := ⟨(List.mem_of_getElem? (i := 2166) (by decide +kernel)), (List.mem_of_getElem? (i := 100) (by decide +kernel)), fun h => absurd h (by decide), fun _ => (List.mem_of_getElem? (i := 2164) (by decide +kernel)), fun _ => (List.mem_of_getElem? (i := 2165) (by decide +kernel)), fun h => absurd h (by decide), rfl, by decide +kernel, by decide +kernel, by decide +kernel, by decide +kernel, fun _ => by decide, by decide, by decide⟩
theorem kY_X13_gathers : q_okY 0 M_X13_gathers := ⟨(List.mem_of_getElem? (i := 2170) (by decide +kernel)), (List.mem_of_getElem? (i := 100) (by decide +kernel)), fun h => absurd h (by decide), fun _ => (List.mem_of_getElem? (i := 2169) (by decide +kernel)), fun _ => (List.mem_of_getElem? (i := 80) (by decide +kernel)), fun h => absurd h (by decide), rfl, by decide +kernel, by decide +kernel, by decide +kernel, by decide +kernel, fun _ => by decide, by decide, by decide⟩
theorem kY_X13_packsOf : q_okY 0 M_X13_packsOf := ⟨(List.mem_of_getElem? (i := 2174) (by decide +kernel)), (List.mem_of_getElem? (i := 100) (by decide +kernel)), fun h => absurd h (by decide), fun _ => (List.mem_of_getElem? (i := 2173) (by decide +kernel)), fun _ => (List.mem_of_getElem? (i := 81) (by decide +kernel)), fun h => absurd h (by decide), rfl, by decide +kernel, by decide +kernel, by decide +kernel, by decide +kernel, fun _ => by decide, by decide, by decide⟩
theorem kY_X13_ready : q_okY 0 M_X13_ready := ⟨(List.mem_of_getElem? (i := 2178) (by decide +kernel)), (List.mem_of_getElem? (i := 100) (by decide +kernel)), fun h => absurd h (by decide), fun _ => (List.mem_of_getElem? (i := 2176) (by decide +kernel)), fun _ => (List.mem_of_getElem? (i := 2177) (by decide +kernel)), fun h => absurd h (by decide), rfl, by decide +kernel, by decide +kernel, by decide +kernel, by decide +kernel, fun _ => by decide, by decide, by decide⟩
theorem kY_X13_pattern : q_okY 0 M_X13_pattern := ⟨(List.mem_of_getElem? (i := 2182) (by decide +kernel)), (List.mem_of_getElem? (i := 100) (by decide +kernel)), fun h => absurd h (by decide), fun _ => (List.mem_of_getElem? (i := 2180) (by decide +kernel)), fun _ => (List.mem_of_getElem? (i := 2181) (by decide +kernel)), fun h => absurd h (by decide), rfl, by decide +kernel, by decide +kernel, by decide +kernel, by decide +kernel, fun _ => by decide, by decide, by decide⟩
theorem kY_X13_heat : q_okY 0 M_X13_heat := ⟨(List.mem_of_getElem? (i := 2186) (by decide +kernel)), (List.mem_of_getElem? (i := 100) (by decide +kernel)), fun h => absurd h (by decide), fun _ => (List.mem_of_getElem? (i := 2184) (by decide +kernel)), fun _ => (List.mem_of_getElem? (i := 2185) (by decide +kernel)), fun h => absurd h (by decide), rfl, by decide +kernel, by decide +kernel, by decide +kernel, by decide +kernel, fun _ => by decide, by decide, by decide⟩
theorem kY_X13_burn : q_okY 0 M_X13_burn := ⟨(List.mem_of_getElem? (i := 2190) (by decide +kernel)), (List.mem_of_getElem? (i := 100) (by decide +kernel)), fun h => absurd h (by decide), fun _ => (List.mem_of_getElem? (i := 2188) (by decide +kernel)), fun _ => (List.mem_of_getElem? (i := 2189) (by decide +kernel)), fun h => absurd h (by decide), rfl, by decide +kernel, by decide +kernel, by decide +kernel, by decide +kernel, fun _ => by decide, by decide, by decide⟩
theorem kY_X13_burned : q_okY 0 M_X13_burned := ⟨(List.mem_of_getElem? (i := 2195) (by decide +kernel)), (List.mem_of_getElem? (i := 100) (by decide +kernel)), fun h => absurd h (by decide), fun _ => (List.mem_of_getElem? (i := 2193) (by decide +kernel)), fun _ => (List.mem_of_getElem? (i := 2194) (by decide +kernel)), fun h => absurd h (by decide), rfl, by decide +kernel, by decide +kernel, by decide +kernel, by decide +kernel, fun _ => by decide, by decide, by decide⟩
theorem kY_X13_seam : q_okY 0 M_X13_seam := ⟨(List.mem_of_getElem? (i := 2199) (by decide +kernel)), (List.mem_of_getElem? (i := 100) (by decide +kernel)), fun h => absurd h (by decide), fun _ => (List.mem_of_getElem? (i := 2197) (by decide +kernel)), fun _ => (List.mem_of_getElem? (i := 2198) (by decide +kernel)), fun h => absurd h (by decide), rfl, by decide +kernel, by decide +kernel, by decide +kernel, by decide +kernel, fun _ => by decide, by decide, by decide⟩
theorem kY_X13_seamOf : q_okY 0 M_X13_seamOf := ⟨(List.mem_of_getElem? (i := 2203) (by decide +kernel)), (List.mem_of_getElem? (i := 100) (by decide +kernel)), fun h => absurd h (by decide), fun _ => (List.mem_of_getElem? (i := 2202) (by decide +kernel)), fun _ => (List.mem_of_getElem? (i := 82) (by decide +kernel)), fun h => absurd h (by decide), rfl, by decide +kernel, by decide +kernel, by decide +kernel, by decide +kernel, fun _ => by decide, by decide, by decide⟩
theorem kY_X13_shift : q_okY 0 M_X13_shift := ⟨(List.mem_of_getElem? (i := 2207) (by decide +kernel)), (List.mem_of_getElem? (i := 100) (by decide +kernel)), fun h => absurd h (by decide), fun _ => (List.mem_of_getElem? (i := 2205) (by decide +kernel)), fun _ => (List.mem_of_getElem? (i := 2206) (by decide +kernel)), fun h => absurd h (by decide), rfl, by decide +kernel, by decide +kernel, by decide +kernel, by decide +kernel, fun _ => by decide, by decide, by decide⟩
theorem kY_X13_count : q_okY 0 M_X13_count := ⟨(List.mem_of_getElem? (i := 2211) (by decide +kernel)), (List.mem_of_getElem? (i := 100) (by decide +kernel)), fun h => absurd h (by decide), fun _ => (List.mem_of_getElem? (i := 2209) (by decide +kernel)), fun _ => (List.mem_of_getElem? (i := 2210) (by decide +kernel)), fun h => absurd h (by decide), rfl, by decide +kernel, by decide +kernel, by decide +kernel, by decide +kernel, fun _ => by decide, by decide, by decide⟩
theorem kY_L_cloth : q_okY 1 M_L_cloth := ⟨(List.mem_of_getElem? (i := 620) (by decide +kernel)), (List.mem_of_getElem? (i := 83) (by decide +kernel)), fun _ => (List.mem_of_getElem? (i := 619) (by decide +kernel)), fun h => absurd rfl h, fun h => absurd h (by decide), fun h => absurd h (by decide), rfl, by decide +kernel, by decide +kernel, by decide +kernel, by decide +kernel, fun h => absurd rfl h, by decide, by decide⟩
theorem kY_L_recipe : q_okY 1 M_L_recipe := ⟨(List.mem_of_getElem? (i := 724) (by decide +kernel)), (List.mem_of_getElem? (i := 83) (by decide +kernel)), fun _ => (List.mem_of_getElem? (i := 723) (by decide +kernel)), fun h => absurd rfl h, fun h => absurd h (by decide), fun h => absurd h (by decide), rfl, by decide +kernel, by decide +kernel, by decide +kernel, by decide +kernel, fun h => absurd rfl h, by decide, by decide⟩
theorem kY_L_look : q_okY 1 M_L_look := ⟨(List.mem_of_getElem? (i := 826) (by decide +kernel)), (List.mem_of_getElem? (i := 83) (by decide +kernel)), fun _ => (List.mem_of_getElem? (i := 825) (by decide +kernel)), fun h => absurd rfl h, fun h => absurd h (by decide), fun h => absurd h (by decide), rfl, by decide +kernel, by decide +kernel, by decide +kernel, by decide +kernel, fun h => absurd rfl h, by decide, by decide⟩
theorem kY_L_meets : q_okY 1 M_L_meets := ⟨(List.mem_of_getElem? (i := 899) (by decide +kernel)), (List.mem_of_getElem? (i := 83) (by decide +kernel)), fun _ => (List.mem_of_getElem? (i := 898) (by decide +kernel)), fun h => absurd rfl h, fun h => absurd h (by decide), fun h => absurd h (by decide), rfl, by decide +kernel, by decide +kernel, by decide +kernel, by decide +kernel, fun h => absurd rfl h, by decide, by decide⟩
theorem kY_L_cheapest : q_okY 1 M_L_cheapest := ⟨(List.mem_of_getElem? (i := 913) (by decide +kernel)), (List.mem_of_getElem? (i := 83) (by decide +kernel)), fun _ => (List.mem_of_getElem? (i := 912) (by decide +kernel)), fun h => absurd rfl h, fun h => absurd h (by decide), fun h => absurd h (by decide), rfl, by decide +kernel, by decide +kernel, by decide +kernel, by decide +kernel, fun h => absurd rfl h, by decide, by decide⟩
theorem kY_L_bath : q_okY 1 M_L_bath := ⟨(List.mem_of_getElem? (i := 950) (by decide +kernel)), (List.mem_of_getElem? (i := 83) (by decide +kernel)), fun _ => (List.mem_of_getElem? (i := 949) (by decide +kernel)), fun h => absurd rfl h, fun h => absurd h (by decide), fun h => absurd h (by decide), rfl, by decide +kernel, by decide +kernel, by decide +kernel, by decide +kernel, fun h => absurd rfl h, by decide, by decide⟩
theorem kY_L_carry : q_okY 1 M_L_carry := ⟨(List.mem_of_getElem? (i := 961) (by decide +kernel)), (List.mem_of_getElem? (i := 83) (by decide +kernel)), fun _ => (List.mem_of_getElem? (i := 960) (by decide +kernel)), fun h => absurd rfl h, fun h => absurd h (by decide), fun h => absurd h (by decide), rfl, by decide +kernel, by decide +kernel, by decide +kernel, by decide +kernel, fun h => absurd rfl h, by decide, by decide⟩
theorem kY_L_batch : q_okY 1 M_L_batch := ⟨(List.mem_of_getElem? (i := 972) (by decide +kernel)), (List.mem_of_getElem? (i := 83) (by decide +kernel)), fun _ => (List.mem_of_getElem? (i := 971) (by decide +kernel)), fun h => absurd rfl h, fun h => absurd h (by decide), fun h => absurd h (by decide), rfl, by decide +kernel, by decide +kernel, by decide +kernel, by decide +kernel, fun h => absurd rfl h, by decide, by decide⟩
theorem kY_L_tank : q_okY 1 M_L_tank := ⟨(List.mem_of_getElem? (i := 983) (by decide +kernel)), (List.mem_of_getElem? (i := 83) (by decide +kernel)), fun _ => (List.mem_of_getElem? (i := 982) (by decide +kernel)), fun h => absurd rfl h, fun h => absurd h (by decide), fun h => absurd h (by decide), rfl, by decide +kernel, by decide +kernel, by decide +kernel, by decide +kernel, fun h => absurd rfl h, by decide, by decide⟩
theorem kY_L_draw : q_okY 1 M_L_draw := ⟨(List.mem_of_getElem? (i := 994) (by decide +kernel)), (List.mem_of_getElem? (i := 83) (by decide +kernel)), fun _ => (List.mem_of_getElem? (i := 993) (by decide +kernel)), fun h => absurd rfl h, fun h => absurd h (by decide), fun h => absurd h (by decide), rfl, by decide +kernel, by decide +kernel, by decide +kernel, by decide +kernel, fun h => absurd rfl h, by decide, by decide⟩
theorem kY_L_pour : q_okY 1 M_L_pour := ⟨(List.mem_of_getElem? (i := 1018) (by decide +kernel)), (List.mem_of_getElem? (i := 83) (by decide +kernel)), fun _ => (List.mem_of_getElem? (i := 1017) (by decide +kernel)), fun h => absurd rfl h, fun h => absurd h (by decide), fun h => absurd h (by decide), rfl, by decide +kernel, by decide +kernel, by decide +kernel, by decide +kernel, fun h => absurd rfl h, by decide, by decide⟩
theorem kY_L_has : q_okY 1 M_L_has := ⟨(List.mem_of_getElem? (i := 1035) (by decide +kernel)), (List.mem_of_getElem? (i := 83) (by decide +kernel)), fun _ => (List.mem_of_getElem? (i := 1034) (by decide +kernel)), fun h => absurd rfl h, fun h => absurd h (by decide), fun h => absurd h (by decide), rfl, by decide +kernel, by decide +kernel, by decide +kernel, by decide +kernel, fun h => absurd rfl h, by decide, by decide⟩
theorem kY_L_garment : q_okY 1 M_L_garment := ⟨(List.mem_of_getElem? (i := 1046) (by decide +kernel)), (List.mem_of_getElem? (i := 83) (by decide +kernel)), fun _ => (List.mem_of_getElem? (i := 1045) (by decide +kernel)), fun h => absurd rfl h, fun h => absurd h (by decide), fun h => absurd h (by decide), rfl, by decide +kernel, by decide +kernel, by decide +kernel, by decide +kernel, fun h => absurd rfl h, by decide, by decide⟩
theorem kY_L_spread : q_okY 1 M_L_spread := ⟨(List.mem_of_getElem? (i := 1057) (by decide +kernel)), (List.mem_of_getElem? (i := 83) (by decide +kernel)), fun _ => (List.mem_of_getElem? (i := 1056) (by decide +kernel)), fun h => absurd rfl h, fun h => absurd h (by decide), fun h => absurd h (by decide), rfl, by decide +kernel, by decide +kernel, by decide +kernel, by decide +kernel, fun h => absurd rfl h, by decide, by decide⟩
theorem kY_L_packs : q_okY 1 M_L_packs := ⟨(List.mem_of_getElem? (i := 1072) (by decide +kernel)), (List.mem_of_getElem? (i := 83) (by decide +kernel)), fun _ => (List.mem_of_getElem? (i := 1071) (by decide +kernel)), fun h => absurd rfl h, fun h => absurd h (by decide), fun h => absurd h (by decide), rfl, by decide +kernel, by decide +kernel, by decide +kernel, by decide +kernel, fun h => absurd rfl h, by decide, by decide⟩
theorem kY_L_house : q_okY 1 M_L_house := ⟨(List.mem_of_getElem? (i := 1083) (by decide +kernel)), (List.mem_of_getElem? (i := 83) (by decide +kernel)), fun _ => (List.mem_of_getElem? (i := 1082) (by decide +kernel)), fun h => absurd rfl h, fun h => absurd h (by decide), fun h => absurd h (by decide), rfl, by decide +kernel, by decide +kernel, by decide +kernel, by decide +kernel, fun h => absurd rfl h, by decide, by decide⟩
theorem kY_L_tells : q_okY 1 M_L_tells := ⟨(List.mem_of_getElem? (i := 1122) (by decide +kernel)), (List.mem_of_getElem? (i := 83) (by decide +kernel)), fun _ => (List.mem_of_getElem? (i := 1121) (by decide +kernel)), fun h => absurd rfl h, fun h => absurd h (by decide), fun h => absurd h (by decide), rfl, by decide +kernel, by decide +kernel, by decide +kernel, by decide +kernel, fun h => absurd rfl h, by decide, by decide⟩
theorem kY_L_machine : q_okY 1 M_L_machine := ⟨(List.mem_of_getElem? (i := 1133) (by decide +kernel)), (List.mem_of_getElem? (i := 83) (by decide +kernel)), fun _ => (List.mem_of_getElem? (i := 1132) (by decide +kernel)), fun h => absurd rfl h, fun h => absurd h (by decide), fun h => absurd h (by decide), rfl, by decide +kernel, by decide +kernel, by decide +kernel, by decide +kernel, fun h => absurd rfl h, by decide, by decide⟩
theorem kY_L_lot : q_okY 1 M_L_lot := ⟨(List.mem_of_getElem? (i := 1140) (by decide +kernel)), (List.mem_of_getElem? (i := 83) (by decide +kernel)), fun _ => (List.mem_of_getElem? (i := 1139) (by decide +kernel)), fun h => absurd rfl h, fun h => absurd h (by decide), fun h => absurd h (by decide), rfl, by decide +kernel, by decide +kernel, by decide +kernel, by decide +kernel, fun h => absurd rfl h, by decide, by decide⟩
theorem kY_L_load : q_okY 1 M_L_load := ⟨(List.mem_of_getElem? (i := 1298) (by decide +kernel)), (List.mem_of_getElem? (i := 83) (by decide +kernel)), fun _ => (List.mem_of_getElem? (i := 1297) (by decide +kernel)), fun h => absurd rfl h, fun h => absurd h (by decide), fun h => absurd h (by decide), rfl, by decide +kernel, by decide +kernel, by decide +kernel, by decide +kernel, fun h => absurd rfl h, by decide, by decide⟩
theorem kY_L_days : q_okY 1 M_L_days := ⟨(List.mem_of_getElem? (i := 1313) (by decide +kernel)), (List.mem_of_getElem? (i := 83) (by decide +kernel)), fun _ => (List.mem_of_getElem? (i := 1312) (by decide +kernel)), fun h => absurd rfl h, fun h => absurd h (by decide), fun h => absurd h (by decide), rfl, by decide +kernel, by decide +kernel, by decide +kernel, by decide +kernel, fun h => absurd rfl h, by decide, by decide⟩
theorem kY_L_led : q_okY 1 M_L_led := ⟨(List.mem_of_getElem? (i := 1365) (by decide +kernel)), (List.mem_of_getElem? (i := 83) (by decide +kernel)), fun _ => (List.mem_of_getElem? (i := 1364) (by decide +kernel)), fun h => absurd rfl h, fun h => absurd h (by decide), fun h => absurd h (by decide), rfl, by decide +kernel, by decide +kernel, by decide +kernel, by decide +kernel, fun h => absurd rfl h, by decide, by decide⟩
theorem kY_L_works : q_okY 1 M_L_works := ⟨(List.mem_of_getElem? (i := 1376) (by decide +kernel)), (List.mem_of_getElem? (i := 83) (by decide +kernel)), fun _ => (List.mem_of_getElem? (i := 1375) (by decide +kernel)), fun h => absurd rfl h, fun h => absurd h (by decide), fun h => absurd h (by decide), rfl, by decide +kernel, by decide +kernel, by decide +kernel, by decide +kernel, fun h => absurd rfl h, by decide, by decide⟩
theorem kY_L_measure : q_okY 1 M_L_measure := ⟨(List.mem_of_getElem? (i := 1383) (by decide +kernel)), (List.mem_of_getElem? (i := 83) (by decide +kernel)), fun _ => (List.mem_of_getElem? (i := 1382) (by decide +kernel)), fun h => absurd rfl h, fun h => absurd h (by decide), fun h => absurd h (by decide), rfl, by decide +kernel, by decide +kernel, by decide +kernel, by decide +kernel, fun h => absurd rfl h, by decide, by decide⟩
theorem kY_L_known : q_okY 1 M_L_known := ⟨(List.mem_of_getElem? (i := 1414) (by decide +kernel)), (List.mem_of_getElem? (i := 83) (by decide +kernel)), fun _ => (List.mem_of_getElem? (i := 1413) (by decide +kernel)), fun h => absurd rfl h, fun h => absurd h (by decide), fun h => absurd h (by decide), rfl, by decide +kernel, by decide +kernel, by decide +kernel, by decide +kernel, fun h => absurd rfl h, by decide, by decide⟩
theorem kY_L_sorted : q_okY 1 M_L_sorted := ⟨(List.mem_of_getElem? (i := 1433) (by decide +kernel)), (List.mem_of_getElem? (i := 83) (by decide +kernel)), fun _ => (List.mem_of_getElem? (i := 1432) (by decide +kernel)), fun h => absurd rfl h, fun h => absurd h (by decide), fun h => absurd h (by decide), rfl, by decide +kernel, by decide +kernel, by decide +kernel, by decide +kernel, fun h => absurd rfl h, by decide, by decide⟩
theorem kY_L_again : q_okY 1 M_L_again := ⟨(List.mem_of_getElem? (i := 1444) (by decide +kernel)), (List.mem_of_getElem? (i := 83) (by decide +kernel)), fun _ => (List.mem_of_getElem? (i := 1443) (by decide +kernel)), fun h => absurd rfl h, fun h => absurd h (by decide), fun h => absurd h (by decide), rfl, by decide +kernel, by decide +kernel, by decide +kernel, by decide +kernel, fun h => absurd rfl h, by decide, by decide⟩
theorem kY_L_deliver : q_okY 1 M_L_deliver := ⟨(List.mem_of_getElem? (i := 1461) (by decide +kernel)), (List.mem_of_getElem? (i := 83) (by decide +kernel)), fun _ => (List.mem_of_getElem? (i := 1460) (by decide +kernel)), fun h => absurd rfl h, fun h => absurd h (by decide), fun h => absurd h (by decide), rfl, by decide +kernel, by decide +kernel, by decide +kernel, by decide +kernel, fun h => absurd rfl h, by decide, by decide⟩
theorem kY_L_ready : q_okY 1 M_L_ready := ⟨(List.mem_of_getElem? (i := 1517) (by decide +kernel)), (List.mem_of_getElem? (i := 83) (by decide +kernel)), fun _ => (List.mem_of_getElem? (i := 1516) (by decide +kernel)), fun h => absurd rfl h, fun h => absurd h (by decide), fun h => absurd h (by decide), rfl, by decide +kernel, by decide +kernel, by decide +kernel, by decide +kernel, fun h => absurd rfl h, by decide, by decide⟩
theorem kY_L_pattern : q_okY 1 M_L_pattern := ⟨(List.mem_of_getElem? (i := 1524) (by decide +kernel)), (List.mem_of_getElem? (i := 83) (by decide +kernel)), fun _ => (List.mem_of_getElem? (i := 1523) (by decide +kernel)), fun h => absurd rfl h, fun h => absurd h (by decide), fun h => absurd h (by decide), rfl, by decide +kernel, by decide +kernel, by decide +kernel, by decide +kernel, fun h => absurd rfl h, by decide, by decide⟩
theorem kY_L_heat : q_okY 1 M_L_heat := ⟨(List.mem_of_getElem? (i := 1536) (by decide +kernel)), (List.mem_of_getElem? (i := 83) (by decide +kernel)), fun _ => (List.mem_of_getElem? (i := 1535) (by decide +kernel)), fun h => absurd rfl h, fun h => absurd h (by decide), fun h => absurd h (by decide), rfl, by decide +kernel, by decide +kernel, by decide +kernel, by decide +kernel, fun h => absurd rfl h, by decide, by decide⟩
theorem kY_L_burn : q_okY 1 M_L_burn := ⟨(List.mem_of_getElem? (i := 1547) (by decide +kernel)), (List.mem_of_getElem? (i := 83) (by decide +kernel)), fun _ => (List.mem_of_getElem? (i := 1546) (by decide +kernel)), fun h => absurd rfl h, fun h => absurd h (by decide), fun h => absurd h (by decide), rfl, by decide +kernel, by decide +kernel, by decide +kernel, by decide +kernel, fun h => absurd rfl h, by decide, by decide⟩
theorem kY_L_burned : q_okY 1 M_L_burned := ⟨(List.mem_of_getElem? (i := 1566) (by decide +kernel)), (List.mem_of_getElem? (i := 83) (by decide +kernel)), fun _ => (List.mem_of_getElem? (i := 1565) (by decide +kernel)), fun h => absurd rfl h, fun h => absurd h (by decide), fun h => absurd h (by decide), rfl, by decide +kernel, by decide +kernel, by decide +kernel, by decide +kernel, fun h => absurd rfl h, by decide, by decide⟩
theorem kY_L_seam : q_okY 1 M_L_seam := ⟨(List.mem_of_getElem? (i := 1573) (by decide +kernel)), (List.mem_of_getElem? (i := 83) (by decide +kernel)), fun _ => (List.mem_of_getElem? (i := 1572) (by decide +kernel)), fun h => absurd rfl h, fun h => absurd h (by decide), fun h => absurd h (by decide), rfl, by decide +kernel, by decide +kernel, by decide +kernel, by decide +kernel, fun h => absurd rfl h, by decide, by decide⟩
end
section
/-- a field by a link: class of the code, entry, class of the object, place, by the nest -/
def q_okF (e : Nat × Nat × Nat × Nat × Bool) : Prop := (e.2.2.2.2 = false → Cond.fieldLink (q_on e.1) e.2.1 (q_T e.2.2.1 e.2.2.2.1).1 (q_T e.2.2.1 e.2.2.2.1).2.1 (q_T e.2.2.1 e.2.2.2.1).2.2.1 ∈ lw_tbl) ∧ (e.2.2.2.2 = true → Cond.fieldLinkNest (q_on e.1) e.2.1 (q_T e.2.2.1 e.2.2.2.1).1 (q_T e.2.2.1 e.2.2.2.1).2.1 (q_T e.2.2.1 e.2.2.2.1).2.2.1 "TrouserWash" ∈ lw_tbl) ∧ e.2.2.1 < 15 ∧ e.2.2.2.1 < q_N e.2.2.1
theorem kF_1_11 : q_okF (1, 11, 1, 0, false) := ⟨fun _ => (List.mem_of_getElem? (i := 325) (by decide +kernel)), fun h => absurd h (by decide), by decide, by decide⟩
theorem kF_1_15 : q_okF (1, 15, 1, 1, false) := ⟨fun _ => (List.mem_of_getElem? (i := 326) (by decide +kernel)), fun h => absurd h (by decide), by decide, by decide⟩
theorem kF_2_20 : q_okF (2, 20, 2, 0, false) := ⟨fun _ => (List.mem_of_getElem? (i := 189) (by decide +kernel)), fun h => absurd h (by decide), by decide, by decide⟩
theorem kF_2_29 : q_okF (2, 29, 2, 1, false) := ⟨fun _ => (List.mem_of_getElem? (i := 190) (by decide +kernel)), fun h => absurd h (by decide), by decide, by decide⟩
theorem kF_3_11 : q_okF (3, 11, 3, 0, false) := ⟨fun _ => (List.mem_of_getElem? (i := 266) (by decide +kernel)), fun h => absurd h (by decide), by decide, by decide⟩
theorem kF_3_15 : q_okF (3, 15, 3, 1, false) := ⟨fun _ => (List.mem_of_getElem? (i := 267) (by decide +kernel)), fun h => absurd h (by decide), by decide, by decide⟩
theorem kF_3_18 : q_okF (3, 18, 3, 3, false) := ⟨fun _ => (List.mem_of_getElem? (i := 270) (by decide +kernel)), fun h => absurd h (by decide), by decide, by decide⟩
theorem kF_3_21 : q_okF (3, 21, 3, 2, false) := ⟨fun _ => (List.mem_of_getElem? (i := 268) (by decide +kernel)), fun h => absurd h (by decide), by decide, by decide⟩
theorem kF_4_9 : q_okF (4, 9, 4, 0, false) := ⟨fun _ => (List.mem_of_getElem? (i := 202) (by decide +kernel)), fun h => absurd h (by decide), by decide, by decide⟩
theorem kF_4_15 : q_okF (4, 15, 4, 1, false) := ⟨fun _ => (List.mem_of_getElem? (i := 205) (by decide +kernel)), fun h => absurd h (by decide), by decide, by decide⟩
theorem kF_4_18 : q_okF (4, 18, 4, 2, false) := ⟨fun _ => (List.mem_of_getElem? (i := 207) (by decide +kernel)), fun h => absurd h (by decide), by decide, by decide⟩
theorem kF_4_21 : q_okF (4, 21, 4, 3, false) := ⟨fun _ => (List.mem_of_getElem? (i := 209) (by decide +kernel)), fun h => absurd h (by decide), by decide, by decide⟩
theorem kF_4_24 : q_okF (4, 24, 4, 4, false) := ⟨fun _ => (List.mem_of_getElem? (i := 210) (by decide +kernel)), fun h => absurd h (by decide), by decide, by decide⟩
theorem kF_4_28 : q_okF (4, 28, 4, 5, false) := ⟨fun _ => (List.mem_of_getElem? (i := 212) (by decide +kernel)), fun h => absurd h (by decide), by decide, by decide⟩
theorem kF_5_12 : q_okF (5, 12, 5, 8, false) := ⟨fun _ => (List.mem_of_getElem? (i := 1172) (by decide +kernel)), fun h => absurd h (by decide), by decide, by decide⟩
theorem kF_5_18 : q_okF (5, 18, 5, 9, false) := ⟨fun _ => (List.mem_of_getElem? (i := 1174) (by decide +kernel)), fun h => absurd h (by decide), by decide, by decide⟩
theorem kF_5_22 : q_okF (5, 22, 5, 10, false) := ⟨fun _ => (List.mem_of_getElem? (i := 1176) (by decide +kernel)), fun h => absurd h (by decide), by decide, by decide⟩
theorem kF_5_25 : q_okF (5, 25, 5, 12, false) := ⟨fun _ => (List.mem_of_getElem? (i := 1179) (by decide +kernel)), fun h => absurd h (by decide), by decide, by decide⟩
theorem kF_5_28 : q_okF (5, 28, 5, 13, false) := ⟨fun _ => (List.mem_of_getElem? (i := 1181) (by decide +kernel)), fun h => absurd h (by decide), by decide, by decide⟩
theorem kF_5_31 : q_okF (5, 31, 5, 0, false) := ⟨fun _ => (List.mem_of_getElem? (i := 1156) (by decide +kernel)), fun h => absurd h (by decide), by decide, by decide⟩
theorem kF_5_40 : q_okF (5, 40, 5, 1, false) := ⟨fun _ => (List.mem_of_getElem? (i := 1158) (by decide +kernel)), fun h => absurd h (by decide), by decide, by decide⟩
theorem kF_5_43 : q_okF (5, 43, 5, 2, false) := ⟨fun _ => (List.mem_of_getElem? (i := 1160) (by decide +kernel)), fun h => absurd h (by decide), by decide, by decide⟩
theorem kF_5_46 : q_okF (5, 46, 5, 3, false) := ⟨fun _ => (List.mem_of_getElem? (i := 1162) (by decide +kernel)), fun h => absurd h (by decide), by decide, by decide⟩
theorem kF_5_54 : q_okF (5, 54, 5, 7, false) := ⟨fun _ => (List.mem_of_getElem? (i := 1170) (by decide +kernel)), fun h => absurd h (by decide), by decide, by decide⟩
theorem kF_5_58 : q_okF (5, 58, 5, 15, false) := ⟨fun _ => (List.mem_of_getElem? (i := 1184) (by decide +kernel)), fun h => absurd h (by decide), by decide, by decide⟩
theorem kF_5_62 : q_okF (5, 62, 5, 16, false) := ⟨fun _ => (List.mem_of_getElem? (i := 1186) (by decide +kernel)), fun h => absurd h (by decide), by decide, by decide⟩
theorem kF_5_71 : q_okF (5, 71, 5, 4, false) := ⟨fun _ => (List.mem_of_getElem? (i := 1164) (by decide +kernel)), fun h => absurd h (by decide), by decide, by decide⟩
theorem kF_5_74 : q_okF (5, 74, 5, 5, false) := ⟨fun _ => (List.mem_of_getElem? (i := 1166) (by decide +kernel)), fun h => absurd h (by decide), by decide, by decide⟩
theorem kF_5_77 : q_okF (5, 77, 5, 6, false) := ⟨fun _ => (List.mem_of_getElem? (i := 1168) (by decide +kernel)), fun h => absurd h (by decide), by decide, by decide⟩
theorem kF_6_9 : q_okF (6, 9, 6, 1, false) := ⟨fun _ => (List.mem_of_getElem? (i := 429) (by decide +kernel)), fun h => absurd h (by decide), by decide, by decide⟩
theorem kF_6_15 : q_okF (6, 15, 6, 3, false) := ⟨fun _ => (List.mem_of_getElem? (i := 433) (by decide +kernel)), fun h => absurd h (by decide), by decide, by decide⟩
theorem kF_6_19 : q_okF (6, 19, 6, 4, false) := ⟨fun _ => (List.mem_of_getElem? (i := 435) (by decide +kernel)), fun h => absurd h (by decide), by decide, by decide⟩
theorem kF_6_22 : q_okF (6, 22, 6, 2, false) := ⟨fun _ => (List.mem_of_getElem? (i := 431) (by decide +kernel)), fun h => absurd h (by decide), by decide, by decide⟩
theorem kF_7_9 : q_okF (7, 9, 7, 0, false) := ⟨fun _ => (List.mem_of_getElem? (i := 367) (by decide +kernel)), fun h => absurd h (by decide), by decide, by decide⟩
theorem kF_7_15 : q_okF (7, 15, 7, 1, false) := ⟨fun _ => (List.mem_of_getElem? (i := 368) (by decide +kernel)), fun h => absurd h (by decide), by decide, by decide⟩
theorem kF_7_18 : q_okF (7, 18, 7, 2, false) := ⟨fun _ => (List.mem_of_getElem? (i := 369) (by decide +kernel)), fun h => absurd h (by decide), by decide, by decide⟩
theorem kF_7_21 : q_okF (7, 21, 7, 5, false) := ⟨fun _ => (List.mem_of_getElem? (i := 373) (by decide +kernel)), fun h => absurd h (by decide), by decide, by decide⟩
theorem kF_7_24 : q_okF (7, 24, 7, 6, false) := ⟨fun _ => (List.mem_of_getElem? (i := 374) (by decide +kernel)), fun h => absurd h (by decide), by decide, by decide⟩
theorem kF_7_27 : q_okF (7, 27, 7, 7, false) := ⟨fun _ => (List.mem_of_getElem? (i := 375) (by decide +kernel)), fun h => absurd h (by decide), by decide, by decide⟩
theorem kF_7_30 : q_okF (7, 30, 7, 8, false) := ⟨fun _ => (List.mem_of_getElem? (i := 376) (by decide +kernel)), fun h => absurd h (by decide), by decide, by decide⟩
theorem kF_7_33 : q_okF (7, 33, 7, 3, false) := ⟨fun _ => (List.mem_of_getElem? (i := 370) (by decide +kernel)), fun h => absurd h (by decide), by decide, by decide⟩
theorem kF_7_37 : q_okF (7, 37, 7, 9, false) := ⟨fun _ => (List.mem_of_getElem? (i := 377) (by decide +kernel)), fun h => absurd h (by decide), by decide, by decide⟩
theorem kF_8_9 : q_okF (8, 9, 8, 0, false) := ⟨fun _ => (List.mem_of_getElem? (i := 407) (by decide +kernel)), fun h => absurd h (by decide), by decide, by decide⟩
theorem kF_8_13 : q_okF (8, 13, 8, 1, false) := ⟨fun _ => (List.mem_of_getElem? (i := 408) (by decide +kernel)), fun h => absurd h (by decide), by decide, by decide⟩
theorem kF_8_17 : q_okF (8, 17, 8, 2, false) := ⟨fun _ => (List.mem_of_getElem? (i := 410) (by decide +kernel)), fun h => absurd h (by decide), by decide, by decide⟩
theorem kF_8_22 : q_okF (8, 22, 8, 3, false) := ⟨fun _ => (List.mem_of_getElem? (i := 412) (by decide +kernel)), fun h => absurd h (by decide), by decide, by decide⟩
theorem kF_9_15 : q_okF (9, 15, 9, 0, false) := ⟨fun _ => (List.mem_of_getElem? (i := 160) (by decide +kernel)), fun h => absurd h (by decide), by decide, by decide⟩
theorem kF_9_21 : q_okF (9, 21, 9, 1, false) := ⟨fun _ => (List.mem_of_getElem? (i := 162) (by decide +kernel)), fun h => absurd h (by decide), by decide, by decide⟩
theorem kF_9_24 : q_okF (9, 24, 9, 2, false) := ⟨fun _ => (List.mem_of_getElem? (i := 164) (by decide +kernel)), fun h => absurd h (by decide), by decide, by decide⟩
theorem kF_9_54 : q_okF (9, 54, 11, 3, true) := ⟨fun h => absurd h (by decide), fun _ => (List.mem_of_getElem? (i := 137) (by decide +kernel)), by decide, by decide⟩
theorem kF_10_13 : q_okF (10, 13, 10, 0, false) := ⟨fun _ => (List.mem_of_getElem? (i := 234) (by decide +kernel)), fun h => absurd h (by decide), by decide, by decide⟩
theorem kF_10_17 : q_okF (10, 17, 10, 1, false) := ⟨fun _ => (List.mem_of_getElem? (i := 235) (by decide +kernel)), fun h => absurd h (by decide), by decide, by decide⟩
theorem kF_10_21 : q_okF (10, 21, 10, 2, false) := ⟨fun _ => (List.mem_of_getElem? (i := 236) (by decide +kernel)), fun h => absurd h (by decide), by decide, by decide⟩
theorem kF_10_24 : q_okF (10, 24, 10, 3, false) := ⟨fun _ => (List.mem_of_getElem? (i := 237) (by decide +kernel)), fun h => absurd h (by decide), by decide, by decide⟩
theorem kF_10_29 : q_okF (10, 29, 10, 5, false) := ⟨fun _ => (List.mem_of_getElem? (i := 240) (by decide +kernel)), fun h => absurd h (by decide), by decide, by decide⟩
theorem kF_10_32 : q_okF (10, 32, 10, 6, false) := ⟨fun _ => (List.mem_of_getElem? (i := 241) (by decide +kernel)), fun h => absurd h (by decide), by decide, by decide⟩
theorem kF_10_35 : q_okF (10, 35, 10, 7, false) := ⟨fun _ => (List.mem_of_getElem? (i := 242) (by decide +kernel)), fun h => absurd h (by decide), by decide, by decide⟩
theorem kF_10_38 : q_okF (10, 38, 10, 4, false) := ⟨fun _ => (List.mem_of_getElem? (i := 239) (by decide +kernel)), fun h => absurd h (by decide), by decide, by decide⟩
theorem kF_10_55 : q_okF (10, 55, 4, 0, true) := ⟨fun h => absurd h (by decide), fun _ => (List.mem_of_getElem? (i := 203) (by decide +kernel)), by decide, by decide⟩
theorem kF_10_58 : q_okF (10, 58, 4, 2, true) := ⟨fun h => absurd h (by decide), fun _ => (List.mem_of_getElem? (i := 208) (by decide +kernel)), by decide, by decide⟩
theorem kF_10_69 : q_okF (10, 69, 4, 4, true) := ⟨fun h => absurd h (by decide), fun _ => (List.mem_of_getElem? (i := 211) (by decide +kernel)), by decide, by decide⟩
theorem kF_11_11 : q_okF (11, 11, 11, 0, false) := ⟨fun _ => (List.mem_of_getElem? (i := 132) (by decide +kernel)), fun h => absurd h (by decide), by decide, by decide⟩
theorem kF_11_15 : q_okF (11, 15, 11, 3, false) := ⟨fun _ => (List.mem_of_getElem? (i := 136) (by decide +kernel)), fun h => absurd h (by decide), by decide, by decide⟩
theorem kF_11_19 : q_okF (11, 19, 11, 1, false) := ⟨fun _ => (List.mem_of_getElem? (i := 133) (by decide +kernel)), fun h => absurd h (by decide), by decide, by decide⟩
theorem kF_11_22 : q_okF (11, 22, 11, 2, false) := ⟨fun _ => (List.mem_of_getElem? (i := 135) (by decide +kernel)), fun h => absurd h (by decide), by decide, by decide⟩
theorem kF_12_11 : q_okF (12, 11, 12, 0, false) := ⟨fun _ => (List.mem_of_getElem? (i := 286) (by decide +kernel)), fun h => absurd h (by decide), by decide, by decide⟩
theorem kF_12_15 : q_okF (12, 15, 12, 1, false) := ⟨fun _ => (List.mem_of_getElem? (i := 287) (by decide +kernel)), fun h => absurd h (by decide), by decide, by decide⟩
theorem kF_12_18 : q_okF (12, 18, 12, 2, false) := ⟨fun _ => (List.mem_of_getElem? (i := 288) (by decide +kernel)), fun h => absurd h (by decide), by decide, by decide⟩
theorem kF_12_21 : q_okF (12, 21, 12, 3, false) := ⟨fun _ => (List.mem_of_getElem? (i := 289) (by decide +kernel)), fun h => absurd h (by decide), by decide, by decide⟩
theorem kF_12_39 : q_okF (12, 39, 12, 5, false) := ⟨fun _ => (List.mem_of_getElem? (i := 293) (by decide +kernel)), fun h => absurd h (by decide), by decide, by decide⟩
theorem kF_12_42 : q_okF (12, 42, 12, 4, false) := ⟨fun _ => (List.mem_of_getElem? (i := 291) (by decide +kernel)), fun h => absurd h (by decide), by decide, by decide⟩
theorem kF_12_58 : q_okF (12, 58, 12, 6, false) := ⟨fun _ => (List.mem_of_getElem? (i := 295) (by decide +kernel)), fun h => absurd h (by decide), by decide, by decide⟩
theorem kF_12_61 : q_okF (12, 61, 12, 8, false) := ⟨fun _ => (List.mem_of_getElem? (i := 298) (by decide +kernel)), fun h => absurd h (by decide), by decide, by decide⟩
theorem kF_13_10 : q_okF (13, 10, 13, 0, false) := ⟨fun _ => (List.mem_of_getElem? (i := 451) (by decide +kernel)), fun h => absurd h (by decide), by decide, by decide⟩
theorem kF_13_18 : q_okF (13, 18, 13, 1, false) := ⟨fun _ => (List.mem_of_getElem? (i := 452) (by decide +kernel)), fun h => absurd h (by decide), by decide, by decide⟩
theorem kF_13_27 : q_okF (13, 27, 13, 3, false) := ⟨fun _ => (List.mem_of_getElem? (i := 454) (by decide +kernel)), fun h => absurd h (by decide), by decide, by decide⟩
theorem kF_13_31 : q_okF (13, 31, 13, 4, false) := ⟨fun _ => (List.mem_of_getElem? (i := 455) (by decide +kernel)), fun h => absurd h (by decide), by decide, by decide⟩
theorem kF_13_37 : q_okF (13, 37, 13, 5, false) := ⟨fun _ => (List.mem_of_getElem? (i := 456) (by decide +kernel)), fun h => absurd h (by decide), by decide, by decide⟩
theorem kF_13_41 : q_okF (13, 41, 13, 6, false) := ⟨fun _ => (List.mem_of_getElem? (i := 457) (by decide +kernel)), fun h => absurd h (by decide), by decide, by decide⟩
theorem kF_13_45 : q_okF (13, 45, 13, 7, false) := ⟨fun _ => (List.mem_of_getElem? (i := 458) (by decide +kernel)), fun h => absurd h (by decide), by decide, by decide⟩
theorem kF_13_52 : q_okF (13, 52, 13, 8, false) := ⟨fun _ => (List.mem_of_getElem? (i := 459) (by decide +kernel)), fun h => absurd h (by decide), by decide, by decide⟩
theorem kF_13_59 : q_okF (13, 59, 13, 9, false) := ⟨fun _ => (List.mem_of_getElem? (i := 460) (by decide +kernel)), fun h => absurd h (by decide), by decide, by decide⟩
theorem kF_13_66 : q_okF (13, 66, 13, 10, false) := ⟨fun _ => (List.mem_of_getElem? (i := 461) (by decide +kernel)), fun h => absurd h (by decide), by decide, by decide⟩
theorem kF_13_73 : q_okF (13, 73, 13, 11, false) := ⟨fun _ => (List.mem_of_getElem? (i := 462) (by decide +kernel)), fun h => absurd h (by decide), by decide, by decide⟩
theorem kF_13_79 : q_okF (13, 79, 13, 12, false) := ⟨fun _ => (List.mem_of_getElem? (i := 463) (by decide +kernel)), fun h => absurd h (by decide), by decide, by decide⟩
theorem kF_13_86 : q_okF (13, 86, 13, 14, false) := ⟨fun _ => (List.mem_of_getElem? (i := 465) (by decide +kernel)), fun h => absurd h (by decide), by decide, by decide⟩
theorem kF_13_93 : q_okF (13, 93, 13, 16, false) := ⟨fun _ => (List.mem_of_getElem? (i := 467) (by decide +kernel)), fun h => absurd h (by decide), by decide, by decide⟩
theorem kF_13_100 : q_okF (13, 100, 13, 19, false) := ⟨fun _ => (List.mem_of_getElem? (i := 470) (by decide +kernel)), fun h => absurd h (by decide), by decide, by decide⟩
theorem kF_13_112 : q_okF (13, 112, 11, 1, true) := ⟨fun h => absurd h (by decide), fun _ => (List.mem_of_getElem? (i := 134) (by decide +kernel)), by decide, by decide⟩
theorem kF_13_124 : q_okF (13, 124, 13, 2, false) := ⟨fun _ => (List.mem_of_getElem? (i := 453) (by decide +kernel)), fun h => absurd h (by decide), by decide, by decide⟩
theorem kF_13_142 : q_okF (13, 142, 11, 3, true) := ⟨fun h => absurd h (by decide), fun _ => (List.mem_of_getElem? (i := 138) (by decide +kernel)), by decide, by decide⟩
theorem kF_13_145 : q_okF (13, 145, 9, 2, true) := ⟨fun h => absurd h (by decide), fun _ => (List.mem_of_getElem? (i := 165) (by decide +kernel)), by decide, by decide⟩
theorem kF_13_173 : q_okF (13, 173, 10, 3, true) := ⟨fun h => absurd h (by decide), fun _ => (List.mem_of_getElem? (i := 238) (by decide +kernel)), by decide, by decide⟩
theorem kF_13_188 : q_okF (13, 188, 3, 2, true) := ⟨fun h => absurd h (by decide), fun _ => (List.mem_of_getElem? (i := 269) (by decide +kernel)), by decide, by decide⟩
theorem kF_13_191 : q_okF (13, 191, 12, 3, true) := ⟨fun h => absurd h (by decide), fun _ => (List.mem_of_getElem? (i := 290) (by decide +kernel)), by decide, by decide⟩
theorem kF_13_197 : q_okF (13, 197, 12, 7, true) := ⟨fun h => absurd h (by decide), fun _ => (List.mem_of_getElem? (i := 297) (by decide +kernel)), by decide, by decide⟩
theorem kF_13_204 : q_okF (13, 204, 12, 5, true) := ⟨fun h => absurd h (by decide), fun _ => (List.mem_of_getElem? (i := 294) (by decide +kernel)), by decide, by decide⟩
theorem kF_13_221 : q_okF (13, 221, 1, 1, true) := ⟨fun h => absurd h (by decide), fun _ => (List.mem_of_getElem? (i := 327) (by decide +kernel)), by decide, by decide⟩
theorem kF_13_225 : q_okF (13, 225, 2, 1, true) := ⟨fun h => absurd h (by decide), fun _ => (List.mem_of_getElem? (i := 191) (by decide +kernel)), by decide, by decide⟩
theorem kF_13_231 : q_okF (13, 231, 13, 13, false) := ⟨fun _ => (List.mem_of_getElem? (i := 464) (by decide +kernel)), fun h => absurd h (by decide), by decide, by decide⟩
theorem kF_13_234 : q_okF (13, 234, 6, 0, true) := ⟨fun h => absurd h (by decide), fun _ => (List.mem_of_getElem? (i := 428) (by decide +kernel)), by decide, by decide⟩
theorem kF_13_246 : q_okF (13, 246, 5, 7, true) := ⟨fun h => absurd h (by decide), fun _ => (List.mem_of_getElem? (i := 1171) (by decide +kernel)), by decide, by decide⟩
theorem kF_13_251 : q_okF (13, 251, 5, 8, true) := ⟨fun h => absurd h (by decide), fun _ => (List.mem_of_getElem? (i := 1173) (by decide +kernel)), by decide, by decide⟩
theorem kF_13_265 : q_okF (13, 265, 5, 9, true) := ⟨fun h => absurd h (by decide), fun _ => (List.mem_of_getElem? (i := 1175) (by decide +kernel)), by decide, by decide⟩
theorem kF_13_268 : q_okF (13, 268, 5, 1, true) := ⟨fun h => absurd h (by decide), fun _ => (List.mem_of_getElem? (i := 1159) (by decide +kernel)), by decide, by decide⟩
theorem kF_13_274 : q_okF (13, 274, 5, 10, true) := ⟨fun h => absurd h (by decide), fun _ => (List.mem_of_getElem? (i := 1177) (by decide +kernel)), by decide, by decide⟩
theorem kF_13_277 : q_okF (13, 277, 13, 15, false) := ⟨fun _ => (List.mem_of_getElem? (i := 466) (by decide +kernel)), fun h => absurd h (by decide), by decide, by decide⟩
theorem kF_13_284 : q_okF (13, 284, 5, 11, true) := ⟨fun h => absurd h (by decide), fun _ => (List.mem_of_getElem? (i := 1178) (by decide +kernel)), by decide, by decide⟩
theorem kF_13_287 : q_okF (13, 287, 5, 12, true) := ⟨fun h => absurd h (by decide), fun _ => (List.mem_of_getElem? (i := 1180) (by decide +kernel)), by decide, by decide⟩
theorem kF_13_290 : q_okF (13, 290, 5, 13, true) := ⟨fun h => absurd h (by decide), fun _ => (List.mem_of_getElem? (i := 1182) (by decide +kernel)), by decide, by decide⟩
theorem kF_13_296 : q_okF (13, 296, 5, 4, true) := ⟨fun h => absurd h (by decide), fun _ => (List.mem_of_getElem? (i := 1165) (by decide +kernel)), by decide, by decide⟩
theorem kF_13_299 : q_okF (13, 299, 5, 5, true) := ⟨fun h => absurd h (by decide), fun _ => (List.mem_of_getElem? (i := 1167) (by decide +kernel)), by decide, by decide⟩
theorem kF_13_302 : q_okF (13, 302, 5, 6, true) := ⟨fun h => absurd h (by decide), fun _ => (List.mem_of_getElem? (i := 1169) (by decide +kernel)), by decide, by decide⟩
theorem kF_13_305 : q_okF (13, 305, 5, 0, true) := ⟨fun h => absurd h (by decide), fun _ => (List.mem_of_getElem? (i := 1157) (by decide +kernel)), by decide, by decide⟩
theorem kF_13_308 : q_okF (13, 308, 6, 3, true) := ⟨fun h => absurd h (by decide), fun _ => (List.mem_of_getElem? (i := 434) (by decide +kernel)), by decide, by decide⟩
theorem kF_13_311 : q_okF (13, 311, 6, 2, true) := ⟨fun h => absurd h (by decide), fun _ => (List.mem_of_getElem? (i := 432) (by decide +kernel)), by decide, by decide⟩
theorem kF_13_314 : q_okF (13, 314, 6, 4, true) := ⟨fun h => absurd h (by decide), fun _ => (List.mem_of_getElem? (i := 436) (by decide +kernel)), by decide, by decide⟩
theorem kF_13_317 : q_okF (13, 317, 6, 5, true) := ⟨fun h => absurd h (by decide), fun _ => (List.mem_of_getElem? (i := 437) (by decide +kernel)), by decide, by decide⟩
theorem kF_13_324 : q_okF (13, 324, 5, 16, true) := ⟨fun h => absurd h (by decide), fun _ => (List.mem_of_getElem? (i := 1187) (by decide +kernel)), by decide, by decide⟩
theorem kF_13_330 : q_okF (13, 330, 4, 0, true) := ⟨fun h => absurd h (by decide), fun _ => (List.mem_of_getElem? (i := 204) (by decide +kernel)), by decide, by decide⟩
theorem kF_13_333 : q_okF (13, 333, 4, 1, true) := ⟨fun h => absurd h (by decide), fun _ => (List.mem_of_getElem? (i := 206) (by decide +kernel)), by decide, by decide⟩
theorem kF_13_336 : q_okF (13, 336, 7, 4, true) := ⟨fun h => absurd h (by decide), fun _ => (List.mem_of_getElem? (i := 372) (by decide +kernel)), by decide, by decide⟩
theorem kF_13_350 : q_okF (13, 350, 5, 14, true) := ⟨fun h => absurd h (by decide), fun _ => (List.mem_of_getElem? (i := 1183) (by decide +kernel)), by decide, by decide⟩
theorem kF_13_353 : q_okF (13, 353, 5, 2, true) := ⟨fun h => absurd h (by decide), fun _ => (List.mem_of_getElem? (i := 1161) (by decide +kernel)), by decide, by decide⟩
theorem kF_13_356 : q_okF (13, 356, 5, 3, true) := ⟨fun h => absurd h (by decide), fun _ => (List.mem_of_getElem? (i := 1163) (by decide +kernel)), by decide, by decide⟩
theorem kF_13_375 : q_okF (13, 375, 13, 17, false) := ⟨fun _ => (List.mem_of_getElem? (i := 468) (by decide +kernel)), fun h => absurd h (by decide), by decide, by decide⟩
theorem kF_13_378 : q_okF (13, 378, 13, 18, false) := ⟨fun _ => (List.mem_of_getElem? (i := 469) (by decide +kernel)), fun h => absurd h (by decide), by decide, by decide⟩
theorem kF_13_384 : q_okF (13, 384, 8, 1, true) := ⟨fun h => absurd h (by decide), fun _ => (List.mem_of_getElem? (i := 409) (by decide +kernel)), by decide, by decide⟩
theorem kF_13_387 : q_okF (13, 387, 8, 2, true) := ⟨fun h => absurd h (by decide), fun _ => (List.mem_of_getElem? (i := 411) (by decide +kernel)), by decide, by decide⟩
theorem kF_13_396 : q_okF (13, 396, 8, 3, true) := ⟨fun h => absurd h (by decide), fun _ => (List.mem_of_getElem? (i := 413) (by decide +kernel)), by decide, by decide⟩
theorem kF_13_406 : q_okF (13, 406, 12, 4, true) := ⟨fun h => absurd h (by decide), fun _ => (List.mem_of_getElem? (i := 292) (by decide +kernel)), by decide, by decide⟩
theorem kF_13_409 : q_okF (13, 409, 12, 6, true) := ⟨fun h => absurd h (by decide), fun _ => (List.mem_of_getElem? (i := 296) (by decide +kernel)), by decide, by decide⟩
theorem kF_13_415 : q_okF (13, 415, 12, 8, true) := ⟨fun h => absurd h (by decide), fun _ => (List.mem_of_getElem? (i := 299) (by decide +kernel)), by decide, by decide⟩
theorem kF_13_421 : q_okF (13, 421, 7, 3, true) := ⟨fun h => absurd h (by decide), fun _ => (List.mem_of_getElem? (i := 371) (by decide +kernel)), by decide, by decide⟩
theorem kF_13_461 : q_okF (13, 461, 9, 0, true) := ⟨fun h => absurd h (by decide), fun _ => (List.mem_of_getElem? (i := 161) (by decide +kernel)), by decide, by decide⟩
theorem kF_13_464 : q_okF (13, 464, 9, 1, true) := ⟨fun h => absurd h (by decide), fun _ => (List.mem_of_getElem? (i := 163) (by decide +kernel)), by decide, by decide⟩
theorem kF_13_486 : q_okF (13, 486, 6, 1, true) := ⟨fun h => absurd h (by decide), fun _ => (List.mem_of_getElem? (i := 430) (by decide +kernel)), by decide, by decide⟩
theorem kF_13_523 : q_okF (13, 523, 5, 15, true) := ⟨fun h => absurd h (by decide), fun _ => (List.mem_of_getElem? (i := 1185) (by decide +kernel)), by decide, by decide⟩
theorem kF_14_9 : q_okF (14, 9, 14, 1, false) := ⟨fun _ => (List.mem_of_getElem? (i := 1586) (by decide +kernel)), fun h => absurd h (by decide), by decide, by decide⟩
theorem kF_14_13 : q_okF (14, 13, 14, 6, false) := ⟨fun _ => (List.mem_of_getElem? (i := 1591) (by decide +kernel)), fun h => absurd h (by decide), by decide, by decide⟩
theorem kF_14_17 : q_okF (14, 17, 14, 7, false) := ⟨fun _ => (List.mem_of_getElem? (i := 1592) (by decide +kernel)), fun h => absurd h (by decide), by decide, by decide⟩
theorem kF_14_21 : q_okF (14, 21, 14, 8, false) := ⟨fun _ => (List.mem_of_getElem? (i := 1593) (by decide +kernel)), fun h => absurd h (by decide), by decide, by decide⟩
theorem kF_14_24 : q_okF (14, 24, 14, 9, false) := ⟨fun _ => (List.mem_of_getElem? (i := 1594) (by decide +kernel)), fun h => absurd h (by decide), by decide, by decide⟩
theorem kF_14_27 : q_okF (14, 27, 14, 10, false) := ⟨fun _ => (List.mem_of_getElem? (i := 1595) (by decide +kernel)), fun h => absurd h (by decide), by decide, by decide⟩
theorem kF_14_30 : q_okF (14, 30, 14, 11, false) := ⟨fun _ => (List.mem_of_getElem? (i := 1596) (by decide +kernel)), fun h => absurd h (by decide), by decide, by decide⟩
theorem kF_14_33 : q_okF (14, 33, 14, 12, false) := ⟨fun _ => (List.mem_of_getElem? (i := 1597) (by decide +kernel)), fun h => absurd h (by decide), by decide, by decide⟩
theorem kF_14_36 : q_okF (14, 36, 14, 13, false) := ⟨fun _ => (List.mem_of_getElem? (i := 1598) (by decide +kernel)), fun h => absurd h (by decide), by decide, by decide⟩
theorem kF_14_39 : q_okF (14, 39, 14, 15, false) := ⟨fun _ => (List.mem_of_getElem? (i := 1600) (by decide +kernel)), fun h => absurd h (by decide), by decide, by decide⟩
theorem kF_14_42 : q_okF (14, 42, 14, 16, false) := ⟨fun _ => (List.mem_of_getElem? (i := 1601) (by decide +kernel)), fun h => absurd h (by decide), by decide, by decide⟩
theorem kF_14_45 : q_okF (14, 45, 14, 17, false) := ⟨fun _ => (List.mem_of_getElem? (i := 1602) (by decide +kernel)), fun h => absurd h (by decide), by decide, by decide⟩
theorem kF_14_48 : q_okF (14, 48, 14, 23, false) := ⟨fun _ => (List.mem_of_getElem? (i := 1608) (by decide +kernel)), fun h => absurd h (by decide), by decide, by decide⟩
theorem kF_14_51 : q_okF (14, 51, 14, 24, false) := ⟨fun _ => (List.mem_of_getElem? (i := 1609) (by decide +kernel)), fun h => absurd h (by decide), by decide, by decide⟩
theorem kF_14_54 : q_okF (14, 54, 14, 26, false) := ⟨fun _ => (List.mem_of_getElem? (i := 1611) (by decide +kernel)), fun h => absurd h (by decide), by decide, by decide⟩
theorem kF_14_57 : q_okF (14, 57, 14, 27, false) := ⟨fun _ => (List.mem_of_getElem? (i := 1612) (by decide +kernel)), fun h => absurd h (by decide), by decide, by decide⟩
theorem kF_14_60 : q_okF (14, 60, 14, 28, false) := ⟨fun _ => (List.mem_of_getElem? (i := 1613) (by decide +kernel)), fun h => absurd h (by decide), by decide, by decide⟩
theorem kF_14_63 : q_okF (14, 63, 14, 29, false) := ⟨fun _ => (List.mem_of_getElem? (i := 1614) (by decide +kernel)), fun h => absurd h (by decide), by decide, by decide⟩
theorem kF_14_66 : q_okF (14, 66, 14, 38, false) := ⟨fun _ => (List.mem_of_getElem? (i := 1623) (by decide +kernel)), fun h => absurd h (by decide), by decide, by decide⟩
theorem kF_14_69 : q_okF (14, 69, 14, 40, false) := ⟨fun _ => (List.mem_of_getElem? (i := 1625) (by decide +kernel)), fun h => absurd h (by decide), by decide, by decide⟩
theorem kF_14_72 : q_okF (14, 72, 14, 43, false) := ⟨fun _ => (List.mem_of_getElem? (i := 1628) (by decide +kernel)), fun h => absurd h (by decide), by decide, by decide⟩
theorem kF_14_75 : q_okF (14, 75, 14, 44, false) := ⟨fun _ => (List.mem_of_getElem? (i := 1629) (by decide +kernel)), fun h => absurd h (by decide), by decide, by decide⟩
theorem kF_14_78 : q_okF (14, 78, 14, 45, false) := ⟨fun _ => (List.mem_of_getElem? (i := 1630) (by decide +kernel)), fun h => absurd h (by decide), by decide, by decide⟩
theorem kF_14_81 : q_okF (14, 81, 14, 46, false) := ⟨fun _ => (List.mem_of_getElem? (i := 1631) (by decide +kernel)), fun h => absurd h (by decide), by decide, by decide⟩
theorem kF_14_84 : q_okF (14, 84, 14, 48, false) := ⟨fun _ => (List.mem_of_getElem? (i := 1633) (by decide +kernel)), fun h => absurd h (by decide), by decide, by decide⟩
theorem kF_14_87 : q_okF (14, 87, 14, 49, false) := ⟨fun _ => (List.mem_of_getElem? (i := 1634) (by decide +kernel)), fun h => absurd h (by decide), by decide, by decide⟩
theorem kF_14_90 : q_okF (14, 90, 14, 50, false) := ⟨fun _ => (List.mem_of_getElem? (i := 1635) (by decide +kernel)), fun h => absurd h (by decide), by decide, by decide⟩
theorem kF_14_93 : q_okF (14, 93, 14, 51, false) := ⟨fun _ => (List.mem_of_getElem? (i := 1636) (by decide +kernel)), fun h => absurd h (by decide), by decide, by decide⟩
theorem kF_14_96 : q_okF (14, 96, 14, 52, false) := ⟨fun _ => (List.mem_of_getElem? (i := 1637) (by decide +kernel)), fun h => absurd h (by decide), by decide, by decide⟩
theorem kF_14_99 : q_okF (14, 99, 14, 53, false) := ⟨fun _ => (List.mem_of_getElem? (i := 1638) (by decide +kernel)), fun h => absurd h (by decide), by decide, by decide⟩
theorem kF_14_102 : q_okF (14, 102, 14, 54, false) := ⟨fun _ => (List.mem_of_getElem? (i := 1639) (by decide +kernel)), fun h => absurd h (by decide), by decide, by decide⟩
theorem kF_14_105 : q_okF (14, 105, 14, 55, false) := ⟨fun _ => (List.mem_of_getElem? (i := 1640) (by decide +kernel)), fun h => absurd h (by decide), by decide, by decide⟩
theorem kF_14_108 : q_okF (14, 108, 14, 56, false) := ⟨fun _ => (List.mem_of_getElem? (i := 1641) (by decide +kernel)), fun h => absurd h (by decide), by decide, by decide⟩
theorem kF_14_111 : q_okF (14, 111, 14, 57, false) := ⟨fun _ => (List.mem_of_getElem? (i := 1642) (by decide +kernel)), fun h => absurd h (by decide), by decide, by decide⟩
theorem kF_14_114 : q_okF (14, 114, 14, 58, false) := ⟨fun _ => (List.mem_of_getElem? (i := 1643) (by decide +kernel)), fun h => absurd h (by decide), by decide, by decide⟩
theorem kF_14_117 : q_okF (14, 117, 14, 59, false) := ⟨fun _ => (List.mem_of_getElem? (i := 1644) (by decide +kernel)), fun h => absurd h (by decide), by decide, by decide⟩
theorem kF_14_120 : q_okF (14, 120, 14, 60, false) := ⟨fun _ => (List.mem_of_getElem? (i := 1645) (by decide +kernel)), fun h => absurd h (by decide), by decide, by decide⟩
theorem kF_14_123 : q_okF (14, 123, 14, 61, false) := ⟨fun _ => (List.mem_of_getElem? (i := 1646) (by decide +kernel)), fun h => absurd h (by decide), by decide, by decide⟩
theorem kF_14_126 : q_okF (14, 126, 14, 64, false) := ⟨fun _ => (List.mem_of_getElem? (i := 1649) (by decide +kernel)), fun h => absurd h (by decide), by decide, by decide⟩
theorem kF_14_129 : q_okF (14, 129, 14, 65, false) := ⟨fun _ => (List.mem_of_getElem? (i := 1650) (by decide +kernel)), fun h => absurd h (by decide), by decide, by decide⟩
theorem kF_14_132 : q_okF (14, 132, 14, 66, false) := ⟨fun _ => (List.mem_of_getElem? (i := 1651) (by decide +kernel)), fun h => absurd h (by decide), by decide, by decide⟩
theorem kF_14_135 : q_okF (14, 135, 14, 67, false) := ⟨fun _ => (List.mem_of_getElem? (i := 1652) (by decide +kernel)), fun h => absurd h (by decide), by decide, by decide⟩
theorem kF_14_138 : q_okF (14, 138, 14, 68, false) := ⟨fun _ => (List.mem_of_getElem? (i := 1653) (by decide +kernel)), fun h => absurd h (by decide), by decide, by decide⟩
theorem kF_14_141 : q_okF (14, 141, 14, 71, false) := ⟨fun _ => (List.mem_of_getElem? (i := 1656) (by decide +kernel)), fun h => absurd h (by decide), by decide, by decide⟩
theorem kF_14_144 : q_okF (14, 144, 14, 72, false) := ⟨fun _ => (List.mem_of_getElem? (i := 1657) (by decide +kernel)), fun h => absurd h (by decide), by decide, by decide⟩
theorem kF_14_147 : q_okF (14, 147, 14, 76, false) := ⟨fun _ => (List.mem_of_getElem? (i := 1661) (by decide +kernel)), fun h => absurd h (by decide), by decide, by decide⟩
theorem kF_14_150 : q_okF (14, 150, 14, 77, false) := ⟨fun _ => (List.mem_of_getElem? (i := 1662) (by decide +kernel)), fun h => absurd h (by decide), by decide, by decide⟩
theorem kF_14_153 : q_okF (14, 153, 14, 78, false) := ⟨fun _ => (List.mem_of_getElem? (i := 1663) (by decide +kernel)), fun h => absurd h (by decide), by decide, by decide⟩
theorem kF_14_156 : q_okF (14, 156, 14, 79, false) := ⟨fun _ => (List.mem_of_getElem? (i := 1664) (by decide +kernel)), fun h => absurd h (by decide), by decide, by decide⟩
theorem kF_14_159 : q_okF (14, 159, 14, 0, false) := ⟨fun _ => (List.mem_of_getElem? (i := 1585) (by decide +kernel)), fun h => absurd h (by decide), by decide, by decide⟩
theorem kF_14_162 : q_okF (14, 162, 14, 2, false) := ⟨fun _ => (List.mem_of_getElem? (i := 1587) (by decide +kernel)), fun h => absurd h (by decide), by decide, by decide⟩
theorem kF_14_165 : q_okF (14, 165, 14, 4, false) := ⟨fun _ => (List.mem_of_getElem? (i := 1589) (by decide +kernel)), fun h => absurd h (by decide), by decide, by decide⟩
theorem kF_14_168 : q_okF (14, 168, 14, 3, false) := ⟨fun _ => (List.mem_of_getElem? (i := 1588) (by decide +kernel)), fun h => absurd h (by decide), by decide, by decide⟩
theorem kF_14_175 : q_okF (14, 175, 14, 5, false) := ⟨fun _ => (List.mem_of_getElem? (i := 1590) (by decide +kernel)), fun h => absurd h (by decide), by decide, by decide⟩
theorem kF_14_231 : q_okF (14, 231, 14, 14, false) := ⟨fun _ => (List.mem_of_getElem? (i := 1599) (by decide +kernel)), fun h => absurd h (by decide), by decide, by decide⟩
theorem kF_14_272 : q_okF (14, 272, 14, 20, false) := ⟨fun _ => (List.mem_of_getElem? (i := 1605) (by decide +kernel)), fun h => absurd h (by decide), by decide, by decide⟩
theorem kF_14_275 : q_okF (14, 275, 14, 21, false) := ⟨fun _ => (List.mem_of_getElem? (i := 1606) (by decide +kernel)), fun h => absurd h (by decide), by decide, by decide⟩
theorem kF_14_278 : q_okF (14, 278, 14, 22, false) := ⟨fun _ => (List.mem_of_getElem? (i := 1607) (by decide +kernel)), fun h => absurd h (by decide), by decide, by decide⟩
theorem kF_14_281 : q_okF (14, 281, 14, 18, false) := ⟨fun _ => (List.mem_of_getElem? (i := 1603) (by decide +kernel)), fun h => absurd h (by decide), by decide, by decide⟩
theorem kF_14_284 : q_okF (14, 284, 14, 19, false) := ⟨fun _ => (List.mem_of_getElem? (i := 1604) (by decide +kernel)), fun h => absurd h (by decide), by decide, by decide⟩
theorem kF_14_301 : q_okF (14, 301, 14, 25, false) := ⟨fun _ => (List.mem_of_getElem? (i := 1610) (by decide +kernel)), fun h => absurd h (by decide), by decide, by decide⟩
theorem kF_14_308 : q_okF (14, 308, 14, 30, false) := ⟨fun _ => (List.mem_of_getElem? (i := 1615) (by decide +kernel)), fun h => absurd h (by decide), by decide, by decide⟩
theorem kF_14_313 : q_okF (14, 313, 14, 35, false) := ⟨fun _ => (List.mem_of_getElem? (i := 1620) (by decide +kernel)), fun h => absurd h (by decide), by decide, by decide⟩
theorem kF_14_316 : q_okF (14, 316, 14, 36, false) := ⟨fun _ => (List.mem_of_getElem? (i := 1621) (by decide +kernel)), fun h => absurd h (by decide), by decide, by decide⟩
theorem kF_14_322 : q_okF (14, 322, 14, 31, false) := ⟨fun _ => (List.mem_of_getElem? (i := 1616) (by decide +kernel)), fun h => absurd h (by decide), by decide, by decide⟩
theorem kF_14_325 : q_okF (14, 325, 14, 37, false) := ⟨fun _ => (List.mem_of_getElem? (i := 1622) (by decide +kernel)), fun h => absurd h (by decide), by decide, by decide⟩
theorem kF_14_328 : q_okF (14, 328, 14, 32, false) := ⟨fun _ => (List.mem_of_getElem? (i := 1617) (by decide +kernel)), fun h => absurd h (by decide), by decide, by decide⟩
theorem kF_14_331 : q_okF (14, 331, 14, 34, false) := ⟨fun _ => (List.mem_of_getElem? (i := 1619) (by decide +kernel)), fun h => absurd h (by decide), by decide, by decide⟩
theorem kF_14_337 : q_okF (14, 337, 14, 33, false) := ⟨fun _ => (List.mem_of_getElem? (i := 1618) (by decide +kernel)), fun h => absurd h (by decide), by decide, by decide⟩
theorem kF_14_344 : q_okF (14, 344, 14, 39, false) := ⟨fun _ => (List.mem_of_getElem? (i := 1624) (by decide +kernel)), fun h => absurd h (by decide), by decide, by decide⟩
theorem kF_14_388 : q_okF (14, 388, 14, 41, false) := ⟨fun _ => (List.mem_of_getElem? (i := 1626) (by decide +kernel)), fun h => absurd h (by decide), by decide, by decide⟩
theorem kF_14_391 : q_okF (14, 391, 14, 62, false) := ⟨fun _ => (List.mem_of_getElem? (i := 1647) (by decide +kernel)), fun h => absurd h (by decide), by decide, by decide⟩
theorem kF_14_394 : q_okF (14, 394, 14, 47, false) := ⟨fun _ => (List.mem_of_getElem? (i := 1632) (by decide +kernel)), fun h => absurd h (by decide), by decide, by decide⟩
theorem kF_14_407 : q_okF (14, 407, 14, 63, false) := ⟨fun _ => (List.mem_of_getElem? (i := 1648) (by decide +kernel)), fun h => absurd h (by decide), by decide, by decide⟩
theorem kF_14_410 : q_okF (14, 410, 14, 42, false) := ⟨fun _ => (List.mem_of_getElem? (i := 1627) (by decide +kernel)), fun h => absurd h (by decide), by decide, by decide⟩
theorem kF_14_432 : q_okF (14, 432, 14, 69, false) := ⟨fun _ => (List.mem_of_getElem? (i := 1654) (by decide +kernel)), fun h => absurd h (by decide), by decide, by decide⟩
theorem kF_14_435 : q_okF (14, 435, 14, 70, false) := ⟨fun _ => (List.mem_of_getElem? (i := 1655) (by decide +kernel)), fun h => absurd h (by decide), by decide, by decide⟩
theorem kF_14_447 : q_okF (14, 447, 14, 73, false) := ⟨fun _ => (List.mem_of_getElem? (i := 1658) (by decide +kernel)), fun h => absurd h (by decide), by decide, by decide⟩
theorem kF_14_450 : q_okF (14, 450, 14, 75, false) := ⟨fun _ => (List.mem_of_getElem? (i := 1660) (by decide +kernel)), fun h => absurd h (by decide), by decide, by decide⟩
theorem kF_14_459 : q_okF (14, 459, 14, 74, false) := ⟨fun _ => (List.mem_of_getElem? (i := 1659) (by decide +kernel)), fun h => absurd h (by decide), by decide, by decide⟩
def q_lF_1 : List (Nat × Nat × Nat × Nat × Bool) := [(1, 11, 1, 0, false), (1, 15, 1, 1, false)]
set_option maxRecDepth 20000 in
theorem kF_1 : ∀ e ∈ q_lF_1, q_okF e := List.forall_mem_cons.mpr ⟨kF_1_11, List.forall_mem_cons.mpr ⟨kF_1_15, fun _ h => absurd h List.not_mem_nil⟩⟩
def q_lF_2 : List (Nat × Nat × Nat × Nat × Bool) := [(2, 20, 2, 0, false), (2, 29, 2, 1, false)]
set_option maxRecDepth 20000 in
theorem kF_2 : ∀ e ∈ q_lF_2, q_okF e := List.forall_mem_cons.mpr ⟨kF_2_20, List.forall_mem_cons.mpr ⟨kF_2_29, fun _ h => absurd h List.not_mem_nil⟩⟩
def q_lF_3 : List (Nat × Nat × Nat × Nat × Bool) := [(3, 11, 3, 0, false), (3, 15, 3, 1, false), (3, 18, 3, 3, false), (3, 21, 3, 2, false)]
set_option maxRecDepth 20000 in
theorem kF_3 : ∀ e ∈ q_lF_3, q_okF e := List.forall_mem_cons.mpr ⟨kF_3_11, List.forall_mem_cons.mpr ⟨kF_3_15, List.forall_mem_cons.mpr ⟨kF_3_18, List.forall_mem_cons.mpr ⟨kF_3_21, fun _ h => absurd h List.not_mem_nil⟩⟩⟩⟩
def q_lF_4 : List (Nat × Nat × Nat × Nat × Bool) := [(4, 9, 4, 0, false), (4, 15, 4, 1, false), (4, 18, 4, 2, false), (4, 21, 4, 3, false), (4, 24, 4, 4, false), (4, 28, 4, 5, false)]
set_option maxRecDepth 20000 in
theorem kF_4 : ∀ e ∈ q_lF_4, q_okF e := List.forall_mem_cons.mpr ⟨kF_4_9, List.forall_mem_cons.mpr ⟨kF_4_15, List.forall_mem_cons.mpr ⟨kF_4_18, List.forall_mem_cons.mpr ⟨kF_4_21, List.forall_mem_cons.mpr ⟨kF_4_24, List.forall_mem_cons.mpr ⟨kF_4_28, fun _ h => absurd h List.not_mem_nil⟩⟩⟩⟩⟩⟩
def q_lF_5 : List (Nat × Nat × Nat × Nat × Bool) := [(5, 12, 5, 8, false), (5, 18, 5, 9, false), (5, 22, 5, 10, false), (5, 25, 5, 12, false), (5, 28, 5, 13, false), (5, 31, 5, 0, false), (5, 40, 5, 1, false), (5, 43, 5, 2, false), (5, 46, 5, 3, false), (5, 54, 5, 7, false), (5, 58, 5, 15, false), (5, 62, 5, 16, false), (5, 71, 5, 4, false), (5, 74, 5, 5, false), (5, 77, 5, 6, false)]
set_option maxRecDepth 20000 in
theorem kF_5 : ∀ e ∈ q_lF_5, q_okF e := List.forall_mem_cons.mpr ⟨kF_5_12, List.forall_mem_cons.mpr ⟨kF_5_18, List.forall_mem_cons.mpr ⟨kF_5_22, List.forall_mem_cons.mpr ⟨kF_5_25, List.forall_mem_cons.mpr ⟨kF_5_28, List.forall_mem_cons.mpr ⟨kF_5_31, List.forall_mem_cons.mpr ⟨kF_5_40, List.forall_mem_cons.mpr ⟨kF_5_43, List.forall_mem_cons.mpr ⟨kF_5_46, List.forall_mem_cons.mpr ⟨kF_5_54, List.forall_mem_cons.mpr ⟨kF_5_58, List.forall_mem_cons.mpr ⟨kF_5_62, List.forall_mem_cons.mpr ⟨kF_5_71, List.forall_mem_cons.mpr ⟨kF_5_74, List.forall_mem_cons.mpr ⟨kF_5_77, fun _ h => absurd h List.not_mem_nil⟩⟩⟩⟩⟩⟩⟩⟩⟩⟩⟩⟩⟩⟩⟩
def q_lF_6 : List (Nat × Nat × Nat × Nat × Bool) := [(6, 9, 6, 1, false), (6, 15, 6, 3, false), (6, 19, 6, 4, false), (6, 22, 6, 2, false)]
set_option maxRecDepth 20000 in
theorem kF_6 : ∀ e ∈ q_lF_6, q_okF e := List.forall_mem_cons.mpr ⟨kF_6_9, List.forall_mem_cons.mpr ⟨kF_6_15, List.forall_mem_cons.mpr ⟨kF_6_19, List.forall_mem_cons.mpr ⟨kF_6_22, fun _ h => absurd h List.not_mem_nil⟩⟩⟩⟩
def q_lF_7 : List (Nat × Nat × Nat × Nat × Bool) := [(7, 9, 7, 0, false), (7, 15, 7, 1, false), (7, 18, 7, 2, false), (7, 21, 7, 5, false), (7, 24, 7, 6, false), (7, 27, 7, 7, false), (7, 30, 7, 8, false), (7, 33, 7, 3, false), (7, 37, 7, 9, false)]
set_option maxRecDepth 20000 in
theorem kF_7 : ∀ e ∈ q_lF_7, q_okF e := List.forall_mem_cons.mpr ⟨kF_7_9, List.forall_mem_cons.mpr ⟨kF_7_15, List.forall_mem_cons.mpr ⟨kF_7_18, List.forall_mem_cons.mpr ⟨kF_7_21, List.forall_mem_cons.mpr ⟨kF_7_24, List.forall_mem_cons.mpr ⟨kF_7_27, List.forall_mem_cons.mpr ⟨kF_7_30, List.forall_mem_cons.mpr ⟨kF_7_33, List.forall_mem_cons.mpr ⟨kF_7_37, fun _ h => absurd h List.not_mem_nil⟩⟩⟩⟩⟩⟩⟩⟩⟩
def q_lF_8 : List (Nat × Nat × Nat × Nat × Bool) := [(8, 9, 8, 0, false), (8, 13, 8, 1, false), (8, 17, 8, 2, false), (8, 22, 8, 3, false)]
set_option maxRecDepth 20000 in
theorem kF_8 : ∀ e ∈ q_lF_8, q_okF e := List.forall_mem_cons.mpr ⟨kF_8_9, List.forall_mem_cons.mpr ⟨kF_8_13, List.forall_mem_cons.mpr ⟨kF_8_17, List.forall_mem_cons.mpr ⟨kF_8_22, fun _ h => absurd h List.not_mem_nil⟩⟩⟩⟩
def q_lF_9 : List (Nat × Nat × Nat × Nat × Bool) := [(9, 15, 9, 0, false), (9, 21, 9, 1, false), (9, 24, 9, 2, false), (9, 54, 11, 3, true)]
set_option maxRecDepth 20000 in
theorem kF_9 : ∀ e ∈ q_lF_9, q_okF e := List.forall_mem_cons.mpr ⟨kF_9_15, List.forall_mem_cons.mpr ⟨kF_9_21, List.forall_mem_cons.mpr ⟨kF_9_24, List.forall_mem_cons.mpr ⟨kF_9_54, fun _ h => absurd h List.not_mem_nil⟩⟩⟩⟩
def q_lF_10 : List (Nat × Nat × Nat × Nat × Bool) := [(10, 13, 10, 0, false), (10, 17, 10, 1, false), (10, 21, 10, 2, false), (10, 24, 10, 3, false), (10, 29, 10, 5, false), (10, 32, 10, 6, false), (10, 35, 10, 7, false), (10, 38, 10, 4, false), (10, 55, 4, 0, true), (10, 58, 4, 2, true), (10, 69, 4, 4, true)]
set_option maxRecDepth 20000 in
theorem kF_10 : ∀ e ∈ q_lF_10, q_okF e := List.forall_mem_cons.mpr ⟨kF_10_13, List.forall_mem_cons.mpr ⟨kF_10_17, List.forall_mem_cons.mpr ⟨kF_10_21, List.forall_mem_cons.mpr ⟨kF_10_24, List.forall_mem_cons.mpr ⟨kF_10_29, List.forall_mem_cons.mpr ⟨kF_10_32, List.forall_mem_cons.mpr ⟨kF_10_35, List.forall_mem_cons.mpr ⟨kF_10_38, List.forall_mem_cons.mpr ⟨kF_10_55, List.forall_mem_cons.mpr ⟨kF_10_58, List.forall_mem_cons.mpr ⟨kF_10_69, fun _ h => absurd h List.not_mem_nil⟩⟩⟩⟩⟩⟩⟩⟩⟩⟩⟩
def q_lF_11 : List (Nat × Nat × Nat × Nat × Bool) := [(11, 11, 11, 0, false), (11, 15, 11, 3, false), (11, 19, 11, 1, false), (11, 22, 11, 2, false)]
set_option maxRecDepth 20000 in
theorem kF_11 : ∀ e ∈ q_lF_11, q_okF e := List.forall_mem_cons.mpr ⟨kF_11_11, List.forall_mem_cons.mpr ⟨kF_11_15, List.forall_mem_cons.mpr ⟨kF_11_19, List.forall_mem_cons.mpr ⟨kF_11_22, fun _ h => absurd h List.not_mem_nil⟩⟩⟩⟩
def q_lF_12 : List (Nat × Nat × Nat × Nat × Bool) := [(12, 11, 12, 0, false), (12, 15, 12, 1, false), (12, 18, 12, 2, false), (12, 21, 12, 3, false), (12, 39, 12, 5, false), (12, 42, 12, 4, false), (12, 58, 12, 6, false), (12, 61, 12, 8, false)]
set_option maxRecDepth 20000 in
theorem kF_12 : ∀ e ∈ q_lF_12, q_okF e := List.forall_mem_cons.mpr ⟨kF_12_11, List.forall_mem_cons.mpr ⟨kF_12_15, List.forall_mem_cons.mpr ⟨kF_12_18, List.forall_mem_cons.mpr ⟨kF_12_21, List.forall_mem_cons.mpr ⟨kF_12_39, List.forall_mem_cons.mpr ⟨kF_12_42, List.forall_mem_cons.mpr ⟨kF_12_58, List.forall_mem_cons.mpr ⟨kF_12_61, fun _ h => absurd h List.not_mem_nil⟩⟩⟩⟩⟩⟩⟩⟩
def q_lF_13 : List (Nat × Nat × Nat × Nat × Bool) := [(13, 10, 13, 0, false), (13, 18, 13, 1, false), (13, 27, 13, 3, false), (13, 31, 13, 4, false), (13, 37, 13, 5, false), (13, 41, 13, 6, false), (13, 45, 13, 7, false), (13, 52, 13, 8, false), (13, 59, 13, 9, false), (13, 66, 13, 10, false), (13, 73, 13, 11, false), (13, 79, 13, 12, false), (13, 86, 13, 14, false), (13, 93, 13, 16, false), (13, 100, 13, 19, false), (13, 112, 11, 1, true), (13, 124, 13, 2, false), (13, 142, 11, 3, true), (13, 145, 9, 2, true), (13, 173, 10, 3, true), (13, 188, 3, 2, true), (13, 191, 12, 3, true), (13, 197, 12, 7, true), (13, 204, 12, 5, true), (13, 221, 1, 1, true), (13, 225, 2, 1, true), (13, 231, 13, 13, false), (13, 234, 6, 0, true), (13, 246, 5, 7, true), (13, 251, 5, 8, true), (13, 265, 5, 9, true), (13, 268, 5, 1, true), (13, 274, 5, 10, true), (13, 277, 13, 15, false), (13, 284, 5, 11, true), (13, 287, 5, 12, true), (13, 290, 5, 13, true), (13, 296, 5, 4, true), (13, 299, 5, 5, true), (13, 302, 5, 6, true), (13, 305, 5, 0, true), (13, 308, 6, 3, true), (13, 311, 6, 2, true), (13, 314, 6, 4, true), (13, 317, 6, 5, true), (13, 324, 5, 16, true), (13, 330, 4, 0, true), (13, 333, 4, 1, true), (13, 336, 7, 4, true), (13, 350, 5, 14, true), (13, 353, 5, 2, true), (13, 356, 5, 3, true), (13, 375, 13, 17, false), (13, 378, 13, 18, false), (13, 384, 8, 1, true), (13, 387, 8, 2, true), (13, 396, 8, 3, true), (13, 406, 12, 4, true), (13, 409, 12, 6, true), (13, 415, 12, 8, true), (13, 421, 7, 3, true), (13, 461, 9, 0, true), (13, 464, 9, 1, true), (13, 486, 6, 1, true), (13, 523, 5, 15, true)]
set_option maxRecDepth 20000 in
theorem kF_13 : ∀ e ∈ q_lF_13, q_okF e := List.forall_mem_cons.mpr ⟨kF_13_10, List.forall_mem_cons.mpr ⟨kF_13_18, List.forall_mem_cons.mpr ⟨kF_13_27, List.forall_mem_cons.mpr ⟨kF_13_31, List.forall_mem_cons.mpr ⟨kF_13_37, List.forall_mem_cons.mpr ⟨kF_13_41, List.forall_mem_cons.mpr ⟨kF_13_45, List.forall_mem_cons.mpr ⟨kF_13_52, List.forall_mem_cons.mpr ⟨kF_13_59, List.forall_mem_cons.mpr ⟨kF_13_66, List.forall_mem_cons.mpr ⟨kF_13_73, List.forall_mem_cons.mpr ⟨kF_13_79, List.forall_mem_cons.mpr ⟨kF_13_86, List.forall_mem_cons.mpr ⟨kF_13_93, List.forall_mem_cons.mpr ⟨kF_13_100, List.forall_mem_cons.mpr ⟨kF_13_112, List.forall_mem_cons.mpr ⟨kF_13_124, List.forall_mem_cons.mpr ⟨kF_13_142, List.forall_mem_cons.mpr ⟨kF_13_145, List.forall_mem_cons.mpr ⟨kF_13_173, List.forall_mem_cons.mpr ⟨kF_13_188, List.forall_mem_cons.mpr ⟨kF_13_191, List.forall_mem_cons.mpr ⟨kF_13_197, List.forall_mem_cons.mpr ⟨kF_13_204, List.forall_mem_cons.mpr ⟨kF_13_221, List.forall_mem_cons.mpr ⟨kF_13_225, List.forall_mem_cons.mpr ⟨kF_13_231, List.forall_mem_cons.mpr ⟨kF_13_234, List.forall_mem_cons.mpr ⟨kF_13_246, List.forall_mem_cons.mpr ⟨kF_13_251, List.forall_mem_cons.mpr ⟨kF_13_265, List.forall_mem_cons.mpr ⟨kF_13_268, List.forall_mem_cons.mpr ⟨kF_13_274, List.forall_mem_cons.mpr ⟨kF_13_277, List.forall_mem_cons.mpr ⟨kF_13_284, List.forall_mem_cons.mpr ⟨kF_13_287, List.forall_mem_cons.mpr ⟨kF_13_290, List.forall_mem_cons.mpr ⟨kF_13_296, List.forall_mem_cons.mpr ⟨kF_13_299, List.forall_mem_cons.mpr ⟨kF_13_302, List.forall_mem_cons.mpr ⟨kF_13_305, List.forall_mem_cons.mpr ⟨kF_13_308, List.forall_mem_cons.mpr ⟨kF_13_311, List.forall_mem_cons.mpr ⟨kF_13_314, List.forall_mem_cons.mpr ⟨kF_13_317, List.forall_mem_cons.mpr ⟨kF_13_324, List.forall_mem_cons.mpr ⟨kF_13_330, List.forall_mem_cons.mpr ⟨kF_13_333, List.forall_mem_cons.mpr ⟨kF_13_336, List.forall_mem_cons.mpr ⟨kF_13_350, List.forall_mem_cons.mpr ⟨kF_13_353, List.forall_mem_cons.mpr ⟨kF_13_356, List.forall_mem_cons.mpr ⟨kF_13_375, List.forall_mem_cons.mpr ⟨kF_13_378, List.forall_mem_cons.mpr ⟨kF_13_384, List.forall_mem_cons.mpr ⟨kF_13_387, List.forall_mem_cons.mpr ⟨kF_13_396, List.forall_mem_cons.mpr ⟨kF_13_406, List.forall_mem_cons.mpr ⟨kF_13_409, List.forall_mem_cons.mpr ⟨kF_13_415, List.forall_mem_cons.mpr ⟨kF_13_421, List.forall_mem_cons.mpr ⟨kF_13_461, List.forall_mem_cons.mpr ⟨kF_13_464, List.forall_mem_cons.mpr ⟨kF_13_486, List.forall_mem_cons.mpr ⟨kF_13_523, fun _ h => absurd h List.not_mem_nil⟩⟩⟩⟩⟩⟩⟩⟩⟩⟩⟩⟩⟩⟩⟩⟩⟩⟩⟩⟩⟩⟩⟩⟩⟩⟩⟩⟩⟩⟩⟩⟩⟩⟩⟩⟩⟩⟩⟩⟩⟩⟩⟩⟩⟩⟩⟩⟩⟩⟩⟩⟩⟩⟩⟩⟩⟩⟩⟩⟩⟩⟩⟩⟩⟩
def q_lF_14 : List (Nat × Nat × Nat × Nat × Bool) := [(14, 9, 14, 1, false), (14, 13, 14, 6, false), (14, 17, 14, 7, false), (14, 21, 14, 8, false), (14, 24, 14, 9, false), (14, 27, 14, 10, false), (14, 30, 14, 11, false), (14, 33, 14, 12, false), (14, 36, 14, 13, false), (14, 39, 14, 15, false), (14, 42, 14, 16, false), (14, 45, 14, 17, false), (14, 48, 14, 23, false), (14, 51, 14, 24, false), (14, 54, 14, 26, false), (14, 57, 14, 27, false), (14, 60, 14, 28, false), (14, 63, 14, 29, false), (14, 66, 14, 38, false), (14, 69, 14, 40, false), (14, 72, 14, 43, false), (14, 75, 14, 44, false), (14, 78, 14, 45, false), (14, 81, 14, 46, false), (14, 84, 14, 48, false), (14, 87, 14, 49, false), (14, 90, 14, 50, false), (14, 93, 14, 51, false), (14, 96, 14, 52, false), (14, 99, 14, 53, false), (14, 102, 14, 54, false), (14, 105, 14, 55, false), (14, 108, 14, 56, false), (14, 111, 14, 57, false), (14, 114, 14, 58, false), (14, 117, 14, 59, false), (14, 120, 14, 60, false), (14, 123, 14, 61, false), (14, 126, 14, 64, false), (14, 129, 14, 65, false), (14, 132, 14, 66, false), (14, 135, 14, 67, false), (14, 138, 14, 68, false), (14, 141, 14, 71, false), (14, 144, 14, 72, false), (14, 147, 14, 76, false), (14, 150, 14, 77, false), (14, 153, 14, 78, false), (14, 156, 14, 79, false), (14, 159, 14, 0, false), (14, 162, 14, 2, false), (14, 165, 14, 4, false), (14, 168, 14, 3, false), (14, 175, 14, 5, false), (14, 231, 14, 14, false), (14, 272, 14, 20, false), (14, 275, 14, 21, false), (14, 278, 14, 22, false), (14, 281, 14, 18, false), (14, 284, 14, 19, false), (14, 301, 14, 25, false), (14, 308, 14, 30, false), (14, 313, 14, 35, false), (14, 316, 14, 36, false), (14, 322, 14, 31, false), (14, 325, 14, 37, false), (14, 328, 14, 32, false), (14, 331, 14, 34, false), (14, 337, 14, 33, false), (14, 344, 14, 39, false), (14, 388, 14, 41, false), (14, 391, 14, 62, false), (14, 394, 14, 47, false), (14, 407, 14, 63, false), (14, 410, 14, 42, false), (14, 432, 14, 69, false), (14, 435, 14, 70, false), (14, 447, 14, 73, false), (14, 450, 14, 75, false), (14, 459, 14, 74, false)]
set_option maxRecDepth 20000 in
theorem kF_14 : ∀ e ∈ q_lF_14, q_okF e := List.forall_mem_cons.mpr ⟨kF_14_9, List.forall_mem_cons.mpr ⟨kF_14_13, List.forall_mem_cons.mpr ⟨kF_14_17, List.forall_mem_cons.mpr ⟨kF_14_21, List.forall_mem_cons.mpr ⟨kF_14_24, List.forall_mem_cons.mpr ⟨kF_14_27, List.forall_mem_cons.mpr ⟨kF_14_30, List.forall_mem_cons.mpr ⟨kF_14_33, List.forall_mem_cons.mpr ⟨kF_14_36, List.forall_mem_cons.mpr ⟨kF_14_39, List.forall_mem_cons.mpr ⟨kF_14_42, List.forall_mem_cons.mpr ⟨kF_14_45, List.forall_mem_cons.mpr ⟨kF_14_48, List.forall_mem_cons.mpr ⟨kF_14_51, List.forall_mem_cons.mpr ⟨kF_14_54, List.forall_mem_cons.mpr ⟨kF_14_57, List.forall_mem_cons.mpr ⟨kF_14_60, List.forall_mem_cons.mpr ⟨kF_14_63, List.forall_mem_cons.mpr ⟨kF_14_66, List.forall_mem_cons.mpr ⟨kF_14_69, List.forall_mem_cons.mpr ⟨kF_14_72, List.forall_mem_cons.mpr ⟨kF_14_75, List.forall_mem_cons.mpr ⟨kF_14_78, List.forall_mem_cons.mpr ⟨kF_14_81, List.forall_mem_cons.mpr ⟨kF_14_84, List.forall_mem_cons.mpr ⟨kF_14_87, List.forall_mem_cons.mpr ⟨kF_14_90, List.forall_mem_cons.mpr ⟨kF_14_93, List.forall_mem_cons.mpr ⟨kF_14_96, List.forall_mem_cons.mpr ⟨kF_14_99, List.forall_mem_cons.mpr ⟨kF_14_102, List.forall_mem_cons.mpr ⟨kF_14_105, List.forall_mem_cons.mpr ⟨kF_14_108, List.forall_mem_cons.mpr ⟨kF_14_111, List.forall_mem_cons.mpr ⟨kF_14_114, List.forall_mem_cons.mpr ⟨kF_14_117, List.forall_mem_cons.mpr ⟨kF_14_120, List.forall_mem_cons.mpr ⟨kF_14_123, List.forall_mem_cons.mpr ⟨kF_14_126, List.forall_mem_cons.mpr ⟨kF_14_129, List.forall_mem_cons.mpr ⟨kF_14_132, List.forall_mem_cons.mpr ⟨kF_14_135, List.forall_mem_cons.mpr ⟨kF_14_138, List.forall_mem_cons.mpr ⟨kF_14_141, List.forall_mem_cons.mpr ⟨kF_14_144, List.forall_mem_cons.mpr ⟨kF_14_147, List.forall_mem_cons.mpr ⟨kF_14_150, List.forall_mem_cons.mpr ⟨kF_14_153, List.forall_mem_cons.mpr ⟨kF_14_156, List.forall_mem_cons.mpr ⟨kF_14_159, List.forall_mem_cons.mpr ⟨kF_14_162, List.forall_mem_cons.mpr ⟨kF_14_165, List.forall_mem_cons.mpr ⟨kF_14_168, List.forall_mem_cons.mpr ⟨kF_14_175, List.forall_mem_cons.mpr ⟨kF_14_231, List.forall_mem_cons.mpr ⟨kF_14_272, List.forall_mem_cons.mpr ⟨kF_14_275, List.forall_mem_cons.mpr ⟨kF_14_278, List.forall_mem_cons.mpr ⟨kF_14_281, List.forall_mem_cons.mpr ⟨kF_14_284, List.forall_mem_cons.mpr ⟨kF_14_301, List.forall_mem_cons.mpr ⟨kF_14_308, List.forall_mem_cons.mpr ⟨kF_14_313, List.forall_mem_cons.mpr ⟨kF_14_316, List.forall_mem_cons.mpr ⟨kF_14_322, List.forall_mem_cons.mpr ⟨kF_14_325, List.forall_mem_cons.mpr ⟨kF_14_328, List.forall_mem_cons.mpr ⟨kF_14_331, List.forall_mem_cons.mpr ⟨kF_14_337, List.forall_mem_cons.mpr ⟨kF_14_344, List.forall_mem_cons.mpr ⟨kF_14_388, List.forall_mem_cons.mpr ⟨kF_14_391, List.forall_mem_cons.mpr ⟨kF_14_394, List.forall_mem_cons.mpr ⟨kF_14_407, List.forall_mem_cons.mpr ⟨kF_14_410, List.forall_mem_cons.mpr ⟨kF_14_432, List.forall_mem_cons.mpr ⟨kF_14_435, List.forall_mem_cons.mpr ⟨kF_14_447, List.forall_mem_cons.mpr ⟨kF_14_450, List.forall_mem_cons.mpr ⟨kF_14_459, fun _ h => absurd h List.not_mem_nil⟩⟩⟩⟩⟩⟩⟩⟩⟩⟩⟩⟩⟩⟩⟩⟩⟩⟩⟩⟩⟩⟩⟩⟩⟩⟩⟩⟩⟩⟩⟩⟩⟩⟩⟩⟩⟩⟩⟩⟩⟩⟩⟩⟩⟩⟩⟩⟩⟩⟩⟩⟩⟩⟩⟩⟩⟩⟩⟩⟩⟩⟩⟩⟩⟩⟩⟩⟩⟩⟩⟩⟩⟩⟩⟩⟩⟩⟩⟩⟩
def q_lFo (o : Nat) : List (Nat × Nat × Nat × Nat × Bool) := match o with
  | 1 => q_lF_1
  | 2 => q_lF_2
  | 3 => q_lF_3
  | 4 => q_lF_4
  | 5 => q_lF_5
  | 6 => q_lF_6
  | 7 => q_lF_7
  | 8 => q_lF_8
  | 9 => q_lF_9
  | 10 => q_lF_10
  | 11 => q_lF_11
  | 12 => q_lF_12
  | 13 => q_lF_13
  | 14 => q_lF_14
  | _ => []
theorem kFo : ∀ (o : Nat) (e : Nat × Nat × Nat × Nat × Bool), e ∈ q_lFo o → q_okF e := by
  intro o e h
  unfold q_lFo at h
  split at h
  · exact kF_1 e h
  · exact kF_2 e h
  · exact kF_3 e h
  · exact kF_4 e h
  · exact kF_5 e h
  · exact kF_6 e h
  · exact kF_7 e h
  · exact kF_8 e h
  · exact kF_9 e h
  · exact kF_10 e h
  · exact kF_11 e h
  · exact kF_12 e h
  · exact kF_13 e h
  · exact kF_14 e h
  · cases h
/-- the link of a field -/
def q_lF (o i : Nat) : Option (Nat × Nat × Nat × Nat × Bool) := (q_lFo o).find? (fun e => e.1 == o && e.2.1 == i)
end
section
/-- a call by a link: class of the code, entry, kind, by the nest, the callee -/
abbrev q_L : Type := Nat × Nat × Nat × Bool × q_M
def q_okM (e : q_L) : Prop := (e.2.2.2.1 = false → Cond.methodLink (q_on e.1) e.2.1 (q_y e.2.2.2.2) ∈ lw_tbl) ∧ (e.2.2.2.1 = true → e.2.2.1 = 2 ∧ Cond.methodLinkNest (q_on e.1) e.2.1 (q_y e.2.2.2.2) "TrouserWash" ∈ lw_tbl) ∧ q_okY e.2.2.1 e.2.2.2.2
theorem kM_1_19 : q_okM (1, 19, 0, false, M_X0_sorts) := ⟨fun _ => (List.mem_of_getElem? (i := 1066) (by decide +kernel)), fun h => absurd h (by decide), kY_X0_sorts⟩
theorem kM_2_33 : q_okM (2, 33, 0, false, M_X10_isBlank) := ⟨fun _ => (List.mem_of_getElem? (i := 1093) (by decide +kernel)), fun h => absurd h (by decide), kY_X10_isBlank⟩
theorem kM_2_39 : q_okM (2, 39, 0, false, M_X1_readRule) := ⟨fun _ => (List.mem_of_getElem? (i := 1094) (by decide +kernel)), fun h => absurd h (by decide), kY_X1_readRule⟩
theorem kM_2_43 : q_okM (2, 43, 0, false, M_X10_goesOn) := ⟨fun _ => (List.mem_of_getElem? (i := 1119) (by decide +kernel)), fun h => absurd h (by decide), kY_X10_goesOn⟩
theorem kM_2_46 : q_okM (2, 46, 0, false, M_X10_refuseNext) := ⟨fun _ => (List.mem_of_getElem? (i := 1098) (by decide +kernel)), fun h => absurd h (by decide), kY_X10_refuseNext⟩
theorem kM_2_51 : q_okM (2, 51, 0, false, M_X10_pick) := ⟨fun _ => (List.mem_of_getElem? (i := 1100) (by decide +kernel)), fun h => absurd h (by decide), kY_X10_pick⟩
theorem kM_2_55 : q_okM (2, 55, 0, false, M_X1_readOfBath) := ⟨fun _ => (List.mem_of_getElem? (i := 1101) (by decide +kernel)), fun h => absurd h (by decide), kY_X1_readOfBath⟩
theorem kM_2_59 : q_okM (2, 59, 0, false, M_X1_readPours) := ⟨fun _ => (List.mem_of_getElem? (i := 1107) (by decide +kernel)), fun h => absurd h (by decide), kY_X1_readPours⟩
theorem kM_2_62 : q_okM (2, 62, 0, false, M_X10_number) := ⟨fun _ => (List.mem_of_getElem? (i := 1106) (by decide +kernel)), fun h => absurd h (by decide), kY_X10_number⟩
theorem kM_2_66 : q_okM (2, 66, 0, false, M_X1_readAgain) := ⟨fun _ => (List.mem_of_getElem? (i := 1112) (by decide +kernel)), fun h => absurd h (by decide), kY_X1_readAgain⟩
theorem kM_3_25 : q_okM (3, 25, 1, false, M_J7_fill_53178) := ⟨fun _ => (List.mem_of_getElem? (i := 554) (by decide +kernel)), fun h => absurd h (by decide), kY_J7_fill_53178⟩
theorem kM_3_31 : q_okM (3, 31, 0, false, M_X2_goOn) := ⟨fun _ => (List.mem_of_getElem? (i := 557) (by decide +kernel)), fun h => absurd h (by decide), kY_X2_goOn⟩
theorem kM_3_35 : q_okM (3, 35, 1, false, M_X2_lesser) := ⟨fun _ => (List.mem_of_getElem? (i := 565) (by decide +kernel)), fun h => absurd h (by decide), kY_X2_lesser⟩
theorem kM_3_39 : q_okM (3, 39, 0, false, M_X2_between) := ⟨fun _ => (List.mem_of_getElem? (i := 561) (by decide +kernel)), fun h => absurd h (by decide), kY_X2_between⟩
theorem kM_4_31 : q_okM (4, 31, 0, false, M_X3_fade) := ⟨fun _ => (List.mem_of_getElem? (i := 884) (by decide +kernel)), fun h => absurd h (by decide), kY_X3_fade⟩
theorem kM_4_35 : q_okM (4, 35, 0, false, M_X3_wear) := ⟨fun _ => (List.mem_of_getElem? (i := 889) (by decide +kernel)), fun h => absurd h (by decide), kY_X3_wear⟩
theorem kM_5_11 : q_okM (5, 11, 2, true, M_X3_init) := ⟨fun h => absurd h (by decide), fun _ => ⟨rfl, (List.mem_of_getElem? (i := 1151) (by decide +kernel))⟩, kY_X3_init⟩
theorem kM_5_51 : q_okM (5, 51, 2, false, M_X8_init) := ⟨fun _ => (List.mem_of_getElem? (i := 1154) (by decide +kernel)), fun h => absurd h (by decide), kY_X8_init⟩
theorem kM_5_65 : q_okM (5, 65, 1, false, M_J7_fill_53178) := ⟨fun _ => (List.mem_of_getElem? (i := 1155) (by decide +kernel)), fun h => absurd h (by decide), kY_J7_fill_53178⟩
theorem kM_7_40 : q_okM (7, 40, 1, false, M_J7_fill_53178) := ⟨fun _ => (List.mem_of_getElem? (i := 1490) (by decide +kernel)), fun h => absurd h (by decide), kY_J7_fill_53178⟩
theorem kM_7_46 : q_okM (7, 46, 1, false, M_X6_shadeOf) := ⟨fun _ => (List.mem_of_getElem? (i := 1491) (by decide +kernel)), fun h => absurd h (by decide), kY_X6_shadeOf⟩
theorem kM_7_50 : q_okM (7, 50, 0, false, M_X6_putInOrder) := ⟨fun _ => (List.mem_of_getElem? (i := 1486) (by decide +kernel)), fun h => absurd h (by decide), kY_X6_putInOrder⟩
theorem kM_8_25 : q_okM (8, 25, 1, false, M_J7_fill_53178) := ⟨fun _ => (List.mem_of_getElem? (i := 1533) (by decide +kernel)), fun h => absurd h (by decide), kY_J7_fill_53178⟩
theorem kM_8_31 : q_okM (8, 31, 0, false, M_X7_heatAt) := ⟨fun _ => (List.mem_of_getElem? (i := 1556) (by decide +kernel)), fun h => absurd h (by decide), kY_X7_heatAt⟩
theorem kM_8_43 : q_okM (8, 43, 0, false, M_X7_unlike) := ⟨fun _ => (List.mem_of_getElem? (i := 583) (by decide +kernel)), fun h => absurd h (by decide), kY_X7_unlike⟩
theorem kM_9_28 : q_okM (9, 28, 0, false, M_X10_isBlank) := ⟨fun _ => (List.mem_of_getElem? (i := 737) (by decide +kernel)), fun h => absurd h (by decide), kY_X10_isBlank⟩
theorem kM_9_34 : q_okM (9, 34, 0, false, M_X8_readBath) := ⟨fun _ => (List.mem_of_getElem? (i := 745) (by decide +kernel)), fun h => absurd h (by decide), kY_X8_readBath⟩
theorem kM_9_38 : q_okM (9, 38, 0, false, M_X10_goesOn) := ⟨fun _ => (List.mem_of_getElem? (i := 820) (by decide +kernel)), fun h => absurd h (by decide), kY_X10_goesOn⟩
theorem kM_9_41 : q_okM (9, 41, 0, false, M_X10_refuseNext) := ⟨fun _ => (List.mem_of_getElem? (i := 749) (by decide +kernel)), fun h => absurd h (by decide), kY_X10_refuseNext⟩
theorem kM_9_46 : q_okM (9, 46, 0, false, M_X10_pick) := ⟨fun _ => (List.mem_of_getElem? (i := 758) (by decide +kernel)), fun h => absurd h (by decide), kY_X10_pick⟩
theorem kM_9_50 : q_okM (9, 50, 0, false, M_X10_number) := ⟨fun _ => (List.mem_of_getElem? (i := 812) (by decide +kernel)), fun h => absurd h (by decide), kY_X10_number⟩
theorem kM_9_57 : q_okM (9, 57, 0, false, M_X8_add) := ⟨fun _ => (List.mem_of_getElem? (i := 816) (by decide +kernel)), fun h => absurd h (by decide), kY_X8_add⟩
theorem kM_9_61 : q_okM (9, 61, 1, false, M_X8_priceOf) := ⟨fun _ => (List.mem_of_getElem? (i := 543) (by decide +kernel)), fun h => absurd h (by decide), kY_X8_priceOf⟩
theorem kM_10_28 : q_okM (10, 28, 2, true, M_X3_init) := ⟨fun h => absurd h (by decide), fun _ => ⟨rfl, (List.mem_of_getElem? (i := 233) (by decide +kernel))⟩, kY_X3_init⟩
theorem kM_10_41 : q_okM (10, 41, 0, false, M_X3_copy) := ⟨fun _ => (List.mem_of_getElem? (i := 930) (by decide +kernel)), fun h => absurd h (by decide), kY_X3_copy⟩
theorem kM_10_51 : q_okM (10, 51, 0, false, M_X9_descend) := ⟨fun _ => (List.mem_of_getElem? (i := 932) (by decide +kernel)), fun h => absurd h (by decide), kY_X9_descend⟩
theorem kM_10_61 : q_okM (10, 61, 0, false, M_X3_surelyMeets) := ⟨fun _ => (List.mem_of_getElem? (i := 936) (by decide +kernel)), fun h => absurd h (by decide), kY_X3_surelyMeets⟩
theorem kM_10_65 : q_okM (10, 65, 0, false, M_X9_keepIfBetter) := ⟨fun _ => (List.mem_of_getElem? (i := 937) (by decide +kernel)), fun h => absurd h (by decide), kY_X9_keepIfBetter⟩
theorem kM_10_76 : q_okM (10, 76, 0, false, M_X3_take) := ⟨fun _ => (List.mem_of_getElem? (i := 946) (by decide +kernel)), fun h => absurd h (by decide), kY_X3_take⟩
theorem kM_10_79 : q_okM (10, 79, 1, false, M_X8_priceOf) := ⟨fun _ => (List.mem_of_getElem? (i := 947) (by decide +kernel)), fun h => absurd h (by decide), kY_X8_priceOf⟩
theorem kM_11_25 : q_okM (11, 25, 0, false, M_X10_skipBlanks) := ⟨fun _ => (List.mem_of_getElem? (i := 741) (by decide +kernel)), fun h => absurd h (by decide), kY_X10_skipBlanks⟩
theorem kM_11_28 : q_okM (11, 28, 0, false, M_X10_refuse) := ⟨fun _ => (List.mem_of_getElem? (i := 753) (by decide +kernel)), fun h => absurd h (by decide), kY_X10_refuse⟩
theorem kM_11_32 : q_okM (11, 32, 0, false, M_X10_placeAmong) := ⟨fun _ => (List.mem_of_getElem? (i := 762) (by decide +kernel)), fun h => absurd h (by decide), kY_X10_placeAmong⟩
theorem kM_12_25 : q_okM (12, 25, 0, false, M_X11_dirtiest) := ⟨fun _ => (List.mem_of_getElem? (i := 1003) (by decide +kernel)), fun h => absurd h (by decide), kY_X11_dirtiest⟩
theorem kM_12_35 : q_okM (12, 35, 1, false, M_X11_partUp) := ⟨fun _ => (List.mem_of_getElem? (i := 1013) (by decide +kernel)), fun h => absurd h (by decide), kY_X11_partUp⟩
theorem kM_12_47 : q_okM (12, 47, 0, false, M_X11_isDirtier) := ⟨fun _ => (List.mem_of_getElem? (i := 1008) (by decide +kernel)), fun h => absurd h (by decide), kY_X11_isDirtier⟩
theorem kM_12_54 : q_okM (12, 54, 0, false, M_X11_runOff) := ⟨fun _ => (List.mem_of_getElem? (i := 1029) (by decide +kernel)), fun h => absurd h (by decide), kY_X11_runOff⟩
theorem kM_12_64 : q_okM (12, 64, 0, false, M_X11_putIn) := ⟨fun _ => (List.mem_of_getElem? (i := 1362) (by decide +kernel)), fun h => absurd h (by decide), kY_X11_putIn⟩
theorem kM_13_9 : q_okM (13, 9, 2, true, M_X10_init) := ⟨fun h => absurd h (by decide), fun _ => ⟨rfl, (List.mem_of_getElem? (i := 128) (by decide +kernel))⟩, kY_X10_init⟩
theorem kM_13_24 : q_okM (13, 24, 2, false, M_X8_init) := ⟨fun _ => (List.mem_of_getElem? (i := 153) (by decide +kernel)), fun h => absurd h (by decide), kY_X8_init⟩
theorem kM_13_36 : q_okM (13, 36, 2, true, M_X1_init) := ⟨fun h => absurd h (by decide), fun _ => ⟨rfl, (List.mem_of_getElem? (i := 176) (by decide +kernel))⟩, kY_X1_init⟩
theorem kM_13_44 : q_okM (13, 44, 2, true, M_X3_init) := ⟨fun h => absurd h (by decide), fun _ => ⟨rfl, (List.mem_of_getElem? (i := 198) (by decide +kernel))⟩, kY_X3_init⟩
theorem kM_13_51 : q_okM (13, 51, 2, false, M_X9_init) := ⟨fun _ => (List.mem_of_getElem? (i := 228) (by decide +kernel)), fun h => absurd h (by decide), kY_X9_init⟩
theorem kM_13_58 : q_okM (13, 58, 2, true, M_X2_init) := ⟨fun h => absurd h (by decide), fun _ => ⟨rfl, (List.mem_of_getElem? (i := 262) (by decide +kernel))⟩, kY_X2_init⟩
theorem kM_13_65 : q_okM (13, 65, 2, true, M_X11_init) := ⟨fun h => absurd h (by decide), fun _ => ⟨rfl, (List.mem_of_getElem? (i := 282) (by decide +kernel))⟩, kY_X11_init⟩
theorem kM_13_72 : q_okM (13, 72, 2, true, M_X0_init) := ⟨fun h => absurd h (by decide), fun _ => ⟨rfl, (List.mem_of_getElem? (i := 321) (by decide +kernel))⟩, kY_X0_init⟩
theorem kM_13_92 : q_okM (13, 92, 2, true, M_X6_init) := ⟨fun h => absurd h (by decide), fun _ => ⟨rfl, (List.mem_of_getElem? (i := 363) (by decide +kernel))⟩, kY_X6_init⟩
theorem kM_13_99 : q_okM (13, 99, 2, true, M_X7_init) := ⟨fun h => absurd h (by decide), fun _ => ⟨rfl, (List.mem_of_getElem? (i := 401) (by decide +kernel))⟩, kY_X7_init⟩
theorem kM_13_104 : q_okM (13, 104, 2, true, M_X5_init) := ⟨fun h => absurd h (by decide), fun _ => ⟨rfl, (List.mem_of_getElem? (i := 424) (by decide +kernel))⟩, kY_X5_init⟩
theorem kM_13_105 : q_okM (13, 105, 0, false, M_X10_hasRoom) := ⟨fun _ => (List.mem_of_getElem? (i := 516) (by decide +kernel)), fun h => absurd h (by decide), kY_X10_hasRoom⟩
theorem kM_13_109 : q_okM (13, 109, 0, false, M_X10_append) := ⟨fun _ => (List.mem_of_getElem? (i := 520) (by decide +kernel)), fun h => absurd h (by decide), kY_X10_append⟩
theorem kM_13_116 : q_okM (13, 116, 1, false, M_X12_within) := ⟨fun _ => (List.mem_of_getElem? (i := 528) (by decide +kernel)), fun h => absurd h (by decide), kY_X12_within⟩
theorem kM_13_120 : q_okM (13, 120, 1, false, M_X12_need) := ⟨fun _ => (List.mem_of_getElem? (i := 627) (by decide +kernel)), fun h => absurd h (by decide), kY_X12_need⟩
theorem kM_13_127 : q_okM (13, 127, 1, false, M_X12_needRoom) := ⟨fun _ => (List.mem_of_getElem? (i := 699) (by decide +kernel)), fun h => absurd h (by decide), kY_X12_needRoom⟩
theorem kM_13_131 : q_okM (13, 131, 0, false, M_X3_begin) := ⟨fun _ => (List.mem_of_getElem? (i := 718) (by decide +kernel)), fun h => absurd h (by decide), kY_X3_begin⟩
theorem kM_13_135 : q_okM (13, 135, 0, false, M_X10_open) := ⟨fun _ => (List.mem_of_getElem? (i := 729) (by decide +kernel)), fun h => absurd h (by decide), kY_X10_open⟩
theorem kM_13_138 : q_okM (13, 138, 0, false, M_X8_read) := ⟨fun _ => (List.mem_of_getElem? (i := 733) (by decide +kernel)), fun h => absurd h (by decide), kY_X8_read⟩
theorem kM_13_146 : q_okM (13, 146, 1, false, M_X12_needIndex) := ⟨fun _ => (List.mem_of_getElem? (i := 833) (by decide +kernel)), fun h => absurd h (by decide), kY_X12_needIndex⟩
theorem kM_13_149 : q_okM (13, 149, 1, false, M_X12_needWhat) := ⟨fun _ => (List.mem_of_getElem? (i := 852) (by decide +kernel)), fun h => absurd h (by decide), kY_X12_needWhat⟩
theorem kM_13_152 : q_okM (13, 152, 0, false, M_X12_tryRecipe) := ⟨fun _ => (List.mem_of_getElem? (i := 871) (by decide +kernel)), fun h => absurd h (by decide), kY_X12_tryRecipe⟩
theorem kM_13_155 : q_okM (13, 155, 0, false, M_X3_part) := ⟨fun _ => (List.mem_of_getElem? (i := 893) (by decide +kernel)), fun h => absurd h (by decide), kY_X3_part⟩
theorem kM_13_159 : q_okM (13, 159, 0, false, M_X8_price) := ⟨fun _ => (List.mem_of_getElem? (i := 539) (by decide +kernel)), fun h => absurd h (by decide), kY_X8_price⟩
theorem kM_13_163 : q_okM (13, 163, 1, false, M_X12_needWish) := ⟨fun _ => (List.mem_of_getElem? (i := 904) (by decide +kernel)), fun h => absurd h (by decide), kY_X12_needWish⟩
theorem kM_13_166 : q_okM (13, 166, 0, false, M_X3_surelyMeets) := ⟨fun _ => (List.mem_of_getElem? (i := 907) (by decide +kernel)), fun h => absurd h (by decide), kY_X3_surelyMeets⟩
theorem kM_13_169 : q_okM (13, 169, 0, false, M_X12_searchFor) := ⟨fun _ => (List.mem_of_getElem? (i := 918) (by decide +kernel)), fun h => absurd h (by decide), kY_X12_searchFor⟩
theorem kM_13_176 : q_okM (13, 176, 0, false, M_X9_bestBath) := ⟨fun _ => (List.mem_of_getElem? (i := 955) (by decide +kernel)), fun h => absurd h (by decide), kY_X9_bestBath⟩
theorem kM_13_179 : q_okM (13, 179, 0, false, M_X2_tell) := ⟨fun _ => (List.mem_of_getElem? (i := 966) (by decide +kernel)), fun h => absurd h (by decide), kY_X2_tell⟩
theorem kM_13_182 : q_okM (13, 182, 0, false, M_X2_addBatch) := ⟨fun _ => (List.mem_of_getElem? (i := 977) (by decide +kernel)), fun h => absurd h (by decide), kY_X2_addBatch⟩
theorem kM_13_185 : q_okM (13, 185, 0, false, M_X2_leastSum) := ⟨fun _ => (List.mem_of_getElem? (i := 550) (by decide +kernel)), fun h => absurd h (by decide), kY_X2_leastSum⟩
theorem kM_13_194 : q_okM (13, 194, 0, false, M_X11_add) := ⟨fun _ => (List.mem_of_getElem? (i := 988) (by decide +kernel)), fun h => absurd h (by decide), kY_X11_add⟩
theorem kM_13_200 : q_okM (13, 200, 0, false, M_X11_takeOut) := ⟨fun _ => (List.mem_of_getElem? (i := 999) (by decide +kernel)), fun h => absurd h (by decide), kY_X11_takeOut⟩
theorem kM_13_208 : q_okM (13, 208, 0, false, M_X11_putIn) := ⟨fun _ => (List.mem_of_getElem? (i := 1024) (by decide +kernel)), fun h => absurd h (by decide), kY_X11_putIn⟩
theorem kM_13_212 : q_okM (13, 212, 0, false, M_X11_part) := ⟨fun _ => (List.mem_of_getElem? (i := 1040) (by decide +kernel)), fun h => absurd h (by decide), kY_X11_part⟩
theorem kM_13_214 : q_okM (13, 214, 0, false, M_X0_add) := ⟨fun _ => (List.mem_of_getElem? (i := 1051) (by decide +kernel)), fun h => absurd h (by decide), kY_X0_add⟩
theorem kM_13_215 : q_okM (13, 215, 0, false, M_X0_leastSpread) := ⟨fun _ => (List.mem_of_getElem? (i := 1062) (by decide +kernel)), fun h => absurd h (by decide), kY_X0_leastSpread⟩
theorem kM_13_218 : q_okM (13, 218, 0, false, M_X0_fullPacks) := ⟨fun _ => (List.mem_of_getElem? (i := 1077) (by decide +kernel)), fun h => absurd h (by decide), kY_X0_fullPacks⟩
theorem kM_13_224 : q_okM (13, 224, 0, false, M_X1_read) := ⟨fun _ => (List.mem_of_getElem? (i := 1088) (by decide +kernel)), fun h => absurd h (by decide), kY_X1_read⟩
theorem kM_13_228 : q_okM (13, 228, 0, false, M_X1_value) := ⟨fun _ => (List.mem_of_getElem? (i := 1127) (by decide +kernel)), fun h => absurd h (by decide), kY_X1_value⟩
theorem kM_13_241 : q_okM (13, 241, 2, false, M_X4_init) := ⟨fun _ => (List.mem_of_getElem? (i := 1146) (by decide +kernel)), fun h => absurd h (by decide), kY_X4_init⟩
theorem kM_13_243 : q_okM (13, 243, 0, false, M_X4_wishFor) := ⟨fun _ => (List.mem_of_getElem? (i := 1223) (by decide +kernel)), fun h => absurd h (by decide), kY_X4_wishFor⟩
theorem kM_13_247 : q_okM (13, 247, 0, false, M_X8_copy) := ⟨fun _ => (List.mem_of_getElem? (i := 1227) (by decide +kernel)), fun h => absurd h (by decide), kY_X8_copy⟩
theorem kM_13_254 : q_okM (13, 254, 0, false, M_X3_copy) := ⟨fun _ => (List.mem_of_getElem? (i := 875) (by decide +kernel)), fun h => absurd h (by decide), kY_X3_copy⟩
theorem kM_13_257 : q_okM (13, 257, 0, false, M_X12_addLot) := ⟨fun _ => (List.mem_of_getElem? (i := 1231) (by decide +kernel)), fun h => absurd h (by decide), kY_X12_addLot⟩
theorem kM_13_261 : q_okM (13, 261, 0, false, M_X12_lotAt) := ⟨fun _ => (List.mem_of_getElem? (i := 1303) (by decide +kernel)), fun h => absurd h (by decide), kY_X12_lotAt⟩
theorem kM_13_271 : q_okM (13, 271, 0, false, M_X5_enqueue) := ⟨fun _ => (List.mem_of_getElem? (i := 1307) (by decide +kernel)), fun h => absurd h (by decide), kY_X5_enqueue⟩
theorem kM_13_280 : q_okM (13, 280, 0, false, M_X12_workDay) := ⟨fun _ => (List.mem_of_getElem? (i := 1318) (by decide +kernel)), fun h => absurd h (by decide), kY_X12_workDay⟩
theorem kM_13_293 : q_okM (13, 293, 0, false, M_X4_countPlaced) := ⟨fun _ => (List.mem_of_getElem? (i := 1370) (by decide +kernel)), fun h => absurd h (by decide), kY_X4_countPlaced⟩
theorem kM_13_320 : q_okM (13, 320, 1, false, M_X12_needWashed) := ⟨fun _ => (List.mem_of_getElem? (i := 1389) (by decide +kernel)), fun h => absurd h (by decide), kY_X12_needWashed⟩
theorem kM_13_328 : q_okM (13, 328, 0, false, M_X6_tell) := ⟨fun _ => (List.mem_of_getElem? (i := 1408) (by decide +kernel)), fun h => absurd h (by decide), kY_X6_tell⟩
theorem kM_13_339 : q_okM (13, 339, 0, false, M_X12_judged) := ⟨fun _ => (List.mem_of_getElem? (i := 1419) (by decide +kernel)), fun h => absurd h (by decide), kY_X12_judged⟩
theorem kM_13_343 : q_okM (13, 343, 0, false, M_X4_isStillHere) := ⟨fun _ => (List.mem_of_getElem? (i := 1438) (by decide +kernel)), fun h => absurd h (by decide), kY_X4_isStillHere⟩
theorem kM_13_347 : q_okM (13, 347, 0, false, M_X12_sorted) := ⟨fun _ => (List.mem_of_getElem? (i := 1449) (by decide +kernel)), fun h => absurd h (by decide), kY_X12_sorted⟩
theorem kM_13_359 : q_okM (13, 359, 0, false, M_X8_setOnly) := ⟨fun _ => (List.mem_of_getElem? (i := 1450) (by decide +kernel)), fun h => absurd h (by decide), kY_X8_setOnly⟩
theorem kM_13_362 : q_okM (13, 362, 0, false, M_X12_moveDark) := ⟨fun _ => (List.mem_of_getElem? (i := 1454) (by decide +kernel)), fun h => absurd h (by decide), kY_X12_moveDark⟩
theorem kM_13_366 : q_okM (13, 366, 0, false, M_X12_findPacks) := ⟨fun _ => (List.mem_of_getElem? (i := 1466) (by decide +kernel)), fun h => absurd h (by decide), kY_X12_findPacks⟩
theorem kM_13_369 : q_okM (13, 369, 0, false, M_X6_packBegin) := ⟨fun _ => (List.mem_of_getElem? (i := 1495) (by decide +kernel)), fun h => absurd h (by decide), kY_X6_packBegin⟩
theorem kM_13_372 : q_okM (13, 372, 0, false, M_X12_deliverPack) := ⟨fun _ => (List.mem_of_getElem? (i := 1499) (by decide +kernel)), fun h => absurd h (by decide), kY_X12_deliverPack⟩
theorem kM_13_381 : q_okM (13, 381, 0, false, M_X7_beginPattern) := ⟨fun _ => (List.mem_of_getElem? (i := 1529) (by decide +kernel)), fun h => absurd h (by decide), kY_X7_beginPattern⟩
theorem kM_13_390 : q_okM (13, 390, 0, false, M_X7_setHeat) := ⟨fun _ => (List.mem_of_getElem? (i := 1541) (by decide +kernel)), fun h => absurd h (by decide), kY_X7_setHeat⟩
theorem kM_13_393 : q_okM (13, 393, 0, false, M_X7_burnOne) := ⟨fun _ => (List.mem_of_getElem? (i := 1552) (by decide +kernel)), fun h => absurd h (by decide), kY_X7_burnOne⟩
theorem kM_13_400 : q_okM (13, 400, 0, false, M_X7_unlike) := ⟨fun _ => (List.mem_of_getElem? (i := 1578) (by decide +kernel)), fun h => absurd h (by decide), kY_X7_unlike⟩
theorem kM_13_403 : q_okM (13, 403, 0, false, M_X7_bestTurn) := ⟨fun _ => (List.mem_of_getElem? (i := 579) (by decide +kernel)), fun h => absurd h (by decide), kY_X7_bestTurn⟩
theorem kM_13_412 : q_okM (13, 412, 0, false, M_X11_dirtInTanks) := ⟨fun _ => (List.mem_of_getElem? (i := 591) (by decide +kernel)), fun h => absurd h (by decide), kY_X11_dirtInTanks⟩
theorem kM_13_418 : q_okM (13, 418, 0, false, M_X12_countWashed) := ⟨fun _ => (List.mem_of_getElem? (i := 599) (by decide +kernel)), fun h => absurd h (by decide), kY_X12_countWashed⟩
theorem kM_13_467 : q_okM (13, 467, 0, false, M_X3_take) := ⟨fun _ => (List.mem_of_getElem? (i := 880) (by decide +kernel)), fun h => absurd h (by decide), kY_X3_take⟩
theorem kM_13_470 : q_okM (13, 470, 0, false, M_X9_wishFor) := ⟨fun _ => (List.mem_of_getElem? (i := 922) (by decide +kernel)), fun h => absurd h (by decide), kY_X9_wishFor⟩
theorem kM_13_471 : q_okM (13, 471, 0, false, M_X9_run) := ⟨fun _ => (List.mem_of_getElem? (i := 926) (by decide +kernel)), fun h => absurd h (by decide), kY_X9_run⟩
theorem kM_13_475 : q_okM (13, 475, 0, false, M_X12_takeNext) := ⟨fun _ => (List.mem_of_getElem? (i := 1322) (by decide +kernel)), fun h => absurd h (by decide), kY_X12_takeNext⟩
theorem kM_13_479 : q_okM (13, 479, 0, false, M_X12_doNextBath) := ⟨fun _ => (List.mem_of_getElem? (i := 1343) (by decide +kernel)), fun h => absurd h (by decide), kY_X12_doNextBath⟩
theorem kM_13_482 : q_okM (13, 482, 0, false, M_X12_firstNotBarred) := ⟨fun _ => (List.mem_of_getElem? (i := 1326) (by decide +kernel)), fun h => absurd h (by decide), kY_X12_firstNotBarred⟩
theorem kM_13_489 : q_okM (13, 489, 0, false, M_X2_between) := ⟨fun _ => (List.mem_of_getElem? (i := 1330) (by decide +kernel)), fun h => absurd h (by decide), kY_X2_between⟩
theorem kM_13_492 : q_okM (13, 492, 0, false, M_X5_takeIn) := ⟨fun _ => (List.mem_of_getElem? (i := 1331) (by decide +kernel)), fun h => absurd h (by decide), kY_X5_takeIn⟩
theorem kM_13_495 : q_okM (13, 495, 0, false, M_X11_washOut) := ⟨fun _ => (List.mem_of_getElem? (i := 1335) (by decide +kernel)), fun h => absurd h (by decide), kY_X11_washOut⟩
theorem kM_13_498 : q_okM (13, 498, 0, false, M_X12_finishIfNoneLeft) := ⟨fun _ => (List.mem_of_getElem? (i := 1339) (by decide +kernel)), fun h => absurd h (by decide), kY_X12_finishIfNoneLeft⟩
theorem kM_13_502 : q_okM (13, 502, 0, false, M_X8_bathAt) := ⟨fun _ => (List.mem_of_getElem? (i := 1347) (by decide +kernel)), fun h => absurd h (by decide), kY_X8_bathAt⟩
theorem kM_13_505 : q_okM (13, 505, 0, false, M_X8_amountAt) := ⟨fun _ => (List.mem_of_getElem? (i := 1351) (by decide +kernel)), fun h => absurd h (by decide), kY_X8_amountAt⟩
theorem kM_13_508 : q_okM (13, 508, 1, false, M_X8_soil) := ⟨fun _ => (List.mem_of_getElem? (i := 1355) (by decide +kernel)), fun h => absurd h (by decide), kY_X8_soil⟩
theorem kM_13_511 : q_okM (13, 511, 0, false, M_X11_giveBack) := ⟨fun _ => (List.mem_of_getElem? (i := 1358) (by decide +kernel)), fun h => absurd h (by decide), kY_X11_giveBack⟩
theorem kM_13_514 : q_okM (13, 514, 0, false, M_X6_shadeOn) := ⟨fun _ => (List.mem_of_getElem? (i := 1423) (by decide +kernel)), fun h => absurd h (by decide), kY_X6_shadeOn⟩
theorem kM_13_517 : q_okM (13, 517, 0, false, M_X4_judge) := ⟨fun _ => (List.mem_of_getElem? (i := 1427) (by decide +kernel)), fun h => absurd h (by decide), kY_X4_judge⟩
theorem kM_13_526 : q_okM (13, 526, 0, false, M_X6_gatherNone) := ⟨fun _ => (List.mem_of_getElem? (i := 1470) (by decide +kernel)), fun h => absurd h (by decide), kY_X6_gatherNone⟩
theorem kM_13_529 : q_okM (13, 529, 0, false, M_X12_gatherGood) := ⟨fun _ => (List.mem_of_getElem? (i := 1474) (by decide +kernel)), fun h => absurd h (by decide), kY_X12_gatherGood⟩
theorem kM_13_533 : q_okM (13, 533, 0, false, M_X6_formPacks) := ⟨fun _ => (List.mem_of_getElem? (i := 1482) (by decide +kernel)), fun h => absurd h (by decide), kY_X6_formPacks⟩
theorem kM_13_536 : q_okM (13, 536, 0, false, M_X6_gather) := ⟨fun _ => (List.mem_of_getElem? (i := 1478) (by decide +kernel)), fun h => absurd h (by decide), kY_X6_gather⟩
theorem kM_13_539 : q_okM (13, 539, 0, false, M_X6_lotOf) := ⟨fun _ => (List.mem_of_getElem? (i := 1503) (by decide +kernel)), fun h => absurd h (by decide), kY_X6_lotOf⟩
theorem kM_13_542 : q_okM (13, 542, 0, false, M_X6_pieceOf) := ⟨fun _ => (List.mem_of_getElem? (i := 1507) (by decide +kernel)), fun h => absurd h (by decide), kY_X6_pieceOf⟩
theorem kM_13_545 : q_okM (13, 545, 0, false, M_X4_setDelivered) := ⟨fun _ => (List.mem_of_getElem? (i := 1511) (by decide +kernel)), fun h => absurd h (by decide), kY_X4_setDelivered⟩
theorem kM_14_171 : q_okM (14, 171, 0, false, M_X13_isAt) := ⟨fun _ => (List.mem_of_getElem? (i := 1854) (by decide +kernel)), fun h => absurd h (by decide), kY_X13_isAt⟩
theorem kM_14_178 : q_okM (14, 178, 0, false, M_X13_blanks) := ⟨fun _ => (List.mem_of_getElem? (i := 1850) (by decide +kernel)), fun h => absurd h (by decide), kY_X13_blanks⟩
theorem kM_14_193 : q_okM (14, 193, 0, false, M_X13_isWord) := ⟨fun _ => (List.mem_of_getElem? (i := 1871) (by decide +kernel)), fun h => absurd h (by decide), kY_X13_isWord⟩
theorem kM_14_203 : q_okM (14, 203, 0, false, M_X13_word) := ⟨fun _ => (List.mem_of_getElem? (i := 1862) (by decide +kernel)), fun h => absurd h (by decide), kY_X13_word⟩
theorem kM_14_206 : q_okM (14, 206, 0, false, M_X13_bathOf) := ⟨fun _ => (List.mem_of_getElem? (i := 1866) (by decide +kernel)), fun h => absurd h (by decide), kY_X13_bathOf⟩
theorem kM_14_209 : q_okM (14, 209, 0, false, M_X13_readBath) := ⟨fun _ => (List.mem_of_getElem? (i := 1858) (by decide +kernel)), fun h => absurd h (by decide), kY_X13_readBath⟩
theorem kM_14_212 : q_okM (14, 212, 0, false, M_X13_number) := ⟨fun _ => (List.mem_of_getElem? (i := 1880) (by decide +kernel)), fun h => absurd h (by decide), kY_X13_number⟩
theorem kM_14_216 : q_okM (14, 216, 0, false, M_X13_uses) := ⟨fun _ => (List.mem_of_getElem? (i := 1842) (by decide +kernel)), fun h => absurd h (by decide), kY_X13_uses⟩
theorem kM_14_219 : q_okM (14, 219, 0, false, M_X13_readRecipe) := ⟨fun _ => (List.mem_of_getElem? (i := 1846) (by decide +kernel)), fun h => absurd h (by decide), kY_X13_readRecipe⟩
theorem kM_14_223 : q_okM (14, 223, 0, false, M_X13_throwsIf) := ⟨fun _ => (List.mem_of_getElem? (i := 1884) (by decide +kernel)), fun h => absurd h (by decide), kY_X13_throwsIf⟩
theorem kM_14_227 : q_okM (14, 227, 0, false, M_X13_copies) := ⟨fun _ => (List.mem_of_getElem? (i := 1888) (by decide +kernel)), fun h => absurd h (by decide), kY_X13_copies⟩
theorem kM_14_234 : q_okM (14, 234, 1, false, M_X13_in) := ⟨fun _ => (List.mem_of_getElem? (i := 1900) (by decide +kernel)), fun h => absurd h (by decide), kY_X13_in⟩
theorem kM_14_244 : q_okM (14, 244, 0, false, M_X13_less) := ⟨fun _ => (List.mem_of_getElem? (i := 1923) (by decide +kernel)), fun h => absurd h (by decide), kY_X13_less⟩
theorem kM_14_248 : q_okM (14, 248, 0, false, M_X13_begins) := ⟨fun _ => (List.mem_of_getElem? (i := 1915) (by decide +kernel)), fun h => absurd h (by decide), kY_X13_begins⟩
theorem kM_14_251 : q_okM (14, 251, 0, false, M_X13_does) := ⟨fun _ => (List.mem_of_getElem? (i := 1919) (by decide +kernel)), fun h => absurd h (by decide), kY_X13_does⟩
theorem kM_14_255 : q_okM (14, 255, 0, false, M_X13_noCloth) := ⟨fun _ => (List.mem_of_getElem? (i := 1907) (by decide +kernel)), fun h => absurd h (by decide), kY_X13_noCloth⟩
theorem kM_14_259 : q_okM (14, 259, 0, false, M_X13_tries) := ⟨fun _ => (List.mem_of_getElem? (i := 1911) (by decide +kernel)), fun h => absurd h (by decide), kY_X13_tries⟩
theorem kM_14_262 : q_okM (14, 262, 1, false, M_X13_costOf) := ⟨fun _ => (List.mem_of_getElem? (i := 1932) (by decide +kernel)), fun h => absurd h (by decide), kY_X13_costOf⟩
theorem kM_14_265 : q_okM (14, 265, 1, false, M_X13_noWish) := ⟨fun _ => (List.mem_of_getElem? (i := 1939) (by decide +kernel)), fun h => absurd h (by decide), kY_X13_noWish⟩
theorem kM_14_268 : q_okM (14, 268, 0, false, M_X13_meetsIt) := ⟨fun _ => (List.mem_of_getElem? (i := 1942) (by decide +kernel)), fun h => absurd h (by decide), kY_X13_meetsIt⟩
theorem kM_14_287 : q_okM (14, 287, 1, false, M_X13_usual) := ⟨fun _ => (List.mem_of_getElem? (i := 1958) (by decide +kernel)), fun h => absurd h (by decide), kY_X13_usual⟩
theorem kM_14_291 : q_okM (14, 291, 0, false, M_X13_seeks) := ⟨fun _ => (List.mem_of_getElem? (i := 1954) (by decide +kernel)), fun h => absurd h (by decide), kY_X13_seeks⟩
theorem kM_14_294 : q_okM (14, 294, 0, false, M_X13_cheapestOf) := ⟨fun _ => (List.mem_of_getElem? (i := 1950) (by decide +kernel)), fun h => absurd h (by decide), kY_X13_cheapestOf⟩
theorem kM_14_298 : q_okM (14, 298, 1, false, M_X13_noKind) := ⟨fun _ => (List.mem_of_getElem? (i := 1969) (by decide +kernel)), fun h => absurd h (by decide), kY_X13_noKind⟩
theorem kM_14_319 : q_okM (14, 319, 0, false, M_X13_dirtiest) := ⟨fun _ => (List.mem_of_getElem? (i := 1998) (by decide +kernel)), fun h => absurd h (by decide), kY_X13_dirtiest⟩
theorem kM_14_334 : q_okM (14, 334, 0, false, M_X13_draws) := ⟨fun _ => (List.mem_of_getElem? (i := 1994) (by decide +kernel)), fun h => absurd h (by decide), kY_X13_draws⟩
theorem kM_14_341 : q_okM (14, 341, 0, false, M_X13_pours) := ⟨fun _ => (List.mem_of_getElem? (i := 2008) (by decide +kernel)), fun h => absurd h (by decide), kY_X13_pours⟩
theorem kM_14_347 : q_okM (14, 347, 0, false, M_X13_sortsFor) := ⟨fun _ => (List.mem_of_getElem? (i := 2024) (by decide +kernel)), fun h => absurd h (by decide), kY_X13_sortsFor⟩
theorem kM_14_354 : q_okM (14, 354, 0, false, M_X13_sets) := ⟨fun _ => (List.mem_of_getElem? (i := 2049) (by decide +kernel)), fun h => absurd h (by decide), kY_X13_sets⟩
theorem kM_14_365 : q_okM (14, 365, 0, false, M_X13_readPours) := ⟨fun _ => (List.mem_of_getElem? (i := 2055) (by decide +kernel)), fun h => absurd h (by decide), kY_X13_readPours⟩
theorem kM_14_372 : q_okM (14, 372, 0, false, M_X13_readAgain) := ⟨fun _ => (List.mem_of_getElem? (i := 2063) (by decide +kernel)), fun h => absurd h (by decide), kY_X13_readAgain⟩
theorem kM_14_379 : q_okM (14, 379, 0, false, M_X13_asAtFirst) := ⟨fun _ => (List.mem_of_getElem? (i := 2040) (by decide +kernel)), fun h => absurd h (by decide), kY_X13_asAtFirst⟩
theorem kM_14_382 : q_okM (14, 382, 0, false, M_X13_readRule) := ⟨fun _ => (List.mem_of_getElem? (i := 2044) (by decide +kernel)), fun h => absurd h (by decide), kY_X13_readRule⟩
theorem kM_14_385 : q_okM (14, 385, 0, false, M_X13_readHouse) := ⟨fun _ => (List.mem_of_getElem? (i := 2036) (by decide +kernel)), fun h => absurd h (by decide), kY_X13_readHouse⟩
theorem kM_14_397 : q_okM (14, 397, 0, false, M_X13_adds) := ⟨fun _ => (List.mem_of_getElem? (i := 2083) (by decide +kernel)), fun h => absurd h (by decide), kY_X13_adds⟩
theorem kM_14_401 : q_okM (14, 401, 0, false, M_X13_noLot) := ⟨fun _ => (List.mem_of_getElem? (i := 2091) (by decide +kernel)), fun h => absurd h (by decide), kY_X13_noLot⟩
theorem kM_14_404 : q_okM (14, 404, 0, false, M_X13_noMachine) := ⟨fun _ => (List.mem_of_getElem? (i := 2095) (by decide +kernel)), fun h => absurd h (by decide), kY_X13_noMachine⟩
theorem kM_14_413 : q_okM (14, 413, 0, false, M_X13_bathes) := ⟨fun _ => (List.mem_of_getElem? (i := 2107) (by decide +kernel)), fun h => absurd h (by decide), kY_X13_bathes⟩
theorem kM_14_417 : q_okM (14, 417, 0, false, M_X13_washes) := ⟨fun _ => (List.mem_of_getElem? (i := 2111) (by decide +kernel)), fun h => absurd h (by decide), kY_X13_washes⟩
theorem kM_14_420 : q_okM (14, 420, 0, false, M_X13_nextFor) := ⟨fun _ => (List.mem_of_getElem? (i := 2115) (by decide +kernel)), fun h => absurd h (by decide), kY_X13_nextFor⟩
theorem kM_14_423 : q_okM (14, 423, 0, false, M_X13_step) := ⟨fun _ => (List.mem_of_getElem? (i := 2103) (by decide +kernel)), fun h => absurd h (by decide), kY_X13_step⟩
theorem kM_14_426 : q_okM (14, 426, 0, false, M_X13_piecesOf) := ⟨fun _ => (List.mem_of_getElem? (i := 2123) (by decide +kernel)), fun h => absurd h (by decide), kY_X13_piecesOf⟩
theorem kM_14_429 : q_okM (14, 429, 0, false, M_X13_noPiece) := ⟨fun _ => (List.mem_of_getElem? (i := 2135) (by decide +kernel)), fun h => absurd h (by decide), kY_X13_noPiece⟩
theorem kM_14_438 : q_okM (14, 438, 0, false, M_X13_shadeOf) := ⟨fun _ => (List.mem_of_getElem? (i := 2147) (by decide +kernel)), fun h => absurd h (by decide), kY_X13_shadeOf⟩
theorem kM_14_441 : q_okM (14, 441, 0, false, M_X13_knownOf) := ⟨fun _ => (List.mem_of_getElem? (i := 2143) (by decide +kernel)), fun h => absurd h (by decide), kY_X13_knownOf⟩
theorem kM_14_444 : q_okM (14, 444, 0, false, M_X13_sortedOf) := ⟨fun _ => (List.mem_of_getElem? (i := 2155) (by decide +kernel)), fun h => absurd h (by decide), kY_X13_sortedOf⟩
theorem kM_14_453 : q_okM (14, 453, 0, false, M_X13_gathers) := ⟨fun _ => (List.mem_of_getElem? (i := 2167) (by decide +kernel)), fun h => absurd h (by decide), kY_X13_gathers⟩
theorem kM_14_456 : q_okM (14, 456, 0, false, M_X13_packsOf) := ⟨fun _ => (List.mem_of_getElem? (i := 2171) (by decide +kernel)), fun h => absurd h (by decide), kY_X13_packsOf⟩
theorem kM_14_465 : q_okM (14, 465, 0, false, M_X13_seamOf) := ⟨fun _ => (List.mem_of_getElem? (i := 2200) (by decide +kernel)), fun h => absurd h (by decide), kY_X13_seamOf⟩
theorem kM_20_7 : q_okM (20, 7, 0, false, M_X12_cloth) := ⟨fun _ => (List.mem_of_getElem? (i := 623) (by decide +kernel)), fun h => absurd h (by decide), kY_X12_cloth⟩
theorem kM_20_17 : q_okM (20, 17, 0, false, M_X12_recipe) := ⟨fun _ => (List.mem_of_getElem? (i := 725) (by decide +kernel)), fun h => absurd h (by decide), kY_X12_recipe⟩
theorem kM_20_21 : q_okM (20, 21, 0, false, M_X12_look) := ⟨fun _ => (List.mem_of_getElem? (i := 829) (by decide +kernel)), fun h => absurd h (by decide), kY_X12_look⟩
theorem kM_20_28 : q_okM (20, 28, 0, false, M_X12_meets) := ⟨fun _ => (List.mem_of_getElem? (i := 900) (by decide +kernel)), fun h => absurd h (by decide), kY_X12_meets⟩
theorem kM_20_32 : q_okM (20, 32, 0, false, M_X12_cheapest) := ⟨fun _ => (List.mem_of_getElem? (i := 914) (by decide +kernel)), fun h => absurd h (by decide), kY_X12_cheapest⟩
theorem kM_20_36 : q_okM (20, 36, 0, false, M_X12_bath) := ⟨fun _ => (List.mem_of_getElem? (i := 951) (by decide +kernel)), fun h => absurd h (by decide), kY_X12_bath⟩
theorem kM_20_40 : q_okM (20, 40, 0, false, M_X12_carry) := ⟨fun _ => (List.mem_of_getElem? (i := 962) (by decide +kernel)), fun h => absurd h (by decide), kY_X12_carry⟩
theorem kM_20_44 : q_okM (20, 44, 0, false, M_X12_batch) := ⟨fun _ => (List.mem_of_getElem? (i := 973) (by decide +kernel)), fun h => absurd h (by decide), kY_X12_batch⟩
theorem kM_20_48 : q_okM (20, 48, 0, false, M_X12_tank) := ⟨fun _ => (List.mem_of_getElem? (i := 984) (by decide +kernel)), fun h => absurd h (by decide), kY_X12_tank⟩
theorem kM_20_51 : q_okM (20, 51, 0, false, M_X12_draw) := ⟨fun _ => (List.mem_of_getElem? (i := 995) (by decide +kernel)), fun h => absurd h (by decide), kY_X12_draw⟩
theorem kM_20_55 : q_okM (20, 55, 0, false, M_X12_pour) := ⟨fun _ => (List.mem_of_getElem? (i := 1019) (by decide +kernel)), fun h => absurd h (by decide), kY_X12_pour⟩
theorem kM_20_58 : q_okM (20, 58, 0, false, M_X12_has) := ⟨fun _ => (List.mem_of_getElem? (i := 1036) (by decide +kernel)), fun h => absurd h (by decide), kY_X12_has⟩
theorem kM_20_61 : q_okM (20, 61, 0, false, M_X12_garment) := ⟨fun _ => (List.mem_of_getElem? (i := 1047) (by decide +kernel)), fun h => absurd h (by decide), kY_X12_garment⟩
theorem kM_20_64 : q_okM (20, 64, 0, false, M_X12_spread) := ⟨fun _ => (List.mem_of_getElem? (i := 1058) (by decide +kernel)), fun h => absurd h (by decide), kY_X12_spread⟩
theorem kM_20_67 : q_okM (20, 67, 0, false, M_X12_packs) := ⟨fun _ => (List.mem_of_getElem? (i := 1073) (by decide +kernel)), fun h => absurd h (by decide), kY_X12_packs⟩
theorem kM_20_71 : q_okM (20, 71, 0, false, M_X12_house) := ⟨fun _ => (List.mem_of_getElem? (i := 1084) (by decide +kernel)), fun h => absurd h (by decide), kY_X12_house⟩
theorem kM_20_74 : q_okM (20, 74, 0, false, M_X12_tells) := ⟨fun _ => (List.mem_of_getElem? (i := 1123) (by decide +kernel)), fun h => absurd h (by decide), kY_X12_tells⟩
theorem kM_20_77 : q_okM (20, 77, 0, false, M_X12_machine) := ⟨fun _ => (List.mem_of_getElem? (i := 1134) (by decide +kernel)), fun h => absurd h (by decide), kY_X12_machine⟩
theorem kM_20_80 : q_okM (20, 80, 0, false, M_X12_lot) := ⟨fun _ => (List.mem_of_getElem? (i := 1141) (by decide +kernel)), fun h => absurd h (by decide), kY_X12_lot⟩
theorem kM_20_84 : q_okM (20, 84, 0, false, M_X12_load) := ⟨fun _ => (List.mem_of_getElem? (i := 1299) (by decide +kernel)), fun h => absurd h (by decide), kY_X12_load⟩
theorem kM_20_88 : q_okM (20, 88, 0, false, M_X12_days) := ⟨fun _ => (List.mem_of_getElem? (i := 1314) (by decide +kernel)), fun h => absurd h (by decide), kY_X12_days⟩
theorem kM_20_91 : q_okM (20, 91, 0, false, M_X12_led) := ⟨fun _ => (List.mem_of_getElem? (i := 1366) (by decide +kernel)), fun h => absurd h (by decide), kY_X12_led⟩
theorem kM_20_94 : q_okM (20, 94, 0, false, M_X12_works) := ⟨fun _ => (List.mem_of_getElem? (i := 1377) (by decide +kernel)), fun h => absurd h (by decide), kY_X12_works⟩
theorem kM_20_97 : q_okM (20, 97, 0, false, M_X12_measure) := ⟨fun _ => (List.mem_of_getElem? (i := 1385) (by decide +kernel)), fun h => absurd h (by decide), kY_X12_measure⟩
theorem kM_20_102 : q_okM (20, 102, 0, false, M_X12_known) := ⟨fun _ => (List.mem_of_getElem? (i := 1415) (by decide +kernel)), fun h => absurd h (by decide), kY_X12_known⟩
theorem kM_20_105 : q_okM (20, 105, 0, false, M_X12_sorted) := ⟨fun _ => (List.mem_of_getElem? (i := 1434) (by decide +kernel)), fun h => absurd h (by decide), kY_X12_sorted⟩
theorem kM_20_108 : q_okM (20, 108, 0, false, M_X12_again) := ⟨fun _ => (List.mem_of_getElem? (i := 1445) (by decide +kernel)), fun h => absurd h (by decide), kY_X12_again⟩
theorem kM_20_111 : q_okM (20, 111, 0, false, M_X12_deliver) := ⟨fun _ => (List.mem_of_getElem? (i := 1462) (by decide +kernel)), fun h => absurd h (by decide), kY_X12_deliver⟩
theorem kM_20_114 : q_okM (20, 114, 0, false, M_X12_ready) := ⟨fun _ => (List.mem_of_getElem? (i := 1518) (by decide +kernel)), fun h => absurd h (by decide), kY_X12_ready⟩
theorem kM_20_117 : q_okM (20, 117, 0, false, M_X12_pattern) := ⟨fun _ => (List.mem_of_getElem? (i := 1525) (by decide +kernel)), fun h => absurd h (by decide), kY_X12_pattern⟩
theorem kM_20_121 : q_okM (20, 121, 0, false, M_X12_heat) := ⟨fun _ => (List.mem_of_getElem? (i := 1537) (by decide +kernel)), fun h => absurd h (by decide), kY_X12_heat⟩
theorem kM_20_125 : q_okM (20, 125, 0, false, M_X12_burn) := ⟨fun _ => (List.mem_of_getElem? (i := 1548) (by decide +kernel)), fun h => absurd h (by decide), kY_X12_burn⟩
theorem kM_20_128 : q_okM (20, 128, 0, false, M_X12_burned) := ⟨fun _ => (List.mem_of_getElem? (i := 1567) (by decide +kernel)), fun h => absurd h (by decide), kY_X12_burned⟩
theorem kM_20_131 : q_okM (20, 131, 0, false, M_X12_seam) := ⟨fun _ => (List.mem_of_getElem? (i := 1574) (by decide +kernel)), fun h => absurd h (by decide), kY_X12_seam⟩
theorem kM_20_134 : q_okM (20, 134, 2, false, M_X12_init) := ⟨fun _ => (List.mem_of_getElem? (i := 120) (by decide +kernel)), fun h => absurd h (by decide), kY_X12_init⟩
theorem kM_20_137 : q_okM (20, 137, 2, false, M_X13_init) := ⟨fun _ => (List.mem_of_getElem? (i := 1581) (by decide +kernel)), fun h => absurd h (by decide), kY_X13_init⟩
theorem kM_20_138 : q_okM (20, 138, 0, false, M_X12_feed) := ⟨fun _ => (List.mem_of_getElem? (i := 512) (by decide +kernel)), fun h => absurd h (by decide), kY_X12_feed⟩
theorem kM_20_141 : q_okM (20, 141, 0, false, M_X13_feed) := ⟨fun _ => (List.mem_of_getElem? (i := 1830) (by decide +kernel)), fun h => absurd h (by decide), kY_X13_feed⟩
theorem kM_20_142 : q_okM (20, 142, 0, false, M_X12_end) := ⟨fun _ => (List.mem_of_getElem? (i := 524) (by decide +kernel)), fun h => absurd h (by decide), kY_X12_end⟩
theorem kM_20_146 : q_okM (20, 146, 0, false, M_X13_end) := ⟨fun _ => (List.mem_of_getElem? (i := 1834) (by decide +kernel)), fun h => absurd h (by decide), kY_X13_end⟩
theorem kM_20_147 : q_okM (20, 147, 1, false, M_L_cloth) := ⟨fun _ => (List.mem_of_getElem? (i := 618) (by decide +kernel)), fun h => absurd h (by decide), kY_L_cloth⟩
theorem kM_20_152 : q_okM (20, 152, 0, false, M_X13_cloth) := ⟨fun _ => (List.mem_of_getElem? (i := 1896) (by decide +kernel)), fun h => absurd h (by decide), kY_X13_cloth⟩
theorem kM_20_153 : q_okM (20, 153, 0, false, M_X13_thrown) := ⟨fun _ => (List.mem_of_getElem? (i := 1826) (by decide +kernel)), fun h => absurd h (by decide), kY_X13_thrown⟩
theorem kM_20_156 : q_okM (20, 156, 1, false, M_L_recipe) := ⟨fun _ => (List.mem_of_getElem? (i := 722) (by decide +kernel)), fun h => absurd h (by decide), kY_L_recipe⟩
theorem kM_20_159 : q_okM (20, 159, 0, false, M_X13_recipe) := ⟨fun _ => (List.mem_of_getElem? (i := 1838) (by decide +kernel)), fun h => absurd h (by decide), kY_X13_recipe⟩
theorem kM_20_160 : q_okM (20, 160, 0, false, M_X12_fault) := ⟨fun _ => (List.mem_of_getElem? (i := 531) (by decide +kernel)), fun h => absurd h (by decide), kY_X12_fault⟩
theorem kM_20_163 : q_okM (20, 163, 0, false, M_X13_fault) := ⟨fun _ => (List.mem_of_getElem? (i := 1892) (by decide +kernel)), fun h => absurd h (by decide), kY_X13_fault⟩
theorem kM_20_164 : q_okM (20, 164, 1, false, M_L_look) := ⟨fun _ => (List.mem_of_getElem? (i := 824) (by decide +kernel)), fun h => absurd h (by decide), kY_L_look⟩
theorem kM_20_166 : q_okM (20, 166, 0, false, M_X13_look) := ⟨fun _ => (List.mem_of_getElem? (i := 1903) (by decide +kernel)), fun h => absurd h (by decide), kY_X13_look⟩
theorem kM_20_167 : q_okM (20, 167, 0, false, M_X12_cost) := ⟨fun _ => (List.mem_of_getElem? (i := 535) (by decide +kernel)), fun h => absurd h (by decide), kY_X12_cost⟩
theorem kM_20_170 : q_okM (20, 170, 0, false, M_X13_cost) := ⟨fun _ => (List.mem_of_getElem? (i := 1928) (by decide +kernel)), fun h => absurd h (by decide), kY_X13_cost⟩
theorem kM_20_171 : q_okM (20, 171, 1, false, M_L_meets) := ⟨fun _ => (List.mem_of_getElem? (i := 897) (by decide +kernel)), fun h => absurd h (by decide), kY_L_meets⟩
theorem kM_20_174 : q_okM (20, 174, 0, false, M_X13_meets) := ⟨fun _ => (List.mem_of_getElem? (i := 1935) (by decide +kernel)), fun h => absurd h (by decide), kY_X13_meets⟩
theorem kM_20_175 : q_okM (20, 175, 1, false, M_L_cheapest) := ⟨fun _ => (List.mem_of_getElem? (i := 911) (by decide +kernel)), fun h => absurd h (by decide), kY_L_cheapest⟩
theorem kM_20_178 : q_okM (20, 178, 0, false, M_X13_cheapest) := ⟨fun _ => (List.mem_of_getElem? (i := 1946) (by decide +kernel)), fun h => absurd h (by decide), kY_X13_cheapest⟩
theorem kM_20_179 : q_okM (20, 179, 1, false, M_L_bath) := ⟨fun _ => (List.mem_of_getElem? (i := 948) (by decide +kernel)), fun h => absurd h (by decide), kY_L_bath⟩
theorem kM_20_182 : q_okM (20, 182, 0, false, M_X13_bath) := ⟨fun _ => (List.mem_of_getElem? (i := 1961) (by decide +kernel)), fun h => absurd h (by decide), kY_X13_bath⟩
theorem kM_20_183 : q_okM (20, 183, 1, false, M_L_carry) := ⟨fun _ => (List.mem_of_getElem? (i := 959) (by decide +kernel)), fun h => absurd h (by decide), kY_L_carry⟩
theorem kM_20_186 : q_okM (20, 186, 0, false, M_X13_carry) := ⟨fun _ => (List.mem_of_getElem? (i := 1965) (by decide +kernel)), fun h => absurd h (by decide), kY_X13_carry⟩
theorem kM_20_187 : q_okM (20, 187, 1, false, M_L_batch) := ⟨fun _ => (List.mem_of_getElem? (i := 970) (by decide +kernel)), fun h => absurd h (by decide), kY_L_batch⟩
theorem kM_20_190 : q_okM (20, 190, 0, false, M_X13_batch) := ⟨fun _ => (List.mem_of_getElem? (i := 1972) (by decide +kernel)), fun h => absurd h (by decide), kY_X13_batch⟩
theorem kM_20_191 : q_okM (20, 191, 0, false, M_X12_order) := ⟨fun _ => (List.mem_of_getElem? (i := 546) (by decide +kernel)), fun h => absurd h (by decide), kY_X12_order⟩
theorem kM_20_194 : q_okM (20, 194, 0, false, M_X13_order) := ⟨fun _ => (List.mem_of_getElem? (i := 1976) (by decide +kernel)), fun h => absurd h (by decide), kY_X13_order⟩
theorem kM_20_195 : q_okM (20, 195, 0, false, M_X12_clear) := ⟨fun _ => (List.mem_of_getElem? (i := 571) (by decide +kernel)), fun h => absurd h (by decide), kY_X12_clear⟩
theorem kM_20_198 : q_okM (20, 198, 0, false, M_X13_clear) := ⟨fun _ => (List.mem_of_getElem? (i := 1982) (by decide +kernel)), fun h => absurd h (by decide), kY_X13_clear⟩
theorem kM_20_199 : q_okM (20, 199, 1, false, M_L_tank) := ⟨fun _ => (List.mem_of_getElem? (i := 981) (by decide +kernel)), fun h => absurd h (by decide), kY_L_tank⟩
theorem kM_20_201 : q_okM (20, 201, 0, false, M_X13_tank) := ⟨fun _ => (List.mem_of_getElem? (i := 1986) (by decide +kernel)), fun h => absurd h (by decide), kY_X13_tank⟩
theorem kM_20_202 : q_okM (20, 202, 1, false, M_L_draw) := ⟨fun _ => (List.mem_of_getElem? (i := 992) (by decide +kernel)), fun h => absurd h (by decide), kY_L_draw⟩
theorem kM_20_205 : q_okM (20, 205, 0, false, M_X13_draw) := ⟨fun _ => (List.mem_of_getElem? (i := 1990) (by decide +kernel)), fun h => absurd h (by decide), kY_X13_draw⟩
theorem kM_20_206 : q_okM (20, 206, 1, false, M_L_pour) := ⟨fun _ => (List.mem_of_getElem? (i := 1016) (by decide +kernel)), fun h => absurd h (by decide), kY_L_pour⟩
theorem kM_20_208 : q_okM (20, 208, 0, false, M_X13_pour) := ⟨fun _ => (List.mem_of_getElem? (i := 2003) (by decide +kernel)), fun h => absurd h (by decide), kY_X13_pour⟩
theorem kM_20_209 : q_okM (20, 209, 1, false, M_L_has) := ⟨fun _ => (List.mem_of_getElem? (i := 1033) (by decide +kernel)), fun h => absurd h (by decide), kY_L_has⟩
theorem kM_20_211 : q_okM (20, 211, 0, false, M_X13_has) := ⟨fun _ => (List.mem_of_getElem? (i := 2012) (by decide +kernel)), fun h => absurd h (by decide), kY_X13_has⟩
theorem kM_20_212 : q_okM (20, 212, 1, false, M_L_garment) := ⟨fun _ => (List.mem_of_getElem? (i := 1044) (by decide +kernel)), fun h => absurd h (by decide), kY_L_garment⟩
theorem kM_20_214 : q_okM (20, 214, 0, false, M_X13_garment) := ⟨fun _ => (List.mem_of_getElem? (i := 2016) (by decide +kernel)), fun h => absurd h (by decide), kY_X13_garment⟩
theorem kM_20_215 : q_okM (20, 215, 1, false, M_L_spread) := ⟨fun _ => (List.mem_of_getElem? (i := 1055) (by decide +kernel)), fun h => absurd h (by decide), kY_L_spread⟩
theorem kM_20_217 : q_okM (20, 217, 0, false, M_X13_spread) := ⟨fun _ => (List.mem_of_getElem? (i := 2020) (by decide +kernel)), fun h => absurd h (by decide), kY_X13_spread⟩
theorem kM_20_218 : q_okM (20, 218, 1, false, M_L_packs) := ⟨fun _ => (List.mem_of_getElem? (i := 1070) (by decide +kernel)), fun h => absurd h (by decide), kY_L_packs⟩
theorem kM_20_221 : q_okM (20, 221, 0, false, M_X13_packs) := ⟨fun _ => (List.mem_of_getElem? (i := 2028) (by decide +kernel)), fun h => absurd h (by decide), kY_X13_packs⟩
theorem kM_20_222 : q_okM (20, 222, 1, false, M_L_house) := ⟨fun _ => (List.mem_of_getElem? (i := 1081) (by decide +kernel)), fun h => absurd h (by decide), kY_L_house⟩
theorem kM_20_224 : q_okM (20, 224, 0, false, M_X13_house) := ⟨fun _ => (List.mem_of_getElem? (i := 2032) (by decide +kernel)), fun h => absurd h (by decide), kY_X13_house⟩
theorem kM_20_225 : q_okM (20, 225, 1, false, M_L_tells) := ⟨fun _ => (List.mem_of_getElem? (i := 1120) (by decide +kernel)), fun h => absurd h (by decide), kY_L_tells⟩
theorem kM_20_227 : q_okM (20, 227, 0, false, M_X13_tells) := ⟨fun _ => (List.mem_of_getElem? (i := 2071) (by decide +kernel)), fun h => absurd h (by decide), kY_X13_tells⟩
theorem kM_20_228 : q_okM (20, 228, 1, false, M_L_machine) := ⟨fun _ => (List.mem_of_getElem? (i := 1131) (by decide +kernel)), fun h => absurd h (by decide), kY_L_machine⟩
theorem kM_20_230 : q_okM (20, 230, 0, false, M_X13_machine) := ⟨fun _ => (List.mem_of_getElem? (i := 2075) (by decide +kernel)), fun h => absurd h (by decide), kY_X13_machine⟩
theorem kM_20_231 : q_okM (20, 231, 1, false, M_L_lot) := ⟨fun _ => (List.mem_of_getElem? (i := 1138) (by decide +kernel)), fun h => absurd h (by decide), kY_L_lot⟩
theorem kM_20_234 : q_okM (20, 234, 0, false, M_X13_lot) := ⟨fun _ => (List.mem_of_getElem? (i := 2079) (by decide +kernel)), fun h => absurd h (by decide), kY_X13_lot⟩
theorem kM_20_235 : q_okM (20, 235, 1, false, M_L_load) := ⟨fun _ => (List.mem_of_getElem? (i := 1296) (by decide +kernel)), fun h => absurd h (by decide), kY_L_load⟩
theorem kM_20_237 : q_okM (20, 237, 0, false, M_X13_load) := ⟨fun _ => (List.mem_of_getElem? (i := 2087) (by decide +kernel)), fun h => absurd h (by decide), kY_X13_load⟩
theorem kM_20_238 : q_okM (20, 238, 1, false, M_L_days) := ⟨fun _ => (List.mem_of_getElem? (i := 1311) (by decide +kernel)), fun h => absurd h (by decide), kY_L_days⟩
theorem kM_20_240 : q_okM (20, 240, 0, false, M_X13_days) := ⟨fun _ => (List.mem_of_getElem? (i := 2099) (by decide +kernel)), fun h => absurd h (by decide), kY_X13_days⟩
theorem kM_20_241 : q_okM (20, 241, 1, false, M_L_led) := ⟨fun _ => (List.mem_of_getElem? (i := 1363) (by decide +kernel)), fun h => absurd h (by decide), kY_L_led⟩
theorem kM_20_243 : q_okM (20, 243, 0, false, M_X13_led) := ⟨fun _ => (List.mem_of_getElem? (i := 2119) (by decide +kernel)), fun h => absurd h (by decide), kY_X13_led⟩
theorem kM_20_244 : q_okM (20, 244, 1, false, M_L_works) := ⟨fun _ => (List.mem_of_getElem? (i := 1374) (by decide +kernel)), fun h => absurd h (by decide), kY_L_works⟩
theorem kM_20_246 : q_okM (20, 246, 0, false, M_X13_works) := ⟨fun _ => (List.mem_of_getElem? (i := 2127) (by decide +kernel)), fun h => absurd h (by decide), kY_X13_works⟩
theorem kM_20_247 : q_okM (20, 247, 1, false, M_L_measure) := ⟨fun _ => (List.mem_of_getElem? (i := 1381) (by decide +kernel)), fun h => absurd h (by decide), kY_L_measure⟩
theorem kM_20_249 : q_okM (20, 249, 0, false, M_X13_measure) := ⟨fun _ => (List.mem_of_getElem? (i := 2131) (by decide +kernel)), fun h => absurd h (by decide), kY_X13_measure⟩
theorem kM_20_250 : q_okM (20, 250, 1, false, M_L_known) := ⟨fun _ => (List.mem_of_getElem? (i := 1412) (by decide +kernel)), fun h => absurd h (by decide), kY_L_known⟩
theorem kM_20_252 : q_okM (20, 252, 0, false, M_X13_known) := ⟨fun _ => (List.mem_of_getElem? (i := 2139) (by decide +kernel)), fun h => absurd h (by decide), kY_X13_known⟩
theorem kM_20_253 : q_okM (20, 253, 1, false, M_L_sorted) := ⟨fun _ => (List.mem_of_getElem? (i := 1431) (by decide +kernel)), fun h => absurd h (by decide), kY_L_sorted⟩
theorem kM_20_255 : q_okM (20, 255, 0, false, M_X13_sorted) := ⟨fun _ => (List.mem_of_getElem? (i := 2151) (by decide +kernel)), fun h => absurd h (by decide), kY_X13_sorted⟩
theorem kM_20_256 : q_okM (20, 256, 1, false, M_L_again) := ⟨fun _ => (List.mem_of_getElem? (i := 1442) (by decide +kernel)), fun h => absurd h (by decide), kY_L_again⟩
theorem kM_20_258 : q_okM (20, 258, 0, false, M_X13_again) := ⟨fun _ => (List.mem_of_getElem? (i := 2159) (by decide +kernel)), fun h => absurd h (by decide), kY_X13_again⟩
theorem kM_20_259 : q_okM (20, 259, 1, false, M_L_deliver) := ⟨fun _ => (List.mem_of_getElem? (i := 1459) (by decide +kernel)), fun h => absurd h (by decide), kY_L_deliver⟩
theorem kM_20_261 : q_okM (20, 261, 0, false, M_X13_deliver) := ⟨fun _ => (List.mem_of_getElem? (i := 2163) (by decide +kernel)), fun h => absurd h (by decide), kY_X13_deliver⟩
theorem kM_20_262 : q_okM (20, 262, 1, false, M_L_ready) := ⟨fun _ => (List.mem_of_getElem? (i := 1515) (by decide +kernel)), fun h => absurd h (by decide), kY_L_ready⟩
theorem kM_20_264 : q_okM (20, 264, 0, false, M_X13_ready) := ⟨fun _ => (List.mem_of_getElem? (i := 2175) (by decide +kernel)), fun h => absurd h (by decide), kY_X13_ready⟩
theorem kM_20_265 : q_okM (20, 265, 1, false, M_L_pattern) := ⟨fun _ => (List.mem_of_getElem? (i := 1522) (by decide +kernel)), fun h => absurd h (by decide), kY_L_pattern⟩
theorem kM_20_268 : q_okM (20, 268, 0, false, M_X13_pattern) := ⟨fun _ => (List.mem_of_getElem? (i := 2179) (by decide +kernel)), fun h => absurd h (by decide), kY_X13_pattern⟩
theorem kM_20_269 : q_okM (20, 269, 1, false, M_L_heat) := ⟨fun _ => (List.mem_of_getElem? (i := 1534) (by decide +kernel)), fun h => absurd h (by decide), kY_L_heat⟩
theorem kM_20_271 : q_okM (20, 271, 0, false, M_X13_heat) := ⟨fun _ => (List.mem_of_getElem? (i := 2183) (by decide +kernel)), fun h => absurd h (by decide), kY_X13_heat⟩
theorem kM_20_272 : q_okM (20, 272, 1, false, M_L_burn) := ⟨fun _ => (List.mem_of_getElem? (i := 1545) (by decide +kernel)), fun h => absurd h (by decide), kY_L_burn⟩
theorem kM_20_274 : q_okM (20, 274, 0, false, M_X13_burn) := ⟨fun _ => (List.mem_of_getElem? (i := 2187) (by decide +kernel)), fun h => absurd h (by decide), kY_X13_burn⟩
theorem kM_20_275 : q_okM (20, 275, 1, false, M_L_burned) := ⟨fun _ => (List.mem_of_getElem? (i := 1564) (by decide +kernel)), fun h => absurd h (by decide), kY_L_burned⟩
theorem kM_20_277 : q_okM (20, 277, 0, false, M_X13_burned) := ⟨fun _ => (List.mem_of_getElem? (i := 2192) (by decide +kernel)), fun h => absurd h (by decide), kY_X13_burned⟩
theorem kM_20_278 : q_okM (20, 278, 1, false, M_L_seam) := ⟨fun _ => (List.mem_of_getElem? (i := 1571) (by decide +kernel)), fun h => absurd h (by decide), kY_L_seam⟩
theorem kM_20_280 : q_okM (20, 280, 0, false, M_X13_seam) := ⟨fun _ => (List.mem_of_getElem? (i := 2196) (by decide +kernel)), fun h => absurd h (by decide), kY_X13_seam⟩
theorem kM_20_281 : q_okM (20, 281, 0, false, M_X12_shift) := ⟨fun _ => (List.mem_of_getElem? (i := 575) (by decide +kernel)), fun h => absurd h (by decide), kY_X12_shift⟩
theorem kM_20_284 : q_okM (20, 284, 0, false, M_X13_shift) := ⟨fun _ => (List.mem_of_getElem? (i := 2204) (by decide +kernel)), fun h => absurd h (by decide), kY_X13_shift⟩
theorem kM_20_285 : q_okM (20, 285, 0, false, M_X12_count) := ⟨fun _ => (List.mem_of_getElem? (i := 587) (by decide +kernel)), fun h => absurd h (by decide), kY_X12_count⟩
theorem kM_20_288 : q_okM (20, 288, 0, false, M_X13_count) := ⟨fun _ => (List.mem_of_getElem? (i := 2208) (by decide +kernel)), fun h => absurd h (by decide), kY_X13_count⟩
theorem kM_22_300 : q_okM (22, 300, 1, false, M_J7_copyOf_6403c) := ⟨fun _ => (List.mem_of_getElem? (i := 1286) (by decide +kernel)), fun h => absurd h (by decide), kY_J7_copyOf_6403c⟩
def q_lM_1 : List q_L := [(1, 19, 0, false, M_X0_sorts)]
set_option maxRecDepth 20000 in
theorem kM_1 : ∀ e ∈ q_lM_1, q_okM e := List.forall_mem_cons.mpr ⟨kM_1_19, fun _ h => absurd h List.not_mem_nil⟩
def q_lM_2 : List q_L := [(2, 33, 0, false, M_X10_isBlank), (2, 39, 0, false, M_X1_readRule), (2, 43, 0, false, M_X10_goesOn), (2, 46, 0, false, M_X10_refuseNext), (2, 51, 0, false, M_X10_pick), (2, 55, 0, false, M_X1_readOfBath), (2, 59, 0, false, M_X1_readPours), (2, 62, 0, false, M_X10_number), (2, 66, 0, false, M_X1_readAgain)]
set_option maxRecDepth 20000 in
theorem kM_2 : ∀ e ∈ q_lM_2, q_okM e := List.forall_mem_cons.mpr ⟨kM_2_33, List.forall_mem_cons.mpr ⟨kM_2_39, List.forall_mem_cons.mpr ⟨kM_2_43, List.forall_mem_cons.mpr ⟨kM_2_46, List.forall_mem_cons.mpr ⟨kM_2_51, List.forall_mem_cons.mpr ⟨kM_2_55, List.forall_mem_cons.mpr ⟨kM_2_59, List.forall_mem_cons.mpr ⟨kM_2_62, List.forall_mem_cons.mpr ⟨kM_2_66, fun _ h => absurd h List.not_mem_nil⟩⟩⟩⟩⟩⟩⟩⟩⟩
def q_lM_3 : List q_L := [(3, 25, 1, false, M_J7_fill_53178), (3, 31, 0, false, M_X2_goOn), (3, 35, 1, false, M_X2_lesser), (3, 39, 0, false, M_X2_between)]
set_option maxRecDepth 20000 in
theorem kM_3 : ∀ e ∈ q_lM_3, q_okM e := List.forall_mem_cons.mpr ⟨kM_3_25, List.forall_mem_cons.mpr ⟨kM_3_31, List.forall_mem_cons.mpr ⟨kM_3_35, List.forall_mem_cons.mpr ⟨kM_3_39, fun _ h => absurd h List.not_mem_nil⟩⟩⟩⟩
def q_lM_4 : List q_L := [(4, 31, 0, false, M_X3_fade), (4, 35, 0, false, M_X3_wear)]
set_option maxRecDepth 20000 in
theorem kM_4 : ∀ e ∈ q_lM_4, q_okM e := List.forall_mem_cons.mpr ⟨kM_4_31, List.forall_mem_cons.mpr ⟨kM_4_35, fun _ h => absurd h List.not_mem_nil⟩⟩
def q_lM_5 : List q_L := [(5, 11, 2, true, M_X3_init), (5, 51, 2, false, M_X8_init), (5, 65, 1, false, M_J7_fill_53178)]
set_option maxRecDepth 20000 in
theorem kM_5 : ∀ e ∈ q_lM_5, q_okM e := List.forall_mem_cons.mpr ⟨kM_5_11, List.forall_mem_cons.mpr ⟨kM_5_51, List.forall_mem_cons.mpr ⟨kM_5_65, fun _ h => absurd h List.not_mem_nil⟩⟩⟩
def q_lM_7 : List q_L := [(7, 40, 1, false, M_J7_fill_53178), (7, 46, 1, false, M_X6_shadeOf), (7, 50, 0, false, M_X6_putInOrder)]
set_option maxRecDepth 20000 in
theorem kM_7 : ∀ e ∈ q_lM_7, q_okM e := List.forall_mem_cons.mpr ⟨kM_7_40, List.forall_mem_cons.mpr ⟨kM_7_46, List.forall_mem_cons.mpr ⟨kM_7_50, fun _ h => absurd h List.not_mem_nil⟩⟩⟩
def q_lM_8 : List q_L := [(8, 25, 1, false, M_J7_fill_53178), (8, 31, 0, false, M_X7_heatAt), (8, 43, 0, false, M_X7_unlike)]
set_option maxRecDepth 20000 in
theorem kM_8 : ∀ e ∈ q_lM_8, q_okM e := List.forall_mem_cons.mpr ⟨kM_8_25, List.forall_mem_cons.mpr ⟨kM_8_31, List.forall_mem_cons.mpr ⟨kM_8_43, fun _ h => absurd h List.not_mem_nil⟩⟩⟩
def q_lM_9 : List q_L := [(9, 28, 0, false, M_X10_isBlank), (9, 34, 0, false, M_X8_readBath), (9, 38, 0, false, M_X10_goesOn), (9, 41, 0, false, M_X10_refuseNext), (9, 46, 0, false, M_X10_pick), (9, 50, 0, false, M_X10_number), (9, 57, 0, false, M_X8_add), (9, 61, 1, false, M_X8_priceOf)]
set_option maxRecDepth 20000 in
theorem kM_9 : ∀ e ∈ q_lM_9, q_okM e := List.forall_mem_cons.mpr ⟨kM_9_28, List.forall_mem_cons.mpr ⟨kM_9_34, List.forall_mem_cons.mpr ⟨kM_9_38, List.forall_mem_cons.mpr ⟨kM_9_41, List.forall_mem_cons.mpr ⟨kM_9_46, List.forall_mem_cons.mpr ⟨kM_9_50, List.forall_mem_cons.mpr ⟨kM_9_57, List.forall_mem_cons.mpr ⟨kM_9_61, fun _ h => absurd h List.not_mem_nil⟩⟩⟩⟩⟩⟩⟩⟩
def q_lM_10 : List q_L := [(10, 28, 2, true, M_X3_init), (10, 41, 0, false, M_X3_copy), (10, 51, 0, false, M_X9_descend), (10, 61, 0, false, M_X3_surelyMeets), (10, 65, 0, false, M_X9_keepIfBetter), (10, 76, 0, false, M_X3_take), (10, 79, 1, false, M_X8_priceOf)]
set_option maxRecDepth 20000 in
theorem kM_10 : ∀ e ∈ q_lM_10, q_okM e := List.forall_mem_cons.mpr ⟨kM_10_28, List.forall_mem_cons.mpr ⟨kM_10_41, List.forall_mem_cons.mpr ⟨kM_10_51, List.forall_mem_cons.mpr ⟨kM_10_61, List.forall_mem_cons.mpr ⟨kM_10_65, List.forall_mem_cons.mpr ⟨kM_10_76, List.forall_mem_cons.mpr ⟨kM_10_79, fun _ h => absurd h List.not_mem_nil⟩⟩⟩⟩⟩⟩⟩
def q_lM_11 : List q_L := [(11, 25, 0, false, M_X10_skipBlanks), (11, 28, 0, false, M_X10_refuse), (11, 32, 0, false, M_X10_placeAmong)]
set_option maxRecDepth 20000 in
theorem kM_11 : ∀ e ∈ q_lM_11, q_okM e := List.forall_mem_cons.mpr ⟨kM_11_25, List.forall_mem_cons.mpr ⟨kM_11_28, List.forall_mem_cons.mpr ⟨kM_11_32, fun _ h => absurd h List.not_mem_nil⟩⟩⟩
def q_lM_12 : List q_L := [(12, 25, 0, false, M_X11_dirtiest), (12, 35, 1, false, M_X11_partUp), (12, 47, 0, false, M_X11_isDirtier), (12, 54, 0, false, M_X11_runOff), (12, 64, 0, false, M_X11_putIn)]
set_option maxRecDepth 20000 in
theorem kM_12 : ∀ e ∈ q_lM_12, q_okM e := List.forall_mem_cons.mpr ⟨kM_12_25, List.forall_mem_cons.mpr ⟨kM_12_35, List.forall_mem_cons.mpr ⟨kM_12_47, List.forall_mem_cons.mpr ⟨kM_12_54, List.forall_mem_cons.mpr ⟨kM_12_64, fun _ h => absurd h List.not_mem_nil⟩⟩⟩⟩⟩
def q_lM_13 : List q_L := [(13, 9, 2, true, M_X10_init), (13, 24, 2, false, M_X8_init), (13, 36, 2, true, M_X1_init), (13, 44, 2, true, M_X3_init), (13, 51, 2, false, M_X9_init), (13, 58, 2, true, M_X2_init), (13, 65, 2, true, M_X11_init), (13, 72, 2, true, M_X0_init), (13, 92, 2, true, M_X6_init), (13, 99, 2, true, M_X7_init), (13, 104, 2, true, M_X5_init), (13, 105, 0, false, M_X10_hasRoom), (13, 109, 0, false, M_X10_append), (13, 116, 1, false, M_X12_within), (13, 120, 1, false, M_X12_need), (13, 127, 1, false, M_X12_needRoom), (13, 131, 0, false, M_X3_begin), (13, 135, 0, false, M_X10_open), (13, 138, 0, false, M_X8_read), (13, 146, 1, false, M_X12_needIndex), (13, 149, 1, false, M_X12_needWhat), (13, 152, 0, false, M_X12_tryRecipe), (13, 155, 0, false, M_X3_part), (13, 159, 0, false, M_X8_price), (13, 163, 1, false, M_X12_needWish), (13, 166, 0, false, M_X3_surelyMeets), (13, 169, 0, false, M_X12_searchFor), (13, 176, 0, false, M_X9_bestBath), (13, 179, 0, false, M_X2_tell), (13, 182, 0, false, M_X2_addBatch), (13, 185, 0, false, M_X2_leastSum), (13, 194, 0, false, M_X11_add), (13, 200, 0, false, M_X11_takeOut), (13, 208, 0, false, M_X11_putIn), (13, 212, 0, false, M_X11_part), (13, 214, 0, false, M_X0_add), (13, 215, 0, false, M_X0_leastSpread), (13, 218, 0, false, M_X0_fullPacks), (13, 224, 0, false, M_X1_read), (13, 228, 0, false, M_X1_value), (13, 241, 2, false, M_X4_init), (13, 243, 0, false, M_X4_wishFor), (13, 247, 0, false, M_X8_copy), (13, 254, 0, false, M_X3_copy), (13, 257, 0, false, M_X12_addLot), (13, 261, 0, false, M_X12_lotAt), (13, 271, 0, false, M_X5_enqueue), (13, 280, 0, false, M_X12_workDay), (13, 293, 0, false, M_X4_countPlaced), (13, 320, 1, false, M_X12_needWashed), (13, 328, 0, false, M_X6_tell), (13, 339, 0, false, M_X12_judged), (13, 343, 0, false, M_X4_isStillHere), (13, 347, 0, false, M_X12_sorted), (13, 359, 0, false, M_X8_setOnly), (13, 362, 0, false, M_X12_moveDark), (13, 366, 0, false, M_X12_findPacks), (13, 369, 0, false, M_X6_packBegin), (13, 372, 0, false, M_X12_deliverPack), (13, 381, 0, false, M_X7_beginPattern), (13, 390, 0, false, M_X7_setHeat), (13, 393, 0, false, M_X7_burnOne), (13, 400, 0, false, M_X7_unlike), (13, 403, 0, false, M_X7_bestTurn), (13, 412, 0, false, M_X11_dirtInTanks), (13, 418, 0, false, M_X12_countWashed), (13, 467, 0, false, M_X3_take), (13, 470, 0, false, M_X9_wishFor), (13, 471, 0, false, M_X9_run), (13, 475, 0, false, M_X12_takeNext), (13, 479, 0, false, M_X12_doNextBath), (13, 482, 0, false, M_X12_firstNotBarred), (13, 489, 0, false, M_X2_between), (13, 492, 0, false, M_X5_takeIn), (13, 495, 0, false, M_X11_washOut), (13, 498, 0, false, M_X12_finishIfNoneLeft), (13, 502, 0, false, M_X8_bathAt), (13, 505, 0, false, M_X8_amountAt), (13, 508, 1, false, M_X8_soil), (13, 511, 0, false, M_X11_giveBack), (13, 514, 0, false, M_X6_shadeOn), (13, 517, 0, false, M_X4_judge), (13, 526, 0, false, M_X6_gatherNone), (13, 529, 0, false, M_X12_gatherGood), (13, 533, 0, false, M_X6_formPacks), (13, 536, 0, false, M_X6_gather), (13, 539, 0, false, M_X6_lotOf), (13, 542, 0, false, M_X6_pieceOf), (13, 545, 0, false, M_X4_setDelivered)]
set_option maxRecDepth 20000 in
theorem kM_13 : ∀ e ∈ q_lM_13, q_okM e := List.forall_mem_cons.mpr ⟨kM_13_9, List.forall_mem_cons.mpr ⟨kM_13_24, List.forall_mem_cons.mpr ⟨kM_13_36, List.forall_mem_cons.mpr ⟨kM_13_44, List.forall_mem_cons.mpr ⟨kM_13_51, List.forall_mem_cons.mpr ⟨kM_13_58, List.forall_mem_cons.mpr ⟨kM_13_65, List.forall_mem_cons.mpr ⟨kM_13_72, List.forall_mem_cons.mpr ⟨kM_13_92, List.forall_mem_cons.mpr ⟨kM_13_99, List.forall_mem_cons.mpr ⟨kM_13_104, List.forall_mem_cons.mpr ⟨kM_13_105, List.forall_mem_cons.mpr ⟨kM_13_109, List.forall_mem_cons.mpr ⟨kM_13_116, List.forall_mem_cons.mpr ⟨kM_13_120, List.forall_mem_cons.mpr ⟨kM_13_127, List.forall_mem_cons.mpr ⟨kM_13_131, List.forall_mem_cons.mpr ⟨kM_13_135, List.forall_mem_cons.mpr ⟨kM_13_138, List.forall_mem_cons.mpr ⟨kM_13_146, List.forall_mem_cons.mpr ⟨kM_13_149, List.forall_mem_cons.mpr ⟨kM_13_152, List.forall_mem_cons.mpr ⟨kM_13_155, List.forall_mem_cons.mpr ⟨kM_13_159, List.forall_mem_cons.mpr ⟨kM_13_163, List.forall_mem_cons.mpr ⟨kM_13_166, List.forall_mem_cons.mpr ⟨kM_13_169, List.forall_mem_cons.mpr ⟨kM_13_176, List.forall_mem_cons.mpr ⟨kM_13_179, List.forall_mem_cons.mpr ⟨kM_13_182, List.forall_mem_cons.mpr ⟨kM_13_185, List.forall_mem_cons.mpr ⟨kM_13_194, List.forall_mem_cons.mpr ⟨kM_13_200, List.forall_mem_cons.mpr ⟨kM_13_208, List.forall_mem_cons.mpr ⟨kM_13_212, List.forall_mem_cons.mpr ⟨kM_13_214, List.forall_mem_cons.mpr ⟨kM_13_215, List.forall_mem_cons.mpr ⟨kM_13_218, List.forall_mem_cons.mpr ⟨kM_13_224, List.forall_mem_cons.mpr ⟨kM_13_228, List.forall_mem_cons.mpr ⟨kM_13_241, List.forall_mem_cons.mpr ⟨kM_13_243, List.forall_mem_cons.mpr ⟨kM_13_247, List.forall_mem_cons.mpr ⟨kM_13_254, List.forall_mem_cons.mpr ⟨kM_13_257, List.forall_mem_cons.mpr ⟨kM_13_261, List.forall_mem_cons.mpr ⟨kM_13_271, List.forall_mem_cons.mpr ⟨kM_13_280, List.forall_mem_cons.mpr ⟨kM_13_293, List.forall_mem_cons.mpr ⟨kM_13_320, List.forall_mem_cons.mpr ⟨kM_13_328, List.forall_mem_cons.mpr ⟨kM_13_339, List.forall_mem_cons.mpr ⟨kM_13_343, List.forall_mem_cons.mpr ⟨kM_13_347, List.forall_mem_cons.mpr ⟨kM_13_359, List.forall_mem_cons.mpr ⟨kM_13_362, List.forall_mem_cons.mpr ⟨kM_13_366, List.forall_mem_cons.mpr ⟨kM_13_369, List.forall_mem_cons.mpr ⟨kM_13_372, List.forall_mem_cons.mpr ⟨kM_13_381, List.forall_mem_cons.mpr ⟨kM_13_390, List.forall_mem_cons.mpr ⟨kM_13_393, List.forall_mem_cons.mpr ⟨kM_13_400, List.forall_mem_cons.mpr ⟨kM_13_403, List.forall_mem_cons.mpr ⟨kM_13_412, List.forall_mem_cons.mpr ⟨kM_13_418, List.forall_mem_cons.mpr ⟨kM_13_467, List.forall_mem_cons.mpr ⟨kM_13_470, List.forall_mem_cons.mpr ⟨kM_13_471, List.forall_mem_cons.mpr ⟨kM_13_475, List.forall_mem_cons.mpr ⟨kM_13_479, List.forall_mem_cons.mpr ⟨kM_13_482, List.forall_mem_cons.mpr ⟨kM_13_489, List.forall_mem_cons.mpr ⟨kM_13_492, List.forall_mem_cons.mpr ⟨kM_13_495, List.forall_mem_cons.mpr ⟨kM_13_498, List.forall_mem_cons.mpr ⟨kM_13_502, List.forall_mem_cons.mpr ⟨kM_13_505, List.forall_mem_cons.mpr ⟨kM_13_508, List.forall_mem_cons.mpr ⟨kM_13_511, List.forall_mem_cons.mpr ⟨kM_13_514, List.forall_mem_cons.mpr ⟨kM_13_517, List.forall_mem_cons.mpr ⟨kM_13_526, List.forall_mem_cons.mpr ⟨kM_13_529, List.forall_mem_cons.mpr ⟨kM_13_533, List.forall_mem_cons.mpr ⟨kM_13_536, List.forall_mem_cons.mpr ⟨kM_13_539, List.forall_mem_cons.mpr ⟨kM_13_542, List.forall_mem_cons.mpr ⟨kM_13_545, fun _ h => absurd h List.not_mem_nil⟩⟩⟩⟩⟩⟩⟩⟩⟩⟩⟩⟩⟩⟩⟩⟩⟩⟩⟩⟩⟩⟩⟩⟩⟩⟩⟩⟩⟩⟩⟩⟩⟩⟩⟩⟩⟩⟩⟩⟩⟩⟩⟩⟩⟩⟩⟩⟩⟩⟩⟩⟩⟩⟩⟩⟩⟩⟩⟩⟩⟩⟩⟩⟩⟩⟩⟩⟩⟩⟩⟩⟩⟩⟩⟩⟩⟩⟩⟩⟩⟩⟩⟩⟩⟩⟩⟩⟩⟩
def q_lM_14 : List q_L := [(14, 171, 0, false, M_X13_isAt), (14, 178, 0, false, M_X13_blanks), (14, 193, 0, false, M_X13_isWord), (14, 203, 0, false, M_X13_word), (14, 206, 0, false, M_X13_bathOf), (14, 209, 0, false, M_X13_readBath), (14, 212, 0, false, M_X13_number), (14, 216, 0, false, M_X13_uses), (14, 219, 0, false, M_X13_readRecipe), (14, 223, 0, false, M_X13_throwsIf), (14, 227, 0, false, M_X13_copies), (14, 234, 1, false, M_X13_in), (14, 244, 0, false, M_X13_less), (14, 248, 0, false, M_X13_begins), (14, 251, 0, false, M_X13_does), (14, 255, 0, false, M_X13_noCloth), (14, 259, 0, false, M_X13_tries), (14, 262, 1, false, M_X13_costOf), (14, 265, 1, false, M_X13_noWish), (14, 268, 0, false, M_X13_meetsIt), (14, 287, 1, false, M_X13_usual), (14, 291, 0, false, M_X13_seeks), (14, 294, 0, false, M_X13_cheapestOf), (14, 298, 1, false, M_X13_noKind), (14, 319, 0, false, M_X13_dirtiest), (14, 334, 0, false, M_X13_draws), (14, 341, 0, false, M_X13_pours), (14, 347, 0, false, M_X13_sortsFor), (14, 354, 0, false, M_X13_sets), (14, 365, 0, false, M_X13_readPours), (14, 372, 0, false, M_X13_readAgain), (14, 379, 0, false, M_X13_asAtFirst), (14, 382, 0, false, M_X13_readRule), (14, 385, 0, false, M_X13_readHouse), (14, 397, 0, false, M_X13_adds), (14, 401, 0, false, M_X13_noLot), (14, 404, 0, false, M_X13_noMachine), (14, 413, 0, false, M_X13_bathes), (14, 417, 0, false, M_X13_washes), (14, 420, 0, false, M_X13_nextFor), (14, 423, 0, false, M_X13_step), (14, 426, 0, false, M_X13_piecesOf), (14, 429, 0, false, M_X13_noPiece), (14, 438, 0, false, M_X13_shadeOf), (14, 441, 0, false, M_X13_knownOf), (14, 444, 0, false, M_X13_sortedOf), (14, 453, 0, false, M_X13_gathers), (14, 456, 0, false, M_X13_packsOf), (14, 465, 0, false, M_X13_seamOf)]
set_option maxRecDepth 20000 in
theorem kM_14 : ∀ e ∈ q_lM_14, q_okM e := List.forall_mem_cons.mpr ⟨kM_14_171, List.forall_mem_cons.mpr ⟨kM_14_178, List.forall_mem_cons.mpr ⟨kM_14_193, List.forall_mem_cons.mpr ⟨kM_14_203, List.forall_mem_cons.mpr ⟨kM_14_206, List.forall_mem_cons.mpr ⟨kM_14_209, List.forall_mem_cons.mpr ⟨kM_14_212, List.forall_mem_cons.mpr ⟨kM_14_216, List.forall_mem_cons.mpr ⟨kM_14_219, List.forall_mem_cons.mpr ⟨kM_14_223, List.forall_mem_cons.mpr ⟨kM_14_227, List.forall_mem_cons.mpr ⟨kM_14_234, List.forall_mem_cons.mpr ⟨kM_14_244, List.forall_mem_cons.mpr ⟨kM_14_248, List.forall_mem_cons.mpr ⟨kM_14_251, List.forall_mem_cons.mpr ⟨kM_14_255, List.forall_mem_cons.mpr ⟨kM_14_259, List.forall_mem_cons.mpr ⟨kM_14_262, List.forall_mem_cons.mpr ⟨kM_14_265, List.forall_mem_cons.mpr ⟨kM_14_268, List.forall_mem_cons.mpr ⟨kM_14_287, List.forall_mem_cons.mpr ⟨kM_14_291, List.forall_mem_cons.mpr ⟨kM_14_294, List.forall_mem_cons.mpr ⟨kM_14_298, List.forall_mem_cons.mpr ⟨kM_14_319, List.forall_mem_cons.mpr ⟨kM_14_334, List.forall_mem_cons.mpr ⟨kM_14_341, List.forall_mem_cons.mpr ⟨kM_14_347, List.forall_mem_cons.mpr ⟨kM_14_354, List.forall_mem_cons.mpr ⟨kM_14_365, List.forall_mem_cons.mpr ⟨kM_14_372, List.forall_mem_cons.mpr ⟨kM_14_379, List.forall_mem_cons.mpr ⟨kM_14_382, List.forall_mem_cons.mpr ⟨kM_14_385, List.forall_mem_cons.mpr ⟨kM_14_397, List.forall_mem_cons.mpr ⟨kM_14_401, List.forall_mem_cons.mpr ⟨kM_14_404, List.forall_mem_cons.mpr ⟨kM_14_413, List.forall_mem_cons.mpr ⟨kM_14_417, List.forall_mem_cons.mpr ⟨kM_14_420, List.forall_mem_cons.mpr ⟨kM_14_423, List.forall_mem_cons.mpr ⟨kM_14_426, List.forall_mem_cons.mpr ⟨kM_14_429, List.forall_mem_cons.mpr ⟨kM_14_438, List.forall_mem_cons.mpr ⟨kM_14_441, List.forall_mem_cons.mpr ⟨kM_14_444, List.forall_mem_cons.mpr ⟨kM_14_453, List.forall_mem_cons.mpr ⟨kM_14_456, List.forall_mem_cons.mpr ⟨kM_14_465, fun _ h => absurd h List.not_mem_nil⟩⟩⟩⟩⟩⟩⟩⟩⟩⟩⟩⟩⟩⟩⟩⟩⟩⟩⟩⟩⟩⟩⟩⟩⟩⟩⟩⟩⟩⟩⟩⟩⟩⟩⟩⟩⟩⟩⟩⟩⟩⟩⟩⟩⟩⟩⟩⟩⟩
def q_lM_20 : List q_L := [(20, 7, 0, false, M_X12_cloth), (20, 17, 0, false, M_X12_recipe), (20, 21, 0, false, M_X12_look), (20, 28, 0, false, M_X12_meets), (20, 32, 0, false, M_X12_cheapest), (20, 36, 0, false, M_X12_bath), (20, 40, 0, false, M_X12_carry), (20, 44, 0, false, M_X12_batch), (20, 48, 0, false, M_X12_tank), (20, 51, 0, false, M_X12_draw), (20, 55, 0, false, M_X12_pour), (20, 58, 0, false, M_X12_has), (20, 61, 0, false, M_X12_garment), (20, 64, 0, false, M_X12_spread), (20, 67, 0, false, M_X12_packs), (20, 71, 0, false, M_X12_house), (20, 74, 0, false, M_X12_tells), (20, 77, 0, false, M_X12_machine), (20, 80, 0, false, M_X12_lot), (20, 84, 0, false, M_X12_load), (20, 88, 0, false, M_X12_days), (20, 91, 0, false, M_X12_led), (20, 94, 0, false, M_X12_works), (20, 97, 0, false, M_X12_measure), (20, 102, 0, false, M_X12_known), (20, 105, 0, false, M_X12_sorted), (20, 108, 0, false, M_X12_again), (20, 111, 0, false, M_X12_deliver), (20, 114, 0, false, M_X12_ready), (20, 117, 0, false, M_X12_pattern), (20, 121, 0, false, M_X12_heat), (20, 125, 0, false, M_X12_burn), (20, 128, 0, false, M_X12_burned), (20, 131, 0, false, M_X12_seam), (20, 134, 2, false, M_X12_init), (20, 137, 2, false, M_X13_init), (20, 138, 0, false, M_X12_feed), (20, 141, 0, false, M_X13_feed), (20, 142, 0, false, M_X12_end), (20, 146, 0, false, M_X13_end), (20, 147, 1, false, M_L_cloth), (20, 152, 0, false, M_X13_cloth), (20, 153, 0, false, M_X13_thrown), (20, 156, 1, false, M_L_recipe), (20, 159, 0, false, M_X13_recipe), (20, 160, 0, false, M_X12_fault), (20, 163, 0, false, M_X13_fault), (20, 164, 1, false, M_L_look), (20, 166, 0, false, M_X13_look), (20, 167, 0, false, M_X12_cost), (20, 170, 0, false, M_X13_cost), (20, 171, 1, false, M_L_meets), (20, 174, 0, false, M_X13_meets), (20, 175, 1, false, M_L_cheapest), (20, 178, 0, false, M_X13_cheapest), (20, 179, 1, false, M_L_bath), (20, 182, 0, false, M_X13_bath), (20, 183, 1, false, M_L_carry), (20, 186, 0, false, M_X13_carry), (20, 187, 1, false, M_L_batch), (20, 190, 0, false, M_X13_batch), (20, 191, 0, false, M_X12_order), (20, 194, 0, false, M_X13_order), (20, 195, 0, false, M_X12_clear), (20, 198, 0, false, M_X13_clear), (20, 199, 1, false, M_L_tank), (20, 201, 0, false, M_X13_tank), (20, 202, 1, false, M_L_draw), (20, 205, 0, false, M_X13_draw), (20, 206, 1, false, M_L_pour), (20, 208, 0, false, M_X13_pour), (20, 209, 1, false, M_L_has), (20, 211, 0, false, M_X13_has), (20, 212, 1, false, M_L_garment), (20, 214, 0, false, M_X13_garment), (20, 215, 1, false, M_L_spread), (20, 217, 0, false, M_X13_spread), (20, 218, 1, false, M_L_packs), (20, 221, 0, false, M_X13_packs), (20, 222, 1, false, M_L_house), (20, 224, 0, false, M_X13_house), (20, 225, 1, false, M_L_tells), (20, 227, 0, false, M_X13_tells), (20, 228, 1, false, M_L_machine), (20, 230, 0, false, M_X13_machine), (20, 231, 1, false, M_L_lot), (20, 234, 0, false, M_X13_lot), (20, 235, 1, false, M_L_load), (20, 237, 0, false, M_X13_load), (20, 238, 1, false, M_L_days), (20, 240, 0, false, M_X13_days), (20, 241, 1, false, M_L_led), (20, 243, 0, false, M_X13_led), (20, 244, 1, false, M_L_works), (20, 246, 0, false, M_X13_works), (20, 247, 1, false, M_L_measure), (20, 249, 0, false, M_X13_measure), (20, 250, 1, false, M_L_known), (20, 252, 0, false, M_X13_known), (20, 253, 1, false, M_L_sorted), (20, 255, 0, false, M_X13_sorted), (20, 256, 1, false, M_L_again), (20, 258, 0, false, M_X13_again), (20, 259, 1, false, M_L_deliver), (20, 261, 0, false, M_X13_deliver), (20, 262, 1, false, M_L_ready), (20, 264, 0, false, M_X13_ready), (20, 265, 1, false, M_L_pattern), (20, 268, 0, false, M_X13_pattern), (20, 269, 1, false, M_L_heat), (20, 271, 0, false, M_X13_heat), (20, 272, 1, false, M_L_burn), (20, 274, 0, false, M_X13_burn), (20, 275, 1, false, M_L_burned), (20, 277, 0, false, M_X13_burned), (20, 278, 1, false, M_L_seam), (20, 280, 0, false, M_X13_seam), (20, 281, 0, false, M_X12_shift), (20, 284, 0, false, M_X13_shift), (20, 285, 0, false, M_X12_count), (20, 288, 0, false, M_X13_count)]
set_option maxRecDepth 20000 in
theorem kM_20 : ∀ e ∈ q_lM_20, q_okM e := List.forall_mem_cons.mpr ⟨kM_20_7, List.forall_mem_cons.mpr ⟨kM_20_17, List.forall_mem_cons.mpr ⟨kM_20_21, List.forall_mem_cons.mpr ⟨kM_20_28, List.forall_mem_cons.mpr ⟨kM_20_32, List.forall_mem_cons.mpr ⟨kM_20_36, List.forall_mem_cons.mpr ⟨kM_20_40, List.forall_mem_cons.mpr ⟨kM_20_44, List.forall_mem_cons.mpr ⟨kM_20_48, List.forall_mem_cons.mpr ⟨kM_20_51, List.forall_mem_cons.mpr ⟨kM_20_55, List.forall_mem_cons.mpr ⟨kM_20_58, List.forall_mem_cons.mpr ⟨kM_20_61, List.forall_mem_cons.mpr ⟨kM_20_64, List.forall_mem_cons.mpr ⟨kM_20_67, List.forall_mem_cons.mpr ⟨kM_20_71, List.forall_mem_cons.mpr ⟨kM_20_74, List.forall_mem_cons.mpr ⟨kM_20_77, List.forall_mem_cons.mpr ⟨kM_20_80, List.forall_mem_cons.mpr ⟨kM_20_84, List.forall_mem_cons.mpr ⟨kM_20_88, List.forall_mem_cons.mpr ⟨kM_20_91, List.forall_mem_cons.mpr ⟨kM_20_94, List.forall_mem_cons.mpr ⟨kM_20_97, List.forall_mem_cons.mpr ⟨kM_20_102, List.forall_mem_cons.mpr ⟨kM_20_105, List.forall_mem_cons.mpr ⟨kM_20_108, List.forall_mem_cons.mpr ⟨kM_20_111, List.forall_mem_cons.mpr ⟨kM_20_114, List.forall_mem_cons.mpr ⟨kM_20_117, List.forall_mem_cons.mpr ⟨kM_20_121, List.forall_mem_cons.mpr ⟨kM_20_125, List.forall_mem_cons.mpr ⟨kM_20_128, List.forall_mem_cons.mpr ⟨kM_20_131, List.forall_mem_cons.mpr ⟨kM_20_134, List.forall_mem_cons.mpr ⟨kM_20_137, List.forall_mem_cons.mpr ⟨kM_20_138, List.forall_mem_cons.mpr ⟨kM_20_141, List.forall_mem_cons.mpr ⟨kM_20_142, List.forall_mem_cons.mpr ⟨kM_20_146, List.forall_mem_cons.mpr ⟨kM_20_147, List.forall_mem_cons.mpr ⟨kM_20_152, List.forall_mem_cons.mpr ⟨kM_20_153, List.forall_mem_cons.mpr ⟨kM_20_156, List.forall_mem_cons.mpr ⟨kM_20_159, List.forall_mem_cons.mpr ⟨kM_20_160, List.forall_mem_cons.mpr ⟨kM_20_163, List.forall_mem_cons.mpr ⟨kM_20_164, List.forall_mem_cons.mpr ⟨kM_20_166, List.forall_mem_cons.mpr ⟨kM_20_167, List.forall_mem_cons.mpr ⟨kM_20_170, List.forall_mem_cons.mpr ⟨kM_20_171, List.forall_mem_cons.mpr ⟨kM_20_174, List.forall_mem_cons.mpr ⟨kM_20_175, List.forall_mem_cons.mpr ⟨kM_20_178, List.forall_mem_cons.mpr ⟨kM_20_179, List.forall_mem_cons.mpr ⟨kM_20_182, List.forall_mem_cons.mpr ⟨kM_20_183, List.forall_mem_cons.mpr ⟨kM_20_186, List.forall_mem_cons.mpr ⟨kM_20_187, List.forall_mem_cons.mpr ⟨kM_20_190, List.forall_mem_cons.mpr ⟨kM_20_191, List.forall_mem_cons.mpr ⟨kM_20_194, List.forall_mem_cons.mpr ⟨kM_20_195, List.forall_mem_cons.mpr ⟨kM_20_198, List.forall_mem_cons.mpr ⟨kM_20_199, List.forall_mem_cons.mpr ⟨kM_20_201, List.forall_mem_cons.mpr ⟨kM_20_202, List.forall_mem_cons.mpr ⟨kM_20_205, List.forall_mem_cons.mpr ⟨kM_20_206, List.forall_mem_cons.mpr ⟨kM_20_208, List.forall_mem_cons.mpr ⟨kM_20_209, List.forall_mem_cons.mpr ⟨kM_20_211, List.forall_mem_cons.mpr ⟨kM_20_212, List.forall_mem_cons.mpr ⟨kM_20_214, List.forall_mem_cons.mpr ⟨kM_20_215, List.forall_mem_cons.mpr ⟨kM_20_217, List.forall_mem_cons.mpr ⟨kM_20_218, List.forall_mem_cons.mpr ⟨kM_20_221, List.forall_mem_cons.mpr ⟨kM_20_222, List.forall_mem_cons.mpr ⟨kM_20_224, List.forall_mem_cons.mpr ⟨kM_20_225, List.forall_mem_cons.mpr ⟨kM_20_227, List.forall_mem_cons.mpr ⟨kM_20_228, List.forall_mem_cons.mpr ⟨kM_20_230, List.forall_mem_cons.mpr ⟨kM_20_231, List.forall_mem_cons.mpr ⟨kM_20_234, List.forall_mem_cons.mpr ⟨kM_20_235, List.forall_mem_cons.mpr ⟨kM_20_237, List.forall_mem_cons.mpr ⟨kM_20_238, List.forall_mem_cons.mpr ⟨kM_20_240, List.forall_mem_cons.mpr ⟨kM_20_241, List.forall_mem_cons.mpr ⟨kM_20_243, List.forall_mem_cons.mpr ⟨kM_20_244, List.forall_mem_cons.mpr ⟨kM_20_246, List.forall_mem_cons.mpr ⟨kM_20_247, List.forall_mem_cons.mpr ⟨kM_20_249, List.forall_mem_cons.mpr ⟨kM_20_250, List.forall_mem_cons.mpr ⟨kM_20_252, List.forall_mem_cons.mpr ⟨kM_20_253, List.forall_mem_cons.mpr ⟨kM_20_255, List.forall_mem_cons.mpr ⟨kM_20_256, List.forall_mem_cons.mpr ⟨kM_20_258, List.forall_mem_cons.mpr ⟨kM_20_259, List.forall_mem_cons.mpr ⟨kM_20_261, List.forall_mem_cons.mpr ⟨kM_20_262, List.forall_mem_cons.mpr ⟨kM_20_264, List.forall_mem_cons.mpr ⟨kM_20_265, List.forall_mem_cons.mpr ⟨kM_20_268, List.forall_mem_cons.mpr ⟨kM_20_269, List.forall_mem_cons.mpr ⟨kM_20_271, List.forall_mem_cons.mpr ⟨kM_20_272, List.forall_mem_cons.mpr ⟨kM_20_274, List.forall_mem_cons.mpr ⟨kM_20_275, List.forall_mem_cons.mpr ⟨kM_20_277, List.forall_mem_cons.mpr ⟨kM_20_278, List.forall_mem_cons.mpr ⟨kM_20_280, List.forall_mem_cons.mpr ⟨kM_20_281, List.forall_mem_cons.mpr ⟨kM_20_284, List.forall_mem_cons.mpr ⟨kM_20_285, List.forall_mem_cons.mpr ⟨kM_20_288, fun _ h => absurd h List.not_mem_nil⟩⟩⟩⟩⟩⟩⟩⟩⟩⟩⟩⟩⟩⟩⟩⟩⟩⟩⟩⟩⟩⟩⟩⟩⟩⟩⟩⟩⟩⟩⟩⟩⟩⟩⟩⟩⟩⟩⟩⟩⟩⟩⟩⟩⟩⟩⟩⟩⟩⟩⟩⟩⟩⟩⟩⟩⟩⟩⟩⟩⟩⟩⟩⟩⟩⟩⟩⟩⟩⟩⟩⟩⟩⟩⟩⟩⟩⟩⟩⟩⟩⟩⟩⟩⟩⟩⟩⟩⟩⟩⟩⟩⟩⟩⟩⟩⟩⟩⟩⟩⟩⟩⟩⟩⟩⟩⟩⟩⟩⟩⟩⟩⟩⟩⟩⟩⟩⟩⟩⟩⟩
def q_lM_22 : List q_L := [(22, 300, 1, false, M_J7_copyOf_6403c)]
set_option maxRecDepth 20000 in
theorem kM_22 : ∀ e ∈ q_lM_22, q_okM e := List.forall_mem_cons.mpr ⟨kM_22_300, fun _ h => absurd h List.not_mem_nil⟩
def q_lMo (o : Nat) : List q_L := match o with
  | 1 => q_lM_1
  | 2 => q_lM_2
  | 3 => q_lM_3
  | 4 => q_lM_4
  | 5 => q_lM_5
  | 7 => q_lM_7
  | 8 => q_lM_8
  | 9 => q_lM_9
  | 10 => q_lM_10
  | 11 => q_lM_11
  | 12 => q_lM_12
  | 13 => q_lM_13
  | 14 => q_lM_14
  | 20 => q_lM_20
  | 22 => q_lM_22
  | _ => []
theorem kMo : ∀ (o : Nat) (e : q_L), e ∈ q_lMo o → q_okM e := by
  intro o e h
  unfold q_lMo at h
  split at h
  · exact kM_1 e h
  · exact kM_2 e h
  · exact kM_3 e h
  · exact kM_4 e h
  · exact kM_5 e h
  · exact kM_7 e h
  · exact kM_8 e h
  · exact kM_9 e h
  · exact kM_10 e h
  · exact kM_11 e h
  · exact kM_12 e h
  · exact kM_13 e h
  · exact kM_14 e h
  · exact kM_20 e h
  · exact kM_22 e h
  · cases h
def q_lM (o i : Nat) : Option q_L := (q_lMo o).find? (fun e => e.1 == o && e.2.1 == i)
end
section
-- made by wip/tools/gen04d.py
def q_lK (o i : Nat) : Option Int32 := match o, i with
  | 13, 207 => some (100000)
  | 14, 304 => some (1000000)
  | 14, 340 => some (100000)
  | _, _ => none
theorem kK : ∀ (o i : Nat) (v : Int32), q_lK o i = some v → Cond.constant (q_on o) i v ∈ lw_tbl := by
  intro o i v h; unfold q_lK at h; split at h
  · cases h; exact (List.mem_of_getElem? (i := 1023) (by decide +kernel))
  · cases h; exact (List.mem_of_getElem? (i := 1980) (by decide +kernel))
  · cases h; exact (List.mem_of_getElem? (i := 2007) (by decide +kernel))
  · cases h
def q_lKL (o i : Nat) : Option Int64 := match o, i with
  | 12, 45 => some (100)
  | 14, 311 => some (100)
  | _, _ => none
theorem kKL : ∀ (o i : Nat) (v : Int64), q_lKL o i = some v → Cond.constantLong (q_on o) i v ∈ lw_tbl := by
  intro o i v h; unfold q_lKL at h; split at h
  · cases h; exact (List.mem_of_getElem? (i := 1007) (by decide +kernel))
  · cases h; exact (List.mem_of_getElem? (i := 2002) (by decide +kernel))
  · cases h
def q_txt : List String := ["a number is none, or the text is wrong", "again", "away", "band", "bears", "bears pours litres minutes again pack band", "bleach", "litres", "minutes", "pack", "pours", "rinse", "stone", "the LOT is not WASHED", "there are as many as there may be", "there is no such one", "there is no such what", "times", "to", "to away", "wash", "wash stone bleach", "wash stone bleach rinse", "with"]
def q_lStr (o i : Nat) : Option (Nat × String) := match o, i with
  | 13, 424 => some (0, "a number is none, or the text is wrong")
  | 13, 441 => some (14, "there are as many as there may be")
  | 9, 44 => some (22, "wash stone bleach rinse")
  | 13, 431 => some (15, "there is no such one")
  | 13, 436 => some (16, "there is no such what")
  | 2, 49 => some (5, "bears pours litres minutes again pack band")
  | 2, 69 => some (22, "wash stone bleach rinse")
  | 2, 71 => some (19, "to away")
  | 2, 73 => some (17, "times")
  | 2, 75 => some (23, "with")
  | 2, 77 => some (21, "wash stone bleach")
  | 13, 446 => some (13, "the LOT is not WASHED")
  | 14, 191 => some (20, "wash")
  | 14, 197 => some (12, "stone")
  | 14, 199 => some (6, "bleach")
  | 14, 201 => some (11, "rinse")
  | 14, 361 => some (4, "bears")
  | 14, 363 => some (8, "minutes")
  | 14, 364 => some (10, "pours")
  | 14, 350 => some (2, "away")
  | 14, 352 => some (18, "to")
  | 14, 368 => some (7, "litres")
  | 14, 370 => some (1, "again")
  | 14, 357 => some (17, "times")
  | 14, 359 => some (23, "with")
  | 14, 375 => some (9, "pack")
  | 14, 377 => some (3, "band")
  | _, _ => none
theorem kStr : ∀ (o i : Nat) (v : Nat × String), q_lStr o i = some v → Cond.stringRef (q_on o) i v.2 ∈ lw_tbl := by
  intro o i v h; unfold q_lStr at h; split at h
  · cases h; exact (List.mem_of_getElem? (i := 673) (by decide +kernel))
  · cases h; exact (List.mem_of_getElem? (i := 711) (by decide +kernel))
  · cases h; exact (List.mem_of_getElem? (i := 757) (by decide +kernel))
  · cases h; exact (List.mem_of_getElem? (i := 845) (by decide +kernel))
  · cases h; exact (List.mem_of_getElem? (i := 864) (by decide +kernel))
  · cases h; exact (List.mem_of_getElem? (i := 1099) (by decide +kernel))
  · cases h; exact (List.mem_of_getElem? (i := 1105) (by decide +kernel))
  · cases h; exact (List.mem_of_getElem? (i := 1111) (by decide +kernel))
  · cases h; exact (List.mem_of_getElem? (i := 1116) (by decide +kernel))
  · cases h; exact (List.mem_of_getElem? (i := 1117) (by decide +kernel))
  · cases h; exact (List.mem_of_getElem? (i := 1118) (by decide +kernel))
  · cases h; exact (List.mem_of_getElem? (i := 1401) (by decide +kernel))
  · cases h; exact (List.mem_of_getElem? (i := 1870) (by decide +kernel))
  · cases h; exact (List.mem_of_getElem? (i := 1877) (by decide +kernel))
  · cases h; exact (List.mem_of_getElem? (i := 1878) (by decide +kernel))
  · cases h; exact (List.mem_of_getElem? (i := 1879) (by decide +kernel))
  · cases h; exact (List.mem_of_getElem? (i := 2048) (by decide +kernel))
  · cases h; exact (List.mem_of_getElem? (i := 2053) (by decide +kernel))
  · cases h; exact (List.mem_of_getElem? (i := 2054) (by decide +kernel))
  · cases h; exact (List.mem_of_getElem? (i := 2059) (by decide +kernel))
  · cases h; exact (List.mem_of_getElem? (i := 2060) (by decide +kernel))
  · cases h; exact (List.mem_of_getElem? (i := 2061) (by decide +kernel))
  · cases h; exact (List.mem_of_getElem? (i := 2062) (by decide +kernel))
  · cases h; exact (List.mem_of_getElem? (i := 2067) (by decide +kernel))
  · cases h; exact (List.mem_of_getElem? (i := 2068) (by decide +kernel))
  · cases h; exact (List.mem_of_getElem? (i := 2069) (by decide +kernel))
  · cases h; exact (List.mem_of_getElem? (i := 2070) (by decide +kernel))
  · cases h
def q_lC (o i : Nat) : Option Nat := match o, i with
  | 20, 8 => some 13
  | 13, 7 => some 11
  | 13, 16 => some 4
  | 13, 22 => some 9
  | 13, 34 => some 2
  | 13, 49 => some 10
  | 10, 11 => some 4
  | 13, 56 => some 3
  | 13, 63 => some 12
  | 13, 70 => some 1
  | 13, 77 => some 6
  | 13, 83 => some 0
  | 13, 90 => some 7
  | 13, 97 => some 8
  | 13, 239 => some 5
  | 5, 9 => some 4
  | 5, 49 => some 9
  | 20, 135 => some 14
  | _, _ => none
theorem kC : ∀ (o i v : Nat), q_lC o i = some v → Cond.classLink (q_on o) i (q_on v) ∈ lw_tbl ∧ v < 15 := by
  intro o i v h; unfold q_lC at h; split at h
  · cases h; exact ⟨(List.mem_of_getElem? (i := 118) (by decide +kernel)), by decide⟩
  · cases h; exact ⟨(List.mem_of_getElem? (i := 126) (by decide +kernel)), by decide⟩
  · cases h; exact ⟨(List.mem_of_getElem? (i := 149) (by decide +kernel)), by decide⟩
  · cases h; exact ⟨(List.mem_of_getElem? (i := 151) (by decide +kernel)), by decide⟩
  · cases h; exact ⟨(List.mem_of_getElem? (i := 174) (by decide +kernel)), by decide⟩
  · cases h; exact ⟨(List.mem_of_getElem? (i := 226) (by decide +kernel)), by decide⟩
  · cases h; exact ⟨(List.mem_of_getElem? (i := 232) (by decide +kernel)), by decide⟩
  · cases h; exact ⟨(List.mem_of_getElem? (i := 260) (by decide +kernel)), by decide⟩
  · cases h; exact ⟨(List.mem_of_getElem? (i := 280) (by decide +kernel)), by decide⟩
  · cases h; exact ⟨(List.mem_of_getElem? (i := 319) (by decide +kernel)), by decide⟩
  · cases h; exact ⟨(List.mem_of_getElem? (i := 333) (by decide +kernel)), by decide⟩
  · cases h; exact ⟨(List.mem_of_getElem? (i := 335) (by decide +kernel)), by decide⟩
  · cases h; exact ⟨(List.mem_of_getElem? (i := 361) (by decide +kernel)), by decide⟩
  · cases h; exact ⟨(List.mem_of_getElem? (i := 399) (by decide +kernel)), by decide⟩
  · cases h; exact ⟨(List.mem_of_getElem? (i := 617) (by decide +kernel)), by decide⟩
  · cases h; exact ⟨(List.mem_of_getElem? (i := 1150) (by decide +kernel)), by decide⟩
  · cases h; exact ⟨(List.mem_of_getElem? (i := 1153) (by decide +kernel)), by decide⟩
  · cases h; exact ⟨(List.mem_of_getElem? (i := 1579) (by decide +kernel)), by decide⟩
  · cases h
theorem kN : ∀ v : Nat, v < 15 → Cond.instantiable (q_on v) (q_N v) ∈ lw_tbl ∧ Cond.initialized (q_on v) ∈ lw_tbl ∧ vwCl[v]? = some (q_on v, q_T v, q_N v) := by
  intro v h
  match v, h with
  | 0, _ => exact ⟨(List.mem_of_getElem? (i := 336) (by decide +kernel)), (List.mem_of_getElem? (i := 96) (by decide +kernel)), rfl⟩
  | 1, _ => exact ⟨(List.mem_of_getElem? (i := 320) (by decide +kernel)), (List.mem_of_getElem? (i := 93) (by decide +kernel)), rfl⟩
  | 2, _ => exact ⟨(List.mem_of_getElem? (i := 175) (by decide +kernel)), (List.mem_of_getElem? (i := 88) (by decide +kernel)), rfl⟩
  | 3, _ => exact ⟨(List.mem_of_getElem? (i := 261) (by decide +kernel)), (List.mem_of_getElem? (i := 91) (by decide +kernel)), rfl⟩
  | 4, _ => exact ⟨(List.mem_of_getElem? (i := 197) (by decide +kernel)), (List.mem_of_getElem? (i := 89) (by decide +kernel)), rfl⟩
  | 5, _ => exact ⟨(List.mem_of_getElem? (i := 1145) (by decide +kernel)), (List.mem_of_getElem? (i := 114) (by decide +kernel)), rfl⟩
  | 6, _ => exact ⟨(List.mem_of_getElem? (i := 423) (by decide +kernel)), (List.mem_of_getElem? (i := 99) (by decide +kernel)), rfl⟩
  | 7, _ => exact ⟨(List.mem_of_getElem? (i := 362) (by decide +kernel)), (List.mem_of_getElem? (i := 97) (by decide +kernel)), rfl⟩
  | 8, _ => exact ⟨(List.mem_of_getElem? (i := 400) (by decide +kernel)), (List.mem_of_getElem? (i := 98) (by decide +kernel)), rfl⟩
  | 9, _ => exact ⟨(List.mem_of_getElem? (i := 152) (by decide +kernel)), (List.mem_of_getElem? (i := 86) (by decide +kernel)), rfl⟩
  | 10, _ => exact ⟨(List.mem_of_getElem? (i := 227) (by decide +kernel)), (List.mem_of_getElem? (i := 90) (by decide +kernel)), rfl⟩
  | 11, _ => exact ⟨(List.mem_of_getElem? (i := 127) (by decide +kernel)), (List.mem_of_getElem? (i := 85) (by decide +kernel)), rfl⟩
  | 12, _ => exact ⟨(List.mem_of_getElem? (i := 281) (by decide +kernel)), (List.mem_of_getElem? (i := 92) (by decide +kernel)), rfl⟩
  | 13, _ => exact ⟨(List.mem_of_getElem? (i := 119) (by decide +kernel)), (List.mem_of_getElem? (i := 84) (by decide +kernel)), rfl⟩
  | 14, _ => exact ⟨(List.mem_of_getElem? (i := 1580) (by decide +kernel)), (List.mem_of_getElem? (i := 100) (by decide +kernel)), rfl⟩
  | n + 15, h => exact absurd h (by omega)
theorem kW_0_0 : u_lay (q_on 0) (q_T 0) 0 ∈ lw_tbl := (List.mem_of_getElem? (i := 358) (by decide +kernel))
theorem kW_0_1 : u_lay (q_on 0) (q_T 0) 1 ∈ lw_tbl := (List.mem_of_getElem? (i := 354) (by decide +kernel))
theorem kW_0_2 : u_lay (q_on 0) (q_T 0) 2 ∈ lw_tbl := (List.mem_of_getElem? (i := 356) (by decide +kernel))
theorem kW_1_0 : u_lay (q_on 1) (q_T 1) 0 ∈ lw_tbl := (List.mem_of_getElem? (i := 328) (by decide +kernel))
theorem kW_1_1 : u_lay (q_on 1) (q_T 1) 1 ∈ lw_tbl := (List.mem_of_getElem? (i := 330) (by decide +kernel))
theorem kW_2_0 : u_lay (q_on 2) (q_T 2) 0 ∈ lw_tbl := (List.mem_of_getElem? (i := 192) (by decide +kernel))
theorem kW_2_1 : u_lay (q_on 2) (q_T 2) 1 ∈ lw_tbl := (List.mem_of_getElem? (i := 194) (by decide +kernel))
theorem kW_3_0 : u_lay (q_on 3) (q_T 3) 0 ∈ lw_tbl := (List.mem_of_getElem? (i := 271) (by decide +kernel))
theorem kW_3_1 : u_lay (q_on 3) (q_T 3) 1 ∈ lw_tbl := (List.mem_of_getElem? (i := 273) (by decide +kernel))
theorem kW_3_2 : u_lay (q_on 3) (q_T 3) 2 ∈ lw_tbl := (List.mem_of_getElem? (i := 275) (by decide +kernel))
theorem kW_3_3 : u_lay (q_on 3) (q_T 3) 3 ∈ lw_tbl := (List.mem_of_getElem? (i := 277) (by decide +kernel))
theorem kW_4_0 : u_lay (q_on 4) (q_T 4) 0 ∈ lw_tbl := (List.mem_of_getElem? (i := 213) (by decide +kernel))
theorem kW_4_1 : u_lay (q_on 4) (q_T 4) 1 ∈ lw_tbl := (List.mem_of_getElem? (i := 215) (by decide +kernel))
theorem kW_4_2 : u_lay (q_on 4) (q_T 4) 2 ∈ lw_tbl := (List.mem_of_getElem? (i := 217) (by decide +kernel))
theorem kW_4_3 : u_lay (q_on 4) (q_T 4) 3 ∈ lw_tbl := (List.mem_of_getElem? (i := 219) (by decide +kernel))
theorem kW_4_4 : u_lay (q_on 4) (q_T 4) 4 ∈ lw_tbl := (List.mem_of_getElem? (i := 221) (by decide +kernel))
theorem kW_4_5 : u_lay (q_on 4) (q_T 4) 5 ∈ lw_tbl := (List.mem_of_getElem? (i := 223) (by decide +kernel))
theorem kW_5_0 : u_lay (q_on 5) (q_T 5) 0 ∈ lw_tbl := (List.mem_of_getElem? (i := 1188) (by decide +kernel))
theorem kW_5_1 : u_lay (q_on 5) (q_T 5) 1 ∈ lw_tbl := (List.mem_of_getElem? (i := 1190) (by decide +kernel))
theorem kW_5_2 : u_lay (q_on 5) (q_T 5) 2 ∈ lw_tbl := (List.mem_of_getElem? (i := 1192) (by decide +kernel))
theorem kW_5_3 : u_lay (q_on 5) (q_T 5) 3 ∈ lw_tbl := (List.mem_of_getElem? (i := 1194) (by decide +kernel))
theorem kW_5_4 : u_lay (q_on 5) (q_T 5) 4 ∈ lw_tbl := (List.mem_of_getElem? (i := 1196) (by decide +kernel))
theorem kW_5_5 : u_lay (q_on 5) (q_T 5) 5 ∈ lw_tbl := (List.mem_of_getElem? (i := 1198) (by decide +kernel))
theorem kW_5_6 : u_lay (q_on 5) (q_T 5) 6 ∈ lw_tbl := (List.mem_of_getElem? (i := 1200) (by decide +kernel))
theorem kW_5_7 : u_lay (q_on 5) (q_T 5) 7 ∈ lw_tbl := (List.mem_of_getElem? (i := 1202) (by decide +kernel))
theorem kW_5_8 : u_lay (q_on 5) (q_T 5) 8 ∈ lw_tbl := (List.mem_of_getElem? (i := 1204) (by decide +kernel))
theorem kW_5_9 : u_lay (q_on 5) (q_T 5) 9 ∈ lw_tbl := (List.mem_of_getElem? (i := 1206) (by decide +kernel))
theorem kW_5_10 : u_lay (q_on 5) (q_T 5) 10 ∈ lw_tbl := (List.mem_of_getElem? (i := 1208) (by decide +kernel))
theorem kW_5_11 : u_lay (q_on 5) (q_T 5) 11 ∈ lw_tbl := (List.mem_of_getElem? (i := 1210) (by decide +kernel))
theorem kW_5_12 : u_lay (q_on 5) (q_T 5) 12 ∈ lw_tbl := (List.mem_of_getElem? (i := 1212) (by decide +kernel))
theorem kW_5_13 : u_lay (q_on 5) (q_T 5) 13 ∈ lw_tbl := (List.mem_of_getElem? (i := 1214) (by decide +kernel))
theorem kW_5_14 : u_lay (q_on 5) (q_T 5) 14 ∈ lw_tbl := (List.mem_of_getElem? (i := 1216) (by decide +kernel))
theorem kW_5_15 : u_lay (q_on 5) (q_T 5) 15 ∈ lw_tbl := (List.mem_of_getElem? (i := 1218) (by decide +kernel))
theorem kW_5_16 : u_lay (q_on 5) (q_T 5) 16 ∈ lw_tbl := (List.mem_of_getElem? (i := 1220) (by decide +kernel))
theorem kW_6_0 : u_lay (q_on 6) (q_T 6) 0 ∈ lw_tbl := (List.mem_of_getElem? (i := 438) (by decide +kernel))
theorem kW_6_1 : u_lay (q_on 6) (q_T 6) 1 ∈ lw_tbl := (List.mem_of_getElem? (i := 440) (by decide +kernel))
theorem kW_6_2 : u_lay (q_on 6) (q_T 6) 2 ∈ lw_tbl := (List.mem_of_getElem? (i := 442) (by decide +kernel))
theorem kW_6_3 : u_lay (q_on 6) (q_T 6) 3 ∈ lw_tbl := (List.mem_of_getElem? (i := 444) (by decide +kernel))
theorem kW_6_4 : u_lay (q_on 6) (q_T 6) 4 ∈ lw_tbl := (List.mem_of_getElem? (i := 446) (by decide +kernel))
theorem kW_6_5 : u_lay (q_on 6) (q_T 6) 5 ∈ lw_tbl := (List.mem_of_getElem? (i := 448) (by decide +kernel))
theorem kW_7_0 : u_lay (q_on 7) (q_T 7) 0 ∈ lw_tbl := (List.mem_of_getElem? (i := 378) (by decide +kernel))
theorem kW_7_1 : u_lay (q_on 7) (q_T 7) 1 ∈ lw_tbl := (List.mem_of_getElem? (i := 380) (by decide +kernel))
theorem kW_7_2 : u_lay (q_on 7) (q_T 7) 2 ∈ lw_tbl := (List.mem_of_getElem? (i := 382) (by decide +kernel))
theorem kW_7_3 : u_lay (q_on 7) (q_T 7) 3 ∈ lw_tbl := (List.mem_of_getElem? (i := 384) (by decide +kernel))
theorem kW_7_4 : u_lay (q_on 7) (q_T 7) 4 ∈ lw_tbl := (List.mem_of_getElem? (i := 386) (by decide +kernel))
theorem kW_7_5 : u_lay (q_on 7) (q_T 7) 5 ∈ lw_tbl := (List.mem_of_getElem? (i := 388) (by decide +kernel))
theorem kW_7_6 : u_lay (q_on 7) (q_T 7) 6 ∈ lw_tbl := (List.mem_of_getElem? (i := 390) (by decide +kernel))
theorem kW_7_7 : u_lay (q_on 7) (q_T 7) 7 ∈ lw_tbl := (List.mem_of_getElem? (i := 392) (by decide +kernel))
theorem kW_7_8 : u_lay (q_on 7) (q_T 7) 8 ∈ lw_tbl := (List.mem_of_getElem? (i := 394) (by decide +kernel))
theorem kW_7_9 : u_lay (q_on 7) (q_T 7) 9 ∈ lw_tbl := (List.mem_of_getElem? (i := 396) (by decide +kernel))
theorem kW_8_0 : u_lay (q_on 8) (q_T 8) 0 ∈ lw_tbl := (List.mem_of_getElem? (i := 414) (by decide +kernel))
theorem kW_8_1 : u_lay (q_on 8) (q_T 8) 1 ∈ lw_tbl := (List.mem_of_getElem? (i := 416) (by decide +kernel))
theorem kW_8_2 : u_lay (q_on 8) (q_T 8) 2 ∈ lw_tbl := (List.mem_of_getElem? (i := 418) (by decide +kernel))
theorem kW_8_3 : u_lay (q_on 8) (q_T 8) 3 ∈ lw_tbl := (List.mem_of_getElem? (i := 420) (by decide +kernel))
theorem kW_9_0 : u_lay (q_on 9) (q_T 9) 0 ∈ lw_tbl := (List.mem_of_getElem? (i := 166) (by decide +kernel))
theorem kW_9_1 : u_lay (q_on 9) (q_T 9) 1 ∈ lw_tbl := (List.mem_of_getElem? (i := 168) (by decide +kernel))
theorem kW_9_2 : u_lay (q_on 9) (q_T 9) 2 ∈ lw_tbl := (List.mem_of_getElem? (i := 170) (by decide +kernel))
theorem kW_10_0 : u_lay (q_on 10) (q_T 10) 0 ∈ lw_tbl := (List.mem_of_getElem? (i := 243) (by decide +kernel))
theorem kW_10_1 : u_lay (q_on 10) (q_T 10) 1 ∈ lw_tbl := (List.mem_of_getElem? (i := 245) (by decide +kernel))
theorem kW_10_2 : u_lay (q_on 10) (q_T 10) 2 ∈ lw_tbl := (List.mem_of_getElem? (i := 247) (by decide +kernel))
theorem kW_10_3 : u_lay (q_on 10) (q_T 10) 3 ∈ lw_tbl := (List.mem_of_getElem? (i := 249) (by decide +kernel))
theorem kW_10_4 : u_lay (q_on 10) (q_T 10) 4 ∈ lw_tbl := (List.mem_of_getElem? (i := 251) (by decide +kernel))
theorem kW_10_5 : u_lay (q_on 10) (q_T 10) 5 ∈ lw_tbl := (List.mem_of_getElem? (i := 253) (by decide +kernel))
theorem kW_10_6 : u_lay (q_on 10) (q_T 10) 6 ∈ lw_tbl := (List.mem_of_getElem? (i := 255) (by decide +kernel))
theorem kW_10_7 : u_lay (q_on 10) (q_T 10) 7 ∈ lw_tbl := (List.mem_of_getElem? (i := 257) (by decide +kernel))
theorem kW_11_0 : u_lay (q_on 11) (q_T 11) 0 ∈ lw_tbl := (List.mem_of_getElem? (i := 139) (by decide +kernel))
theorem kW_11_1 : u_lay (q_on 11) (q_T 11) 1 ∈ lw_tbl := (List.mem_of_getElem? (i := 141) (by decide +kernel))
theorem kW_11_2 : u_lay (q_on 11) (q_T 11) 2 ∈ lw_tbl := (List.mem_of_getElem? (i := 143) (by decide +kernel))
theorem kW_11_3 : u_lay (q_on 11) (q_T 11) 3 ∈ lw_tbl := (List.mem_of_getElem? (i := 145) (by decide +kernel))
theorem kW_12_0 : u_lay (q_on 12) (q_T 12) 0 ∈ lw_tbl := (List.mem_of_getElem? (i := 300) (by decide +kernel))
theorem kW_12_1 : u_lay (q_on 12) (q_T 12) 1 ∈ lw_tbl := (List.mem_of_getElem? (i := 302) (by decide +kernel))
theorem kW_12_2 : u_lay (q_on 12) (q_T 12) 2 ∈ lw_tbl := (List.mem_of_getElem? (i := 304) (by decide +kernel))
theorem kW_12_3 : u_lay (q_on 12) (q_T 12) 3 ∈ lw_tbl := (List.mem_of_getElem? (i := 306) (by decide +kernel))
theorem kW_12_4 : u_lay (q_on 12) (q_T 12) 4 ∈ lw_tbl := (List.mem_of_getElem? (i := 308) (by decide +kernel))
theorem kW_12_5 : u_lay (q_on 12) (q_T 12) 5 ∈ lw_tbl := (List.mem_of_getElem? (i := 310) (by decide +kernel))
theorem kW_12_6 : u_lay (q_on 12) (q_T 12) 6 ∈ lw_tbl := (List.mem_of_getElem? (i := 312) (by decide +kernel))
theorem kW_12_7 : u_lay (q_on 12) (q_T 12) 7 ∈ lw_tbl := (List.mem_of_getElem? (i := 314) (by decide +kernel))
theorem kW_12_8 : u_lay (q_on 12) (q_T 12) 8 ∈ lw_tbl := (List.mem_of_getElem? (i := 316) (by decide +kernel))
theorem kW_13_0 : u_lay (q_on 13) (q_T 13) 0 ∈ lw_tbl := (List.mem_of_getElem? (i := 471) (by decide +kernel))
theorem kW_13_1 : u_lay (q_on 13) (q_T 13) 1 ∈ lw_tbl := (List.mem_of_getElem? (i := 473) (by decide +kernel))
theorem kW_13_2 : u_lay (q_on 13) (q_T 13) 2 ∈ lw_tbl := (List.mem_of_getElem? (i := 475) (by decide +kernel))
theorem kW_13_3 : u_lay (q_on 13) (q_T 13) 3 ∈ lw_tbl := (List.mem_of_getElem? (i := 477) (by decide +kernel))
theorem kW_13_4 : u_lay (q_on 13) (q_T 13) 4 ∈ lw_tbl := (List.mem_of_getElem? (i := 479) (by decide +kernel))
theorem kW_13_5 : u_lay (q_on 13) (q_T 13) 5 ∈ lw_tbl := (List.mem_of_getElem? (i := 481) (by decide +kernel))
theorem kW_13_6 : u_lay (q_on 13) (q_T 13) 6 ∈ lw_tbl := (List.mem_of_getElem? (i := 483) (by decide +kernel))
theorem kW_13_7 : u_lay (q_on 13) (q_T 13) 7 ∈ lw_tbl := (List.mem_of_getElem? (i := 485) (by decide +kernel))
theorem kW_13_8 : u_lay (q_on 13) (q_T 13) 8 ∈ lw_tbl := (List.mem_of_getElem? (i := 487) (by decide +kernel))
theorem kW_13_9 : u_lay (q_on 13) (q_T 13) 9 ∈ lw_tbl := (List.mem_of_getElem? (i := 489) (by decide +kernel))
theorem kW_13_10 : u_lay (q_on 13) (q_T 13) 10 ∈ lw_tbl := (List.mem_of_getElem? (i := 491) (by decide +kernel))
theorem kW_13_11 : u_lay (q_on 13) (q_T 13) 11 ∈ lw_tbl := (List.mem_of_getElem? (i := 493) (by decide +kernel))
theorem kW_13_12 : u_lay (q_on 13) (q_T 13) 12 ∈ lw_tbl := (List.mem_of_getElem? (i := 495) (by decide +kernel))
theorem kW_13_13 : u_lay (q_on 13) (q_T 13) 13 ∈ lw_tbl := (List.mem_of_getElem? (i := 497) (by decide +kernel))
theorem kW_13_14 : u_lay (q_on 13) (q_T 13) 14 ∈ lw_tbl := (List.mem_of_getElem? (i := 499) (by decide +kernel))
theorem kW_13_15 : u_lay (q_on 13) (q_T 13) 15 ∈ lw_tbl := (List.mem_of_getElem? (i := 501) (by decide +kernel))
theorem kW_13_16 : u_lay (q_on 13) (q_T 13) 16 ∈ lw_tbl := (List.mem_of_getElem? (i := 503) (by decide +kernel))
theorem kW_13_17 : u_lay (q_on 13) (q_T 13) 17 ∈ lw_tbl := (List.mem_of_getElem? (i := 505) (by decide +kernel))
theorem kW_13_18 : u_lay (q_on 13) (q_T 13) 18 ∈ lw_tbl := (List.mem_of_getElem? (i := 507) (by decide +kernel))
theorem kW_13_19 : u_lay (q_on 13) (q_T 13) 19 ∈ lw_tbl := (List.mem_of_getElem? (i := 509) (by decide +kernel))
theorem kW_14_0 : u_lay (q_on 14) (q_T 14) 0 ∈ lw_tbl := (List.mem_of_getElem? (i := 1665) (by decide +kernel))
theorem kW_14_1 : u_lay (q_on 14) (q_T 14) 1 ∈ lw_tbl := (List.mem_of_getElem? (i := 1667) (by decide +kernel))
theorem kW_14_2 : u_lay (q_on 14) (q_T 14) 2 ∈ lw_tbl := (List.mem_of_getElem? (i := 1669) (by decide +kernel))
theorem kW_14_3 : u_lay (q_on 14) (q_T 14) 3 ∈ lw_tbl := (List.mem_of_getElem? (i := 1671) (by decide +kernel))
theorem kW_14_4 : u_lay (q_on 14) (q_T 14) 4 ∈ lw_tbl := (List.mem_of_getElem? (i := 1673) (by decide +kernel))
theorem kW_14_5 : u_lay (q_on 14) (q_T 14) 5 ∈ lw_tbl := (List.mem_of_getElem? (i := 1675) (by decide +kernel))
theorem kW_14_6 : u_lay (q_on 14) (q_T 14) 6 ∈ lw_tbl := (List.mem_of_getElem? (i := 1677) (by decide +kernel))
theorem kW_14_7 : u_lay (q_on 14) (q_T 14) 7 ∈ lw_tbl := (List.mem_of_getElem? (i := 1679) (by decide +kernel))
theorem kW_14_8 : u_lay (q_on 14) (q_T 14) 8 ∈ lw_tbl := (List.mem_of_getElem? (i := 1681) (by decide +kernel))
theorem kW_14_9 : u_lay (q_on 14) (q_T 14) 9 ∈ lw_tbl := (List.mem_of_getElem? (i := 1683) (by decide +kernel))
theorem kW_14_10 : u_lay (q_on 14) (q_T 14) 10 ∈ lw_tbl := (List.mem_of_getElem? (i := 1685) (by decide +kernel))
theorem kW_14_11 : u_lay (q_on 14) (q_T 14) 11 ∈ lw_tbl := (List.mem_of_getElem? (i := 1687) (by decide +kernel))
theorem kW_14_12 : u_lay (q_on 14) (q_T 14) 12 ∈ lw_tbl := (List.mem_of_getElem? (i := 1689) (by decide +kernel))
theorem kW_14_13 : u_lay (q_on 14) (q_T 14) 13 ∈ lw_tbl := (List.mem_of_getElem? (i := 1691) (by decide +kernel))
theorem kW_14_14 : u_lay (q_on 14) (q_T 14) 14 ∈ lw_tbl := (List.mem_of_getElem? (i := 1693) (by decide +kernel))
theorem kW_14_15 : u_lay (q_on 14) (q_T 14) 15 ∈ lw_tbl := (List.mem_of_getElem? (i := 1695) (by decide +kernel))
theorem kW_14_16 : u_lay (q_on 14) (q_T 14) 16 ∈ lw_tbl := (List.mem_of_getElem? (i := 1697) (by decide +kernel))
theorem kW_14_17 : u_lay (q_on 14) (q_T 14) 17 ∈ lw_tbl := (List.mem_of_getElem? (i := 1699) (by decide +kernel))
theorem kW_14_18 : u_lay (q_on 14) (q_T 14) 18 ∈ lw_tbl := (List.mem_of_getElem? (i := 1701) (by decide +kernel))
theorem kW_14_19 : u_lay (q_on 14) (q_T 14) 19 ∈ lw_tbl := (List.mem_of_getElem? (i := 1703) (by decide +kernel))
theorem kW_14_20 : u_lay (q_on 14) (q_T 14) 20 ∈ lw_tbl := (List.mem_of_getElem? (i := 1705) (by decide +kernel))
theorem kW_14_21 : u_lay (q_on 14) (q_T 14) 21 ∈ lw_tbl := (List.mem_of_getElem? (i := 1707) (by decide +kernel))
theorem kW_14_22 : u_lay (q_on 14) (q_T 14) 22 ∈ lw_tbl := (List.mem_of_getElem? (i := 1709) (by decide +kernel))
theorem kW_14_23 : u_lay (q_on 14) (q_T 14) 23 ∈ lw_tbl := (List.mem_of_getElem? (i := 1711) (by decide +kernel))
theorem kW_14_24 : u_lay (q_on 14) (q_T 14) 24 ∈ lw_tbl := (List.mem_of_getElem? (i := 1713) (by decide +kernel))
theorem kW_14_25 : u_lay (q_on 14) (q_T 14) 25 ∈ lw_tbl := (List.mem_of_getElem? (i := 1715) (by decide +kernel))
theorem kW_14_26 : u_lay (q_on 14) (q_T 14) 26 ∈ lw_tbl := (List.mem_of_getElem? (i := 1717) (by decide +kernel))
theorem kW_14_27 : u_lay (q_on 14) (q_T 14) 27 ∈ lw_tbl := (List.mem_of_getElem? (i := 1719) (by decide +kernel))
theorem kW_14_28 : u_lay (q_on 14) (q_T 14) 28 ∈ lw_tbl := (List.mem_of_getElem? (i := 1721) (by decide +kernel))
theorem kW_14_29 : u_lay (q_on 14) (q_T 14) 29 ∈ lw_tbl := (List.mem_of_getElem? (i := 1723) (by decide +kernel))
theorem kW_14_30 : u_lay (q_on 14) (q_T 14) 30 ∈ lw_tbl := (List.mem_of_getElem? (i := 1725) (by decide +kernel))
theorem kW_14_31 : u_lay (q_on 14) (q_T 14) 31 ∈ lw_tbl := (List.mem_of_getElem? (i := 1727) (by decide +kernel))
theorem kW_14_32 : u_lay (q_on 14) (q_T 14) 32 ∈ lw_tbl := (List.mem_of_getElem? (i := 1729) (by decide +kernel))
theorem kW_14_33 : u_lay (q_on 14) (q_T 14) 33 ∈ lw_tbl := (List.mem_of_getElem? (i := 1731) (by decide +kernel))
theorem kW_14_34 : u_lay (q_on 14) (q_T 14) 34 ∈ lw_tbl := (List.mem_of_getElem? (i := 1733) (by decide +kernel))
theorem kW_14_35 : u_lay (q_on 14) (q_T 14) 35 ∈ lw_tbl := (List.mem_of_getElem? (i := 1735) (by decide +kernel))
theorem kW_14_36 : u_lay (q_on 14) (q_T 14) 36 ∈ lw_tbl := (List.mem_of_getElem? (i := 1737) (by decide +kernel))
theorem kW_14_37 : u_lay (q_on 14) (q_T 14) 37 ∈ lw_tbl := (List.mem_of_getElem? (i := 1739) (by decide +kernel))
theorem kW_14_38 : u_lay (q_on 14) (q_T 14) 38 ∈ lw_tbl := (List.mem_of_getElem? (i := 1741) (by decide +kernel))
theorem kW_14_39 : u_lay (q_on 14) (q_T 14) 39 ∈ lw_tbl := (List.mem_of_getElem? (i := 1743) (by decide +kernel))
theorem kW_14_40 : u_lay (q_on 14) (q_T 14) 40 ∈ lw_tbl := (List.mem_of_getElem? (i := 1745) (by decide +kernel))
theorem kW_14_41 : u_lay (q_on 14) (q_T 14) 41 ∈ lw_tbl := (List.mem_of_getElem? (i := 1747) (by decide +kernel))
theorem kW_14_42 : u_lay (q_on 14) (q_T 14) 42 ∈ lw_tbl := (List.mem_of_getElem? (i := 1749) (by decide +kernel))
theorem kW_14_43 : u_lay (q_on 14) (q_T 14) 43 ∈ lw_tbl := (List.mem_of_getElem? (i := 1751) (by decide +kernel))
theorem kW_14_44 : u_lay (q_on 14) (q_T 14) 44 ∈ lw_tbl := (List.mem_of_getElem? (i := 1753) (by decide +kernel))
theorem kW_14_45 : u_lay (q_on 14) (q_T 14) 45 ∈ lw_tbl := (List.mem_of_getElem? (i := 1755) (by decide +kernel))
theorem kW_14_46 : u_lay (q_on 14) (q_T 14) 46 ∈ lw_tbl := (List.mem_of_getElem? (i := 1757) (by decide +kernel))
theorem kW_14_47 : u_lay (q_on 14) (q_T 14) 47 ∈ lw_tbl := (List.mem_of_getElem? (i := 1759) (by decide +kernel))
theorem kW_14_48 : u_lay (q_on 14) (q_T 14) 48 ∈ lw_tbl := (List.mem_of_getElem? (i := 1761) (by decide +kernel))
theorem kW_14_49 : u_lay (q_on 14) (q_T 14) 49 ∈ lw_tbl := (List.mem_of_getElem? (i := 1763) (by decide +kernel))
theorem kW_14_50 : u_lay (q_on 14) (q_T 14) 50 ∈ lw_tbl := (List.mem_of_getElem? (i := 1765) (by decide +kernel))
theorem kW_14_51 : u_lay (q_on 14) (q_T 14) 51 ∈ lw_tbl := (List.mem_of_getElem? (i := 1767) (by decide +kernel))
theorem kW_14_52 : u_lay (q_on 14) (q_T 14) 52 ∈ lw_tbl := (List.mem_of_getElem? (i := 1769) (by decide +kernel))
theorem kW_14_53 : u_lay (q_on 14) (q_T 14) 53 ∈ lw_tbl := (List.mem_of_getElem? (i := 1771) (by decide +kernel))
theorem kW_14_54 : u_lay (q_on 14) (q_T 14) 54 ∈ lw_tbl := (List.mem_of_getElem? (i := 1773) (by decide +kernel))
theorem kW_14_55 : u_lay (q_on 14) (q_T 14) 55 ∈ lw_tbl := (List.mem_of_getElem? (i := 1775) (by decide +kernel))
theorem kW_14_56 : u_lay (q_on 14) (q_T 14) 56 ∈ lw_tbl := (List.mem_of_getElem? (i := 1777) (by decide +kernel))
theorem kW_14_57 : u_lay (q_on 14) (q_T 14) 57 ∈ lw_tbl := (List.mem_of_getElem? (i := 1779) (by decide +kernel))
theorem kW_14_58 : u_lay (q_on 14) (q_T 14) 58 ∈ lw_tbl := (List.mem_of_getElem? (i := 1781) (by decide +kernel))
theorem kW_14_59 : u_lay (q_on 14) (q_T 14) 59 ∈ lw_tbl := (List.mem_of_getElem? (i := 1783) (by decide +kernel))
theorem kW_14_60 : u_lay (q_on 14) (q_T 14) 60 ∈ lw_tbl := (List.mem_of_getElem? (i := 1785) (by decide +kernel))
theorem kW_14_61 : u_lay (q_on 14) (q_T 14) 61 ∈ lw_tbl := (List.mem_of_getElem? (i := 1787) (by decide +kernel))
theorem kW_14_62 : u_lay (q_on 14) (q_T 14) 62 ∈ lw_tbl := (List.mem_of_getElem? (i := 1789) (by decide +kernel))
theorem kW_14_63 : u_lay (q_on 14) (q_T 14) 63 ∈ lw_tbl := (List.mem_of_getElem? (i := 1791) (by decide +kernel))
theorem kW_14_64 : u_lay (q_on 14) (q_T 14) 64 ∈ lw_tbl := (List.mem_of_getElem? (i := 1793) (by decide +kernel))
theorem kW_14_65 : u_lay (q_on 14) (q_T 14) 65 ∈ lw_tbl := (List.mem_of_getElem? (i := 1795) (by decide +kernel))
theorem kW_14_66 : u_lay (q_on 14) (q_T 14) 66 ∈ lw_tbl := (List.mem_of_getElem? (i := 1797) (by decide +kernel))
theorem kW_14_67 : u_lay (q_on 14) (q_T 14) 67 ∈ lw_tbl := (List.mem_of_getElem? (i := 1799) (by decide +kernel))
theorem kW_14_68 : u_lay (q_on 14) (q_T 14) 68 ∈ lw_tbl := (List.mem_of_getElem? (i := 1801) (by decide +kernel))
theorem kW_14_69 : u_lay (q_on 14) (q_T 14) 69 ∈ lw_tbl := (List.mem_of_getElem? (i := 1803) (by decide +kernel))
theorem kW_14_70 : u_lay (q_on 14) (q_T 14) 70 ∈ lw_tbl := (List.mem_of_getElem? (i := 1805) (by decide +kernel))
theorem kW_14_71 : u_lay (q_on 14) (q_T 14) 71 ∈ lw_tbl := (List.mem_of_getElem? (i := 1807) (by decide +kernel))
theorem kW_14_72 : u_lay (q_on 14) (q_T 14) 72 ∈ lw_tbl := (List.mem_of_getElem? (i := 1809) (by decide +kernel))
theorem kW_14_73 : u_lay (q_on 14) (q_T 14) 73 ∈ lw_tbl := (List.mem_of_getElem? (i := 1811) (by decide +kernel))
theorem kW_14_74 : u_lay (q_on 14) (q_T 14) 74 ∈ lw_tbl := (List.mem_of_getElem? (i := 1813) (by decide +kernel))
theorem kW_14_75 : u_lay (q_on 14) (q_T 14) 75 ∈ lw_tbl := (List.mem_of_getElem? (i := 1815) (by decide +kernel))
theorem kW_14_76 : u_lay (q_on 14) (q_T 14) 76 ∈ lw_tbl := (List.mem_of_getElem? (i := 1817) (by decide +kernel))
theorem kW_14_77 : u_lay (q_on 14) (q_T 14) 77 ∈ lw_tbl := (List.mem_of_getElem? (i := 1819) (by decide +kernel))
theorem kW_14_78 : u_lay (q_on 14) (q_T 14) 78 ∈ lw_tbl := (List.mem_of_getElem? (i := 1821) (by decide +kernel))
theorem kW_14_79 : u_lay (q_on 14) (q_T 14) 79 ∈ lw_tbl := (List.mem_of_getElem? (i := 1823) (by decide +kernel))
theorem kW : ∀ v k : Nat, v < 15 → k < q_N v → u_lay (q_on v) (q_T v) k ∈ lw_tbl := by
  intro v k h hk
  match v, h with
  | 0, _ => exact match k, hk with
    | 0, _ => kW_0_0
    | 1, _ => kW_0_1
    | 2, _ => kW_0_2
    | k + 3, hk => absurd hk (by show ¬ k + 3 < 3; omega)
  | 1, _ => exact match k, hk with
    | 0, _ => kW_1_0
    | 1, _ => kW_1_1
    | k + 2, hk => absurd hk (by show ¬ k + 2 < 2; omega)
  | 2, _ => exact match k, hk with
    | 0, _ => kW_2_0
    | 1, _ => kW_2_1
    | k + 2, hk => absurd hk (by show ¬ k + 2 < 2; omega)
  | 3, _ => exact match k, hk with
    | 0, _ => kW_3_0
    | 1, _ => kW_3_1
    | 2, _ => kW_3_2
    | 3, _ => kW_3_3
    | k + 4, hk => absurd hk (by show ¬ k + 4 < 4; omega)
  | 4, _ => exact match k, hk with
    | 0, _ => kW_4_0
    | 1, _ => kW_4_1
    | 2, _ => kW_4_2
    | 3, _ => kW_4_3
    | 4, _ => kW_4_4
    | 5, _ => kW_4_5
    | k + 6, hk => absurd hk (by show ¬ k + 6 < 6; omega)
  | 5, _ => exact match k, hk with
    | 0, _ => kW_5_0
    | 1, _ => kW_5_1
    | 2, _ => kW_5_2
    | 3, _ => kW_5_3
    | 4, _ => kW_5_4
    | 5, _ => kW_5_5
    | 6, _ => kW_5_6
    | 7, _ => kW_5_7
    | 8, _ => kW_5_8
    | 9, _ => kW_5_9
    | 10, _ => kW_5_10
    | 11, _ => kW_5_11
    | 12, _ => kW_5_12
    | 13, _ => kW_5_13
    | 14, _ => kW_5_14
    | 15, _ => kW_5_15
    | 16, _ => kW_5_16
    | k + 17, hk => absurd hk (by show ¬ k + 17 < 17; omega)
  | 6, _ => exact match k, hk with
    | 0, _ => kW_6_0
    | 1, _ => kW_6_1
    | 2, _ => kW_6_2
    | 3, _ => kW_6_3
    | 4, _ => kW_6_4
    | 5, _ => kW_6_5
    | k + 6, hk => absurd hk (by show ¬ k + 6 < 6; omega)
  | 7, _ => exact match k, hk with
    | 0, _ => kW_7_0
    | 1, _ => kW_7_1
    | 2, _ => kW_7_2
    | 3, _ => kW_7_3
    | 4, _ => kW_7_4
    | 5, _ => kW_7_5
    | 6, _ => kW_7_6
    | 7, _ => kW_7_7
    | 8, _ => kW_7_8
    | 9, _ => kW_7_9
    | k + 10, hk => absurd hk (by show ¬ k + 10 < 10; omega)
  | 8, _ => exact match k, hk with
    | 0, _ => kW_8_0
    | 1, _ => kW_8_1
    | 2, _ => kW_8_2
    | 3, _ => kW_8_3
    | k + 4, hk => absurd hk (by show ¬ k + 4 < 4; omega)
  | 9, _ => exact match k, hk with
    | 0, _ => kW_9_0
    | 1, _ => kW_9_1
    | 2, _ => kW_9_2
    | k + 3, hk => absurd hk (by show ¬ k + 3 < 3; omega)
  | 10, _ => exact match k, hk with
    | 0, _ => kW_10_0
    | 1, _ => kW_10_1
    | 2, _ => kW_10_2
    | 3, _ => kW_10_3
    | 4, _ => kW_10_4
    | 5, _ => kW_10_5
    | 6, _ => kW_10_6
    | 7, _ => kW_10_7
    | k + 8, hk => absurd hk (by show ¬ k + 8 < 8; omega)
  | 11, _ => exact match k, hk with
    | 0, _ => kW_11_0
    | 1, _ => kW_11_1
    | 2, _ => kW_11_2
    | 3, _ => kW_11_3
    | k + 4, hk => absurd hk (by show ¬ k + 4 < 4; omega)
  | 12, _ => exact match k, hk with
    | 0, _ => kW_12_0
    | 1, _ => kW_12_1
    | 2, _ => kW_12_2
    | 3, _ => kW_12_3
    | 4, _ => kW_12_4
    | 5, _ => kW_12_5
    | 6, _ => kW_12_6
    | 7, _ => kW_12_7
    | 8, _ => kW_12_8
    | k + 9, hk => absurd hk (by show ¬ k + 9 < 9; omega)
  | 13, _ => exact match k, hk with
    | 0, _ => kW_13_0
    | 1, _ => kW_13_1
    | 2, _ => kW_13_2
    | 3, _ => kW_13_3
    | 4, _ => kW_13_4
    | 5, _ => kW_13_5
    | 6, _ => kW_13_6
    | 7, _ => kW_13_7
    | 8, _ => kW_13_8
    | 9, _ => kW_13_9
    | 10, _ => kW_13_10
    | 11, _ => kW_13_11
    | 12, _ => kW_13_12
    | 13, _ => kW_13_13
    | 14, _ => kW_13_14
    | 15, _ => kW_13_15
    | 16, _ => kW_13_16
    | 17, _ => kW_13_17
    | 18, _ => kW_13_18
    | 19, _ => kW_13_19
    | k + 20, hk => absurd hk (by show ¬ k + 20 < 20; omega)
  | 14, _ => exact match k, hk with
    | 0, _ => kW_14_0
    | 1, _ => kW_14_1
    | 2, _ => kW_14_2
    | 3, _ => kW_14_3
    | 4, _ => kW_14_4
    | 5, _ => kW_14_5
    | 6, _ => kW_14_6
    | 7, _ => kW_14_7
    | 8, _ => kW_14_8
    | 9, _ => kW_14_9
    | 10, _ => kW_14_10
    | 11, _ => kW_14_11
    | 12, _ => kW_14_12
    | 13, _ => kW_14_13
    | 14, _ => kW_14_14
    | 15, _ => kW_14_15
    | 16, _ => kW_14_16
    | 17, _ => kW_14_17
    | 18, _ => kW_14_18
    | 19, _ => kW_14_19
    | 20, _ => kW_14_20
    | 21, _ => kW_14_21
    | 22, _ => kW_14_22
    | 23, _ => kW_14_23
    | 24, _ => kW_14_24
    | 25, _ => kW_14_25
    | 26, _ => kW_14_26
    | 27, _ => kW_14_27
    | 28, _ => kW_14_28
    | 29, _ => kW_14_29
    | 30, _ => kW_14_30
    | 31, _ => kW_14_31
    | 32, _ => kW_14_32
    | 33, _ => kW_14_33
    | 34, _ => kW_14_34
    | 35, _ => kW_14_35
    | 36, _ => kW_14_36
    | 37, _ => kW_14_37
    | 38, _ => kW_14_38
    | 39, _ => kW_14_39
    | 40, _ => kW_14_40
    | 41, _ => kW_14_41
    | 42, _ => kW_14_42
    | 43, _ => kW_14_43
    | 44, _ => kW_14_44
    | 45, _ => kW_14_45
    | 46, _ => kW_14_46
    | 47, _ => kW_14_47
    | 48, _ => kW_14_48
    | 49, _ => kW_14_49
    | 50, _ => kW_14_50
    | 51, _ => kW_14_51
    | 52, _ => kW_14_52
    | 53, _ => kW_14_53
    | 54, _ => kW_14_54
    | 55, _ => kW_14_55
    | 56, _ => kW_14_56
    | 57, _ => kW_14_57
    | 58, _ => kW_14_58
    | 59, _ => kW_14_59
    | 60, _ => kW_14_60
    | 61, _ => kW_14_61
    | 62, _ => kW_14_62
    | 63, _ => kW_14_63
    | 64, _ => kW_14_64
    | 65, _ => kW_14_65
    | 66, _ => kW_14_66
    | 67, _ => kW_14_67
    | 68, _ => kW_14_68
    | 69, _ => kW_14_69
    | 70, _ => kW_14_70
    | 71, _ => kW_14_71
    | 72, _ => kW_14_72
    | 73, _ => kW_14_73
    | 74, _ => kW_14_74
    | 75, _ => kW_14_75
    | 76, _ => kW_14_76
    | 77, _ => kW_14_77
    | 78, _ => kW_14_78
    | 79, _ => kW_14_79
    | k + 80, hk => absurd hk (by show ¬ k + 80 < 80; omega)
  | n + 15, h => exact absurd h (by omega)
theorem kTy : ∀ v k : Nat, v < 15 → k < q_N v → parseFieldDescriptor (q_T v k).2.2.1 = some (q_Ty v k) := by
  intro v k h hk
  match v, h with
  | 0, _ => exact tyJx4a65c_ok k hk
  | 1, _ => exact tyX0_ok k hk
  | 2, _ => exact tyX1_ok k hk
  | 3, _ => exact tyX2_ok k hk
  | 4, _ => exact tyX3_ok k hk
  | 5, _ => exact tyX4_ok k hk
  | 6, _ => exact tyX5_ok k hk
  | 7, _ => exact tyX6_ok k hk
  | 8, _ => exact tyX7_ok k hk
  | 9, _ => exact tyX8_ok k hk
  | 10, _ => exact tyX9_ok k hk
  | 11, _ => exact tyX10_ok k hk
  | 12, _ => exact tyX11_ok k hk
  | 13, _ => exact tyX12_ok k hk
  | 14, _ => exact tyX13_ok k hk
  | n + 15, h => exact absurd h (by omega)
theorem kNm : ∀ v : Nat, v < 15 → ∀ a, a < q_N v → ∀ b, b < q_N v → a ≠ b → (q_T v a).2.1 ≠ (q_T v b).2.1 := by
  intro v h
  match v, h with
  | 0, _ => exact nmJx4a65c
  | 1, _ => exact nmX0
  | 2, _ => exact nmX1
  | 3, _ => exact nmX2
  | 4, _ => exact nmX3
  | 5, _ => exact nmX4
  | 6, _ => exact nmX5
  | 7, _ => exact nmX6
  | 8, _ => exact nmX7
  | 9, _ => exact nmX8
  | 10, _ => exact nmX9
  | 11, _ => exact nmX10
  | 12, _ => exact nmX11
  | 13, _ => exact nmX12
  | 14, _ => exact nmX13
  | n + 15, h => exact absurd h (by omega)
def q_lX (o i : Nat) : Option (Nat × Nat × Nat) := match o, i with
  | 13, 422 => some (1, 424, 426)
  | 13, 439 => some (2, 441, 443)
  | 13, 429 => some (3, 431, 433)
  | 13, 434 => some (4, 436, 438)
  | 13, 444 => some (5, 446, 448)
  | _, _ => none
def q_xn : Nat → String := fun k => match k with
  | 1 => "java/lang/IllegalArgumentException"
  | 2 => "java/lang/UnsupportedOperationException"
  | 3 => "java/lang/IndexOutOfBoundsException"
  | 4 => "java/util/NoSuchElementException"
  | _ => "java/lang/IllegalStateException"
def q_lH (o i : Nat) : Option Nat := match o, i with
  | 20, 13 => some 1
  | 20, 15 => some 2
  | 20, 24 => some 3
  | 20, 26 => some 4
  | 20, 100 => some 5
  | _, _ => none
theorem kH : ∀ (o i v : Nat), q_lH o i = some v → Cond.classLink (q_on o) i (q_xn v) ∈ lw_tbl := by
  intro o i v h; unfold q_lH at h; split at h
  · cases h; exact (List.mem_of_getElem? (i := 621) (by decide +kernel))
  · cases h; exact (List.mem_of_getElem? (i := 622) (by decide +kernel))
  · cases h; exact (List.mem_of_getElem? (i := 827) (by decide +kernel))
  · cases h; exact (List.mem_of_getElem? (i := 828) (by decide +kernel))
  · cases h; exact (List.mem_of_getElem? (i := 1384) (by decide +kernel))
  · cases h
def q_py : Nat → MethodName := fun k => match k with
  | 0 => ⟨"java/lang/Object", "<init>", "()V"⟩
  | 1 => ⟨"java/lang/Math", "max", "(II)I"⟩
  | 2 => ⟨"java/lang/Math", "min", "(II)I"⟩
  | 3 => ⟨"java/lang/Math", "floorMod", "(II)I"⟩
  | 4 => ⟨"java/lang/System", "arraycopy", "(Ljava/lang/Object;ILjava/lang/Object;II)V"⟩
  | 5 => ⟨"[I", "clone", "()Ljava/lang/Object;"⟩
  | 6 => ⟨"java/util/ArrayList", "<init>", "()V"⟩
  | 7 => ⟨"java/util/ArrayList", "size", "()I"⟩
  | 8 => ⟨"java/util/ArrayList", "get", "(I)Ljava/lang/Object;"⟩
  | 9 => ⟨"java/util/ArrayList", "add", "(Ljava/lang/Object;)Z"⟩
  | 10 => ⟨"java/lang/String", "length", "()I"⟩
  | _ => ⟨"java/lang/String", "charAt", "(I)C"⟩
def q_lP (o i : Nat) : Option Nat := match o, i with
  | 13, 1 => some 0
  | 11, 3 => some 0
  | 9, 3 => some 0
  | 9, 9 => some 1
  | 2, 3 => some 0
  | 2, 15 => some 5
  | 4, 3 => some 0
  | 10, 3 => some 0
  | 3, 3 => some 0
  | 12, 3 => some 0
  | 1, 3 => some 0
  | 13, 85 => some 6
  | 7, 3 => some 0
  | 8, 1 => some 0
  | 6, 3 => some 0
  | 3, 42 => some 2
  | 13, 237 => some 7
  | 13, 449 => some 8
  | 11, 36 => some 10
  | 11, 41 => some 11
  | 13, 456 => some 2
  | 4, 38 => some 1
  | 10, 45 => some 2
  | 10, 84 => some 4
  | 12, 29 => some 2
  | 12, 51 => some 1
  | 2, 23 => some 4
  | 5, 3 => some 0
  | 5, 34 => some 1
  | 13, 453 => some 9
  | 22, 304 => some 2
  | 22, 150 => some 4
  | 13, 520 => some 1
  | 7, 53 => some 1
  | 8, 40 => some 3
  | 8, 35 => some 2
  | 14, 3 => some 0
  | 14, 181 => some 10
  | 14, 187 => some 11
  | 14, 238 => some 1
  | 14, 305 => some 2
  | 14, 462 => some 3
  | _, _ => none
theorem kP : ∀ (o i v : Nat), q_lP o i = some v → Cond.methodLink (q_on o) i (q_py v) ∈ lw_tbl := by
  intro o i v h; unfold q_lP at h; split at h
  · cases h; exact (List.mem_of_getElem? (i := 123) (by decide +kernel))
  · cases h; exact (List.mem_of_getElem? (i := 131) (by decide +kernel))
  · cases h; exact (List.mem_of_getElem? (i := 156) (by decide +kernel))
  · cases h; exact (List.mem_of_getElem? (i := 157) (by decide +kernel))
  · cases h; exact (List.mem_of_getElem? (i := 179) (by decide +kernel))
  · cases h; exact (List.mem_of_getElem? (i := 182) (by decide +kernel))
  · cases h; exact (List.mem_of_getElem? (i := 201) (by decide +kernel))
  · cases h; exact (List.mem_of_getElem? (i := 231) (by decide +kernel))
  · cases h; exact (List.mem_of_getElem? (i := 265) (by decide +kernel))
  · cases h; exact (List.mem_of_getElem? (i := 285) (by decide +kernel))
  · cases h; exact (List.mem_of_getElem? (i := 324) (by decide +kernel))
  · cases h; exact (List.mem_of_getElem? (i := 337) (by decide +kernel))
  · cases h; exact (List.mem_of_getElem? (i := 366) (by decide +kernel))
  · cases h; exact (List.mem_of_getElem? (i := 404) (by decide +kernel))
  · cases h; exact (List.mem_of_getElem? (i := 427) (by decide +kernel))
  · cases h; exact (List.mem_of_getElem? (i := 568) (by decide +kernel))
  · cases h; exact (List.mem_of_getElem? (i := 595) (by decide +kernel))
  · cases h; exact (List.mem_of_getElem? (i := 603) (by decide +kernel))
  · cases h; exact (List.mem_of_getElem? (i := 766) (by decide +kernel))
  · cases h; exact (List.mem_of_getElem? (i := 776) (by decide +kernel))
  · cases h; exact (List.mem_of_getElem? (i := 879) (by decide +kernel))
  · cases h; exact (List.mem_of_getElem? (i := 888) (by decide +kernel))
  · cases h; exact (List.mem_of_getElem? (i := 931) (by decide +kernel))
  · cases h; exact (List.mem_of_getElem? (i := 941) (by decide +kernel))
  · cases h; exact (List.mem_of_getElem? (i := 1012) (by decide +kernel))
  · cases h; exact (List.mem_of_getElem? (i := 1028) (by decide +kernel))
  · cases h; exact (List.mem_of_getElem? (i := 1092) (by decide +kernel))
  · cases h; exact (List.mem_of_getElem? (i := 1149) (by decide +kernel))
  · cases h; exact (List.mem_of_getElem? (i := 1152) (by decide +kernel))
  · cases h; exact (List.mem_of_getElem? (i := 1235) (by decide +kernel))
  · cases h; exact (List.mem_of_getElem? (i := 1292) (by decide +kernel))
  · cases h; exact (List.mem_of_getElem? (i := 1293) (by decide +kernel))
  · cases h; exact (List.mem_of_getElem? (i := 1458) (by decide +kernel))
  · cases h; exact (List.mem_of_getElem? (i := 1494) (by decide +kernel))
  · cases h; exact (List.mem_of_getElem? (i := 1560) (by decide +kernel))
  · cases h; exact (List.mem_of_getElem? (i := 1563) (by decide +kernel))
  · cases h; exact (List.mem_of_getElem? (i := 1584) (by decide +kernel))
  · cases h; exact (List.mem_of_getElem? (i := 1875) (by decide +kernel))
  · cases h; exact (List.mem_of_getElem? (i := 1876) (by decide +kernel))
  · cases h; exact (List.mem_of_getElem? (i := 1927) (by decide +kernel))
  · cases h; exact (List.mem_of_getElem? (i := 1981) (by decide +kernel))
  · cases h; exact (List.mem_of_getElem? (i := 2191) (by decide +kernel))
  · cases h
def q_lS (o i : Nat) : Option Nat := match o, i with
  | 2, 9 => some 1
  | 10, 73 => some 2
  | _, _ => none
end
section
/-! THE PURE MACHINE: a memory of numbers and references by cell and place, and what the bytecode does to it. Its answers are sound for the machine (part 07). -/
/-- numbers, references, longs by cell and place; kind and length of a cell; how many cells; cells and slots made -/
abbrev p_M : Type := (Nat → Nat → Int32) × (Nat → Nat → Option Nat) × (Nat → Nat → Int64) × (Nat → Nat) × (Nat → Nat) × Nat × Nat × Nat
def mI (μ : p_M) : Nat → Nat → Int32 := μ.1
def mR (μ : p_M) : Nat → Nat → Option Nat := μ.2.1
def mJ (μ : p_M) : Nat → Nat → Int64 := μ.2.2.1
def mK (μ : p_M) : Nat → Nat := μ.2.2.2.1
def mL (μ : p_M) : Nat → Nat := μ.2.2.2.2.1
def mN (μ : p_M) : Nat := μ.2.2.2.2.2.1
def mC (μ : p_M) : Nat := μ.2.2.2.2.2.2.1
def mS (μ : p_M) : Nat := μ.2.2.2.2.2.2.2
/-- a table by two numbers, another value at (a, k) -/
def p_up {α : Type} (f : Nat → Nat → α) (a k : Nat) (v : α) : Nat → Nat → α := va_up f a (va_up (f a) k v)
def sI (μ : p_M) (a k : Nat) (v : Int32) : p_M := (p_up μ.1 a k v, μ.2)
def sR (μ : p_M) (a k : Nat) (v : Option Nat) : p_M := (μ.1, p_up μ.2.1 a k v, μ.2.2)
def sJ (μ : p_M) (a k : Nat) (v : Int64) : p_M := (μ.1, μ.2.1, p_up μ.2.2.1 a k v, μ.2.2.2)
/-- a whole row of numbers -/
def sA (μ : p_M) (a : Nat) (f : Nat → Int32) : p_M := (va_up μ.1 a f, μ.2)
/-- a new cell of a kind, with its length and its slots -/
def sN (μ : p_M) (k len sl : Nat) : p_M := (va_up (mI μ) (mN μ) (fun _ => 0), va_up (mR μ) (mN μ) (fun _ => none), va_up (mJ μ) (mN μ) (fun _ => 0), va_up (mK μ) (mN μ) k, va_up (mL μ) (mN μ) len, mN μ + 1, mC μ + 1, mS μ + sl)
/-- cells made that nobody looks at any more -/
def sG (μ : p_M) (k n : Nat) : p_M := (μ.1, μ.2.1, μ.2.2.1, μ.2.2.2.1, μ.2.2.2.2.1, mN μ, mC μ + k, mS μ + n)
/-- kinds of arrays: 20 int, 21 byte, 22 long, 23 Look, 24 Machine, 25 Object, 26 int[] ; objects by the number of their class -/
def p_isR (ci k : Nat) : Bool := match q_Ty ci k with
  | .object _ => true
  | .array _ => true
  | _ => false
def p_isZ (ci k : Nat) : Bool := match q_Ty ci k with
  | .boolean => true
  | _ => false
/-- outer things: the script (0), two static arrays (1, 2), the texts (10 on) -/
abbrev p_X : Type := Nat → Nat × (Nat → Int32)
def p_E : Nat := 1000000
abbrev p_S : Type := Nat × List Value × List Value × p_M
def p_nx (pc : Nat) (lo st : List Value) (μ : p_M) : Option p_S := some (pc, lo, st, μ)
def p_jmp (c : Prop) [Decidable c] (pc : Nat) (off : Int) (lo st : List Value) (μ : p_M) : Option p_S :=
  if (pc : Int) + off < 0 then none else if c then some (((pc : Int) + off).toNat, lo, st, μ) else some (pc + 3, lo, st, μ)
def p_go (pc : Nat) (off : Int) (lo st : List Value) (μ : p_M) : Option p_S :=
  if (pc : Int) + off < 0 then none else some (((pc : Int) + off).toNat, lo, st, μ)
def p_i2 (f : Int32 → Int32 → Int32) (pc : Nat) (lo st : List Value) (μ : p_M) : Option p_S := match st with
  | .int y :: .int x :: r => some (pc + 1, lo, .int (f x y) :: r, μ)
  | _ => none
def p_l2 (f : Int64 → Int64 → Int64) (pc : Nat) (lo st : List Value) (μ : p_M) : Option p_S := match st with
  | .long y :: .long x :: r => some (pc + 1, lo, .long (f x y) :: r, μ)
  | _ => none
def p_if (c : ClassFile.Cond) (off : Int) (pc : Nat) (lo st : List Value) (μ : p_M) : Option p_S := match st with
  | .int x :: r => match c with
    | .eq => p_jmp (x = 0) pc off lo r μ
    | .ne => p_jmp (¬ x = 0) pc off lo r μ
    | .lt => p_jmp (x < 0) pc off lo r μ
    | .ge => p_jmp (0 ≤ x) pc off lo r μ
    | .gt => p_jmp (0 < x) pc off lo r μ
    | .le => p_jmp (x ≤ 0) pc off lo r μ
  | _ => none
def p_icmp (c : ClassFile.Cond) (off : Int) (pc : Nat) (lo st : List Value) (μ : p_M) : Option p_S := match st with
  | .int y :: .int x :: r => match c with
    | .eq => p_jmp (x = y) pc off lo r μ
    | .ne => p_jmp (¬ x = y) pc off lo r μ
    | .lt => p_jmp (x < y) pc off lo r μ
    | .ge => p_jmp (y ≤ x) pc off lo r μ
    | .gt => p_jmp (y < x) pc off lo r μ
    | .le => p_jmp (x ≤ y) pc off lo r μ
  | _ => none
def p_ild (k len : Nat) (pc : Nat) (lo st : List Value) (μ : p_M) : Option p_S := match lo[k]? with
  | some (.int x) => some (pc + len, lo, .int x :: st, μ)
  | _ => none
def p_ald (k len : Nat) (pc : Nat) (lo st : List Value) (μ : p_M) : Option p_S := match lo[k]? with
  | some (.ref a) => some (pc + len, lo, .ref a :: st, μ)
  | _ => none
def p_ist (k len : Nat) (pc : Nat) (lo st : List Value) (μ : p_M) : Option p_S := match st with
  | .int x :: r => if k < lo.length then some (pc + len, lo.set k (.int x), r, μ) else none
  | _ => none
def p_ast (k len : Nat) (pc : Nat) (lo st : List Value) (μ : p_M) : Option p_S := match st with
  | .ref x :: r => if k < lo.length then some (pc + len, lo.set k (.ref x), r, μ) else none
  | .retAddr z :: r => if k < lo.length then some (pc + len, lo.set k (.retAddr z), r, μ) else none
  | _ => none
def p_iinc (k : Nat) (n : Int) (pc : Nat) (lo st : List Value) (μ : p_M) : Option p_S := match lo[k]? with
  | some (.int x) => some (pc + 3, lo.set k (.int (x + Int32.ofInt n)), st, μ)
  | _ => none
/-- reading an int (byte) at a place of an array -/
def p_iald (X : p_X) (ty : Nat) (pc : Nat) (lo st : List Value) (μ : p_M) : Option p_S := match st with
  | .int i :: .ref a :: r => if p_E ≤ a then (if ty = 20 ∧ ¬ i < 0 ∧ i.toNatClampNeg < (X (a - p_E)).1 ∧ a - p_E < 3 then some (pc + 1, lo, .int ((X (a - p_E)).2 i.toNatClampNeg) :: r, μ) else none) else if mK μ a = ty ∧ ¬ i < 0 ∧ i.toNatClampNeg < mL μ a ∧ a < mN μ then some (pc + 1, lo, .int (mI μ a i.toNatClampNeg) :: r, μ) else none
  | _ => none
def p_iast (ty : Nat) (pc : Nat) (lo st : List Value) (μ : p_M) : Option p_S := match st with
  | .int x :: .int i :: .ref a :: r => if mK μ a = ty ∧ ¬ i < 0 ∧ i.toNatClampNeg < mL μ a ∧ a < mN μ then some (pc + 1, lo, r, sI μ a i.toNatClampNeg (if ty = 21 then x.toInt8.toInt32 else x)) else none
  | _ => none
def p_lald (pc : Nat) (lo st : List Value) (μ : p_M) : Option p_S := match st with
  | .int i :: .ref a :: r => if mK μ a = 22 ∧ ¬ i < 0 ∧ i.toNatClampNeg < mL μ a ∧ a < mN μ then some (pc + 1, lo, .long (mJ μ a i.toNatClampNeg) :: r, μ) else none
  | _ => none
def p_last (pc : Nat) (lo st : List Value) (μ : p_M) : Option p_S := match st with
  | .long x :: .int i :: .ref a :: r => if mK μ a = 22 ∧ ¬ i < 0 ∧ i.toNatClampNeg < mL μ a ∧ a < mN μ then some (pc + 1, lo, r, sJ μ a i.toNatClampNeg x) else none
  | _ => none
def p_aald (pc : Nat) (lo st : List Value) (μ : p_M) : Option p_S := match st with
  | .int i :: .ref a :: r => if 23 ≤ mK μ a ∧ mK μ a ≤ 26 ∧ ¬ i < 0 ∧ i.toNatClampNeg < mL μ a ∧ a < mN μ then some (pc + 1, lo, va_rf (mR μ a i.toNatClampNeg) :: r, μ) else none
  | _ => none
def p_aast (pc : Nat) (lo st : List Value) (μ : p_M) : Option p_S := match st with
  | .ref v :: .int i :: .ref a :: r => if ((mK μ a = 23 ∧ mK μ v = 4) ∨ (mK μ a = 24 ∧ mK μ v = 6)) ∧ v < mN μ ∧ ¬ i < 0 ∧ i.toNatClampNeg < mL μ a ∧ a < mN μ then some (pc + 1, lo, r, sR μ a i.toNatClampNeg (some v)) else none
  | _ => none
def p_alen (X : p_X) (pc : Nat) (lo st : List Value) (μ : p_M) : Option p_S := match st with
  | .ref a :: r => if p_E ≤ a then (if a - p_E < 3 then some (pc + 1, lo, .int (nI (X (a - p_E)).1) :: r, μ) else none) else if 20 ≤ mK μ a ∧ mK μ a ≤ 26 ∧ a < mN μ then some (pc + 1, lo, .int (nI (mL μ a)) :: r, μ) else none
  | _ => none
def p_getf (M : q_M) (i pc : Nat) (lo st : List Value) (μ : p_M) : Option p_S := match st with
  | .ref a :: r => match q_lF (q_o M) i with
    | some e => if mK μ a = e.2.2.1 ∧ a < mN μ then some (pc + 3, lo, (if p_isR e.2.2.1 e.2.2.2.1 then va_rf (mR μ a e.2.2.2.1) else .int (mI μ a e.2.2.2.1)) :: r, μ) else none
    | none => none
  | _ => none
/-- may this method write this field: a final one in its own constructor alone -/
def p_may (M : q_M) (ci k : Nat) : Bool := if (q_T ci k).2.2.2 then q_o M == ci && (q_y M).name == "<init>" && (q_T ci k).1 == q_on (q_o M) else true
def p_putf (M : q_M) (i pc : Nat) (lo st : List Value) (μ : p_M) : Option p_S := match st with
  | .int x :: .ref a :: r => match q_lF (q_o M) i with
    | some e => if mK μ a = e.2.2.1 ∧ a < mN μ ∧ p_isR e.2.2.1 e.2.2.2.1 = false ∧ (p_isZ e.2.2.1 e.2.2.2.1 = true → x = 0 ∨ x = 1) ∧ p_may M e.2.2.1 e.2.2.2.1 = true ∧ (e.2.2.2.2 = true → (q_T e.2.2.1 e.2.2.2.1).2.2.2 = false) then some (pc + 3, lo, r, sI μ a e.2.2.2.1 x) else none
    | none => none
  | .ref b :: .ref a :: r => match q_lF (q_o M) i with
    | some e => if mK μ a = e.2.2.1 ∧ a < mN μ ∧ p_isR e.2.2.1 e.2.2.2.1 = true ∧ p_may M e.2.2.1 e.2.2.2.1 = true ∧ (e.2.2.2.2 = true → (q_T e.2.2.1 e.2.2.2.1).2.2.2 = false) then some (pc + 3, lo, r, sR μ a e.2.2.2.1 (some b)) else none
    | none => none
  | _ => none
def p_tsw (d lo' hi : Int) (offs : Array Int) (pc : Nat) (lo st : List Value) (μ : p_M) : Option p_S := match st with
  | .int x :: r => if x.toInt < lo' ∨ hi < x.toInt then p_go pc d lo r μ else match offs[(x.toInt - lo').toNat]? with
    | some off => p_go pc off lo r μ
    | none => none
  | _ => none
def p_lsw (d : Int) (ps : Array (Int × Int)) (pc : Nat) (lo st : List Value) (μ : p_M) : Option p_S := match st with
  | .int x :: r => if (ps.toList.zip (ps.toList.drop 1)).all (fun (a, next) => a.1 < next.1) = true then p_go pc (Op.lookupswitch.offset ps.toList d x.toInt) lo r μ else none
  | _ => none
/-- one instruction that calls nothing -/
def p_exec (X : p_X) (M : q_M) (i : Instr) (len pc : Nat) (lo st : List Value) (μ : p_M) : Option p_S := match i with
  | .iconst n => if len = 1 then p_nx (pc + 1) lo (.int (Int32.ofInt n) :: st) μ else none
  | .bipush n => if len = 2 then p_nx (pc + 2) lo (.int (Int8.ofInt n).toInt32 :: st) μ else none
  | .sipush n => if len = 3 then p_nx (pc + 3) lo (.int (Int16.ofInt n).toInt32 :: st) μ else none
  | .lconst n => if len = 1 then p_nx (pc + 1) lo (.long (Int64.ofNat (n : Nat)) :: st) μ else none
  | .iload_n k => if len = 1 then p_ild k 1 pc lo st μ else none
  | .iload k => if len = 2 then p_ild k 2 pc lo st μ else none
  | .aload_n k => if len = 1 then p_ald k 1 pc lo st μ else none
  | .aload k => if len = 2 then p_ald k 2 pc lo st μ else none
  | .istore_n k => if len = 1 then p_ist k 1 pc lo st μ else none
  | .istore k => if len = 2 then p_ist k 2 pc lo st μ else none
  | .astore_n k => if len = 1 then p_ast k 1 pc lo st μ else none
  | .astore k => if len = 2 then p_ast k 2 pc lo st μ else none
  | .iinc k n => if len = 3 then p_iinc k n pc lo st μ else none
  | .iadd => if len = 1 then p_i2 (fun x y => x + y) pc lo st μ else none
  | .isub => if len = 1 then p_i2 (fun x y => x - y) pc lo st μ else none
  | .imul => if len = 1 then p_i2 (fun x y => x * y) pc lo st μ else none
  | .iand => if len = 1 then p_i2 (fun x y => x &&& y) pc lo st μ else none
  | .ior => if len = 1 then p_i2 (fun x y => x ||| y) pc lo st μ else none
  | .ixor => if len = 1 then p_i2 (fun x y => x ^^^ y) pc lo st μ else none
  | .ishl => if len = 1 then p_i2 (fun x y => x <<< (y &&& 31)) pc lo st μ else none
  | .ishr => if len = 1 then p_i2 (fun x y => x >>> (y &&& 31)) pc lo st μ else none
  | .iushr => if len = 1 then p_i2 (fun x y => (x.toUInt32 >>> (y.toUInt32 &&& Int32.toUInt32 31)).toInt32) pc lo st μ else none
  | .idiv => if len = 1 then (match st with
    | .int y :: .int x :: r => if y = 0 then none else some (pc + 1, lo, .int (x / y) :: r, μ)
    | _ => none) else none
  | .irem => if len = 1 then (match st with
    | .int y :: .int x :: r => if y = 0 then none else some (pc + 1, lo, .int (x - x / y * y) :: r, μ)
    | _ => none) else none
  | .ladd => if len = 1 then p_l2 (fun x y => x + y) pc lo st μ else none
  | .lsub => if len = 1 then p_l2 (fun x y => x - y) pc lo st μ else none
  | .lmul => if len = 1 then p_l2 (fun x y => x * y) pc lo st μ else none
  | .ldiv => if len = 1 then (match st with
    | .long y :: .long x :: r => if y = 0 then none else some (pc + 1, lo, .long (x / y) :: r, μ)
    | _ => none) else none
  | .lcmp => if len = 1 then (match st with
    | .long y :: .long x :: r => some (pc + 1, lo, .int (lg_cmp x y) :: r, μ)
    | _ => none) else none
  | .i2l => if len = 1 then (match st with
    | .int x :: r => some (pc + 1, lo, .long x.toInt64 :: r, μ)
    | _ => none) else none
  | .l2i => if len = 1 then (match st with
    | .long x :: r => some (pc + 1, lo, .int x.toInt32 :: r, μ)
    | _ => none) else none
  | .i2b => if len = 1 then (match st with
    | .int x :: r => some (pc + 1, lo, .int x.toInt8.toInt32 :: r, μ)
    | _ => none) else none
  | .dup => if len = 1 then (match st with
    | .int x :: r => some (pc + 1, lo, .int x :: .int x :: r, μ)
    | .ref x :: r => some (pc + 1, lo, .ref x :: .ref x :: r, μ)
    | _ => none) else none
  | .dup_x1 => if len = 1 then (match st with
    | .int x :: .ref y :: r => some (pc + 1, lo, .int x :: .ref y :: .int x :: r, μ)
    | _ => none) else none
  | .dup2 => if len = 1 then (match st with
    | .int x :: .ref y :: r => some (pc + 1, lo, .int x :: .ref y :: .int x :: .ref y :: r, μ)
    | _ => none) else none
  | .pop => if len = 1 then (match st with
    | .int _ :: r => some (pc + 1, lo, r, μ)
    | .ref _ :: r => some (pc + 1, lo, r, μ)
    | _ => none) else none
  | .ifCond c off => if len = 3 then p_if c off pc lo st μ else none
  | .if_icmp c off => if len = 3 then p_icmp c off pc lo st μ else none
  | .goto off => if len = 3 then p_go pc off lo st μ else none
  | .tableswitch d l h offs => p_tsw d l h offs pc lo st μ
  | .lookupswitch d ps => p_lsw d ps pc lo st μ
  | .iaload => if len = 1 then p_iald X 20 pc lo st μ else none
  | .baload => if len = 1 then p_iald X 21 pc lo st μ else none
  | .iastore => if len = 1 then p_iast 20 pc lo st μ else none
  | .bastore => if len = 1 then p_iast 21 pc lo st μ else none
  | .laload => if len = 1 then p_lald pc lo st μ else none
  | .lastore => if len = 1 then p_last pc lo st μ else none
  | .aaload => if len = 1 then p_aald pc lo st μ else none
  | .aastore => if len = 1 then p_aast pc lo st μ else none
  | .arraylength => if len = 1 then p_alen X pc lo st μ else none
  | .getfield i => if len = 3 then p_getf M i pc lo st μ else none
  | .putfield i => if len = 3 then p_putf M i pc lo st μ else none
  | _ => none
/-- instructions that read the pool, or make a cell -/
def p_pool (M : q_M) (i : Instr) (len pc : Nat) (lo st : List Value) (μ : p_M) : Option p_S := match i with
  | .ldc k => if len = 2 then (match q_lK (q_o M) k with
    | some v => some (pc + 2, lo, .int v :: st, μ)
    | none => match q_lStr (q_o M) k with
      | some v => some (pc + 2, lo, .ref (p_E + 10 + v.1) :: st, μ)
      | none => none) else none
  | .ldc_w k => if len = 3 then (match q_lK (q_o M) k with
    | some v => some (pc + 3, lo, .int v :: st, μ)
    | none => match q_lStr (q_o M) k with
      | some v => some (pc + 3, lo, .ref (p_E + 10 + v.1) :: st, μ)
      | none => none) else none
  | .ldc2_w k => if len = 3 then (match q_lKL (q_o M) k with
    | some v => some (pc + 3, lo, .long v :: st, μ)
    | none => none) else none
  | .getstatic k => if len = 3 then (match q_lS (q_o M) k with
    | some v => some (pc + 3, lo, .ref (p_E + v) :: st, μ)
    | none => none) else none
  | .new k => if len = 3 then (match q_lC (q_o M) k with
    | some v => some (pc + 3, lo, .ref (mN μ) :: st, sN μ v 0 (q_N v))
    | none => none) else none
  | .newarray t => if len = 2 then (match st with
    | .int n :: r => if n < 0 ∨ 100000 < n.toNatClampNeg then none else match t with
      | .int => some (pc + 2, lo, .ref (mN μ) :: r, sN μ 20 n.toNatClampNeg n.toNatClampNeg)
      | .byte => some (pc + 2, lo, .ref (mN μ) :: r, sN μ 21 n.toNatClampNeg n.toNatClampNeg)
      | .long => some (pc + 2, lo, .ref (mN μ) :: r, sN μ 22 n.toNatClampNeg n.toNatClampNeg)
      | _ => none
    | _ => none) else none
  | .anewarray k => if len = 3 then (match st with
    | .int n :: r => if n < 0 ∨ 100000 < n.toNatClampNeg then none else match q_lC (q_o M) k with
      | some 4 => some (pc + 3, lo, .ref (mN μ) :: r, sN μ 23 n.toNatClampNeg n.toNatClampNeg)
      | some 6 => some (pc + 3, lo, .ref (mN μ) :: r, sN μ 24 n.toNatClampNeg n.toNatClampNeg)
      | _ => none
    | _ => none) else none
  | .multianewarray k dm => if len = 4 ∧ dm = 2 ∧ q_o M = 8 ∧ k = 20 then (match st with
    | .int 96 :: .int 2 :: r => some (pc + 4, lo, .ref (mN μ) :: r, sR (sR (sN (sN (sN μ 26 2 2) 20 96 96) 20 96 96) (mN μ) 0 (some (mN μ + 1))) (mN μ) 1 (some (mN μ + 2)))
    | _ => none) else none
  | .checkcast k => if len = 3 then (match st with
    | .ref a :: r => if (q_o M = 2 ∧ k = 16 ∧ mK μ a = 20 ∧ a < mN μ) ∨ (q_lC (q_o M) k = some 5 ∧ mK μ a = 5 ∧ a < mN μ) then some (pc + 3, lo, .ref a :: r, μ) else none
    | _ => none) else none
  | _ => none
/-- the end of a method: what it returns -/
def p_ret (M : q_M) (i : Instr) (len : Nat) (st : List Value) : Option (Option Value) := match i with
  | .return_ => if len = 1 ∧ st = [] ∧ q_rt M = none then some none else none
  | .ireturn => if len = 1 then (match st with
    | [.int x] => (match q_rt M with
      | some .int => some (some (.int x))
      | some .boolean => if x = 0 ∨ x = 1 then some (some (.int x)) else none
      | _ => none)
    | _ => none) else none
  | .areturn => if len = 1 then (match st with
    | [.ref a] => (match q_rt M with
      | some (.object _) => some (some (.ref a))
      | _ => none)
    | _ => none) else none
  | _ => none
/-- 'throw new E(text)': the number of E -/
def p_thr (M : q_M) (i : Instr) (pc : Nat) (st : List Value) : Option Nat := match i with
  | .new k => match q_lX (q_o M) k with
    | some v => if decode (q_cc M) (pc + 3) = .ok (.dup, 1) ∧ decode (q_cc M) (pc + 4) = .ok (.ldc_w v.2.1, 3) ∧ decode (q_cc M) (pc + 7) = .ok (.invokespecial v.2.2, 3) ∧ decode (q_cc M) (pc + 10) = .ok (.athrow, 1) ∧ q_hh M = [] ∧ st = [] then some v.1 else none
    | none => none
  | _ => none
/-- where a method catches what comes out of the instruction at pc -/
def p_hnd (M : q_M) (pc E : Nat) : List (Nat × Nat × Nat × Nat) → Option Nat
  | [] => none
  | h :: t => if h.1 ≤ pc ∧ pc < h.2.1 then (match q_lH (q_o M) h.2.2.2 with
    | some F => if F = E then some h.2.2.1 else p_hnd M pc E t
    | none => none) else p_hnd M pc E t
def p_fm (x y : Int32) : Int32 := let r := x - x / y * y; if (r ^^^ y) < 0 ∧ ¬ r = 0 then r + y else r
/-- what a primitive answers and does -/
def p_prim (X : p_X) (k : Nat) (as : List Value) (μ : p_M) : Option (Option Value × p_M) := match k with
  | 0 => (match as with
    | [.ref a] => if a < mN μ ∧ mK μ a < 15 then some (none, μ) else none
    | _ => none)
  | 1 => (match as with
    | [.int x, .int y] => some (some (.int (if x < y then y else x)), μ)
    | _ => none)
  | 2 => (match as with
    | [.int x, .int y] => some (some (.int (if y < x then y else x)), μ)
    | _ => none)
  | 3 => (match as with
    | [.int x, .int y] => if y = 0 then none else some (some (.int (p_fm x y)), μ)
    | _ => none)
  | 4 => (match as with
    | [.ref a, .int s, .ref b, .int t, .int n] => if s < 0 ∨ t < 0 ∨ n < 0 ∨ ¬ mK μ b = 20 ∨ mN μ ≤ b ∨ mL μ b < t.toNatClampNeg + n.toNatClampNeg then none else if p_E ≤ a then (if a - p_E < 3 ∧ s.toNatClampNeg + n.toNatClampNeg ≤ (X (a - p_E)).1 then some (none, sA μ b (va_cpy (X (a - p_E)).2 (mI μ b) s.toNatClampNeg t.toNatClampNeg n.toNatClampNeg)) else none) else if mK μ a = 20 ∧ a < mN μ ∧ s.toNatClampNeg + n.toNatClampNeg ≤ mL μ a then some (none, sA μ b (va_cpy (mI μ a) (mI μ b) s.toNatClampNeg t.toNatClampNeg n.toNatClampNeg)) else none
    | _ => none)
  | 5 => (match as with
    | [.ref a] => if a = p_E + 1 then some (some (.ref (mN μ)), sA (sN μ 20 (X 1).1 (X 1).1) (mN μ) (fun j => if j < (X 1).1 then (X 1).2 j else 0)) else none
    | _ => none)
  | 6 => (match as with
    | [.ref a] => if a < mN μ ∧ mK μ a = 0 then some (none, sR μ a 1 (some (p_E + 3))) else none
    | _ => none)
  | 7 => (match as with
    | [.ref a] => if a < mN μ ∧ mK μ a = 0 then some (some (.int (mI μ a 2)), μ) else none
    | _ => none)
  | 8 => (match as with
    | [.ref a, .int i] => if a < mN μ ∧ mK μ a = 0 ∧ ¬ i < 0 ∧ i < mI μ a 2 then (match mR μ a 1 with
      | some b => if b < mN μ ∧ mK μ b = 25 ∧ i.toNatClampNeg < mL μ b then some (some (va_rf (mR μ b i.toNatClampNeg)), μ) else none
      | none => none) else none
    | _ => none)
  | 9 => (match as with
    | [.ref a, .ref v] => if a < mN μ ∧ mK μ a = 0 ∧ v < mN μ ∧ mK μ v = 5 ∧ ¬ mI μ a 2 < 0 ∧ mI μ a 2 < 1000 then (match mR μ a 1 with
      | some b => if b = p_E + 3 ∧ mI μ a 2 = 0 then some (some (.int 1), sI (sI (sR (sR (sN μ 25 10 10) (mN μ) 0 (some v)) a 1 (some (mN μ))) a 0 (mI μ a 0 + 1)) a 2 1)
        else if b < mN μ ∧ mK μ b = 25 ∧ (mI μ a 2).toNatClampNeg < mL μ b then some (some (.int 1), sI (sI (sR μ b (mI μ a 2).toNatClampNeg (some v)) a 0 (mI μ a 0 + 1)) a 2 (mI μ a 2 + 1))
        else if b < mN μ ∧ mK μ b = 25 ∧ (mI μ a 2).toNatClampNeg = mL μ b ∧ 2 ≤ mL μ b ∧ mL μ b ≤ 1000 then
          some (some (.int 1), sI (sI (sR (sR ((mI (sN μ 25 (mL μ b + mL μ b / 2) (mL μ b + mL μ b / 2)), va_up (mR (sN μ 25 (mL μ b + mL μ b / 2) (mL μ b + mL μ b / 2))) (mN μ) (fun j => if j < mL μ b then mR μ b j else none), (sN μ 25 (mL μ b + mL μ b / 2) (mL μ b + mL μ b / 2)).2.2)) (mN μ) (mL μ b) (some v)) a 1 (some (mN μ))) a 0 (mI μ a 0 + 1)) a 2 (mI μ a 2 + 1))
        else none
      | none => none) else none
    | _ => none)
  | 10 => (match as with
    | [.ref a] => if p_E + 10 ≤ a then (match q_txt[a - p_E - 10]? with
      | some t => some (some (.int (nI t.length)), μ)
      | none => none) else none
    | _ => none)
  | 11 => (match as with
    | [.ref a, .int i] => if p_E + 10 ≤ a ∧ ¬ i < 0 then (match q_txt[a - p_E - 10]? with
      | some t => (match t.toList[i.toNatClampNeg]? with
        | some c => some (some (.int (nI c.toNat)), μ)
        | none => none)
      | none => none) else none
    | _ => none)
  | _ => none
def p_cat (st : List Value) : Nat := (st.map fun v => v.category).sum
/-- the arguments on the stack, the first deepest, and the rest -/
def p_pop (n : Nat) (st : List Value) : Option (List Value × List Value) := if n ≤ st.length ∧ p_cat (st.drop n) ≤ 8 ∧ (st.take n).all (fun v => v.category == 1) = true then some ((st.take n).reverse, st.drop n) else none
/-- a call of a primitive: its number, arguments, rest -/
def p_callP (M : q_M) (i : Instr) (len : Nat) (st : List Value) : Option (Nat × List Value × List Value) := if len = 3 then (match i with
  | .invokestatic k => match q_lP (q_o M) k with
    | some 1 => (p_pop 2 st).map (fun r => (1, r))
    | some 2 => (p_pop 2 st).map (fun r => (2, r))
    | some 3 => (p_pop 2 st).map (fun r => (3, r))
    | some 4 => (p_pop 5 st).map (fun r => (4, r))
    | _ => none
  | .invokespecial k => match q_lP (q_o M) k with
    | some 0 => (p_pop 1 st).map (fun r => (0, r))
    | some 6 => (p_pop 1 st).map (fun r => (6, r))
    | _ => none
  | .invokevirtual k => match q_lP (q_o M) k with
    | some 5 => (p_pop 1 st).map (fun r => (5, r))
    | some 7 => (p_pop 1 st).map (fun r => (7, r))
    | some 8 => (p_pop 2 st).map (fun r => (8, r))
    | some 9 => (p_pop 2 st).map (fun r => (9, r))
    | some 10 => (p_pop 1 st).map (fun r => (10, r))
    | some 11 => (p_pop 2 st).map (fun r => (11, r))
    | _ => none
  | _ => none) else none
/-- a call of a method of ours: the link, arguments, rest -/
def p_call (M : q_M) (i : Instr) (len : Nat) (st : List Value) (μ : p_M) : Option (q_L × List Value × List Value) := if len = 3 then (match i with
  | .invokestatic k => match q_lM (q_o M) k with
    | some e => if e.2.2.1 = 1 then (p_pop (q_na e.2.2.2.2) st).map (fun r => (e, r)) else none
    | none => none
  | .invokespecial k => match q_lM (q_o M) k with
    | some e => if e.2.2.1 = 2 then (match p_pop (q_na e.2.2.2.2) st with
      | some (.ref a :: t, r) => if a < mN μ ∧ mK μ a = q_o e.2.2.2.2 then some (e, .ref a :: t, r) else none
      | _ => none) else none
    | none => none
  | .invokevirtual k => match q_lM (q_o M) k with
    | some e => if e.2.2.1 = 0 then (match p_pop (q_na e.2.2.2.2) st with
      | some (.ref a :: t, r) => if a < mN μ ∧ mK μ a = q_o e.2.2.2.2 ∧ q_o e.2.2.2.2 < 15 then some (e, .ref a :: t, r) else none
      | _ => none) else none
    | none => none
  | _ => none) else none
/-- the locals with which a method begins -/
def p_loc (M : q_M) (as : List Value) : List Value := as ++ List.replicate (q_ml M - as.length) (.double 0)
abbrev p_R : Type := (Nat × Option Value) × p_M
/-- the pure machine: n steps at most, calls d deep at most; (0, v): it returned v; (E + 1, none): it threw E -/
def p_run (X : p_X) : Nat → Nat → q_M → Nat → List Value → List Value → p_M → Option p_R
  | 0, _, _, _, _, _, _ => none
  | n + 1, d, M, pc, lo, st, μ => match decode (q_cc M) pc with
    | .error _ => none
    | .ok (i, len) => match p_exec X M i len pc lo st μ with
      | some q => p_run X n d M q.1 q.2.1 q.2.2.1 q.2.2.2
      | none => match p_pool M i len pc lo st μ with
        | some q => p_run X n d M q.1 q.2.1 q.2.2.1 q.2.2.2
        | none => match p_ret M i len st with
          | some v => some ((0, v), μ)
          | none => match p_thr M i pc st with
            | some E => if len = 3 then some ((E, none), sG μ 1 6) else none
            | none => match p_callP M i len st with
              | some (k, as, rest) => match p_prim X k as μ with
                | some (v, μ1) => p_run X n d M (pc + 3) lo (v.toList ++ rest) μ1
                | none => none
              | none => match p_call M i len st μ with
                | some (e, as, rest) => match d with
                  | 0 => none
                  | d1 + 1 => if e.2.2.1 = 1 ∨ q_hh e.2.2.2.2 = [] then (match p_run X n d1 e.2.2.2.2 0 (p_loc e.2.2.2.2 as) [] μ with
                    | some ((0, v), μ1) => p_run X n (d1 + 1) M (pc + 3) lo (v.toList ++ rest) μ1
                    | some ((E + 1, _), μ1) => if e.2.2.1 = 2 ∨ ¬ q_hh e.2.2.2.2 = [] then none else (match p_hnd M pc (E + 1) (q_hh M) with
                      | some h => p_run X n (d1 + 1) M h lo [.retAddr 0] μ1
                      | none => if q_hh M = [] then some ((E + 1, none), μ1) else none)
                    | none => none) else none
                | none => none
/-- it comes to an end, and of that Q holds -/
def p_Ev (X : p_X) (d : Nat) (M : q_M) (pc : Nat) (lo st : List Value) (μ : p_M) (Q : p_R → Prop) : Prop := ∃ n r, p_run X n d M pc lo st μ = some r ∧ Q r
end
section
/-! what the pure machine's things are on the heap -/
def q_tbl : List Cond := lw_tbl.filter goodWord
theorem q_tbl_in {w : Cond} (h : w ∈ lw_tbl) (g : goodWord w = true) : w ∈ q_tbl := List.mem_filter.mpr ⟨h, g⟩
/-- the address of a pure cell, or of an outer thing -/
def q_a (xa : Nat → Nat) (ad : List Nat) (i : Nat) : Option Nat := if i < p_E then ad[i]? else some (xa (i - p_E))
theorem q_a_mono {xa : Nat → Nat} {ad ad' : List Nat} {i a : Nat} (hp : ad <+: ad') (h : q_a xa ad i = some a) : q_a xa ad' i = some a := by
  obtain ⟨l, rfl⟩ := hp
  unfold q_a at h ⊢
  split at h
  · rename_i hi
    rw [if_pos hi, List.getElem?_append_left ((List.getElem?_eq_some_iff.mp h).1)]
    exact h
  · rename_i hi
    rw [if_neg hi]
    exact h
def q_ref (xa : Nat → Nat) (ad : List Nat) (r g : Option Nat) : Prop := match r with
  | none => g = none
  | some i => ∃ a, q_a xa ad i = some a ∧ g = some a
theorem q_ref_mono {xa : Nat → Nat} {ad ad' : List Nat} {r g : Option Nat} (hp : ad <+: ad') (h : q_ref xa ad r g) : q_ref xa ad' r g := by
  cases r with
  | none => exact h
  | some i => obtain ⟨a, h1, h2⟩ := h; exact ⟨a, q_a_mono hp h1, h2⟩
def q_v (xa : Nat → Nat) (ad : List Nat) (p v : Value) : Prop := match p with
  | .int x => v = .int x
  | .long x => v = .long x
  | .null => v = .null
  | .ref i => ∃ a, q_a xa ad i = some a ∧ v = .ref a
  | .retAddr _ => ∃ a, v = .ref a
  | _ => False
theorem q_v_mono {xa : Nat → Nat} {ad ad' : List Nat} {p v : Value} (hp : ad <+: ad') (h : q_v xa ad p v) : q_v xa ad' p v := by
  cases p with
  | ref i => obtain ⟨a, h1, h2⟩ := h; exact ⟨a, q_a_mono hp h1, h2⟩
  | _ => exact h
theorem q_v_rf {xa : Nat → Nat} {ad : List Nat} {r g : Option Nat} (h : q_ref xa ad r g) : q_v xa ad (va_rf r) (va_rf g) := by
  cases r with
  | none => have h : g = none := h; subst h; rfl
  | some i => obtain ⟨a, h1, h2⟩ := h; subst h2; exact ⟨a, h1, rfl⟩
theorem q_v_cat {xa : Nat → Nat} {ad : List Nat} {p v : Value} (h : q_v xa ad p v) : v.category = p.category := by
  cases p with
  | int x => have h : v = .int x := h; subst h; rfl
  | long x => have h : v = .long x := h; subst h; rfl
  | null => have h : v = .null := h; subst h; rfl
  | ref i => obtain ⟨a, h1, h2⟩ := h; subst h2; rfl
  | retAddr i => obtain ⟨a, h2⟩ := h; subst h2; rfl
  | float i => exact h.elim
  | double i => exact h.elim
/-- the operand stack -/
def q_st (xa : Nat → Nat) (ad : List Nat) : List Value → List Value → Prop
  | [], sa => sa = []
  | p :: t, sa => ∃ v r, sa = v :: r ∧ q_v xa ad p v ∧ q_st xa ad t r
theorem q_st_mono {xa : Nat → Nat} {ad ad' : List Nat} (hp : ad <+: ad') : ∀ {st sa : List Value}, q_st xa ad st sa → q_st xa ad' st sa
  | [], _, h => h
  | _ :: _, _, h => by
    obtain ⟨v, r, h1, h2, h3⟩ := h
    exact ⟨v, r, h1, q_v_mono hp h2, q_st_mono hp h3⟩
theorem q_st_cat {xa : Nat → Nat} {ad : List Nat} : ∀ {st sa : List Value}, q_st xa ad st sa → (sa.map fun v => v.category).sum = p_cat st
  | [], _, h => by have h : _ = _ := h; subst h; rfl
  | p :: t, _, h => by
    obtain ⟨v, r, h1, h2, h3⟩ := h
    subst h1
    have ih := q_st_cat h3
    unfold p_cat at ih ⊢
    simp only [List.map_cons, List.sum_cons, ih, q_v_cat h2]
/-- the locals -/
def q_lo (xa : Nat → Nat) (ad : List Nat) (nL : Nat) (lo : List Value) (ls : Array Slot) : Prop :=
  ∃ lv, lv_has ls nL lv ∧ lo.length = nL ∧ ∀ (j : Nat) (p : Value), lo[j]? = some p → p = .double 0 ∨ ∃ v, q_v xa ad p v ∧ v.category = 1 ∧ (j, v) ∈ lv
theorem q_lo_mono {xa : Nat → Nat} {ad ad' : List Nat} (hp : ad <+: ad') {nL : Nat} {lo : List Value} {ls : Array Slot} (h : q_lo xa ad nL lo ls) : q_lo xa ad' nL lo ls := by
  obtain ⟨lv, h1, h2, h3⟩ := h
  refine ⟨lv, h1, h2, fun j p hj => ?_⟩
  rcases h3 j p hj with h | ⟨v, h4, h5, h6⟩
  · exact Or.inl h
  · exact Or.inr ⟨v, q_v_mono hp h4, h5, h6⟩
theorem q_lo_at {xa : Nat → Nat} {ad : List Nat} {nL : Nat} {lo : List Value} {ls : Array Slot} (h : q_lo xa ad nL lo ls) {j : Nat} {p : Value} (hj : lo[j]? = some p) (hd : p ≠ .double 0) : ∃ v, q_v xa ad p v ∧ ls[j]? = some (.val v) := by
  obtain ⟨lv, h1, h2, h3⟩ := h
  rcases h3 j p hj with h | ⟨v, h4, h5, h6⟩
  · exact absurd h hd
  · exact ⟨v, h4, h1.2.2 (j, v) h6⟩
/-- a store of a value of one slot -/
theorem q_lo_set {xa : Nat → Nat} {ad : List Nat} {nL : Nat} {lo : List Value} {lv : List (Nat × Value)} {i : Nat} {p v : Value} (h2 : lo.length = nL) (h3 : ∀ (j : Nat) (p : Value), lo[j]? = some p → p = .double 0 ∨ ∃ v, q_v xa ad p v ∧ v.category = 1 ∧ (j, v) ∈ lv)
    (hv : q_v xa ad p v) (hc : v.category = 1) {ls' : Array Slot} (hl : lv_has ls' nL ((i, v) :: lv.filter (fun q => !(q.1 == i) && !(q.1 + 1 == i && q.2.category == 2)))) : q_lo xa ad nL (lo.set i p) ls' := by
  refine ⟨_, hl, by simpa using h2, fun j p' hj => ?_⟩
  by_cases e : i = j
  · subst e
    rw [List.getElem?_set_self'] at hj
    cases hlo : lo[i]? with
    | none => rw [hlo] at hj; cases hj
    | some z =>
      rw [hlo] at hj
      cases hj
      exact Or.inr ⟨v, hv, hc, List.mem_cons_self⟩
  · rw [List.getElem?_set_ne e] at hj
    rcases h3 j p' hj with h | ⟨w, h4, h5, h6⟩
    · exact Or.inl h
    · refine Or.inr ⟨w, h4, h5, List.mem_cons_of_mem _ (List.mem_filter.mpr ⟨h6, ?_⟩)⟩
      have e' : ¬ j = i := fun q => e q.symm
      simp [e', h5]
/-- what an array of a kind holds -/
def q_ty (k : Nat) : FieldType := match k with
  | 20 => .int
  | 21 => .byte
  | 22 => .long
  | 23 => .object (q_on 4)
  | 24 => .object (q_on 6)
  | 25 => .object "java/lang/Object"
  | _ => .array .int
def q_row (xa : Nat → Nat) (ad : List Nat) (μ : p_M) (i : Nat) (x : (Nat → Int32) ⊕ (Nat → Int64) ⊕ (Nat → UInt32) ⊕ (Nat → UInt64) ⊕ (Nat → Option Nat)) : Prop := match x with
  | .inl f => (mK μ i = 20 ∨ mK μ i = 21) ∧ f = mI μ i
  | .inr (.inl f) => mK μ i = 22 ∧ f = mJ μ i
  | .inr (.inr (.inr (.inr g))) => 23 ≤ mK μ i ∧ ∀ j, q_ref xa ad (mR μ i j) (g j)
  | _ => False
def q_fld (xa : Nat → Nat) (ad : List Nat) (μ : p_M) (i ci k : Nat) (v : Value) : Prop := if p_isR ci k = true then ∃ g, q_ref xa ad (mR μ i k) g ∧ v = va_rf g else v = .int (mI μ i k)
/-- the cell i -/
def q_cell (U : State) (xa : Nat → Nat) (ad : List Nat) (μ : p_M) (i : Nat) (e : va_E) : Prop := match e with
  | .inr o => mK μ i = o.1 ∧ o.1 < 15 ∧ o.2.length = q_N o.1 ∧ ∀ k, k < q_N o.1 → ∃ v, o.2[k]? = some v ∧ q_fld xa ad μ i o.1 k v
  | .inl a => (20 ≤ mK μ i ∧ mK μ i ≤ 26) ∧ (ArrOfT U a.1 (q_ty (mK μ i)) ∧ va_RA U a.1 (q_ty (mK μ i))) ∧ a.2.1 = mL μ i ∧ q_row xa ad μ i a.2.2
theorem q_cell_mono {U : State} {xa : Nat → Nat} {ad ad' : List Nat} (hp : ad <+: ad') {μ : p_M} {i : Nat} {e : va_E} (h : q_cell U xa ad μ i e) : q_cell U xa ad' μ i e := by
  cases e with
  | inr o =>
    obtain ⟨h1, h2, h3, h4⟩ := h
    refine ⟨h1, h2, h3, fun k hk => ?_⟩
    obtain ⟨v, h5, h6⟩ := h4 k hk
    refine ⟨v, h5, ?_⟩
    unfold q_fld at h6 ⊢
    split at h6
    · rename_i hz
      rw [if_pos hz]
      obtain ⟨g, h7, h8⟩ := h6
      exact ⟨g, q_ref_mono hp h7, h8⟩
    · rename_i hz
      rw [if_neg hz]
      exact h6
  | inl a =>
    obtain ⟨h1, h2, h3, h4⟩ := h
    refine ⟨h1, h2, h3, ?_⟩
    obtain ⟨cA, n, x⟩ := a
    match x, h4 with
    | .inl f, h4 => exact h4
    | .inr (.inl f), h4 => exact h4
    | .inr (.inr (.inr (.inr g))), h4 => exact ⟨h4.1, fun j => q_ref_mono hp (h4.2 j)⟩
/-- a cell that the memory's change doesn't touch -/
theorem q_cell_same {U : State} {xa : Nat → Nat} {ad : List Nat} {μ μ' : p_M} {i : Nat} {e : va_E} (hI : mI μ' i = mI μ i) (hR : mR μ' i = mR μ i) (hJ : mJ μ' i = mJ μ i) (hk : mK μ' i = mK μ i) (hl : mL μ' i = mL μ i) (h : q_cell U xa ad μ i e) : q_cell U xa ad μ' i e := by
  cases e with
  | inr o =>
    obtain ⟨h1, h2, h3, h4⟩ := h
    refine ⟨hk.trans h1, h2, h3, fun k hk => ?_⟩
    obtain ⟨v, h5, h6⟩ := h4 k hk
    refine ⟨v, h5, ?_⟩
    unfold q_fld at h6 ⊢
    rw [hI, hR]
    exact h6
  | inl a =>
    obtain ⟨h1, h2, h3, h4⟩ := h
    refine ⟨by rw [hk]; exact h1, by rw [hk]; exact h2, h3.trans hl.symm, ?_⟩
    obtain ⟨cA, n, x⟩ := a
    match x, h4 with
    | .inl f, h4 => exact ⟨by rw [hk]; exact h4.1, h4.2.trans hI.symm⟩
    | .inr (.inl f), h4 => exact ⟨by rw [hk]; exact h4.1, h4.2.trans hJ.symm⟩
    | .inr (.inr (.inr (.inr g))), h4 => exact ⟨by rw [hk]; exact h4.1, fun j => by rw [hR]; exact h4.2 j⟩
theorem q_cell_moved {u U : State} (hvm : u.vm.Alike U.vm) {xa : Nat → Nat} {ad : List Nat} {μ : p_M} {i : Nat} {e : va_E} (h : q_cell u xa ad μ i e) : q_cell U xa ad μ i e := by
  cases e with
  | inr o => exact h
  | inl a => exact ⟨h.1, ⟨arrOfT_moved hvm h.2.1.1, va_RA.moved hvm h.2.1.2⟩, h.2.2⟩
/-- the world -/
def q_Ws (U : State) (H : Heap) (A : Nat → Prop) (D : va_G) (xa : Nat → Nat) (ad : List Nat) (μ : p_M) (ws : va_W) : Prop :=
  va_P D vwCl ws H ∧ va_D A ws ∧ ws.length = mN μ ∧ ad.length = mN μ ∧ mN μ ≤ mC μ ∧ mN μ < p_E ∧ ∀ (i a : Nat) (e : va_E), ws[i]? = some (a, e) → ad[i]? = some a ∧ q_cell U xa ad μ i e
def q_W (U : State) (H : Heap) (A : Nat → Prop) (D : va_G) (xa : Nat → Nat) (ad : List Nat) (μ : p_M) : Prop := ∃ ws, q_Ws U H A D xa ad μ ws
theorem q_W_moved {u U : State} (hvm : u.vm.Alike U.vm) {H : Heap} {A : Nat → Prop} {D : va_G} {xa : Nat → Nat} {ad : List Nat} {μ : p_M} (h : q_W u H A D xa ad μ) : q_W U H A D xa ad μ := by
  obtain ⟨ws, h1, h2, h3, h4, h5, h6, h7⟩ := h
  exact ⟨ws, h1, h2, h3, h4, h5, h6, fun i a e hi => ⟨(h7 i a e hi).1, q_cell_moved hvm (h7 i a e hi).2⟩⟩
/-- the thing at a reference -/
theorem q_Ws_at {U : State} {H : Heap} {A : Nat → Prop} {D : va_G} {xa : Nat → Nat} {ad : List Nat} {μ : p_M} {ws : va_W} (h : q_Ws U H A D xa ad μ ws) {a b : Nat} (ha : a < mN μ) (hb : q_a xa ad a = some b) : ∃ e, ws[a]? = some (b, e) ∧ q_cell U xa ad μ a e := by
  obtain ⟨h1, h2, h3, h4, h5, h6, h7⟩ := h
  have hl : a < ws.length := by omega
  have hg : ws[a]? = some ws[a] := List.getElem?_eq_getElem hl
  obtain ⟨z1, z2⟩ := h7 a ws[a].1 ws[a].2 hg
  have hb2 : ad[a]? = some b := by
    unfold q_a at hb
    rw [if_pos (by omega)] at hb
    exact hb
  have e1 : ws[a].1 = b := Option.some.inj (z1.symm.trans hb2)
  refine ⟨ws[a].2, ?_, z2⟩
  rw [hg, ← e1]
/-- a write into one cell -/
theorem q_Ws_set {U : State} {H H1 : Heap} {A : Nat → Prop} {D : va_G} {xa : Nat → Nat} {ad : List Nat} {μ μ' : p_M} {ws : va_W} (h : q_Ws U H A D xa ad μ ws) {a b : Nat} {e0 e : va_E} (h0 : ws[a]? = some (b, e0)) (hP : va_P D vwCl (ws.set a (b, e)) H1) (hD : va_D A (ws.set a (b, e)))
    (hN : mN μ' = mN μ) (hC : mC μ' = mC μ) (ho : ∀ i, i ≠ a → mI μ' i = mI μ i ∧ mR μ' i = mR μ i ∧ mJ μ' i = mJ μ i ∧ mK μ' i = mK μ i ∧ mL μ' i = mL μ i) (hc : q_cell U xa ad μ' a e) : q_W U H1 A D xa ad μ' := by
  obtain ⟨h1, h2, h3, h4, h5, h6, h7⟩ := h
  have hl : a < ws.length := (List.getElem?_eq_some_iff.mp h0).1
  refine ⟨ws.set a (b, e), hP, hD, by rw [List.length_set, hN]; exact h3, by rw [hN]; exact h4, by rw [hN, hC]; exact h5, by rw [hN]; exact h6, fun i x y hi => ?_⟩
  by_cases ei : i = a
  · subst ei
    rw [List.getElem?_set_self hl] at hi
    cases hi
    exact ⟨(h7 i b e0 h0).1, hc⟩
  · rw [List.getElem?_set_ne (Ne.symm ei)] at hi
    obtain ⟨g1, g2⟩ := h7 i x y hi
    obtain ⟨o1, o2, o3, o4, o5⟩ := ho i ei
    exact ⟨g1, q_cell_same o1 o2 o3 o4 o5 g2⟩
/-- a new cell -/
theorem q_Ws_push {U : State} {H H1 : Heap} {A : Nat → Prop} {D : va_G} {xa : Nat → Nat} {ad : List Nat} {μ μ' : p_M} {ws : va_W} (h : q_Ws U H A D xa ad μ ws) {b : Nat} {e : va_E} (hP : va_P D vwCl (ws ++ [(b, e)]) H1) (hD : va_D A (ws ++ [(b, e)]))
    (hN : mN μ' = mN μ + 1) (hC : mC μ' = mC μ + 1) (hE : mN μ + 1 < p_E) (ho : ∀ i, i ≠ mN μ → mI μ' i = mI μ i ∧ mR μ' i = mR μ i ∧ mJ μ' i = mJ μ i ∧ mK μ' i = mK μ i ∧ mL μ' i = mL μ i) (hc : q_cell U xa (ad ++ [b]) μ' (mN μ) e) : q_Ws U H1 A D xa (ad ++ [b]) μ' (ws ++ [(b, e)]) := by
  obtain ⟨h1, h2, h3, h4, h5, h6, h7⟩ := h
  refine ⟨hP, hD, by simp [h3, hN], by simp [h4, hN], by omega, by omega, fun i x y hi => ?_⟩
  by_cases hl : i < ws.length
  · rw [List.getElem?_append_left hl] at hi
    obtain ⟨g1, g2⟩ := h7 i x y hi
    obtain ⟨o1, o2, o3, o4, o5⟩ := ho i (by omega)
    exact ⟨by rw [List.getElem?_append_left (by omega)]; exact g1, q_cell_mono (List.prefix_append _ _) (q_cell_same o1 o2 o3 o4 o5 g2)⟩
  · rw [List.getElem?_append_right (by omega)] at hi
    have hz : i - ws.length < 1 := (List.getElem?_eq_some_iff.mp hi).1
    have hi0 : i = mN μ := by omega
    subst hi0
    rw [h3, Nat.sub_self] at hi
    cases hi
    exact ⟨by rw [List.getElem?_append_right (by omega), h4, Nat.sub_self]; rfl, hc⟩
end
section
/-! one instruction of the pure machine is one of the machine -/
def q_nw (w : Cond) : Bool := match w with
  | .fieldLinkNest .. => true
  | .methodLinkNest .. => true
  | .castable .. => true
  | .declares _ => true
  | _ => false
/-- an outer array of ints -/
def q_xr (A : Nat → Prop) (U : State) (a L : Nat) (f : Nat → Int32) : Prop := ∃ cell : Cell, U.heap[a]? = some cell ∧ U.isArrayOf cell .int ∧ cell.vm ≠ .unknown ∧ cell.slots.size = L ∧ L < 2 ^ 31 ∧ (∀ j : Nat, j < L → cell.slots[j]? = some (.int (f j))) ∧ ¬ A a
/-- what holds of the tables and of the outer things, beside the words -/
def q_G (X : p_X) (xa : Nat → Nat) (A : Nat → Prop) (U : State) : Prop :=
  (∀ w ∈ lw_tbl, q_nw w = true → va_Nw w U) ∧ (∀ k, k < 3 → q_xr A U (xa k) (X k).1 (X k).2) ∧
  (va_Z "TrouserWash$House" "AT_FIRST" "[I" (.ref (xa 1)) A U U.heap ∧ va_Z "TrouserWash$Search" "AMOUNTS" "[I" (.ref (xa 2)) A U U.heap) ∧
  (∀ (o i : Nat) (v : Nat × String), q_lStr o i = some v → vk_R (q_on o) i v.2 (xa (10 + v.1)) U) ∧
  (va_AO (q_on 4) U ∧ va_AO (q_on 6) U ∧ va_AO "java/lang/Object" U ∧ va_AOA .int U) ∧
  (vx_Zq Bundle.tN "UNASSIGNED_STACK" Bundle.steD A U U.heap ∧ vx_Zq Bundle.tN "SUPPRESSED_SENTINEL" Bundle.listD A U U.heap) ∧ (∀ E F : Nat, 1 ≤ E → E ≤ 5 → 1 ≤ F → F ≤ 5 → E ≠ F → va_Nc (q_xn E) (q_xn F) U) ∧ True
/-- the fixed things of a body -/
def q_Ctx (p : Program) (s : State) (m : MethodId) (args : Array Value) (meth : Method) (c : Code) (M : q_M) (D : va_G) (A : Nat → Prop) : Prop :=
  p.tables.exec = Jvm.exec ∧ c.code = q_cc M ∧ c.maxLocals = q_ml M ∧ meth.sig.returnType = q_rt M ∧ meth.locks = false ∧ s.vm.findClass (q_on (q_o M)) = some m.cls ∧ (∀ w ∈ q_tbl, w.before args s = true) ∧ c.exceptionTable.toList = tableOf (q_hh M) ∧ meth.name = (q_y M).name ∧ va_K D vwCl [] s ∧ (∀ q, s.heap.size ≤ q → A q)
/-- where a body stands -/
def q_Pt (s : State) (A : Nat → Prop) (D : va_G) (xa : Nat → Nat) (nL : Nat) (ad0 : List Nat) (H : Heap) (locs : List Loc) (ad : List Nat) (μ : p_M) (lo st : List Value) (ls : Array Slot) (sa : List Value) : Prop :=
  q_W s H A D xa ad μ ∧ va_S A s.heap H locs ∧ q_lo xa ad nL lo ls ∧ q_st xa ad st sa ∧ ad0 <+: ad
section QX
variable {p : Program} {l : Launch} {e : Env} {R : Room} {s : State} {m : MethodId} {args : Array Value} {below : List Frame} {meth : Method} {c : Code} {H : Heap} {locs : List Loc} {Q : State → Prop}
variable {X : p_X} {M : q_M} {D : va_G} {A : Nat → Prop} {xa : Nat → Nat} {nL c0 s0 : Nat} {ad0 ad : List Nat} {μ : p_M} {lo st : List Value} {ls : Array Slot} {sa : List Value} {pc : Nat}
/-- it goes on from q -/
def q_Nx (p : Program) (l : Launch) (e : Env) (R : Room) (s : State) (m : MethodId) (args : Array Value) (below : List Frame) (meth : Method) (c : Code) (Q : State → Prop) (D : va_G) (A : Nat → Prop) (xa : Nat → Nat) (nL c0 s0 : Nat) (ad0 : List Nat) (q : p_S) : Prop :=
  ∀ (H : Heap) (locs : List Loc) (ad : List Nat) (ls : Array Slot) (sa : List Value), q_Pt s A D xa nL ad0 H locs ad q.2.2.2 q.2.1 q.2.2.1 ls sa → W p l e R s m args below meth c H locs (mC q.2.2.2 - c0) (mS q.2.2.2 - s0) Q (F0 m q.1 ls sa)
/-- a push of a number -/
theorem q_push {pc' : Nat} {v : Value} (P : q_Pt s A D xa nL ad0 H locs ad μ lo st ls sa) {w : Value} (hv : q_v xa ad v w) (K : q_Nx p l e R s m args below meth c Q D A xa nL c0 s0 ad0 (pc', lo, v :: st, μ)) : W p l e R s m args below meth c H locs (mC μ - c0) (mS μ - s0) Q (F0 m pc' ls (w :: sa)) :=
  K H locs ad ls (w :: sa) ⟨P.1, P.2.1, P.2.2.1, ⟨w, sa, rfl, hv, P.2.2.2.1⟩, P.2.2.2.2⟩
/-- another stack -/
theorem q_stk {pc' : Nat} {st' sa' : List Value} (P : q_Pt s A D xa nL ad0 H locs ad μ lo st ls sa) (hs : q_st xa ad st' sa') (K : q_Nx p l e R s m args below meth c Q D A xa nL c0 s0 ad0 (pc', lo, st', μ)) : W p l e R s m args below meth c H locs (mC μ - c0) (mS μ - s0) Q (F0 m pc' ls sa') :=
  K H locs ad ls sa' ⟨P.1, P.2.1, P.2.2.1, hs, P.2.2.2.2⟩
theorem q_x_i2 {f : Int32 → Int32 → Int32} {q : p_S} (row : ∀ (x y : Int32) (rest : List Value), W p l e R s m args below meth c H locs (mC μ - c0) (mS μ - s0) Q (F0 m (pc + 1) ls (.int (f x y) :: rest)) → W p l e R s m args below meth c H locs (mC μ - c0) (mS μ - s0) Q (F0 m pc ls (.int y :: .int x :: rest)))
    (hx : p_i2 f pc lo st μ = some q) (P : q_Pt s A D xa nL ad0 H locs ad μ lo st ls sa) (K : q_Nx p l e R s m args below meth c Q D A xa nL c0 s0 ad0 q) : W p l e R s m args below meth c H locs (mC μ - c0) (mS μ - s0) Q (F0 m pc ls sa) := by
  unfold p_i2 at hx
  split at hx
  · rename_i y x r
    cases hx
    obtain ⟨v1, r1, e1, h1, v2, r2, e2, h2, h3⟩ := P.2.2.2.1
    have h1 : v1 = .int y := h1
    have h2 : v2 = .int x := h2
    subst e1 h1 e2 h2
    exact row x y r2 (q_stk (st' := .int (f x y) :: r) P ⟨_, _, rfl, rfl, h3⟩ K)
  · cases hx
theorem q_x_l2 {f : Int64 → Int64 → Int64} {q : p_S} (row : ∀ (x y : Int64) (rest : List Value), W p l e R s m args below meth c H locs (mC μ - c0) (mS μ - s0) Q (F0 m (pc + 1) ls (.long (f x y) :: rest)) → W p l e R s m args below meth c H locs (mC μ - c0) (mS μ - s0) Q (F0 m pc ls (.long y :: .long x :: rest)))
    (hx : p_l2 f pc lo st μ = some q) (P : q_Pt s A D xa nL ad0 H locs ad μ lo st ls sa) (K : q_Nx p l e R s m args below meth c Q D A xa nL c0 s0 ad0 q) : W p l e R s m args below meth c H locs (mC μ - c0) (mS μ - s0) Q (F0 m pc ls sa) := by
  unfold p_l2 at hx
  split at hx
  · rename_i y x r
    cases hx
    obtain ⟨v1, r1, e1, h1, v2, r2, e2, h2, h3⟩ := P.2.2.2.1
    have h1 : v1 = .long y := h1
    have h2 : v2 = .long x := h2
    subst e1 h1 e2 h2
    exact row x y r2 (q_stk (st' := .long (f x y) :: r) P ⟨_, _, rfl, rfl, h3⟩ K)
  · cases hx
/-- a jump -/
theorem q_x_jmp {C : Prop} [Decidable C] {off : Int} {q : p_S} {st' sa' : List Value} (hx : p_jmp C pc off lo st' μ = some q)
    (row : ∀ tgt : Nat, (pc : Int) + off = (tgt : Int) → (C → W p l e R s m args below meth c H locs (mC μ - c0) (mS μ - s0) Q (F0 m tgt ls sa')) → (¬ C → W p l e R s m args below meth c H locs (mC μ - c0) (mS μ - s0) Q (F0 m (pc + 3) ls sa')) → W p l e R s m args below meth c H locs (mC μ - c0) (mS μ - s0) Q (F0 m pc ls sa))
    (P : q_Pt s A D xa nL ad0 H locs ad μ lo st ls sa) (hs : q_st xa ad st' sa') (K : q_Nx p l e R s m args below meth c Q D A xa nL c0 s0 ad0 q) : W p l e R s m args below meth c H locs (mC μ - c0) (mS μ - s0) Q (F0 m pc ls sa) := by
  unfold p_jmp at hx
  split at hx
  · cases hx
  · rename_i h0
    refine row ((pc : Int) + off).toNat (by omega) (fun hc => ?_) (fun hc => ?_)
    · rw [if_pos hc] at hx
      cases hx
      exact q_stk P hs K
    · rw [if_neg hc] at hx
      cases hx
      exact q_stk P hs K
theorem q_x_go {off : Int} {q : p_S} {st' sa' : List Value} (hx : p_go pc off lo st' μ = some q)
    (row : ∀ tgt : Nat, (pc : Int) + off = (tgt : Int) → W p l e R s m args below meth c H locs (mC μ - c0) (mS μ - s0) Q (F0 m tgt ls sa') → W p l e R s m args below meth c H locs (mC μ - c0) (mS μ - s0) Q (F0 m pc ls sa))
    (P : q_Pt s A D xa nL ad0 H locs ad μ lo st ls sa) (hs : q_st xa ad st' sa') (K : q_Nx p l e R s m args below meth c Q D A xa nL c0 s0 ad0 q) : W p l e R s m args below meth c H locs (mC μ - c0) (mS μ - s0) Q (F0 m pc ls sa) := by
  unfold p_go at hx
  split at hx
  · cases hx
  · rename_i h0
    cases hx
    exact row ((pc : Int) + off).toNat (by omega) (q_stk P hs K)
/-- a compare with 0 -/
theorem q_x_if {cd : ClassFile.Cond} {off : Int} {q : p_S} (hx : p_if cd off pc lo st μ = some q) (hd : decode (q_cc M) pc = .ok (.ifCond cd off, 3)) (C : q_Ctx p s m args meth c M D A) (P : q_Pt s A D xa nL ad0 H locs ad μ lo st ls sa) (K : q_Nx p l e R s m args below meth c Q D A xa nL c0 s0 ad0 q) : W p l e R s m args below meth c H locs (mC μ - c0) (mS μ - s0) Q (F0 m pc ls sa) := by
  unfold p_if at hx
  split at hx
  · rename_i x r
    obtain ⟨v1, r1, e1, h1, h3⟩ := P.2.2.2.1
    have h1 : v1 = .int x := h1
    subst e1 h1
    cases cd
    · exact q_x_jmp hx (fun tgt ht k1 k2 => lv_if_eq C.1 C.2.1 hd ht k1 k2) P h3 K
    · exact q_x_jmp hx (fun tgt ht k1 k2 => lv_if_ne C.1 C.2.1 hd ht k1 (fun z => k2 (fun w => w z))) P h3 K
    · exact q_x_jmp hx (fun tgt ht k1 k2 => lv_if_lt C.1 C.2.1 hd ht k1 k2) P h3 K
    · exact q_x_jmp hx (fun tgt ht k1 k2 => lv_if_ge C.1 C.2.1 hd ht k1 k2) P h3 K
    · exact q_x_jmp hx (fun tgt ht k1 k2 => lv_if_gt C.1 C.2.1 hd ht k1 k2) P h3 K
    · exact q_x_jmp hx (fun tgt ht k1 k2 => lv_if_le C.1 C.2.1 hd ht k1 k2) P h3 K
  · cases hx
theorem q_x_icmp {cd : ClassFile.Cond} {off : Int} {q : p_S} (hx : p_icmp cd off pc lo st μ = some q) (hd : decode (q_cc M) pc = .ok (.if_icmp cd off, 3)) (C : q_Ctx p s m args meth c M D A) (P : q_Pt s A D xa nL ad0 H locs ad μ lo st ls sa) (K : q_Nx p l e R s m args below meth c Q D A xa nL c0 s0 ad0 q) : W p l e R s m args below meth c H locs (mC μ - c0) (mS μ - s0) Q (F0 m pc ls sa) := by
  unfold p_icmp at hx
  split at hx
  · rename_i y x r
    obtain ⟨v1, r1, e1, h1, v2, r2, e2, h2, h3⟩ := P.2.2.2.1
    have h1 : v1 = .int y := h1
    have h2 : v2 = .int x := h2
    subst e1 h1 e2 h2
    cases cd
    · exact q_x_jmp hx (fun tgt ht k1 k2 => lv_icmp_eq C.1 C.2.1 hd ht k1 k2) P h3 K
    · exact q_x_jmp hx (fun tgt ht k1 k2 => lv_icmp_ne C.1 C.2.1 hd ht k1 (fun z => k2 (fun w => w z))) P h3 K
    · exact q_x_jmp hx (fun tgt ht k1 k2 => lv_icmp_lt C.1 C.2.1 hd ht k1 k2) P h3 K
    · exact q_x_jmp hx (fun tgt ht k1 k2 => lv_icmp_ge C.1 C.2.1 hd ht k1 k2) P h3 K
    · exact q_x_jmp hx (fun tgt ht k1 k2 => lv_icmp_gt C.1 C.2.1 hd ht k1 k2) P h3 K
    · exact q_x_jmp hx (fun tgt ht k1 k2 => lv_icmp_le C.1 C.2.1 hd ht k1 k2) P h3 K
  · cases hx
/-- locals -/
theorem q_x_ild {k len : Nat} {q : p_S} (hx : p_ild k len pc lo st μ = some q) (row : ∀ (x : Int32), ls[k]? = some (.val (.int x)) → W p l e R s m args below meth c H locs (mC μ - c0) (mS μ - s0) Q (F0 m (pc + len) ls (.int x :: sa)) → W p l e R s m args below meth c H locs (mC μ - c0) (mS μ - s0) Q (F0 m pc ls sa))
    (P : q_Pt s A D xa nL ad0 H locs ad μ lo st ls sa) (K : q_Nx p l e R s m args below meth c Q D A xa nL c0 s0 ad0 q) : W p l e R s m args below meth c H locs (mC μ - c0) (mS μ - s0) Q (F0 m pc ls sa) := by
  unfold p_ild at hx
  split at hx
  · rename_i x hl
    cases hx
    obtain ⟨v, h1, h2⟩ := q_lo_at P.2.2.1 hl (by intro z; cases z)
    have h1 : v = .int x := h1
    subst h1
    exact row x h2 (q_push (v := .int x) P rfl K)
  · cases hx
theorem q_x_ald {k len : Nat} {q : p_S} (hx : p_ald k len pc lo st μ = some q) (row : ∀ (x : Nat), ls[k]? = some (.val (.ref x)) → W p l e R s m args below meth c H locs (mC μ - c0) (mS μ - s0) Q (F0 m (pc + len) ls (.ref x :: sa)) → W p l e R s m args below meth c H locs (mC μ - c0) (mS μ - s0) Q (F0 m pc ls sa))
    (P : q_Pt s A D xa nL ad0 H locs ad μ lo st ls sa) (K : q_Nx p l e R s m args below meth c Q D A xa nL c0 s0 ad0 q) : W p l e R s m args below meth c H locs (mC μ - c0) (mS μ - s0) Q (F0 m pc ls sa) := by
  unfold p_ald at hx
  split at hx
  · rename_i x hl
    cases hx
    obtain ⟨v, ⟨a, h1, h3⟩, h2⟩ := q_lo_at P.2.2.1 hl (by intro z; cases z)
    subst h3
    exact row a h2 (q_push (v := .ref x) P ⟨a, h1, rfl⟩ K)
  · cases hx
/-- a store into a local: the row for any list of the locals -/
theorem q_x_sto {k pc' : Nat} {pv v : Value} {st' sa' : List Value} (hk : k < lo.length) (hv : q_v xa ad pv v) (hc : v.category = 1) (hs : q_st xa ad st' sa')
    (row : ∀ (lv : List (Nat × Value)), lv_has ls nL lv → k < nL → (∀ ls' : Array Slot, lv_has ls' nL ((k, v) :: lv.filter (fun q => !(q.1 == k) && !(q.1 + 1 == k && q.2.category == 2))) → W p l e R s m args below meth c H locs (mC μ - c0) (mS μ - s0) Q (F0 m pc' ls' sa')) → W p l e R s m args below meth c H locs (mC μ - c0) (mS μ - s0) Q (F0 m pc ls sa))
    (P : q_Pt s A D xa nL ad0 H locs ad μ lo st ls sa) (K : q_Nx p l e R s m args below meth c Q D A xa nL c0 s0 ad0 (pc', lo.set k pv, st', μ)) : W p l e R s m args below meth c H locs (mC μ - c0) (mS μ - s0) Q (F0 m pc ls sa) := by
  obtain ⟨lv, h1, h2, h3⟩ := P.2.2.1
  refine row lv h1 (by omega) (fun ls' hl => ?_)
  exact K H locs ad ls' sa' ⟨P.1, P.2.1, q_lo_set h2 h3 hv hc hl, hs, P.2.2.2.2⟩
theorem q_x_ist {k len : Nat} {q : p_S} (hx : p_ist k len pc lo st μ = some q)
    (row : ∀ (x : Int32) (rest : List Value) (lv : List (Nat × Value)), lv_has ls nL lv → k < nL → (∀ ls' : Array Slot, lv_has ls' nL ((k, .int x) :: lv.filter (fun q => !(q.1 == k) && !(q.1 + 1 == k && q.2.category == 2))) → W p l e R s m args below meth c H locs (mC μ - c0) (mS μ - s0) Q (F0 m (pc + len) ls' rest)) → W p l e R s m args below meth c H locs (mC μ - c0) (mS μ - s0) Q (F0 m pc ls (.int x :: rest)))
    (P : q_Pt s A D xa nL ad0 H locs ad μ lo st ls sa) (K : q_Nx p l e R s m args below meth c Q D A xa nL c0 s0 ad0 q) : W p l e R s m args below meth c H locs (mC μ - c0) (mS μ - s0) Q (F0 m pc ls sa) := by
  unfold p_ist at hx
  split at hx
  · rename_i x r
    split at hx
    · rename_i hk
      cases hx
      obtain ⟨v1, r1, e1, h1, h3⟩ := P.2.2.2.1
      have h1 : v1 = .int x := h1
      subst e1 h1
      exact q_x_sto (pv := .int x) (v := .int x) hk rfl rfl h3 (row x r1) P K
    · cases hx
  · cases hx
theorem q_x_ast {k len : Nat} {q : p_S} (hx : p_ast k len pc lo st μ = some q)
    (row : ∀ (x : Nat) (rest : List Value) (lv : List (Nat × Value)), lv_has ls nL lv → k < nL → (∀ ls' : Array Slot, lv_has ls' nL ((k, .ref x) :: lv.filter (fun q => !(q.1 == k) && !(q.1 + 1 == k && q.2.category == 2))) → W p l e R s m args below meth c H locs (mC μ - c0) (mS μ - s0) Q (F0 m (pc + len) ls' rest)) → W p l e R s m args below meth c H locs (mC μ - c0) (mS μ - s0) Q (F0 m pc ls (.ref x :: rest)))
    (P : q_Pt s A D xa nL ad0 H locs ad μ lo st ls sa) (K : q_Nx p l e R s m args below meth c Q D A xa nL c0 s0 ad0 q) : W p l e R s m args below meth c H locs (mC μ - c0) (mS μ - s0) Q (F0 m pc ls sa) := by
  unfold p_ast at hx
  split at hx
  · rename_i x r
    split at hx
    · rename_i hk
      cases hx
      obtain ⟨v1, r1, e1, ⟨a, h1, h2⟩, h3⟩ := P.2.2.2.1
      subst e1 h2
      exact q_x_sto (pv := .ref x) hk ⟨a, h1, rfl⟩ rfl h3 (row a r1) P K
    · cases hx
  · rename_i x r
    split at hx
    · rename_i hk
      cases hx
      obtain ⟨v1, r1, e1, ⟨a, h2⟩, h3⟩ := P.2.2.2.1
      subst e1 h2
      exact q_x_sto (pv := .retAddr x) hk ⟨a, rfl⟩ rfl h3 (row a r1) P K
    · cases hx
  · cases hx
theorem q_x_iinc {k : Nat} {n : Int} {q : p_S} (hx : p_iinc k n pc lo st μ = some q) (hd : decode (q_cc M) pc = .ok (.iinc k n, 3)) (C : q_Ctx p s m args meth c M D A) (P : q_Pt s A D xa nL ad0 H locs ad μ lo st ls sa) (K : q_Nx p l e R s m args below meth c Q D A xa nL c0 s0 ad0 q) : W p l e R s m args below meth c H locs (mC μ - c0) (mS μ - s0) Q (F0 m pc ls sa) := by
  unfold p_iinc at hx
  split at hx
  · rename_i x hl
    cases hx
    obtain ⟨lv, h1, h2, h3⟩ := P.2.2.1
    rcases h3 k _ hl with z | ⟨v, g1, g2, g3⟩
    · cases z
    · have g1 : v = .int x := g1
      subst g1
      obtain ⟨kk, hkk⟩ := List.getElem?_of_mem g3
      have hk : k < lo.length := (List.getElem?_eq_some_iff.mp hl).1
      refine lv_iinc C.1 C.2.1 hd h1 hkk rfl (by omega) rfl (fun ls' hl' => ?_)
      exact K H locs ad ls' sa ⟨P.1, P.2.1, q_lo_set (p := .int (x + Int32.ofInt n)) (v := .int (x + Int32.ofInt n)) h2 h3 rfl rfl hl', P.2.2.2.1, P.2.2.2.2⟩
  · cases hx
theorem q_x_tsw {d lo' hi : Int} {offs : Array Int} {len : Nat} {q : p_S} (hx : p_tsw d lo' hi offs pc lo st μ = some q) (hd : decode (q_cc M) pc = .ok (.tableswitch d lo' hi offs, len)) (C : q_Ctx p s m args meth c M D A) (P : q_Pt s A D xa nL ad0 H locs ad μ lo st ls sa) (K : q_Nx p l e R s m args below meth c Q D A xa nL c0 s0 ad0 q) : W p l e R s m args below meth c H locs (mC μ - c0) (mS μ - s0) Q (F0 m pc ls sa) := by
  unfold p_tsw at hx
  split at hx
  · rename_i x r
    obtain ⟨v1, r1, e1, h1, h3⟩ := P.2.2.2.1
    have h1 : v1 = .int x := h1
    subst e1 h1
    split at hx
    · rename_i hz
      exact q_x_go hx (fun tgt ht k => lv_tableOut C.1 C.2.1 hd hz ht k) P h3 K
    · rename_i hz
      split at hx
      · rename_i off ho
        exact q_x_go hx (fun tgt ht k => lv_tableIn C.1 C.2.1 hd (fun z => hz (Or.inl z)) (fun z => hz (Or.inr z)) ho ht k) P h3 K
      · cases hx
  · cases hx
theorem q_x_lsw {d : Int} {ps : Array (Int × Int)} {len : Nat} {q : p_S} (hx : p_lsw d ps pc lo st μ = some q) (hd : decode (q_cc M) pc = .ok (.lookupswitch d ps, len)) (C : q_Ctx p s m args meth c M D A) (P : q_Pt s A D xa nL ad0 H locs ad μ lo st ls sa) (K : q_Nx p l e R s m args below meth c Q D A xa nL c0 s0 ad0 q) : W p l e R s m args below meth c H locs (mC μ - c0) (mS μ - s0) Q (F0 m pc ls sa) := by
  unfold p_lsw at hx
  split at hx
  · rename_i x r
    obtain ⟨v1, r1, e1, h1, h3⟩ := P.2.2.2.1
    have h1 : v1 = .int x := h1
    subst e1 h1
    split at hx
    · rename_i hz
      exact q_x_go hx (fun tgt ht k => lv_lookup C.1 C.2.1 hd hz rfl ht k) P h3 K
    · cases hx
  · cases hx
end QX
end
section
/-! the words of the throws -/
theorem kX1a : ∀ w ∈ Cond.classLink (q_on 13) 422 (q_xn 1) :: Cond.initialized (q_xn 1) :: vx_atS (q_on 13) 426 (q_xn 1) ["java/lang/RuntimeException", "java/lang/Exception"], w ∈ lw_tbl := by decide +kernel
theorem kX1b : ∀ w ∈ Cond.classLink (q_on 13) 422 (q_xn 1) :: Cond.initialized (q_xn 1) :: vx_atS (q_on 13) 426 (q_xn 1) ["java/lang/RuntimeException", "java/lang/Exception"], (goodWord w = true ∨ (q_nw w = true ∧ w.onTables = true)) ∧ vx_ot w = true := by decide +kernel
theorem kX1 : ∀ w ∈ Cond.classLink (q_on 13) 422 (q_xn 1) :: Cond.initialized (q_xn 1) :: vx_atS (q_on 13) 426 (q_xn 1) ["java/lang/RuntimeException", "java/lang/Exception"], w ∈ lw_tbl ∧ (goodWord w = true ∨ (q_nw w = true ∧ w.onTables = true)) ∧ vx_ot w = true := fun w h => ⟨kX1a w h, kX1b w h⟩
theorem kX2a : ∀ w ∈ Cond.classLink (q_on 13) 439 (q_xn 2) :: Cond.initialized (q_xn 2) :: vx_atS (q_on 13) 443 (q_xn 2) ["java/lang/RuntimeException", "java/lang/Exception"], w ∈ lw_tbl := by decide +kernel
theorem kX2b : ∀ w ∈ Cond.classLink (q_on 13) 439 (q_xn 2) :: Cond.initialized (q_xn 2) :: vx_atS (q_on 13) 443 (q_xn 2) ["java/lang/RuntimeException", "java/lang/Exception"], (goodWord w = true ∨ (q_nw w = true ∧ w.onTables = true)) ∧ vx_ot w = true := by decide +kernel
theorem kX2 : ∀ w ∈ Cond.classLink (q_on 13) 439 (q_xn 2) :: Cond.initialized (q_xn 2) :: vx_atS (q_on 13) 443 (q_xn 2) ["java/lang/RuntimeException", "java/lang/Exception"], w ∈ lw_tbl ∧ (goodWord w = true ∨ (q_nw w = true ∧ w.onTables = true)) ∧ vx_ot w = true := fun w h => ⟨kX2a w h, kX2b w h⟩
theorem kX3a : ∀ w ∈ Cond.classLink (q_on 13) 429 (q_xn 3) :: Cond.initialized (q_xn 3) :: vx_atS (q_on 13) 433 (q_xn 3) ["java/lang/RuntimeException", "java/lang/Exception"], w ∈ lw_tbl := by decide +kernel
theorem kX3b : ∀ w ∈ Cond.classLink (q_on 13) 429 (q_xn 3) :: Cond.initialized (q_xn 3) :: vx_atS (q_on 13) 433 (q_xn 3) ["java/lang/RuntimeException", "java/lang/Exception"], (goodWord w = true ∨ (q_nw w = true ∧ w.onTables = true)) ∧ vx_ot w = true := by decide +kernel
theorem kX3 : ∀ w ∈ Cond.classLink (q_on 13) 429 (q_xn 3) :: Cond.initialized (q_xn 3) :: vx_atS (q_on 13) 433 (q_xn 3) ["java/lang/RuntimeException", "java/lang/Exception"], w ∈ lw_tbl ∧ (goodWord w = true ∨ (q_nw w = true ∧ w.onTables = true)) ∧ vx_ot w = true := fun w h => ⟨kX3a w h, kX3b w h⟩
theorem kX5a : ∀ w ∈ Cond.classLink (q_on 13) 444 (q_xn 5) :: Cond.initialized (q_xn 5) :: vx_atS (q_on 13) 448 (q_xn 5) ["java/lang/RuntimeException", "java/lang/Exception"], w ∈ lw_tbl := by decide +kernel
theorem kX5b : ∀ w ∈ Cond.classLink (q_on 13) 444 (q_xn 5) :: Cond.initialized (q_xn 5) :: vx_atS (q_on 13) 448 (q_xn 5) ["java/lang/RuntimeException", "java/lang/Exception"], (goodWord w = true ∨ (q_nw w = true ∧ w.onTables = true)) ∧ vx_ot w = true := by decide +kernel
theorem kX5 : ∀ w ∈ Cond.classLink (q_on 13) 444 (q_xn 5) :: Cond.initialized (q_xn 5) :: vx_atS (q_on 13) 448 (q_xn 5) ["java/lang/RuntimeException", "java/lang/Exception"], w ∈ lw_tbl ∧ (goodWord w = true ∨ (q_nw w = true ∧ w.onTables = true)) ∧ vx_ot w = true := fun w h => ⟨kX5a w h, kX5b w h⟩
end
section
/-! instructions that read and write cells -/
theorem q_cI {U : State} {xa : Nat → Nat} {ad : List Nat} {μ : p_M} {a : Nat} {e : va_E} (h : q_cell U xa ad μ a e) (hk : mK μ a = 20 ∨ mK μ a = 21) : ∃ cA, e = .inl (cA, mL μ a, .inl (mI μ a)) ∧ ArrOfT U cA (q_ty (mK μ a)) ∧ va_RA U cA (q_ty (mK μ a)) := by
  cases e with
  | inr o => obtain ⟨h1, h2, -⟩ := h; omega
  | inl x =>
    obtain ⟨cA, n, x⟩ := x
    obtain ⟨h1, h2, h3, h4⟩ := h
    match x, h4 with
    | .inl f, h4 => exact ⟨cA, by have h3 : n = mL μ a := h3; rw [h3, h4.2], h2⟩
    | .inr (.inl f), h4 => have := h4.1; omega
    | .inr (.inr (.inr (.inr g))), h4 => have := h4.1; omega
theorem q_cJ {U : State} {xa : Nat → Nat} {ad : List Nat} {μ : p_M} {a : Nat} {e : va_E} (h : q_cell U xa ad μ a e) (hk : mK μ a = 22) : ∃ cA, e = .inl (cA, mL μ a, .inr (.inl (mJ μ a))) ∧ ArrOfT U cA (q_ty (mK μ a)) ∧ va_RA U cA (q_ty (mK μ a)) := by
  cases e with
  | inr o => obtain ⟨h1, h2, -⟩ := h; omega
  | inl x =>
    obtain ⟨cA, n, x⟩ := x
    obtain ⟨h1, h2, h3, h4⟩ := h
    match x, h4 with
    | .inl f, h4 => have := h4.1; omega
    | .inr (.inl f), h4 => exact ⟨cA, by have h3 : n = mL μ a := h3; rw [h3, h4.2], h2⟩
    | .inr (.inr (.inr (.inr g))), h4 => have := h4.1; omega
theorem q_cR {U : State} {xa : Nat → Nat} {ad : List Nat} {μ : p_M} {a : Nat} {e : va_E} (h : q_cell U xa ad μ a e) (hk : 23 ≤ mK μ a) : ∃ cA g, e = .inl (cA, mL μ a, .inr (.inr (.inr (.inr g)))) ∧ (ArrOfT U cA (q_ty (mK μ a)) ∧ va_RA U cA (q_ty (mK μ a))) ∧ ∀ j, q_ref xa ad (mR μ a j) (g j) := by
  cases e with
  | inr o => obtain ⟨h1, h2, -⟩ := h; omega
  | inl x =>
    obtain ⟨cA, n, x⟩ := x
    obtain ⟨h1, h2, h3, h4⟩ := h
    match x, h4 with
    | .inl f, h4 => have := h4.1; omega
    | .inr (.inl f), h4 => have := h4.1; omega
    | .inr (.inr (.inr (.inr g))), h4 => exact ⟨cA, g, by have h3 : n = mL μ a := h3; rw [h3], h2, h4.2⟩
theorem q_cO {U : State} {xa : Nat → Nat} {ad : List Nat} {μ : p_M} {a ci : Nat} {e : va_E} (h : q_cell U xa ad μ a e) (hk : mK μ a = ci) (hc : ci < 15) : ∃ fs, e = .inr (ci, fs) ∧ fs.length = q_N ci ∧ ∀ k, k < q_N ci → ∃ v, fs[k]? = some v ∧ q_fld xa ad μ a ci k v := by
  cases e with
  | inr o =>
    obtain ⟨ci', fs⟩ := o
    obtain ⟨h1, h2, h3, h4⟩ := h
    have h1 : mK μ a = ci' := h1
    have e1 : ci' = ci := h1.symm.trans hk
    subst e1
    exact ⟨fs, rfl, h3, h4⟩
  | inl x => obtain ⟨h1, -⟩ := h; omega
theorem q_up_ne {α : Type} {f : Nat → Nat → α} {a k i : Nat} {v : α} (h : i ≠ a) : p_up f a k v i = f i := by unfold p_up va_up; rw [if_neg h]
theorem q_up_eq {α : Type} {f : Nat → Nat → α} {a k : Nat} {v : α} : p_up f a k v a = va_up (f a) k v := by unfold p_up; simp [va_up]
theorem q_E (a : Nat) (h : ¬ p_E ≤ a) : a < p_E := by omega
section QM
variable {p : Program} {l : Launch} {e : Env} {R : Room} {s : State} {m : MethodId} {args : Array Value} {below : List Frame} {meth : Method} {c : Code} {H : Heap} {locs : List Loc} {Q : State → Prop}
variable {X : p_X} {M : q_M} {D : va_G} {A : Nat → Prop} {xa : Nat → Nat} {nL c0 s0 : Nat} {ad0 ad : List Nat} {μ : p_M} {lo st : List Value} {ls : Array Slot} {sa : List Value} {pc : Nat}
theorem q_K1 {cA : ClassId} {ty : FieldType} (hK : va_K D vwCl [] s) (h : ArrOfT s cA ty ∧ va_RA s cA ty) : va_K D vwCl [(cA, ty)] s := ⟨hK.1, fun k q hk => by
  match k, hk with
  | 0, hk => cases hk; exact h
  | k + 1, hk => simp at hk⟩
/-- an outer array's cell stands in the heap -/
theorem q_xat {k : Nat} (G : q_G X xa A s) (hk : k < 3) (hS : va_S A s.heap H locs) : ∃ cell : Cell, H[xa k]? = some cell ∧ s.isArrayOf cell .int ∧ cell.vm ≠ .unknown ∧ cell.slots.size = (X k).1 ∧ (X k).1 < 2 ^ 31 ∧ ∀ j : Nat, j < (X k).1 → cell.slots[j]? = some (.int ((X k).2 j)) := by
  obtain ⟨cell, h1, h2, h3, h4, h5, h6, h7⟩ := G.2.1 k hk
  refine ⟨cell, ?_, h2, h3, h4, h5, h6⟩
  rw [hS.2.1 (xa k) (Array.getElem?_eq_some_iff.mp h1).1 h7]
  exact h1
theorem q_aX {a b : Nat} (ha : p_E ≤ a) (hb : q_a xa ad a = some b) : b = xa (a - p_E) := by
  unfold q_a at hb
  rw [if_neg (by omega)] at hb
  exact (Option.some.inj hb).symm
theorem q_x_iald {ty : Nat} {q : p_S} {ii : Instr} (hi : (ty = 20 ∧ ii = .iaload) ∨ (ty = 21 ∧ ii = .baload)) (hx : p_iald X ty pc lo st μ = some q) (hd : decode (q_cc M) pc = .ok (ii, 1)) (C : q_Ctx p s m args meth c M D A) (G : q_G X xa A s) (P : q_Pt s A D xa nL ad0 H locs ad μ lo st ls sa) (K : q_Nx p l e R s m args below meth c Q D A xa nL c0 s0 ad0 q) : W p l e R s m args below meth c H locs (mC μ - c0) (mS μ - s0) Q (F0 m pc ls sa) := by
  unfold p_iald at hx
  split at hx
  · rename_i i a r
    obtain ⟨v1, r1, e1, h1, v2, r2, e2, ⟨b, h2, h2'⟩, h3⟩ := P.2.2.2.1
    have h1 : v1 = .int i := h1
    subst e1 h1 e2 h2'
    split at hx
    · rename_i hE
      split at hx
      · rename_i hz
        obtain ⟨z1, z2, z3, z4⟩ := hz
        cases hx
        have hi : ii = Instr.iaload := by
          rcases hi with ⟨-, h⟩ | ⟨h, -⟩
          · exact h
          · omega
        subst hi
        have hb := q_aX hE h2
        subst hb
        obtain ⟨cell, g1, g2, g3, g4, g5, g6⟩ := q_xat G z4 P.2.1
        exact W.iald (v := .int ((X (a - p_E)).2 i.toNatClampNeg)) C.1 C.2.1 g1 g2 g3 (by rw [g4]; exact fun q => q.elim z2 (fun w => by omega)) (g6 _ z3) rfl rfl hd (q_stk (st' := .int ((X (a - p_E)).2 i.toNatClampNeg) :: r) P ⟨_, _, rfl, rfl, h3⟩ K)
      · cases hx
    · rename_i hE
      split at hx
      · rename_i hz
        obtain ⟨z1, z2, z3, z4⟩ := hz
        cases hx
        obtain ⟨ws, w⟩ := P.1
        obtain ⟨e, he, hc⟩ := q_Ws_at w z4 h2
        obtain ⟨cA, e1, e2⟩ := q_cI hc (by rcases hi with ⟨h, -⟩ | ⟨h, -⟩ <;> omega)
        subst e1
        rw [z1] at e2
        have K' := q_stk (pc' := pc + 1) (st' := .int (mI μ a i.toNatClampNeg) :: r) P ⟨_, _, rfl, rfl, h3⟩ K
        rcases hi with ⟨h, h'⟩ | ⟨h, h'⟩
        · subst h h'
          exact va_iald C.1 C.2.1 (q_K1 C.2.2.2.2.2.2.2.2.2.1 e2) w.1 a 0 he rfl (fun q => q.elim z2 (fun w => by omega)) hd K'
        · subst h h'
          exact va_bald C.1 C.2.1 (q_K1 C.2.2.2.2.2.2.2.2.2.1 e2) w.1 a 0 he rfl (fun q => q.elim z2 (fun w => by omega)) hd K'
      · cases hx
  · cases hx
theorem q_x_iast {ty : Nat} {q : p_S} {i : Instr} (hi : (ty = 20 ∧ i = .iastore) ∨ (ty = 21 ∧ i = .bastore)) (hx : p_iast ty pc lo st μ = some q) (hd : decode (q_cc M) pc = .ok (i, 1)) (C : q_Ctx p s m args meth c M D A) (P : q_Pt s A D xa nL ad0 H locs ad μ lo st ls sa) (K : q_Nx p l e R s m args below meth c Q D A xa nL c0 s0 ad0 q) : W p l e R s m args below meth c H locs (mC μ - c0) (mS μ - s0) Q (F0 m pc ls sa) := by
  unfold p_iast at hx
  split at hx
  · rename_i x i a r
    obtain ⟨v0, r0, e0, h0, v1, r1, e1, h1, v2, r2, e2, ⟨b, h2, h2'⟩, h3⟩ := P.2.2.2.1
    have h0 : v0 = .int x := h0
    have h1 : v1 = .int i := h1
    subst e0 h0 e1 h1 e2 h2'
    split at hx
    · rename_i hz
      obtain ⟨z1, z2, z3, z4⟩ := hz
      cases hx
      obtain ⟨ws, w⟩ := P.1
      obtain ⟨e, he, hc⟩ := q_Ws_at w z4 h2
      obtain ⟨cA, e1, e2⟩ := q_cI hc (by rcases hi with ⟨h, -⟩ | ⟨h, -⟩ <;> omega)
      subst e1
      rw [z1] at e2
      have hin : vp_in i (mL μ a) := fun q => q.elim z2 (fun w => by omega)
      have fin : ∀ y : Int32, ∀ (H1 : Heap) (locs1 : List Loc), va_P D vwCl (ws.set a (b, .inl (cA, mL μ a, .inl (upd (mI μ a) i.toNatClampNeg y)))) H1 → va_D A (ws.set a (b, .inl (cA, mL μ a, .inl (upd (mI μ a) i.toNatClampNeg y)))) → va_S A s.heap H1 locs1 → q_Pt s A D xa nL ad0 H1 locs1 ad (sI μ a i.toNatClampNeg y) lo r ls r2 := by
        intro y H1 locs1 hP hD hS
        refine ⟨q_Ws_set (μ' := sI μ a i.toNatClampNeg y) w he hP hD rfl rfl (fun j hj => ⟨q_up_ne hj, rfl, rfl, rfl, rfl⟩) ?_, hS, P.2.2.1, h3, P.2.2.2.2⟩
        refine ⟨by show 20 ≤ mK μ a ∧ mK μ a ≤ 26; rcases hi with ⟨h, -⟩ | ⟨h, -⟩ <;> omega, by show ArrOfT s cA (q_ty (mK μ a)) ∧ va_RA s cA (q_ty (mK μ a)); rw [z1]; exact e2, rfl, ?_⟩
        refine ⟨by show mK μ a = 20 ∨ mK μ a = 21; rcases hi with ⟨h, -⟩ | ⟨h, -⟩ <;> omega, ?_⟩
        show upd (mI μ a) i.toNatClampNeg y = p_up (mI μ) a i.toNatClampNeg y a
        rw [q_up_eq]
        rfl
      rcases hi with ⟨h, h'⟩ | ⟨h, h'⟩
      · subst h h'
        exact va_iast C.1 C.2.1 (q_K1 C.2.2.2.2.2.2.2.2.2.1 e2) w.1 w.2.1 P.2.1 a 0 he rfl hin hd (fun H1 locs1 hP hD hS => K H1 locs1 ad ls r2 (fin x H1 locs1 hP hD hS))
      · subst h h'
        exact va_bast C.1 C.2.1 (q_K1 C.2.2.2.2.2.2.2.2.2.1 e2) w.1 w.2.1 P.2.1 a 0 he rfl hin hd (fun H1 locs1 hP hD hS => K H1 locs1 ad ls r2 (fin _ H1 locs1 hP hD hS))
    · cases hx
  · cases hx
theorem q_x_lald {q : p_S} (hx : p_lald pc lo st μ = some q) (hd : decode (q_cc M) pc = .ok (.laload, 1)) (C : q_Ctx p s m args meth c M D A) (P : q_Pt s A D xa nL ad0 H locs ad μ lo st ls sa) (K : q_Nx p l e R s m args below meth c Q D A xa nL c0 s0 ad0 q) : W p l e R s m args below meth c H locs (mC μ - c0) (mS μ - s0) Q (F0 m pc ls sa) := by
  unfold p_lald at hx
  split at hx
  · rename_i i a r
    obtain ⟨v1, r1, e1, h1, v2, r2, e2, ⟨b, h2, h2'⟩, h3⟩ := P.2.2.2.1
    have h1 : v1 = .int i := h1
    subst e1 h1 e2 h2'
    split at hx
    · rename_i hz
      obtain ⟨z1, z2, z3, z4⟩ := hz
      cases hx
      obtain ⟨ws, w⟩ := P.1
      obtain ⟨e, he, hc⟩ := q_Ws_at w z4 h2
      obtain ⟨cA, e1, e2⟩ := q_cJ hc z1
      subst e1
      rw [z1] at e2
      exact va_lald C.1 C.2.1 (q_K1 C.2.2.2.2.2.2.2.2.2.1 e2) w.1 a 0 he rfl (fun q => q.elim z2 (fun w => by omega)) hd (q_stk (st' := .long (mJ μ a i.toNatClampNeg) :: r) P ⟨_, _, rfl, rfl, h3⟩ K)
    · cases hx
  · cases hx
theorem q_x_last {q : p_S} (hx : p_last pc lo st μ = some q) (hd : decode (q_cc M) pc = .ok (.lastore, 1)) (C : q_Ctx p s m args meth c M D A) (P : q_Pt s A D xa nL ad0 H locs ad μ lo st ls sa) (K : q_Nx p l e R s m args below meth c Q D A xa nL c0 s0 ad0 q) : W p l e R s m args below meth c H locs (mC μ - c0) (mS μ - s0) Q (F0 m pc ls sa) := by
  unfold p_last at hx
  split at hx
  · rename_i x i a r
    obtain ⟨v0, r0, e0, h0, v1, r1, e1, h1, v2, r2, e2, ⟨b, h2, h2'⟩, h3⟩ := P.2.2.2.1
    have h0 : v0 = .long x := h0
    have h1 : v1 = .int i := h1
    subst e0 h0 e1 h1 e2 h2'
    split at hx
    · rename_i hz
      obtain ⟨z1, z2, z3, z4⟩ := hz
      cases hx
      obtain ⟨ws, w⟩ := P.1
      obtain ⟨e, he, hc⟩ := q_Ws_at w z4 h2
      obtain ⟨cA, e1, e2⟩ := q_cJ hc z1
      subst e1
      rw [z1] at e2
      refine va_last C.1 C.2.1 (q_K1 C.2.2.2.2.2.2.2.2.2.1 e2) w.1 w.2.1 P.2.1 a 0 he rfl (fun q => q.elim z2 (fun w => by omega)) hd (fun H1 locs1 hP hD hS => K H1 locs1 ad ls r2 ?_)
      refine ⟨q_Ws_set (μ' := sJ μ a i.toNatClampNeg x) w he hP hD rfl rfl (fun j hj => ⟨rfl, rfl, q_up_ne hj, rfl, rfl⟩) ?_, hS, P.2.2.1, h3, P.2.2.2.2⟩
      refine ⟨by show 20 ≤ mK μ a ∧ mK μ a ≤ 26; omega, by show ArrOfT s cA (q_ty (mK μ a)) ∧ va_RA s cA (q_ty (mK μ a)); rw [z1]; exact e2, rfl, z1, ?_⟩
      show vp_updL (mJ μ a) i.toNatClampNeg x = p_up (mJ μ) a i.toNatClampNeg x a
      rw [q_up_eq]
      rfl
    · cases hx
  · cases hx
theorem q_isR {k : Nat} (h : 23 ≤ k) (h2 : k ≤ 26) : (q_ty k).isReference = true := by
  have : k = 23 ∨ k = 24 ∨ k = 25 ∨ k = 26 := by omega
  rcases this with h | h | h | h <;> subst h <;> rfl
theorem q_x_aald {q : p_S} (hx : p_aald pc lo st μ = some q) (hd : decode (q_cc M) pc = .ok (.aaload, 1)) (C : q_Ctx p s m args meth c M D A) (P : q_Pt s A D xa nL ad0 H locs ad μ lo st ls sa) (K : q_Nx p l e R s m args below meth c Q D A xa nL c0 s0 ad0 q) : W p l e R s m args below meth c H locs (mC μ - c0) (mS μ - s0) Q (F0 m pc ls sa) := by
  unfold p_aald at hx
  split at hx
  · rename_i i a r
    obtain ⟨v1, r1, e1, h1, v2, r2, e2, ⟨b, h2, h2'⟩, h3⟩ := P.2.2.2.1
    have h1 : v1 = .int i := h1
    subst e1 h1 e2 h2'
    split at hx
    · rename_i hz
      obtain ⟨z0, z1, z2, z3, z4⟩ := hz
      cases hx
      obtain ⟨ws, w⟩ := P.1
      obtain ⟨e, he, hc⟩ := q_Ws_at w z4 h2
      obtain ⟨cA, g, e1, e2, e3⟩ := q_cR hc z0
      subst e1
      exact W.aald (v := va_rf (g i.toNatClampNeg)) (ty := q_ty (mK μ a)) C.1 C.2.1 (w.1 a _ he) (e2.1 (mL μ a) (fun j => va_rf (g j))) (q_isR z0 z1) (fun q => by cases q) (by show ¬ (i < 0 ∨ (arrV _ _ _).slots.size ≤ _); rw [arrV_size]; exact fun q => q.elim z2 (fun w => absurd w (Nat.not_le.mpr z3))) (by show (arrV _ _ _).slots[_]? = _; rw [arrV_read _ _ z3]) rfl rfl hd (q_stk (st' := va_rf (mR μ a i.toNatClampNeg) :: r) P ⟨_, _, rfl, q_v_rf (e3 _), h3⟩ K)
    · cases hx
  · cases hx
theorem q_x_aast {q : p_S} (hx : p_aast pc lo st μ = some q) (hd : decode (q_cc M) pc = .ok (.aastore, 1)) (C : q_Ctx p s m args meth c M D A) (P : q_Pt s A D xa nL ad0 H locs ad μ lo st ls sa) (K : q_Nx p l e R s m args below meth c Q D A xa nL c0 s0 ad0 q) : W p l e R s m args below meth c H locs (mC μ - c0) (mS μ - s0) Q (F0 m pc ls sa) := by
  unfold p_aast at hx
  split at hx
  · rename_i x i a r
    obtain ⟨v0, r0, e0, ⟨bx, h0, h0'⟩, v1, r1, e1, h1, v2, r2, e2, ⟨b, h2, h2'⟩, h3⟩ := P.2.2.2.1
    have h1 : v1 = .int i := h1
    subst e0 h0' e1 h1 e2 h2'
    split at hx
    · rename_i hz
      obtain ⟨z0, z1, z2, z3, z4⟩ := hz
      cases hx
      obtain ⟨ws, w⟩ := P.1
      obtain ⟨e, he, hc⟩ := q_Ws_at w z4 h2
      obtain ⟨cA, g, e1, e2, e3⟩ := q_cR hc (by rcases z0 with z | z <;> omega)
      subst e1
      obtain ⟨ex, hex, hcx⟩ := q_Ws_at w z1 h0
      have key : ∀ (cix : Nat), cix < 15 → mK μ x = cix → q_ty (mK μ a) = .object (q_on cix) → W p l e R s m args below meth c H locs (mC μ - c0) (mS μ - s0) Q (F0 m pc ls (.ref bx :: .int i :: .ref b :: r2)) := by
        intro cix hlt hkx hty
        obtain ⟨fs, f1, -⟩ := q_cO hcx hkx hlt
        subst f1
        rw [hty] at e2
        refine va_astq (r := (q_on cix, q_T cix, q_N cix)) C.1 C.2.1 (q_K1 C.2.2.2.2.2.2.2.2.2.1 e2) w.1 w.2.1 P.2.1 a 0 x cix he rfl hex (kN cix hlt).2.2 (fun q => q.elim z2 (fun w => by omega)) hd (fun H1 locs1 hP hD hS => K H1 locs1 ad ls r2 ?_)
        refine ⟨q_Ws_set (μ' := sR μ a i.toNatClampNeg (some x)) w he hP hD rfl rfl (fun j hj => ⟨rfl, q_up_ne hj, rfl, rfl, rfl⟩) ?_, hS, P.2.2.1, h3, P.2.2.2.2⟩
        refine ⟨by show 20 ≤ mK μ a ∧ mK μ a ≤ 26; rcases z0 with z | z <;> omega, by show ArrOfT s cA (q_ty (mK μ a)) ∧ va_RA s cA (q_ty (mK μ a)); rw [hty]; exact e2, rfl, ?_⟩
        refine ⟨by show 23 ≤ mK μ a; rcases z0 with z | z <;> omega, fun j => ?_⟩
        show q_ref xa ad (p_up (mR μ) a i.toNatClampNeg (some x) a j) _
        rw [q_up_eq]
        by_cases hj : j = i.toNatClampNeg
        · subst hj
          simp only [va_up, if_pos]
          exact ⟨bx, h0, rfl⟩
        · simp only [va_up, if_neg hj]
          exact e3 j
      rcases z0 with ⟨k1, k2⟩ | ⟨k1, k2⟩
      · exact key 4 (by decide) k2 (by rw [k1]; rfl)
      · exact key 6 (by decide) k2 (by rw [k1]; rfl)
    · cases hx
  · cases hx
theorem q_x_alen {q : p_S} (hx : p_alen X pc lo st μ = some q) (hd : decode (q_cc M) pc = .ok (.arraylength, 1)) (C : q_Ctx p s m args meth c M D A) (G : q_G X xa A s) (P : q_Pt s A D xa nL ad0 H locs ad μ lo st ls sa) (K : q_Nx p l e R s m args below meth c Q D A xa nL c0 s0 ad0 q) : W p l e R s m args below meth c H locs (mC μ - c0) (mS μ - s0) Q (F0 m pc ls sa) := by
  unfold p_alen at hx
  split at hx
  · rename_i a r
    obtain ⟨v2, r2, e2, ⟨b, h2, h2'⟩, h3⟩ := P.2.2.2.1
    subst e2 h2'
    split at hx
    · rename_i hE
      split at hx
      · rename_i hz
        cases hx
        have hb := q_aX hE h2
        subst hb
        obtain ⟨cell, g1, g2, g3, g4, g5, g6⟩ := q_xat G hz P.2.1
        exact W.alen (n := nI (X (a - p_E)).1) C.1 C.2.1 g1 g2 (by rw [g4] <;> rfl) rfl rfl hd (q_stk (st' := .int (nI (X (a - p_E)).1) :: r) P ⟨_, _, rfl, rfl, h3⟩ K)
      · cases hx
    · split at hx
      · rename_i hz
        obtain ⟨z0, z1, z4⟩ := hz
        cases hx
        obtain ⟨ws, w⟩ := P.1
        obtain ⟨e, he, hc⟩ := q_Ws_at w z4 h2
        cases e with
        | inr o => obtain ⟨h1, h2, -⟩ := hc; omega
        | inl x =>
          obtain ⟨cA, x⟩ := x
          obtain ⟨-, y2, y3, -⟩ := hc
          have y3 : x.1 = mL μ a := y3
          exact va_alen C.1 C.2.1 (q_K1 C.2.2.2.2.2.2.2.2.2.1 y2) w.1 a 0 he rfl (v := nI (mL μ a)) (by rw [y3]; rfl) hd (q_stk (st' := .int (nI (mL μ a)) :: r) P ⟨_, _, rfl, rfl, h3⟩ K)
      · cases hx
  · cases hx
end QM
end
section
/-! fields, and one instruction of any kind -/
theorem q_lF_in {o i : Nat} {f : Nat × Nat × Nat × Nat × Bool} (h : q_lF o i = some f) : q_okF f ∧ f.1 = o ∧ f.2.1 = i := by
  unfold q_lF at h
  have h1 := List.find?_some h
  have h2 := List.mem_of_find?_eq_some h
  simp only [Bool.and_eq_true, beq_iff_eq] at h1
  exact ⟨kFo o f h2, h1.1, h1.2⟩
theorem q_gl (C : String) (T : u_T) (k : Nat) : goodWord (u_lay C T k) = true := by
  unfold u_lay
  split <;> rfl
theorem q_uws {v : Nat} (h : v < 15) : ∀ w ∈ u_ws (q_on v) (q_T v) (q_N v), w ∈ q_tbl := by
  intro w hw
  obtain ⟨k, hk, rfl⟩ := List.mem_map.mp hw
  exact q_tbl_in (kW v k h (List.mem_range.mp hk)) (q_gl _ _ _)
theorem q_tyc : ∀ v : Nat, v < 15 → ∀ k : Nat, k < q_N v → (q_Ty v k = .int ∨ q_Ty v k = .boolean ∨ p_isR v k = true) := by decide +kernel
theorem q_ref_fit {ty : FieldType} (h : (match ty with | .object _ => true | .array _ => true | _ => false) = true) (a : Nat) : narrow ty (.ref a) = .ref a ∧ fits ty (.ref a) = true := by
  cases ty <;> first | exact ⟨rfl, rfl⟩ | cases h
section QF
variable {p : Program} {l : Launch} {e : Env} {R : Room} {s : State} {m : MethodId} {args : Array Value} {below : List Frame} {meth : Method} {c : Code} {H : Heap} {locs : List Loc} {Q : State → Prop}
variable {X : p_X} {M : q_M} {D : va_G} {A : Nat → Prop} {xa : Nat → Nat} {nL c0 s0 : Nat} {ad0 ad : List Nat} {μ : p_M} {lo st : List Value} {ls : Array Slot} {sa : List Value} {pc : Nat}
theorem q_x_getf {i : Nat} {q : p_S} (hx : p_getf M i pc lo st μ = some q) (hd : decode (q_cc M) pc = .ok (.getfield i, 3)) (C : q_Ctx p s m args meth c M D A) (G : q_G X xa A s) (P : q_Pt s A D xa nL ad0 H locs ad μ lo st ls sa) (K : q_Nx p l e R s m args below meth c Q D A xa nL c0 s0 ad0 q) : W p l e R s m args below meth c H locs (mC μ - c0) (mS μ - s0) Q (F0 m pc ls sa) := by
  unfold p_getf at hx
  split at hx
  · rename_i a r
    obtain ⟨v2, r2, e2, ⟨b, h2, h2'⟩, h3⟩ := P.2.2.2.1
    subst e2 h2'
    split at hx
    · rename_i f hf
      split at hx
      · rename_i hz
        cases hx
        obtain ⟨ok, e1, e2⟩ := q_lF_in hf
        obtain ⟨o', i', ci, k, nest⟩ := f
        have e1 : o' = q_o M := e1
        have e2 : i' = i := e2
        subst e1 e2
        obtain ⟨k1, k2, k3, k4⟩ := ok
        have k3 : ci < 15 := k3
        have k4 : k < q_N ci := k4
        obtain ⟨z1, z2⟩ := hz
        obtain ⟨ws, w⟩ := P.1
        obtain ⟨e, he, hc⟩ := q_Ws_at w z2 h2
        obtain ⟨fs, f1, f2, f3⟩ := q_cO hc z1 k3
        subst f1
        obtain ⟨v, v1, v3⟩ := f3 k k4
        have hv : q_v xa ad (if p_isR ci k = true then va_rf (mR μ a k) else .int (mI μ a k)) v := by
          unfold q_fld at v3
          by_cases hr : p_isR ci k = true
          · rw [if_pos hr] at v3 ⊢
            obtain ⟨g, g1, g2⟩ := v3
            subst g2
            exact q_v_rf g1
          · rw [if_neg hr] at v3 ⊢
            exact v3
        have K' := q_stk (pc' := pc + 3) (st' := (if p_isR ci k = true then va_rf (mR μ a k) else .int (mI μ a k)) :: r) P ⟨v, _, rfl, hv, h3⟩ K
        cases nest with
        | false =>
          have hl := C.2.2.2.2.2.2.1 _ (q_tbl_in (k1 rfl) rfl)
          exact va_get C.1 C.2.1 C.2.2.2.2.2.2.1 (q_uws k3) C.2.2.2.2.2.1 C.2.2.2.2.2.2.2.2.2.1 w.1 a he (kN ci k3).2.2 k k4 hl (fun _ h => h) v1 hd K'
        | true =>
          have hl := va_Nw.use (A := args) rfl (G.1 _ (k2 rfl) rfl)
          exact va_getN C.1 C.2.1 C.2.2.2.2.2.2.1 (q_uws k3) C.2.2.2.2.2.1 C.2.2.2.2.2.2.2.2.2.1 w.1 a he (kN ci k3).2.2 k k4 hl (fun _ h => h) v1 hd K'
      · cases hx
    · cases hx
  · cases hx
/-- the row of a putfield, final or not, by the nest or not -/
theorem q_putrow {i : Nat} {f : Nat × Nat × Nat × Nat × Bool} (hf : q_lF (q_o M) i = some f) (hd : decode (q_cc M) pc = .ok (.putfield i, 3)) (C : q_Ctx p s m args meth c M D A) (G : q_G X xa A s) {ws : va_W} (w : q_Ws s H A D xa ad μ ws) (hS : va_S A s.heap H locs) {a b : Nat} {fs : List Value} (he : ws[a]? = some (b, .inr (f.2.2.1, fs))) (hfs : fs.length = q_N f.2.2.1)
    (hmay : p_may M f.2.2.1 f.2.2.2.1 = true) (hnf : f.2.2.2.2 = true → (q_T f.2.2.1 f.2.2.2.1).2.2.2 = false) {v : Value} (hn : narrow (q_Ty f.2.2.1 f.2.2.2.1) v = v) (hfit : fits (q_Ty f.2.2.1 f.2.2.2.1) v = true) {cells slots : Nat} {rest : List Value}
    (kk : ∀ (H1 : Heap) (locs1 : List Loc), va_P D vwCl (ws.set a (b, .inr (f.2.2.1, fs.set f.2.2.2.1 v))) H1 → va_D A (ws.set a (b, .inr (f.2.2.1, fs.set f.2.2.2.1 v))) → va_S A s.heap H1 locs1 → W p l e R s m args below meth c H1 locs1 cells slots Q (F0 m (pc + 3) ls rest)) : W p l e R s m args below meth c H locs cells slots Q (F0 m pc ls (v :: .ref b :: rest)) := by
  obtain ⟨ok, e1, e2⟩ := q_lF_in hf
  obtain ⟨o', i', ci, k, nest⟩ := f
  have e1 : o' = q_o M := e1
  have e2 : i' = i := e2
  subst e1 e2
  obtain ⟨k1, k2, k3, k4⟩ := ok
  have k3 : ci < 15 := k3
  have k4 : k < q_N ci := k4
  have hl : k < fs.length := by have hfs : fs.length = q_N ci := hfs; omega
  cases nest with
  | true =>
    have hlk := va_Nw.use (A := args) rfl (G.1 _ (k2 rfl) rfl)
    exact va_putN C.1 C.2.1 C.2.2.2.2.2.2.1 (q_uws k3) (q_Ty ci) (fun k hk => kTy ci k k3 hk) (kNm ci k3) C.2.2.2.2.2.1 C.2.2.2.2.2.2.2.2.2.1 w.1 w.2.1 hS a he (kN ci k3).2.2 k k4 hlk (fun _ h => h) (hnf rfl) (kTy ci k k3 k4) hn hfit hl hd kk
  | false =>
    have hlk := C.2.2.2.2.2.2.1 _ (q_tbl_in (k1 rfl) rfl)
    unfold p_may at hmay
    by_cases hfin : (q_T ci k).2.2.2 = true
    · have hmay : (if (q_T ci k).2.2.2 = true then q_o M == ci && (q_y M).name == "<init>" && (q_T ci k).1 == q_on (q_o M) else true) = true := hmay
      rw [if_pos hfin] at hmay
      simp only [Bool.and_eq_true, beq_iff_eq] at hmay
      exact va_putF C.1 C.2.1 C.2.2.2.2.2.2.1 (q_uws k3) (q_Ty ci) (fun k hk => kTy ci k k3 hk) (kNm ci k3) C.2.2.2.2.2.1 C.2.2.2.2.2.2.2.2.2.1 w.1 w.2.1 hS a he (kN ci k3).2.2 k k4 hlk (fun _ h => h) hfin (C.2.2.2.2.2.2.2.2.1.trans hmay.1.2) hmay.2 (kTy ci k k3 k4) hn hfit hl hd kk
    · exact va_put C.1 C.2.1 C.2.2.2.2.2.2.1 (q_uws k3) (q_Ty ci) (fun k hk => kTy ci k k3 hk) (kNm ci k3) C.2.2.2.2.2.1 C.2.2.2.2.2.2.2.2.2.1 w.1 w.2.1 hS a he (kN ci k3).2.2 k k4 hlk (fun _ h => h) (Bool.eq_false_iff.mpr hfin) (kTy ci k k3 k4) hn hfit hl hd kk
theorem q_x_putf {i : Nat} {q : p_S} (hx : p_putf M i pc lo st μ = some q) (hd : decode (q_cc M) pc = .ok (.putfield i, 3)) (C : q_Ctx p s m args meth c M D A) (G : q_G X xa A s) (P : q_Pt s A D xa nL ad0 H locs ad μ lo st ls sa) (K : q_Nx p l e R s m args below meth c Q D A xa nL c0 s0 ad0 q) : W p l e R s m args below meth c H locs (mC μ - c0) (mS μ - s0) Q (F0 m pc ls sa) := by
  unfold p_putf at hx
  split at hx
  · rename_i x a r
    obtain ⟨v1, r1, e1, h1, v2, r2, e2, ⟨b, h2, h2'⟩, h3⟩ := P.2.2.2.1
    have h1 : v1 = .int x := h1
    subst e1 h1 e2 h2'
    split at hx
    · rename_i f hf
      split at hx
      · rename_i hz
        cases hx
        obtain ⟨z1, z2, z3, z4, z5, z6⟩ := hz
        obtain ⟨ok, -, -⟩ := q_lF_in hf
        obtain ⟨-, -, k3, k4⟩ := ok
        obtain ⟨ws, w⟩ := P.1
        obtain ⟨e, he, hc⟩ := q_Ws_at w z2 h2
        obtain ⟨fs, f1, f2, f3⟩ := q_cO hc z1 k3
        subst f1
        have hty : narrow (q_Ty f.2.2.1 f.2.2.2.1) (.int x) = .int x ∧ fits (q_Ty f.2.2.1 f.2.2.2.1) (.int x) = true := by
          rcases q_tyc f.2.2.1 k3 f.2.2.2.1 k4 with t | t | t
          · rw [t]; exact ⟨rfl, rfl⟩
          · have hzz : p_isZ f.2.2.1 f.2.2.2.1 = true := by unfold p_isZ; rw [t]
            rw [t]
            rcases z4 hzz with y | y <;> subst y <;> exact ⟨by decide, by decide⟩
          · rw [t] at z3; cases z3
        refine q_putrow hf hd C G w P.2.1 he f2 z5 z6 hty.1 hty.2 (fun H1 locs1 hP hD hS => K H1 locs1 ad ls r2 ?_)
        refine ⟨q_Ws_set (μ' := sI μ a f.2.2.2.1 x) w he hP hD rfl rfl (fun j hj => ⟨q_up_ne hj, rfl, rfl, rfl, rfl⟩) ?_, hS, P.2.2.1, h3, P.2.2.2.2⟩
        refine ⟨z1, k3, by rw [List.length_set]; exact f2, fun j hj => ?_⟩
        by_cases ej : j = f.2.2.2.1
        · subst ej
          refine ⟨.int x, by rw [List.getElem?_set_self (by rw [f2]; exact k4)], ?_⟩
          unfold q_fld
          rw [if_neg (by rw [z3]; decide)]
          show Value.int x = .int (p_up (mI μ) a f.2.2.2.1 x a f.2.2.2.1)
          rw [q_up_eq]
          simp [va_up]
        · obtain ⟨v, v1, v3⟩ := f3 j hj
          refine ⟨v, by rw [List.getElem?_set_ne (Ne.symm ej)]; exact v1, ?_⟩
          unfold q_fld at v3 ⊢
          split at v3
          · rename_i hr
            rw [if_pos hr]
            exact v3
          · rename_i hr
            rw [if_neg hr]
            show v = .int (p_up (mI μ) a f.2.2.2.1 x a j)
            rw [q_up_eq]
            simp only [va_up, if_neg ej]
            exact v3
      · cases hx
    · cases hx
  · rename_i x a r
    obtain ⟨v1, r1, e1, ⟨bx, h1, h1'⟩, v2, r2, e2, ⟨b, h2, h2'⟩, h3⟩ := P.2.2.2.1
    subst e1 h1' e2 h2'
    split at hx
    · rename_i f hf
      split at hx
      · rename_i hz
        cases hx
        obtain ⟨z1, z2, z3, z5, z6⟩ := hz
        obtain ⟨ok, -, -⟩ := q_lF_in hf
        obtain ⟨-, -, k3, k4⟩ := ok
        obtain ⟨ws, w⟩ := P.1
        obtain ⟨e, he, hc⟩ := q_Ws_at w z2 h2
        obtain ⟨fs, f1, f2, f3⟩ := q_cO hc z1 k3
        subst f1
        have hty : narrow (q_Ty f.2.2.1 f.2.2.2.1) (.ref bx) = .ref bx ∧ fits (q_Ty f.2.2.1 f.2.2.2.1) (.ref bx) = true := q_ref_fit z3 bx
        refine q_putrow hf hd C G w P.2.1 he f2 z5 z6 hty.1 hty.2 (fun H1 locs1 hP hD hS => K H1 locs1 ad ls r2 ?_)
        refine ⟨q_Ws_set (μ' := sR μ a f.2.2.2.1 (some x)) w he hP hD rfl rfl (fun j hj => ⟨rfl, q_up_ne hj, rfl, rfl, rfl⟩) ?_, hS, P.2.2.1, h3, P.2.2.2.2⟩
        refine ⟨z1, k3, by rw [List.length_set]; exact f2, fun j hj => ?_⟩
        by_cases ej : j = f.2.2.2.1
        · subst ej
          refine ⟨.ref bx, by rw [List.getElem?_set_self (by rw [f2]; exact k4)], ?_⟩
          unfold q_fld
          rw [if_pos z3]
          refine ⟨some bx, ?_, rfl⟩
          show q_ref xa ad (p_up (mR μ) a f.2.2.2.1 (some x) a f.2.2.2.1) _
          rw [q_up_eq]
          simp only [va_up, if_pos]
          exact ⟨bx, h1, rfl⟩
        · obtain ⟨v, v1, v3⟩ := f3 j hj
          refine ⟨v, by rw [List.getElem?_set_ne (Ne.symm ej)]; exact v1, ?_⟩
          unfold q_fld at v3 ⊢
          split at v3
          · rename_i hr
            rw [if_pos hr]
            obtain ⟨g, g1, g2⟩ := v3
            refine ⟨g, ?_, g2⟩
            show q_ref xa ad (p_up (mR μ) a f.2.2.2.1 (some x) a j) _
            rw [q_up_eq]
            simp only [va_up, if_neg ej]
            exact g1
          · rename_i hr
            rw [if_neg hr]
            exact v3
      · cases hx
    · cases hx
  · cases hx
end QF
end
section
/-! any instruction that calls nothing -/
section QE
variable {p : Program} {l : Launch} {e : Env} {R : Room} {s : State} {m : MethodId} {args : Array Value} {below : List Frame} {meth : Method} {c : Code} {H : Heap} {locs : List Loc} {Q : State → Prop}
variable {X : p_X} {M : q_M} {D : va_G} {A : Nat → Prop} {xa : Nat → Nat} {nL c0 s0 : Nat} {ad0 ad : List Nat} {μ : p_M} {lo st : List Value} {ls : Array Slot} {sa : List Value} {pc : Nat}
set_option maxHeartbeats 4000000 in
set_option maxRecDepth 100000 in
theorem q_exec {i : Instr} {len : Nat} {q : p_S} (hx : p_exec X M i len pc lo st μ = some q) (hd : decode (q_cc M) pc = .ok (i, len)) (C : q_Ctx p s m args meth c M D A) (G : q_G X xa A s) (P : q_Pt s A D xa nL ad0 H locs ad μ lo st ls sa) (K : q_Nx p l e R s m args below meth c Q D A xa nL c0 s0 ad0 q) : W p l e R s m args below meth c H locs (mC μ - c0) (mS μ - s0) Q (F0 m pc ls sa) := by
  have hX := C.1
  have hb := C.2.1
  unfold p_exec at hx
  split at hx
  · split at hx
    · rename_i hlen; subst hlen
      unfold p_nx at hx; cases hx
      exact lv_iconst hX hb hd rfl (q_push (v := .int _) P rfl K)
    · cases hx
  · split at hx
    · rename_i hlen; subst hlen
      unfold p_nx at hx; cases hx
      exact lv_bipush hX hb hd rfl (q_push (v := .int _) P rfl K)
    · cases hx
  · split at hx
    · rename_i hlen; subst hlen
      unfold p_nx at hx; cases hx
      exact lv_sipush hX hb hd rfl (q_push (v := .int _) P rfl K)
    · cases hx
  · split at hx
    · rename_i hlen; subst hlen
      unfold p_nx at hx; cases hx
      exact lv_lconst hX hb hd rfl (q_push (v := .long _) P rfl K)
    · cases hx
  · split at hx
    · rename_i hlen; subst hlen
      exact q_x_ild hx (fun x h k => lv_iload_n hX hb hd rfl h k) P K
    · cases hx
  · split at hx
    · rename_i hlen; subst hlen
      exact q_x_ild hx (fun x h k => lv_iload hX hb hd h k) P K
    · cases hx
  · split at hx
    · rename_i hlen; subst hlen
      exact q_x_ald hx (fun x h k => lv_aload_n hX hb hd rfl h k) P K
    · cases hx
  · split at hx
    · rename_i hlen; subst hlen
      exact q_x_ald hx (fun x h k => lv_aload hX hb hd h k) P K
    · cases hx
  · split at hx
    · rename_i hlen; subst hlen
      exact q_x_ist hx (fun x rest lv h hk k => lv_istore_n hX hb hd rfl h hk rfl k) P K
    · cases hx
  · split at hx
    · rename_i hlen; subst hlen
      exact q_x_ist hx (fun x rest lv h hk k => lv_istore hX hb hd h hk rfl k) P K
    · cases hx
  · split at hx
    · rename_i hlen; subst hlen
      exact q_x_ast hx (fun x rest lv h hk k => lv_astore_n hX hb hd rfl h hk rfl k) P K
    · cases hx
  · split at hx
    · rename_i hlen; subst hlen
      exact q_x_ast hx (fun x rest lv h hk k => lv_astore hX hb hd h hk rfl k) P K
    · cases hx
  · split at hx
    · rename_i hlen; subst hlen
      exact q_x_iinc hx hd C P K
    · cases hx
  · split at hx
    · rename_i hlen; subst hlen
      exact q_x_i2 (fun x y rest k => lv_iadd hX hb hd k) hx P K
    · cases hx
  · split at hx
    · rename_i hlen; subst hlen
      exact q_x_i2 (fun x y rest k => lv_isub hX hb hd k) hx P K
    · cases hx
  · split at hx
    · rename_i hlen; subst hlen
      exact q_x_i2 (fun x y rest k => lv_imul hX hb hd k) hx P K
    · cases hx
  · split at hx
    · rename_i hlen; subst hlen
      exact q_x_i2 (fun x y rest k => lv_iand hX hb hd k) hx P K
    · cases hx
  · split at hx
    · rename_i hlen; subst hlen
      exact q_x_i2 (fun x y rest k => lv_ior hX hb hd k) hx P K
    · cases hx
  · split at hx
    · rename_i hlen; subst hlen
      exact q_x_i2 (fun x y rest k => lv_ixor hX hb hd k) hx P K
    · cases hx
  · split at hx
    · rename_i hlen; subst hlen
      exact q_x_i2 (fun x y rest k => lv_ishl hX hb hd k) hx P K
    · cases hx
  · split at hx
    · rename_i hlen; subst hlen
      exact q_x_i2 (fun x y rest k => lv_ishr hX hb hd k) hx P K
    · cases hx
  · split at hx
    · rename_i hlen; subst hlen
      exact q_x_i2 (fun x y rest k => lv_iushr hX hb hd rfl k) hx P K
    · cases hx
  · split at hx
    · rename_i hlen; subst hlen
      split at hx
      · rename_i y x r
        split at hx
        · cases hx
        · rename_i hy
          cases hx
          obtain ⟨v1, r1, e1, h1, v2, r2, e2, h2, h3⟩ := P.2.2.2.1
          have h1 : v1 = .int y := h1
          have h2 : v2 = .int x := h2
          subst e1 h1 e2 h2
          exact lv_idiv hX hb hd hy (q_stk (st' := .int (x / y) :: r) P ⟨_, _, rfl, rfl, h3⟩ K)
      · cases hx
    · cases hx
  · split at hx
    · rename_i hlen; subst hlen
      split at hx
      · rename_i y x r
        split at hx
        · cases hx
        · rename_i hy
          cases hx
          obtain ⟨v1, r1, e1, h1, v2, r2, e2, h2, h3⟩ := P.2.2.2.1
          have h1 : v1 = .int y := h1
          have h2 : v2 = .int x := h2
          subst e1 h1 e2 h2
          exact lv_irem hX hb hd hy (q_stk (st' := .int (x - x / y * y) :: r) P ⟨_, _, rfl, rfl, h3⟩ K)
      · cases hx
    · cases hx
  · split at hx
    · rename_i hlen; subst hlen
      exact q_x_l2 (fun x y rest k => lv_ladd hX hb hd k) hx P K
    · cases hx
  · split at hx
    · rename_i hlen; subst hlen
      exact q_x_l2 (fun x y rest k => lv_lsub hX hb hd k) hx P K
    · cases hx
  · split at hx
    · rename_i hlen; subst hlen
      exact q_x_l2 (fun x y rest k => lv_lmul hX hb hd k) hx P K
    · cases hx
  · split at hx
    · rename_i hlen; subst hlen
      split at hx
      · rename_i y x r
        split at hx
        · cases hx
        · rename_i hy
          cases hx
          obtain ⟨v1, r1, e1, h1, v2, r2, e2, h2, h3⟩ := P.2.2.2.1
          have h1 : v1 = .long y := h1
          have h2 : v2 = .long x := h2
          subst e1 h1 e2 h2
          exact lv_ldiv hX hb hd hy (q_stk (st' := .long (x / y) :: r) P ⟨_, _, rfl, rfl, h3⟩ K)
      · cases hx
    · cases hx
  · split at hx
    · rename_i hlen; subst hlen
      split at hx
      · rename_i y x r
        cases hx
        obtain ⟨v1, r1, e1, h1, v2, r2, e2, h2, h3⟩ := P.2.2.2.1
        have h1 : v1 = .long y := h1
        have h2 : v2 = .long x := h2
        subst e1 h1 e2 h2
        exact W.lcmp hX hb hd (q_stk (st' := .int (lg_cmp x y) :: r) P ⟨_, _, rfl, rfl, h3⟩ K)
      · cases hx
    · cases hx
  · split at hx
    · rename_i hlen; subst hlen
      split at hx
      · rename_i x r
        cases hx
        obtain ⟨v1, r1, e1, h1, h3⟩ := P.2.2.2.1
        have h1 : v1 = .int x := h1
        subst e1 h1
        exact lv_i2l hX hb hd rfl (q_stk (st' := .long (x.toInt64) :: r) P ⟨_, _, rfl, rfl, h3⟩ K)
      · cases hx
    · cases hx
  · split at hx
    · rename_i hlen; subst hlen
      split at hx
      · rename_i x r
        cases hx
        obtain ⟨v1, r1, e1, h1, h3⟩ := P.2.2.2.1
        have h1 : v1 = .long x := h1
        subst e1 h1
        exact lv_l2i hX hb hd rfl (q_stk (st' := .int (x.toInt32) :: r) P ⟨_, _, rfl, rfl, h3⟩ K)
      · cases hx
    · cases hx
  · split at hx
    · rename_i hlen; subst hlen
      split at hx
      · rename_i x r
        cases hx
        obtain ⟨v1, r1, e1, h1, h3⟩ := P.2.2.2.1
        have h1 : v1 = .int x := h1
        subst e1 h1
        exact lv_i2b hX hb hd rfl (q_stk (st' := .int (x.toInt8.toInt32) :: r) P ⟨_, _, rfl, rfl, h3⟩ K)
      · cases hx
    · cases hx
  · split at hx
    · rename_i hlen; subst hlen
      split at hx
      · rename_i x r
        cases hx
        obtain ⟨v1, r1, e1, h1, h3⟩ := P.2.2.2.1
        have h1 : v1 = .int x := h1
        subst e1 h1
        exact lv_dup hX hb hd rfl (q_stk (st' := .int x :: .int x :: r) P ⟨_, _, rfl, rfl, _, _, rfl, rfl, h3⟩ K)
      · rename_i x r
        cases hx
        obtain ⟨v1, r1, e1, ⟨b, h1, h1'⟩, h3⟩ := P.2.2.2.1
        subst e1 h1'
        exact lv_dup hX hb hd rfl (q_stk (st' := .ref x :: .ref x :: r) P ⟨_, _, rfl, ⟨b, h1, rfl⟩, _, _, rfl, ⟨b, h1, rfl⟩, h3⟩ K)
      · cases hx
    · cases hx
  · split at hx
    · rename_i hlen; subst hlen
      split at hx
      · rename_i x y r
        cases hx
        obtain ⟨v1, r1, e1, h1, v2, r2, e2, ⟨b, h2, h2'⟩, h3⟩ := P.2.2.2.1
        have h1 : v1 = .int x := h1
        subst e1 h1 e2 h2'
        exact lv_dup_x1 hX hb hd rfl rfl (q_stk (st' := .int x :: .ref y :: .int x :: r) P ⟨_, _, rfl, rfl, _, _, rfl, ⟨b, h2, rfl⟩, _, _, rfl, rfl, h3⟩ K)
      · cases hx
    · cases hx
  · split at hx
    · rename_i hlen; subst hlen
      split at hx
      · rename_i x y r
        cases hx
        obtain ⟨v1, r1, e1, h1, v2, r2, e2, ⟨b, h2, h2'⟩, h3⟩ := P.2.2.2.1
        have h1 : v1 = .int x := h1
        subst e1 h1 e2 h2'
        exact lv_dup2_11 hX hb hd rfl rfl (q_stk (st' := .int x :: .ref y :: .int x :: .ref y :: r) P ⟨_, _, rfl, rfl, _, _, rfl, ⟨b, h2, rfl⟩, _, _, rfl, rfl, _, _, rfl, ⟨b, h2, rfl⟩, h3⟩ K)
      · cases hx
    · cases hx
  · split at hx
    · rename_i hlen; subst hlen
      split at hx
      · rename_i x r
        cases hx
        obtain ⟨v1, r1, e1, h1, h3⟩ := P.2.2.2.1
        have h1 : v1 = .int x := h1
        subst e1 h1
        exact lv_pop hX hb hd rfl (q_stk P h3 K)
      · rename_i x r
        cases hx
        obtain ⟨v1, r1, e1, ⟨b, h1, h1'⟩, h3⟩ := P.2.2.2.1
        subst e1 h1'
        exact lv_pop hX hb hd rfl (q_stk P h3 K)
      · cases hx
    · cases hx
  · split at hx
    · rename_i hlen; subst hlen
      exact q_x_if hx hd C P K
    · cases hx
  · split at hx
    · rename_i hlen; subst hlen
      exact q_x_icmp hx hd C P K
    · cases hx
  · split at hx
    · rename_i hlen; subst hlen
      exact q_x_go hx (fun tgt ht k => lv_goto hX hb hd ht k) P P.2.2.2.1 K
    · cases hx
  · exact q_x_tsw hx hd C P K
  · exact q_x_lsw hx hd C P K
  · split at hx
    · rename_i hlen; subst hlen
      exact q_x_iald (Or.inl ⟨rfl, rfl⟩) hx hd C G P K
    · cases hx
  · split at hx
    · rename_i hlen; subst hlen
      exact q_x_iald (Or.inr ⟨rfl, rfl⟩) hx hd C G P K
    · cases hx
  · split at hx
    · rename_i hlen; subst hlen
      exact q_x_iast (Or.inl ⟨rfl, rfl⟩) hx hd C P K
    · cases hx
  · split at hx
    · rename_i hlen; subst hlen
      exact q_x_iast (Or.inr ⟨rfl, rfl⟩) hx hd C P K
    · cases hx
  · split at hx
    · rename_i hlen; subst hlen
      exact q_x_lald hx hd C P K
    · cases hx
  · split at hx
    · rename_i hlen; subst hlen
      exact q_x_last hx hd C P K
    · cases hx
  · split at hx
    · rename_i hlen; subst hlen
      exact q_x_aald hx hd C P K
    · cases hx
  · split at hx
    · rename_i hlen; subst hlen
      exact q_x_aast hx hd C P K
    · cases hx
  · split at hx
    · rename_i hlen; subst hlen
      exact q_x_alen hx hd C G P K
    · cases hx
  · split at hx
    · rename_i hlen; subst hlen
      exact q_x_getf hx hd C G P K
    · cases hx
  · split at hx
    · rename_i hlen; subst hlen
      exact q_x_putf hx hd C G P K
    · cases hx
  · cases hx
end QE
end
section
/-! instructions that read the pool, or make a cell -/
theorem q_Ws_app {U : State} {H H1 : Heap} {A : Nat → Prop} {D : va_G} {xa : Nat → Nat} {ad : List Nat} {μ μ' : p_M} {ws : va_W} (h : q_Ws U H A D xa ad μ ws) (es : List (Nat × va_E)) (hP : va_P D vwCl (ws ++ es) H1) (hD : va_D A (ws ++ es))
    (hN : mN μ' = mN μ + es.length) (hC : mC μ' = mC μ + es.length) (hE : mN μ' < p_E) (ho : ∀ i, i < mN μ → mI μ' i = mI μ i ∧ mR μ' i = mR μ i ∧ mJ μ' i = mJ μ i ∧ mK μ' i = mK μ i ∧ mL μ' i = mL μ i)
    (hc : ∀ (j a : Nat) (e : va_E), es[j]? = some (a, e) → q_cell U xa (ad ++ es.map (fun x => x.1)) μ' (mN μ + j) e) : q_Ws U H1 A D xa (ad ++ es.map (fun x => x.1)) μ' (ws ++ es) := by
  obtain ⟨h1, h2, h3, h4, h5, h6, h7⟩ := h
  refine ⟨hP, hD, by simp [h3, hN], by simp [h4, hN], by omega, hE, fun i x y hi => ?_⟩
  by_cases hl : i < ws.length
  · rw [List.getElem?_append_left hl] at hi
    obtain ⟨g1, g2⟩ := h7 i x y hi
    obtain ⟨o1, o2, o3, o4, o5⟩ := ho i (by omega)
    exact ⟨by rw [List.getElem?_append_left (by omega)]; exact g1, q_cell_mono (List.prefix_append _ _) (q_cell_same o1 o2 o3 o4 o5 g2)⟩
  · rw [List.getElem?_append_right (by omega)] at hi
    have e1 : i = mN μ + (i - ws.length) := by omega
    refine ⟨?_, ?_⟩
    · rw [List.getElem?_append_right (by omega), List.getElem?_map, h4, ← h3, hi]
      rfl
    · have := hc (i - ws.length) x y hi
      rw [← e1] at this
      exact this
theorem q_vup {α : Type} {f : Nat → α} {a i : Nat} {v : α} (h : i ≠ a) : va_up f a v i = f i := va_up_ne f v h
theorem q_veq {α : Type} {f : Nat → α} {a : Nat} {v : α} : va_up f a v a = v := by simp [va_up]
/-- the fields of a new object -/
def q_fs (v : Nat) : List Value := (List.range (q_N v)).map (fun k => if p_isR v k = true then .null else .int 0)
theorem q_fs_ok : ∀ v : Nat, v < 15 → ∀ j : Nat, j < q_N v → defaultValue (q_Ty v j) = vp_V (q_fs v) j := by
  intro v hv j hj
  have e1 : vp_V (q_fs v) j = if p_isR v j = true then .null else .int 0 := by
    unfold vp_V q_fs
    rw [List.getD_eq_getElem?_getD, List.getElem?_map, List.getElem?_range hj]
    rfl
  rw [e1]
  rcases q_tyc v hv j hj with t | t | t
  · have : ¬ p_isR v j = true := by unfold p_isR; rw [t]; decide
    rw [if_neg this, t]; rfl
  · have : ¬ p_isR v j = true := by unfold p_isR; rw [t]; decide
    rw [if_neg this, t]; rfl
  · rw [if_pos t]
    unfold p_isR at t
    split at t
    · rename_i h; rw [h]; rfl
    · rename_i h; rw [h]; rfl
    · cases t
section QP
variable {p : Program} {l : Launch} {e : Env} {R : Room} {s : State} {m : MethodId} {args : Array Value} {below : List Frame} {meth : Method} {c : Code} {H : Heap} {locs : List Loc} {Q : State → Prop}
variable {X : p_X} {M : q_M} {D : va_G} {A : Nat → Prop} {xa : Nat → Nat} {nL c0 s0 : Nat} {ad0 ad : List Nat} {μ : p_M} {lo st : List Value} {ls : Array Slot} {sa : List Value} {pc : Nat}
/-- the room that is left -/
def q_Rm (R : Room) (c0 s0 : Nat) (μ μ' : p_M) : Prop := c0 ≤ mC μ ∧ s0 ≤ mS μ ∧ mC μ' ≤ c0 + R.cells ∧ mS μ' ≤ s0 + R.slots ∧ mC μ' < p_E
theorem q_cs {H : Heap} {locs : List Loc} {a b a' b' : Nat} {g : JFrame} (h1 : a = a') (h2 : b = b') (k : W p l e R s m args below meth c H locs a' b' Q g) : W p l e R s m args below meth c H locs a b Q g := by subst h1 h2; exact k
theorem q_ldcSW {own tx : String} {index q : Nat} {rest : List Value} {cells slots : Nat} {cc : ByteArray} (hexec : p.tables.exec = Jvm.exec) (hb : c.code = cc) (hown : s.vm.findClass own = some m.cls) (hZ : vk_R own index tx q s) (hdg : decode cc pc = .ok (.ldc_w index, 3))
    (k : W p l e R s m args below meth c H locs cells slots Q (F0 m (pc + 3) ls (.ref q :: rest))) : W p l e R s m args below meth c H locs cells slots Q (F0 m pc ls rest) := by
  intro T hT Y
  obtain ⟨t, a1, b1⟩ := k T hT Y
  exact ⟨t, Y.ldcStringW hexec hown (text := tx) (a := q) hZ.1 hZ.2 (g := F0 m pc ls rest) rfl (by rw [hb]; exact hdg) t a1, b1⟩
theorem q_aStr (k : Nat) : q_a xa ad (p_E + 10 + k) = some (xa (10 + k)) := by
  unfold q_a
  rw [if_neg (by omega), show p_E + 10 + k - p_E = 10 + k by omega]
theorem q_aE {k : Nat} : q_a xa ad (p_E + k) = some (xa k) := by
  unfold q_a
  rw [if_neg (by omega), show p_E + k - p_E = k by omega]
/-- one new cell -/
theorem q_mk {k len sl b pc' : Nat} {en : va_E} {st' sa' : List Value} {H1 : Heap} (hRm : q_Rm R c0 s0 μ (sN μ k len sl)) (P : q_Pt s A D xa nL ad0 H locs ad μ lo st ls sa) {ws : va_W} (w : q_Ws s H A D xa ad μ ws) (hs : q_st xa ad st' sa') (hP : va_P D vwCl (ws ++ [(b, en)]) H1) (hD : va_D A (ws ++ [(b, en)])) (hS : va_S A s.heap H1 locs)
    (hc : q_cell s xa (ad ++ [b]) (sN μ k len sl) (mN μ) en) (K : q_Nx p l e R s m args below meth c Q D A xa nL c0 s0 ad0 (pc', lo, .ref (mN μ) :: st', sN μ k len sl)) : W p l e R s m args below meth c H1 locs (mC μ - c0 + 1) (mS μ - s0 + sl) Q (F0 m pc' ls (.ref b :: sa')) := by
  obtain ⟨r1, r2, r3, r4, r5⟩ := hRm
  have hC : mC (sN μ k len sl) = mC μ + 1 := rfl
  have hSl : mS (sN μ k len sl) = mS μ + sl := rfl
  have hpre : ad <+: ad ++ [b] := List.prefix_append _ _
  have hw := q_Ws_push (μ' := sN μ k len sl) w hP hD rfl rfl (by have := w.2.2.2.2.1; omega) (fun i hi => ⟨q_vup hi, q_vup hi, q_vup hi, q_vup hi, q_vup hi⟩) hc
  refine q_cs (a' := mC (sN μ k len sl) - c0) (b' := mS (sN μ k len sl) - s0) (by omega) (by omega) ?_
  refine K H1 locs (ad ++ [b]) ls (.ref b :: sa') ⟨⟨_, hw⟩, hS, q_lo_mono hpre P.2.2.1, ⟨_, _, rfl, ⟨b, ?_, rfl⟩, q_st_mono hpre hs⟩, P.2.2.2.2.trans hpre⟩
  unfold q_a
  rw [if_pos w.2.2.2.2.2.1, List.getElem?_append_right (by rw [w.2.2.2.1]; exact Nat.le_refl _), w.2.2.2.1, Nat.sub_self]
  rfl
theorem q_p_newarray {t : ArrayType} {n : Int32} {kd : Nat} {r : List Value} {a0 : vp_A} {ty : FieldType} (hty : newarray.typeOf t = ty) (hq : q_ty kd = ty) (hkd : kd = 20 ∨ kd = 21 ∨ kd = 22) (hw : Cond.arrayClass ty ∈ lw_tbl) (hn : ¬ (n < 0 ∨ 100000 < n.toNatClampNeg)) (hby : componentBytes ty ≤ 8)
    (ha : ∀ cA : ClassId, vp_cell cA a0 = arrV cA n.toNatClampNeg (fun _ => defaultValue ty)) (ha1 : a0.1 = n.toNatClampNeg) (hr : ∀ cA, q_row xa (ad ++ [cA]) (sN μ kd n.toNatClampNeg n.toNatClampNeg) (mN μ) a0.2)
    (hd : decode (q_cc M) pc = .ok (.newarray t, 2)) (hRm : q_Rm R c0 s0 μ (sN μ kd n.toNatClampNeg n.toNatClampNeg)) (C : q_Ctx p s m args meth c M D A) (P : q_Pt s A D xa nL ad0 H locs ad μ lo (.int n :: r) ls sa)
    (K : q_Nx p l e R s m args below meth c Q D A xa nL c0 s0 ad0 (pc + 2, lo, .ref (mN μ) :: r, sN μ kd n.toNatClampNeg n.toNatClampNeg)) : W p l e R s m args below meth c H locs (mC μ - c0) (mS μ - s0) Q (F0 m pc ls sa) := by
  obtain ⟨v1, r1, e1, h1, h3⟩ := P.2.2.2.1
  have h1 : v1 = .int n := h1
  subst e1 h1
  obtain ⟨ws, w⟩ := P.1
  have hRm' := hRm
  obtain ⟨q1, q2, q3, q4, q5⟩ := hRm'
  have hC : mC (sN μ kd n.toNatClampNeg n.toNatClampNeg) = mC μ + 1 := rfl
  have hSl : mS (sN μ kd n.toNatClampNeg n.toNatClampNeg) = mS μ + n.toNatClampNeg := rfl
  refine va_newa C.1 C.2.1 (C.2.2.2.2.2.2.1 _ (q_tbl_in (by rw [hty]; exact hw) rfl)) hty C.2.2.2.2.2.2.2.2.2.1 w.1 w.2.1 P.2.1 C.2.2.2.2.2.2.2.2.2.2 ha (fun z => hn (Or.inl z)) rfl ?_ (by omega) (by omega) hd (fun q cA H1 hK hP hD hS => ?_)
  · have : n.toNatClampNeg ≤ 100000 := by have := fun z => hn (Or.inr z); omega
    have h8 := Nat.mul_le_mul this hby
    omega
  · refine q_mk hRm P w h3 hP hD hS ?_ K
    have hkk : mK (sN μ kd n.toNatClampNeg n.toNatClampNeg) (mN μ) = kd := q_veq
    refine ⟨by rw [hkk]; omega, ?_, ?_, hr q⟩
    · rw [hkk, hq]
      have := hK.2 0 (cA, ty) rfl
      exact this
    · show a0.1 = va_up (mL μ) (mN μ) n.toNatClampNeg (mN μ)
      rw [q_veq]; exact ha1
theorem q_p_anew {k kd cl : Nat} {n : Int32} {r : List Value} (hl : q_lC (q_o M) k = some cl) (hk : (kd = 23 ∧ cl = 4) ∨ (kd = 24 ∧ cl = 6)) (hn : ¬ (n < 0 ∨ 100000 < n.toNatClampNeg)) (hd : decode (q_cc M) pc = .ok (.anewarray k, 3)) (hRm : q_Rm R c0 s0 μ (sN μ kd n.toNatClampNeg n.toNatClampNeg)) (C : q_Ctx p s m args meth c M D A) (G : q_G X xa A s) (P : q_Pt s A D xa nL ad0 H locs ad μ lo (.int n :: r) ls sa)
    (K : q_Nx p l e R s m args below meth c Q D A xa nL c0 s0 ad0 (pc + 3, lo, .ref (mN μ) :: r, sN μ kd n.toNatClampNeg n.toNatClampNeg)) : W p l e R s m args below meth c H locs (mC μ - c0) (mS μ - s0) Q (F0 m pc ls sa) := by
  obtain ⟨v1, r1, e1, h1, h3⟩ := P.2.2.2.1
  have h1 : v1 = .int n := h1
  subst e1 h1
  obtain ⟨ws, w⟩ := P.1
  have hRm' := hRm
  obtain ⟨q1, q2, q3, q4, q5⟩ := hRm'
  have hC : mC (sN μ kd n.toNatClampNeg n.toNatClampNeg) = mC μ + 1 := rfl
  have hSl : mS (sN μ kd n.toNatClampNeg n.toNatClampNeg) = mS μ + n.toNatClampNeg := rfl
  have hao : va_AO (q_on cl) s := by
    rcases hk with ⟨-, h⟩ | ⟨-, h⟩ <;> subst h
    · exact G.2.2.2.2.1.1
    · exact G.2.2.2.2.1.2.1
  have hqt : q_ty kd = .object (q_on cl) := by rcases hk with ⟨h, h'⟩ | ⟨h, h'⟩ <;> subst h h' <;> rfl
  refine va_newq C.1 C.2.1 C.2.2.2.2.2.1 (C.2.2.2.2.2.2.1 _ (q_tbl_in (kC _ _ _ hl).1 rfl)) hao C.2.2.2.2.2.2.2.2.2.1 w.1 w.2.1 P.2.1 C.2.2.2.2.2.2.2.2.2.2 (fun z => hn (Or.inl z)) rfl (by have := fun z => hn (Or.inr z); omega) (by omega) (by omega) hd (fun q cA H1 hK hP hD hS => ?_)
  refine q_mk hRm P w h3 hP hD hS ?_ K
  have hkk : mK (sN μ kd n.toNatClampNeg n.toNatClampNeg) (mN μ) = kd := q_veq
  refine ⟨by rw [hkk]; rcases hk with ⟨h, -⟩ | ⟨h, -⟩ <;> omega, ?_, ?_, ?_⟩
  · rw [hkk, hqt]
    exact hK.2 0 _ rfl
  · show n.toNatClampNeg = va_up (mL μ) (mN μ) n.toNatClampNeg (mN μ)
    rw [q_veq]
  · refine ⟨by rw [hkk]; rcases hk with ⟨h, -⟩ | ⟨h, -⟩ <;> omega, fun j => ?_⟩
    show q_ref xa _ (va_up (mR μ) (mN μ) (fun _ => none) (mN μ) j) none
    rw [q_veq]
    rfl
theorem q_p_new {k v : Nat} (hl : q_lC (q_o M) k = some v) (hd : decode (q_cc M) pc = .ok (.new k, 3)) (hRm : q_Rm R c0 s0 μ (sN μ v 0 (q_N v))) (C : q_Ctx p s m args meth c M D A) (P : q_Pt s A D xa nL ad0 H locs ad μ lo st ls sa)
    (K : q_Nx p l e R s m args below meth c Q D A xa nL c0 s0 ad0 (pc + 3, lo, .ref (mN μ) :: st, sN μ v 0 (q_N v))) : W p l e R s m args below meth c H locs (mC μ - c0) (mS μ - s0) Q (F0 m pc ls sa) := by
  obtain ⟨ws, w⟩ := P.1
  have hRm' := hRm
  obtain ⟨q1, q2, q3, q4, q5⟩ := hRm'
  have hC : mC (sN μ v 0 (q_N v)) = mC μ + 1 := rfl
  have hSl : mS (sN μ v 0 (q_N v)) = mS μ + q_N v := rfl
  obtain ⟨c1, hv⟩ := kC _ _ _ hl
  obtain ⟨n1, n2, n3⟩ := kN v hv
  refine va_new (fs := q_fs v) C.1 C.2.1 C.2.2.2.2.2.2.1 (q_uws hv) (q_Ty v) (fun k hk => kTy v k hv hk) C.2.2.2.2.2.1 (C.2.2.2.2.2.2.1 _ (q_tbl_in c1 rfl)) (C.2.2.2.2.2.2.1 _ (q_tbl_in n1 rfl)) (C.2.2.2.2.2.2.1 _ (q_tbl_in n2 rfl)) C.2.2.2.2.2.2.2.2.2.1 w.1 w.2.1 P.2.1 C.2.2.2.2.2.2.2.2.2.2 n3 (fun j hj => q_fs_ok v hv j hj) (by omega) (by omega) hd (fun q H1 hP hD hS => ?_)
  refine q_mk hRm P w P.2.2.2.1 hP hD hS ?_ K
  refine ⟨q_veq, hv, by simp [q_fs], fun j hj => ⟨if p_isR v j = true then .null else .int 0, ?_, ?_⟩⟩
  · unfold q_fs
    rw [List.getElem?_map, List.getElem?_range hj]
    rfl
  · unfold q_fld
    by_cases hr : p_isR v j = true
    · rw [if_pos hr, if_pos hr]
      refine ⟨none, ?_, rfl⟩
      show q_ref xa _ (va_up (mR μ) (mN μ) (fun _ => none) (mN μ) j) none
      rw [q_veq]
      rfl
    · rw [if_neg hr, if_neg hr]
      show Value.int 0 = .int (va_up (mI μ) (mN μ) (fun _ => 0) (mN μ) j)
      rw [q_veq]
end QP
end
section
/-! the rest of the pool's instructions -/
section QP2
variable {p : Program} {l : Launch} {e : Env} {R : Room} {s : State} {m : MethodId} {args : Array Value} {below : List Frame} {meth : Method} {c : Code} {H : Heap} {locs : List Loc} {Q : State → Prop}
variable {X : p_X} {M : q_M} {D : va_G} {A : Nat → Prop} {xa : Nat → Nat} {nL c0 s0 : Nat} {ad0 ad : List Nat} {μ : p_M} {lo st : List Value} {ls : Array Slot} {sa : List Value} {pc : Nat}
theorem kI1 : Cond.arrayClass .int ∈ lw_tbl := List.mem_of_getElem? (i := 173) (by decide +kernel)
theorem kI2 : Cond.arrayClass .byte ∈ lw_tbl := List.mem_of_getElem? (i := 148) (by decide +kernel)
theorem kI3 : Cond.arrayClass .long ∈ lw_tbl := List.mem_of_getElem? (i := 2212) (by decide +kernel)
theorem kI4 : Cond.classLink (q_on 8) 20 ("[" ++ (FieldType.array .int).toString) ∈ lw_tbl := List.mem_of_getElem? (i := 405) (by decide +kernel)
theorem kI5 : Cond.classLink (q_on 2) 16 "[I" ∈ lw_tbl := List.mem_of_getElem? (i := 188) (by decide +kernel)
theorem kI6 : Cond.fieldLink (q_on 2) 9 "TrouserWash$House" "AT_FIRST" "[I" ∈ lw_tbl := List.mem_of_getElem? (i := 180) (by decide +kernel)
theorem kI7 : Cond.fieldLink (q_on 10) 73 "TrouserWash$Search" "AMOUNTS" "[I" ∈ lw_tbl := List.mem_of_getElem? (i := 944) (by decide +kernel)
/-- the class of an array of ints -/
theorem q_cInt (C : q_Ctx p s m args meth c M D A) : ∃ cy : ClassId, s.vm.findClass (FieldType.array .int).toString = some cy ∧ ArrOfT s cy .int ∧ va_RA s cy .int := by
  obtain ⟨cB, kB, comp, h1, h2, h3⟩ := Cond.arrayClass_spec (C.2.2.2.2.2.2.1 _ (q_tbl_in kI1 rfl))
  exact ⟨cB, h1, fun n z => ⟨fun k h => (by cases h), kB, h2, comp, h3⟩, h1⟩
def p_mna (μ : p_M) : p_M := sR (sR (sN (sN (sN μ 26 2 2) 20 96 96) 20 96 96) (mN μ) 0 (some (mN μ + 1))) (mN μ) 1 (some (mN μ + 2))
theorem q_p_mna {r : List Value} (ho : q_o M = 8) (hd : decode (q_cc M) pc = .ok (.multianewarray 20 2, 4)) (hRm : q_Rm R c0 s0 μ (p_mna μ)) (C : q_Ctx p s m args meth c M D A) (G : q_G X xa A s) (P : q_Pt s A D xa nL ad0 H locs ad μ lo (.int 96 :: .int 2 :: r) ls sa)
    (K : q_Nx p l e R s m args below meth c Q D A xa nL c0 s0 ad0 (pc + 4, lo, .ref (mN μ) :: r, p_mna μ)) : W p l e R s m args below meth c H locs (mC μ - c0) (mS μ - s0) Q (F0 m pc ls sa) := by
  obtain ⟨v1, r1, e1, h1, v2, r2, e2, h2, h3⟩ := P.2.2.2.1
  have h1 : v1 = .int 96 := h1
  have h2 : v2 = .int 2 := h2
  subst e1 h1 e2 h2
  obtain ⟨ws, w⟩ := P.1
  obtain ⟨q1, q2, q3, q4, q5⟩ := hRm
  have hC : mC (p_mna μ) = mC μ + 3 := rfl
  have hSl : mS (p_mna μ) = mS μ + 2 + 96 + 96 := rfl
  have hNn : mN (p_mna μ) = mN μ + 3 := rfl
  obtain ⟨cy, hy1, hy2⟩ := q_cInt C
  have hown := C.2.2.2.2.2.1
  rw [ho] at hown
  refine va_mna (X := ws) (L := []) (f := fun _ => .inr (0, [])) (N' := 2) (K' := 96) (z := (96, .inl (fun _ => 0))) C.1 C.2.1 hown (C.2.2.2.2.2.2.1 _ (q_tbl_in kI4 rfl)) G.2.2.2.2.1.2.2.2 (C.2.2.2.2.2.2.1 _ (q_tbl_in kI1 rfl)) hy1 C.2.2.2.2.2.2.2.2.2.1 (by simpa [va_pl] using w.1) (by simpa [va_pl] using w.2.1) P.2.1 C.2.2.2.2.2.2.2.2.2.2 (by decide) (by decide) (by decide) (by decide) (by decide) (by decide) (by decide) rfl rfl (by omega) (by omega) (fun cc => ?_) hd (fun q rr cA H1 hinj hnot hK hP hD hS => ?_)
  · show _ = arrV cc 96 (fun _ => Value.int 0)
    rw [← arrV_new]
    rfl
  · have er : (List.range 2).map rr = [rr 0, rr 1] := rfl
    rw [er] at hP hD
    have elist : (ws ++ [(q, Sum.inl (cA, 2, .inr (.inr (.inr (.inr (fun i => if i < 2 then some (rr i) else none))))))]) ++ va_pl ([] ++ [rr 0, rr 1]) (vr_up (fun _ => .inr (0, [])) [rr 0, rr 1] (.inl (cy, 96, .inl (fun _ => 0)))) = ws ++ ([(q, .inl (cA, 2, .inr (.inr (.inr (.inr (fun i => if i < 2 then some (rr i) else none)))))), (rr 0, .inl (cy, 96, .inl (fun _ => 0))), (rr 1, .inl (cy, 96, .inl (fun _ => 0)))] : va_W) := by
      simp [va_pl, vr_up]
    rw [elist] at hP hD
    have hE := w.2.2.2.2.1
    have hw := q_Ws_app (μ' := p_mna μ) w _ hP hD rfl rfl (by omega) (fun i hi => ?_) (fun j a en hj => ?_)
    · have hpre : ad <+: ad ++ [q, rr 0, rr 1] := List.prefix_append _ _
      refine q_cs (a' := mC (p_mna μ) - c0) (b' := mS (p_mna μ) - s0) (by omega) (by omega) ?_
      refine K H1 locs (ad ++ [q, rr 0, rr 1]) ls (.ref q :: r2) ⟨⟨_, hw⟩, hS, q_lo_mono hpre P.2.2.1, ⟨_, _, rfl, ⟨q, ?_, rfl⟩, q_st_mono hpre h3⟩, P.2.2.2.2.trans hpre⟩
      unfold q_a
      rw [if_pos w.2.2.2.2.2.1, List.getElem?_append_right (by rw [w.2.2.2.1]; exact Nat.le_refl _), w.2.2.2.1, Nat.sub_self]
      rfl
    · have n0 : i ≠ mN μ := by omega
      have n1 : i ≠ mN μ + 1 := by omega
      have n2 : i ≠ mN μ + 1 + 1 := by omega
      refine ⟨?_, ?_, ?_, ?_, ?_⟩
      · show va_up (va_up (va_up (mI μ) (mN μ) _) (mN μ + 1) _) (mN μ + 1 + 1) _ i = _
        rw [q_vup n2, q_vup n1, q_vup n0]
      · show p_up (p_up (va_up (va_up (va_up (mR μ) (mN μ) _) (mN μ + 1) _) (mN μ + 1 + 1) _) (mN μ) 0 _) (mN μ) 1 _ i = _
        rw [q_up_ne n0, q_up_ne n0, q_vup n2, q_vup n1, q_vup n0]
      · show va_up (va_up (va_up (mJ μ) (mN μ) _) (mN μ + 1) _) (mN μ + 1 + 1) _ i = _
        rw [q_vup n2, q_vup n1, q_vup n0]
      · show va_up (va_up (va_up (mK μ) (mN μ) _) (mN μ + 1) _) (mN μ + 1 + 1) _ i = _
        rw [q_vup n2, q_vup n1, q_vup n0]
      · show va_up (va_up (va_up (mL μ) (mN μ) _) (mN μ + 1) _) (mN μ + 1 + 1) _ i = _
        rw [q_vup n2, q_vup n1, q_vup n0]
    · have a01 : mN μ ≠ mN μ + 1 := by omega
      have a02 : mN μ ≠ mN μ + 1 + 1 := by omega
      have a12 : mN μ + 1 ≠ mN μ + 1 + 1 := by omega
      match j, hj with
      | 0, hj =>
        cases hj
        have hk : mK (p_mna μ) (mN μ + 0) = 26 := by
          show va_up (va_up (va_up (mK μ) (mN μ) 26) (mN μ + 1) 20) (mN μ + 1 + 1) 20 (mN μ) = 26
          rw [q_vup a02, q_vup a01, q_veq]
        refine ⟨by rw [hk]; decide, by rw [hk]; exact hK.2 0 _ rfl, ?_, by rw [hk]; decide, fun j => ?_⟩
        · show 2 = va_up (va_up (va_up (mL μ) (mN μ) 2) (mN μ + 1) 96) (mN μ + 1 + 1) 96 (mN μ)
          rw [q_vup a02, q_vup a01, q_veq]
        · have hR : mR (p_mna μ) (mN μ + 0) j = if j = 1 then some (mN μ + 2) else if j = 0 then some (mN μ + 1) else none := by
            show p_up (p_up (va_up (va_up (va_up (mR μ) (mN μ) (fun _ => none)) (mN μ + 1) (fun _ => none)) (mN μ + 1 + 1) (fun _ => none)) (mN μ) 0 (some (mN μ + 1))) (mN μ) 1 (some (mN μ + 2)) (mN μ) j = _
            rw [q_up_eq, q_up_eq, q_vup a02, q_vup a01, q_veq]
            rfl
          rw [hR]
          have ga : ∀ k, k < 2 → q_a xa (ad ++ [q, rr 0, rr 1]) (mN μ + 1 + k) = some (rr k) := by
            intro k hk
            unfold q_a
            rw [if_pos (by omega), List.getElem?_append_right (by rw [w.2.2.2.1]; omega), w.2.2.2.1, show mN μ + 1 + k - mN μ = k + 1 by omega]
            have : k = 0 ∨ k = 1 := by omega
            rcases this with h | h <;> subst h <;> rfl
          by_cases j1 : j = 1
          · subst j1
            exact ⟨rr 1, ga 1 (by decide), rfl⟩
          · rw [if_neg j1]
            by_cases j0 : j = 0
            · subst j0
              exact ⟨rr 0, ga 0 (by decide), rfl⟩
            · rw [if_neg j0]
              show (if j < 2 then some (rr j) else none) = none
              rw [if_neg (by omega)]
      | 1, hj =>
        cases hj
        have hk : mK (p_mna μ) (mN μ + 1) = 20 := by
          show va_up (va_up (va_up (mK μ) (mN μ) 26) (mN μ + 1) 20) (mN μ + 1 + 1) 20 (mN μ + 1) = 20
          rw [q_vup a12, q_veq]
        refine ⟨by rw [hk]; decide, by rw [hk]; exact hy2, ?_, Or.inl hk, ?_⟩
        · show 96 = va_up (va_up (va_up (mL μ) (mN μ) 2) (mN μ + 1) 96) (mN μ + 1 + 1) 96 (mN μ + 1)
          rw [q_vup a12, q_veq]
        · show (fun _ => (0 : Int32)) = va_up (va_up (va_up (mI μ) (mN μ) _) (mN μ + 1) _) (mN μ + 1 + 1) _ (mN μ + 1)
          rw [q_vup a12, q_veq]
      | 2, hj =>
        cases hj
        have hk : mK (p_mna μ) (mN μ + 2) = 20 := by
          show va_up (va_up (va_up (mK μ) (mN μ) 26) (mN μ + 1) 20) (mN μ + 1 + 1) 20 (mN μ + 1 + 1) = 20
          rw [q_veq]
        refine ⟨by rw [hk]; decide, by rw [hk]; exact hy2, ?_, Or.inl hk, ?_⟩
        · show 96 = va_up (va_up (va_up (mL μ) (mN μ) 2) (mN μ + 1) 96) (mN μ + 1 + 1) 96 (mN μ + 1 + 1)
          rw [q_veq]
        · show (fun _ => (0 : Int32)) = va_up (va_up (va_up (mI μ) (mN μ) _) (mN μ + 1) _) (mN μ + 1 + 1) _ (mN μ + 1 + 1)
          rw [q_veq]
      | n + 3, hj => simp at hj
theorem q_p_cast {k a : Nat} {r : List Value} (hz : (q_o M = 2 ∧ k = 16 ∧ mK μ a = 20 ∧ a < mN μ) ∨ (q_lC (q_o M) k = some 5 ∧ mK μ a = 5 ∧ a < mN μ)) (hd : decode (q_cc M) pc = .ok (.checkcast k, 3)) (C : q_Ctx p s m args meth c M D A) (P : q_Pt s A D xa nL ad0 H locs ad μ lo (.ref a :: r) ls sa)
    (K : q_Nx p l e R s m args below meth c Q D A xa nL c0 s0 ad0 (pc + 3, lo, .ref a :: r, μ)) : W p l e R s m args below meth c H locs (mC μ - c0) (mS μ - s0) Q (F0 m pc ls sa) := by
  obtain ⟨v2, r2, e2, ⟨b, h2, h2'⟩, h3⟩ := P.2.2.2.1
  subst e2 h2'
  obtain ⟨ws, w⟩ := P.1
  have K' := q_stk (pc' := pc + 3) (st' := .ref a :: r) P ⟨_, _, rfl, ⟨b, h2, rfl⟩, h3⟩ K
  have hown := C.2.2.2.2.2.1
  rcases hz with ⟨z1, z2, z3, z4⟩ | ⟨z1, z2, z3⟩
  · subst z2
    obtain ⟨e, he, hc⟩ := q_Ws_at w z4 h2
    obtain ⟨cA, e1, -, e3⟩ := q_cI hc (Or.inl z3)
    subst e1
    rw [z3] at e3
    rw [z1] at hown
    exact va_castA C.1 C.2.1 hown (C.2.2.2.2.2.2.1 _ (q_tbl_in kI5 rfl)) w.1 a he e3 hd K'
  · obtain ⟨e, he, hc⟩ := q_Ws_at w z3 h2
    obtain ⟨fs, e1, -⟩ := q_cO hc z2 (by decide)
    subst e1
    have n3 := (kN 5 (by decide)).2.2
    have hKc := (C.2.2.2.2.2.2.2.2.2.1).1 5 _ n3
    exact va_castS C.1 C.2.1 hown (C.2.2.2.2.2.2.1 _ (q_tbl_in (kC _ _ _ z1).1 rfl)) hKc.2 (va_recv C.2.2.2.2.2.2.2.2.2.1 w.1 n3 he) hd K'
set_option maxHeartbeats 4000000 in
theorem q_pool {i : Instr} {len : Nat} {q : p_S} (hx : p_pool M i len pc lo st μ = some q) (hd : decode (q_cc M) pc = .ok (i, len)) (hRm : q_Rm R c0 s0 μ q.2.2.2) (C : q_Ctx p s m args meth c M D A) (G : q_G X xa A s) (P : q_Pt s A D xa nL ad0 H locs ad μ lo st ls sa) (K : q_Nx p l e R s m args below meth c Q D A xa nL c0 s0 ad0 q) : W p l e R s m args below meth c H locs (mC μ - c0) (mS μ - s0) Q (F0 m pc ls sa) := by
  have hX := C.1
  have hb := C.2.1
  have hown := C.2.2.2.2.2.1
  unfold p_pool at hx
  split at hx
  · split at hx
    · rename_i hlen; subst hlen
      split at hx
      · rename_i v hv
        cases hx
        exact lv_ldc hX hb hown (C.2.2.2.2.2.2.1 _ (q_tbl_in (kK _ _ _ hv) rfl)) hd (q_push (v := .int _) P rfl K)
      · split at hx
        · rename_i v hv
          cases hx
          exact va_ldcS hX hb hown (G.2.2.2.1 _ _ _ hv) hd (q_push (v := .ref _) P ⟨_, q_aStr _, rfl⟩ K)
        · cases hx
    · cases hx
  · split at hx
    · rename_i hlen; subst hlen
      split at hx
      · rename_i v hv
        cases hx
        exact lv_ldcw hX hb hown (C.2.2.2.2.2.2.1 _ (q_tbl_in (kK _ _ _ hv) rfl)) hd (q_push (v := .int _) P rfl K)
      · split at hx
        · rename_i v hv
          cases hx
          exact q_ldcSW hX hb hown (G.2.2.2.1 _ _ _ hv) hd (q_push (v := .ref _) P ⟨_, q_aStr _, rfl⟩ K)
        · cases hx
    · cases hx
  · split at hx
    · rename_i hlen; subst hlen
      split at hx
      · rename_i v hv
        cases hx
        exact lv_ldc2 hX hb hown (C.2.2.2.2.2.2.1 _ (q_tbl_in (kKL _ _ _ hv) rfl)) hd (q_push (v := .long _) P rfl K)
      · cases hx
    · cases hx
  · rename_i k
    split at hx
    · rename_i hlen; subst hlen
      split at hx
      · rename_i v hv
        cases hx
        have hcase : (q_o M = 2 ∧ k = 9 ∧ v = 1) ∨ (q_o M = 10 ∧ k = 73 ∧ v = 2) := by
          unfold q_lS at hv
          split at hv
          · rename_i g1; cases hv; exact Or.inl ⟨g1, rfl, rfl⟩
          · rename_i g1; cases hv; exact Or.inr ⟨g1, rfl, rfl⟩
          · cases hv
        rcases hcase with ⟨g1, g2, g3⟩ | ⟨g1, g2, g3⟩
        · subst g2 g3
          rw [g1] at hown
          exact va_gets hX hb G.2.2.1.1 P.2.1 hown (C.2.2.2.2.2.2.1 _ (q_tbl_in kI6 rfl)) (fun _ h => h) hd (q_push (v := .ref _) P ⟨_, q_aE, rfl⟩ K)
        · subst g2 g3
          rw [g1] at hown
          exact va_gets hX hb G.2.2.1.2 P.2.1 hown (C.2.2.2.2.2.2.1 _ (q_tbl_in kI7 rfl)) (fun _ h => h) hd (q_push (v := .ref _) P ⟨_, q_aE, rfl⟩ K)
      · cases hx
    · cases hx
  · split at hx
    · rename_i hlen; subst hlen
      split at hx
      · rename_i v hv
        cases hx
        exact q_p_new hv hd hRm C P K
      · cases hx
    · cases hx
  · rename_i t
    split at hx
    · rename_i hlen; subst hlen
      split at hx
      · rename_i n r
        split at hx
        · cases hx
        · rename_i hn
          split at hx
          · cases hx
            exact q_p_newarray (t := .int) (ty := .int) (kd := 20) (a0 := (n.toNatClampNeg, .inl (fun _ => 0))) rfl rfl (Or.inl rfl) kI1 hn (by decide) (fun _ => rfl) rfl (fun b => ⟨Or.inl q_veq, (q_veq (f := mI μ)).symm⟩) hd hRm C P K
          · cases hx
            exact q_p_newarray (t := .byte) (ty := .byte) (kd := 21) (a0 := (n.toNatClampNeg, .inl (fun _ => 0))) rfl rfl (Or.inr (Or.inl rfl)) kI2 hn (by decide) (fun _ => rfl) rfl (fun b => ⟨Or.inr q_veq, (q_veq (f := mI μ)).symm⟩) hd hRm C P K
          · cases hx
            exact q_p_newarray (t := .long) (ty := .long) (kd := 22) (a0 := (n.toNatClampNeg, .inr (.inl (fun _ => 0)))) rfl rfl (Or.inr (Or.inr rfl)) kI3 hn (by decide) (fun _ => rfl) rfl (fun b => ⟨q_veq, (q_veq (f := mJ μ)).symm⟩) hd hRm C P K
          · cases hx
      · cases hx
    · cases hx
  · split at hx
    · rename_i hlen; subst hlen
      split at hx
      · rename_i n r
        split at hx
        · cases hx
        · rename_i hn
          split at hx
          · rename_i hl
            cases hx
            exact q_p_anew hl (Or.inl ⟨rfl, rfl⟩) hn hd hRm C G P K
          · rename_i hl
            cases hx
            exact q_p_anew hl (Or.inr ⟨rfl, rfl⟩) hn hd hRm C G P K
          · cases hx
      · cases hx
    · cases hx
  · split at hx
    · rename_i hlen
      obtain ⟨g1, g2, g3, g4⟩ := hlen
      subst g1 g2 g4
      split at hx
      · cases hx
        exact q_p_mna g3 hd hRm C G P K
      · cases hx
    · cases hx
  · split at hx
    · rename_i hlen; subst hlen
      split at hx
      · split at hx
        · rename_i hz
          cases hx
          exact q_p_cast hz hd C P K
        · cases hx
      · cases hx
    · cases hx
  · cases hx
end QP2
end
section
/-! from the caller's state to the callee's -/
theorem q_AOA_moved {u U : State} (hvm : u.vm.Alike U.vm) (h : va_AOA .int u) : va_AOA .int U := by
  have h1 : (Cond.arrayOver (.array .int)).before #[] (u.setVm U.vm) = true := (Cond.arrayOver_setVmC (args := #[]) hvm (.array .int)).trans h
  exact h1
theorem q_G_moved {X : p_X} {xa : Nat → Nat} {A : Nat → Prop} {s U : State} (hW : s.WarmedH U.vm) (hk : ∀ a : Nat, a < s.heap.size → ¬ A a → U.heap[a]? = s.heap[a]?) (h : q_G X xa A s) : q_G X xa A U := by
  have hvm := hW.alike
  obtain ⟨h1, h2, h3, h4, h5, h6, h7, h8⟩ := h
  refine ⟨fun w hw hn => ?_, fun k hk3 => ?_, ⟨(h3.1.kept hk).moved hvm, (h3.2.kept hk).moved hvm⟩, fun o i v hv => vk_R.warm hW (h4 o i v hv), ⟨h5.1.moved hvm, h5.2.1.moved hvm, h5.2.2.1.moved hvm, q_AOA_moved hvm h5.2.2.2⟩, ⟨(h6.1.kept hk).moved hvm, (h6.2.kept hk).moved hvm⟩, fun E F e1 e2 e3 e4 e5 => va_Nc.moved hvm (h7 E F e1 e2 e3 e4 e5), h8⟩
  · have hz := h1 w hw hn
    unfold q_nw at hn
    split at hn
    · exact va_Nw.warmF hW hz
    · exact va_Nw.warmM hW hz
    · exact va_Nw.warmC hW hz
    · exact va_Nw.warmD hW hz
    · cases hn
  · obtain ⟨cell, g1, g2, g3, g4, g5, g6, g7⟩ := h2 k hk3
    exact ⟨cell, (hk _ (Array.getElem?_eq_some_iff.mp g1).1 g7).trans g1, State.isArrayOf_alike hvm g2, g3, g4, g5, g6, g7⟩
/-- a list of values beside a list of pure ones -/
theorem q_st_app {xa : Nat → Nat} {ad : List Nat} : ∀ {l1 l2 sa : List Value}, q_st xa ad (l1 ++ l2) sa → ∃ a1 a2, sa = a1 ++ a2 ∧ q_st xa ad l1 a1 ∧ q_st xa ad l2 a2
  | [], _, sa, h => ⟨[], sa, rfl, rfl, h⟩
  | _ :: _, _, _, h => by
    obtain ⟨v, r, h1, h2, h3⟩ := h
    obtain ⟨a1, a2, e1, g1, g2⟩ := q_st_app h3
    exact ⟨v :: a1, a2, by rw [h1, e1]; rfl, ⟨v, a1, rfl, h2, g1⟩, g2⟩
theorem q_st_join {xa : Nat → Nat} {ad : List Nat} : ∀ {l1 l2 a1 a2 : List Value}, q_st xa ad l1 a1 → q_st xa ad l2 a2 → q_st xa ad (l1 ++ l2) (a1 ++ a2)
  | [], _, _, _, h1, h2 => by have h1 : _ = _ := h1; subst h1; exact h2
  | _ :: _, _, _, _, h1, h2 => by
    obtain ⟨v, r, e1, g1, g2⟩ := h1
    subst e1
    exact ⟨v, _, rfl, g1, q_st_join g2 h2⟩
theorem q_st_rev {xa : Nat → Nat} {ad : List Nat} : ∀ {l a : List Value}, q_st xa ad l a → q_st xa ad l.reverse a.reverse
  | [], _, h => by have h : _ = _ := h; subst h; rfl
  | _ :: _, _, h => by
    obtain ⟨v, r, e1, g1, g2⟩ := h
    subst e1
    rw [List.reverse_cons, List.reverse_cons]
    exact q_st_join (q_st_rev g2) ⟨v, [], rfl, g1, rfl⟩
theorem q_st_len {xa : Nat → Nat} {ad : List Nat} : ∀ {l a : List Value}, q_st xa ad l a → a.length = l.length
  | [], _, h => by have h : _ = _ := h; subst h; rfl
  | _ :: _, _, h => by
    obtain ⟨v, r, e1, g1, g2⟩ := h
    subst e1
    simp [q_st_len g2]
theorem q_st_get {xa : Nat → Nat} {ad : List Nat} : ∀ {l a : List Value}, q_st xa ad l a → ∀ (j : Nat) (pv : Value), l[j]? = some pv → ∃ v, a[j]? = some v ∧ q_v xa ad pv v
  | [], _, _, j, pv, hj => by simp at hj
  | _ :: _, _, h, 0, pv, hj => by
    obtain ⟨v, r, e1, g1, g2⟩ := h
    subst e1
    cases hj
    exact ⟨v, rfl, g1⟩
  | _ :: _, _, h, j + 1, pv, hj => by
    obtain ⟨v, r, e1, g1, g2⟩ := h
    subst e1
    exact q_st_get g2 j pv hj
/-- the arguments that a call takes -/
theorem q_pop {xa : Nat → Nat} {ad : List Nat} {n : Nat} {st sa as rest : List Value} (hp : p_pop n st = some (as, rest)) (h : q_st xa ad st sa) : ∃ aA rA, sa = aA.reverse ++ rA ∧ q_st xa ad as aA ∧ q_st xa ad rest rA ∧ as.length = n ∧ (rA.map fun v => v.category).sum ≤ 8 ∧ ∀ v ∈ as, v.category = 1 := by
  unfold p_pop at hp
  split at hp
  · rename_i hz
    obtain ⟨z1, z2, z3⟩ := hz
    cases hp
    rw [← List.take_append_drop n st] at h
    obtain ⟨a1, a2, e1, g1, g2⟩ := q_st_app h
    refine ⟨a1.reverse, a2, by rw [List.reverse_reverse]; exact e1, q_st_rev g1, g2, by simp; omega, by rw [q_st_cat g2]; exact z2, fun v hv => ?_⟩
    have := List.all_eq_true.mp z3 v (List.mem_reverse.mp hv)
    simpa using this
  · cases hp
theorem q_sl {vs : List Value} (h : ∀ v ∈ vs, v.category = 1) : (lg_sl vs).length = vs.length := by
  induction vs with
  | nil => rfl
  | cons v t ih =>
    have h1 : ¬ v.category = 2 := by rw [h v List.mem_cons_self]; decide
    have ih' := ih (fun w hw => h w (List.mem_cons_of_mem _ hw))
    unfold lg_sl at ih' ⊢
    rw [List.flatMap_cons, if_neg h1]
    simp [ih']
theorem q_args_at {vs : List Value} : ∀ (k : Nat), (∀ v ∈ vs, v.category = 1) → ∀ (j : Nat) (v : Value), vs[j]? = some v → (k + j, v) ∈ lv_args k vs := by
  induction vs with
  | nil => intro k _ j v hj; simp at hj
  | cons w t ih =>
    intro k h j v hj
    have h1 : ¬ w.category = 2 := by rw [h w List.mem_cons_self]; decide
    cases j with
    | zero => cases hj; exact List.mem_cons_self
    | succ j =>
      have := ih (k + 1) (fun w hw => h w (List.mem_cons_of_mem _ hw)) j v hj
      unfold lv_args
      rw [if_neg h1]
      refine List.mem_cons_of_mem _ ?_
      rw [show k + (j + 1) = k + 1 + j by omega]
      exact this
/-- the locals with which a callee begins -/
theorem q_lo_entry {xa : Nat → Nat} {ad : List Nat} {M : q_M} {as aA : List Value} (h : q_st xa ad as aA) (hc : ∀ v ∈ as, v.category = 1) (hl : as.length ≤ q_ml M) : q_lo xa ad (q_ml M) (p_loc M as) ((lg_sl aA ++ List.replicate (q_ml M - (lg_sl aA).length) Slot.unset).toArray) := by
  have hcA : ∀ v ∈ aA, v.category = 1 := by
    intro v hv
    obtain ⟨j, hj⟩ := List.getElem?_of_mem hv
    have hjl : j < as.length := by
      have := (List.getElem?_eq_some_iff.mp hj).1
      rw [q_st_len h] at this
      exact this
    obtain ⟨w, w1, w2⟩ := q_st_get h j as[j] (List.getElem?_eq_getElem hjl)
    cases Option.some.inj (hj.symm.trans w1)
    rw [q_v_cat w2]
    exact hc _ (List.getElem_mem hjl)
  refine ⟨lv_args 0 aA, lv_entry aA (by rw [q_sl hcA, q_st_len h]; exact hl), by unfold p_loc; simp; omega, fun j pv hj => ?_⟩
  unfold p_loc at hj
  by_cases hjl : j < as.length
  · rw [List.getElem?_append_left hjl] at hj
    obtain ⟨v, v1, v2⟩ := q_st_get h j pv hj
    have hm := q_args_at 0 hcA j v v1
    rw [Nat.zero_add] at hm
    exact Or.inr ⟨v, v2, hcA v (List.mem_of_getElem? v1), hm⟩
  · rw [List.getElem?_append_right (by omega)] at hj
    have := List.mem_of_getElem? hj
    exact Or.inl (List.eq_of_mem_replicate this)
end
section
/-! what is counted; ends of a body -/
set_option maxHeartbeats 4000000 in
theorem q_exec_C {X : p_X} {M : q_M} {i : Instr} {len pc : Nat} {lo st : List Value} {μ : p_M} {q : p_S} (hx : p_exec X M i len pc lo st μ = some q) : mC q.2.2.2 = mC μ ∧ mS q.2.2.2 = mS μ := by
  unfold p_exec at hx
  split at hx
  all_goals try unfold p_nx at hx
  all_goals try unfold p_ild at hx
  all_goals try unfold p_ald at hx
  all_goals try unfold p_ist at hx
  all_goals try unfold p_ast at hx
  all_goals try unfold p_iinc at hx
  all_goals try unfold p_i2 at hx
  all_goals try unfold p_l2 at hx
  all_goals try unfold p_if at hx
  all_goals try unfold p_icmp at hx
  all_goals try unfold p_tsw at hx
  all_goals try unfold p_lsw at hx
  all_goals try unfold p_jmp at hx
  all_goals try unfold p_go at hx
  all_goals try unfold p_iald at hx
  all_goals try unfold p_iast at hx
  all_goals try unfold p_lald at hx
  all_goals try unfold p_last at hx
  all_goals try unfold p_aald at hx
  all_goals try unfold p_aast at hx
  all_goals try unfold p_alen at hx
  all_goals try unfold p_getf at hx
  all_goals try unfold p_putf at hx
  all_goals repeat' (split at hx)
  all_goals first | (cases hx; exact ⟨rfl, rfl⟩) | cases hx
set_option maxHeartbeats 4000000 in
theorem q_pool_C {M : q_M} {i : Instr} {len pc : Nat} {lo st : List Value} {μ : p_M} {q : p_S} (hx : p_pool M i len pc lo st μ = some q) : mC μ ≤ mC q.2.2.2 ∧ mS μ ≤ mS q.2.2.2 := by
  unfold p_pool at hx
  split at hx
  all_goals repeat' (split at hx)
  all_goals first | (cases hx; exact ⟨Nat.le_refl _, Nat.le_refl _⟩) | (cases hx; exact ⟨Nat.le_add_right _ _, Nat.le_add_right _ _⟩) | (cases hx; exact ⟨Nat.le_add_right _ 3, by show mS μ ≤ mS μ + 2 + 96 + 96; omega⟩) | cases hx
set_option maxHeartbeats 4000000 in
theorem q_prim_C {X : p_X} {k : Nat} {as : List Value} {μ μ1 : p_M} {v : Option Value} (hx : p_prim X k as μ = some (v, μ1)) : mC μ ≤ mC μ1 ∧ mS μ ≤ mS μ1 := by
  unfold p_prim at hx
  split at hx
  all_goals repeat' (split at hx)
  all_goals first | (cases hx; exact ⟨Nat.le_refl _, Nat.le_refl _⟩) | (cases hx; exact ⟨Nat.le_add_right _ _, Nat.le_add_right _ _⟩) | cases hx
/-- what came back -/
def q_ov (xa : Nat → Nat) (ad : List Nat) (pv v : Option Value) : Prop := match pv with
  | none => v = none
  | some x => ∃ w, v = some w ∧ q_v xa ad x w
def q_Po (D : va_G) (A : Nat → Prop) (xa : Nat → Nat) (ad0 : List Nat) (r : p_R) : Array Value → State → Outcome → State → Prop := fun _ st oc t =>
  r.1.1 = 0 ∧ (∃ ad', ad0 <+: ad' ∧ q_W t t.heap A D xa ad' r.2 ∧ ∃ v, oc = .returned v ∧ q_ov xa ad' r.1.2 v) ∧ va_F A st t
def q_Px (D : va_G) (A : Nat → Prop) (xa : Nat → Nat) (ad0 : List Nat) (r : p_R) : String → State → State → Prop := fun E st t =>
  (∃ k, r.1.1 = k + 1 ∧ k < 5 ∧ E = q_xn (k + 1)) ∧ (∃ ad', ad0 <+: ad' ∧ q_W t t.heap A D xa ad' r.2) ∧ va_F A st t
/-- the room for calls d deep -/
def q_dR (d : Nat) (R : Room) : Prop := d + 16 ≤ R.frames ∧ 100 * d + 400 ≤ R.locals
section QN
variable {p : Program} {l : Launch} {e : Env} {R : Room} {s : State} {m : MethodId} {args : Array Value} {below : List Frame} {meth : Method} {c : Code} {H : Heap} {locs : List Loc}
variable {X : p_X} {M : q_M} {D : va_G} {A : Nat → Prop} {xa : Nat → Nat} {nL c0 s0 : Nat} {ad0 ad : List Nat} {μ : p_M} {lo st : List Value} {ls : Array Slot} {sa : List Value} {pc : Nat}
theorem q_F {t : State} (hS : va_S A s.heap H locs) (ht : t.heap = H) : va_F A s t := ⟨by rw [ht]; exact hS.1, fun q h1 h2 => by rw [ht]; exact hS.2.1 q h1 h2⟩
theorem q_ret {i : Instr} {len : Nat} {v : Option Value} (hx : p_ret M i len st = some v) (hd : decode (q_cc M) pc = .ok (i, len)) (C : q_Ctx p s m args meth c M D A) (P : q_Pt s A D xa nL ad0 H locs ad μ lo st ls sa) :
    W p l e R s m args below meth c H locs (mC μ - c0) (mS μ - s0) (vx_MQ below (q_Po D A xa ad0 ((0, v), μ)) (q_Px D A xa ad0 ((0, v), μ)) args s (mC μ - c0) (mS μ - s0) A) (F0 m pc ls sa) := by
  have hX := C.1
  have hb := C.2.1
  have hr := C.2.2.2.1
  have hlocks := C.2.2.2.2.1
  have fin : ∀ (w : Option Value) (t : State), q_ov xa ad v w → t.heap = H → s.WarmedH t.vm → q_Po D A xa ad0 ((0, v), μ) args s (.returned w) t := fun w t hw ht hW => ⟨rfl, ⟨ad, P.2.2.2.2, by rw [ht]; exact q_W_moved hW.alike P.1, w, rfl, hw⟩, q_F P.2.1 ht⟩
  unfold p_ret at hx
  split at hx
  · split at hx
    · rename_i hz
      obtain ⟨z1, z2, z3⟩ := hz
      cases hx
      subst z1 z2
      have hsa : sa = [] := P.2.2.2.1
      subst hsa
      rw [z3] at hr
      exact vx_ret (W.vret hX hb hr (fun t ht hW => fin none t rfl ht hW) P.2.1.2.2 hd hlocks)
    · cases hx
  · split at hx
    · rename_i hlen; subst hlen
      split at hx
      · rename_i x
        obtain ⟨v1, r1, e1, h1, h3⟩ := P.2.2.2.1
        have h1 : v1 = .int x := h1
        have h3 : r1 = [] := h3
        subst e1 h1 h3
        split at hx
        · rename_i hrt
          cases hx
          rw [hrt] at hr
          exact vx_ret (W.iret hX hb hr (fun t ht hW => fin (some (.int x)) t ⟨_, rfl, rfl⟩ ht hW) P.2.1.2.2 hd hlocks)
        · rename_i hrt
          split at hx
          · rename_i hz
            cases hx
            rw [hrt] at hr
            exact vx_ret (W.zret hX hb hr (by rcases hz with h | h <;> subst h <;> decide) (fun t ht hW => fin (some (.int x)) t ⟨_, rfl, rfl⟩ ht hW) P.2.1.2.2 hd hlocks)
          · cases hx
        · cases hx
      · cases hx
    · cases hx
  · split at hx
    · rename_i hlen; subst hlen
      split at hx
      · rename_i a
        obtain ⟨v1, r1, e1, ⟨b, h1, h1'⟩, h3⟩ := P.2.2.2.1
        have h3 : r1 = [] := h3
        subst e1 h1' h3
        split at hx
        · rename_i nm hrt
          cases hx
          rw [hrt] at hr
          exact vx_ret (W.aret hX hb hr (Or.inl ⟨nm, rfl⟩) (Or.inr ⟨b, rfl⟩) (fun t ht hW => fin (some (.ref b)) t ⟨_, rfl, b, h1, rfl⟩ ht hW) P.2.1.2.2 hd hlocks)
        · cases hx
      · cases hx
    · cases hx
  · cases hx
theorem q_lX_4 {o i : Nat} {v : Nat × Nat × Nat} (h : q_lX o i = some v) (h4 : v.1 = 4) : o = 13 ∧ i = 434 ∧ v = (4, 436, 438) := by
  unfold q_lX at h
  split at h
  · cases h; cases h4
  · cases h; cases h4
  · cases h; cases h4
  · rename_i g; cases h; exact ⟨rfl, rfl, rfl⟩
  · cases h; cases h4
  · cases h
theorem q_lX_ok {o i : Nat} {v : Nat × Nat × Nat} (h : q_lX o i = some v) (hn4 : v.1 ≠ 4) : (∀ w ∈ Cond.classLink (q_on o) i (q_xn v.1) :: Cond.initialized (q_xn v.1) :: vx_atS (q_on o) v.2.2 (q_xn v.1) ["java/lang/RuntimeException", "java/lang/Exception"], w ∈ lw_tbl ∧ (goodWord w = true ∨ (q_nw w = true ∧ w.onTables = true)) ∧ vx_ot w = true) ∧ (∃ t, q_lStr o v.2.1 = some t) ∧ (1 ≤ v.1 ∧ v.1 ≤ 5) ∧ Bundle.fit (q_xn v.1) = true := by
  unfold q_lX at h
  split at h
  · cases h; exact ⟨kX1, ⟨_, rfl⟩, by decide, by decide +kernel⟩
  · cases h; exact ⟨kX2, ⟨_, rfl⟩, by decide, by decide +kernel⟩
  · cases h; exact ⟨kX3, ⟨_, rfl⟩, by decide, by decide +kernel⟩
  · cases h; exact absurd rfl hn4
  · cases h; exact ⟨kX5, ⟨_, rfl⟩, by decide, by decide +kernel⟩
  · cases h
theorem q_word {w : Cond} (h : w ∈ lw_tbl ∧ (goodWord w = true ∨ (q_nw w = true ∧ w.onTables = true)) ∧ vx_ot w = true) (C : q_Ctx p s m args meth c M D A) (G : q_G X xa A s) : w.before args s = true := by
  obtain ⟨h1, h2, -⟩ := h
  rcases h2 with h2 | ⟨h2, h3⟩
  · exact C.2.2.2.2.2.2.1 _ (q_tbl_in h1 h2)
  · exact va_Nw.use h3 (G.1 w h1 h2)
/-- the throw of NoSuchElementException, whose constructor is of another form than the kit's row takes: a part of its own -/
def q_T4 (X : p_X) (l : Launch) : Prop := ∀ (p : Program) (e : Env) (R : Room) (s : State) (m : MethodId) (args : Array Value) (below : List Frame) (meth : Method) (c : Code) (H : Heap) (locs : List Loc) (M : q_M) (D : va_G) (A : Nat → Prop) (xa : Nat → Nat) (c0 s0 : Nat) (ad0 ad : List Nat) (μ : p_M) (lo : List Value) (ls : Array Slot) (pc : Nat),
  l.stackTraces = false → q_o M = 13 → q_hh M = [] → decode (q_cc M) pc = .ok (.new 434, 3) → decode (q_cc M) (pc + 3) = .ok (.dup, 1) → decode (q_cc M) (pc + 4) = .ok (.ldc_w 436, 3) → decode (q_cc M) (pc + 7) = .ok (.invokespecial 438, 3) → decode (q_cc M) (pc + 10) = .ok (.athrow, 1) →
  q_Rm R c0 s0 μ (sG μ 1 6) → q_dR 0 R → q_Ctx p s m args meth c M D A → q_G X xa A s → q_Pt s A D xa (q_ml M) ad0 H locs ad μ lo [] ls [] →
  W p l e R s m args below meth c H locs (mC μ - c0) (mS μ - s0) (vx_MQ below (q_Po D A xa ad0 ((4, none), sG μ 1 6)) (q_Px D A xa ad0 ((4, none), sG μ 1 6)) args s (mC (sG μ 1 6) - c0) (mS (sG μ 1 6) - s0) A) (F0 m pc ls [])
theorem q_thr (h4 : q_T4 X l) {i : Instr} {E : Nat} (hl : l.stackTraces = false) (hx : p_thr M i pc st = some E) (hd : decode (q_cc M) pc = .ok (i, 3)) (hRm : q_Rm R c0 s0 μ (sG μ 1 6)) (hdR : q_dR 0 R) (C : q_Ctx p s m args meth c M D A) (G : q_G X xa A s) (P : q_Pt s A D xa (q_ml M) ad0 H locs ad μ lo st ls sa) :
    W p l e R s m args below meth c H locs (mC μ - c0) (mS μ - s0) (vx_MQ below (q_Po D A xa ad0 ((E, none), sG μ 1 6)) (q_Px D A xa ad0 ((E, none), sG μ 1 6)) args s (mC (sG μ 1 6) - c0) (mS (sG μ 1 6) - s0) A) (F0 m pc ls sa) := by
  unfold p_thr at hx
  split at hx
  · rename_i k
    split at hx
    · rename_i v hv
      split at hx
      · rename_i hz
        obtain ⟨z1, z2, z3, z4, z5, z6⟩ := hz
        cases hx
        subst z6
        have hsa : sa = [] := P.2.2.2.1
        subst hsa
        by_cases hn4 : v.1 = 4
        · obtain ⟨g1, g2, g3⟩ := q_lX_4 hv hn4
          subst g2 g3
          exact h4 p e R s m args below meth c H locs M D A xa c0 s0 ad0 ad μ lo ls pc hl g1 z5 hd z1 z2 z3 z4 hRm hdR C G P
        obtain ⟨k1, ⟨t, k2⟩, k3, k4⟩ := q_lX_ok hv hn4
        obtain ⟨r1, r2, r3, r4, r5⟩ := hRm
        have hC : mC (sG μ 1 6) = mC μ + 1 := rfl
        have hSl : mS (sG μ 1 6) = mS μ + 6 := rfl
        obtain ⟨lv, l1, -, -⟩ := P.2.2.1
        refine vx_throwSW (names := ["java/lang/RuntimeException", "java/lang/Exception"]) C.1 C.2.1 hl C.2.2.2.2.2.1 k4 (by intro n hn; simp only [List.mem_cons, List.not_mem_nil, or_false] at hn; rcases hn with h | h <;> subst h <;> decide +kernel) (q_word (k1 _ List.mem_cons_self) C G) (q_word (k1 _ (List.mem_cons_of_mem _ List.mem_cons_self)) C G) (G.2.2.2.1 _ _ _ k2) (fun w hw => q_word (k1 w (List.mem_cons_of_mem _ (List.mem_cons_of_mem _ hw))) C G) (fun w hw => (k1 w hw).2.2) G.2.2.2.2.2.1.1 G.2.2.2.2.2.1.2 P.2.1 (by rw [l1.1, C.2.2.1]) hd z1 z2 z3 z4 ?_ ?_ ?_ (by omega) (by omega) C.2.2.2.2.1 ?_ P.2.1.2.2 (by omega) (by omega)
        · intro x hx
          rw [C.2.2.2.2.2.2.2.1, z5] at hx
          cases hx
        · have := hdR.1
          show 2 + 3 < R.frames
          omega
        · have := hdR.2
          show 0 + (13 * (2 + 1) + 43) ≤ R.locals
          omega
        · intro t hvm hsz hk
          refine ⟨⟨v.1 - 1, by show v.1 = v.1 - 1 + 1; omega, by omega, by rw [show v.1 - 1 + 1 = v.1 by omega]⟩, ⟨ad, P.2.2.2.2, ?_⟩, ⟨Nat.le_trans P.2.1.1 hsz, fun q h1 h2 => (hk q (Nat.lt_of_lt_of_le h1 P.2.1.1)).trans (P.2.1.2.1 q h1 h2)⟩⟩
          obtain ⟨ws, w1, w2, w3, w4, w5, w6, w7⟩ := P.1
          refine ⟨ws, w1.kept (fun j q hj => hk q.1 (w1 j q hj).lt), w2, w3, w4, by show mN μ ≤ mC μ + 1; omega, w6, fun j a en hj => ⟨(w7 j a en hj).1, q_cell_moved hvm (q_cell_same rfl rfl rfl rfl rfl (w7 j a en hj).2)⟩⟩
      · cases hx
    · cases hx
  · cases hx
end QN
end
section
/-! a call of a method of ours -/
def q_rm (d mc ms : Nat) : Room := { frames := d + 16, cells := mc, slots := ms, locals := 100 * d + 400 }
def q_Pc (X : p_X) (D : va_G) (A : Nat → Prop) (xa : Nat → Nat) (ad : List Nat) (μ : p_M) (aA : List Value) : Array Value → State → Prop := va_Pc aA (fun U => q_W U U.heap A D xa ad μ ∧ q_G X xa A U ∧ va_K D vwCl [] U ∧ ∀ q, U.heap.size ≤ q → A q)
theorem q_Pc_blind {X : p_X} {D : va_G} {A : Nat → Prop} {xa : Nat → Nat} {ad : List Nat} {μ : p_M} {aA : List Value} : FrameBlind (q_Pc X D A xa ad μ aA) := fun a U g mk h =>
  ⟨h.1, q_W_moved (u := U) (U := U.calling g mk a) (Vm.Alike.refl U.vm) h.2.1, q_G_moved (s := U) (U := U.calling g mk a) (State.WarmedH.refl U) (fun _ _ _ => rfl) h.2.2.1, va_K.moved (u := U) (U := U.calling g mk a) (Vm.Alike.refl U.vm) h.2.2.2.1, h.2.2.2.2⟩
/-- THE PURE MACHINE IS SOUND for n steps -/
def q_Snd (X : p_X) (l : Launch) (n : Nat) : Prop := ∀ (d : Nat) (M : q_M) (pc : Nat) (lo st : List Value) (μ : p_M) (r : p_R), p_run X n d M pc lo st μ = some r → (mC μ ≤ mC r.2 ∧ mS μ ≤ mS r.2) ∧
  ∀ (p : Program) (e : Env) (R : Room) (s : State) (m : MethodId) (args : Array Value) (below : List Frame) (meth : Method) (c : Code) (D : va_G) (A : Nat → Prop) (xa : Nat → Nat) (c0 s0 : Nat) (ad0 : List Nat) (H : Heap) (locs : List Loc) (ad : List Nat) (ls : Array Slot) (sa : List Value),
  q_Ctx p s m args meth c M D A → q_G X xa A s → q_Pt s A D xa (q_ml M) ad0 H locs ad μ lo st ls sa → c0 ≤ mC μ → s0 ≤ mS μ → mC r.2 ≤ c0 + R.cells → mS r.2 ≤ s0 + R.slots → mC r.2 < p_E → q_dR d R →
  W p l e R s m args below meth c H locs (mC μ - c0) (mS μ - s0) (vx_MQ below (q_Po D A xa ad0 r) (q_Px D A xa ad0 r) args s (mC r.2 - c0) (mS r.2 - s0) A) (F0 m pc ls sa)
section QC
variable {X : p_X} {l : Launch} {D : va_G} {A : Nat → Prop} {xa : Nat → Nat} {ad : List Nat} {μ : p_M} {n d : Nat} {M' : q_M} {as aA : List Value} {r1 : p_R}
theorem q_vmet (ih : q_Snd X l n) (hrun : p_run X n d M' 0 (p_loc M' as) [] μ = some r1) {k : Nat} (ok : q_okY k M') (hst : q_st xa ad as aA) (hc : ∀ v ∈ as, v.category = 1) (hlen : as.length = q_na M') (hE : mC r1.2 < p_E) :
    vx_Met l (q_y M') (q_cw M' :: q_tbl) (q_rm d (mC r1.2 - mC μ) (mS r1.2 - mS μ)) (q_Pc X D A xa ad μ aA) (q_Po D A xa ad r1) (q_Px D A xa ad r1) (mC r1.2 - mC μ) (mS r1.2 - mS μ) A := by
  obtain ⟨-, -, -, -, -, -, o7, -, -, o10, -, -, o13, -⟩ := ok
  obtain ⟨⟨m1, m2⟩, ih⟩ := ih d M' 0 (p_loc M' as) [] μ r1 hrun
  have body : ∀ (p : Program) (e : Env) (s : State) (m : MethodId) (args : Array Value) (below : List Frame) (meth : Method) (c : Code), p.tables.exec = Jvm.exec → c.code = q_cc M' → c.maxLocals = q_ml M' → meth.sig.returnType = q_rt M' → meth.locks = false → s.vm.findClass (q_y M').cls = some m.cls → (∀ w ∈ q_tbl, w.before args s = true) → c.exceptionTable.toList = tableOf (q_hh M') → meth.name = (q_y M').name → q_Pc X D A xa ad μ aA args s →
      W p l e (q_rm d (mC r1.2 - mC μ) (mS r1.2 - mS μ)) s m args below meth c s.heap [] 0 0 (vx_MQ below (q_Po D A xa ad r1) (q_Px D A xa ad r1) args s (mC r1.2 - mC μ) (mS r1.2 - mS μ) A) (entryFrame m args (q_ml M')) := by
    intro p e s m args below meth c b1 b2 b3 b4 b5 b6 b7 b8 b9 hv
    obtain ⟨e0, hW, hG, hK, hA⟩ := hv
    subst e0
    rw [lg_entry_eq]
    have := ih p e (q_rm d (mC r1.2 - mC μ) (mS r1.2 - mS μ)) s m aA.toArray below meth c D A xa (mC μ) (mS μ) ad s.heap [] ad _ [] ⟨b1, b2, b3, b4, b5, by rw [← o7]; exact b6, b7, b8, b9, hK, hA⟩ hG ⟨hW, va_S.rf, q_lo_entry hst hc (by rw [hlen]; exact o13), rfl, List.prefix_refl _⟩ (Nat.le_refl _) (Nat.le_refl _) (by show mC r1.2 ≤ mC μ + (mC r1.2 - mC μ); omega) (by show mS r1.2 ≤ mS μ + (mS r1.2 - mS μ); omega) hE ⟨Nat.le_refl _, Nat.le_refl _⟩
    rw [Nat.sub_self, Nat.sub_self] at this
    exact this
  by_cases hh : q_hh M' = []
  · have hcw : q_cw M' = .code (q_y M') (q_cc M') (q_ml M') (q_rt M') := by unfold q_cw; rw [if_pos hh]
    rw [hcw]
    refine vx_ofW (cc := q_cc M') (maxL := q_ml M') (ret := q_rt M') o10 rfl (fun p e s m args below meth c s₁ B hml ht hv => ?_)
    have hts := atoms_spec (ws := Cond.code (q_y M') (q_cc M') (q_ml M') (q_rt M') :: q_tbl) B.pre
    refine body p e s m args below meth c B.exec B.bytes hml B.returns B.notSynchronized (findClass_of_methodNamed B.named) (fun w hw => hts w (List.mem_cons_of_mem _ hw)) ?_ (name_of_methodNamed B.named B.method).1 hv
    rw [hh]
    exact List.eq_nil_iff_forall_not_mem.mpr (fun x hx => ht x hx)
  · have hcw : q_cw M' = .codeWith (q_y M') (q_cc M') (q_ml M') (q_rt M') (q_hh M') := by unfold q_cw; rw [if_neg hh]
    rw [hcw]
    refine vx_ofWH (cc := q_cc M') (maxL := q_ml M') (ret := q_rt M') (hh := q_hh M') o10 rfl (fun p e s m args below meth c s₁ B hml hv => ?_)
    have hts := atoms_spec (ws := Cond.codeWith (q_y M') (q_cc M') (q_ml M') (q_rt M') (q_hh M') :: q_tbl) B.pre
    exact body p e s m args below meth c B.exec B.bytes hml B.returns B.notSynchronized (findClass_of_methodNamed B.named) (fun w hw => hts w (List.mem_cons_of_mem _ hw)) (vx_table (x := q_y M') B (hts _ List.mem_cons_self)) (name_of_methodNamed B.named B.method).1 hv
theorem q_met0 {y : MethodName} {ws : List Cond} {rm : Room} {Pc : Array Value → State → Prop} {mc ms : Nat} (h : vx_Met l y ws rm Pc (q_Po D A xa ad r1) (q_Px D A xa ad r1) mc ms A) (h0 : r1.1.1 = 0) : Met l y ws rm Pc (q_Po D A xa ad r1) mc ms A := by
  intro p e ha hc hk s m args below hf hs hP hK
  obtain ⟨k, o, h1, h2, h3, hQ⟩ := h p e ha hc hk s m args below hf hs hP hK
  rcases hQ with hQ | ⟨q, ho, E, ce, L, hx, -⟩
  · exact ⟨k, o, h1, h2, h3, hQ⟩
  · obtain ⟨⟨k, hk, -⟩, -⟩ := hx
    omega
theorem q_GI {w : Cond} (h : w ∈ lw_tbl) (g : goodWord w = true) : GoodIn q_tbl (w :: q_tbl) := by
  intro x hx
  rcases List.mem_cons.mp hx with e | e
  · subst e; exact ⟨q_tbl_in h g, good_of_word g⟩
  · exact ⟨e, good_of_word (List.mem_filter.mp e).2⟩
theorem q_cw_good (M : q_M) : goodWord (q_cw M) = true := by
  unfold q_cw
  split <;> rfl
end QC
section QA
variable {p : Program} {l : Launch} {e : Env} {R : Room} {s : State} {m : MethodId} {args : Array Value} {below : List Frame} {meth : Method} {c : Code} {H : Heap} {locs : List Loc} {Q : State → Prop}
variable {X : p_X} {M : q_M} {D : va_G} {A : Nat → Prop} {xa : Nat → Nat} {nL c0 s0 : Nat} {ad0 ad : List Nat} {μ : p_M} {lo st : List Value} {ls : Array Slot} {sa : List Value} {pc : Nat}
variable {cells slots mc ms : Nat} {st0 rest : List Value} {r1 : p_R} {a : Array Value}
theorem q_Sapp {st₀ t T' : State} {L : List Loc} (hS : va_S A s.heap H locs) (h0 : st₀.heap = H) (e1 : T'.heap = t.heap) (hF : va_F A st₀ t) (hL : ∀ q ∈ L, A q.base) : va_S A s.heap T'.heap (locs ++ L) := by
  obtain ⟨f1, f2⟩ := hF
  rw [h0] at f1 f2
  refine ⟨Nat.le_trans hS.1 (by rw [e1]; exact f1), fun q h1 h2 => ?_, fun q hq => ?_⟩
  · rw [e1, f2 q (Nat.lt_of_lt_of_le h1 hS.1) h2]
    exact hS.2.1 q h1 h2
  · rcases List.mem_append.mp hq with h | h
    · exact hS.2.2 q h
    · exact hL q h
/-- behind a call that returned -/
theorem q_after (hr : va_Run p l e R s m args below meth c H locs cells slots mc ms (F0 m pc ls st0) rest (q_Po D A xa ad r1 a) A) (hS : va_S A s.heap H locs)
    (kk : ∀ (v : Option Value) (H1 : Heap) (locs1 : List Loc) (ad' : List Nat), ad <+: ad' → q_W s H1 A D xa ad' r1.2 → q_ov xa ad' r1.1.2 v → va_S A s.heap H1 locs1 → W p l e R s m args below meth c H1 locs1 (cells + mc) (slots + ms) Q (F0 m (pc + 3) ls (v.toList ++ rest))) : W p l e R s m args below meth c H locs cells slots Q (F0 m pc ls st0) := by
  intro T hT Y
  obtain ⟨v, st₀, t, T', L, h0, Y', hL, e1, e2, ⟨-, ⟨ad', g1, g2, v', g3, g4⟩, hF⟩, sg⟩ := hr T hT Y
  cases g3
  have hvm : t.vm.Alike s.vm := by rw [← e2]; exact Y'.warmed.alike.symm
  have g2' : q_W s T'.heap A D xa ad' r1.2 := by rw [e1]; exact q_W_moved hvm g2
  obtain ⟨t2, a1, b1⟩ := kk v T'.heap (locs ++ L) ad' g1 g2' g4 (q_Sapp hS h0 e1 hF hL) T' rfl Y'
  exact ⟨t2, sg t2 a1, b1⟩
/-- behind a call that threw -/
theorem q_afterX (hr : vx_Run p l e R s m args below meth c H locs cells slots mc ms (F0 m pc ls st0) rest (q_Po D A xa ad r1 a) (q_Px D A xa ad r1) A) (hS : va_S A s.heap H locs) (hne : r1.1.1 ≠ 0)
    (kx : ∀ (k : Nat) (ce : Cell) (q : Addr) (H1 : Heap) (locs1 : List Loc) (ad' : List Nat), r1.1.1 = k + 1 → k < 5 → ad <+: ad' → q_W s H1 A D xa ad' r1.2 → va_S A s.heap H1 locs1 → H1[q]? = some ce → ce.vm = .none → s.vm.findClass (q_xn (k + 1)) = some ce.cls → vx_W p l e R s m args below meth c H1 locs1 (cells + mc) (slots + ms) Q (F0 m pc ls rest) q) : W p l e R s m args below meth c H locs cells slots Q (F0 m pc ls st0) := by
  intro T hT Y
  rcases hr T hT Y with ⟨v, st₀, t, T', L, h0, Y', hL, e1, e2, ⟨g0, -⟩, sg⟩ | ⟨q, st₀, t, T', L, E, ce, h0, Y', hL, e1, e2, ⟨⟨k, g1, g2, g3⟩, ⟨ad', g4, g5⟩, hF⟩, hce, hcv, hcl, sg⟩
  · exact absurd g0 hne
  · subst g3
    have hvm : t.vm.Alike s.vm := by rw [← e2]; exact Y'.warmed.alike.symm
    have g5' : q_W s T'.heap A D xa ad' r1.2 := by rw [e1]; exact q_W_moved hvm g5
    obtain ⟨t2, a1, b1⟩ := kx k ce q T'.heap (locs ++ L) ad' g1 g2 g4 g5' (q_Sapp hS h0 e1 hF hL) (by rw [e1]; exact hce) hcv hcl T' rfl Y'
    exact ⟨t2, sg.trans a1, b1⟩
end QA
end
section
/-! the pure machine is sound -/
/-- what is owed for the primitives: a part of its own -/
def q_Pr (X : p_X) (l : Launch) : Prop := ∀ (p : Program) (e : Env) (R : Room) (s : State) (m : MethodId) (args : Array Value) (below : List Frame) (meth : Method) (c : Code) (Q : State → Prop) (H : Heap) (locs : List Loc) (M : q_M) (D : va_G) (A : Nat → Prop) (xa : Nat → Nat) (c0 s0 : Nat) (ad0 ad : List Nat) (μ μ1 : p_M) (lo st : List Value) (ls : Array Slot) (sa : List Value) (pc k : Nat) (i : Instr) (as rest : List Value) (v : Option Value),
  p_callP M i 3 st = some (k, as, rest) → p_prim X k as μ = some (v, μ1) → decode (q_cc M) pc = .ok (i, 3) → q_Rm R c0 s0 μ μ1 → q_dR 0 R → q_Ctx p s m args meth c M D A → q_G X xa A s → q_Pt s A D xa (q_ml M) ad0 H locs ad μ lo st ls sa →
  q_Nx p l e R s m args below meth c Q D A xa (q_ml M) c0 s0 ad0 (pc + 3, lo, v.toList ++ rest, μ1) → W p l e R s m args below meth c H locs (mC μ - c0) (mS μ - s0) Q (F0 m pc ls sa)
set_option maxRecDepth 20000 in
theorem q_room {d ml : Nat} {R : Room} (h : q_dR (d + 1) R) (hm : ml ≤ 40) : d + 16 + 1 ≤ R.frames ∧ 8 + (ml + 11) + (100 * d + 400) ≤ R.locals := by
  obtain ⟨h1, h2⟩ := h
  rw [Nat.mul_add] at h2
  exact ⟨by omega, by omega⟩
theorem q_lM_in {o i : Nat} {f : q_L} (h : q_lM o i = some f) : q_okM f ∧ f.1 = o ∧ f.2.1 = i := by
  unfold q_lM at h
  have h1 := List.find?_some h
  have h2 := List.mem_of_find?_eq_some h
  simp only [Bool.and_eq_true, beq_iff_eq] at h1
  exact ⟨kMo o f h2, h1.1, h1.2⟩
/-- the three forms of a call -/
theorem q_call_in {M : q_M} {i : Instr} {st : List Value} {μ : p_M} {f : q_L} {as rest : List Value} (h : p_call M i 3 st μ = some (f, as, rest)) :
    ∃ k, q_lM (q_o M) k = some f ∧ p_pop (q_na f.2.2.2.2) st = some (as, rest) ∧ ((i = .invokestatic k ∧ f.2.2.1 = 1) ∨ (i = .invokespecial k ∧ f.2.2.1 = 2 ∧ ∃ a t, as = .ref a :: t ∧ a < mN μ ∧ mK μ a = q_o f.2.2.2.2) ∨ (i = .invokevirtual k ∧ f.2.2.1 = 0 ∧ ∃ a t, as = .ref a :: t ∧ a < mN μ ∧ mK μ a = q_o f.2.2.2.2 ∧ q_o f.2.2.2.2 < 15)) := by
  unfold p_call at h
  rw [if_pos rfl] at h
  split at h
  · rename_i k
    split at h
    · rename_i g hg
      split at h
      · rename_i hk
        cases hp : p_pop (q_na g.2.2.2.2) st with
        | none => rw [hp] at h; cases h
        | some r =>
          rw [hp] at h
          cases h
          exact ⟨k, hg, hp, Or.inl ⟨rfl, hk⟩⟩
      · cases h
    · cases h
  · rename_i k
    split at h
    · rename_i g hg
      split at h
      · rename_i hk
        split at h
        · rename_i a t r hp
          split at h
          · rename_i hz
            cases h
            exact ⟨k, hg, hp, Or.inr (Or.inl ⟨rfl, hk, a, t, rfl, hz⟩)⟩
          · cases h
        · cases h
      · cases h
    · cases h
  · rename_i k
    split at h
    · rename_i g hg
      split at h
      · rename_i hk
        split at h
        · rename_i a t r hp
          split at h
          · rename_i hz
            cases h
            exact ⟨k, hg, hp, Or.inr (Or.inr ⟨rfl, hk, a, t, rfl, hz⟩)⟩
          · cases h
        · cases h
      · cases h
    · cases h
  · cases h
section QS
variable {p : Program} {l : Launch} {e : Env} {R : Room} {s : State} {m : MethodId} {args : Array Value} {below : List Frame} {meth : Method} {c : Code} {H : Heap} {locs : List Loc} {Q : State → Prop}
variable {X : p_X} {M : q_M} {D : va_G} {A : Nat → Prop} {xa : Nat → Nat} {nL c0 s0 : Nat} {ad0 ad : List Nat} {μ : p_M} {lo st : List Value} {ls : Array Slot} {sa : List Value} {pc n d : Nat}
theorem q_Pc_at (C : q_Ctx p s m args meth c M D A) (G : q_G X xa A s) (P : q_Pt s A D xa nL ad0 H locs ad μ lo st ls sa) {aA : List Value} (U : State) (hU : U.heap = H) (hW : s.WarmedH U.vm) : q_Pc X D A xa ad μ aA aA.toArray U := by
  refine ⟨rfl, by rw [hU]; exact q_W_moved hW.alike P.1, q_G_moved hW (fun a h1 h2 => by rw [hU]; exact P.2.1.2.1 a h1 h2) G, va_K.moved hW.alike C.2.2.2.2.2.2.2.2.2.1, fun q hq => ?_⟩
  rw [hU] at hq
  exact C.2.2.2.2.2.2.2.2.2.2 q (Nat.le_trans P.2.1.1 hq)
theorem q_callB {f : q_L} {k : Nat} {mc ms na : Nat} (ok : q_okM f) (e1 : f.1 = q_o M) (e2 : f.2.1 = k) (hnest : f.2.2.2.1 = false) (hh : q_hh f.2.2.2.2 = []) (hdR : q_dR (d + 1) R) (C : q_Ctx p s m args meth c M D A) (hna : (parseMethodDescriptor (q_y f.2.2.2.2).desc).map (fun d => d.parameters.length) = some na) :
    CallB R s args (q_on (q_o M)) k (q_y f.2.2.2.2) (q_cc f.2.2.2.2) (q_ml f.2.2.2.2) (q_rt f.2.2.2.2) (q_cw f.2.2.2.2 :: q_tbl) (q_rm d mc ms) mc ms na := by
  obtain ⟨k1, k2, ok⟩ := ok
  rw [e1, e2] at k1
  obtain ⟨o1, o2, o3, o4, o5, o6, o7, o8, o9, o10, o11, o12, o13, o14⟩ := ok
  have hcw : q_cw f.2.2.2.2 = .code (q_y f.2.2.2.2) (q_cc f.2.2.2.2) (q_ml f.2.2.2.2) (q_rt f.2.2.2.2) := by unfold q_cw; rw [if_pos hh]
  refine callB_of (ws' := q_tbl) na C.2.2.2.2.2.2.1 (q_GI o1 (q_cw_good _)) (by rw [hcw]) rfl rfl (C.2.2.2.2.2.2.1 _ (q_tbl_in o2 rfl)) (C.2.2.2.2.2.2.1 _ (q_tbl_in (k1 hnest) rfl)) ⟨o8, o9, hna⟩ (q_room hdR o14)
/-- the run of a call that returns -/
theorem q_runR (ih : q_Snd X l n) {i : Instr} {f : q_L} {as rest : List Value} {r1 : p_R} (hx : p_call M i 3 st μ = some (f, as, rest)) (hcond : f.2.2.1 = 1 ∨ q_hh f.2.2.2.2 = []) (hrun : p_run X n d f.2.2.2.2 0 (p_loc f.2.2.2.2 as) [] μ = some r1) (h0 : r1.1.1 = 0) (hd : decode (q_cc M) pc = .ok (i, 3)) (hE : mC r1.2 < p_E) (hdR : q_dR (d + 1) R)
    (hf : mC μ - c0 + (mC r1.2 - mC μ) ≤ R.cells ∧ mS μ - s0 + (mS r1.2 - mS μ) ≤ R.slots) (C : q_Ctx p s m args meth c M D A) (G : q_G X xa A s) (P : q_Pt s A D xa (q_ml M) ad0 H locs ad μ lo st ls sa) :
    ∃ (aA rA : List Value), q_st xa ad rest rA ∧ va_Run p l e R s m args below meth c H locs (mC μ - c0) (mS μ - s0) (mC r1.2 - mC μ) (mS r1.2 - mS μ) (F0 m pc ls sa) rA (q_Po D A xa ad r1 aA.toArray) A := by
  obtain ⟨k, hl, hp, hkind⟩ := q_call_in hx
  obtain ⟨ok, e1, e2⟩ := q_lM_in hl
  obtain ⟨aA, rA, g1, g2, g3, g4, g5, g6⟩ := q_pop hp P.2.2.2.1
  have okY := ok.2.2
  have hM := q_met0 (q_vmet (D := D) (A := A) ih hrun okY g2 g6 g4 hE) h0
  have hsize : ls.size = q_ml M := by obtain ⟨lv, l1, -⟩ := P.2.2.1; exact l1.1
  have S : CallFix p m c (q_cc M) (q_ml M) s args q_tbl (q_on (q_o M)) := ⟨C.1, C.2.1, C.2.2.1, C.2.2.2.2.2.1, C.2.2.2.2.2.2.1⟩
  obtain ⟨o1, o2, o3, o4, o5, o6, o7, o8, o9, o10, o11, o12, o13, o14⟩ := okY
  have hgood : ∀ w, w ∈ lw_tbl → goodWord w = true → w.before args s = true := fun w h1 h2 => C.2.2.2.2.2.2.1 _ (q_tbl_in h1 h2)
  refine ⟨aA, rA, g3, ?_⟩
  rcases hkind with ⟨hi, hk⟩ | ⟨hi, hk, a, t, hat, ha, hak⟩ | ⟨hi, hk, a, t, hat, ha, hak, hlt⟩
  · subst hi
    have hnest : f.2.2.2.1 = false := by
      cases hb : f.2.2.2.1 with
      | false => rfl
      | true => have := (ok.2.1 hb).1; omega
    rw [hk, if_pos rfl] at o11
    by_cases hh : q_hh f.2.2.2.2 = []
    · exact va_runS S hM ⟨q_callB ok e1 e2 hnest hh hdR C o11, hgood _ (o3 hk) rfl⟩ ⟨q_Pc_blind, fun U hU hW => q_Pc_at C G P U hU hW⟩ rfl (by rw [q_st_len g2, g4]; rfl) hsize g1 (lv_room g5) hd hf
    · have hcw : q_cw f.2.2.2.2 = .codeWith (q_y f.2.2.2.2) (q_cc f.2.2.2.2) (q_ml f.2.2.2.2) (q_rt f.2.2.2.2) (q_hh f.2.2.2.2) := by unfold q_cw; rw [if_neg hh]
      have hGI := q_GI o1 (q_cw_good f.2.2.2.2)
      rw [hcw] at hM hGI
      have hlk := ok.1 hnest
      rw [e1, e2] at hlk
      refine vx_runSW S hM (vx_cwSW (n := q_na f.2.2.2.2 - 0) C.2.2.2.2.2.2.1 (fun w hw => ?_) rfl rfl rfl ⟨o8, o9, o11⟩ (q_room hdR o14)) ⟨q_Pc_blind, fun U hU hW => q_Pc_at C G P U hU hW⟩ rfl (by rw [q_st_len g2, g4]; rfl) hsize g1 (lv_room g5) hd hf
      · unfold va_wsS at hw
        rcases List.mem_append.mp hw with h | h
        · simp only [List.mem_cons, List.not_mem_nil, or_false] at h
          rcases h with h | h | h <;> subst h
          · exact ⟨q_tbl_in hlk rfl, good_of_word rfl⟩
          · exact ⟨q_tbl_in (o3 hk) rfl, good_of_word rfl⟩
          · exact ⟨q_tbl_in o2 rfl, good_of_word rfl⟩
        · exact hGI w h
  · subst hi hat
    have hh : q_hh f.2.2.2.2 = [] := by rcases hcond with h | h; · omega
                                        · exact h
    obtain ⟨v1, aT, e3, ⟨b, h2, h2'⟩, g2'⟩ := g2
    subst e3 h2'
    rw [hk, if_neg (by decide)] at o11
    have hst : sa = aT.reverse ++ .ref b :: rA := by rw [g1, List.reverse_cons, List.append_assoc]; rfl
    have hn : aT.length = q_na f.2.2.2.2 - 1 := by
      have := q_st_len g2'
      rw [List.length_cons] at g4
      omega
    cases hb : f.2.2.2.1 with
    | false =>
      have cb := q_callB (mc := mC r1.2 - mC μ) (ms := mS r1.2 - mS μ) ok e1 e2 hb hh hdR C o11
      rw [(o6 hk).2] at cb
      exact va_runI S hM ⟨cb, (o6 hk).1, hgood _ (o4 (by omega)) rfl⟩ ⟨q_Pc_blind, fun U hU hW => q_Pc_at C G P U hU hW⟩ rfl hn hsize hst (lv_room g5) hd hf
    | true =>
      have hcw : q_cw f.2.2.2.2 = .code (q_y f.2.2.2.2) (q_cc f.2.2.2.2) (q_ml f.2.2.2.2) (q_rt f.2.2.2.2) := by unfold q_cw; rw [if_pos hh]
      have hlk := (ok.2.1 hb).2
      rw [e1, e2] at hlk
      have hnw : va_Nw (.methodLinkNest (q_on (q_o M)) k (q_y f.2.2.2.2) "TrouserWash") s := G.1 _ hlk rfl
      have cn := va_cnB (bytes := q_cc f.2.2.2.2) (maxL := q_ml f.2.2.2.2) (ret := q_rt f.2.2.2.2) (rm := q_rm d (mC r1.2 - mC μ) (mS r1.2 - mS μ)) (R := R) (ws' := q_tbl) (q_na f.2.2.2.2 - 1) C.2.2.2.2.2.2.1 (q_GI o1 (q_cw_good f.2.2.2.2)) (by rw [hcw]) rfl rfl hnw (hgood _ o2 rfl) ⟨o8, o9, o11⟩ (q_room hdR o14)
      rw [(o6 hk).2] at cn
      exact va_runIN S hM ⟨cn, (o6 hk).1, hgood _ (o4 (by omega)) rfl⟩ ⟨q_Pc_blind, fun U hU hW => q_Pc_at C G P U hU hW⟩ rfl hn hsize hst (lv_room g5) hd hf
  · subst hi hat
    have hh : q_hh f.2.2.2.2 = [] := by rcases hcond with h | h; · omega
                                        · exact h
    have hnest : f.2.2.2.1 = false := by
      cases hb : f.2.2.2.1 with
      | false => rfl
      | true => have := (ok.2.1 hb).1; omega
    obtain ⟨v1, aT, e3, ⟨b, h2, h2'⟩, g2'⟩ := g2
    subst e3 h2'
    rw [hk, if_neg (by decide)] at o11
    have hst : sa = aT.reverse ++ .ref b :: rA := by rw [g1, List.reverse_cons, List.append_assoc]; rfl
    have hn : aT.length = q_na f.2.2.2.2 - 1 := by
      have := q_st_len g2'
      rw [List.length_cons] at g4
      omega
    obtain ⟨ws, w⟩ := P.1
    obtain ⟨en, he, hc⟩ := q_Ws_at w ha h2
    obtain ⟨fs, f1, -⟩ := q_cO hc hak hlt
    subst f1
    have hrec := va_recv C.2.2.2.2.2.2.2.2.2.1 w.1 (kN _ hlt).2.2 he
    rw [← o7] at hrec
    exact va_runV S hM ⟨q_callB ok e1 e2 hnest hh hdR C o11, hgood _ (o4 (by omega)) rfl, hgood _ (o5 hk) rfl⟩ ⟨q_Pc_blind, hrec, fun U hU hW => q_Pc_at C G P U hU hW⟩ rfl hn hsize hst (lv_room g5) hd hf
end QS
end
section
/-! throwing calls, handlers, and the whole -/
theorem q_lH_ok {o i F : Nat} (h : q_lH o i = some F) : i ≠ 0 ∧ 1 ≤ F ∧ F ≤ 5 := by
  unfold q_lH at h
  split at h
  all_goals first | (cases h; exact ⟨by decide, by decide, by decide⟩) | cases h
theorem q_hnd {M : q_M} {pc E tgt : Nat} : ∀ {hh : List (Nat × Nat × Nat × Nat)}, p_hnd M pc E hh = some tgt → ∃ pre x suf, hh = pre ++ x :: suf ∧ (x.1 ≤ pc ∧ pc < x.2.1) ∧ q_lH (q_o M) x.2.2.2 = some E ∧ x.2.2.1 = tgt ∧ ∀ z ∈ pre, ¬ (z.1 ≤ pc ∧ pc < z.2.1) ∨ ∃ F, q_lH (q_o M) z.2.2.2 = some F ∧ F ≠ E
  | [], h => by cases h
  | y :: t, h => by
    unfold p_hnd at h
    split at h
    · rename_i hc
      split at h
      · rename_i F hF
        split at h
        · rename_i hFE
          subst hFE
          cases h
          exact ⟨[], y, t, rfl, hc, hF, rfl, fun z hz => nomatch hz⟩
        · rename_i hFE
          obtain ⟨pre, x, suf, e1, e2, e3, e4, e5⟩ := q_hnd h
          subst e1
          refine ⟨y :: pre, x, suf, rfl, e2, e3, e4, fun z hz => ?_⟩
          rcases List.mem_cons.mp hz with q | q
          · subst q; exact Or.inr ⟨F, hF, hFE⟩
          · exact e5 z q
      · cases h
    · rename_i hc
      obtain ⟨pre, x, suf, e1, e2, e3, e4, e5⟩ := q_hnd h
      subst e1
      refine ⟨y :: pre, x, suf, rfl, e2, e3, e4, fun z hz => ?_⟩
      rcases List.mem_cons.mp hz with q | q
      · subst q; exact Or.inl hc
      · exact e5 z q
theorem kCast : ∀ E : Nat, 1 ≤ E → E ≤ 5 → Cond.castable (q_xn E) (q_xn E) ∈ lw_tbl := by
  intro E h1 h2
  match E, h1, h2 with
  | 1, _, _ => exact List.mem_of_getElem? (i := 632) (by decide +kernel)
  | 2, _, _ => exact List.mem_of_getElem? (i := 704) (by decide +kernel)
  | 3, _, _ => exact List.mem_of_getElem? (i := 838) (by decide +kernel)
  | 4, _, _ => exact List.mem_of_getElem? (i := 857) (by decide +kernel)
  | 5, _, _ => exact List.mem_of_getElem? (i := 1394) (by decide +kernel)
  | 0, h1, _ => exact absurd h1 (by decide)
  | n + 6, _, h2 => exact absurd h2 (by omega)
section QT
variable {p : Program} {l : Launch} {e : Env} {R : Room} {s : State} {m : MethodId} {args : Array Value} {below : List Frame} {meth : Method} {c : Code} {H : Heap} {locs : List Loc} {Q : State → Prop}
variable {X : p_X} {M : q_M} {D : va_G} {A : Nat → Prop} {xa : Nat → Nat} {nL c0 s0 : Nat} {ad0 ad : List Nat} {μ : p_M} {lo st : List Value} {ls : Array Slot} {sa : List Value} {pc n d : Nat}
theorem q_runT (ih : q_Snd X l n) {i : Instr} {f : q_L} {as rest : List Value} {r1 : p_R} (hx : p_call M i 3 st μ = some (f, as, rest)) (hcond : ¬ (f.2.2.1 = 2 ∨ ¬ q_hh f.2.2.2.2 = [])) (hrun : p_run X n d f.2.2.2.2 0 (p_loc f.2.2.2.2 as) [] μ = some r1) (hd : decode (q_cc M) pc = .ok (i, 3)) (hE : mC r1.2 < p_E) (hdR : q_dR (d + 1) R)
    (hf : mC μ - c0 + (mC r1.2 - mC μ) ≤ R.cells ∧ mS μ - s0 + (mS r1.2 - mS μ) ≤ R.slots) (C : q_Ctx p s m args meth c M D A) (G : q_G X xa A s) (P : q_Pt s A D xa (q_ml M) ad0 H locs ad μ lo st ls sa) :
    ∃ (aA rA : List Value), q_st xa ad rest rA ∧ vx_Run p l e R s m args below meth c H locs (mC μ - c0) (mS μ - s0) (mC r1.2 - mC μ) (mS r1.2 - mS μ) (F0 m pc ls sa) rA (q_Po D A xa ad r1 aA.toArray) (q_Px D A xa ad r1) A := by
  obtain ⟨k, hl, hp, hkind⟩ := q_call_in hx
  obtain ⟨ok, e1, e2⟩ := q_lM_in hl
  obtain ⟨aA, rA, g1, g2, g3, g4, g5, g6⟩ := q_pop hp P.2.2.2.1
  have okY := ok.2.2
  have hM := q_vmet (D := D) (A := A) ih hrun okY g2 g6 g4 hE
  have hsize : ls.size = q_ml M := by obtain ⟨lv, l1, -⟩ := P.2.2.1; exact l1.1
  have S : CallFix p m c (q_cc M) (q_ml M) s args q_tbl (q_on (q_o M)) := ⟨C.1, C.2.1, C.2.2.1, C.2.2.2.2.2.1, C.2.2.2.2.2.2.1⟩
  obtain ⟨o1, o2, o3, o4, o5, o6, o7, o8, o9, o10, o11, o12, o13, o14⟩ := okY
  have hgood : ∀ w, w ∈ lw_tbl → goodWord w = true → w.before args s = true := fun w h1 h2 => C.2.2.2.2.2.2.1 _ (q_tbl_in h1 h2)
  have hh : q_hh f.2.2.2.2 = [] := Classical.byContradiction fun z => hcond (Or.inr z)
  have hk2 : ¬ f.2.2.1 = 2 := fun z => hcond (Or.inl z)
  have hnest : f.2.2.2.1 = false := by
    cases hb : f.2.2.2.1 with
    | false => rfl
    | true => exact absurd (ok.2.1 hb).1 hk2
  refine ⟨aA, rA, g3, ?_⟩
  rcases hkind with ⟨hi, hk⟩ | ⟨hi, hk, -⟩ | ⟨hi, hk, a, t, hat, ha, hak, hlt⟩
  · subst hi
    rw [hk, if_pos rfl] at o11
    exact vx_runS S hM ⟨q_callB ok e1 e2 hnest hh hdR C o11, hgood _ (o3 hk) rfl⟩ ⟨q_Pc_blind, fun U hU hW => q_Pc_at C G P U hU hW⟩ rfl (by rw [q_st_len g2, g4]; rfl) hsize g1 (lv_room g5) hd hf
  · exact absurd hk hk2
  · subst hi hat
    obtain ⟨v1, aT, e3, ⟨b, h2, h2'⟩, g2'⟩ := g2
    subst e3 h2'
    rw [hk, if_neg (by decide)] at o11
    have hst : sa = aT.reverse ++ .ref b :: rA := by rw [g1, List.reverse_cons, List.append_assoc]; rfl
    have hn : aT.length = q_na f.2.2.2.2 - 1 := by
      have := q_st_len g2'
      rw [List.length_cons] at g4
      omega
    obtain ⟨ws, w⟩ := P.1
    obtain ⟨en, he, hc⟩ := q_Ws_at w ha h2
    obtain ⟨fs, f1, -⟩ := q_cO hc hak hlt
    subst f1
    have hrec := va_recv C.2.2.2.2.2.2.2.2.2.1 w.1 (kN _ hlt).2.2 he
    rw [← o7] at hrec
    exact vx_runV S hM ⟨q_callB ok e1 e2 hnest hh hdR C o11, hgood _ (o4 (by omega)) rfl, hgood _ (o5 hk) rfl⟩ ⟨q_Pc_blind, hrec, fun U hU hW => q_Pc_at C G P U hU hW⟩ rfl hn hsize hst (lv_room g5) hd hf
end QT
theorem q_dR0 {d : Nat} {R : Room} (h : q_dR d R) : q_dR 0 R := ⟨Nat.le_trans (by omega) h.1, Nat.le_trans (by omega) h.2⟩
set_option maxHeartbeats 4000000 in
theorem q_sound {X : p_X} {l : Launch} (hl : l.stackTraces = false) (h4 : q_T4 X l) (hPr : q_Pr X l) : ∀ n, q_Snd X l n
  | 0 => fun d M pc lo st μ r h => by cases h
  | n + 1 => by
    have ih := q_sound hl h4 hPr n
    intro d M pc lo st μ r h
    unfold p_run at h
    split at h
    · cases h
    · rename_i i len hdec
      split at h
      · rename_i q hx
        obtain ⟨⟨m1, m2⟩, ihW⟩ := ih d M q.1 q.2.1 q.2.2.1 q.2.2.2 r h
        have hc := q_exec_C hx
        refine ⟨⟨by omega, by omega⟩, fun p e R s m args below meth c D A xa c0 s0 ad0 H locs ad ls sa C G P g1 g2 g3 g4 g5 g6 => ?_⟩
        exact q_exec hx hdec C G P (fun H1 locs1 ad1 ls1 sa1 P1 => ihW p e R s m args below meth c D A xa c0 s0 ad0 H1 locs1 ad1 ls1 sa1 C G P1 (by omega) (by omega) g3 g4 g5 g6)
      · split at h
        · rename_i q hx
          obtain ⟨⟨m1, m2⟩, ihW⟩ := ih d M q.1 q.2.1 q.2.2.1 q.2.2.2 r h
          have hc := q_pool_C hx
          refine ⟨⟨by omega, by omega⟩, fun p e R s m args below meth c D A xa c0 s0 ad0 H locs ad ls sa C G P g1 g2 g3 g4 g5 g6 => ?_⟩
          exact q_pool hx hdec ⟨g1, g2, by omega, by omega, by omega⟩ C G P (fun H1 locs1 ad1 ls1 sa1 P1 => ihW p e R s m args below meth c D A xa c0 s0 ad0 H1 locs1 ad1 ls1 sa1 C G P1 (by omega) (by omega) g3 g4 g5 g6)
        · split at h
          · rename_i v hx
            cases h
            refine ⟨⟨Nat.le_refl _, Nat.le_refl _⟩, fun p e R s m args below meth c D A xa c0 s0 ad0 H locs ad ls sa C G P g1 g2 g3 g4 g5 g6 => ?_⟩
            exact q_ret hx hdec C P
          · split at h
            · rename_i E hx
              split at h
              · rename_i hlen
                subst hlen
                cases h
                refine ⟨⟨Nat.le_add_right _ _, Nat.le_add_right _ _⟩, fun p e R s m args below meth c D A xa c0 s0 ad0 H locs ad ls sa C G P g1 g2 g3 g4 g5 g6 => ?_⟩
                exact q_thr h4 hl hx hdec ⟨g1, g2, g3, g4, g5⟩ (q_dR0 g6) C G P
              · cases h
            · split at h
              · rename_i k as rest hx
                split at h
                · rename_i v μ1 hp
                  obtain ⟨⟨m1, m2⟩, ihW⟩ := ih d M (pc + 3) lo (v.toList ++ rest) μ1 r h
                  have hc := q_prim_C hp
                  have hlen : len = 3 := by
                    unfold p_callP at hx
                    split at hx
                    · assumption
                    · cases hx
                  subst hlen
                  refine ⟨⟨by omega, by omega⟩, fun p e R s m args below meth c D A xa c0 s0 ad0 H locs ad ls sa C G P g1 g2 g3 g4 g5 g6 => ?_⟩
                  exact hPr p e R s m args below meth c _ H locs M D A xa c0 s0 ad0 ad μ μ1 lo st ls sa pc k i as rest v hx hp hdec ⟨g1, g2, by omega, by omega, by omega⟩ (q_dR0 g6) C G P (fun H1 locs1 ad1 ls1 sa1 P1 => ihW p e R s m args below meth c D A xa c0 s0 ad0 H1 locs1 ad1 ls1 sa1 C G P1 (by omega) (by omega) g3 g4 g5 g6)
                · cases h
              · split at h
                · rename_i f as rest hx
                  have hlen : len = 3 := by
                    unfold p_call at hx
                    split at hx
                    · assumption
                    · cases hx
                  subst hlen
                  split at h
                  · cases h
                  · rename_i d1
                    split at h
                    · rename_i hcond
                      split at h
                      · rename_i v μ1 hrun
                        obtain ⟨⟨m1, m2⟩, ihW⟩ := ih (d1 + 1) M (pc + 3) lo (v.toList ++ rest) μ1 r h
                        obtain ⟨⟨n1, n2⟩, -⟩ := ih d1 f.2.2.2.2 0 _ [] μ ((0, v), μ1) hrun
                        have n1 : mC μ ≤ mC μ1 := n1
                        have n2 : mS μ ≤ mS μ1 := n2
                        refine ⟨⟨by omega, by omega⟩, fun p e R s m args below meth c D A xa c0 s0 ad0 H locs ad ls sa C G P g1 g2 g3 g4 g5 g6 => ?_⟩
                        obtain ⟨aA, rA, t1, t2⟩ := q_runR (p := p) (e := e) (R := R) (below := below) (c0 := c0) (s0 := s0) ih hx hcond hrun rfl hdec (by show mC μ1 < p_E; omega) g6 (by show mC μ - c0 + (mC μ1 - mC μ) ≤ R.cells ∧ mS μ - s0 + (mS μ1 - mS μ) ≤ R.slots; omega) C G P
                        refine q_after t2 P.2.1 (fun w H1 locs1 ad1 k1 k2 k3 k4 => ?_)
                        refine q_cs (a' := mC μ1 - c0) (b' := mS μ1 - s0) (by show mC μ - c0 + (mC μ1 - mC μ) = _; omega) (by show mS μ - s0 + (mS μ1 - mS μ) = _; omega) ?_
                        refine ihW p e R s m args below meth c D A xa c0 s0 ad0 H1 locs1 ad1 ls (w.toList ++ rA) C G ⟨k2, k4, q_lo_mono k1 P.2.2.1, ?_, P.2.2.2.2.trans k1⟩ (by omega) (by omega) g3 g4 g5 g6
                        have t1' := q_st_mono k1 t1
                        cases v with
                        | none => have k3 : w = none := k3; subst k3; exact t1'
                        | some x => obtain ⟨y, k5, k6⟩ := k3; subst k5; exact ⟨y, rA, rfl, k6, t1'⟩
                      · rename_i E z μ1 hrun
                        obtain ⟨⟨n1, n2⟩, -⟩ := ih d1 f.2.2.2.2 0 _ [] μ _ hrun
                        have n1 : mC μ ≤ mC μ1 := n1
                        have n2 : mS μ ≤ mS μ1 := n2
                        split at h
                        · cases h
                        · rename_i hnx
                          split at h
                          · rename_i tgt hh
                            obtain ⟨⟨m1, m2⟩, ihW⟩ := ih (d1 + 1) M tgt lo [.retAddr 0] μ1 r h
                            refine ⟨⟨by omega, by omega⟩, fun p e R s m args below meth c D A xa c0 s0 ad0 H locs ad ls sa C G P g1 g2 g3 g4 g5 g6 => ?_⟩
                            obtain ⟨aA, rA, t1, t2⟩ := q_runT (p := p) (e := e) (R := R) (below := below) (c0 := c0) (s0 := s0) ih hx hnx hrun hdec (by show mC μ1 < p_E; omega) g6 (by show mC μ - c0 + (mC μ1 - mC μ) ≤ R.cells ∧ mS μ - s0 + (mS μ1 - mS μ) ≤ R.slots; omega) C G P
                            refine q_afterX t2 P.2.1 (by show E + 1 ≠ 0; omega) (fun k ce q H1 locs1 ad1 j1 j2 k1 k2 k4 hce hcv hcl => ?_)
                            have j1 : E + 1 = k + 1 := j1
                            have ek : k = E := by omega
                            subst ek
                            obtain ⟨pre, x, suf, y1, y2, y3, y4, y5⟩ := q_hnd hh
                            have htab : c.exceptionTable.toList = tableOf pre ++ (⟨x.1, x.2.1, x.2.2.1, x.2.2.2⟩ : ExceptionTableEntry) :: tableOf suf := by
                              rw [C.2.2.2.2.2.2.2.1, y1]
                              simp [tableOf]
                            refine vx_catch (name := q_xn (k + 1)) (E := q_xn (k + 1)) C.2.2.2.2.2.1 (tableOf pre) _ (tableOf suf) htab ?_ ?_ (q_lH_ok y3).1 (C.2.2.2.2.2.2.1 _ (q_tbl_in (kH _ _ _ y3) rfl)) (va_Nw.use rfl (G.1 _ (kCast (k + 1) (by omega) (by omega)) rfl)) hce hcv hcl ?_
                            · intro z hz
                              obtain ⟨z0, hz0, rfl⟩ := List.mem_map.mp hz
                              rcases y5 z0 hz0 with q | ⟨F, q1, q2⟩
                              · left
                                unfold covers
                                simp only [Bool.and_eq_false_iff, decide_eq_false_iff_not]
                                show ¬ z0.1 ≤ pc ∨ ¬ pc < z0.2.1
                                omega
                              · right
                                obtain ⟨w1, w2, w3⟩ := q_lH_ok q1
                                exact ⟨w1, q_xn F, C.2.2.2.2.2.2.1 _ (q_tbl_in (kH _ _ _ q1) rfl), G.2.2.2.2.2.2.1 (k + 1) F (by omega) (by omega) w2 w3 (fun q => q2 q.symm)⟩
                            · unfold covers
                              simp only [Bool.and_eq_true, decide_eq_true_eq]
                              exact y2
                            · refine q_cs (a' := mC μ1 - c0) (b' := mS μ1 - s0) (by show mC μ - c0 + (mC μ1 - mC μ) = _; omega) (by show mS μ - s0 + (mS μ1 - mS μ) = _; omega) ?_
                              show W p l e R s m args below meth c H1 locs1 _ _ _ (F0 m x.2.2.1 ls [.ref q])
                              rw [y4]
                              exact ihW p e R s m args below meth c D A xa c0 s0 ad0 H1 locs1 ad1 ls [.ref q] C G ⟨k2, k4, q_lo_mono k1 P.2.2.1, ⟨_, _, rfl, ⟨q, rfl⟩, rfl⟩, P.2.2.2.2.trans k1⟩ (by omega) (by omega) g3 g4 g5 g6
                          · split at h
                            · rename_i hnil
                              cases h
                              refine ⟨⟨n1, n2⟩, fun p e R s m args below meth c D A xa c0 s0 ad0 H locs ad ls sa C G P g1 g2 g3 g4 g5 g6 => ?_⟩
                              have g3 : mC μ1 ≤ c0 + R.cells := g3
                              have g4 : mS μ1 ≤ s0 + R.slots := g4
                              obtain ⟨aA, rA, t1, t2⟩ := q_runT (p := p) (e := e) (R := R) (below := below) (c0 := c0) (s0 := s0) ih hx hnx hrun hdec g5 g6 (by show mC μ - c0 + (mC μ1 - mC μ) ≤ R.cells ∧ mS μ - s0 + (mS μ1 - mS μ) ≤ R.slots; omega) C G P
                              refine q_afterX t2 P.2.1 (by show E + 1 ≠ 0; omega) (fun k ce q H1 locs1 ad1 j1 j2 k1 k2 k4 hce hcv hcl => ?_)
                              refine vx_out ?_ C.2.2.2.2.1 hce hcv hcl (fun t ht hvm => ?_) k4.2.2 (by show mC μ - c0 + (mC μ1 - mC μ) ≤ mC μ1 - c0; omega) (by show mS μ - s0 + (mS μ1 - mS μ) ≤ mS μ1 - s0; omega)
                              · intro x hx
                                rw [C.2.2.2.2.2.2.2.1, hnil] at hx
                                cases hx
                              · exact ⟨⟨k, j1, j2, rfl⟩, ⟨ad1, P.2.2.2.2.trans k1, by rw [ht]; exact q_W_moved hvm k2⟩, q_F k4 ht⟩
                            · cases h
                      · cases h
                    · cases h
                · cases h
end
section
/-! rows of the pure machine -/
section EV
variable {X : p_X}
set_option maxHeartbeats 4000000 in
theorem p_mono : ∀ (n d : Nat) (M : q_M) (pc : Nat) (lo st : List Value) (μ : p_M) (r : p_R), p_run X n d M pc lo st μ = some r → p_run X (n + 1) d M pc lo st μ = some r
  | 0, _, _, _, _, _, _, _, h => by cases h
  | n + 1, d, M, pc, lo, st, μ, r, h => by
    rw [p_run] at h ⊢
    split at h
    · cases h
    · rename_i i len hdec
      try simp only [hdec]
      split at h
      · rename_i q hx
        try simp only [hx]
        exact p_mono n _ _ _ _ _ _ _ h
      · rename_i hx
        try simp only [hx]
        split at h
        · rename_i q hp
          try simp only [hp]
          exact p_mono n _ _ _ _ _ _ _ h
        · rename_i hp
          try simp only [hp]
          split at h
          · rename_i v hr
            try simp only [hr]
            exact h
          · rename_i hr
            try simp only [hr]
            split at h
            · rename_i E ht
              try simp only [ht]
              exact h
            · rename_i ht
              try simp only [ht]
              split at h
              · rename_i k as rest hc
                try simp only [hc]
                split at h
                · rename_i v μ1 hq
                  try simp only [hq]
                  exact p_mono n _ _ _ _ _ _ _ h
                · cases h
              · rename_i hc
                try simp only [hc]
                split at h
                · rename_i f as rest hf
                  try simp only [hf]
                  split at h
                  · cases h
                  · rename_i d1
                    try dsimp only
                    split at h
                    · rename_i hcond
                      try rw [if_pos hcond]
                      split at h
                      · rename_i v μ1 hrun
                        rw [p_mono n _ _ _ _ _ _ _ hrun]
                        exact p_mono n _ _ _ _ _ _ _ h
                      · rename_i E z μ1 hrun
                        rw [p_mono n _ _ _ _ _ _ _ hrun]
                        try dsimp only
                        split at h
                        · cases h
                        · rename_i hnx
                          try rw [if_neg hnx]
                          split at h
                          · rename_i tgt hh
                            try simp only [hh]
                            exact p_mono n _ _ _ _ _ _ _ h
                          · rename_i hh
                            try simp only [hh]
                            exact h
                      · cases h
                    · cases h
                · cases h
theorem p_le {n d : Nat} {M : q_M} {pc : Nat} {lo st : List Value} {μ : p_M} {r : p_R} (h : p_run X n d M pc lo st μ = some r) : ∀ k, p_run X (n + k) d M pc lo st μ = some r
  | 0 => h
  | k + 1 => p_mono (n + k) _ _ _ _ _ _ _ (p_le h k)
variable {d : Nat} {M : q_M} {pc : Nat} {lo st : List Value} {μ : p_M} {Q : p_R → Prop}
theorem e_x {i : Instr} {len : Nat} {q : p_S} (hd : decode (q_cc M) pc = .ok (i, len)) (hx : p_exec X M i len pc lo st μ = some q) (k : p_Ev X d M q.1 q.2.1 q.2.2.1 q.2.2.2 Q) : p_Ev X d M pc lo st μ Q := by
  obtain ⟨n, r, h1, h2⟩ := k
  refine ⟨n + 1, r, ?_, h2⟩
  rw [p_run]
  simp only [hd, hx]
  exact h1
theorem e_p {i : Instr} {len : Nat} {q : p_S} (hd : decode (q_cc M) pc = .ok (i, len)) (h0 : p_exec X M i len pc lo st μ = none) (hx : p_pool M i len pc lo st μ = some q) (k : p_Ev X d M q.1 q.2.1 q.2.2.1 q.2.2.2 Q) : p_Ev X d M pc lo st μ Q := by
  obtain ⟨n, r, h1, h2⟩ := k
  refine ⟨n + 1, r, ?_, h2⟩
  rw [p_run]
  simp only [hd, h0, hx]
  exact h1
theorem e_r {i : Instr} {len : Nat} {v : Option Value} (hd : decode (q_cc M) pc = .ok (i, len)) (h0 : p_exec X M i len pc lo st μ = none) (h1 : p_pool M i len pc lo st μ = none) (hx : p_ret M i len st = some v) (hQ : Q ((0, v), μ)) : p_Ev X d M pc lo st μ Q := by
  refine ⟨1, ((0, v), μ), ?_, hQ⟩
  rw [p_run]
  simp only [hd, h0, h1, hx]
theorem e_t {i : Instr} {E : Nat} (hd : decode (q_cc M) pc = .ok (i, 3)) (h0 : p_exec X M i 3 pc lo st μ = none) (h1 : p_pool M i 3 pc lo st μ = none) (h2 : p_ret M i 3 st = none) (hx : p_thr M i pc st = some E) (hQ : Q ((E, none), sG μ 1 6)) : p_Ev X d M pc lo st μ Q := by
  refine ⟨1, ((E, none), sG μ 1 6), ?_, hQ⟩
  rw [p_run]
  simp only [hd, h0, h1, h2, hx, if_pos]
theorem e_pr {i : Instr} {kk : Nat} {as rest : List Value} {v : Option Value} {μ1 : p_M} (hd : decode (q_cc M) pc = .ok (i, 3)) (h0 : p_exec X M i 3 pc lo st μ = none) (h1 : p_pool M i 3 pc lo st μ = none) (h2 : p_ret M i 3 st = none) (h3 : p_thr M i pc st = none) (hc : p_callP M i 3 st = some (kk, as, rest)) (hx : p_prim X kk as μ = some (v, μ1)) (k : p_Ev X d M (pc + 3) lo (v.toList ++ rest) μ1 Q) : p_Ev X d M pc lo st μ Q := by
  obtain ⟨n, r, g1, g2⟩ := k
  refine ⟨n + 1, r, ?_, g2⟩
  rw [p_run]
  simp only [hd, h0, h1, h2, h3, hc, hx]
  exact g1
/-- a call: what comes of it -/
theorem e_c {i : Instr} {f : q_L} {as rest : List Value} (hd : decode (q_cc M) pc = .ok (i, 3)) (h0 : p_exec X M i 3 pc lo st μ = none) (h1 : p_pool M i 3 pc lo st μ = none) (h2 : p_ret M i 3 st = none) (h3 : p_thr M i pc st = none) (h4 : p_callP M i 3 st = none) (hc : p_call M i 3 st μ = some (f, as, rest)) (hcond : f.2.2.1 = 1 ∨ q_hh f.2.2.2.2 = [])
    (k : p_Ev X d f.2.2.2.2 0 (p_loc f.2.2.2.2 as) [] μ (fun r => (r.1.1 = 0 ∧ p_Ev X (d + 1) M (pc + 3) lo (r.1.2.toList ++ rest) r.2 Q) ∨ (∃ E, r.1.1 = E + 1 ∧ ¬ (f.2.2.1 = 2 ∨ ¬ q_hh f.2.2.2.2 = []) ∧ ((∃ h, p_hnd M pc (E + 1) (q_hh M) = some h ∧ p_Ev X (d + 1) M h lo [.retAddr 0] r.2 Q) ∨ (p_hnd M pc (E + 1) (q_hh M) = none ∧ q_hh M = [] ∧ Q ((E + 1, none), r.2)))))) : p_Ev X (d + 1) M pc lo st μ Q := by
  obtain ⟨n1, r1, g1, g2⟩ := k
  obtain ⟨⟨o, v⟩, μ1⟩ := r1
  rcases g2 with ⟨z, n2, r2, g3, g4⟩ | ⟨E, z, hn, ⟨h, hh, n2, r2, g3, g4⟩ | ⟨hh, hnil, hQ⟩⟩
  · have z : o = 0 := z
    subst z
    refine ⟨n1 + n2 + 1, r2, ?_, g4⟩
    rw [p_run]
    have e1 := p_le g1 n2
    have e2 := p_le g3 n1
    rw [Nat.add_comm n2 n1] at e2
    simp only [hd, h0, h1, h2, h3, h4, hc]
    rw [if_pos hcond]
    simp only [e1]
    exact e2
  · have z : o = E + 1 := z
    subst z
    refine ⟨n1 + n2 + 1, r2, ?_, g4⟩
    rw [p_run]
    have e1 := p_le g1 n2
    have e2 := p_le g3 n1
    rw [Nat.add_comm n2 n1] at e2
    simp only [hd, h0, h1, h2, h3, h4, hc]
    rw [if_pos hcond]
    simp only [e1]
    rw [if_neg hn]
    simp only [hh]
    exact e2
  · have z : o = E + 1 := z
    subst z
    refine ⟨n1 + 1, _, ?_, hQ⟩
    rw [p_run]
    simp only [hd, h0, h1, h2, h3, h4, hc]
    rw [if_pos hcond]
    simp only [g1]
    rw [if_neg hn]
    simp only [hh]
    rw [if_pos hnil]
end EV
end
section
/-! a row an instruction, for the pure machine -/
/-- asked on the way -/
def p_ok {α : Type} (c : Prop) [Decidable c] (k : Option α) : Option α := if c then k else none
theorem p_ok_some {α : Type} {c : Prop} [Decidable c] {k : Option α} {r : α} (h : p_ok c k = some r) : c ∧ k = some r := by
  unfold p_ok at h
  split at h
  · exact ⟨by assumption, h⟩
  · cases h
theorem p_bd {α β : Type} {x : Option α} {f : α → Option β} {r : β} (h : x.bind f = some r) : ∃ q, x = some q ∧ f q = some r := by
  cases x with
  | none => cases h
  | some q => exact ⟨q, rfl, h⟩
/-- the reference in a place -/
def rf (μ : p_M) (a k : Nat) : Nat := (mR μ a k).getD 0
def p_fu : Nat := 100000
/-- texts -/
def tx_len (a : Nat) : Option Int32 := if p_E + 10 ≤ a then (match q_txt[a - p_E - 10]? with
  | some t => some (nI t.length)
  | none => none) else none
def tx_at (a : Nat) (i : Int32) : Option Int32 := if p_E + 10 ≤ a ∧ ¬ i < 0 then (match q_txt[a - p_E - 10]? with
  | some t => (match t.toList[i.toNatClampNeg]? with
    | some c => some (nI c.toNat)
    | none => none)
  | none => none) else none
section EW
variable {X : p_X} {d : Nat} {M : q_M} {pc : Nat} {lo st r : List Value} {μ : p_M} {Q : p_R → Prop}
theorem e_iconst {n : Int} {v : Int32} (hd : decode (q_cc M) pc = .ok (.iconst n, 1)) (hv : Int32.ofInt n = v) (K : p_Ev X d M (pc + 1) lo (.int v :: st) μ Q) : p_Ev X d M pc lo st μ Q := by subst hv; exact e_x hd rfl K
theorem e_bipush {n : Int} {v : Int32} (hd : decode (q_cc M) pc = .ok (.bipush n, 2)) (hv : (Int8.ofInt n).toInt32 = v) (K : p_Ev X d M (pc + 2) lo (.int v :: st) μ Q) : p_Ev X d M pc lo st μ Q := by subst hv; exact e_x hd rfl K
theorem e_sipush {n : Int} {v : Int32} (hd : decode (q_cc M) pc = .ok (.sipush n, 3)) (hv : (Int16.ofInt n).toInt32 = v) (K : p_Ev X d M (pc + 3) lo (.int v :: st) μ Q) : p_Ev X d M pc lo st μ Q := by subst hv; exact e_x hd rfl K
theorem e_lconst {n : Fin 2} {v : Int64} (hd : decode (q_cc M) pc = .ok (.lconst n, 1)) (hv : Int64.ofNat (n : Nat) = v) (K : p_Ev X d M (pc + 1) lo (.long v :: st) μ Q) : p_Ev X d M pc lo st μ Q := by subst hv; exact e_x hd rfl K
theorem e_iload_n {k : Fin 4} {x : Int32} (hd : decode (q_cc M) pc = .ok (.iload_n k, 1)) (hl : lo[(k : Nat)]? = some (.int x)) (K : p_Ev X d M (pc + 1) lo (.int x :: st) μ Q) : p_Ev X d M pc lo st μ Q := e_x hd (by show p_ild k 1 pc lo st μ = _; unfold p_ild; rw [hl]) K
theorem e_iload {k : Nat} {x : Int32} (hd : decode (q_cc M) pc = .ok (.iload k, 2)) (hl : lo[k]? = some (.int x)) (K : p_Ev X d M (pc + 2) lo (.int x :: st) μ Q) : p_Ev X d M pc lo st μ Q := e_x hd (by show p_ild k 2 pc lo st μ = _; unfold p_ild; rw [hl]) K
theorem e_aload_n {k : Fin 4} {x : Nat} (hd : decode (q_cc M) pc = .ok (.aload_n k, 1)) (hl : lo[(k : Nat)]? = some (.ref x)) (K : p_Ev X d M (pc + 1) lo (.ref x :: st) μ Q) : p_Ev X d M pc lo st μ Q := e_x hd (by show p_ald k 1 pc lo st μ = _; unfold p_ald; rw [hl]) K
theorem e_aload {k : Nat} {x : Nat} (hd : decode (q_cc M) pc = .ok (.aload k, 2)) (hl : lo[k]? = some (.ref x)) (K : p_Ev X d M (pc + 2) lo (.ref x :: st) μ Q) : p_Ev X d M pc lo st μ Q := e_x hd (by show p_ald k 2 pc lo st μ = _; unfold p_ald; rw [hl]) K
theorem e_istore_n {k : Fin 4} {x : Int32} (hd : decode (q_cc M) pc = .ok (.istore_n k, 1)) {lo' : List Value} (hk : (k : Nat) < lo.length) (hl : lo.set (k : Nat) (.int x) = lo') (K : p_Ev X d M (pc + 1) lo' st μ Q) : p_Ev X d M pc lo (.int x :: st) μ Q := by subst hl; exact e_x hd (by show p_ist k 1 pc lo (.int x :: st) μ = _; unfold p_ist; dsimp only; rw [if_pos hk]) K
theorem e_istore {k : Nat} {x : Int32} (hd : decode (q_cc M) pc = .ok (.istore k, 2)) {lo' : List Value} (hk : k < lo.length) (hl : lo.set k (.int x) = lo') (K : p_Ev X d M (pc + 2) lo' st μ Q) : p_Ev X d M pc lo (.int x :: st) μ Q := by subst hl; exact e_x hd (by show p_ist k 2 pc lo (.int x :: st) μ = _; unfold p_ist; dsimp only; rw [if_pos hk]) K
theorem e_astore_n {k : Fin 4} {x : Nat} (hd : decode (q_cc M) pc = .ok (.astore_n k, 1)) {lo' : List Value} (hk : (k : Nat) < lo.length) (hl : lo.set (k : Nat) (.ref x) = lo') (K : p_Ev X d M (pc + 1) lo' st μ Q) : p_Ev X d M pc lo (.ref x :: st) μ Q := by subst hl; exact e_x hd (by show p_ast k 1 pc lo (.ref x :: st) μ = _; unfold p_ast; dsimp only; rw [if_pos hk]) K
theorem e_astore {k : Nat} {x : Nat} (hd : decode (q_cc M) pc = .ok (.astore k, 2)) {lo' : List Value} (hk : k < lo.length) (hl : lo.set k (.ref x) = lo') (K : p_Ev X d M (pc + 2) lo' st μ Q) : p_Ev X d M pc lo (.ref x :: st) μ Q := by subst hl; exact e_x hd (by show p_ast k 2 pc lo (.ref x :: st) μ = _; unfold p_ast; dsimp only; rw [if_pos hk]) K
theorem e_iinc {k : Nat} {n : Int} {x v : Int32} (hd : decode (q_cc M) pc = .ok (.iinc k n, 3)) {lo' : List Value} (hx : lo[k]? = some (.int x)) (hv : Int32.ofInt n = v) (hl : lo.set k (.int (x + v)) = lo') (K : p_Ev X d M (pc + 3) lo' st μ Q) : p_Ev X d M pc lo st μ Q := by subst hv hl; exact e_x hd (by show p_iinc k n pc lo st μ = _; unfold p_iinc; rw [hx]) K
theorem e_iadd {x y : Int32} (hd : decode (q_cc M) pc = .ok (.iadd, 1)) (K : p_Ev X d M (pc + 1) lo (.int (x + y) :: st) μ Q) : p_Ev X d M pc lo (.int y :: .int x :: st) μ Q := e_x hd rfl K
theorem e_isub {x y : Int32} (hd : decode (q_cc M) pc = .ok (.isub, 1)) (K : p_Ev X d M (pc + 1) lo (.int (x - y) :: st) μ Q) : p_Ev X d M pc lo (.int y :: .int x :: st) μ Q := e_x hd rfl K
theorem e_imul {x y : Int32} (hd : decode (q_cc M) pc = .ok (.imul, 1)) (K : p_Ev X d M (pc + 1) lo (.int (x * y) :: st) μ Q) : p_Ev X d M pc lo (.int y :: .int x :: st) μ Q := e_x hd rfl K
theorem e_iand {x y : Int32} (hd : decode (q_cc M) pc = .ok (.iand, 1)) (K : p_Ev X d M (pc + 1) lo (.int (x &&& y) :: st) μ Q) : p_Ev X d M pc lo (.int y :: .int x :: st) μ Q := e_x hd rfl K
theorem e_ior {x y : Int32} (hd : decode (q_cc M) pc = .ok (.ior, 1)) (K : p_Ev X d M (pc + 1) lo (.int (x ||| y) :: st) μ Q) : p_Ev X d M pc lo (.int y :: .int x :: st) μ Q := e_x hd rfl K
theorem e_ixor {x y : Int32} (hd : decode (q_cc M) pc = .ok (.ixor, 1)) (K : p_Ev X d M (pc + 1) lo (.int (x ^^^ y) :: st) μ Q) : p_Ev X d M pc lo (.int y :: .int x :: st) μ Q := e_x hd rfl K
theorem e_ishl {x y : Int32} (hd : decode (q_cc M) pc = .ok (.ishl, 1)) (K : p_Ev X d M (pc + 1) lo (.int (x <<< (y &&& 31)) :: st) μ Q) : p_Ev X d M pc lo (.int y :: .int x :: st) μ Q := e_x hd rfl K
theorem e_ishr {x y : Int32} (hd : decode (q_cc M) pc = .ok (.ishr, 1)) (K : p_Ev X d M (pc + 1) lo (.int (x >>> (y &&& 31)) :: st) μ Q) : p_Ev X d M pc lo (.int y :: .int x :: st) μ Q := e_x hd rfl K
theorem e_iushr {x y : Int32} (hd : decode (q_cc M) pc = .ok (.iushr, 1)) (K : p_Ev X d M (pc + 1) lo (.int ((x.toUInt32 >>> (y.toUInt32 &&& Int32.toUInt32 31)).toInt32) :: st) μ Q) : p_Ev X d M pc lo (.int y :: .int x :: st) μ Q := e_x hd rfl K
theorem e_idiv {x y : Int32} (hd : decode (q_cc M) pc = .ok (.idiv, 1)) (hy : ¬ y = 0) (K : p_Ev X d M (pc + 1) lo (.int (x / y) :: st) μ Q) : p_Ev X d M pc lo (.int y :: .int x :: st) μ Q := e_x hd (by show (if y = 0 then none else _) = _; rw [if_neg hy]) K
theorem e_irem {x y : Int32} (hd : decode (q_cc M) pc = .ok (.irem, 1)) (hy : ¬ y = 0) (K : p_Ev X d M (pc + 1) lo (.int (x - x / y * y) :: st) μ Q) : p_Ev X d M pc lo (.int y :: .int x :: st) μ Q := e_x hd (by show (if y = 0 then none else _) = _; rw [if_neg hy]) K
theorem e_ladd {x y : Int64} (hd : decode (q_cc M) pc = .ok (.ladd, 1)) (K : p_Ev X d M (pc + 1) lo (.long (x + y) :: st) μ Q) : p_Ev X d M pc lo (.long y :: .long x :: st) μ Q := e_x hd rfl K
theorem e_lsub {x y : Int64} (hd : decode (q_cc M) pc = .ok (.lsub, 1)) (K : p_Ev X d M (pc + 1) lo (.long (x - y) :: st) μ Q) : p_Ev X d M pc lo (.long y :: .long x :: st) μ Q := e_x hd rfl K
theorem e_lmul {x y : Int64} (hd : decode (q_cc M) pc = .ok (.lmul, 1)) (K : p_Ev X d M (pc + 1) lo (.long (x * y) :: st) μ Q) : p_Ev X d M pc lo (.long y :: .long x :: st) μ Q := e_x hd rfl K
theorem e_ldiv {x y : Int64} (hd : decode (q_cc M) pc = .ok (.ldiv, 1)) (hy : ¬ y = 0) (K : p_Ev X d M (pc + 1) lo (.long (x / y) :: st) μ Q) : p_Ev X d M pc lo (.long y :: .long x :: st) μ Q := e_x hd (by show (if y = 0 then none else _) = _; rw [if_neg hy]) K
theorem e_lcmp {x y : Int64} (hd : decode (q_cc M) pc = .ok (.lcmp, 1)) (K : p_Ev X d M (pc + 1) lo (.int (lg_cmp x y) :: st) μ Q) : p_Ev X d M pc lo (.long y :: .long x :: st) μ Q := e_x hd rfl K
theorem e_i2l {x : Int32} (hd : decode (q_cc M) pc = .ok (.i2l, 1)) (K : p_Ev X d M (pc + 1) lo (.long x.toInt64 :: st) μ Q) : p_Ev X d M pc lo (.int x :: st) μ Q := e_x hd rfl K
theorem e_l2i {x : Int64} (hd : decode (q_cc M) pc = .ok (.l2i, 1)) (K : p_Ev X d M (pc + 1) lo (.int x.toInt32 :: st) μ Q) : p_Ev X d M pc lo (.long x :: st) μ Q := e_x hd rfl K
theorem e_i2b {x : Int32} (hd : decode (q_cc M) pc = .ok (.i2b, 1)) (K : p_Ev X d M (pc + 1) lo (.int x.toInt8.toInt32 :: st) μ Q) : p_Ev X d M pc lo (.int x :: st) μ Q := e_x hd rfl K
theorem e_dupI {x : Int32} (hd : decode (q_cc M) pc = .ok (.dup, 1)) (K : p_Ev X d M (pc + 1) lo (.int x :: .int x :: st) μ Q) : p_Ev X d M pc lo (.int x :: st) μ Q := e_x hd rfl K
theorem e_dupR {x : Nat} (hd : decode (q_cc M) pc = .ok (.dup, 1)) (K : p_Ev X d M (pc + 1) lo (.ref x :: .ref x :: st) μ Q) : p_Ev X d M pc lo (.ref x :: st) μ Q := e_x hd rfl K
theorem e_dup_x1 {x : Int32} {y : Nat} (hd : decode (q_cc M) pc = .ok (.dup_x1, 1)) (K : p_Ev X d M (pc + 1) lo (.int x :: .ref y :: .int x :: st) μ Q) : p_Ev X d M pc lo (.int x :: .ref y :: st) μ Q := e_x hd rfl K
theorem e_dup2 {x : Int32} {y : Nat} (hd : decode (q_cc M) pc = .ok (.dup2, 1)) (K : p_Ev X d M (pc + 1) lo (.int x :: .ref y :: .int x :: .ref y :: st) μ Q) : p_Ev X d M pc lo (.int x :: .ref y :: st) μ Q := e_x hd rfl K
theorem e_popI {x : Int32} (hd : decode (q_cc M) pc = .ok (.pop, 1)) (K : p_Ev X d M (pc + 1) lo st μ Q) : p_Ev X d M pc lo (.int x :: st) μ Q := e_x hd rfl K
theorem e_goto {off : Int} (hd : decode (q_cc M) pc = .ok (.goto off, 3)) (tgt : Nat) (ht : ¬ (pc : Int) + off < 0 ∧ ((pc : Int) + off).toNat = tgt) (K : p_Ev X d M tgt lo st μ Q) : p_Ev X d M pc lo st μ Q := by
  obtain ⟨h1, h2⟩ := ht
  subst h2
  exact e_x hd (by show p_go pc off lo st μ = _; unfold p_go; rw [if_neg h1]) K
theorem e_jT {c : Prop} [Decidable c] {off : Int} (tgt : Nat) (ht : ¬ (pc : Int) + off < 0 ∧ ((pc : Int) + off).toNat = tgt) (hc : c) : p_jmp c pc off lo st μ = some (tgt, lo, st, μ) := by unfold p_jmp; rw [if_neg ht.1, if_pos hc, ht.2]
theorem e_jF {c : Prop} [Decidable c] {off : Int} (ht : ¬ (pc : Int) + off < 0) (hc : ¬ c) : p_jmp c pc off lo st μ = some (pc + 3, lo, st, μ) := by unfold p_jmp; rw [if_neg ht, if_neg hc]
theorem e_if_eq {x : Int32} {off : Int} (hd : decode (q_cc M) pc = .ok (.ifCond .eq off, 3)) (tgt : Nat) (ht : ¬ (pc : Int) + off < 0 ∧ ((pc : Int) + off).toNat = tgt) (hT : x = 0 → p_Ev X d M tgt lo st μ Q) (hF : ¬ (x = 0) → p_Ev X d M (pc + 3) lo st μ Q) : p_Ev X d M pc lo (.int x :: st) μ Q := by
  by_cases hc : x = 0
  · exact e_x hd (e_jT tgt ht hc) (hT hc)
  · exact e_x hd (e_jF ht.1 hc) (hF hc)
theorem e_if_ne {x : Int32} {off : Int} (hd : decode (q_cc M) pc = .ok (.ifCond .ne off, 3)) (tgt : Nat) (ht : ¬ (pc : Int) + off < 0 ∧ ((pc : Int) + off).toNat = tgt) (hT : ¬ x = 0 → p_Ev X d M tgt lo st μ Q) (hF : ¬ (¬ x = 0) → p_Ev X d M (pc + 3) lo st μ Q) : p_Ev X d M pc lo (.int x :: st) μ Q := by
  by_cases hc : ¬ x = 0
  · exact e_x hd (e_jT tgt ht hc) (hT hc)
  · exact e_x hd (e_jF ht.1 hc) (hF hc)
theorem e_if_lt {x : Int32} {off : Int} (hd : decode (q_cc M) pc = .ok (.ifCond .lt off, 3)) (tgt : Nat) (ht : ¬ (pc : Int) + off < 0 ∧ ((pc : Int) + off).toNat = tgt) (hT : x < 0 → p_Ev X d M tgt lo st μ Q) (hF : ¬ (x < 0) → p_Ev X d M (pc + 3) lo st μ Q) : p_Ev X d M pc lo (.int x :: st) μ Q := by
  by_cases hc : x < 0
  · exact e_x hd (e_jT tgt ht hc) (hT hc)
  · exact e_x hd (e_jF ht.1 hc) (hF hc)
theorem e_if_ge {x : Int32} {off : Int} (hd : decode (q_cc M) pc = .ok (.ifCond .ge off, 3)) (tgt : Nat) (ht : ¬ (pc : Int) + off < 0 ∧ ((pc : Int) + off).toNat = tgt) (hT : 0 ≤ x → p_Ev X d M tgt lo st μ Q) (hF : ¬ (0 ≤ x) → p_Ev X d M (pc + 3) lo st μ Q) : p_Ev X d M pc lo (.int x :: st) μ Q := by
  by_cases hc : 0 ≤ x
  · exact e_x hd (e_jT tgt ht hc) (hT hc)
  · exact e_x hd (e_jF ht.1 hc) (hF hc)
theorem e_if_gt {x : Int32} {off : Int} (hd : decode (q_cc M) pc = .ok (.ifCond .gt off, 3)) (tgt : Nat) (ht : ¬ (pc : Int) + off < 0 ∧ ((pc : Int) + off).toNat = tgt) (hT : 0 < x → p_Ev X d M tgt lo st μ Q) (hF : ¬ (0 < x) → p_Ev X d M (pc + 3) lo st μ Q) : p_Ev X d M pc lo (.int x :: st) μ Q := by
  by_cases hc : 0 < x
  · exact e_x hd (e_jT tgt ht hc) (hT hc)
  · exact e_x hd (e_jF ht.1 hc) (hF hc)
theorem e_if_le {x : Int32} {off : Int} (hd : decode (q_cc M) pc = .ok (.ifCond .le off, 3)) (tgt : Nat) (ht : ¬ (pc : Int) + off < 0 ∧ ((pc : Int) + off).toNat = tgt) (hT : x ≤ 0 → p_Ev X d M tgt lo st μ Q) (hF : ¬ (x ≤ 0) → p_Ev X d M (pc + 3) lo st μ Q) : p_Ev X d M pc lo (.int x :: st) μ Q := by
  by_cases hc : x ≤ 0
  · exact e_x hd (e_jT tgt ht hc) (hT hc)
  · exact e_x hd (e_jF ht.1 hc) (hF hc)
theorem e_ic_eq {x y : Int32} {off : Int} (hd : decode (q_cc M) pc = .ok (.if_icmp .eq off, 3)) (tgt : Nat) (ht : ¬ (pc : Int) + off < 0 ∧ ((pc : Int) + off).toNat = tgt) (hT : x = y → p_Ev X d M tgt lo st μ Q) (hF : ¬ (x = y) → p_Ev X d M (pc + 3) lo st μ Q) : p_Ev X d M pc lo (.int y :: .int x :: st) μ Q := by
  by_cases hc : x = y
  · exact e_x hd (e_jT tgt ht hc) (hT hc)
  · exact e_x hd (e_jF ht.1 hc) (hF hc)
theorem e_ic_ne {x y : Int32} {off : Int} (hd : decode (q_cc M) pc = .ok (.if_icmp .ne off, 3)) (tgt : Nat) (ht : ¬ (pc : Int) + off < 0 ∧ ((pc : Int) + off).toNat = tgt) (hT : ¬ x = y → p_Ev X d M tgt lo st μ Q) (hF : ¬ (¬ x = y) → p_Ev X d M (pc + 3) lo st μ Q) : p_Ev X d M pc lo (.int y :: .int x :: st) μ Q := by
  by_cases hc : ¬ x = y
  · exact e_x hd (e_jT tgt ht hc) (hT hc)
  · exact e_x hd (e_jF ht.1 hc) (hF hc)
theorem e_ic_lt {x y : Int32} {off : Int} (hd : decode (q_cc M) pc = .ok (.if_icmp .lt off, 3)) (tgt : Nat) (ht : ¬ (pc : Int) + off < 0 ∧ ((pc : Int) + off).toNat = tgt) (hT : x < y → p_Ev X d M tgt lo st μ Q) (hF : ¬ (x < y) → p_Ev X d M (pc + 3) lo st μ Q) : p_Ev X d M pc lo (.int y :: .int x :: st) μ Q := by
  by_cases hc : x < y
  · exact e_x hd (e_jT tgt ht hc) (hT hc)
  · exact e_x hd (e_jF ht.1 hc) (hF hc)
theorem e_ic_ge {x y : Int32} {off : Int} (hd : decode (q_cc M) pc = .ok (.if_icmp .ge off, 3)) (tgt : Nat) (ht : ¬ (pc : Int) + off < 0 ∧ ((pc : Int) + off).toNat = tgt) (hT : y ≤ x → p_Ev X d M tgt lo st μ Q) (hF : ¬ (y ≤ x) → p_Ev X d M (pc + 3) lo st μ Q) : p_Ev X d M pc lo (.int y :: .int x :: st) μ Q := by
  by_cases hc : y ≤ x
  · exact e_x hd (e_jT tgt ht hc) (hT hc)
  · exact e_x hd (e_jF ht.1 hc) (hF hc)
theorem e_ic_gt {x y : Int32} {off : Int} (hd : decode (q_cc M) pc = .ok (.if_icmp .gt off, 3)) (tgt : Nat) (ht : ¬ (pc : Int) + off < 0 ∧ ((pc : Int) + off).toNat = tgt) (hT : y < x → p_Ev X d M tgt lo st μ Q) (hF : ¬ (y < x) → p_Ev X d M (pc + 3) lo st μ Q) : p_Ev X d M pc lo (.int y :: .int x :: st) μ Q := by
  by_cases hc : y < x
  · exact e_x hd (e_jT tgt ht hc) (hT hc)
  · exact e_x hd (e_jF ht.1 hc) (hF hc)
theorem e_ic_le {x y : Int32} {off : Int} (hd : decode (q_cc M) pc = .ok (.if_icmp .le off, 3)) (tgt : Nat) (ht : ¬ (pc : Int) + off < 0 ∧ ((pc : Int) + off).toNat = tgt) (hT : x ≤ y → p_Ev X d M tgt lo st μ Q) (hF : ¬ (x ≤ y) → p_Ev X d M (pc + 3) lo st μ Q) : p_Ev X d M pc lo (.int y :: .int x :: st) μ Q := by
  by_cases hc : x ≤ y
  · exact e_x hd (e_jT tgt ht hc) (hT hc)
  · exact e_x hd (e_jF ht.1 hc) (hF hc)
theorem e_getI {i a o' i' ci k : Nat} {b : Bool} (hd : decode (q_cc M) pc = .ok (.getfield i, 3)) (hl : q_lF (q_o M) i = some (o', i', ci, k, b)) (hr : p_isR ci k = false) (hk : mK μ a = ci) (hn : a < mN μ) (K : p_Ev X d M (pc + 3) lo (.int (mI μ a k) :: st) μ Q) : p_Ev X d M pc lo (.ref a :: st) μ Q := by
  refine e_x hd (q := (pc + 3, lo, .int (mI μ a k) :: st, μ)) ?_ K
  show p_getf M i pc lo (.ref a :: st) μ = _
  unfold p_getf
  simp only [hl]
  rw [if_pos ⟨hk, hn⟩, if_neg (by rw [hr]; decide)]
theorem e_getR {i a o' i' ci k v : Nat} {b : Bool} (hd : decode (q_cc M) pc = .ok (.getfield i, 3)) (hl : q_lF (q_o M) i = some (o', i', ci, k, b)) (hr : p_isR ci k = true) (hk : mK μ a = ci) (hn : a < mN μ) (hv : mR μ a k = some v) (K : p_Ev X d M (pc + 3) lo (.ref v :: st) μ Q) : p_Ev X d M pc lo (.ref a :: st) μ Q := by
  refine e_x hd (q := (pc + 3, lo, .ref v :: st, μ)) ?_ K
  show p_getf M i pc lo (.ref a :: st) μ = _
  unfold p_getf
  simp only [hl]
  rw [if_pos ⟨hk, hn⟩, if_pos hr, hv]
  rfl
theorem e_putI {i a o' i' ci k : Nat} {x : Int32} {b : Bool} (hd : decode (q_cc M) pc = .ok (.putfield i, 3)) (hl : q_lF (q_o M) i = some (o', i', ci, k, b)) (hr : p_isR ci k = false ∧ p_may M ci k = true ∧ (b = true → (q_T ci k).2.2.2 = false)) (hz : p_isZ ci k = true → x = 0 ∨ x = 1) (hk : mK μ a = ci) (hn : a < mN μ) (K : p_Ev X d M (pc + 3) lo st (sI μ a k x) Q) : p_Ev X d M pc lo (.int x :: .ref a :: st) μ Q := by
  refine e_x hd (q := (pc + 3, lo, st, sI μ a k x)) ?_ K
  show p_putf M i pc lo (.int x :: .ref a :: st) μ = _
  unfold p_putf
  simp only [hl]
  rw [if_pos ⟨hk, hn, hr.1, hz, hr.2.1, hr.2.2⟩]
theorem e_iald {a n : Nat} {i : Int32} (hd : decode (q_cc M) pc = .ok (.iaload, 1)) (ha : a < p_E) (hk : mK μ a = 20) (hL : mL μ a = n) (hn : a < mN μ) (hc : ¬ i < 0 ∧ i.toNatClampNeg < n) (K : p_Ev X d M (pc + 1) lo (.int (mI μ a i.toNatClampNeg) :: st) μ Q) : p_Ev X d M pc lo (.int i :: .ref a :: st) μ Q := by
  refine e_x hd (q := (pc + 1, lo, .int (mI μ a i.toNatClampNeg) :: st, μ)) ?_ K
  show p_iald X 20 pc lo (.int i :: .ref a :: st) μ = _
  unfold p_iald
  dsimp only
  rw [if_neg (Nat.not_le.mpr ha), if_pos ⟨hk, hc.1, by rw [hL]; exact hc.2, hn⟩]
theorem e_bald {a n : Nat} {i : Int32} (hd : decode (q_cc M) pc = .ok (.baload, 1)) (ha : a < p_E) (hk : mK μ a = 21) (hL : mL μ a = n) (hn : a < mN μ) (hc : ¬ i < 0 ∧ i.toNatClampNeg < n) (K : p_Ev X d M (pc + 1) lo (.int (mI μ a i.toNatClampNeg) :: st) μ Q) : p_Ev X d M pc lo (.int i :: .ref a :: st) μ Q := by
  refine e_x hd (q := (pc + 1, lo, .int (mI μ a i.toNatClampNeg) :: st, μ)) ?_ K
  show p_iald X 21 pc lo (.int i :: .ref a :: st) μ = _
  unfold p_iald
  dsimp only
  rw [if_neg (Nat.not_le.mpr ha), if_pos ⟨hk, hc.1, by rw [hL]; exact hc.2, hn⟩]
theorem e_iast {a n : Nat} {i x : Int32} (hd : decode (q_cc M) pc = .ok (.iastore, 1)) (hk : mK μ a = 20) (hL : mL μ a = n) (hn : a < mN μ) (hc : ¬ i < 0 ∧ i.toNatClampNeg < n) (K : p_Ev X d M (pc + 1) lo st (sI μ a i.toNatClampNeg x) Q) : p_Ev X d M pc lo (.int x :: .int i :: .ref a :: st) μ Q := by
  refine e_x hd (q := (pc + 1, lo, st, sI μ a i.toNatClampNeg x)) ?_ K
  show p_iast 20 pc lo (.int x :: .int i :: .ref a :: st) μ = _
  unfold p_iast
  dsimp only
  rw [if_pos ⟨hk, hc.1, by rw [hL]; exact hc.2, hn⟩, if_neg (by decide)]
theorem e_bast {a n : Nat} {i x : Int32} (hd : decode (q_cc M) pc = .ok (.bastore, 1)) (hk : mK μ a = 21) (hL : mL μ a = n) (hn : a < mN μ) (hc : ¬ i < 0 ∧ i.toNatClampNeg < n) (K : p_Ev X d M (pc + 1) lo st (sI μ a i.toNatClampNeg x.toInt8.toInt32) Q) : p_Ev X d M pc lo (.int x :: .int i :: .ref a :: st) μ Q := by
  refine e_x hd (q := (pc + 1, lo, st, sI μ a i.toNatClampNeg x.toInt8.toInt32)) ?_ K
  show p_iast 21 pc lo (.int x :: .int i :: .ref a :: st) μ = _
  unfold p_iast
  dsimp only
  rw [if_pos ⟨hk, hc.1, by rw [hL]; exact hc.2, hn⟩, if_pos rfl]
theorem e_ireti {x : Int32} (hd : decode (q_cc M) pc = .ok (.ireturn, 1)) (hr : q_rt M = some .int) (hQ : Q ((0, some (.int x)), μ)) : p_Ev X d M pc lo [.int x] μ Q := e_r hd rfl rfl (by unfold p_ret; simp only [hr, if_pos]) hQ
theorem e_iretz {x : Int32} (hd : decode (q_cc M) pc = .ok (.ireturn, 1)) (hr : q_rt M = some .boolean) (hx : x = 0 ∨ x = 1) (hQ : Q ((0, some (.int x)), μ)) : p_Ev X d M pc lo [.int x] μ Q := e_r hd rfl rfl (by unfold p_ret; simp only [hr, if_pos, hx]) hQ
theorem e_vret (hd : decode (q_cc M) pc = .ok (.return_, 1)) (hr : q_rt M = none) (hQ : Q ((0, none), μ)) : p_Ev X d M pc lo [] μ Q := e_r hd rfl rfl (by unfold p_ret; rw [if_pos ⟨rfl, rfl, hr⟩]) hQ
theorem e_max {k : Nat} {x y : Int32} (hd : decode (q_cc M) pc = .ok (.invokestatic k, 3)) (hl : q_lP (q_o M) k = some 1) (hs : p_cat st ≤ 8) (K : p_Ev X d M (pc + 3) lo (.int (if x < y then y else x) :: st) μ Q) : p_Ev X d M pc lo (.int y :: .int x :: st) μ Q :=
  e_pr (kk := 1) (as := [.int x, .int y]) (rest := st) hd rfl rfl rfl rfl (by unfold p_callP; rw [if_pos rfl]; simp only [hl]; unfold p_pop; rw [if_pos ⟨by simp, hs, rfl⟩]; rfl) rfl K
theorem e_min {k : Nat} {x y : Int32} (hd : decode (q_cc M) pc = .ok (.invokestatic k, 3)) (hl : q_lP (q_o M) k = some 2) (hs : p_cat st ≤ 8) (K : p_Ev X d M (pc + 3) lo (.int (if y < x then y else x) :: st) μ Q) : p_Ev X d M pc lo (.int y :: .int x :: st) μ Q :=
  e_pr (kk := 2) (as := [.int x, .int y]) (rest := st) hd rfl rfl rfl rfl (by unfold p_callP; rw [if_pos rfl]; simp only [hl]; unfold p_pop; rw [if_pos ⟨by simp, hs, rfl⟩]; rfl) rfl K
theorem e_fm {k : Nat} {x y : Int32} (hd : decode (q_cc M) pc = .ok (.invokestatic k, 3)) (hl : q_lP (q_o M) k = some 3) (hs : p_cat st ≤ 8) (hy : ¬ y = 0) (K : p_Ev X d M (pc + 3) lo (.int (p_fm x y) :: st) μ Q) : p_Ev X d M pc lo (.int y :: .int x :: st) μ Q :=
  e_pr (kk := 3) (as := [.int x, .int y]) (rest := st) (v := some (.int (p_fm x y))) (μ1 := μ) hd rfl rfl rfl rfl (by unfold p_callP; rw [if_pos rfl]; simp only [hl]; unfold p_pop; rw [if_pos ⟨by simp, hs, rfl⟩]; rfl) (by show (if y = 0 then none else _) = _; rw [if_neg hy]) K
/-- a call of a method that returns -/
theorem e_cS {k : Nat} {f : q_L} {as rest : List Value} (hd : decode (q_cc M) pc = .ok (.invokestatic k, 3)) (hP : q_lP (q_o M) k = none) (hl : q_lM (q_o M) k = some f) (hk : f.2.2.1 = 1) (hp : p_pop (q_na f.2.2.2.2) st = some (as, rest)) (K : p_Ev X d f.2.2.2.2 0 (p_loc f.2.2.2.2 as) [] μ (fun r => r.1.1 = 0 ∧ p_Ev X (d + 1) M (pc + 3) lo (r.1.2.toList ++ rest) r.2 Q)) : p_Ev X (d + 1) M pc lo st μ Q := by
  refine e_c (f := f) (as := as) (rest := rest) hd rfl rfl rfl rfl ?_ ?_ (Or.inl hk) ?_
  · unfold p_callP; rw [if_pos rfl]; simp only [hP]
  · unfold p_call; rw [if_pos rfl]; simp only [hl]; rw [if_pos hk, hp]; rfl
  · obtain ⟨n, r, h1, h2⟩ := K
    exact ⟨n, r, h1, Or.inl h2⟩
theorem e_cV {k a : Nat} {f : q_L} {as rest : List Value} (hd : decode (q_cc M) pc = .ok (.invokevirtual k, 3)) (hP : q_lP (q_o M) k = none) (hl : q_lM (q_o M) k = some f) (hk : f.2.2.1 = 0 ∧ q_hh f.2.2.2.2 = [] ∧ q_o f.2.2.2.2 < 15) (hp : p_pop (q_na f.2.2.2.2) st = some (.ref a :: as, rest)) (ha : mK μ a = q_o f.2.2.2.2) (hn : a < mN μ) (K : p_Ev X d f.2.2.2.2 0 (p_loc f.2.2.2.2 (.ref a :: as)) [] μ (fun r => r.1.1 = 0 ∧ p_Ev X (d + 1) M (pc + 3) lo (r.1.2.toList ++ rest) r.2 Q)) : p_Ev X (d + 1) M pc lo st μ Q := by
  refine e_c (f := f) (as := .ref a :: as) (rest := rest) hd rfl rfl rfl rfl ?_ ?_ (Or.inr hk.2.1) ?_
  · unfold p_callP; rw [if_pos rfl]; simp only [hP]
  · unfold p_call; rw [if_pos rfl]; simp only [hl]; rw [if_pos hk.1, hp]; dsimp only; rw [if_pos ⟨hn, ha, hk.2.2⟩]
  · obtain ⟨n, r, h1, h2⟩ := K
    exact ⟨n, r, h1, Or.inl h2⟩
end EW
end
