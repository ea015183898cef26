/-- a call by a link: class of the code, entry, kind, by the nest, the callee -/
abbrev q_L : Type := Nat × Nat × Nat × Bool × q_M
def q_okM (e : q_L) : Prop := (e.2.2.2.1 = false → Cond.methodLink (q_on e.1) e.2.1 (q_y e.2.2.2.2) ∈ lw_tbl) ∧ (e.2.2.2.1 = true → e.2.2.1 = 2 ∧ Cond.methodLinkNest (q_on e.1) e.2.1 (q_y e.2.2.2.2) "TrouserWash" ∈ lw_tbl) ∧ q_okY e.2.2.1 e.2.2.2.2
theorem kM_1_19 : q_okM (1, 19, 0, false, M_X0_sorts) := ⟨fun _ => (List.mem_of_getElem? (i := 1066) (by decide +kernel)), fun h => absurd h (by decide), kY_X0_sorts⟩
theorem kM_2_33 : q_okM (2, 33, 0, false, M_X10_isBlank) := ⟨fun _ => (List.mem_of_getElem? (i := 1093) (by decide +kernel)), fun h => absurd h (by decide), kY_X10_isBlank⟩
theorem kM_2_39 : q_okM (2, 39, 0, false, M_X1_readRule) := ⟨fun _ => (List.mem_of_getElem? (i := 1094) (by decide +kernel)), fun h => absurd h (by decide), kY_X1_readRule⟩
theorem kM_2_43 : q_okM (2, 43, 0, false, M_X10_goesOn) := ⟨fun _ => (List.mem_of_getElem? (i := 1119) (by decide +kernel)), fun h => absurd h (by decide), kY_X10_goesOn⟩
theorem kM_2_46 : q_okM (2, 46, 0, false, M_X10_refuseNext) := ⟨fun _ => (List.mem_of_getElem? (i := 1098) (by decide +kernel)), fun h => absurd h (by decide), kY_X10_refuseNext⟩
theorem kM_2_51 : q_okM (2, 51, 0, false, M_X10_pick) := ⟨fun _ => (List.mem_of_getElem? (i := 1100) (by decide +kernel)), fun h => absurd h (by decide), kY_X10_pick⟩
theorem kM_2_55 : q_okM (2, 55, 0, false, M_X1_readOfBath) := ⟨fun _ => (List.mem_of_getElem? (i := 1101) (by decide +kernel)), fun h => absurd h (by decide), kY_X1_readOfBath⟩
theorem kM_2_59 : q_okM (2, 59, 0, false, M_X1_readPours) := ⟨fun _ => (List.mem_of_getElem? (i := 1107) (by decide +kernel)), fun h => absurd h (by decide), kY_X1_readPours⟩
theorem kM_2_62 : q_okM (2, 62, 0, false, M_X10_number) := ⟨fun _ => (List.mem_of_getElem? (i := 1106) (by decide +kernel)), fun h => absurd h (by decide), kY_X10_number⟩
theorem kM_2_66 : q_okM (2, 66, 0, false, M_X1_readAgain) := ⟨fun _ => (List.mem_of_getElem? (i := 1112) (by decide +kernel)), fun h => absurd h (by decide), kY_X1_readAgain⟩
theorem kM_3_25 : q_okM (3, 25, 1, false, M_J7_fill_53178) := ⟨fun _ => (List.mem_of_getElem? (i := 554) (by decide +kernel)), fun h => absurd h (by decide), kY_J7_fill_53178⟩
theorem kM_3_31 : q_okM (3, 31, 0, false, M_X2_goOn) := ⟨fun _ => (List.mem_of_getElem? (i := 557) (by decide +kernel)), fun h => absurd h (by decide), kY_X2_goOn⟩
theorem kM_3_35 : q_okM (3, 35, 1, false, M_X2_lesser) := ⟨fun _ => (List.mem_of_getElem? (i := 565) (by decide +kernel)), fun h => absurd h (by decide), kY_X2_lesser⟩
theorem kM_3_39 : q_okM (3, 39, 0, false, M_X2_between) := ⟨fun _ => (List.mem_of_getElem? (i := 561) (by decide +kernel)), fun h => absurd h (by decide), kY_X2_between⟩
theorem kM_4_31 : q_okM (4, 31, 0, false, M_X3_fade) := ⟨fun _ => (List.mem_of_getElem? (i := 884) (by decide +kernel)), fun h => absurd h (by decide), kY_X3_fade⟩
theorem kM_4_35 : q_okM (4, 35, 0, false, M_X3_wear) := ⟨fun _ => (List.mem_of_getElem? (i := 889) (by decide +kernel)), fun h => absurd h (by decide), kY_X3_wear⟩
theorem kM_5_11 : q_okM (5, 11, 2, true, M_X3_init) := ⟨fun h => absurd h (by decide), fun _ => ⟨rfl, (List.mem_of_getElem? (i := 1151) (by decide +kernel))⟩, kY_X3_init⟩
theorem kM_5_51 : q_okM (5, 51, 2, false, M_X8_init) := ⟨fun _ => (List.mem_of_getElem? (i := 1154) (by decide +kernel)), fun h => absurd h (by decide), kY_X8_init⟩
theorem kM_5_65 : q_okM (5, 65, 1, false, M_J7_fill_53178) := ⟨fun _ => (List.mem_of_getElem? (i := 1155) (by decide +kernel)), fun h => absurd h (by decide), kY_J7_fill_53178⟩
theorem kM_7_40 : q_okM (7, 40, 1, false, M_J7_fill_53178) := ⟨fun _ => (List.mem_of_getElem? (i := 1490) (by decide +kernel)), fun h => absurd h (by decide), kY_J7_fill_53178⟩
theorem kM_7_46 : q_okM (7, 46, 1, false, M_X6_shadeOf) := ⟨fun _ => (List.mem_of_getElem? (i := 1491) (by decide +kernel)), fun h => absurd h (by decide), kY_X6_shadeOf⟩
theorem kM_7_50 : q_okM (7, 50, 0, false, M_X6_putInOrder) := ⟨fun _ => (List.mem_of_getElem? (i := 1486) (by decide +kernel)), fun h => absurd h (by decide), kY_X6_putInOrder⟩
theorem kM_8_25 : q_okM (8, 25, 1, false, M_J7_fill_53178) := ⟨fun _ => (List.mem_of_getElem? (i := 1533) (by decide +kernel)), fun h => absurd h (by decide), kY_J7_fill_53178⟩
theorem kM_8_31 : q_okM (8, 31, 0, false, M_X7_heatAt) := ⟨fun _ => (List.mem_of_getElem? (i := 1556) (by decide +kernel)), fun h => absurd h (by decide), kY_X7_heatAt⟩
theorem kM_8_43 : q_okM (8, 43, 0, false, M_X7_unlike) := ⟨fun _ => (List.mem_of_getElem? (i := 583) (by decide +kernel)), fun h => absurd h (by decide), kY_X7_unlike⟩
theorem kM_9_28 : q_okM (9, 28, 0, false, M_X10_isBlank) := ⟨fun _ => (List.mem_of_getElem? (i := 737) (by decide +kernel)), fun h => absurd h (by decide), kY_X10_isBlank⟩
theorem kM_9_34 : q_okM (9, 34, 0, false, M_X8_readBath) := ⟨fun _ => (List.mem_of_getElem? (i := 745) (by decide +kernel)), fun h => absurd h (by decide), kY_X8_readBath⟩
theorem kM_9_38 : q_okM (9, 38, 0, false, M_X10_goesOn) := ⟨fun _ => (List.mem_of_getElem? (i := 820) (by decide +kernel)), fun h => absurd h (by decide), kY_X10_goesOn⟩
theorem kM_9_41 : q_okM (9, 41, 0, false, M_X10_refuseNext) := ⟨fun _ => (List.mem_of_getElem? (i := 749) (by decide +kernel)), fun h => absurd h (by decide), kY_X10_refuseNext⟩
theorem kM_9_46 : q_okM (9, 46, 0, false, M_X10_pick) := ⟨fun _ => (List.mem_of_getElem? (i := 758) (by decide +kernel)), fun h => absurd h (by decide), kY_X10_pick⟩
theorem kM_9_50 : q_okM (9, 50, 0, false, M_X10_number) := ⟨fun _ => (List.mem_of_getElem? (i := 812) (by decide +kernel)), fun h => absurd h (by decide), kY_X10_number⟩
theorem kM_9_57 : q_okM (9, 57, 0, false, M_X8_add) := ⟨fun _ => (List.mem_of_getElem? (i := 816) (by decide +kernel)), fun h => absurd h (by decide), kY_X8_add⟩
theorem kM_9_61 : q_okM (9, 61, 1, false, M_X8_priceOf) := ⟨fun _ => (List.mem_of_getElem? (i := 543) (by decide +kernel)), fun h => absurd h (by decide), kY_X8_priceOf⟩
theorem kM_10_28 : q_okM (10, 28, 2, true, M_X3_init) := ⟨fun h => absurd h (by decide), fun _ => ⟨rfl, (List.mem_of_getElem? (i := 233) (by decide +kernel))⟩, kY_X3_init⟩
theorem kM_10_41 : q_okM (10, 41, 0, false, M_X3_copy) := ⟨fun _ => (List.mem_of_getElem? (i := 930) (by decide +kernel)), fun h => absurd h (by decide), kY_X3_copy⟩
theorem kM_10_51 : q_okM (10, 51, 0, false, M_X9_descend) := ⟨fun _ => (List.mem_of_getElem? (i := 932) (by decide +kernel)), fun h => absurd h (by decide), kY_X9_descend⟩
theorem kM_10_61 : q_okM (10, 61, 0, false, M_X3_surelyMeets) := ⟨fun _ => (List.mem_of_getElem? (i := 936) (by decide +kernel)), fun h => absurd h (by decide), kY_X3_surelyMeets⟩
theorem kM_10_65 : q_okM (10, 65, 0, false, M_X9_keepIfBetter) := ⟨fun _ => (List.mem_of_getElem? (i := 937) (by decide +kernel)), fun h => absurd h (by decide), kY_X9_keepIfBetter⟩
theorem kM_10_76 : q_okM (10, 76, 0, false, M_X3_take) := ⟨fun _ => (List.mem_of_getElem? (i := 946) (by decide +kernel)), fun h => absurd h (by decide), kY_X3_take⟩
theorem kM_10_79 : q_okM (10, 79, 1, false, M_X8_priceOf) := ⟨fun _ => (List.mem_of_getElem? (i := 947) (by decide +kernel)), fun h => absurd h (by decide), kY_X8_priceOf⟩
theorem kM_11_25 : q_okM (11, 25, 0, false, M_X10_skipBlanks) := ⟨fun _ => (List.mem_of_getElem? (i := 741) (by decide +kernel)), fun h => absurd h (by decide), kY_X10_skipBlanks⟩
theorem kM_11_28 : q_okM (11, 28, 0, false, M_X10_refuse) := ⟨fun _ => (List.mem_of_getElem? (i := 753) (by decide +kernel)), fun h => absurd h (by decide), kY_X10_refuse⟩
theorem kM_11_32 : q_okM (11, 32, 0, false, M_X10_placeAmong) := ⟨fun _ => (List.mem_of_getElem? (i := 762) (by decide +kernel)), fun h => absurd h (by decide), kY_X10_placeAmong⟩
theorem kM_12_25 : q_okM (12, 25, 0, false, M_X11_dirtiest) := ⟨fun _ => (List.mem_of_getElem? (i := 1003) (by decide +kernel)), fun h => absurd h (by decide), kY_X11_dirtiest⟩
theorem kM_12_35 : q_okM (12, 35, 1, false, M_X11_partUp) := ⟨fun _ => (List.mem_of_getElem? (i := 1013) (by decide +kernel)), fun h => absurd h (by decide), kY_X11_partUp⟩
theorem kM_12_47 : q_okM (12, 47, 0, false, M_X11_isDirtier) := ⟨fun _ => (List.mem_of_getElem? (i := 1008) (by decide +kernel)), fun h => absurd h (by decide), kY_X11_isDirtier⟩
theorem kM_12_54 : q_okM (12, 54, 0, false, M_X11_runOff) := ⟨fun _ => (List.mem_of_getElem? (i := 1029) (by decide +kernel)), fun h => absurd h (by decide), kY_X11_runOff⟩
theorem kM_12_64 : q_okM (12, 64, 0, false, M_X11_putIn) := ⟨fun _ => (List.mem_of_getElem? (i := 1362) (by decide +kernel)), fun h => absurd h (by decide), kY_X11_putIn⟩
theorem kM_13_9 : q_okM (13, 9, 2, true, M_X10_init) := ⟨fun h => absurd h (by decide), fun _ => ⟨rfl, (List.mem_of_getElem? (i := 128) (by decide +kernel))⟩, kY_X10_init⟩
theorem kM_13_24 : q_okM (13, 24, 2, false, M_X8_init) := ⟨fun _ => (List.mem_of_getElem? (i := 153) (by decide +kernel)), fun h => absurd h (by decide), kY_X8_init⟩
theorem kM_13_36 : q_okM (13, 36, 2, true, M_X1_init) := ⟨fun h => absurd h (by decide), fun _ => ⟨rfl, (List.mem_of_getElem? (i := 176) (by decide +kernel))⟩, kY_X1_init⟩
theorem kM_13_44 : q_okM (13, 44, 2, true, M_X3_init) := ⟨fun h => absurd h (by decide), fun _ => ⟨rfl, (List.mem_of_getElem? (i := 198) (by decide +kernel))⟩, kY_X3_init⟩
theorem kM_13_51 : q_okM (13, 51, 2, false, M_X9_init) := ⟨fun _ => (List.mem_of_getElem? (i := 228) (by decide +kernel)), fun h => absurd h (by decide), kY_X9_init⟩
theorem kM_13_58 : q_okM (13, 58, 2, true, M_X2_init) := ⟨fun h => absurd h (by decide), fun _ => ⟨rfl, (List.mem_of_getElem? (i := 262) (by decide +kernel))⟩, kY_X2_init⟩
theorem kM_13_65 : q_okM (13, 65, 2, true, M_X11_init) := ⟨fun h => absurd h (by decide), fun _ => ⟨rfl, (List.mem_of_getElem? (i := 282) (by decide +kernel))⟩, kY_X11_init⟩
theorem kM_13_72 : q_okM (13, 72, 2, true, M_X0_init) := ⟨fun h => absurd h (by decide), fun _ => ⟨rfl, (List.mem_of_getElem? (i := 321) (by decide +kernel))⟩, kY_X0_init⟩
theorem kM_13_92 : q_okM (13, 92, 2, true, M_X6_init) := ⟨fun h => absurd h (by decide), fun _ => ⟨rfl, (List.mem_of_getElem? (i := 363) (by decide +kernel))⟩, kY_X6_init⟩
theorem kM_13_99 : q_okM (13, 99, 2, true, M_X7_init) := ⟨fun h => absurd h (by decide), fun _ => ⟨rfl, (List.mem_of_getElem? (i := 401) (by decide +kernel))⟩, kY_X7_init⟩
theorem kM_13_104 : q_okM (13, 104, 2, true, M_X5_init) := ⟨fun h => absurd h (by decide), fun _ => ⟨rfl, (List.mem_of_getElem? (i := 424) (by decide +kernel))⟩, kY_X5_init⟩
theorem kM_13_105 : q_okM (13, 105, 0, false, M_X10_hasRoom) := ⟨fun _ => (List.mem_of_getElem? (i := 516) (by decide +kernel)), fun h => absurd h (by decide), kY_X10_hasRoom⟩
theorem kM_13_109 : q_okM (13, 109, 0, false, M_X10_append) := ⟨fun _ => (List.mem_of_getElem? (i := 520) (by decide +kernel)), fun h => absurd h (by decide), kY_X10_append⟩
theorem kM_13_116 : q_okM (13, 116, 1, false, M_X12_within) := ⟨fun _ => (List.mem_of_getElem? (i := 528) (by decide +kernel)), fun h => absurd h (by decide), kY_X12_within⟩
theorem kM_13_120 : q_okM (13, 120, 1, false, M_X12_need) := ⟨fun _ => (List.mem_of_getElem? (i := 627) (by decide +kernel)), fun h => absurd h (by decide), kY_X12_need⟩
theorem kM_13_127 : q_okM (13, 127, 1, false, M_X12_needRoom) := ⟨fun _ => (List.mem_of_getElem? (i := 699) (by decide +kernel)), fun h => absurd h (by decide), kY_X12_needRoom⟩
theorem kM_13_131 : q_okM (13, 131, 0, false, M_X3_begin) := ⟨fun _ => (List.mem_of_getElem? (i := 718) (by decide +kernel)), fun h => absurd h (by decide), kY_X3_begin⟩
theorem kM_13_135 : q_okM (13, 135, 0, false, M_X10_open) := ⟨fun _ => (List.mem_of_getElem? (i := 729) (by decide +kernel)), fun h => absurd h (by decide), kY_X10_open⟩
theorem kM_13_138 : q_okM (13, 138, 0, false, M_X8_read) := ⟨fun _ => (List.mem_of_getElem? (i := 733) (by decide +kernel)), fun h => absurd h (by decide), kY_X8_read⟩
theorem kM_13_146 : q_okM (13, 146, 1, false, M_X12_needIndex) := ⟨fun _ => (List.mem_of_getElem? (i := 833) (by decide +kernel)), fun h => absurd h (by decide), kY_X12_needIndex⟩
theorem kM_13_149 : q_okM (13, 149, 1, false, M_X12_needWhat) := ⟨fun _ => (List.mem_of_getElem? (i := 852) (by decide +kernel)), fun h => absurd h (by decide), kY_X12_needWhat⟩
theorem kM_13_152 : q_okM (13, 152, 0, false, M_X12_tryRecipe) := ⟨fun _ => (List.mem_of_getElem? (i := 871) (by decide +kernel)), fun h => absurd h (by decide), kY_X12_tryRecipe⟩
theorem kM_13_155 : q_okM (13, 155, 0, false, M_X3_part) := ⟨fun _ => (List.mem_of_getElem? (i := 893) (by decide +kernel)), fun h => absurd h (by decide), kY_X3_part⟩
theorem kM_13_159 : q_okM (13, 159, 0, false, M_X8_price) := ⟨fun _ => (List.mem_of_getElem? (i := 539) (by decide +kernel)), fun h => absurd h (by decide), kY_X8_price⟩
theorem kM_13_163 : q_okM (13, 163, 1, false, M_X12_needWish) := ⟨fun _ => (List.mem_of_getElem? (i := 904) (by decide +kernel)), fun h => absurd h (by decide), kY_X12_needWish⟩
theorem kM_13_166 : q_okM (13, 166, 0, false, M_X3_surelyMeets) := ⟨fun _ => (List.mem_of_getElem? (i := 907) (by decide +kernel)), fun h => absurd h (by decide), kY_X3_surelyMeets⟩
theorem kM_13_169 : q_okM (13, 169, 0, false, M_X12_searchFor) := ⟨fun _ => (List.mem_of_getElem? (i := 918) (by decide +kernel)), fun h => absurd h (by decide), kY_X12_searchFor⟩
theorem kM_13_176 : q_okM (13, 176, 0, false, M_X9_bestBath) := ⟨fun _ => (List.mem_of_getElem? (i := 955) (by decide +kernel)), fun h => absurd h (by decide), kY_X9_bestBath⟩
theorem kM_13_179 : q_okM (13, 179, 0, false, M_X2_tell) := ⟨fun _ => (List.mem_of_getElem? (i := 966) (by decide +kernel)), fun h => absurd h (by decide), kY_X2_tell⟩
theorem kM_13_182 : q_okM (13, 182, 0, false, M_X2_addBatch) := ⟨fun _ => (List.mem_of_getElem? (i := 977) (by decide +kernel)), fun h => absurd h (by decide), kY_X2_addBatch⟩
theorem kM_13_185 : q_okM (13, 185, 0, false, M_X2_leastSum) := ⟨fun _ => (List.mem_of_getElem? (i := 550) (by decide +kernel)), fun h => absurd h (by decide), kY_X2_leastSum⟩
theorem kM_13_194 : q_okM (13, 194, 0, false, M_X11_add) := ⟨fun _ => (List.mem_of_getElem? (i := 988) (by decide +kernel)), fun h => absurd h (by decide), kY_X11_add⟩
theorem kM_13_200 : q_okM (13, 200, 0, false, M_X11_takeOut) := ⟨fun _ => (List.mem_of_getElem? (i := 999) (by decide +kernel)), fun h => absurd h (by decide), kY_X11_takeOut⟩
theorem kM_13_208 : q_okM (13, 208, 0, false, M_X11_putIn) := ⟨fun _ => (List.mem_of_getElem? (i := 1024) (by decide +kernel)), fun h => absurd h (by decide), kY_X11_putIn⟩
theorem kM_13_212 : q_okM (13, 212, 0, false, M_X11_part) := ⟨fun _ => (List.mem_of_getElem? (i := 1040) (by decide +kernel)), fun h => absurd h (by decide), kY_X11_part⟩
theorem kM_13_214 : q_okM (13, 214, 0, false, M_X0_add) := ⟨fun _ => (List.mem_of_getElem? (i := 1051) (by decide +kernel)), fun h => absurd h (by decide), kY_X0_add⟩
theorem kM_13_215 : q_okM (13, 215, 0, false, M_X0_leastSpread) := ⟨fun _ => (List.mem_of_getElem? (i := 1062) (by decide +kernel)), fun h => absurd h (by decide), kY_X0_leastSpread⟩
theorem kM_13_218 : q_okM (13, 218, 0, false, M_X0_fullPacks) := ⟨fun _ => (List.mem_of_getElem? (i := 1077) (by decide +kernel)), fun h => absurd h (by decide), kY_X0_fullPacks⟩
theorem kM_13_224 : q_okM (13, 224, 0, false, M_X1_read) := ⟨fun _ => (List.mem_of_getElem? (i := 1088) (by decide +kernel)), fun h => absurd h (by decide), kY_X1_read⟩
theorem kM_13_228 : q_okM (13, 228, 0, false, M_X1_value) := ⟨fun _ => (List.mem_of_getElem? (i := 1127) (by decide +kernel)), fun h => absurd h (by decide), kY_X1_value⟩
theorem kM_13_241 : q_okM (13, 241, 2, false, M_X4_init) := ⟨fun _ => (List.mem_of_getElem? (i := 1146) (by decide +kernel)), fun h => absurd h (by decide), kY_X4_init⟩
theorem kM_13_243 : q_okM (13, 243, 0, false, M_X4_wishFor) := ⟨fun _ => (List.mem_of_getElem? (i := 1223) (by decide +kernel)), fun h => absurd h (by decide), kY_X4_wishFor⟩
theorem kM_13_247 : q_okM (13, 247, 0, false, M_X8_copy) := ⟨fun _ => (List.mem_of_getElem? (i := 1227) (by decide +kernel)), fun h => absurd h (by decide), kY_X8_copy⟩
theorem kM_13_254 : q_okM (13, 254, 0, false, M_X3_copy) := ⟨fun _ => (List.mem_of_getElem? (i := 875) (by decide +kernel)), fun h => absurd h (by decide), kY_X3_copy⟩
theorem kM_13_257 : q_okM (13, 257, 0, false, M_X12_addLot) := ⟨fun _ => (List.mem_of_getElem? (i := 1231) (by decide +kernel)), fun h => absurd h (by decide), kY_X12_addLot⟩
theorem kM_13_261 : q_okM (13, 261, 0, false, M_X12_lotAt) := ⟨fun _ => (List.mem_of_getElem? (i := 1303) (by decide +kernel)), fun h => absurd h (by decide), kY_X12_lotAt⟩
theorem kM_13_271 : q_okM (13, 271, 0, false, M_X5_enqueue) := ⟨fun _ => (List.mem_of_getElem? (i := 1307) (by decide +kernel)), fun h => absurd h (by decide), kY_X5_enqueue⟩
theorem kM_13_280 : q_okM (13, 280, 0, false, M_X12_workDay) := ⟨fun _ => (List.mem_of_getElem? (i := 1318) (by decide +kernel)), fun h => absurd h (by decide), kY_X12_workDay⟩
theorem kM_13_293 : q_okM (13, 293, 0, false, M_X4_countPlaced) := ⟨fun _ => (List.mem_of_getElem? (i := 1370) (by decide +kernel)), fun h => absurd h (by decide), kY_X4_countPlaced⟩
theorem kM_13_320 : q_okM (13, 320, 1, false, M_X12_needWashed) := ⟨fun _ => (List.mem_of_getElem? (i := 1389) (by decide +kernel)), fun h => absurd h (by decide), kY_X12_needWashed⟩
theorem kM_13_328 : q_okM (13, 328, 0, false, M_X6_tell) := ⟨fun _ => (List.mem_of_getElem? (i := 1408) (by decide +kernel)), fun h => absurd h (by decide), kY_X6_tell⟩
theorem kM_13_339 : q_okM (13, 339, 0, false, M_X12_judged) := ⟨fun _ => (List.mem_of_getElem? (i := 1419) (by decide +kernel)), fun h => absurd h (by decide), kY_X12_judged⟩
theorem kM_13_343 : q_okM (13, 343, 0, false, M_X4_isStillHere) := ⟨fun _ => (List.mem_of_getElem? (i := 1438) (by decide +kernel)), fun h => absurd h (by decide), kY_X4_isStillHere⟩
theorem kM_13_347 : q_okM (13, 347, 0, false, M_X12_sorted) := ⟨fun _ => (List.mem_of_getElem? (i := 1449) (by decide +kernel)), fun h => absurd h (by decide), kY_X12_sorted⟩
theorem kM_13_359 : q_okM (13, 359, 0, false, M_X8_setOnly) := ⟨fun _ => (List.mem_of_getElem? (i := 1450) (by decide +kernel)), fun h => absurd h (by decide), kY_X8_setOnly⟩
theorem kM_13_362 : q_okM (13, 362, 0, false, M_X12_moveDark) := ⟨fun _ => (List.mem_of_getElem? (i := 1454) (by decide +kernel)), fun h => absurd h (by decide), kY_X12_moveDark⟩
theorem kM_13_366 : q_okM (13, 366, 0, false, M_X12_findPacks) := ⟨fun _ => (List.mem_of_getElem? (i := 1466) (by decide +kernel)), fun h => absurd h (by decide), kY_X12_findPacks⟩
theorem kM_13_369 : q_okM (13, 369, 0, false, M_X6_packBegin) := ⟨fun _ => (List.mem_of_getElem? (i := 1495) (by decide +kernel)), fun h => absurd h (by decide), kY_X6_packBegin⟩
theorem kM_13_372 : q_okM (13, 372, 0, false, M_X12_deliverPack) := ⟨fun _ => (List.mem_of_getElem? (i := 1499) (by decide +kernel)), fun h => absurd h (by decide), kY_X12_deliverPack⟩
theorem kM_13_381 : q_okM (13, 381, 0, false, M_X7_beginPattern) := ⟨fun _ => (List.mem_of_getElem? (i := 1529) (by decide +kernel)), fun h => absurd h (by decide), kY_X7_beginPattern⟩
theorem kM_13_390 : q_okM (13, 390, 0, false, M_X7_setHeat) := ⟨fun _ => (List.mem_of_getElem? (i := 1541) (by decide +kernel)), fun h => absurd h (by decide), kY_X7_setHeat⟩
theorem kM_13_393 : q_okM (13, 393, 0, false, M_X7_burnOne) := ⟨fun _ => (List.mem_of_getElem? (i := 1552) (by decide +kernel)), fun h => absurd h (by decide), kY_X7_burnOne⟩
theorem kM_13_400 : q_okM (13, 400, 0, false, M_X7_unlike) := ⟨fun _ => (List.mem_of_getElem? (i := 1578) (by decide +kernel)), fun h => absurd h (by decide), kY_X7_unlike⟩
theorem kM_13_403 : q_okM (13, 403, 0, false, M_X7_bestTurn) := ⟨fun _ => (List.mem_of_getElem? (i := 579) (by decide +kernel)), fun h => absurd h (by decide), kY_X7_bestTurn⟩
theorem kM_13_412 : q_okM (13, 412, 0, false, M_X11_dirtInTanks) := ⟨fun _ => (List.mem_of_getElem? (i := 591) (by decide +kernel)), fun h => absurd h (by decide), kY_X11_dirtInTanks⟩
theorem kM_13_418 : q_okM (13, 418, 0, false, M_X12_countWashed) := ⟨fun _ => (List.mem_of_getElem? (i := 599) (by decide +kernel)), fun h => absurd h (by decide), kY_X12_countWashed⟩
theorem kM_13_467 : q_okM (13, 467, 0, false, M_X3_take) := ⟨fun _ => (List.mem_of_getElem? (i := 880) (by decide +kernel)), fun h => absurd h (by decide), kY_X3_take⟩
theorem kM_13_470 : q_okM (13, 470, 0, false, M_X9_wishFor) := ⟨fun _ => (List.mem_of_getElem? (i := 922) (by decide +kernel)), fun h => absurd h (by decide), kY_X9_wishFor⟩
theorem kM_13_471 : q_okM (13, 471, 0, false, M_X9_run) := ⟨fun _ => (List.mem_of_getElem? (i := 926) (by decide +kernel)), fun h => absurd h (by decide), kY_X9_run⟩
theorem kM_13_475 : q_okM (13, 475, 0, false, M_X12_takeNext) := ⟨fun _ => (List.mem_of_getElem? (i := 1322) (by decide +kernel)), fun h => absurd h (by decide), kY_X12_takeNext⟩
theorem kM_13_479 : q_okM (13, 479, 0, false, M_X12_doNextBath) := ⟨fun _ => (List.mem_of_getElem? (i := 1343) (by decide +kernel)), fun h => absurd h (by decide), kY_X12_doNextBath⟩
theorem kM_13_482 : q_okM (13, 482, 0, false, M_X12_firstNotBarred) := ⟨fun _ => (List.mem_of_getElem? (i := 1326) (by decide +kernel)), fun h => absurd h (by decide), kY_X12_firstNotBarred⟩
theorem kM_13_489 : q_okM (13, 489, 0, false, M_X2_between) := ⟨fun _ => (List.mem_of_getElem? (i := 1330) (by decide +kernel)), fun h => absurd h (by decide), kY_X2_between⟩
theorem kM_13_492 : q_okM (13, 492, 0, false, M_X5_takeIn) := ⟨fun _ => (List.mem_of_getElem? (i := 1331) (by decide +kernel)), fun h => absurd h (by decide), kY_X5_takeIn⟩
theorem kM_13_495 : q_okM (13, 495, 0, false, M_X11_washOut) := ⟨fun _ => (List.mem_of_getElem? (i := 1335) (by decide +kernel)), fun h => absurd h (by decide), kY_X11_washOut⟩
theorem kM_13_498 : q_okM (13, 498, 0, false, M_X12_finishIfNoneLeft) := ⟨fun _ => (List.mem_of_getElem? (i := 1339) (by decide +kernel)), fun h => absurd h (by decide), kY_X12_finishIfNoneLeft⟩
theorem kM_13_502 : q_okM (13, 502, 0, false, M_X8_bathAt) := ⟨fun _ => (List.mem_of_getElem? (i := 1347) (by decide +kernel)), fun h => absurd h (by decide), kY_X8_bathAt⟩
theorem kM_13_505 : q_okM (13, 505, 0, false, M_X8_amountAt) := ⟨fun _ => (List.mem_of_getElem? (i := 1351) (by decide +kernel)), fun h => absurd h (by decide), kY_X8_amountAt⟩
theorem kM_13_508 : q_okM (13, 508, 1, false, M_X8_soil) := ⟨fun _ => (List.mem_of_getElem? (i := 1355) (by decide +kernel)), fun h => absurd h (by decide), kY_X8_soil⟩
theorem kM_13_511 : q_okM (13, 511, 0, false, M_X11_giveBack) := ⟨fun _ => (List.mem_of_getElem? (i := 1358) (by decide +kernel)), fun h => absurd h (by decide), kY_X11_giveBack⟩
theorem kM_13_514 : q_okM (13, 514, 0, false, M_X6_shadeOn) := ⟨fun _ => (List.mem_of_getElem? (i := 1423) (by decide +kernel)), fun h => absurd h (by decide), kY_X6_shadeOn⟩
theorem kM_13_517 : q_okM (13, 517, 0, false, M_X4_judge) := ⟨fun _ => (List.mem_of_getElem? (i := 1427) (by decide +kernel)), fun h => absurd h (by decide), kY_X4_judge⟩
theorem kM_13_526 : q_okM (13, 526, 0, false, M_X6_gatherNone) := ⟨fun _ => (List.mem_of_getElem? (i := 1470) (by decide +kernel)), fun h => absurd h (by decide), kY_X6_gatherNone⟩
theorem kM_13_529 : q_okM (13, 529, 0, false, M_X12_gatherGood) := ⟨fun _ => (List.mem_of_getElem? (i := 1474) (by decide +kernel)), fun h => absurd h (by decide), kY_X12_gatherGood⟩
theorem kM_13_533 : q_okM (13, 533, 0, false, M_X6_formPacks) := ⟨fun _ => (List.mem_of_getElem? (i := 1482) (by decide +kernel)), fun h => absurd h (by decide), kY_X6_formPacks⟩
theorem kM_13_536 : q_okM (13, 536, 0, false, M_X6_gather) := ⟨fun _ => (List.mem_of_getElem? (i := 1478) (by decide +kernel)), fun h => absurd h (by decide), kY_X6_gather⟩
theorem kM_13_539 : q_okM (13, 539, 0, false, M_X6_lotOf) := ⟨fun _ => (List.mem_of_getElem? (i := 1503) (by decide +kernel)), fun h => absurd h (by decide), kY_X6_lotOf⟩
theorem kM_13_542 : q_okM (13, 542, 0, false, M_X6_pieceOf) := ⟨fun _ => (List.mem_of_getElem? (i := 1507) (by decide +kernel)), fun h => absurd h (by decide), kY_X6_pieceOf⟩
theorem kM_13_545 : q_okM (13, 545, 0, false, M_X4_setDelivered) := ⟨fun _ => (List.mem_of_getElem? (i := 1511) (by decide +kernel)), fun h => absurd h (by decide), kY_X4_setDelivered⟩
theorem kM_14_171 : q_okM (14, 171, 0, false, M_X13_isAt) := ⟨fun _ => (List.mem_of_getElem? (i := 1854) (by decide +kernel)), fun h => absurd h (by decide), kY_X13_isAt⟩
theorem kM_14_178 : q_okM (14, 178, 0, false, M_X13_blanks) := ⟨fun _ => (List.mem_of_getElem? (i := 1850) (by decide +kernel)), fun h => absurd h (by decide), kY_X13_blanks⟩
theorem kM_14_193 : q_okM (14, 193, 0, false, M_X13_isWord) := ⟨fun _ => (List.mem_of_getElem? (i := 1871) (by decide +kernel)), fun h => absurd h (by decide), kY_X13_isWord⟩
theorem kM_14_203 : q_okM (14, 203, 0, false, M_X13_word) := ⟨fun _ => (List.mem_of_getElem? (i := 1862) (by decide +kernel)), fun h => absurd h (by decide), kY_X13_word⟩
theorem kM_14_206 : q_okM (14, 206, 0, false, M_X13_bathOf) := ⟨fun _ => (List.mem_of_getElem? (i := 1866) (by decide +kernel)), fun h => absurd h (by decide), kY_X13_bathOf⟩
theorem kM_14_209 : q_okM (14, 209, 0, false, M_X13_readBath) := ⟨fun _ => (List.mem_of_getElem? (i := 1858) (by decide +kernel)), fun h => absurd h (by decide), kY_X13_readBath⟩
theorem kM_14_212 : q_okM (14, 212, 0, false, M_X13_number) := ⟨fun _ => (List.mem_of_getElem? (i := 1880) (by decide +kernel)), fun h => absurd h (by decide), kY_X13_number⟩
theorem kM_14_216 : q_okM (14, 216, 0, false, M_X13_uses) := ⟨fun _ => (List.mem_of_getElem? (i := 1842) (by decide +kernel)), fun h => absurd h (by decide), kY_X13_uses⟩
theorem kM_14_219 : q_okM (14, 219, 0, false, M_X13_readRecipe) := ⟨fun _ => (List.mem_of_getElem? (i := 1846) (by decide +kernel)), fun h => absurd h (by decide), kY_X13_readRecipe⟩
theorem kM_14_223 : q_okM (14, 223, 0, false, M_X13_throwsIf) := ⟨fun _ => (List.mem_of_getElem? (i := 1884) (by decide +kernel)), fun h => absurd h (by decide), kY_X13_throwsIf⟩
theorem kM_14_227 : q_okM (14, 227, 0, false, M_X13_copies) := ⟨fun _ => (List.mem_of_getElem? (i := 1888) (by decide +kernel)), fun h => absurd h (by decide), kY_X13_copies⟩
theorem kM_14_234 : q_okM (14, 234, 1, false, M_X13_in) := ⟨fun _ => (List.mem_of_getElem? (i := 1900) (by decide +kernel)), fun h => absurd h (by decide), kY_X13_in⟩
theorem kM_14_244 : q_okM (14, 244, 0, false, M_X13_less) := ⟨fun _ => (List.mem_of_getElem? (i := 1923) (by decide +kernel)), fun h => absurd h (by decide), kY_X13_less⟩
theorem kM_14_248 : q_okM (14, 248, 0, false, M_X13_begins) := ⟨fun _ => (List.mem_of_getElem? (i := 1915) (by decide +kernel)), fun h => absurd h (by decide), kY_X13_begins⟩
theorem kM_14_251 : q_okM (14, 251, 0, false, M_X13_does) := ⟨fun _ => (List.mem_of_getElem? (i := 1919) (by decide +kernel)), fun h => absurd h (by decide), kY_X13_does⟩
theorem kM_14_255 : q_okM (14, 255, 0, false, M_X13_noCloth) := ⟨fun _ => (List.mem_of_getElem? (i := 1907) (by decide +kernel)), fun h => absurd h (by decide), kY_X13_noCloth⟩
theorem kM_14_259 : q_okM (14, 259, 0, false, M_X13_tries) := ⟨fun _ => (List.mem_of_getElem? (i := 1911) (by decide +kernel)), fun h => absurd h (by decide), kY_X13_tries⟩
theorem kM_14_262 : q_okM (14, 262, 1, false, M_X13_costOf) := ⟨fun _ => (List.mem_of_getElem? (i := 1932) (by decide +kernel)), fun h => absurd h (by decide), kY_X13_costOf⟩
theorem kM_14_265 : q_okM (14, 265, 1, false, M_X13_noWish) := ⟨fun _ => (List.mem_of_getElem? (i := 1939) (by decide +kernel)), fun h => absurd h (by decide), kY_X13_noWish⟩
theorem kM_14_268 : q_okM (14, 268, 0, false, M_X13_meetsIt) := ⟨fun _ => (List.mem_of_getElem? (i := 1942) (by decide +kernel)), fun h => absurd h (by decide), kY_X13_meetsIt⟩
theorem kM_14_287 : q_okM (14, 287, 1, false, M_X13_usual) := ⟨fun _ => (List.mem_of_getElem? (i := 1958) (by decide +kernel)), fun h => absurd h (by decide), kY_X13_usual⟩
theorem kM_14_291 : q_okM (14, 291, 0, false, M_X13_seeks) := ⟨fun _ => (List.mem_of_getElem? (i := 1954) (by decide +kernel)), fun h => absurd h (by decide), kY_X13_seeks⟩
theorem kM_14_294 : q_okM (14, 294, 0, false, M_X13_cheapestOf) := ⟨fun _ => (List.mem_of_getElem? (i := 1950) (by decide +kernel)), fun h => absurd h (by decide), kY_X13_cheapestOf⟩
theorem kM_14_298 : q_okM (14, 298, 1, false, M_X13_noKind) := ⟨fun _ => (List.mem_of_getElem? (i := 1969) (by decide +kernel)), fun h => absurd h (by decide), kY_X13_noKind⟩
theorem kM_14_319 : q_okM (14, 319, 0, false, M_X13_dirtiest) := ⟨fun _ => (List.mem_of_getElem? (i := 1998) (by decide +kernel)), fun h => absurd h (by decide), kY_X13_dirtiest⟩
theorem kM_14_334 : q_okM (14, 334, 0, false, M_X13_draws) := ⟨fun _ => (List.mem_of_getElem? (i := 1994) (by decide +kernel)), fun h => absurd h (by decide), kY_X13_draws⟩
theorem kM_14_341 : q_okM (14, 341, 0, false, M_X13_pours) := ⟨fun _ => (List.mem_of_getElem? (i := 2008) (by decide +kernel)), fun h => absurd h (by decide), kY_X13_pours⟩
theorem kM_14_347 : q_okM (14, 347, 0, false, M_X13_sortsFor) := ⟨fun _ => (List.mem_of_getElem? (i := 2024) (by decide +kernel)), fun h => absurd h (by decide), kY_X13_sortsFor⟩
theorem kM_14_354 : q_okM (14, 354, 0, false, M_X13_sets) := ⟨fun _ => (List.mem_of_getElem? (i := 2049) (by decide +kernel)), fun h => absurd h (by decide), kY_X13_sets⟩
theorem kM_14_365 : q_okM (14, 365, 0, false, M_X13_readPours) := ⟨fun _ => (List.mem_of_getElem? (i := 2055) (by decide +kernel)), fun h => absurd h (by decide), kY_X13_readPours⟩
theorem kM_14_372 : q_okM (14, 372, 0, false, M_X13_readAgain) := ⟨fun _ => (List.mem_of_getElem? (i := 2063) (by decide +kernel)), fun h => absurd h (by decide), kY_X13_readAgain⟩
theorem kM_14_379 : q_okM (14, 379, 0, false, M_X13_asAtFirst) := ⟨fun _ => (List.mem_of_getElem? (i := 2040) (by decide +kernel)), fun h => absurd h (by decide), kY_X13_asAtFirst⟩
theorem kM_14_382 : q_okM (14, 382, 0, false, M_X13_readRule) := ⟨fun _ => (List.mem_of_getElem? (i := 2044) (by decide +kernel)), fun h => absurd h (by decide), kY_X13_readRule⟩
theorem kM_14_385 : q_okM (14, 385, 0, false, M_X13_readHouse) := ⟨fun _ => (List.mem_of_getElem? (i := 2036) (by decide +kernel)), fun h => absurd h (by decide), kY_X13_readHouse⟩
theorem kM_14_397 : q_okM (14, 397, 0, false, M_X13_adds) := ⟨fun _ => (List.mem_of_getElem? (i := 2083) (by decide +kernel)), fun h => absurd h (by decide), kY_X13_adds⟩
theorem kM_14_401 : q_okM (14, 401, 0, false, M_X13_noLot) := ⟨fun _ => (List.mem_of_getElem? (i := 2091) (by decide +kernel)), fun h => absurd h (by decide), kY_X13_noLot⟩
theorem kM_14_404 : q_okM (14, 404, 0, false, M_X13_noMachine) := ⟨fun _ => (List.mem_of_getElem? (i := 2095) (by decide +kernel)), fun h => absurd h (by decide), kY_X13_noMachine⟩
theorem kM_14_413 : q_okM (14, 413, 0, false, M_X13_bathes) := ⟨fun _ => (List.mem_of_getElem? (i := 2107) (by decide +kernel)), fun h => absurd h (by decide), kY_X13_bathes⟩
theorem kM_14_417 : q_okM (14, 417, 0, false, M_X13_washes) := ⟨fun _ => (List.mem_of_getElem? (i := 2111) (by decide +kernel)), fun h => absurd h (by decide), kY_X13_washes⟩
theorem kM_14_420 : q_okM (14, 420, 0, false, M_X13_nextFor) := ⟨fun _ => (List.mem_of_getElem? (i := 2115) (by decide +kernel)), fun h => absurd h (by decide), kY_X13_nextFor⟩
theorem kM_14_423 : q_okM (14, 423, 0, false, M_X13_step) := ⟨fun _ => (List.mem_of_getElem? (i := 2103) (by decide +kernel)), fun h => absurd h (by decide), kY_X13_step⟩
theorem kM_14_426 : q_okM (14, 426, 0, false, M_X13_piecesOf) := ⟨fun _ => (List.mem_of_getElem? (i := 2123) (by decide +kernel)), fun h => absurd h (by decide), kY_X13_piecesOf⟩
theorem kM_14_429 : q_okM (14, 429, 0, false, M_X13_noPiece) := ⟨fun _ => (List.mem_of_getElem? (i := 2135) (by decide +kernel)), fun h => absurd h (by decide), kY_X13_noPiece⟩
theorem kM_14_438 : q_okM (14, 438, 0, false, M_X13_shadeOf) := ⟨fun _ => (List.mem_of_getElem? (i := 2147) (by decide +kernel)), fun h => absurd h (by decide), kY_X13_shadeOf⟩
theorem kM_14_441 : q_okM (14, 441, 0, false, M_X13_knownOf) := ⟨fun _ => (List.mem_of_getElem? (i := 2143) (by decide +kernel)), fun h => absurd h (by decide), kY_X13_knownOf⟩
theorem kM_14_444 : q_okM (14, 444, 0, false, M_X13_sortedOf) := ⟨fun _ => (List.mem_of_getElem? (i := 2155) (by decide +kernel)), fun h => absurd h (by decide), kY_X13_sortedOf⟩
theorem kM_14_453 : q_okM (14, 453, 0, false, M_X13_gathers) := ⟨fun _ => (List.mem_of_getElem? (i := 2167) (by decide +kernel)), fun h => absurd h (by decide), kY_X13_gathers⟩
theorem kM_14_456 : q_okM (14, 456, 0, false, M_X13_packsOf) := ⟨fun _ => (List.mem_of_getElem? (i := 2171) (by decide +kernel)), fun h => absurd h (by decide), kY_X13_packsOf⟩
theorem kM_14_465 : q_okM (14, 465, 0, false, M_X13_seamOf) := ⟨fun _ => (List.mem_of_getElem? (i := 2200) (by decide +kernel)), fun h => absurd h (by decide), kY_X13_seamOf⟩
theorem kM_20_7 : q_okM (20, 7, 0, false, M_X12_cloth) := ⟨fun _ => (List.mem_of_getElem? (i := 623) (by decide +kernel)), fun h => absurd h (by decide), kY_X12_cloth⟩
theorem kM_20_17 : q_okM (20, 17, 0, false, M_X12_recipe) := ⟨fun _ => (List.mem_of_getElem? (i := 725) (by decide +kernel)), fun h => absurd h (by decide), kY_X12_recipe⟩
theorem kM_20_21 : q_okM (20, 21, 0, false, M_X12_look) := ⟨fun _ => (List.mem_of_getElem? (i := 829) (by decide +kernel)), fun h => absurd h (by decide), kY_X12_look⟩
theorem kM_20_28 : q_okM (20, 28, 0, false, M_X12_meets) := ⟨fun _ => (List.mem_of_getElem? (i := 900) (by decide +kernel)), fun h => absurd h (by decide), kY_X12_meets⟩
theorem kM_20_32 : q_okM (20, 32, 0, false, M_X12_cheapest) := ⟨fun _ => (List.mem_of_getElem? (i := 914) (by decide +kernel)), fun h => absurd h (by decide), kY_X12_cheapest⟩
theorem kM_20_36 : q_okM (20, 36, 0, false, M_X12_bath) := ⟨fun _ => (List.mem_of_getElem? (i := 951) (by decide +kernel)), fun h => absurd h (by decide), kY_X12_bath⟩
theorem kM_20_40 : q_okM (20, 40, 0, false, M_X12_carry) := ⟨fun _ => (List.mem_of_getElem? (i := 962) (by decide +kernel)), fun h => absurd h (by decide), kY_X12_carry⟩
theorem kM_20_44 : q_okM (20, 44, 0, false, M_X12_batch) := ⟨fun _ => (List.mem_of_getElem? (i := 973) (by decide +kernel)), fun h => absurd h (by decide), kY_X12_batch⟩
theorem kM_20_48 : q_okM (20, 48, 0, false, M_X12_tank) := ⟨fun _ => (List.mem_of_getElem? (i := 984) (by decide +kernel)), fun h => absurd h (by decide), kY_X12_tank⟩
theorem kM_20_51 : q_okM (20, 51, 0, false, M_X12_draw) := ⟨fun _ => (List.mem_of_getElem? (i := 995) (by decide +kernel)), fun h => absurd h (by decide), kY_X12_draw⟩
theorem kM_20_55 : q_okM (20, 55, 0, false, M_X12_pour) := ⟨fun _ => (List.mem_of_getElem? (i := 1019) (by decide +kernel)), fun h => absurd h (by decide), kY_X12_pour⟩
theorem kM_20_58 : q_okM (20, 58, 0, false, M_X12_has) := ⟨fun _ => (List.mem_of_getElem? (i := 1036) (by decide +kernel)), fun h => absurd h (by decide), kY_X12_has⟩
theorem kM_20_61 : q_okM (20, 61, 0, false, M_X12_garment) := ⟨fun _ => (List.mem_of_getElem? (i := 1047) (by decide +kernel)), fun h => absurd h (by decide), kY_X12_garment⟩
theorem kM_20_64 : q_okM (20, 64, 0, false, M_X12_spread) := ⟨fun _ => (List.mem_of_getElem? (i := 1058) (by decide +kernel)), fun h => absurd h (by decide), kY_X12_spread⟩
theorem kM_20_67 : q_okM (20, 67, 0, false, M_X12_packs) := ⟨fun _ => (List.mem_of_getElem? (i := 1073) (by decide +kernel)), fun h => absurd h (by decide), kY_X12_packs⟩
theorem kM_20_71 : q_okM (20, 71, 0, false, M_X12_house) := ⟨fun _ => (List.mem_of_getElem? (i := 1084) (by decide +kernel)), fun h => absurd h (by decide), kY_X12_house⟩
theorem kM_20_74 : q_okM (20, 74, 0, false, M_X12_tells) := ⟨fun _ => (List.mem_of_getElem? (i := 1123) (by decide +kernel)), fun h => absurd h (by decide), kY_X12_tells⟩
theorem kM_20_77 : q_okM (20, 77, 0, false, M_X12_machine) := ⟨fun _ => (List.mem_of_getElem? (i := 1134) (by decide +kernel)), fun h => absurd h (by decide), kY_X12_machine⟩
theorem kM_20_80 : q_okM (20, 80, 0, false, M_X12_lot) := ⟨fun _ => (List.mem_of_getElem? (i := 1141) (by decide +kernel)), fun h => absurd h (by decide), kY_X12_lot⟩
theorem kM_20_84 : q_okM (20, 84, 0, false, M_X12_load) := ⟨fun _ => (List.mem_of_getElem? (i := 1299) (by decide +kernel)), fun h => absurd h (by decide), kY_X12_load⟩
theorem kM_20_88 : q_okM (20, 88, 0, false, M_X12_days) := ⟨fun _ => (List.mem_of_getElem? (i := 1314) (by decide +kernel)), fun h => absurd h (by decide), kY_X12_days⟩
theorem kM_20_91 : q_okM (20, 91, 0, false, M_X12_led) := ⟨fun _ => (List.mem_of_getElem? (i := 1366) (by decide +kernel)), fun h => absurd h (by decide), kY_X12_led⟩
theorem kM_20_94 : q_okM (20, 94, 0, false, M_X12_works) := ⟨fun _ => (List.mem_of_getElem? (i := 1377) (by decide +kernel)), fun h => absurd h (by decide), kY_X12_works⟩
theorem kM_20_97 : q_okM (20, 97, 0, false, M_X12_measure) := ⟨fun _ => (List.mem_of_getElem? (i := 1385) (by decide +kernel)), fun h => absurd h (by decide), kY_X12_measure⟩
theorem kM_20_102 : q_okM (20, 102, 0, false, M_X12_known) := ⟨fun _ => (List.mem_of_getElem? (i := 1415) (by decide +kernel)), fun h => absurd h (by decide), kY_X12_known⟩
theorem kM_20_105 : q_okM (20, 105, 0, false, M_X12_sorted) := ⟨fun _ => (List.mem_of_getElem? (i := 1434) (by decide +kernel)), fun h => absurd h (by decide), kY_X12_sorted⟩
theorem kM_20_108 : q_okM (20, 108, 0, false, M_X12_again) := ⟨fun _ => (List.mem_of_getElem? (i := 1445) (by decide +kernel)), fun h => absurd h (by decide), kY_X12_again⟩
theorem kM_20_111 : q_okM (20, 111, 0, false, M_X12_deliver) := ⟨fun _ => (List.mem_of_getElem? (i := 1462) (by decide +kernel)), fun h => absurd h (by decide), kY_X12_deliver⟩
theorem kM_20_114 : q_okM (20, 114, 0, false, M_X12_ready) := ⟨fun _ => (List.mem_of_getElem? (i := 1518) (by decide +kernel)), fun h => absurd h (by decide), kY_X12_ready⟩
theorem kM_20_117 : q_okM (20, 117, 0, false, M_X12_pattern) := ⟨fun _ => (List.mem_of_getElem? (i := 1525) (by decide +kernel)), fun h => absurd h (by decide), kY_X12_pattern⟩
theorem kM_20_121 : q_okM (20, 121, 0, false, M_X12_heat) := ⟨fun _ => (List.mem_of_getElem? (i := 1537) (by decide +kernel)), fun h => absurd h (by decide), kY_X12_heat⟩
theorem kM_20_125 : q_okM (20, 125, 0, false, M_X12_burn) := ⟨fun _ => (List.mem_of_getElem? (i := 1548) (by decide +kernel)), fun h => absurd h (by decide), kY_X12_burn⟩
theorem kM_20_128 : q_okM (20, 128, 0, false, M_X12_burned) := ⟨fun _ => (List.mem_of_getElem? (i := 1567) (by decide +kernel)), fun h => absurd h (by decide), kY_X12_burned⟩
theorem kM_20_131 : q_okM (20, 131, 0, false, M_X12_seam) := ⟨fun _ => (List.mem_of_getElem? (i := 1574) (by decide +kernel)), fun h => absurd h (by decide), kY_X12_seam⟩
theorem kM_20_134 : q_okM (20, 134, 2, false, M_X12_init) := ⟨fun _ => (List.mem_of_getElem? (i := 120) (by decide +kernel)), fun h => absurd h (by decide), kY_X12_init⟩
theorem kM_20_137 : q_okM (20, 137, 2, false, M_X13_init) := ⟨fun _ => (List.mem_of_getElem? (i := 1581) (by decide +kernel)), fun h => absurd h (by decide), kY_X13_init⟩
theorem kM_20_138 : q_okM (20, 138, 0, false, M_X12_feed) := ⟨fun _ => (List.mem_of_getElem? (i := 512) (by decide +kernel)), fun h => absurd h (by decide), kY_X12_feed⟩
theorem kM_20_141 : q_okM (20, 141, 0, false, M_X13_feed) := ⟨fun _ => (List.mem_of_getElem? (i := 1830) (by decide +kernel)), fun h => absurd h (by decide), kY_X13_feed⟩
theorem kM_20_142 : q_okM (20, 142, 0, false, M_X12_end) := ⟨fun _ => (List.mem_of_getElem? (i := 524) (by decide +kernel)), fun h => absurd h (by decide), kY_X12_end⟩
theorem kM_20_146 : q_okM (20, 146, 0, false, M_X13_end) := ⟨fun _ => (List.mem_of_getElem? (i := 1834) (by decide +kernel)), fun h => absurd h (by decide), kY_X13_end⟩
theorem kM_20_147 : q_okM (20, 147, 1, false, M_L_cloth) := ⟨fun _ => (List.mem_of_getElem? (i := 618) (by decide +kernel)), fun h => absurd h (by decide), kY_L_cloth⟩
theorem kM_20_152 : q_okM (20, 152, 0, false, M_X13_cloth) := ⟨fun _ => (List.mem_of_getElem? (i := 1896) (by decide +kernel)), fun h => absurd h (by decide), kY_X13_cloth⟩
theorem kM_20_153 : q_okM (20, 153, 0, false, M_X13_thrown) := ⟨fun _ => (List.mem_of_getElem? (i := 1826) (by decide +kernel)), fun h => absurd h (by decide), kY_X13_thrown⟩
theorem kM_20_156 : q_okM (20, 156, 1, false, M_L_recipe) := ⟨fun _ => (List.mem_of_getElem? (i := 722) (by decide +kernel)), fun h => absurd h (by decide), kY_L_recipe⟩
theorem kM_20_159 : q_okM (20, 159, 0, false, M_X13_recipe) := ⟨fun _ => (List.mem_of_getElem? (i := 1838) (by decide +kernel)), fun h => absurd h (by decide), kY_X13_recipe⟩
theorem kM_20_160 : q_okM (20, 160, 0, false, M_X12_fault) := ⟨fun _ => (List.mem_of_getElem? (i := 531) (by decide +kernel)), fun h => absurd h (by decide), kY_X12_fault⟩
theorem kM_20_163 : q_okM (20, 163, 0, false, M_X13_fault) := ⟨fun _ => (List.mem_of_getElem? (i := 1892) (by decide +kernel)), fun h => absurd h (by decide), kY_X13_fault⟩
theorem kM_20_164 : q_okM (20, 164, 1, false, M_L_look) := ⟨fun _ => (List.mem_of_getElem? (i := 824) (by decide +kernel)), fun h => absurd h (by decide), kY_L_look⟩
theorem kM_20_166 : q_okM (20, 166, 0, false, M_X13_look) := ⟨fun _ => (List.mem_of_getElem? (i := 1903) (by decide +kernel)), fun h => absurd h (by decide), kY_X13_look⟩
theorem kM_20_167 : q_okM (20, 167, 0, false, M_X12_cost) := ⟨fun _ => (List.mem_of_getElem? (i := 535) (by decide +kernel)), fun h => absurd h (by decide), kY_X12_cost⟩
theorem kM_20_170 : q_okM (20, 170, 0, false, M_X13_cost) := ⟨fun _ => (List.mem_of_getElem? (i := 1928) (by decide +kernel)), fun h => absurd h (by decide), kY_X13_cost⟩
theorem kM_20_171 : q_okM (20, 171, 1, false, M_L_meets) := ⟨fun _ => (List.mem_of_getElem? (i := 897) (by decide +kernel)), fun h => absurd h (by decide), kY_L_meets⟩
theorem kM_20_174 : q_okM (20, 174, 0, false, M_X13_meets) := ⟨fun _ => (List.mem_of_getElem? (i := 1935) (by decide +kernel)), fun h => absurd h (by decide), kY_X13_meets⟩
theorem kM_20_175 : q_okM (20, 175, 1, false, M_L_cheapest) := ⟨fun _ => (List.mem_of_getElem? (i := 911) (by decide +kernel)), fun h => absurd h (by decide), kY_L_cheapest⟩
theorem kM_20_178 : q_okM (20, 178, 0, false, M_X13_cheapest) := ⟨fun _ => (List.mem_of_getElem? (i := 1946) (by decide +kernel)), fun h => absurd h (by decide), kY_X13_cheapest⟩
theorem kM_20_179 : q_okM (20, 179, 1, false, M_L_bath) := ⟨fun _ => (List.mem_of_getElem? (i := 948) (by decide +kernel)), fun h => absurd h (by decide), kY_L_bath⟩
theorem kM_20_182 : q_okM (20, 182, 0, false, M_X13_bath) := ⟨fun _ => (List.mem_of_getElem? (i := 1961) (by decide +kernel)), fun h => absurd h (by decide), kY_X13_bath⟩
theorem kM_20_183 : q_okM (20, 183, 1, false, M_L_carry) := ⟨fun _ => (List.mem_of_getElem? (i := 959) (by decide +kernel)), fun h => absurd h (by decide), kY_L_carry⟩
theorem kM_20_186 : q_okM (20, 186, 0, false, M_X13_carry) := ⟨fun _ => (List.mem_of_getElem? (i := 1965) (by decide +kernel)), fun h => absurd h (by decide), kY_X13_carry⟩
theorem kM_20_187 : q_okM (20, 187, 1, false, M_L_batch) := ⟨fun _ => (List.mem_of_getElem? (i := 970) (by decide +kernel)), fun h => absurd h (by decide), kY_L_batch⟩
theorem kM_20_190 : q_okM (20, 190, 0, false, M_X13_batch) := ⟨fun _ => (List.mem_of_getElem? (i := 1972) (by decide +kernel)), fun h => absurd h (by decide), kY_X13_batch⟩
theorem kM_20_191 : q_okM (20, 191, 0, false, M_X12_order) := ⟨fun _ => (List.mem_of_getElem? (i := 546) (by decide +kernel)), fun h => absurd h (by decide), kY_X12_order⟩
theorem kM_20_194 : q_okM (20, 194, 0, false, M_X13_order) := ⟨fun _ => (List.mem_of_getElem? (i := 1976) (by decide +kernel)), fun h => absurd h (by decide), kY_X13_order⟩
theorem kM_20_195 : q_okM (20, 195, 0, false, M_X12_clear) := ⟨fun _ => (List.mem_of_getElem? (i := 571) (by decide +kernel)), fun h => absurd h (by decide), kY_X12_clear⟩
theorem kM_20_198 : q_okM (20, 198, 0, false, M_X13_clear) := ⟨fun _ => (List.mem_of_getElem? (i := 1982) (by decide +kernel)), fun h => absurd h (by decide), kY_X13_clear⟩
theorem kM_20_199 : q_okM (20, 199, 1, false, M_L_tank) := ⟨fun _ => (List.mem_of_getElem? (i := 981) (by decide +kernel)), fun h => absurd h (by decide), kY_L_tank⟩
theorem kM_20_201 : q_okM (20, 201, 0, false, M_X13_tank) := ⟨fun _ => (List.mem_of_getElem? (i := 1986) (by decide +kernel)), fun h => absurd h (by decide), kY_X13_tank⟩
theorem kM_20_202 : q_okM (20, 202, 1, false, M_L_draw) := ⟨fun _ => (List.mem_of_getElem? (i := 992) (by decide +kernel)), fun h => absurd h (by decide), kY_L_draw⟩
theorem kM_20_205 : q_okM (20, 205, 0, false, M_X13_draw) := ⟨fun _ => (List.mem_of_getElem? (i := 1990) (by decide +kernel)), fun h => absurd h (by decide), kY_X13_draw⟩
theorem kM_20_206 : q_okM (20, 206, 1, false, M_L_pour) := ⟨fun _ => (List.mem_of_getElem? (i := 1016) (by decide +kernel)), fun h => absurd h (by decide), kY_L_pour⟩
theorem kM_20_208 : q_okM (20, 208, 0, false, M_X13_pour) := ⟨fun _ => (List.mem_of_getElem? (i := 2003) (by decide +kernel)), fun h => absurd h (by decide), kY_X13_pour⟩
theorem kM_20_209 : q_okM (20, 209, 1, false, M_L_has) := ⟨fun _ => (List.mem_of_getElem? (i := 1033) (by decide +kernel)), fun h => absurd h (by decide), kY_L_has⟩
theorem kM_20_211 : q_okM (20, 211, 0, false, M_X13_has) := ⟨fun _ => (List.mem_of_getElem? (i := 2012) (by decide +kernel)), fun h => absurd h (by decide), kY_X13_has⟩
theorem kM_20_212 : q_okM (20, 212, 1, false, M_L_garment) := ⟨fun _ => (List.mem_of_getElem? (i := 1044) (by decide +kernel)), fun h => absurd h (by decide), kY_L_garment⟩
theorem kM_20_214 : q_okM (20, 214, 0, false, M_X13_garment) := ⟨fun _ => (List.mem_of_getElem? (i := 2016) (by decide +kernel)), fun h => absurd h (by decide), kY_X13_garment⟩
theorem kM_20_215 : q_okM (20, 215, 1, false, M_L_spread) := ⟨fun _ => (List.mem_of_getElem? (i := 1055) (by decide +kernel)), fun h => absurd h (by decide), kY_L_spread⟩
theorem kM_20_217 : q_okM (20, 217, 0, false, M_X13_spread) := ⟨fun _ => (List.mem_of_getElem? (i := 2020) (by decide +kernel)), fun h => absurd h (by decide), kY_X13_spread⟩
theorem kM_20_218 : q_okM (20, 218, 1, false, M_L_packs) := ⟨fun _ => (List.mem_of_getElem? (i := 1070) (by decide +kernel)), fun h => absurd h (by decide), kY_L_packs⟩
theorem kM_20_221 : q_okM (20, 221, 0, false, M_X13_packs) := ⟨fun _ => (List.mem_of_getElem? (i := 2028) (by decide +kernel)), fun h => absurd h (by decide), kY_X13_packs⟩
theorem kM_20_222 : q_okM (20, 222, 1, false, M_L_house) := ⟨fun _ => (List.mem_of_getElem? (i := 1081) (by decide +kernel)), fun h => absurd h (by decide), kY_L_house⟩
theorem kM_20_224 : q_okM (20, 224, 0, false, M_X13_house) := ⟨fun _ => (List.mem_of_getElem? (i := 2032) (by decide +kernel)), fun h => absurd h (by decide), kY_X13_house⟩
theorem kM_20_225 : q_okM (20, 225, 1, false, M_L_tells) := ⟨fun _ => (List.mem_of_getElem? (i := 1120) (by decide +kernel)), fun h => absurd h (by decide), kY_L_tells⟩
theorem kM_20_227 : q_okM (20, 227, 0, false, M_X13_tells) := ⟨fun _ => (List.mem_of_getElem? (i := 2071) (by decide +kernel)), fun h => absurd h (by decide), kY_X13_tells⟩
theorem kM_20_228 : q_okM (20, 228, 1, false, M_L_machine) := ⟨fun _ => (List.mem_of_getElem? (i := 1131) (by decide +kernel)), fun h => absurd h (by decide), kY_L_machine⟩
theorem kM_20_230 : q_okM (20, 230, 0, false, M_X13_machine) := ⟨fun _ => (List.mem_of_getElem? (i := 2075) (by decide +kernel)), fun h => absurd h (by decide), kY_X13_machine⟩
theorem kM_20_231 : q_okM (20, 231, 1, false, M_L_lot) := ⟨fun _ => (List.mem_of_getElem? (i := 1138) (by decide +kernel)), fun h => absurd h (by decide), kY_L_lot⟩
theorem kM_20_234 : q_okM (20, 234, 0, false, M_X13_lot) := ⟨fun _ => (List.mem_of_getElem? (i := 2079) (by decide +kernel)), fun h => absurd h (by decide), kY_X13_lot⟩
theorem kM_20_235 : q_okM (20, 235, 1, false, M_L_load) := ⟨fun _ => (List.mem_of_getElem? (i := 1296) (by decide +kernel)), fun h => absurd h (by decide), kY_L_load⟩
theorem kM_20_237 : q_okM (20, 237, 0, false, M_X13_load) := ⟨fun _ => (List.mem_of_getElem? (i := 2087) (by decide +kernel)), fun h => absurd h (by decide), kY_X13_load⟩
theorem kM_20_238 : q_okM (20, 238, 1, false, M_L_days) := ⟨fun _ => (List.mem_of_getElem? (i := 1311) (by decide +kernel)), fun h => absurd h (by decide), kY_L_days⟩
theorem kM_20_240 : q_okM (20, 240, 0, false, M_X13_days) := ⟨fun _ => (List.mem_of_getElem? (i := 2099) (by decide +kernel)), fun h => absurd h (by decide), kY_X13_days⟩
theorem kM_20_241 : q_okM (20, 241, 1, false, M_L_led) := ⟨fun _ => (List.mem_of_getElem? (i := 1363) (by decide +kernel)), fun h => absurd h (by decide), kY_L_led⟩
theorem kM_20_243 : q_okM (20, 243, 0, false, M_X13_led) := ⟨fun _ => (List.mem_of_getElem? (i := 2119) (by decide +kernel)), fun h => absurd h (by decide), kY_X13_led⟩
theorem kM_20_244 : q_okM (20, 244, 1, false, M_L_works) := ⟨fun _ => (List.mem_of_getElem? (i := 1374) (by decide +kernel)), fun h => absurd h (by decide), kY_L_works⟩
theorem kM_20_246 : q_okM (20, 246, 0, false, M_X13_works) := ⟨fun _ => (List.mem_of_getElem? (i := 2127) (by decide +kernel)), fun h => absurd h (by decide), kY_X13_works⟩
theorem kM_20_247 : q_okM (20, 247, 1, false, M_L_measure) := ⟨fun _ => (List.mem_of_getElem? (i := 1381) (by decide +kernel)), fun h => absurd h (by decide), kY_L_measure⟩
theorem kM_20_249 : q_okM (20, 249, 0, false, M_X13_measure) := ⟨fun _ => (List.mem_of_getElem? (i := 2131) (by decide +kernel)), fun h => absurd h (by decide), kY_X13_measure⟩
theorem kM_20_250 : q_okM (20, 250, 1, false, M_L_known) := ⟨fun _ => (List.mem_of_getElem? (i := 1412) (by decide +kernel)), fun h => absurd h (by decide), kY_L_known⟩
theorem kM_20_252 : q_okM (20, 252, 0, false, M_X13_known) := ⟨fun _ => (List.mem_of_getElem? (i := 2139) (by decide +kernel)), fun h => absurd h (by decide), kY_X13_known⟩
theorem kM_20_253 : q_okM (20, 253, 1, false, M_L_sorted) := ⟨fun _ => (List.mem_of_getElem? (i := 1431) (by decide +kernel)), fun h => absurd h (by decide), kY_L_sorted⟩
theorem kM_20_255 : q_okM (20, 255, 0, false, M_X13_sorted) := ⟨fun _ => (List.mem_of_getElem? (i := 2151) (by decide +kernel)), fun h => absurd h (by decide), kY_X13_sorted⟩
theorem kM_20_256 : q_okM (20, 256, 1, false, M_L_again) := ⟨fun _ => (List.mem_of_getElem? (i := 1442) (by decide +kernel)), fun h => absurd h (by decide), kY_L_again⟩
theorem kM_20_258 : q_okM (20, 258, 0, false, M_X13_again) := ⟨fun _ => (List.mem_of_getElem? (i := 2159) (by decide +kernel)), fun h => absurd h (by decide), kY_X13_again⟩
theorem kM_20_259 : q_okM (20, 259, 1, false, M_L_deliver) := ⟨fun _ => (List.mem_of_getElem? (i := 1459) (by decide +kernel)), fun h => absurd h (by decide), kY_L_deliver⟩
theorem kM_20_261 : q_okM (20, 261, 0, false, M_X13_deliver) := ⟨fun _ => (List.mem_of_getElem? (i := 2163) (by decide +kernel)), fun h => absurd h (by decide), kY_X13_deliver⟩
theorem kM_20_262 : q_okM (20, 262, 1, false, M_L_ready) := ⟨fun _ => (List.mem_of_getElem? (i := 1515) (by decide +kernel)), fun h => absurd h (by decide), kY_L_ready⟩
theorem kM_20_264 : q_okM (20, 264, 0, false, M_X13_ready) := ⟨fun _ => (List.mem_of_getElem? (i := 2175) (by decide +kernel)), fun h => absurd h (by decide), kY_X13_ready⟩
theorem kM_20_265 : q_okM (20, 265, 1, false, M_L_pattern) := ⟨fun _ => (List.mem_of_getElem? (i := 1522) (by decide +kernel)), fun h => absurd h (by decide), kY_L_pattern⟩
theorem kM_20_268 : q_okM (20, 268, 0, false, M_X13_pattern) := ⟨fun _ => (List.mem_of_getElem? (i := 2179) (by decide +kernel)), fun h => absurd h (by decide), kY_X13_pattern⟩
theorem kM_20_269 : q_okM (20, 269, 1, false, M_L_heat) := ⟨fun _ => (List.mem_of_getElem? (i := 1534) (by decide +kernel)), fun h => absurd h (by decide), kY_L_heat⟩
theorem kM_20_271 : q_okM (20, 271, 0, false, M_X13_heat) := ⟨fun _ => (List.mem_of_getElem? (i := 2183) (by decide +kernel)), fun h => absurd h (by decide), kY_X13_heat⟩
theorem kM_20_272 : q_okM (20, 272, 1, false, M_L_burn) := ⟨fun _ => (List.mem_of_getElem? (i := 1545) (by decide +kernel)), fun h => absurd h (by decide), kY_L_burn⟩
theorem kM_20_274 : q_okM (20, 274, 0, false, M_X13_burn) := ⟨fun _ => (List.mem_of_getElem? (i := 2187) (by decide +kernel)), fun h => absurd h (by decide), kY_X13_burn⟩
theorem kM_20_275 : q_okM (20, 275, 1, false, M_L_burned) := ⟨fun _ => (List.mem_of_getElem? (i := 1564) (by decide +kernel)), fun h => absurd h (by decide), kY_L_burned⟩
theorem kM_20_277 : q_okM (20, 277, 0, false, M_X13_burned) := ⟨fun _ => (List.mem_of_getElem? (i := 2192) (by decide +kernel)), fun h => absurd h (by decide), kY_X13_burned⟩
theorem kM_20_278 : q_okM (20, 278, 1, false, M_L_seam) := ⟨fun _ => (List.mem_of_getElem? (i := 1571) (by decide +kernel)), fun h => absurd h (by decide), kY_L_seam⟩
theorem kM_20_280 : q_okM (20, 280, 0, false, M_X13_seam) := ⟨fun _ => (List.mem_of_getElem? (i := 2196) (by decide +kernel)), fun h => absurd h (by decide), kY_X13_seam⟩
theorem kM_20_281 : q_okM (20, 281, 0, false, M_X12_shift) := ⟨fun _ => (List.mem_of_getElem? (i := 575) (by decide +kernel)), fun h => absurd h (by decide), kY_X12_shift⟩
theorem kM_20_284 : q_okM (20, 284, 0, false, M_X13_shift) := ⟨fun _ => (List.mem_of_getElem? (i := 2204) (by decide +kernel)), fun h => absurd h (by decide), kY_X13_shift⟩
theorem kM_20_285 : q_okM (20, 285, 0, false, M_X12_count) := ⟨fun _ => (List.mem_of_getElem? (i := 587) (by decide +kernel)), fun h => absurd h (by decide), kY_X12_count⟩
theorem kM_20_288 : q_okM (20, 288, 0, false, M_X13_count) := ⟨fun _ => (List.mem_of_getElem? (i := 2208) (by decide +kernel)), fun h => absurd h (by decide), kY_X13_count⟩
theorem kM_22_300 : q_okM (22, 300, 1, false, M_J7_copyOf_6403c) := ⟨fun _ => (List.mem_of_getElem? (i := 1286) (by decide +kernel)), fun h => absurd h (by decide), kY_J7_copyOf_6403c⟩
def q_lM_1 : List q_L := [(1, 19, 0, false, M_X0_sorts)]
set_option maxRecDepth 20000 in
theorem kM_1 : ∀ e ∈ q_lM_1, q_okM e := List.forall_mem_cons.mpr ⟨kM_1_19, fun _ h => absurd h List.not_mem_nil⟩
def q_lM_2 : List q_L := [(2, 33, 0, false, M_X10_isBlank), (2, 39, 0, false, M_X1_readRule), (2, 43, 0, false, M_X10_goesOn), (2, 46, 0, false, M_X10_refuseNext), (2, 51, 0, false, M_X10_pick), (2, 55, 0, false, M_X1_readOfBath), (2, 59, 0, false, M_X1_readPours), (2, 62, 0, false, M_X10_number), (2, 66, 0, false, M_X1_readAgain)]
set_option maxRecDepth 20000 in
theorem kM_2 : ∀ e ∈ q_lM_2, q_okM e := List.forall_mem_cons.mpr ⟨kM_2_33, List.forall_mem_cons.mpr ⟨kM_2_39, List.forall_mem_cons.mpr ⟨kM_2_43, List.forall_mem_cons.mpr ⟨kM_2_46, List.forall_mem_cons.mpr ⟨kM_2_51, List.forall_mem_cons.mpr ⟨kM_2_55, List.forall_mem_cons.mpr ⟨kM_2_59, List.forall_mem_cons.mpr ⟨kM_2_62, List.forall_mem_cons.mpr ⟨kM_2_66, fun _ h => absurd h List.not_mem_nil⟩⟩⟩⟩⟩⟩⟩⟩⟩
def q_lM_3 : List q_L := [(3, 25, 1, false, M_J7_fill_53178), (3, 31, 0, false, M_X2_goOn), (3, 35, 1, false, M_X2_lesser), (3, 39, 0, false, M_X2_between)]
set_option maxRecDepth 20000 in
theorem kM_3 : ∀ e ∈ q_lM_3, q_okM e := List.forall_mem_cons.mpr ⟨kM_3_25, List.forall_mem_cons.mpr ⟨kM_3_31, List.forall_mem_cons.mpr ⟨kM_3_35, List.forall_mem_cons.mpr ⟨kM_3_39, fun _ h => absurd h List.not_mem_nil⟩⟩⟩⟩
def q_lM_4 : List q_L := [(4, 31, 0, false, M_X3_fade), (4, 35, 0, false, M_X3_wear)]
set_option maxRecDepth 20000 in
theorem kM_4 : ∀ e ∈ q_lM_4, q_okM e := List.forall_mem_cons.mpr ⟨kM_4_31, List.forall_mem_cons.mpr ⟨kM_4_35, fun _ h => absurd h List.not_mem_nil⟩⟩
def q_lM_5 : List q_L := [(5, 11, 2, true, M_X3_init), (5, 51, 2, false, M_X8_init), (5, 65, 1, false, M_J7_fill_53178)]
set_option maxRecDepth 20000 in
theorem kM_5 : ∀ e ∈ q_lM_5, q_okM e := List.forall_mem_cons.mpr ⟨kM_5_11, List.forall_mem_cons.mpr ⟨kM_5_51, List.forall_mem_cons.mpr ⟨kM_5_65, fun _ h => absurd h List.not_mem_nil⟩⟩⟩
def q_lM_7 : List q_L := [(7, 40, 1, false, M_J7_fill_53178), (7, 46, 1, false, M_X6_shadeOf), (7, 50, 0, false, M_X6_putInOrder)]
set_option maxRecDepth 20000 in
theorem kM_7 : ∀ e ∈ q_lM_7, q_okM e := List.forall_mem_cons.mpr ⟨kM_7_40, List.forall_mem_cons.mpr ⟨kM_7_46, List.forall_mem_cons.mpr ⟨kM_7_50, fun _ h => absurd h List.not_mem_nil⟩⟩⟩
def q_lM_8 : List q_L := [(8, 25, 1, false, M_J7_fill_53178), (8, 31, 0, false, M_X7_heatAt), (8, 43, 0, false, M_X7_unlike)]
set_option maxRecDepth 20000 in
theorem kM_8 : ∀ e ∈ q_lM_8, q_okM e := List.forall_mem_cons.mpr ⟨kM_8_25, List.forall_mem_cons.mpr ⟨kM_8_31, List.forall_mem_cons.mpr ⟨kM_8_43, fun _ h => absurd h List.not_mem_nil⟩⟩⟩
def q_lM_9 : List q_L := [(9, 28, 0, false, M_X10_isBlank), (9, 34, 0, false, M_X8_readBath), (9, 38, 0, false, M_X10_goesOn), (9, 41, 0, false, M_X10_refuseNext), (9, 46, 0, false, M_X10_pick), (9, 50, 0, false, M_X10_number), (9, 57, 0, false, M_X8_add), (9, 61, 1, false, M_X8_priceOf)]
set_option maxRecDepth 20000 in
theorem kM_9 : ∀ e ∈ q_lM_9, q_okM e := List.forall_mem_cons.mpr ⟨kM_9_28, List.forall_mem_cons.mpr ⟨kM_9_34, List.forall_mem_cons.mpr ⟨kM_9_38, List.forall_mem_cons.mpr ⟨kM_9_41, List.forall_mem_cons.mpr ⟨kM_9_46, List.forall_mem_cons.mpr ⟨kM_9_50, List.forall_mem_cons.mpr ⟨kM_9_57, List.forall_mem_cons.mpr ⟨kM_9_61, fun _ h => absurd h List.not_mem_nil⟩⟩⟩⟩⟩⟩⟩⟩
def q_lM_10 : List q_L := [(10, 28, 2, true, M_X3_init), (10, 41, 0, false, M_X3_copy), (10, 51, 0, false, M_X9_descend), (10, 61, 0, false, M_X3_surelyMeets), (10, 65, 0, false, M_X9_keepIfBetter), (10, 76, 0, false, M_X3_take), (10, 79, 1, false, M_X8_priceOf)]
set_option maxRecDepth 20000 in
theorem kM_10 : ∀ e ∈ q_lM_10, q_okM e := List.forall_mem_cons.mpr ⟨kM_10_28, List.forall_mem_cons.mpr ⟨kM_10_41, List.forall_mem_cons.mpr ⟨kM_10_51, List.forall_mem_cons.mpr ⟨kM_10_61, List.forall_mem_cons.mpr ⟨kM_10_65, List.forall_mem_cons.mpr ⟨kM_10_76, List.forall_mem_cons.mpr ⟨kM_10_79, fun _ h => absurd h List.not_mem_nil⟩⟩⟩⟩⟩⟩⟩
def q_lM_11 : List q_L := [(11, 25, 0, false, M_X10_skipBlanks), (11, 28, 0, false, M_X10_refuse), (11, 32, 0, false, M_X10_placeAmong)]
set_option maxRecDepth 20000 in
theorem kM_11 : ∀ e ∈ q_lM_11, q_okM e := List.forall_mem_cons.mpr ⟨kM_11_25, List.forall_mem_cons.mpr ⟨kM_11_28, List.forall_mem_cons.mpr ⟨kM_11_32, fun _ h => absurd h List.not_mem_nil⟩⟩⟩
def q_lM_12 : List q_L := [(12, 25, 0, false, M_X11_dirtiest), (12, 35, 1, false, M_X11_partUp), (12, 47, 0, false, M_X11_isDirtier), (12, 54, 0, false, M_X11_runOff), (12, 64, 0, false, M_X11_putIn)]
set_option maxRecDepth 20000 in
theorem kM_12 : ∀ e ∈ q_lM_12, q_okM e := List.forall_mem_cons.mpr ⟨kM_12_25, List.forall_mem_cons.mpr ⟨kM_12_35, List.forall_mem_cons.mpr ⟨kM_12_47, List.forall_mem_cons.mpr ⟨kM_12_54, List.forall_mem_cons.mpr ⟨kM_12_64, fun _ h => absurd h List.not_mem_nil⟩⟩⟩⟩⟩
def q_lM_13 : List q_L := [(13, 9, 2, true, M_X10_init), (13, 24, 2, false, M_X8_init), (13, 36, 2, true, M_X1_init), (13, 44, 2, true, M_X3_init), (13, 51, 2, false, M_X9_init), (13, 58, 2, true, M_X2_init), (13, 65, 2, true, M_X11_init), (13, 72, 2, true, M_X0_init), (13, 92, 2, true, M_X6_init), (13, 99, 2, true, M_X7_init), (13, 104, 2, true, M_X5_init), (13, 105, 0, false, M_X10_hasRoom), (13, 109, 0, false, M_X10_append), (13, 116, 1, false, M_X12_within), (13, 120, 1, false, M_X12_need), (13, 127, 1, false, M_X12_needRoom), (13, 131, 0, false, M_X3_begin), (13, 135, 0, false, M_X10_open), (13, 138, 0, false, M_X8_read), (13, 146, 1, false, M_X12_needIndex), (13, 149, 1, false, M_X12_needWhat), (13, 152, 0, false, M_X12_tryRecipe), (13, 155, 0, false, M_X3_part), (13, 159, 0, false, M_X8_price), (13, 163, 1, false, M_X12_needWish), (13, 166, 0, false, M_X3_surelyMeets), (13, 169, 0, false, M_X12_searchFor), (13, 176, 0, false, M_X9_bestBath), (13, 179, 0, false, M_X2_tell), (13, 182, 0, false, M_X2_addBatch), (13, 185, 0, false, M_X2_leastSum), (13, 194, 0, false, M_X11_add), (13, 200, 0, false, M_X11_takeOut), (13, 208, 0, false, M_X11_putIn), (13, 212, 0, false, M_X11_part), (13, 214, 0, false, M_X0_add), (13, 215, 0, false, M_X0_leastSpread), (13, 218, 0, false, M_X0_fullPacks), (13, 224, 0, false, M_X1_read), (13, 228, 0, false, M_X1_value), (13, 241, 2, false, M_X4_init), (13, 243, 0, false, M_X4_wishFor), (13, 247, 0, false, M_X8_copy), (13, 254, 0, false, M_X3_copy), (13, 257, 0, false, M_X12_addLot), (13, 261, 0, false, M_X12_lotAt), (13, 271, 0, false, M_X5_enqueue), (13, 280, 0, false, M_X12_workDay), (13, 293, 0, false, M_X4_countPlaced), (13, 320, 1, false, M_X12_needWashed), (13, 328, 0, false, M_X6_tell), (13, 339, 0, false, M_X12_judged), (13, 343, 0, false, M_X4_isStillHere), (13, 347, 0, false, M_X12_sorted), (13, 359, 0, false, M_X8_setOnly), (13, 362, 0, false, M_X12_moveDark), (13, 366, 0, false, M_X12_findPacks), (13, 369, 0, false, M_X6_packBegin), (13, 372, 0, false, M_X12_deliverPack), (13, 381, 0, false, M_X7_beginPattern), (13, 390, 0, false, M_X7_setHeat), (13, 393, 0, false, M_X7_burnOne), (13, 400, 0, false, M_X7_unlike), (13, 403, 0, false, M_X7_bestTurn), (13, 412, 0, false, M_X11_dirtInTanks), (13, 418, 0, false, M_X12_countWashed), (13, 467, 0, false, M_X3_take), (13, 470, 0, false, M_X9_wishFor), (13, 471, 0, false, M_X9_run), (13, 475, 0, false, M_X12_takeNext), (13, 479, 0, false, M_X12_doNextBath), (13, 482, 0, false, M_X12_firstNotBarred), (13, 489, 0, false, M_X2_between), (13, 492, 0, false, M_X5_takeIn), (13, 495, 0, false, M_X11_washOut), (13, 498, 0, false, M_X12_finishIfNoneLeft), (13, 502, 0, false, M_X8_bathAt), (13, 505, 0, false, M_X8_amountAt), (13, 508, 1, false, M_X8_soil), (13, 511, 0, false, M_X11_giveBack), (13, 514, 0, false, M_X6_shadeOn), (13, 517, 0, false, M_X4_judge), (13, 526, 0, false, M_X6_gatherNone), (13, 529, 0, false, M_X12_gatherGood), (13, 533, 0, false, M_X6_formPacks), (13, 536, 0, false, M_X6_gather), (13, 539, 0, false, M_X6_lotOf), (13, 542, 0, false, M_X6_pieceOf), (13, 545, 0, false, M_X4_setDelivered)]
set_option maxRecDepth 20000 in
theorem kM_13 : ∀ e ∈ q_lM_13, q_okM e := List.forall_mem_cons.mpr ⟨kM_13_9, List.forall_mem_cons.mpr ⟨kM_13_24, List.forall_mem_cons.mpr ⟨kM_13_36, List.forall_mem_cons.mpr ⟨kM_13_44, List.forall_mem_cons.mpr ⟨kM_13_51, List.forall_mem_cons.mpr ⟨kM_13_58, List.forall_mem_cons.mpr ⟨kM_13_65, List.forall_mem_cons.mpr ⟨kM_13_72, List.forall_mem_cons.mpr ⟨kM_13_92, List.forall_mem_cons.mpr ⟨kM_13_99, List.forall_mem_cons.mpr ⟨kM_13_104, List.forall_mem_cons.mpr ⟨kM_13_105, List.forall_mem_cons.mpr ⟨kM_13_109, List.forall_mem_cons.mpr ⟨kM_13_116, List.forall_mem_cons.mpr ⟨kM_13_120, List.forall_mem_cons.mpr ⟨kM_13_127, List.forall_mem_cons.mpr ⟨kM_13_131, List.forall_mem_cons.mpr ⟨kM_13_135, List.forall_mem_cons.mpr ⟨kM_13_138, List.forall_mem_cons.mpr ⟨kM_13_146, List.forall_mem_cons.mpr ⟨kM_13_149, List.forall_mem_cons.mpr ⟨kM_13_152, List.forall_mem_cons.mpr ⟨kM_13_155, List.forall_mem_cons.mpr ⟨kM_13_159, List.forall_mem_cons.mpr ⟨kM_13_163, List.forall_mem_cons.mpr ⟨kM_13_166, List.forall_mem_cons.mpr ⟨kM_13_169, List.forall_mem_cons.mpr ⟨kM_13_176, List.forall_mem_cons.mpr ⟨kM_13_179, List.forall_mem_cons.mpr ⟨kM_13_182, List.forall_mem_cons.mpr ⟨kM_13_185, List.forall_mem_cons.mpr ⟨kM_13_194, List.forall_mem_cons.mpr ⟨kM_13_200, List.forall_mem_cons.mpr ⟨kM_13_208, List.forall_mem_cons.mpr ⟨kM_13_212, List.forall_mem_cons.mpr ⟨kM_13_214, List.forall_mem_cons.mpr ⟨kM_13_215, List.forall_mem_cons.mpr ⟨kM_13_218, List.forall_mem_cons.mpr ⟨kM_13_224, List.forall_mem_cons.mpr ⟨kM_13_228, List.forall_mem_cons.mpr ⟨kM_13_241, List.forall_mem_cons.mpr ⟨kM_13_243, List.forall_mem_cons.mpr ⟨kM_13_247, List.forall_mem_cons.mpr ⟨kM_13_254, List.forall_mem_cons.mpr ⟨kM_13_257, List.forall_mem_cons.mpr ⟨kM_13_261, List.forall_mem_cons.mpr ⟨kM_13_271, List.forall_mem_cons.mpr ⟨kM_13_280, List.forall_mem_cons.mpr ⟨kM_13_293, List.forall_mem_cons.mpr ⟨kM_13_320, List.forall_mem_cons.mpr ⟨kM_13_328, List.forall_mem_cons.mpr ⟨kM_13_339, List.forall_mem_cons.mpr ⟨kM_13_343, List.forall_mem_cons.mpr ⟨kM_13_347, List.forall_mem_cons.mpr ⟨kM_13_359, List.forall_mem_cons.mpr ⟨kM_13_362, List.forall_mem_cons.mpr ⟨kM_13_366, List.forall_mem_cons.mpr ⟨kM_13_369, List.forall_mem_cons.mpr ⟨kM_13_372, List.forall_mem_cons.mpr ⟨kM_13_381, List.forall_mem_cons.mpr ⟨kM_13_390, List.forall_mem_cons.mpr ⟨kM_13_393, List.forall_mem_cons.mpr ⟨kM_13_400, List.forall_mem_cons.mpr ⟨kM_13_403, List.forall_mem_cons.mpr ⟨kM_13_412, List.forall_mem_cons.mpr ⟨kM_13_418, List.forall_mem_cons.mpr ⟨kM_13_467, List.forall_mem_cons.mpr ⟨kM_13_470, List.forall_mem_cons.mpr ⟨kM_13_471, List.forall_mem_cons.mpr ⟨kM_13_475, List.forall_mem_cons.mpr ⟨kM_13_479, List.forall_mem_cons.mpr ⟨kM_13_482, List.forall_mem_cons.mpr ⟨kM_13_489, List.forall_mem_cons.mpr ⟨kM_13_492, List.forall_mem_cons.mpr ⟨kM_13_495, List.forall_mem_cons.mpr ⟨kM_13_498, List.forall_mem_cons.mpr ⟨kM_13_502, List.forall_mem_cons.mpr ⟨kM_13_505, List.forall_mem_cons.mpr ⟨kM_13_508, List.forall_mem_cons.mpr ⟨kM_13_511, List.forall_mem_cons.mpr ⟨kM_13_514, List.forall_mem_cons.mpr ⟨kM_13_517, List.forall_mem_cons.mpr ⟨kM_13_526, List.forall_mem_cons.mpr ⟨kM_13_529, List.forall_mem_cons.mpr ⟨kM_13_533, List.forall_mem_cons.mpr ⟨kM_13_536, List.forall_mem_cons.mpr ⟨kM_13_539, List.forall_mem_cons.mpr ⟨kM_13_542, List.forall_mem_cons.mpr ⟨kM_13_545, fun _ h => absurd h List.not_mem_nil⟩⟩⟩⟩⟩⟩⟩⟩⟩⟩⟩⟩⟩⟩⟩⟩⟩⟩⟩⟩⟩⟩⟩⟩⟩⟩⟩⟩⟩⟩⟩⟩⟩⟩⟩⟩⟩⟩⟩⟩⟩⟩⟩⟩⟩⟩⟩⟩⟩⟩⟩⟩⟩⟩⟩⟩⟩⟩⟩⟩⟩⟩⟩⟩⟩⟩⟩⟩⟩⟩⟩⟩⟩⟩⟩⟩⟩⟩⟩⟩⟩⟩⟩⟩⟩⟩⟩⟩⟩
def q_lM_14 : List q_L := [(14, 171, 0, false, M_X13_isAt), (14, 178, 0, false, M_X13_blanks), (14, 193, 0, false, M_X13_isWord), (14, 203, 0, false, M_X13_word), (14, 206, 0, false, M_X13_bathOf), (14, 209, 0, false, M_X13_readBath), (14, 212, 0, false, M_X13_number), (14, 216, 0, false, M_X13_uses), (14, 219, 0, false, M_X13_readRecipe), (14, 223, 0, false, M_X13_throwsIf), (14, 227, 0, false, M_X13_copies), (14, 234, 1, false, M_X13_in), (14, 244, 0, false, M_X13_less), (14, 248, 0, false, M_X13_begins), (14, 251, 0, false, M_X13_does), (14, 255, 0, false, M_X13_noCloth), (14, 259, 0, false, M_X13_tries), (14, 262, 1, false, M_X13_costOf), (14, 265, 1, false, M_X13_noWish), (14, 268, 0, false, M_X13_meetsIt), (14, 287, 1, false, M_X13_usual), (14, 291, 0, false, M_X13_seeks), (14, 294, 0, false, M_X13_cheapestOf), (14, 298, 1, false, M_X13_noKind), (14, 319, 0, false, M_X13_dirtiest), (14, 334, 0, false, M_X13_draws), (14, 341, 0, false, M_X13_pours), (14, 347, 0, false, M_X13_sortsFor), (14, 354, 0, false, M_X13_sets), (14, 365, 0, false, M_X13_readPours), (14, 372, 0, false, M_X13_readAgain), (14, 379, 0, false, M_X13_asAtFirst), (14, 382, 0, false, M_X13_readRule), (14, 385, 0, false, M_X13_readHouse), (14, 397, 0, false, M_X13_adds), (14, 401, 0, false, M_X13_noLot), (14, 404, 0, false, M_X13_noMachine), (14, 413, 0, false, M_X13_bathes), (14, 417, 0, false, M_X13_washes), (14, 420, 0, false, M_X13_nextFor), (14, 423, 0, false, M_X13_step), (14, 426, 0, false, M_X13_piecesOf), (14, 429, 0, false, M_X13_noPiece), (14, 438, 0, false, M_X13_shadeOf), (14, 441, 0, false, M_X13_knownOf), (14, 444, 0, false, M_X13_sortedOf), (14, 453, 0, false, M_X13_gathers), (14, 456, 0, false, M_X13_packsOf), (14, 465, 0, false, M_X13_seamOf)]
set_option maxRecDepth 20000 in
theorem kM_14 : ∀ e ∈ q_lM_14, q_okM e := List.forall_mem_cons.mpr ⟨kM_14_171, List.forall_mem_cons.mpr ⟨kM_14_178, List.forall_mem_cons.mpr ⟨kM_14_193, List.forall_mem_cons.mpr ⟨kM_14_203, List.forall_mem_cons.mpr ⟨kM_14_206, List.forall_mem_cons.mpr ⟨kM_14_209, List.forall_mem_cons.mpr ⟨kM_14_212, List.forall_mem_cons.mpr ⟨kM_14_216, List.forall_mem_cons.mpr ⟨kM_14_219, List.forall_mem_cons.mpr ⟨kM_14_223, List.forall_mem_cons.mpr ⟨kM_14_227, List.forall_mem_cons.mpr ⟨kM_14_234, List.forall_mem_cons.mpr ⟨kM_14_244, List.forall_mem_cons.mpr ⟨kM_14_248, List.forall_mem_cons.mpr ⟨kM_14_251, List.forall_mem_cons.mpr ⟨kM_14_255, List.forall_mem_cons.mpr ⟨kM_14_259, List.forall_mem_cons.mpr ⟨kM_14_262, List.forall_mem_cons.mpr ⟨kM_14_265, List.forall_mem_cons.mpr ⟨kM_14_268, List.forall_mem_cons.mpr ⟨kM_14_287, List.forall_mem_cons.mpr ⟨kM_14_291, List.forall_mem_cons.mpr ⟨kM_14_294, List.forall_mem_cons.mpr ⟨kM_14_298, List.forall_mem_cons.mpr ⟨kM_14_319, List.forall_mem_cons.mpr ⟨kM_14_334, List.forall_mem_cons.mpr ⟨kM_14_341, List.forall_mem_cons.mpr ⟨kM_14_347, List.forall_mem_cons.mpr ⟨kM_14_354, List.forall_mem_cons.mpr ⟨kM_14_365, List.forall_mem_cons.mpr ⟨kM_14_372, List.forall_mem_cons.mpr ⟨kM_14_379, List.forall_mem_cons.mpr ⟨kM_14_382, List.forall_mem_cons.mpr ⟨kM_14_385, List.forall_mem_cons.mpr ⟨kM_14_397, List.forall_mem_cons.mpr ⟨kM_14_401, List.forall_mem_cons.mpr ⟨kM_14_404, List.forall_mem_cons.mpr ⟨kM_14_413, List.forall_mem_cons.mpr ⟨kM_14_417, List.forall_mem_cons.mpr ⟨kM_14_420, List.forall_mem_cons.mpr ⟨kM_14_423, List.forall_mem_cons.mpr ⟨kM_14_426, List.forall_mem_cons.mpr ⟨kM_14_429, List.forall_mem_cons.mpr ⟨kM_14_438, List.forall_mem_cons.mpr ⟨kM_14_441, List.forall_mem_cons.mpr ⟨kM_14_444, List.forall_mem_cons.mpr ⟨kM_14_453, List.forall_mem_cons.mpr ⟨kM_14_456, List.forall_mem_cons.mpr ⟨kM_14_465, fun _ h => absurd h List.not_mem_nil⟩⟩⟩⟩⟩⟩⟩⟩⟩⟩⟩⟩⟩⟩⟩⟩⟩⟩⟩⟩⟩⟩⟩⟩⟩⟩⟩⟩⟩⟩⟩⟩⟩⟩⟩⟩⟩⟩⟩⟩⟩⟩⟩⟩⟩⟩⟩⟩⟩
def q_lM_20 : List q_L := [(20, 7, 0, false, M_X12_cloth), (20, 17, 0, false, M_X12_recipe), (20, 21, 0, false, M_X12_look), (20, 28, 0, false, M_X12_meets), (20, 32, 0, false, M_X12_cheapest), (20, 36, 0, false, M_X12_bath), (20, 40, 0, false, M_X12_carry), (20, 44, 0, false, M_X12_batch), (20, 48, 0, false, M_X12_tank), (20, 51, 0, false, M_X12_draw), (20, 55, 0, false, M_X12_pour), (20, 58, 0, false, M_X12_has), (20, 61, 0, false, M_X12_garment), (20, 64, 0, false, M_X12_spread), (20, 67, 0, false, M_X12_packs), (20, 71, 0, false, M_X12_house), (20, 74, 0, false, M_X12_tells), (20, 77, 0, false, M_X12_machine), (20, 80, 0, false, M_X12_lot), (20, 84, 0, false, M_X12_load), (20, 88, 0, false, M_X12_days), (20, 91, 0, false, M_X12_led), (20, 94, 0, false, M_X12_works), (20, 97, 0, false, M_X12_measure), (20, 102, 0, false, M_X12_known), (20, 105, 0, false, M_X12_sorted), (20, 108, 0, false, M_X12_again), (20, 111, 0, false, M_X12_deliver), (20, 114, 0, false, M_X12_ready), (20, 117, 0, false, M_X12_pattern), (20, 121, 0, false, M_X12_heat), (20, 125, 0, false, M_X12_burn), (20, 128, 0, false, M_X12_burned), (20, 131, 0, false, M_X12_seam), (20, 134, 2, false, M_X12_init), (20, 137, 2, false, M_X13_init), (20, 138, 0, false, M_X12_feed), (20, 141, 0, false, M_X13_feed), (20, 142, 0, false, M_X12_end), (20, 146, 0, false, M_X13_end), (20, 147, 1, false, M_L_cloth), (20, 152, 0, false, M_X13_cloth), (20, 153, 0, false, M_X13_thrown), (20, 156, 1, false, M_L_recipe), (20, 159, 0, false, M_X13_recipe), (20, 160, 0, false, M_X12_fault), (20, 163, 0, false, M_X13_fault), (20, 164, 1, false, M_L_look), (20, 166, 0, false, M_X13_look), (20, 167, 0, false, M_X12_cost), (20, 170, 0, false, M_X13_cost), (20, 171, 1, false, M_L_meets), (20, 174, 0, false, M_X13_meets), (20, 175, 1, false, M_L_cheapest), (20, 178, 0, false, M_X13_cheapest), (20, 179, 1, false, M_L_bath), (20, 182, 0, false, M_X13_bath), (20, 183, 1, false, M_L_carry), (20, 186, 0, false, M_X13_carry), (20, 187, 1, false, M_L_batch), (20, 190, 0, false, M_X13_batch), (20, 191, 0, false, M_X12_order), (20, 194, 0, false, M_X13_order), (20, 195, 0, false, M_X12_clear), (20, 198, 0, false, M_X13_clear), (20, 199, 1, false, M_L_tank), (20, 201, 0, false, M_X13_tank), (20, 202, 1, false, M_L_draw), (20, 205, 0, false, M_X13_draw), (20, 206, 1, false, M_L_pour), (20, 208, 0, false, M_X13_pour), (20, 209, 1, false, M_L_has), (20, 211, 0, false, M_X13_has), (20, 212, 1, false, M_L_garment), (20, 214, 0, false, M_X13_garment), (20, 215, 1, false, M_L_spread), (20, 217, 0, false, M_X13_spread), (20, 218, 1, false, M_L_packs), (20, 221, 0, false, M_X13_packs), (20, 222, 1, false, M_L_house), (20, 224, 0, false, M_X13_house), (20, 225, 1, false, M_L_tells), (20, 227, 0, false, M_X13_tells), (20, 228, 1, false, M_L_machine), (20, 230, 0, false, M_X13_machine), (20, 231, 1, false, M_L_lot), (20, 234, 0, false, M_X13_lot), (20, 235, 1, false, M_L_load), (20, 237, 0, false, M_X13_load), (20, 238, 1, false, M_L_days), (20, 240, 0, false, M_X13_days), (20, 241, 1, false, M_L_led), (20, 243, 0, false, M_X13_led), (20, 244, 1, false, M_L_works), (20, 246, 0, false, M_X13_works), (20, 247, 1, false, M_L_measure), (20, 249, 0, false, M_X13_measure), (20, 250, 1, false, M_L_known), (20, 252, 0, false, M_X13_known), (20, 253, 1, false, M_L_sorted), (20, 255, 0, false, M_X13_sorted), (20, 256, 1, false, M_L_again), (20, 258, 0, false, M_X13_again), (20, 259, 1, false, M_L_deliver), (20, 261, 0, false, M_X13_deliver), (20, 262, 1, false, M_L_ready), (20, 264, 0, false, M_X13_ready), (20, 265, 1, false, M_L_pattern), (20, 268, 0, false, M_X13_pattern), (20, 269, 1, false, M_L_heat), (20, 271, 0, false, M_X13_heat), (20, 272, 1, false, M_L_burn), (20, 274, 0, false, M_X13_burn), (20, 275, 1, false, M_L_burned), (20, 277, 0, false, M_X13_burned), (20, 278, 1, false, M_L_seam), (20, 280, 0, false, M_X13_seam), (20, 281, 0, false, M_X12_shift), (20, 284, 0, false, M_X13_shift), (20, 285, 0, false, M_X12_count), (20, 288, 0, false, M_X13_count)]
set_option maxRecDepth 20000 in
theorem kM_20 : ∀ e ∈ q_lM_20, q_okM e := List.forall_mem_cons.mpr ⟨kM_20_7, List.forall_mem_cons.mpr ⟨kM_20_17, List.forall_mem_cons.mpr ⟨kM_20_21, List.forall_mem_cons.mpr ⟨kM_20_28, List.forall_mem_cons.mpr ⟨kM_20_32, List.forall_mem_cons.mpr ⟨kM_20_36, List.forall_mem_cons.mpr ⟨kM_20_40, List.forall_mem_cons.mpr ⟨kM_20_44, List.forall_mem_cons.mpr ⟨kM_20_48, List.forall_mem_cons.mpr ⟨kM_20_51, List.forall_mem_cons.mpr ⟨kM_20_55, List.forall_mem_cons.mpr ⟨kM_20_58, List.forall_mem_cons.mpr ⟨kM_20_61, List.forall_mem_cons.mpr ⟨kM_20_64, List.forall_mem_cons.mpr ⟨kM_20_67, List.forall_mem_cons.mpr ⟨kM_20_71, List.forall_mem_cons.mpr ⟨kM_20_74, List.forall_mem_cons.mpr ⟨kM_20_77, List.forall_mem_cons.mpr ⟨kM_20_80, List.forall_mem_cons.mpr ⟨kM_20_84, List.forall_mem_cons.mpr ⟨kM_20_88, List.forall_mem_cons.mpr ⟨kM_20_91, List.forall_mem_cons.mpr ⟨kM_20_94, List.forall_mem_cons.mpr ⟨kM_20_97, List.forall_mem_cons.mpr ⟨kM_20_102, List.forall_mem_cons.mpr ⟨kM_20_105, List.forall_mem_cons.mpr ⟨kM_20_108, List.forall_mem_cons.mpr ⟨kM_20_111, List.forall_mem_cons.mpr ⟨kM_20_114, List.forall_mem_cons.mpr ⟨kM_20_117, List.forall_mem_cons.mpr ⟨kM_20_121, List.forall_mem_cons.mpr ⟨kM_20_125, List.forall_mem_cons.mpr ⟨kM_20_128, List.forall_mem_cons.mpr ⟨kM_20_131, List.forall_mem_cons.mpr ⟨kM_20_134, List.forall_mem_cons.mpr ⟨kM_20_137, List.forall_mem_cons.mpr ⟨kM_20_138, List.forall_mem_cons.mpr ⟨kM_20_141, List.forall_mem_cons.mpr ⟨kM_20_142, List.forall_mem_cons.mpr ⟨kM_20_146, List.forall_mem_cons.mpr ⟨kM_20_147, List.forall_mem_cons.mpr ⟨kM_20_152, List.forall_mem_cons.mpr ⟨kM_20_153, List.forall_mem_cons.mpr ⟨kM_20_156, List.forall_mem_cons.mpr ⟨kM_20_159, List.forall_mem_cons.mpr ⟨kM_20_160, List.forall_mem_cons.mpr ⟨kM_20_163, List.forall_mem_cons.mpr ⟨kM_20_164, List.forall_mem_cons.mpr ⟨kM_20_166, List.forall_mem_cons.mpr ⟨kM_20_167, List.forall_mem_cons.mpr ⟨kM_20_170, List.forall_mem_cons.mpr ⟨kM_20_171, List.forall_mem_cons.mpr ⟨kM_20_174, List.forall_mem_cons.mpr ⟨kM_20_175, List.forall_mem_cons.mpr ⟨kM_20_178, List.forall_mem_cons.mpr ⟨kM_20_179, List.forall_mem_cons.mpr ⟨kM_20_182, List.forall_mem_cons.mpr ⟨kM_20_183, List.forall_mem_cons.mpr ⟨kM_20_186, List.forall_mem_cons.mpr ⟨kM_20_187, List.forall_mem_cons.mpr ⟨kM_20_190, List.forall_mem_cons.mpr ⟨kM_20_191, List.forall_mem_cons.mpr ⟨kM_20_194, List.forall_mem_cons.mpr ⟨kM_20_195, List.forall_mem_cons.mpr ⟨kM_20_198, List.forall_mem_cons.mpr ⟨kM_20_199, List.forall_mem_cons.mpr ⟨kM_20_201, List.forall_mem_cons.mpr ⟨kM_20_202, List.forall_mem_cons.mpr ⟨kM_20_205, List.forall_mem_cons.mpr ⟨kM_20_206, List.forall_mem_cons.mpr ⟨kM_20_208, List.forall_mem_cons.mpr ⟨kM_20_209, List.forall_mem_cons.mpr ⟨kM_20_211, List.forall_mem_cons.mpr ⟨kM_20_212, List.forall_mem_cons.mpr ⟨kM_20_214, List.forall_mem_cons.mpr ⟨kM_20_215, List.forall_mem_cons.mpr ⟨kM_20_217, List.forall_mem_cons.mpr ⟨kM_20_218, List.forall_mem_cons.mpr ⟨kM_20_221, List.forall_mem_cons.mpr ⟨kM_20_222, List.forall_mem_cons.mpr ⟨kM_20_224, List.forall_mem_cons.mpr ⟨kM_20_225, List.forall_mem_cons.mpr ⟨kM_20_227, List.forall_mem_cons.mpr ⟨kM_20_228, List.forall_mem_cons.mpr ⟨kM_20_230, List.forall_mem_cons.mpr ⟨kM_20_231, List.forall_mem_cons.mpr ⟨kM_20_234, List.forall_mem_cons.mpr ⟨kM_20_235, List.forall_mem_cons.mpr ⟨kM_20_237, List.forall_mem_cons.mpr ⟨kM_20_238, List.forall_mem_cons.mpr ⟨kM_20_240, List.forall_mem_cons.mpr ⟨kM_20_241, List.forall_mem_cons.mpr ⟨kM_20_243, List.forall_mem_cons.mpr ⟨kM_20_244, List.forall_mem_cons.mpr ⟨kM_20_246, List.forall_mem_cons.mpr ⟨kM_20_247, List.forall_mem_cons.mpr ⟨kM_20_249, List.forall_mem_cons.mpr ⟨kM_20_250, List.forall_mem_cons.mpr ⟨kM_20_252, List.forall_mem_cons.mpr ⟨kM_20_253, List.forall_mem_cons.mpr ⟨kM_20_255, List.forall_mem_cons.mpr ⟨kM_20_256, List.forall_mem_cons.mpr ⟨kM_20_258, List.forall_mem_cons.mpr ⟨kM_20_259, List.forall_mem_cons.mpr ⟨kM_20_261, List.forall_mem_cons.mpr ⟨kM_20_262, List.forall_mem_cons.mpr ⟨kM_20_264, List.forall_mem_cons.mpr ⟨kM_20_265, List.forall_mem_cons.mpr ⟨kM_20_268, List.forall_mem_cons.mpr ⟨kM_20_269, List.forall_mem_cons.mpr ⟨kM_20_271, List.forall_mem_cons.mpr ⟨kM_20_272, List.forall_mem_cons.mpr ⟨kM_20_274, List.forall_mem_cons.mpr ⟨kM_20_275, List.forall_mem_cons.mpr ⟨kM_20_277, List.forall_mem_cons.mpr ⟨kM_20_278, List.forall_mem_cons.mpr ⟨kM_20_280, List.forall_mem_cons.mpr ⟨kM_20_281, List.forall_mem_cons.mpr ⟨kM_20_284, List.forall_mem_cons.mpr ⟨kM_20_285, List.forall_mem_cons.mpr ⟨kM_20_288, fun _ h => absurd h List.not_mem_nil⟩⟩⟩⟩⟩⟩⟩⟩⟩⟩⟩⟩⟩⟩⟩⟩⟩⟩⟩⟩⟩⟩⟩⟩⟩⟩⟩⟩⟩⟩⟩⟩⟩⟩⟩⟩⟩⟩⟩⟩⟩⟩⟩⟩⟩⟩⟩⟩⟩⟩⟩⟩⟩⟩⟩⟩⟩⟩⟩⟩⟩⟩⟩⟩⟩⟩⟩⟩⟩⟩⟩⟩⟩⟩⟩⟩⟩⟩⟩⟩⟩⟩⟩⟩⟩⟩⟩⟩⟩⟩⟩⟩⟩⟩⟩⟩⟩⟩⟩⟩⟩⟩⟩⟩⟩⟩⟩⟩⟩⟩⟩⟩⟩⟩⟩⟩⟩⟩⟩⟩⟩
def q_lM_22 : List q_L := [(22, 300, 1, false, M_J7_copyOf_6403c)]
set_option maxRecDepth 20000 in
theorem kM_22 : ∀ e ∈ q_lM_22, q_okM e := List.forall_mem_cons.mpr ⟨kM_22_300, fun _ h => absurd h List.not_mem_nil⟩
def q_lMo (o : Nat) : List q_L := match o with
  | 1 => q_lM_1
  | 2 => q_lM_2
  | 3 => q_lM_3
  | 4 => q_lM_4
  | 5 => q_lM_5
  | 7 => q_lM_7
  | 8 => q_lM_8
  | 9 => q_lM_9
  | 10 => q_lM_10
  | 11 => q_lM_11
  | 12 => q_lM_12
  | 13 => q_lM_13
  | 14 => q_lM_14
  | 20 => q_lM_20
  | 22 => q_lM_22
  | _ => []
theorem kMo : ∀ (o : Nat) (e : q_L), e ∈ q_lMo o → q_okM e := by
  intro o e h
  unfold q_lMo at h
  split at h
  · exact kM_1 e h
  · exact kM_2 e h
  · exact kM_3 e h
  · exact kM_4 e h
  · exact kM_5 e h
  · exact kM_7 e h
  · exact kM_8 e h
  · exact kM_9 e h
  · exact kM_10 e h
  · exact kM_11 e h
  · exact kM_12 e h
  · exact kM_13 e h
  · exact kM_14 e h
  · exact kM_20 e h
  · exact kM_22 e h
  · cases h
def q_lM (o i : Nat) : Option q_L := (q_lMo o).find? (fun e => e.1 == o && e.2.1 == i)
