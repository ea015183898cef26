/-- a field by a link: class of the code, entry, class of the object, place, by the nest -/
def q_okF (e : Nat × Nat × Nat × Nat × Bool) : Prop := (e.2.2.2.2 = false → Cond.fieldLink (q_on e.1) e.2.1 (q_T e.2.2.1 e.2.2.2.1).1 (q_T e.2.2.1 e.2.2.2.1).2.1 (q_T e.2.2.1 e.2.2.2.1).2.2.1 ∈ lw_tbl) ∧ (e.2.2.2.2 = true → Cond.fieldLinkNest (q_on e.1) e.2.1 (q_T e.2.2.1 e.2.2.2.1).1 (q_T e.2.2.1 e.2.2.2.1).2.1 (q_T e.2.2.1 e.2.2.2.1).2.2.1 "TrouserWash" ∈ lw_tbl) ∧ e.2.2.1 < 15 ∧ e.2.2.2.1 < q_N e.2.2.1
theorem kF_1_11 : q_okF (1, 11, 1, 0, false) := ⟨fun _ => (List.mem_of_getElem? (i := 325) (by decide +kernel)), fun h => absurd h (by decide), by decide, by decide⟩
theorem kF_1_15 : q_okF (1, 15, 1, 1, false) := ⟨fun _ => (List.mem_of_getElem? (i := 326) (by decide +kernel)), fun h => absurd h (by decide), by decide, by decide⟩
theorem kF_2_20 : q_okF (2, 20, 2, 0, false) := ⟨fun _ => (List.mem_of_getElem? (i := 189) (by decide +kernel)), fun h => absurd h (by decide), by decide, by decide⟩
theorem kF_2_29 : q_okF (2, 29, 2, 1, false) := ⟨fun _ => (List.mem_of_getElem? (i := 190) (by decide +kernel)), fun h => absurd h (by decide), by decide, by decide⟩
theorem kF_3_11 : q_okF (3, 11, 3, 0, false) := ⟨fun _ => (List.mem_of_getElem? (i := 266) (by decide +kernel)), fun h => absurd h (by decide), by decide, by decide⟩
theorem kF_3_15 : q_okF (3, 15, 3, 1, false) := ⟨fun _ => (List.mem_of_getElem? (i := 267) (by decide +kernel)), fun h => absurd h (by decide), by decide, by decide⟩
theorem kF_3_18 : q_okF (3, 18, 3, 3, false) := ⟨fun _ => (List.mem_of_getElem? (i := 270) (by decide +kernel)), fun h => absurd h (by decide), by decide, by decide⟩
theorem kF_3_21 : q_okF (3, 21, 3, 2, false) := ⟨fun _ => (List.mem_of_getElem? (i := 268) (by decide +kernel)), fun h => absurd h (by decide), by decide, by decide⟩
theorem kF_4_9 : q_okF (4, 9, 4, 0, false) := ⟨fun _ => (List.mem_of_getElem? (i := 202) (by decide +kernel)), fun h => absurd h (by decide), by decide, by decide⟩
theorem kF_4_15 : q_okF (4, 15, 4, 1, false) := ⟨fun _ => (List.mem_of_getElem? (i := 205) (by decide +kernel)), fun h => absurd h (by decide), by decide, by decide⟩
theorem kF_4_18 : q_okF (4, 18, 4, 2, false) := ⟨fun _ => (List.mem_of_getElem? (i := 207) (by decide +kernel)), fun h => absurd h (by decide), by decide, by decide⟩
theorem kF_4_21 : q_okF (4, 21, 4, 3, false) := ⟨fun _ => (List.mem_of_getElem? (i := 209) (by decide +kernel)), fun h => absurd h (by decide), by decide, by decide⟩
theorem kF_4_24 : q_okF (4, 24, 4, 4, false) := ⟨fun _ => (List.mem_of_getElem? (i := 210) (by decide +kernel)), fun h => absurd h (by decide), by decide, by decide⟩
theorem kF_4_28 : q_okF (4, 28, 4, 5, false) := ⟨fun _ => (List.mem_of_getElem? (i := 212) (by decide +kernel)), fun h => absurd h (by decide), by decide, by decide⟩
theorem kF_5_12 : q_okF (5, 12, 5, 8, false) := ⟨fun _ => (List.mem_of_getElem? (i := 1172) (by decide +kernel)), fun h => absurd h (by decide), by decide, by decide⟩
theorem kF_5_18 : q_okF (5, 18, 5, 9, false) := ⟨fun _ => (List.mem_of_getElem? (i := 1174) (by decide +kernel)), fun h => absurd h (by decide), by decide, by decide⟩
theorem kF_5_22 : q_okF (5, 22, 5, 10, false) := ⟨fun _ => (List.mem_of_getElem? (i := 1176) (by decide +kernel)), fun h => absurd h (by decide), by decide, by decide⟩
theorem kF_5_25 : q_okF (5, 25, 5, 12, false) := ⟨fun _ => (List.mem_of_getElem? (i := 1179) (by decide +kernel)), fun h => absurd h (by decide), by decide, by decide⟩
theorem kF_5_28 : q_okF (5, 28, 5, 13, false) := ⟨fun _ => (List.mem_of_getElem? (i := 1181) (by decide +kernel)), fun h => absurd h (by decide), by decide, by decide⟩
theorem kF_5_31 : q_okF (5, 31, 5, 0, false) := ⟨fun _ => (List.mem_of_getElem? (i := 1156) (by decide +kernel)), fun h => absurd h (by decide), by decide, by decide⟩
theorem kF_5_40 : q_okF (5, 40, 5, 1, false) := ⟨fun _ => (List.mem_of_getElem? (i := 1158) (by decide +kernel)), fun h => absurd h (by decide), by decide, by decide⟩
theorem kF_5_43 : q_okF (5, 43, 5, 2, false) := ⟨fun _ => (List.mem_of_getElem? (i := 1160) (by decide +kernel)), fun h => absurd h (by decide), by decide, by decide⟩
theorem kF_5_46 : q_okF (5, 46, 5, 3, false) := ⟨fun _ => (List.mem_of_getElem? (i := 1162) (by decide +kernel)), fun h => absurd h (by decide), by decide, by decide⟩
theorem kF_5_54 : q_okF (5, 54, 5, 7, false) := ⟨fun _ => (List.mem_of_getElem? (i := 1170) (by decide +kernel)), fun h => absurd h (by decide), by decide, by decide⟩
theorem kF_5_58 : q_okF (5, 58, 5, 15, false) := ⟨fun _ => (List.mem_of_getElem? (i := 1184) (by decide +kernel)), fun h => absurd h (by decide), by decide, by decide⟩
theorem kF_5_62 : q_okF (5, 62, 5, 16, false) := ⟨fun _ => (List.mem_of_getElem? (i := 1186) (by decide +kernel)), fun h => absurd h (by decide), by decide, by decide⟩
theorem kF_5_71 : q_okF (5, 71, 5, 4, false) := ⟨fun _ => (List.mem_of_getElem? (i := 1164) (by decide +kernel)), fun h => absurd h (by decide), by decide, by decide⟩
theorem kF_5_74 : q_okF (5, 74, 5, 5, false) := ⟨fun _ => (List.mem_of_getElem? (i := 1166) (by decide +kernel)), fun h => absurd h (by decide), by decide, by decide⟩
theorem kF_5_77 : q_okF (5, 77, 5, 6, false) := ⟨fun _ => (List.mem_of_getElem? (i := 1168) (by decide +kernel)), fun h => absurd h (by decide), by decide, by decide⟩
theorem kF_6_9 : q_okF (6, 9, 6, 1, false) := ⟨fun _ => (List.mem_of_getElem? (i := 429) (by decide +kernel)), fun h => absurd h (by decide), by decide, by decide⟩
theorem kF_6_15 : q_okF (6, 15, 6, 3, false) := ⟨fun _ => (List.mem_of_getElem? (i := 433) (by decide +kernel)), fun h => absurd h (by decide), by decide, by decide⟩
theorem kF_6_19 : q_okF (6, 19, 6, 4, false) := ⟨fun _ => (List.mem_of_getElem? (i := 435) (by decide +kernel)), fun h => absurd h (by decide), by decide, by decide⟩
theorem kF_6_22 : q_okF (6, 22, 6, 2, false) := ⟨fun _ => (List.mem_of_getElem? (i := 431) (by decide +kernel)), fun h => absurd h (by decide), by decide, by decide⟩
theorem kF_7_9 : q_okF (7, 9, 7, 0, false) := ⟨fun _ => (List.mem_of_getElem? (i := 367) (by decide +kernel)), fun h => absurd h (by decide), by decide, by decide⟩
theorem kF_7_15 : q_okF (7, 15, 7, 1, false) := ⟨fun _ => (List.mem_of_getElem? (i := 368) (by decide +kernel)), fun h => absurd h (by decide), by decide, by decide⟩
theorem kF_7_18 : q_okF (7, 18, 7, 2, false) := ⟨fun _ => (List.mem_of_getElem? (i := 369) (by decide +kernel)), fun h => absurd h (by decide), by decide, by decide⟩
theorem kF_7_21 : q_okF (7, 21, 7, 5, false) := ⟨fun _ => (List.mem_of_getElem? (i := 373) (by decide +kernel)), fun h => absurd h (by decide), by decide, by decide⟩
theorem kF_7_24 : q_okF (7, 24, 7, 6, false) := ⟨fun _ => (List.mem_of_getElem? (i := 374) (by decide +kernel)), fun h => absurd h (by decide), by decide, by decide⟩
theorem kF_7_27 : q_okF (7, 27, 7, 7, false) := ⟨fun _ => (List.mem_of_getElem? (i := 375) (by decide +kernel)), fun h => absurd h (by decide), by decide, by decide⟩
theorem kF_7_30 : q_okF (7, 30, 7, 8, false) := ⟨fun _ => (List.mem_of_getElem? (i := 376) (by decide +kernel)), fun h => absurd h (by decide), by decide, by decide⟩
theorem kF_7_33 : q_okF (7, 33, 7, 3, false) := ⟨fun _ => (List.mem_of_getElem? (i := 370) (by decide +kernel)), fun h => absurd h (by decide), by decide, by decide⟩
theorem kF_7_37 : q_okF (7, 37, 7, 9, false) := ⟨fun _ => (List.mem_of_getElem? (i := 377) (by decide +kernel)), fun h => absurd h (by decide), by decide, by decide⟩
theorem kF_8_9 : q_okF (8, 9, 8, 0, false) := ⟨fun _ => (List.mem_of_getElem? (i := 407) (by decide +kernel)), fun h => absurd h (by decide), by decide, by decide⟩
theorem kF_8_13 : q_okF (8, 13, 8, 1, false) := ⟨fun _ => (List.mem_of_getElem? (i := 408) (by decide +kernel)), fun h => absurd h (by decide), by decide, by decide⟩
theorem kF_8_17 : q_okF (8, 17, 8, 2, false) := ⟨fun _ => (List.mem_of_getElem? (i := 410) (by decide +kernel)), fun h => absurd h (by decide), by decide, by decide⟩
theorem kF_8_22 : q_okF (8, 22, 8, 3, false) := ⟨fun _ => (List.mem_of_getElem? (i := 412) (by decide +kernel)), fun h => absurd h (by decide), by decide, by decide⟩
theorem kF_9_15 : q_okF (9, 15, 9, 0, false) := ⟨fun _ => (List.mem_of_getElem? (i := 160) (by decide +kernel)), fun h => absurd h (by decide), by decide, by decide⟩
theorem kF_9_21 : q_okF (9, 21, 9, 1, false) := ⟨fun _ => (List.mem_of_getElem? (i := 162) (by decide +kernel)), fun h => absurd h (by decide), by decide, by decide⟩
theorem kF_9_24 : q_okF (9, 24, 9, 2, false) := ⟨fun _ => (List.mem_of_getElem? (i := 164) (by decide +kernel)), fun h => absurd h (by decide), by decide, by decide⟩
theorem kF_9_54 : q_okF (9, 54, 11, 3, true) := ⟨fun h => absurd h (by decide), fun _ => (List.mem_of_getElem? (i := 137) (by decide +kernel)), by decide, by decide⟩
theorem kF_10_13 : q_okF (10, 13, 10, 0, false) := ⟨fun _ => (List.mem_of_getElem? (i := 234) (by decide +kernel)), fun h => absurd h (by decide), by decide, by decide⟩
theorem kF_10_17 : q_okF (10, 17, 10, 1, false) := ⟨fun _ => (List.mem_of_getElem? (i := 235) (by decide +kernel)), fun h => absurd h (by decide), by decide, by decide⟩
theorem kF_10_21 : q_okF (10, 21, 10, 2, false) := ⟨fun _ => (List.mem_of_getElem? (i := 236) (by decide +kernel)), fun h => absurd h (by decide), by decide, by decide⟩
theorem kF_10_24 : q_okF (10, 24, 10, 3, false) := ⟨fun _ => (List.mem_of_getElem? (i := 237) (by decide +kernel)), fun h => absurd h (by decide), by decide, by decide⟩
theorem kF_10_29 : q_okF (10, 29, 10, 5, false) := ⟨fun _ => (List.mem_of_getElem? (i := 240) (by decide +kernel)), fun h => absurd h (by decide), by decide, by decide⟩
theorem kF_10_32 : q_okF (10, 32, 10, 6, false) := ⟨fun _ => (List.mem_of_getElem? (i := 241) (by decide +kernel)), fun h => absurd h (by decide), by decide, by decide⟩
theorem kF_10_35 : q_okF (10, 35, 10, 7, false) := ⟨fun _ => (List.mem_of_getElem? (i := 242) (by decide +kernel)), fun h => absurd h (by decide), by decide, by decide⟩
theorem kF_10_38 : q_okF (10, 38, 10, 4, false) := ⟨fun _ => (List.mem_of_getElem? (i := 239) (by decide +kernel)), fun h => absurd h (by decide), by decide, by decide⟩
theorem kF_10_55 : q_okF (10, 55, 4, 0, true) := ⟨fun h => absurd h (by decide), fun _ => (List.mem_of_getElem? (i := 203) (by decide +kernel)), by decide, by decide⟩
theorem kF_10_58 : q_okF (10, 58, 4, 2, true) := ⟨fun h => absurd h (by decide), fun _ => (List.mem_of_getElem? (i := 208) (by decide +kernel)), by decide, by decide⟩
theorem kF_10_69 : q_okF (10, 69, 4, 4, true) := ⟨fun h => absurd h (by decide), fun _ => (List.mem_of_getElem? (i := 211) (by decide +kernel)), by decide, by decide⟩
theorem kF_11_11 : q_okF (11, 11, 11, 0, false) := ⟨fun _ => (List.mem_of_getElem? (i := 132) (by decide +kernel)), fun h => absurd h (by decide), by decide, by decide⟩
theorem kF_11_15 : q_okF (11, 15, 11, 3, false) := ⟨fun _ => (List.mem_of_getElem? (i := 136) (by decide +kernel)), fun h => absurd h (by decide), by decide, by decide⟩
theorem kF_11_19 : q_okF (11, 19, 11, 1, false) := ⟨fun _ => (List.mem_of_getElem? (i := 133) (by decide +kernel)), fun h => absurd h (by decide), by decide, by decide⟩
theorem kF_11_22 : q_okF (11, 22, 11, 2, false) := ⟨fun _ => (List.mem_of_getElem? (i := 135) (by decide +kernel)), fun h => absurd h (by decide), by decide, by decide⟩
theorem kF_12_11 : q_okF (12, 11, 12, 0, false) := ⟨fun _ => (List.mem_of_getElem? (i := 286) (by decide +kernel)), fun h => absurd h (by decide), by decide, by decide⟩
theorem kF_12_15 : q_okF (12, 15, 12, 1, false) := ⟨fun _ => (List.mem_of_getElem? (i := 287) (by decide +kernel)), fun h => absurd h (by decide), by decide, by decide⟩
theorem kF_12_18 : q_okF (12, 18, 12, 2, false) := ⟨fun _ => (List.mem_of_getElem? (i := 288) (by decide +kernel)), fun h => absurd h (by decide), by decide, by decide⟩
theorem kF_12_21 : q_okF (12, 21, 12, 3, false) := ⟨fun _ => (List.mem_of_getElem? (i := 289) (by decide +kernel)), fun h => absurd h (by decide), by decide, by decide⟩
theorem kF_12_39 : q_okF (12, 39, 12, 5, false) := ⟨fun _ => (List.mem_of_getElem? (i := 293) (by decide +kernel)), fun h => absurd h (by decide), by decide, by decide⟩
theorem kF_12_42 : q_okF (12, 42, 12, 4, false) := ⟨fun _ => (List.mem_of_getElem? (i := 291) (by decide +kernel)), fun h => absurd h (by decide), by decide, by decide⟩
theorem kF_12_58 : q_okF (12, 58, 12, 6, false) := ⟨fun _ => (List.mem_of_getElem? (i := 295) (by decide +kernel)), fun h => absurd h (by decide), by decide, by decide⟩
theorem kF_12_61 : q_okF (12, 61, 12, 8, false) := ⟨fun _ => (List.mem_of_getElem? (i := 298) (by decide +kernel)), fun h => absurd h (by decide), by decide, by decide⟩
theorem kF_13_10 : q_okF (13, 10, 13, 0, false) := ⟨fun _ => (List.mem_of_getElem? (i := 451) (by decide +kernel)), fun h => absurd h (by decide), by decide, by decide⟩
theorem kF_13_18 : q_okF (13, 18, 13, 1, false) := ⟨fun _ => (List.mem_of_getElem? (i := 452) (by decide +kernel)), fun h => absurd h (by decide), by decide, by decide⟩
theorem kF_13_27 : q_okF (13, 27, 13, 3, false) := ⟨fun _ => (List.mem_of_getElem? (i := 454) (by decide +kernel)), fun h => absurd h (by decide), by decide, by decide⟩
theorem kF_13_31 : q_okF (13, 31, 13, 4, false) := ⟨fun _ => (List.mem_of_getElem? (i := 455) (by decide +kernel)), fun h => absurd h (by decide), by decide, by decide⟩
theorem kF_13_37 : q_okF (13, 37, 13, 5, false) := ⟨fun _ => (List.mem_of_getElem? (i := 456) (by decide +kernel)), fun h => absurd h (by decide), by decide, by decide⟩
theorem kF_13_41 : q_okF (13, 41, 13, 6, false) := ⟨fun _ => (List.mem_of_getElem? (i := 457) (by decide +kernel)), fun h => absurd h (by decide), by decide, by decide⟩
theorem kF_13_45 : q_okF (13, 45, 13, 7, false) := ⟨fun _ => (List.mem_of_getElem? (i := 458) (by decide +kernel)), fun h => absurd h (by decide), by decide, by decide⟩
theorem kF_13_52 : q_okF (13, 52, 13, 8, false) := ⟨fun _ => (List.mem_of_getElem? (i := 459) (by decide +kernel)), fun h => absurd h (by decide), by decide, by decide⟩
theorem kF_13_59 : q_okF (13, 59, 13, 9, false) := ⟨fun _ => (List.mem_of_getElem? (i := 460) (by decide +kernel)), fun h => absurd h (by decide), by decide, by decide⟩
theorem kF_13_66 : q_okF (13, 66, 13, 10, false) := ⟨fun _ => (List.mem_of_getElem? (i := 461) (by decide +kernel)), fun h => absurd h (by decide), by decide, by decide⟩
theorem kF_13_73 : q_okF (13, 73, 13, 11, false) := ⟨fun _ => (List.mem_of_getElem? (i := 462) (by decide +kernel)), fun h => absurd h (by decide), by decide, by decide⟩
theorem kF_13_79 : q_okF (13, 79, 13, 12, false) := ⟨fun _ => (List.mem_of_getElem? (i := 463) (by decide +kernel)), fun h => absurd h (by decide), by decide, by decide⟩
theorem kF_13_86 : q_okF (13, 86, 13, 14, false) := ⟨fun _ => (List.mem_of_getElem? (i := 465) (by decide +kernel)), fun h => absurd h (by decide), by decide, by decide⟩
theorem kF_13_93 : q_okF (13, 93, 13, 16, false) := ⟨fun _ => (List.mem_of_getElem? (i := 467) (by decide +kernel)), fun h => absurd h (by decide), by decide, by decide⟩
theorem kF_13_100 : q_okF (13, 100, 13, 19, false) := ⟨fun _ => (List.mem_of_getElem? (i := 470) (by decide +kernel)), fun h => absurd h (by decide), by decide, by decide⟩
theorem kF_13_112 : q_okF (13, 112, 11, 1, true) := ⟨fun h => absurd h (by decide), fun _ => (List.mem_of_getElem? (i := 134) (by decide +kernel)), by decide, by decide⟩
theorem kF_13_124 : q_okF (13, 124, 13, 2, false) := ⟨fun _ => (List.mem_of_getElem? (i := 453) (by decide +kernel)), fun h => absurd h (by decide), by decide, by decide⟩
theorem kF_13_142 : q_okF (13, 142, 11, 3, true) := ⟨fun h => absurd h (by decide), fun _ => (List.mem_of_getElem? (i := 138) (by decide +kernel)), by decide, by decide⟩
theorem kF_13_145 : q_okF (13, 145, 9, 2, true) := ⟨fun h => absurd h (by decide), fun _ => (List.mem_of_getElem? (i := 165) (by decide +kernel)), by decide, by decide⟩
theorem kF_13_173 : q_okF (13, 173, 10, 3, true) := ⟨fun h => absurd h (by decide), fun _ => (List.mem_of_getElem? (i := 238) (by decide +kernel)), by decide, by decide⟩
theorem kF_13_188 : q_okF (13, 188, 3, 2, true) := ⟨fun h => absurd h (by decide), fun _ => (List.mem_of_getElem? (i := 269) (by decide +kernel)), by decide, by decide⟩
theorem kF_13_191 : q_okF (13, 191, 12, 3, true) := ⟨fun h => absurd h (by decide), fun _ => (List.mem_of_getElem? (i := 290) (by decide +kernel)), by decide, by decide⟩
theorem kF_13_197 : q_okF (13, 197, 12, 7, true) := ⟨fun h => absurd h (by decide), fun _ => (List.mem_of_getElem? (i := 297) (by decide +kernel)), by decide, by decide⟩
theorem kF_13_204 : q_okF (13, 204, 12, 5, true) := ⟨fun h => absurd h (by decide), fun _ => (List.mem_of_getElem? (i := 294) (by decide +kernel)), by decide, by decide⟩
theorem kF_13_221 : q_okF (13, 221, 1, 1, true) := ⟨fun h => absurd h (by decide), fun _ => (List.mem_of_getElem? (i := 327) (by decide +kernel)), by decide, by decide⟩
theorem kF_13_225 : q_okF (13, 225, 2, 1, true) := ⟨fun h => absurd h (by decide), fun _ => (List.mem_of_getElem? (i := 191) (by decide +kernel)), by decide, by decide⟩
theorem kF_13_231 : q_okF (13, 231, 13, 13, false) := ⟨fun _ => (List.mem_of_getElem? (i := 464) (by decide +kernel)), fun h => absurd h (by decide), by decide, by decide⟩
theorem kF_13_234 : q_okF (13, 234, 6, 0, true) := ⟨fun h => absurd h (by decide), fun _ => (List.mem_of_getElem? (i := 428) (by decide +kernel)), by decide, by decide⟩
theorem kF_13_246 : q_okF (13, 246, 5, 7, true) := ⟨fun h => absurd h (by decide), fun _ => (List.mem_of_getElem? (i := 1171) (by decide +kernel)), by decide, by decide⟩
theorem kF_13_251 : q_okF (13, 251, 5, 8, true) := ⟨fun h => absurd h (by decide), fun _ => (List.mem_of_getElem? (i := 1173) (by decide +kernel)), by decide, by decide⟩
theorem kF_13_265 : q_okF (13, 265, 5, 9, true) := ⟨fun h => absurd h (by decide), fun _ => (List.mem_of_getElem? (i := 1175) (by decide +kernel)), by decide, by decide⟩
theorem kF_13_268 : q_okF (13, 268, 5, 1, true) := ⟨fun h => absurd h (by decide), fun _ => (List.mem_of_getElem? (i := 1159) (by decide +kernel)), by decide, by decide⟩
theorem kF_13_274 : q_okF (13, 274, 5, 10, true) := ⟨fun h => absurd h (by decide), fun _ => (List.mem_of_getElem? (i := 1177) (by decide +kernel)), by decide, by decide⟩
theorem kF_13_277 : q_okF (13, 277, 13, 15, false) := ⟨fun _ => (List.mem_of_getElem? (i := 466) (by decide +kernel)), fun h => absurd h (by decide), by decide, by decide⟩
theorem kF_13_284 : q_okF (13, 284, 5, 11, true) := ⟨fun h => absurd h (by decide), fun _ => (List.mem_of_getElem? (i := 1178) (by decide +kernel)), by decide, by decide⟩
theorem kF_13_287 : q_okF (13, 287, 5, 12, true) := ⟨fun h => absurd h (by decide), fun _ => (List.mem_of_getElem? (i := 1180) (by decide +kernel)), by decide, by decide⟩
theorem kF_13_290 : q_okF (13, 290, 5, 13, true) := ⟨fun h => absurd h (by decide), fun _ => (List.mem_of_getElem? (i := 1182) (by decide +kernel)), by decide, by decide⟩
theorem kF_13_296 : q_okF (13, 296, 5, 4, true) := ⟨fun h => absurd h (by decide), fun _ => (List.mem_of_getElem? (i := 1165) (by decide +kernel)), by decide, by decide⟩
theorem kF_13_299 : q_okF (13, 299, 5, 5, true) := ⟨fun h => absurd h (by decide), fun _ => (List.mem_of_getElem? (i := 1167) (by decide +kernel)), by decide, by decide⟩
theorem kF_13_302 : q_okF (13, 302, 5, 6, true) := ⟨fun h => absurd h (by decide), fun _ => (List.mem_of_getElem? (i := 1169) (by decide +kernel)), by decide, by decide⟩
theorem kF_13_305 : q_okF (13, 305, 5, 0, true) := ⟨fun h => absurd h (by decide), fun _ => (List.mem_of_getElem? (i := 1157) (by decide +kernel)), by decide, by decide⟩
theorem kF_13_308 : q_okF (13, 308, 6, 3, true) := ⟨fun h => absurd h (by decide), fun _ => (List.mem_of_getElem? (i := 434) (by decide +kernel)), by decide, by decide⟩
theorem kF_13_311 : q_okF (13, 311, 6, 2, true) := ⟨fun h => absurd h (by decide), fun _ => (List.mem_of_getElem? (i := 432) (by decide +kernel)), by decide, by decide⟩
theorem kF_13_314 : q_okF (13, 314, 6, 4, true) := ⟨fun h => absurd h (by decide), fun _ => (List.mem_of_getElem? (i := 436) (by decide +kernel)), by decide, by decide⟩
theorem kF_13_317 : q_okF (13, 317, 6, 5, true) := ⟨fun h => absurd h (by decide), fun _ => (List.mem_of_getElem? (i := 437) (by decide +kernel)), by decide, by decide⟩
theorem kF_13_324 : q_okF (13, 324, 5, 16, true) := ⟨fun h => absurd h (by decide), fun _ => (List.mem_of_getElem? (i := 1187) (by decide +kernel)), by decide, by decide⟩
theorem kF_13_330 : q_okF (13, 330, 4, 0, true) := ⟨fun h => absurd h (by decide), fun _ => (List.mem_of_getElem? (i := 204) (by decide +kernel)), by decide, by decide⟩
theorem kF_13_333 : q_okF (13, 333, 4, 1, true) := ⟨fun h => absurd h (by decide), fun _ => (List.mem_of_getElem? (i := 206) (by decide +kernel)), by decide, by decide⟩
theorem kF_13_336 : q_okF (13, 336, 7, 4, true) := ⟨fun h => absurd h (by decide), fun _ => (List.mem_of_getElem? (i := 372) (by decide +kernel)), by decide, by decide⟩
theorem kF_13_350 : q_okF (13, 350, 5, 14, true) := ⟨fun h => absurd h (by decide), fun _ => (List.mem_of_getElem? (i := 1183) (by decide +kernel)), by decide, by decide⟩
theorem kF_13_353 : q_okF (13, 353, 5, 2, true) := ⟨fun h => absurd h (by decide), fun _ => (List.mem_of_getElem? (i := 1161) (by decide +kernel)), by decide, by decide⟩
theorem kF_13_356 : q_okF (13, 356, 5, 3, true) := ⟨fun h => absurd h (by decide), fun _ => (List.mem_of_getElem? (i := 1163) (by decide +kernel)), by decide, by decide⟩
theorem kF_13_375 : q_okF (13, 375, 13, 17, false) := ⟨fun _ => (List.mem_of_getElem? (i := 468) (by decide +kernel)), fun h => absurd h (by decide), by decide, by decide⟩
theorem kF_13_378 : q_okF (13, 378, 13, 18, false) := ⟨fun _ => (List.mem_of_getElem? (i := 469) (by decide +kernel)), fun h => absurd h (by decide), by decide, by decide⟩
theorem kF_13_384 : q_okF (13, 384, 8, 1, true) := ⟨fun h => absurd h (by decide), fun _ => (List.mem_of_getElem? (i := 409) (by decide +kernel)), by decide, by decide⟩
theorem kF_13_387 : q_okF (13, 387, 8, 2, true) := ⟨fun h => absurd h (by decide), fun _ => (List.mem_of_getElem? (i := 411) (by decide +kernel)), by decide, by decide⟩
theorem kF_13_396 : q_okF (13, 396, 8, 3, true) := ⟨fun h => absurd h (by decide), fun _ => (List.mem_of_getElem? (i := 413) (by decide +kernel)), by decide, by decide⟩
theorem kF_13_406 : q_okF (13, 406, 12, 4, true) := ⟨fun h => absurd h (by decide), fun _ => (List.mem_of_getElem? (i := 292) (by decide +kernel)), by decide, by decide⟩
theorem kF_13_409 : q_okF (13, 409, 12, 6, true) := ⟨fun h => absurd h (by decide), fun _ => (List.mem_of_getElem? (i := 296) (by decide +kernel)), by decide, by decide⟩
theorem kF_13_415 : q_okF (13, 415, 12, 8, true) := ⟨fun h => absurd h (by decide), fun _ => (List.mem_of_getElem? (i := 299) (by decide +kernel)), by decide, by decide⟩
theorem kF_13_421 : q_okF (13, 421, 7, 3, true) := ⟨fun h => absurd h (by decide), fun _ => (List.mem_of_getElem? (i := 371) (by decide +kernel)), by decide, by decide⟩
theorem kF_13_461 : q_okF (13, 461, 9, 0, true) := ⟨fun h => absurd h (by decide), fun _ => (List.mem_of_getElem? (i := 161) (by decide +kernel)), by decide, by decide⟩
theorem kF_13_464 : q_okF (13, 464, 9, 1, true) := ⟨fun h => absurd h (by decide), fun _ => (List.mem_of_getElem? (i := 163) (by decide +kernel)), by decide, by decide⟩
theorem kF_13_486 : q_okF (13, 486, 6, 1, true) := ⟨fun h => absurd h (by decide), fun _ => (List.mem_of_getElem? (i := 430) (by decide +kernel)), by decide, by decide⟩
theorem kF_13_523 : q_okF (13, 523, 5, 15, true) := ⟨fun h => absurd h (by decide), fun _ => (List.mem_of_getElem? (i := 1185) (by decide +kernel)), by decide, by decide⟩
theorem kF_14_9 : q_okF (14, 9, 14, 1, false) := ⟨fun _ => (List.mem_of_getElem? (i := 1586) (by decide +kernel)), fun h => absurd h (by decide), by decide, by decide⟩
theorem kF_14_13 : q_okF (14, 13, 14, 6, false) := ⟨fun _ => (List.mem_of_getElem? (i := 1591) (by decide +kernel)), fun h => absurd h (by decide), by decide, by decide⟩
theorem kF_14_17 : q_okF (14, 17, 14, 7, false) := ⟨fun _ => (List.mem_of_getElem? (i := 1592) (by decide +kernel)), fun h => absurd h (by decide), by decide, by decide⟩
theorem kF_14_21 : q_okF (14, 21, 14, 8, false) := ⟨fun _ => (List.mem_of_getElem? (i := 1593) (by decide +kernel)), fun h => absurd h (by decide), by decide, by decide⟩
theorem kF_14_24 : q_okF (14, 24, 14, 9, false) := ⟨fun _ => (List.mem_of_getElem? (i := 1594) (by decide +kernel)), fun h => absurd h (by decide), by decide, by decide⟩
theorem kF_14_27 : q_okF (14, 27, 14, 10, false) := ⟨fun _ => (List.mem_of_getElem? (i := 1595) (by decide +kernel)), fun h => absurd h (by decide), by decide, by decide⟩
theorem kF_14_30 : q_okF (14, 30, 14, 11, false) := ⟨fun _ => (List.mem_of_getElem? (i := 1596) (by decide +kernel)), fun h => absurd h (by decide), by decide, by decide⟩
theorem kF_14_33 : q_okF (14, 33, 14, 12, false) := ⟨fun _ => (List.mem_of_getElem? (i := 1597) (by decide +kernel)), fun h => absurd h (by decide), by decide, by decide⟩
theorem kF_14_36 : q_okF (14, 36, 14, 13, false) := ⟨fun _ => (List.mem_of_getElem? (i := 1598) (by decide +kernel)), fun h => absurd h (by decide), by decide, by decide⟩
theorem kF_14_39 : q_okF (14, 39, 14, 15, false) := ⟨fun _ => (List.mem_of_getElem? (i := 1600) (by decide +kernel)), fun h => absurd h (by decide), by decide, by decide⟩
theorem kF_14_42 : q_okF (14, 42, 14, 16, false) := ⟨fun _ => (List.mem_of_getElem? (i := 1601) (by decide +kernel)), fun h => absurd h (by decide), by decide, by decide⟩
theorem kF_14_45 : q_okF (14, 45, 14, 17, false) := ⟨fun _ => (List.mem_of_getElem? (i := 1602) (by decide +kernel)), fun h => absurd h (by decide), by decide, by decide⟩
theorem kF_14_48 : q_okF (14, 48, 14, 23, false) := ⟨fun _ => (List.mem_of_getElem? (i := 1608) (by decide +kernel)), fun h => absurd h (by decide), by decide, by decide⟩
theorem kF_14_51 : q_okF (14, 51, 14, 24, false) := ⟨fun _ => (List.mem_of_getElem? (i := 1609) (by decide +kernel)), fun h => absurd h (by decide), by decide, by decide⟩
theorem kF_14_54 : q_okF (14, 54, 14, 26, false) := ⟨fun _ => (List.mem_of_getElem? (i := 1611) (by decide +kernel)), fun h => absurd h (by decide), by decide, by decide⟩
theorem kF_14_57 : q_okF (14, 57, 14, 27, false) := ⟨fun _ => (List.mem_of_getElem? (i := 1612) (by decide +kernel)), fun h => absurd h (by decide), by decide, by decide⟩
theorem kF_14_60 : q_okF (14, 60, 14, 28, false) := ⟨fun _ => (List.mem_of_getElem? (i := 1613) (by decide +kernel)), fun h => absurd h (by decide), by decide, by decide⟩
theorem kF_14_63 : q_okF (14, 63, 14, 29, false) := ⟨fun _ => (List.mem_of_getElem? (i := 1614) (by decide +kernel)), fun h => absurd h (by decide), by decide, by decide⟩
theorem kF_14_66 : q_okF (14, 66, 14, 38, false) := ⟨fun _ => (List.mem_of_getElem? (i := 1623) (by decide +kernel)), fun h => absurd h (by decide), by decide, by decide⟩
theorem kF_14_69 : q_okF (14, 69, 14, 40, false) := ⟨fun _ => (List.mem_of_getElem? (i := 1625) (by decide +kernel)), fun h => absurd h (by decide), by decide, by decide⟩
theorem kF_14_72 : q_okF (14, 72, 14, 43, false) := ⟨fun _ => (List.mem_of_getElem? (i := 1628) (by decide +kernel)), fun h => absurd h (by decide), by decide, by decide⟩
theorem kF_14_75 : q_okF (14, 75, 14, 44, false) := ⟨fun _ => (List.mem_of_getElem? (i := 1629) (by decide +kernel)), fun h => absurd h (by decide), by decide, by decide⟩
theorem kF_14_78 : q_okF (14, 78, 14, 45, false) := ⟨fun _ => (List.mem_of_getElem? (i := 1630) (by decide +kernel)), fun h => absurd h (by decide), by decide, by decide⟩
theorem kF_14_81 : q_okF (14, 81, 14, 46, false) := ⟨fun _ => (List.mem_of_getElem? (i := 1631) (by decide +kernel)), fun h => absurd h (by decide), by decide, by decide⟩
theorem kF_14_84 : q_okF (14, 84, 14, 48, false) := ⟨fun _ => (List.mem_of_getElem? (i := 1633) (by decide +kernel)), fun h => absurd h (by decide), by decide, by decide⟩
theorem kF_14_87 : q_okF (14, 87, 14, 49, false) := ⟨fun _ => (List.mem_of_getElem? (i := 1634) (by decide +kernel)), fun h => absurd h (by decide), by decide, by decide⟩
theorem kF_14_90 : q_okF (14, 90, 14, 50, false) := ⟨fun _ => (List.mem_of_getElem? (i := 1635) (by decide +kernel)), fun h => absurd h (by decide), by decide, by decide⟩
theorem kF_14_93 : q_okF (14, 93, 14, 51, false) := ⟨fun _ => (List.mem_of_getElem? (i := 1636) (by decide +kernel)), fun h => absurd h (by decide), by decide, by decide⟩
theorem kF_14_96 : q_okF (14, 96, 14, 52, false) := ⟨fun _ => (List.mem_of_getElem? (i := 1637) (by decide +kernel)), fun h => absurd h (by decide), by decide, by decide⟩
theorem kF_14_99 : q_okF (14, 99, 14, 53, false) := ⟨fun _ => (List.mem_of_getElem? (i := 1638) (by decide +kernel)), fun h => absurd h (by decide), by decide, by decide⟩
theorem kF_14_102 : q_okF (14, 102, 14, 54, false) := ⟨fun _ => (List.mem_of_getElem? (i := 1639) (by decide +kernel)), fun h => absurd h (by decide), by decide, by decide⟩
theorem kF_14_105 : q_okF (14, 105, 14, 55, false) := ⟨fun _ => (List.mem_of_getElem? (i := 1640) (by decide +kernel)), fun h => absurd h (by decide), by decide, by decide⟩
theorem kF_14_108 : q_okF (14, 108, 14, 56, false) := ⟨fun _ => (List.mem_of_getElem? (i := 1641) (by decide +kernel)), fun h => absurd h (by decide), by decide, by decide⟩
theorem kF_14_111 : q_okF (14, 111, 14, 57, false) := ⟨fun _ => (List.mem_of_getElem? (i := 1642) (by decide +kernel)), fun h => absurd h (by decide), by decide, by decide⟩
theorem kF_14_114 : q_okF (14, 114, 14, 58, false) := ⟨fun _ => (List.mem_of_getElem? (i := 1643) (by decide +kernel)), fun h => absurd h (by decide), by decide, by decide⟩
theorem kF_14_117 : q_okF (14, 117, 14, 59, false) := ⟨fun _ => (List.mem_of_getElem? (i := 1644) (by decide +kernel)), fun h => absurd h (by decide), by decide, by decide⟩
theorem kF_14_120 : q_okF (14, 120, 14, 60, false) := ⟨fun _ => (List.mem_of_getElem? (i := 1645) (by decide +kernel)), fun h => absurd h (by decide), by decide, by decide⟩
theorem kF_14_123 : q_okF (14, 123, 14, 61, false) := ⟨fun _ => (List.mem_of_getElem? (i := 1646) (by decide +kernel)), fun h => absurd h (by decide), by decide, by decide⟩
theorem kF_14_126 : q_okF (14, 126, 14, 64, false) := ⟨fun _ => (List.mem_of_getElem? (i := 1649) (by decide +kernel)), fun h => absurd h (by decide), by decide, by decide⟩
theorem kF_14_129 : q_okF (14, 129, 14, 65, false) := ⟨fun _ => (List.mem_of_getElem? (i := 1650) (by decide +kernel)), fun h => absurd h (by decide), by decide, by decide⟩
theorem kF_14_132 : q_okF (14, 132, 14, 66, false) := ⟨fun _ => (List.mem_of_getElem? (i := 1651) (by decide +kernel)), fun h => absurd h (by decide), by decide, by decide⟩
theorem kF_14_135 : q_okF (14, 135, 14, 67, false) := ⟨fun _ => (List.mem_of_getElem? (i := 1652) (by decide +kernel)), fun h => absurd h (by decide), by decide, by decide⟩
theorem kF_14_138 : q_okF (14, 138, 14, 68, false) := ⟨fun _ => (List.mem_of_getElem? (i := 1653) (by decide +kernel)), fun h => absurd h (by decide), by decide, by decide⟩
theorem kF_14_141 : q_okF (14, 141, 14, 71, false) := ⟨fun _ => (List.mem_of_getElem? (i := 1656) (by decide +kernel)), fun h => absurd h (by decide), by decide, by decide⟩
theorem kF_14_144 : q_okF (14, 144, 14, 72, false) := ⟨fun _ => (List.mem_of_getElem? (i := 1657) (by decide +kernel)), fun h => absurd h (by decide), by decide, by decide⟩
theorem kF_14_147 : q_okF (14, 147, 14, 76, false) := ⟨fun _ => (List.mem_of_getElem? (i := 1661) (by decide +kernel)), fun h => absurd h (by decide), by decide, by decide⟩
theorem kF_14_150 : q_okF (14, 150, 14, 77, false) := ⟨fun _ => (List.mem_of_getElem? (i := 1662) (by decide +kernel)), fun h => absurd h (by decide), by decide, by decide⟩
theorem kF_14_153 : q_okF (14, 153, 14, 78, false) := ⟨fun _ => (List.mem_of_getElem? (i := 1663) (by decide +kernel)), fun h => absurd h (by decide), by decide, by decide⟩
theorem kF_14_156 : q_okF (14, 156, 14, 79, false) := ⟨fun _ => (List.mem_of_getElem? (i := 1664) (by decide +kernel)), fun h => absurd h (by decide), by decide, by decide⟩
theorem kF_14_159 : q_okF (14, 159, 14, 0, false) := ⟨fun _ => (List.mem_of_getElem? (i := 1585) (by decide +kernel)), fun h => absurd h (by decide), by decide, by decide⟩
theorem kF_14_162 : q_okF (14, 162, 14, 2, false) := ⟨fun _ => (List.mem_of_getElem? (i := 1587) (by decide +kernel)), fun h => absurd h (by decide), by decide, by decide⟩
theorem kF_14_165 : q_okF (14, 165, 14, 4, false) := ⟨fun _ => (List.mem_of_getElem? (i := 1589) (by decide +kernel)), fun h => absurd h (by decide), by decide, by decide⟩
theorem kF_14_168 : q_okF (14, 168, 14, 3, false) := ⟨fun _ => (List.mem_of_getElem? (i := 1588) (by decide +kernel)), fun h => absurd h (by decide), by decide, by decide⟩
theorem kF_14_175 : q_okF (14, 175, 14, 5, false) := ⟨fun _ => (List.mem_of_getElem? (i := 1590) (by decide +kernel)), fun h => absurd h (by decide), by decide, by decide⟩
theorem kF_14_231 : q_okF (14, 231, 14, 14, false) := ⟨fun _ => (List.mem_of_getElem? (i := 1599) (by decide +kernel)), fun h => absurd h (by decide), by decide, by decide⟩
theorem kF_14_272 : q_okF (14, 272, 14, 20, false) := ⟨fun _ => (List.mem_of_getElem? (i := 1605) (by decide +kernel)), fun h => absurd h (by decide), by decide, by decide⟩
theorem kF_14_275 : q_okF (14, 275, 14, 21, false) := ⟨fun _ => (List.mem_of_getElem? (i := 1606) (by decide +kernel)), fun h => absurd h (by decide), by decide, by decide⟩
theorem kF_14_278 : q_okF (14, 278, 14, 22, false) := ⟨fun _ => (List.mem_of_getElem? (i := 1607) (by decide +kernel)), fun h => absurd h (by decide), by decide, by decide⟩
theorem kF_14_281 : q_okF (14, 281, 14, 18, false) := ⟨fun _ => (List.mem_of_getElem? (i := 1603) (by decide +kernel)), fun h => absurd h (by decide), by decide, by decide⟩
theorem kF_14_284 : q_okF (14, 284, 14, 19, false) := ⟨fun _ => (List.mem_of_getElem? (i := 1604) (by decide +kernel)), fun h => absurd h (by decide), by decide, by decide⟩
theorem kF_14_301 : q_okF (14, 301, 14, 25, false) := ⟨fun _ => (List.mem_of_getElem? (i := 1610) (by decide +kernel)), fun h => absurd h (by decide), by decide, by decide⟩
theorem kF_14_308 : q_okF (14, 308, 14, 30, false) := ⟨fun _ => (List.mem_of_getElem? (i := 1615) (by decide +kernel)), fun h => absurd h (by decide), by decide, by decide⟩
theorem kF_14_313 : q_okF (14, 313, 14, 35, false) := ⟨fun _ => (List.mem_of_getElem? (i := 1620) (by decide +kernel)), fun h => absurd h (by decide), by decide, by decide⟩
theorem kF_14_316 : q_okF (14, 316, 14, 36, false) := ⟨fun _ => (List.mem_of_getElem? (i := 1621) (by decide +kernel)), fun h => absurd h (by decide), by decide, by decide⟩
theorem kF_14_322 : q_okF (14, 322, 14, 31, false) := ⟨fun _ => (List.mem_of_getElem? (i := 1616) (by decide +kernel)), fun h => absurd h (by decide), by decide, by decide⟩
theorem kF_14_325 : q_okF (14, 325, 14, 37, false) := ⟨fun _ => (List.mem_of_getElem? (i := 1622) (by decide +kernel)), fun h => absurd h (by decide), by decide, by decide⟩
theorem kF_14_328 : q_okF (14, 328, 14, 32, false) := ⟨fun _ => (List.mem_of_getElem? (i := 1617) (by decide +kernel)), fun h => absurd h (by decide), by decide, by decide⟩
theorem kF_14_331 : q_okF (14, 331, 14, 34, false) := ⟨fun _ => (List.mem_of_getElem? (i := 1619) (by decide +kernel)), fun h => absurd h (by decide), by decide, by decide⟩
theorem kF_14_337 : q_okF (14, 337, 14, 33, false) := ⟨fun _ => (List.mem_of_getElem? (i := 1618) (by decide +kernel)), fun h => absurd h (by decide), by decide, by decide⟩
theorem kF_14_344 : q_okF (14, 344, 14, 39, false) := ⟨fun _ => (List.mem_of_getElem? (i := 1624) (by decide +kernel)), fun h => absurd h (by decide), by decide, by decide⟩
theorem kF_14_388 : q_okF (14, 388, 14, 41, false) := ⟨fun _ => (List.mem_of_getElem? (i := 1626) (by decide +kernel)), fun h => absurd h (by decide), by decide, by decide⟩
theorem kF_14_391 : q_okF (14, 391, 14, 62, false) := ⟨fun _ => (List.mem_of_getElem? (i := 1647) (by decide +kernel)), fun h => absurd h (by decide), by decide, by decide⟩
theorem kF_14_394 : q_okF (14, 394, 14, 47, false) := ⟨fun _ => (List.mem_of_getElem? (i := 1632) (by decide +kernel)), fun h => absurd h (by decide), by decide, by decide⟩
theorem kF_14_407 : q_okF (14, 407, 14, 63, false) := ⟨fun _ => (List.mem_of_getElem? (i := 1648) (by decide +kernel)), fun h => absurd h (by decide), by decide, by decide⟩
theorem kF_14_410 : q_okF (14, 410, 14, 42, false) := ⟨fun _ => (List.mem_of_getElem? (i := 1627) (by decide +kernel)), fun h => absurd h (by decide), by decide, by decide⟩
theorem kF_14_432 : q_okF (14, 432, 14, 69, false) := ⟨fun _ => (List.mem_of_getElem? (i := 1654) (by decide +kernel)), fun h => absurd h (by decide), by decide, by decide⟩
theorem kF_14_435 : q_okF (14, 435, 14, 70, false) := ⟨fun _ => (List.mem_of_getElem? (i := 1655) (by decide +kernel)), fun h => absurd h (by decide), by decide, by decide⟩
theorem kF_14_447 : q_okF (14, 447, 14, 73, false) := ⟨fun _ => (List.mem_of_getElem? (i := 1658) (by decide +kernel)), fun h => absurd h (by decide), by decide, by decide⟩
theorem kF_14_450 : q_okF (14, 450, 14, 75, false) := ⟨fun _ => (List.mem_of_getElem? (i := 1660) (by decide +kernel)), fun h => absurd h (by decide), by decide, by decide⟩
theorem kF_14_459 : q_okF (14, 459, 14, 74, false) := ⟨fun _ => (List.mem_of_getElem? (i := 1659) (by decide +kernel)), fun h => absurd h (by decide), by decide, by decide⟩
def q_lF_1 : List (Nat × Nat × Nat × Nat × Bool) := [(1, 11, 1, 0, false), (1, 15, 1, 1, false)]
set_option maxRecDepth 20000 in
theorem kF_1 : ∀ e ∈ q_lF_1, q_okF e := List.forall_mem_cons.mpr ⟨kF_1_11, List.forall_mem_cons.mpr ⟨kF_1_15, fun _ h => absurd h List.not_mem_nil⟩⟩
def q_lF_2 : List (Nat × Nat × Nat × Nat × Bool) := [(2, 20, 2, 0, false), (2, 29, 2, 1, false)]
set_option maxRecDepth 20000 in
theorem kF_2 : ∀ e ∈ q_lF_2, q_okF e := List.forall_mem_cons.mpr ⟨kF_2_20, List.forall_mem_cons.mpr ⟨kF_2_29, fun _ h => absurd h List.not_mem_nil⟩⟩
def q_lF_3 : List (Nat × Nat × Nat × Nat × Bool) := [(3, 11, 3, 0, false), (3, 15, 3, 1, false), (3, 18, 3, 3, false), (3, 21, 3, 2, false)]
set_option maxRecDepth 20000 in
theorem kF_3 : ∀ e ∈ q_lF_3, q_okF e := List.forall_mem_cons.mpr ⟨kF_3_11, List.forall_mem_cons.mpr ⟨kF_3_15, List.forall_mem_cons.mpr ⟨kF_3_18, List.forall_mem_cons.mpr ⟨kF_3_21, fun _ h => absurd h List.not_mem_nil⟩⟩⟩⟩
def q_lF_4 : List (Nat × Nat × Nat × Nat × Bool) := [(4, 9, 4, 0, false), (4, 15, 4, 1, false), (4, 18, 4, 2, false), (4, 21, 4, 3, false), (4, 24, 4, 4, false), (4, 28, 4, 5, false)]
set_option maxRecDepth 20000 in
theorem kF_4 : ∀ e ∈ q_lF_4, q_okF e := List.forall_mem_cons.mpr ⟨kF_4_9, List.forall_mem_cons.mpr ⟨kF_4_15, List.forall_mem_cons.mpr ⟨kF_4_18, List.forall_mem_cons.mpr ⟨kF_4_21, List.forall_mem_cons.mpr ⟨kF_4_24, List.forall_mem_cons.mpr ⟨kF_4_28, fun _ h => absurd h List.not_mem_nil⟩⟩⟩⟩⟩⟩
def q_lF_5 : List (Nat × Nat × Nat × Nat × Bool) := [(5, 12, 5, 8, false), (5, 18, 5, 9, false), (5, 22, 5, 10, false), (5, 25, 5, 12, false), (5, 28, 5, 13, false), (5, 31, 5, 0, false), (5, 40, 5, 1, false), (5, 43, 5, 2, false), (5, 46, 5, 3, false), (5, 54, 5, 7, false), (5, 58, 5, 15, false), (5, 62, 5, 16, false), (5, 71, 5, 4, false), (5, 74, 5, 5, false), (5, 77, 5, 6, false)]
set_option maxRecDepth 20000 in
theorem kF_5 : ∀ e ∈ q_lF_5, q_okF e := List.forall_mem_cons.mpr ⟨kF_5_12, List.forall_mem_cons.mpr ⟨kF_5_18, List.forall_mem_cons.mpr ⟨kF_5_22, List.forall_mem_cons.mpr ⟨kF_5_25, List.forall_mem_cons.mpr ⟨kF_5_28, List.forall_mem_cons.mpr ⟨kF_5_31, List.forall_mem_cons.mpr ⟨kF_5_40, List.forall_mem_cons.mpr ⟨kF_5_43, List.forall_mem_cons.mpr ⟨kF_5_46, List.forall_mem_cons.mpr ⟨kF_5_54, List.forall_mem_cons.mpr ⟨kF_5_58, List.forall_mem_cons.mpr ⟨kF_5_62, List.forall_mem_cons.mpr ⟨kF_5_71, List.forall_mem_cons.mpr ⟨kF_5_74, List.forall_mem_cons.mpr ⟨kF_5_77, fun _ h => absurd h List.not_mem_nil⟩⟩⟩⟩⟩⟩⟩⟩⟩⟩⟩⟩⟩⟩⟩
def q_lF_6 : List (Nat × Nat × Nat × Nat × Bool) := [(6, 9, 6, 1, false), (6, 15, 6, 3, false), (6, 19, 6, 4, false), (6, 22, 6, 2, false)]
set_option maxRecDepth 20000 in
theorem kF_6 : ∀ e ∈ q_lF_6, q_okF e := List.forall_mem_cons.mpr ⟨kF_6_9, List.forall_mem_cons.mpr ⟨kF_6_15, List.forall_mem_cons.mpr ⟨kF_6_19, List.forall_mem_cons.mpr ⟨kF_6_22, fun _ h => absurd h List.not_mem_nil⟩⟩⟩⟩
def q_lF_7 : List (Nat × Nat × Nat × Nat × Bool) := [(7, 9, 7, 0, false), (7, 15, 7, 1, false), (7, 18, 7, 2, false), (7, 21, 7, 5, false), (7, 24, 7, 6, false), (7, 27, 7, 7, false), (7, 30, 7, 8, false), (7, 33, 7, 3, false), (7, 37, 7, 9, false)]
set_option maxRecDepth 20000 in
theorem kF_7 : ∀ e ∈ q_lF_7, q_okF e := List.forall_mem_cons.mpr ⟨kF_7_9, List.forall_mem_cons.mpr ⟨kF_7_15, List.forall_mem_cons.mpr ⟨kF_7_18, List.forall_mem_cons.mpr ⟨kF_7_21, List.forall_mem_cons.mpr ⟨kF_7_24, List.forall_mem_cons.mpr ⟨kF_7_27, List.forall_mem_cons.mpr ⟨kF_7_30, List.forall_mem_cons.mpr ⟨kF_7_33, List.forall_mem_cons.mpr ⟨kF_7_37, fun _ h => absurd h List.not_mem_nil⟩⟩⟩⟩⟩⟩⟩⟩⟩
def q_lF_8 : List (Nat × Nat × Nat × Nat × Bool) := [(8, 9, 8, 0, false), (8, 13, 8, 1, false), (8, 17, 8, 2, false), (8, 22, 8, 3, false)]
set_option maxRecDepth 20000 in
theorem kF_8 : ∀ e ∈ q_lF_8, q_okF e := List.forall_mem_cons.mpr ⟨kF_8_9, List.forall_mem_cons.mpr ⟨kF_8_13, List.forall_mem_cons.mpr ⟨kF_8_17, List.forall_mem_cons.mpr ⟨kF_8_22, fun _ h => absurd h List.not_mem_nil⟩⟩⟩⟩
def q_lF_9 : List (Nat × Nat × Nat × Nat × Bool) := [(9, 15, 9, 0, false), (9, 21, 9, 1, false), (9, 24, 9, 2, false), (9, 54, 11, 3, true)]
set_option maxRecDepth 20000 in
theorem kF_9 : ∀ e ∈ q_lF_9, q_okF e := List.forall_mem_cons.mpr ⟨kF_9_15, List.forall_mem_cons.mpr ⟨kF_9_21, List.forall_mem_cons.mpr ⟨kF_9_24, List.forall_mem_cons.mpr ⟨kF_9_54, fun _ h => absurd h List.not_mem_nil⟩⟩⟩⟩
def q_lF_10 : List (Nat × Nat × Nat × Nat × Bool) := [(10, 13, 10, 0, false), (10, 17, 10, 1, false), (10, 21, 10, 2, false), (10, 24, 10, 3, false), (10, 29, 10, 5, false), (10, 32, 10, 6, false), (10, 35, 10, 7, false), (10, 38, 10, 4, false), (10, 55, 4, 0, true), (10, 58, 4, 2, true), (10, 69, 4, 4, true)]
set_option maxRecDepth 20000 in
theorem kF_10 : ∀ e ∈ q_lF_10, q_okF e := List.forall_mem_cons.mpr ⟨kF_10_13, List.forall_mem_cons.mpr ⟨kF_10_17, List.forall_mem_cons.mpr ⟨kF_10_21, List.forall_mem_cons.mpr ⟨kF_10_24, List.forall_mem_cons.mpr ⟨kF_10_29, List.forall_mem_cons.mpr ⟨kF_10_32, List.forall_mem_cons.mpr ⟨kF_10_35, List.forall_mem_cons.mpr ⟨kF_10_38, List.forall_mem_cons.mpr ⟨kF_10_55, List.forall_mem_cons.mpr ⟨kF_10_58, List.forall_mem_cons.mpr ⟨kF_10_69, fun _ h => absurd h List.not_mem_nil⟩⟩⟩⟩⟩⟩⟩⟩⟩⟩⟩
def q_lF_11 : List (Nat × Nat × Nat × Nat × Bool) := [(11, 11, 11, 0, false), (11, 15, 11, 3, false), (11, 19, 11, 1, false), (11, 22, 11, 2, false)]
set_option maxRecDepth 20000 in
theorem kF_11 : ∀ e ∈ q_lF_11, q_okF e := List.forall_mem_cons.mpr ⟨kF_11_11, List.forall_mem_cons.mpr ⟨kF_11_15, List.forall_mem_cons.mpr ⟨kF_11_19, List.forall_mem_cons.mpr ⟨kF_11_22, fun _ h => absurd h List.not_mem_nil⟩⟩⟩⟩
def q_lF_12 : List (Nat × Nat × Nat × Nat × Bool) := [(12, 11, 12, 0, false), (12, 15, 12, 1, false), (12, 18, 12, 2, false), (12, 21, 12, 3, false), (12, 39, 12, 5, false), (12, 42, 12, 4, false), (12, 58, 12, 6, false), (12, 61, 12, 8, false)]
set_option maxRecDepth 20000 in
theorem kF_12 : ∀ e ∈ q_lF_12, q_okF e := List.forall_mem_cons.mpr ⟨kF_12_11, List.forall_mem_cons.mpr ⟨kF_12_15, List.forall_mem_cons.mpr ⟨kF_12_18, List.forall_mem_cons.mpr ⟨kF_12_21, List.forall_mem_cons.mpr ⟨kF_12_39, List.forall_mem_cons.mpr ⟨kF_12_42, List.forall_mem_cons.mpr ⟨kF_12_58, List.forall_mem_cons.mpr ⟨kF_12_61, fun _ h => absurd h List.not_mem_nil⟩⟩⟩⟩⟩⟩⟩⟩
def q_lF_13 : List (Nat × Nat × Nat × Nat × Bool) := [(13, 10, 13, 0, false), (13, 18, 13, 1, false), (13, 27, 13, 3, false), (13, 31, 13, 4, false), (13, 37, 13, 5, false), (13, 41, 13, 6, false), (13, 45, 13, 7, false), (13, 52, 13, 8, false), (13, 59, 13, 9, false), (13, 66, 13, 10, false), (13, 73, 13, 11, false), (13, 79, 13, 12, false), (13, 86, 13, 14, false), (13, 93, 13, 16, false), (13, 100, 13, 19, false), (13, 112, 11, 1, true), (13, 124, 13, 2, false), (13, 142, 11, 3, true), (13, 145, 9, 2, true), (13, 173, 10, 3, true), (13, 188, 3, 2, true), (13, 191, 12, 3, true), (13, 197, 12, 7, true), (13, 204, 12, 5, true), (13, 221, 1, 1, true), (13, 225, 2, 1, true), (13, 231, 13, 13, false), (13, 234, 6, 0, true), (13, 246, 5, 7, true), (13, 251, 5, 8, true), (13, 265, 5, 9, true), (13, 268, 5, 1, true), (13, 274, 5, 10, true), (13, 277, 13, 15, false), (13, 284, 5, 11, true), (13, 287, 5, 12, true), (13, 290, 5, 13, true), (13, 296, 5, 4, true), (13, 299, 5, 5, true), (13, 302, 5, 6, true), (13, 305, 5, 0, true), (13, 308, 6, 3, true), (13, 311, 6, 2, true), (13, 314, 6, 4, true), (13, 317, 6, 5, true), (13, 324, 5, 16, true), (13, 330, 4, 0, true), (13, 333, 4, 1, true), (13, 336, 7, 4, true), (13, 350, 5, 14, true), (13, 353, 5, 2, true), (13, 356, 5, 3, true), (13, 375, 13, 17, false), (13, 378, 13, 18, false), (13, 384, 8, 1, true), (13, 387, 8, 2, true), (13, 396, 8, 3, true), (13, 406, 12, 4, true), (13, 409, 12, 6, true), (13, 415, 12, 8, true), (13, 421, 7, 3, true), (13, 461, 9, 0, true), (13, 464, 9, 1, true), (13, 486, 6, 1, true), (13, 523, 5, 15, true)]
set_option maxRecDepth 20000 in
theorem kF_13 : ∀ e ∈ q_lF_13, q_okF e := List.forall_mem_cons.mpr ⟨kF_13_10, List.forall_mem_cons.mpr ⟨kF_13_18, List.forall_mem_cons.mpr ⟨kF_13_27, List.forall_mem_cons.mpr ⟨kF_13_31, List.forall_mem_cons.mpr ⟨kF_13_37, List.forall_mem_cons.mpr ⟨kF_13_41, List.forall_mem_cons.mpr ⟨kF_13_45, List.forall_mem_cons.mpr ⟨kF_13_52, List.forall_mem_cons.mpr ⟨kF_13_59, List.forall_mem_cons.mpr ⟨kF_13_66, List.forall_mem_cons.mpr ⟨kF_13_73, List.forall_mem_cons.mpr ⟨kF_13_79, List.forall_mem_cons.mpr ⟨kF_13_86, List.forall_mem_cons.mpr ⟨kF_13_93, List.forall_mem_cons.mpr ⟨kF_13_100, List.forall_mem_cons.mpr ⟨kF_13_112, List.forall_mem_cons.mpr ⟨kF_13_124, List.forall_mem_cons.mpr ⟨kF_13_142, List.forall_mem_cons.mpr ⟨kF_13_145, List.forall_mem_cons.mpr ⟨kF_13_173, List.forall_mem_cons.mpr ⟨kF_13_188, List.forall_mem_cons.mpr ⟨kF_13_191, List.forall_mem_cons.mpr ⟨kF_13_197, List.forall_mem_cons.mpr ⟨kF_13_204, List.forall_mem_cons.mpr ⟨kF_13_221, List.forall_mem_cons.mpr ⟨kF_13_225, List.forall_mem_cons.mpr ⟨kF_13_231, List.forall_mem_cons.mpr ⟨kF_13_234, List.forall_mem_cons.mpr ⟨kF_13_246, List.forall_mem_cons.mpr ⟨kF_13_251, List.forall_mem_cons.mpr ⟨kF_13_265, List.forall_mem_cons.mpr ⟨kF_13_268, List.forall_mem_cons.mpr ⟨kF_13_274, List.forall_mem_cons.mpr ⟨kF_13_277, List.forall_mem_cons.mpr ⟨kF_13_284, List.forall_mem_cons.mpr ⟨kF_13_287, List.forall_mem_cons.mpr ⟨kF_13_290, List.forall_mem_cons.mpr ⟨kF_13_296, List.forall_mem_cons.mpr ⟨kF_13_299, List.forall_mem_cons.mpr ⟨kF_13_302, List.forall_mem_cons.mpr ⟨kF_13_305, List.forall_mem_cons.mpr ⟨kF_13_308, List.forall_mem_cons.mpr ⟨kF_13_311, List.forall_mem_cons.mpr ⟨kF_13_314, List.forall_mem_cons.mpr ⟨kF_13_317, List.forall_mem_cons.mpr ⟨kF_13_324, List.forall_mem_cons.mpr ⟨kF_13_330, List.forall_mem_cons.mpr ⟨kF_13_333, List.forall_mem_cons.mpr ⟨kF_13_336, List.forall_mem_cons.mpr ⟨kF_13_350, List.forall_mem_cons.mpr ⟨kF_13_353, List.forall_mem_cons.mpr ⟨kF_13_356, List.forall_mem_cons.mpr ⟨kF_13_375, List.forall_mem_cons.mpr ⟨kF_13_378, List.forall_mem_cons.mpr ⟨kF_13_384, List.forall_mem_cons.mpr ⟨kF_13_387, List.forall_mem_cons.mpr ⟨kF_13_396, List.forall_mem_cons.mpr ⟨kF_13_406, List.forall_mem_cons.mpr ⟨kF_13_409, List.forall_mem_cons.mpr ⟨kF_13_415, List.forall_mem_cons.mpr ⟨kF_13_421, List.forall_mem_cons.mpr ⟨kF_13_461, List.forall_mem_cons.mpr ⟨kF_13_464, List.forall_mem_cons.mpr ⟨kF_13_486, List.forall_mem_cons.mpr ⟨kF_13_523, fun _ h => absurd h List.not_mem_nil⟩⟩⟩⟩⟩⟩⟩⟩⟩⟩⟩⟩⟩⟩⟩⟩⟩⟩⟩⟩⟩⟩⟩⟩⟩⟩⟩⟩⟩⟩⟩⟩⟩⟩⟩⟩⟩⟩⟩⟩⟩⟩⟩⟩⟩⟩⟩⟩⟩⟩⟩⟩⟩⟩⟩⟩⟩⟩⟩⟩⟩⟩⟩⟩⟩
def q_lF_14 : List (Nat × Nat × Nat × Nat × Bool) := [(14, 9, 14, 1, false), (14, 13, 14, 6, false), (14, 17, 14, 7, false), (14, 21, 14, 8, false), (14, 24, 14, 9, false), (14, 27, 14, 10, false), (14, 30, 14, 11, false), (14, 33, 14, 12, false), (14, 36, 14, 13, false), (14, 39, 14, 15, false), (14, 42, 14, 16, false), (14, 45, 14, 17, false), (14, 48, 14, 23, false), (14, 51, 14, 24, false), (14, 54, 14, 26, false), (14, 57, 14, 27, false), (14, 60, 14, 28, false), (14, 63, 14, 29, false), (14, 66, 14, 38, false), (14, 69, 14, 40, false), (14, 72, 14, 43, false), (14, 75, 14, 44, false), (14, 78, 14, 45, false), (14, 81, 14, 46, false), (14, 84, 14, 48, false), (14, 87, 14, 49, false), (14, 90, 14, 50, false), (14, 93, 14, 51, false), (14, 96, 14, 52, false), (14, 99, 14, 53, false), (14, 102, 14, 54, false), (14, 105, 14, 55, false), (14, 108, 14, 56, false), (14, 111, 14, 57, false), (14, 114, 14, 58, false), (14, 117, 14, 59, false), (14, 120, 14, 60, false), (14, 123, 14, 61, false), (14, 126, 14, 64, false), (14, 129, 14, 65, false), (14, 132, 14, 66, false), (14, 135, 14, 67, false), (14, 138, 14, 68, false), (14, 141, 14, 71, false), (14, 144, 14, 72, false), (14, 147, 14, 76, false), (14, 150, 14, 77, false), (14, 153, 14, 78, false), (14, 156, 14, 79, false), (14, 159, 14, 0, false), (14, 162, 14, 2, false), (14, 165, 14, 4, false), (14, 168, 14, 3, false), (14, 175, 14, 5, false), (14, 231, 14, 14, false), (14, 272, 14, 20, false), (14, 275, 14, 21, false), (14, 278, 14, 22, false), (14, 281, 14, 18, false), (14, 284, 14, 19, false), (14, 301, 14, 25, false), (14, 308, 14, 30, false), (14, 313, 14, 35, false), (14, 316, 14, 36, false), (14, 322, 14, 31, false), (14, 325, 14, 37, false), (14, 328, 14, 32, false), (14, 331, 14, 34, false), (14, 337, 14, 33, false), (14, 344, 14, 39, false), (14, 388, 14, 41, false), (14, 391, 14, 62, false), (14, 394, 14, 47, false), (14, 407, 14, 63, false), (14, 410, 14, 42, false), (14, 432, 14, 69, false), (14, 435, 14, 70, false), (14, 447, 14, 73, false), (14, 450, 14, 75, false), (14, 459, 14, 74, false)]
set_option maxRecDepth 20000 in
theorem kF_14 : ∀ e ∈ q_lF_14, q_okF e := List.forall_mem_cons.mpr ⟨kF_14_9, List.forall_mem_cons.mpr ⟨kF_14_13, List.forall_mem_cons.mpr ⟨kF_14_17, List.forall_mem_cons.mpr ⟨kF_14_21, List.forall_mem_cons.mpr ⟨kF_14_24, List.forall_mem_cons.mpr ⟨kF_14_27, List.forall_mem_cons.mpr ⟨kF_14_30, List.forall_mem_cons.mpr ⟨kF_14_33, List.forall_mem_cons.mpr ⟨kF_14_36, List.forall_mem_cons.mpr ⟨kF_14_39, List.forall_mem_cons.mpr ⟨kF_14_42, List.forall_mem_cons.mpr ⟨kF_14_45, List.forall_mem_cons.mpr ⟨kF_14_48, List.forall_mem_cons.mpr ⟨kF_14_51, List.forall_mem_cons.mpr ⟨kF_14_54, List.forall_mem_cons.mpr ⟨kF_14_57, List.forall_mem_cons.mpr ⟨kF_14_60, List.forall_mem_cons.mpr ⟨kF_14_63, List.forall_mem_cons.mpr ⟨kF_14_66, List.forall_mem_cons.mpr ⟨kF_14_69, List.forall_mem_cons.mpr ⟨kF_14_72, List.forall_mem_cons.mpr ⟨kF_14_75, List.forall_mem_cons.mpr ⟨kF_14_78, List.forall_mem_cons.mpr ⟨kF_14_81, List.forall_mem_cons.mpr ⟨kF_14_84, List.forall_mem_cons.mpr ⟨kF_14_87, List.forall_mem_cons.mpr ⟨kF_14_90, List.forall_mem_cons.mpr ⟨kF_14_93, List.forall_mem_cons.mpr ⟨kF_14_96, List.forall_mem_cons.mpr ⟨kF_14_99, List.forall_mem_cons.mpr ⟨kF_14_102, List.forall_mem_cons.mpr ⟨kF_14_105, List.forall_mem_cons.mpr ⟨kF_14_108, List.forall_mem_cons.mpr ⟨kF_14_111, List.forall_mem_cons.mpr ⟨kF_14_114, List.forall_mem_cons.mpr ⟨kF_14_117, List.forall_mem_cons.mpr ⟨kF_14_120, List.forall_mem_cons.mpr ⟨kF_14_123, List.forall_mem_cons.mpr ⟨kF_14_126, List.forall_mem_cons.mpr ⟨kF_14_129, List.forall_mem_cons.mpr ⟨kF_14_132, List.forall_mem_cons.mpr ⟨kF_14_135, List.forall_mem_cons.mpr ⟨kF_14_138, List.forall_mem_cons.mpr ⟨kF_14_141, List.forall_mem_cons.mpr ⟨kF_14_144, List.forall_mem_cons.mpr ⟨kF_14_147, List.forall_mem_cons.mpr ⟨kF_14_150, List.forall_mem_cons.mpr ⟨kF_14_153, List.forall_mem_cons.mpr ⟨kF_14_156, List.forall_mem_cons.mpr ⟨kF_14_159, List.forall_mem_cons.mpr ⟨kF_14_162, List.forall_mem_cons.mpr ⟨kF_14_165, List.forall_mem_cons.mpr ⟨kF_14_168, List.forall_mem_cons.mpr ⟨kF_14_175, List.forall_mem_cons.mpr ⟨kF_14_231, List.forall_mem_cons.mpr ⟨kF_14_272, List.forall_mem_cons.mpr ⟨kF_14_275, List.forall_mem_cons.mpr ⟨kF_14_278, List.forall_mem_cons.mpr ⟨kF_14_281, List.forall_mem_cons.mpr ⟨kF_14_284, List.forall_mem_cons.mpr ⟨kF_14_301, List.forall_mem_cons.mpr ⟨kF_14_308, List.forall_mem_cons.mpr ⟨kF_14_313, List.forall_mem_cons.mpr ⟨kF_14_316, List.forall_mem_cons.mpr ⟨kF_14_322, List.forall_mem_cons.mpr ⟨kF_14_325, List.forall_mem_cons.mpr ⟨kF_14_328, List.forall_mem_cons.mpr ⟨kF_14_331, List.forall_mem_cons.mpr ⟨kF_14_337, List.forall_mem_cons.mpr ⟨kF_14_344, List.forall_mem_cons.mpr ⟨kF_14_388, List.forall_mem_cons.mpr ⟨kF_14_391, List.forall_mem_cons.mpr ⟨kF_14_394, List.forall_mem_cons.mpr ⟨kF_14_407, List.forall_mem_cons.mpr ⟨kF_14_410, List.forall_mem_cons.mpr ⟨kF_14_432, List.forall_mem_cons.mpr ⟨kF_14_435, List.forall_mem_cons.mpr ⟨kF_14_447, List.forall_mem_cons.mpr ⟨kF_14_450, List.forall_mem_cons.mpr ⟨kF_14_459, fun _ h => absurd h List.not_mem_nil⟩⟩⟩⟩⟩⟩⟩⟩⟩⟩⟩⟩⟩⟩⟩⟩⟩⟩⟩⟩⟩⟩⟩⟩⟩⟩⟩⟩⟩⟩⟩⟩⟩⟩⟩⟩⟩⟩⟩⟩⟩⟩⟩⟩⟩⟩⟩⟩⟩⟩⟩⟩⟩⟩⟩⟩⟩⟩⟩⟩⟩⟩⟩⟩⟩⟩⟩⟩⟩⟩⟩⟩⟩⟩⟩⟩⟩⟩⟩⟩
def q_lFo (o : Nat) : List (Nat × Nat × Nat × Nat × Bool) := match o with
  | 1 => q_lF_1
  | 2 => q_lF_2
  | 3 => q_lF_3
  | 4 => q_lF_4
  | 5 => q_lF_5
  | 6 => q_lF_6
  | 7 => q_lF_7
  | 8 => q_lF_8
  | 9 => q_lF_9
  | 10 => q_lF_10
  | 11 => q_lF_11
  | 12 => q_lF_12
  | 13 => q_lF_13
  | 14 => q_lF_14
  | _ => []
theorem kFo : ∀ (o : Nat) (e : Nat × Nat × Nat × Nat × Bool), e ∈ q_lFo o → q_okF e := by
  intro o e h
  unfold q_lFo at h
  split at h
  · exact kF_1 e h
  · exact kF_2 e h
  · exact kF_3 e h
  · exact kF_4 e h
  · exact kF_5 e h
  · exact kF_6 e h
  · exact kF_7 e h
  · exact kF_8 e h
  · exact kF_9 e h
  · exact kF_10 e h
  · exact kF_11 e h
  · exact kF_12 e h
  · exact kF_13 e h
  · exact kF_14 e h
  · cases h
/-- the link of a field -/
def q_lF (o i : Nat) : Option (Nat × Nat × Nat × Nat × Bool) := (q_lFo o).find? (fun e => e.1 == o && e.2.1 == i)
