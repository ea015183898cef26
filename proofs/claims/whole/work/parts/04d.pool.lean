-- made by wip/tools/gen04d.py
def q_lK (o i : Nat) : Option Int32 := match o, i with
  | 13, 207 => some (100000)
  | 14, 304 => some (1000000)
  | 14, 340 => some (100000)
  | _, _ => none
theorem kK : ∀ (o i : Nat) (v : Int32), q_lK o i = some v → Cond.constant (q_on o) i v ∈ lw_tbl := by
  intro o i v h; unfold q_lK at h; split at h
  · cases h; exact (List.mem_of_getElem? (i := 1023) (by decide +kernel))
  · cases h; exact (List.mem_of_getElem? (i := 1980) (by decide +kernel))
  · cases h; exact (List.mem_of_getElem? (i := 2007) (by decide +kernel))
  · cases h
def q_lKL (o i : Nat) : Option Int64 := match o, i with
  | 12, 45 => some (100)
  | 14, 311 => some (100)
  | _, _ => none
theorem kKL : ∀ (o i : Nat) (v : Int64), q_lKL o i = some v → Cond.constantLong (q_on o) i v ∈ lw_tbl := by
  intro o i v h; unfold q_lKL at h; split at h
  · cases h; exact (List.mem_of_getElem? (i := 1007) (by decide +kernel))
  · cases h; exact (List.mem_of_getElem? (i := 2002) (by decide +kernel))
  · cases h
def q_txt : List String := ["a number is none, or the text is wrong", "again", "away", "band", "bears", "bears pours litres minutes again pack band", "bleach", "litres", "minutes", "pack", "pours", "rinse", "stone", "the LOT is not WASHED", "there are as many as there may be", "there is no such one", "there is no such what", "times", "to", "to away", "wash", "wash stone bleach", "wash stone bleach rinse", "with"]
def q_lStr (o i : Nat) : Option (Nat × String) := match o, i with
  | 13, 424 => some (0, "a number is none, or the text is wrong")
  | 13, 441 => some (14, "there are as many as there may be")
  | 9, 44 => some (22, "wash stone bleach rinse")
  | 13, 431 => some (15, "there is no such one")
  | 13, 436 => some (16, "there is no such what")
  | 2, 49 => some (5, "bears pours litres minutes again pack band")
  | 2, 69 => some (22, "wash stone bleach rinse")
  | 2, 71 => some (19, "to away")
  | 2, 73 => some (17, "times")
  | 2, 75 => some (23, "with")
  | 2, 77 => some (21, "wash stone bleach")
  | 13, 446 => some (13, "the LOT is not WASHED")
  | 14, 191 => some (20, "wash")
  | 14, 197 => some (12, "stone")
  | 14, 199 => some (6, "bleach")
  | 14, 201 => some (11, "rinse")
  | 14, 361 => some (4, "bears")
  | 14, 363 => some (8, "minutes")
  | 14, 364 => some (10, "pours")
  | 14, 350 => some (2, "away")
  | 14, 352 => some (18, "to")
  | 14, 368 => some (7, "litres")
  | 14, 370 => some (1, "again")
  | 14, 357 => some (17, "times")
  | 14, 359 => some (23, "with")
  | 14, 375 => some (9, "pack")
  | 14, 377 => some (3, "band")
  | _, _ => none
theorem kStr : ∀ (o i : Nat) (v : Nat × String), q_lStr o i = some v → Cond.stringRef (q_on o) i v.2 ∈ lw_tbl := by
  intro o i v h; unfold q_lStr at h; split at h
  · cases h; exact (List.mem_of_getElem? (i := 673) (by decide +kernel))
  · cases h; exact (List.mem_of_getElem? (i := 711) (by decide +kernel))
  · cases h; exact (List.mem_of_getElem? (i := 757) (by decide +kernel))
  · cases h; exact (List.mem_of_getElem? (i := 845) (by decide +kernel))
  · cases h; exact (List.mem_of_getElem? (i := 864) (by decide +kernel))
  · cases h; exact (List.mem_of_getElem? (i := 1099) (by decide +kernel))
  · cases h; exact (List.mem_of_getElem? (i := 1105) (by decide +kernel))
  · cases h; exact (List.mem_of_getElem? (i := 1111) (by decide +kernel))
  · cases h; exact (List.mem_of_getElem? (i := 1116) (by decide +kernel))
  · cases h; exact (List.mem_of_getElem? (i := 1117) (by decide +kernel))
  · cases h; exact (List.mem_of_getElem? (i := 1118) (by decide +kernel))
  · cases h; exact (List.mem_of_getElem? (i := 1401) (by decide +kernel))
  · cases h; exact (List.mem_of_getElem? (i := 1870) (by decide +kernel))
  · cases h; exact (List.mem_of_getElem? (i := 1877) (by decide +kernel))
  · cases h; exact (List.mem_of_getElem? (i := 1878) (by decide +kernel))
  · cases h; exact (List.mem_of_getElem? (i := 1879) (by decide +kernel))
  · cases h; exact (List.mem_of_getElem? (i := 2048) (by decide +kernel))
  · cases h; exact (List.mem_of_getElem? (i := 2053) (by decide +kernel))
  · cases h; exact (List.mem_of_getElem? (i := 2054) (by decide +kernel))
  · cases h; exact (List.mem_of_getElem? (i := 2059) (by decide +kernel))
  · cases h; exact (List.mem_of_getElem? (i := 2060) (by decide +kernel))
  · cases h; exact (List.mem_of_getElem? (i := 2061) (by decide +kernel))
  · cases h; exact (List.mem_of_getElem? (i := 2062) (by decide +kernel))
  · cases h; exact (List.mem_of_getElem? (i := 2067) (by decide +kernel))
  · cases h; exact (List.mem_of_getElem? (i := 2068) (by decide +kernel))
  · cases h; exact (List.mem_of_getElem? (i := 2069) (by decide +kernel))
  · cases h; exact (List.mem_of_getElem? (i := 2070) (by decide +kernel))
  · cases h
def q_lC (o i : Nat) : Option Nat := match o, i with
  | 20, 8 => some 13
  | 13, 7 => some 11
  | 13, 16 => some 4
  | 13, 22 => some 9
  | 13, 34 => some 2
  | 13, 49 => some 10
  | 10, 11 => some 4
  | 13, 56 => some 3
  | 13, 63 => some 12
  | 13, 70 => some 1
  | 13, 77 => some 6
  | 13, 83 => some 0
  | 13, 90 => some 7
  | 13, 97 => some 8
  | 13, 239 => some 5
  | 5, 9 => some 4
  | 5, 49 => some 9
  | 20, 135 => some 14
  | _, _ => none
theorem kC : ∀ (o i v : Nat), q_lC o i = some v → Cond.classLink (q_on o) i (q_on v) ∈ lw_tbl ∧ v < 15 := by
  intro o i v h; unfold q_lC at h; split at h
  · cases h; exact ⟨(List.mem_of_getElem? (i := 118) (by decide +kernel)), by decide⟩
  · cases h; exact ⟨(List.mem_of_getElem? (i := 126) (by decide +kernel)), by decide⟩
  · cases h; exact ⟨(List.mem_of_getElem? (i := 149) (by decide +kernel)), by decide⟩
  · cases h; exact ⟨(List.mem_of_getElem? (i := 151) (by decide +kernel)), by decide⟩
  · cases h; exact ⟨(List.mem_of_getElem? (i := 174) (by decide +kernel)), by decide⟩
  · cases h; exact ⟨(List.mem_of_getElem? (i := 226) (by decide +kernel)), by decide⟩
  · cases h; exact ⟨(List.mem_of_getElem? (i := 232) (by decide +kernel)), by decide⟩
  · cases h; exact ⟨(List.mem_of_getElem? (i := 260) (by decide +kernel)), by decide⟩
  · cases h; exact ⟨(List.mem_of_getElem? (i := 280) (by decide +kernel)), by decide⟩
  · cases h; exact ⟨(List.mem_of_getElem? (i := 319) (by decide +kernel)), by decide⟩
  · cases h; exact ⟨(List.mem_of_getElem? (i := 333) (by decide +kernel)), by decide⟩
  · cases h; exact ⟨(List.mem_of_getElem? (i := 335) (by decide +kernel)), by decide⟩
  · cases h; exact ⟨(List.mem_of_getElem? (i := 361) (by decide +kernel)), by decide⟩
  · cases h; exact ⟨(List.mem_of_getElem? (i := 399) (by decide +kernel)), by decide⟩
  · cases h; exact ⟨(List.mem_of_getElem? (i := 617) (by decide +kernel)), by decide⟩
  · cases h; exact ⟨(List.mem_of_getElem? (i := 1150) (by decide +kernel)), by decide⟩
  · cases h; exact ⟨(List.mem_of_getElem? (i := 1153) (by decide +kernel)), by decide⟩
  · cases h; exact ⟨(List.mem_of_getElem? (i := 1579) (by decide +kernel)), by decide⟩
  · cases h
theorem kN : ∀ v : Nat, v < 15 → Cond.instantiable (q_on v) (q_N v) ∈ lw_tbl ∧ Cond.initialized (q_on v) ∈ lw_tbl ∧ vwCl[v]? = some (q_on v, q_T v, q_N v) := by
  intro v h
  match v, h with
  | 0, _ => exact ⟨(List.mem_of_getElem? (i := 336) (by decide +kernel)), (List.mem_of_getElem? (i := 96) (by decide +kernel)), rfl⟩
  | 1, _ => exact ⟨(List.mem_of_getElem? (i := 320) (by decide +kernel)), (List.mem_of_getElem? (i := 93) (by decide +kernel)), rfl⟩
  | 2, _ => exact ⟨(List.mem_of_getElem? (i := 175) (by decide +kernel)), (List.mem_of_getElem? (i := 88) (by decide +kernel)), rfl⟩
  | 3, _ => exact ⟨(List.mem_of_getElem? (i := 261) (by decide +kernel)), (List.mem_of_getElem? (i := 91) (by decide +kernel)), rfl⟩
  | 4, _ => exact ⟨(List.mem_of_getElem? (i := 197) (by decide +kernel)), (List.mem_of_getElem? (i := 89) (by decide +kernel)), rfl⟩
  | 5, _ => exact ⟨(List.mem_of_getElem? (i := 1145) (by decide +kernel)), (List.mem_of_getElem? (i := 114) (by decide +kernel)), rfl⟩
  | 6, _ => exact ⟨(List.mem_of_getElem? (i := 423) (by decide +kernel)), (List.mem_of_getElem? (i := 99) (by decide +kernel)), rfl⟩
  | 7, _ => exact ⟨(List.mem_of_getElem? (i := 362) (by decide +kernel)), (List.mem_of_getElem? (i := 97) (by decide +kernel)), rfl⟩
  | 8, _ => exact ⟨(List.mem_of_getElem? (i := 400) (by decide +kernel)), (List.mem_of_getElem? (i := 98) (by decide +kernel)), rfl⟩
  | 9, _ => exact ⟨(List.mem_of_getElem? (i := 152) (by decide +kernel)), (List.mem_of_getElem? (i := 86) (by decide +kernel)), rfl⟩
  | 10, _ => exact ⟨(List.mem_of_getElem? (i := 227) (by decide +kernel)), (List.mem_of_getElem? (i := 90) (by decide +kernel)), rfl⟩
  | 11, _ => exact ⟨(List.mem_of_getElem? (i := 127) (by decide +kernel)), (List.mem_of_getElem? (i := 85) (by decide +kernel)), rfl⟩
  | 12, _ => exact ⟨(List.mem_of_getElem? (i := 281) (by decide +kernel)), (List.mem_of_getElem? (i := 92) (by decide +kernel)), rfl⟩
  | 13, _ => exact ⟨(List.mem_of_getElem? (i := 119) (by decide +kernel)), (List.mem_of_getElem? (i := 84) (by decide +kernel)), rfl⟩
  | 14, _ => exact ⟨(List.mem_of_getElem? (i := 1580) (by decide +kernel)), (List.mem_of_getElem? (i := 100) (by decide +kernel)), rfl⟩
  | n + 15, h => exact absurd h (by omega)
theorem kW_0_0 : u_lay (q_on 0) (q_T 0) 0 ∈ lw_tbl := (List.mem_of_getElem? (i := 358) (by decide +kernel))
theorem kW_0_1 : u_lay (q_on 0) (q_T 0) 1 ∈ lw_tbl := (List.mem_of_getElem? (i := 354) (by decide +kernel))
theorem kW_0_2 : u_lay (q_on 0) (q_T 0) 2 ∈ lw_tbl := (List.mem_of_getElem? (i := 356) (by decide +kernel))
theorem kW_1_0 : u_lay (q_on 1) (q_T 1) 0 ∈ lw_tbl := (List.mem_of_getElem? (i := 328) (by decide +kernel))
theorem kW_1_1 : u_lay (q_on 1) (q_T 1) 1 ∈ lw_tbl := (List.mem_of_getElem? (i := 330) (by decide +kernel))
theorem kW_2_0 : u_lay (q_on 2) (q_T 2) 0 ∈ lw_tbl := (List.mem_of_getElem? (i := 192) (by decide +kernel))
theorem kW_2_1 : u_lay (q_on 2) (q_T 2) 1 ∈ lw_tbl := (List.mem_of_getElem? (i := 194) (by decide +kernel))
theorem kW_3_0 : u_lay (q_on 3) (q_T 3) 0 ∈ lw_tbl := (List.mem_of_getElem? (i := 271) (by decide +kernel))
theorem kW_3_1 : u_lay (q_on 3) (q_T 3) 1 ∈ lw_tbl := (List.mem_of_getElem? (i := 273) (by decide +kernel))
theorem kW_3_2 : u_lay (q_on 3) (q_T 3) 2 ∈ lw_tbl := (List.mem_of_getElem? (i := 275) (by decide +kernel))
theorem kW_3_3 : u_lay (q_on 3) (q_T 3) 3 ∈ lw_tbl := (List.mem_of_getElem? (i := 277) (by decide +kernel))
theorem kW_4_0 : u_lay (q_on 4) (q_T 4) 0 ∈ lw_tbl := (List.mem_of_getElem? (i := 213) (by decide +kernel))
theorem kW_4_1 : u_lay (q_on 4) (q_T 4) 1 ∈ lw_tbl := (List.mem_of_getElem? (i := 215) (by decide +kernel))
theorem kW_4_2 : u_lay (q_on 4) (q_T 4) 2 ∈ lw_tbl := (List.mem_of_getElem? (i := 217) (by decide +kernel))
theorem kW_4_3 : u_lay (q_on 4) (q_T 4) 3 ∈ lw_tbl := (List.mem_of_getElem? (i := 219) (by decide +kernel))
theorem kW_4_4 : u_lay (q_on 4) (q_T 4) 4 ∈ lw_tbl := (List.mem_of_getElem? (i := 221) (by decide +kernel))
theorem kW_4_5 : u_lay (q_on 4) (q_T 4) 5 ∈ lw_tbl := (List.mem_of_getElem? (i := 223) (by decide +kernel))
theorem kW_5_0 : u_lay (q_on 5) (q_T 5) 0 ∈ lw_tbl := (List.mem_of_getElem? (i := 1188) (by decide +kernel))
theorem kW_5_1 : u_lay (q_on 5) (q_T 5) 1 ∈ lw_tbl := (List.mem_of_getElem? (i := 1190) (by decide +kernel))
theorem kW_5_2 : u_lay (q_on 5) (q_T 5) 2 ∈ lw_tbl := (List.mem_of_getElem? (i := 1192) (by decide +kernel))
theorem kW_5_3 : u_lay (q_on 5) (q_T 5) 3 ∈ lw_tbl := (List.mem_of_getElem? (i := 1194) (by decide +kernel))
theorem kW_5_4 : u_lay (q_on 5) (q_T 5) 4 ∈ lw_tbl := (List.mem_of_getElem? (i := 1196) (by decide +kernel))
theorem kW_5_5 : u_lay (q_on 5) (q_T 5) 5 ∈ lw_tbl := (List.mem_of_getElem? (i := 1198) (by decide +kernel))
theorem kW_5_6 : u_lay (q_on 5) (q_T 5) 6 ∈ lw_tbl := (List.mem_of_getElem? (i := 1200) (by decide +kernel))
theorem kW_5_7 : u_lay (q_on 5) (q_T 5) 7 ∈ lw_tbl := (List.mem_of_getElem? (i := 1202) (by decide +kernel))
theorem kW_5_8 : u_lay (q_on 5) (q_T 5) 8 ∈ lw_tbl := (List.mem_of_getElem? (i := 1204) (by decide +kernel))
theorem kW_5_9 : u_lay (q_on 5) (q_T 5) 9 ∈ lw_tbl := (List.mem_of_getElem? (i := 1206) (by decide +kernel))
theorem kW_5_10 : u_lay (q_on 5) (q_T 5) 10 ∈ lw_tbl := (List.mem_of_getElem? (i := 1208) (by decide +kernel))
theorem kW_5_11 : u_lay (q_on 5) (q_T 5) 11 ∈ lw_tbl := (List.mem_of_getElem? (i := 1210) (by decide +kernel))
theorem kW_5_12 : u_lay (q_on 5) (q_T 5) 12 ∈ lw_tbl := (List.mem_of_getElem? (i := 1212) (by decide +kernel))
theorem kW_5_13 : u_lay (q_on 5) (q_T 5) 13 ∈ lw_tbl := (List.mem_of_getElem? (i := 1214) (by decide +kernel))
theorem kW_5_14 : u_lay (q_on 5) (q_T 5) 14 ∈ lw_tbl := (List.mem_of_getElem? (i := 1216) (by decide +kernel))
theorem kW_5_15 : u_lay (q_on 5) (q_T 5) 15 ∈ lw_tbl := (List.mem_of_getElem? (i := 1218) (by decide +kernel))
theorem kW_5_16 : u_lay (q_on 5) (q_T 5) 16 ∈ lw_tbl := (List.mem_of_getElem? (i := 1220) (by decide +kernel))
theorem kW_6_0 : u_lay (q_on 6) (q_T 6) 0 ∈ lw_tbl := (List.mem_of_getElem? (i := 438) (by decide +kernel))
theorem kW_6_1 : u_lay (q_on 6) (q_T 6) 1 ∈ lw_tbl := (List.mem_of_getElem? (i := 440) (by decide +kernel))
theorem kW_6_2 : u_lay (q_on 6) (q_T 6) 2 ∈ lw_tbl := (List.mem_of_getElem? (i := 442) (by decide +kernel))
theorem kW_6_3 : u_lay (q_on 6) (q_T 6) 3 ∈ lw_tbl := (List.mem_of_getElem? (i := 444) (by decide +kernel))
theorem kW_6_4 : u_lay (q_on 6) (q_T 6) 4 ∈ lw_tbl := (List.mem_of_getElem? (i := 446) (by decide +kernel))
theorem kW_6_5 : u_lay (q_on 6) (q_T 6) 5 ∈ lw_tbl := (List.mem_of_getElem? (i := 448) (by decide +kernel))
theorem kW_7_0 : u_lay (q_on 7) (q_T 7) 0 ∈ lw_tbl := (List.mem_of_getElem? (i := 378) (by decide +kernel))
theorem kW_7_1 : u_lay (q_on 7) (q_T 7) 1 ∈ lw_tbl := (List.mem_of_getElem? (i := 380) (by decide +kernel))
theorem kW_7_2 : u_lay (q_on 7) (q_T 7) 2 ∈ lw_tbl := (List.mem_of_getElem? (i := 382) (by decide +kernel))
theorem kW_7_3 : u_lay (q_on 7) (q_T 7) 3 ∈ lw_tbl := (List.mem_of_getElem? (i := 384) (by decide +kernel))
theorem kW_7_4 : u_lay (q_on 7) (q_T 7) 4 ∈ lw_tbl := (List.mem_of_getElem? (i := 386) (by decide +kernel))
theorem kW_7_5 : u_lay (q_on 7) (q_T 7) 5 ∈ lw_tbl := (List.mem_of_getElem? (i := 388) (by decide +kernel))
theorem kW_7_6 : u_lay (q_on 7) (q_T 7) 6 ∈ lw_tbl := (List.mem_of_getElem? (i := 390) (by decide +kernel))
theorem kW_7_7 : u_lay (q_on 7) (q_T 7) 7 ∈ lw_tbl := (List.mem_of_getElem? (i := 392) (by decide +kernel))
theorem kW_7_8 : u_lay (q_on 7) (q_T 7) 8 ∈ lw_tbl := (List.mem_of_getElem? (i := 394) (by decide +kernel))
theorem kW_7_9 : u_lay (q_on 7) (q_T 7) 9 ∈ lw_tbl := (List.mem_of_getElem? (i := 396) (by decide +kernel))
theorem kW_8_0 : u_lay (q_on 8) (q_T 8) 0 ∈ lw_tbl := (List.mem_of_getElem? (i := 414) (by decide +kernel))
theorem kW_8_1 : u_lay (q_on 8) (q_T 8) 1 ∈ lw_tbl := (List.mem_of_getElem? (i := 416) (by decide +kernel))
theorem kW_8_2 : u_lay (q_on 8) (q_T 8) 2 ∈ lw_tbl := (List.mem_of_getElem? (i := 418) (by decide +kernel))
theorem kW_8_3 : u_lay (q_on 8) (q_T 8) 3 ∈ lw_tbl := (List.mem_of_getElem? (i := 420) (by decide +kernel))
theorem kW_9_0 : u_lay (q_on 9) (q_T 9) 0 ∈ lw_tbl := (List.mem_of_getElem? (i := 166) (by decide +kernel))
theorem kW_9_1 : u_lay (q_on 9) (q_T 9) 1 ∈ lw_tbl := (List.mem_of_getElem? (i := 168) (by decide +kernel))
theorem kW_9_2 : u_lay (q_on 9) (q_T 9) 2 ∈ lw_tbl := (List.mem_of_getElem? (i := 170) (by decide +kernel))
theorem kW_10_0 : u_lay (q_on 10) (q_T 10) 0 ∈ lw_tbl := (List.mem_of_getElem? (i := 243) (by decide +kernel))
theorem kW_10_1 : u_lay (q_on 10) (q_T 10) 1 ∈ lw_tbl := (List.mem_of_getElem? (i := 245) (by decide +kernel))
theorem kW_10_2 : u_lay (q_on 10) (q_T 10) 2 ∈ lw_tbl := (List.mem_of_getElem? (i := 247) (by decide +kernel))
theorem kW_10_3 : u_lay (q_on 10) (q_T 10) 3 ∈ lw_tbl := (List.mem_of_getElem? (i := 249) (by decide +kernel))
theorem kW_10_4 : u_lay (q_on 10) (q_T 10) 4 ∈ lw_tbl := (List.mem_of_getElem? (i := 251) (by decide +kernel))
theorem kW_10_5 : u_lay (q_on 10) (q_T 10) 5 ∈ lw_tbl := (List.mem_of_getElem? (i := 253) (by decide +kernel))
theorem kW_10_6 : u_lay (q_on 10) (q_T 10) 6 ∈ lw_tbl := (List.mem_of_getElem? (i := 255) (by decide +kernel))
theorem kW_10_7 : u_lay (q_on 10) (q_T 10) 7 ∈ lw_tbl := (List.mem_of_getElem? (i := 257) (by decide +kernel))
theorem kW_11_0 : u_lay (q_on 11) (q_T 11) 0 ∈ lw_tbl := (List.mem_of_getElem? (i := 139) (by decide +kernel))
theorem kW_11_1 : u_lay (q_on 11) (q_T 11) 1 ∈ lw_tbl := (List.mem_of_getElem? (i := 141) (by decide +kernel))
theorem kW_11_2 : u_lay (q_on 11) (q_T 11) 2 ∈ lw_tbl := (List.mem_of_getElem? (i := 143) (by decide +kernel))
theorem kW_11_3 : u_lay (q_on 11) (q_T 11) 3 ∈ lw_tbl := (List.mem_of_getElem? (i := 145) (by decide +kernel))
theorem kW_12_0 : u_lay (q_on 12) (q_T 12) 0 ∈ lw_tbl := (List.mem_of_getElem? (i := 300) (by decide +kernel))
theorem kW_12_1 : u_lay (q_on 12) (q_T 12) 1 ∈ lw_tbl := (List.mem_of_getElem? (i := 302) (by decide +kernel))
theorem kW_12_2 : u_lay (q_on 12) (q_T 12) 2 ∈ lw_tbl := (List.mem_of_getElem? (i := 304) (by decide +kernel))
theorem kW_12_3 : u_lay (q_on 12) (q_T 12) 3 ∈ lw_tbl := (List.mem_of_getElem? (i := 306) (by decide +kernel))
theorem kW_12_4 : u_lay (q_on 12) (q_T 12) 4 ∈ lw_tbl := (List.mem_of_getElem? (i := 308) (by decide +kernel))
theorem kW_12_5 : u_lay (q_on 12) (q_T 12) 5 ∈ lw_tbl := (List.mem_of_getElem? (i := 310) (by decide +kernel))
theorem kW_12_6 : u_lay (q_on 12) (q_T 12) 6 ∈ lw_tbl := (List.mem_of_getElem? (i := 312) (by decide +kernel))
theorem kW_12_7 : u_lay (q_on 12) (q_T 12) 7 ∈ lw_tbl := (List.mem_of_getElem? (i := 314) (by decide +kernel))
theorem kW_12_8 : u_lay (q_on 12) (q_T 12) 8 ∈ lw_tbl := (List.mem_of_getElem? (i := 316) (by decide +kernel))
theorem kW_13_0 : u_lay (q_on 13) (q_T 13) 0 ∈ lw_tbl := (List.mem_of_getElem? (i := 471) (by decide +kernel))
theorem kW_13_1 : u_lay (q_on 13) (q_T 13) 1 ∈ lw_tbl := (List.mem_of_getElem? (i := 473) (by decide +kernel))
theorem kW_13_2 : u_lay (q_on 13) (q_T 13) 2 ∈ lw_tbl := (List.mem_of_getElem? (i := 475) (by decide +kernel))
theorem kW_13_3 : u_lay (q_on 13) (q_T 13) 3 ∈ lw_tbl := (List.mem_of_getElem? (i := 477) (by decide +kernel))
theorem kW_13_4 : u_lay (q_on 13) (q_T 13) 4 ∈ lw_tbl := (List.mem_of_getElem? (i := 479) (by decide +kernel))
theorem kW_13_5 : u_lay (q_on 13) (q_T 13) 5 ∈ lw_tbl := (List.mem_of_getElem? (i := 481) (by decide +kernel))
theorem kW_13_6 : u_lay (q_on 13) (q_T 13) 6 ∈ lw_tbl := (List.mem_of_getElem? (i := 483) (by decide +kernel))
theorem kW_13_7 : u_lay (q_on 13) (q_T 13) 7 ∈ lw_tbl := (List.mem_of_getElem? (i := 485) (by decide +kernel))
theorem kW_13_8 : u_lay (q_on 13) (q_T 13) 8 ∈ lw_tbl := (List.mem_of_getElem? (i := 487) (by decide +kernel))
theorem kW_13_9 : u_lay (q_on 13) (q_T 13) 9 ∈ lw_tbl := (List.mem_of_getElem? (i := 489) (by decide +kernel))
theorem kW_13_10 : u_lay (q_on 13) (q_T 13) 10 ∈ lw_tbl := (List.mem_of_getElem? (i := 491) (by decide +kernel))
theorem kW_13_11 : u_lay (q_on 13) (q_T 13) 11 ∈ lw_tbl := (List.mem_of_getElem? (i := 493) (by decide +kernel))
theorem kW_13_12 : u_lay (q_on 13) (q_T 13) 12 ∈ lw_tbl := (List.mem_of_getElem? (i := 495) (by decide +kernel))
theorem kW_13_13 : u_lay (q_on 13) (q_T 13) 13 ∈ lw_tbl := (List.mem_of_getElem? (i := 497) (by decide +kernel))
theorem kW_13_14 : u_lay (q_on 13) (q_T 13) 14 ∈ lw_tbl := (List.mem_of_getElem? (i := 499) (by decide +kernel))
theorem kW_13_15 : u_lay (q_on 13) (q_T 13) 15 ∈ lw_tbl := (List.mem_of_getElem? (i := 501) (by decide +kernel))
theorem kW_13_16 : u_lay (q_on 13) (q_T 13) 16 ∈ lw_tbl := (List.mem_of_getElem? (i := 503) (by decide +kernel))
theorem kW_13_17 : u_lay (q_on 13) (q_T 13) 17 ∈ lw_tbl := (List.mem_of_getElem? (i := 505) (by decide +kernel))
theorem kW_13_18 : u_lay (q_on 13) (q_T 13) 18 ∈ lw_tbl := (List.mem_of_getElem? (i := 507) (by decide +kernel))
theorem kW_13_19 : u_lay (q_on 13) (q_T 13) 19 ∈ lw_tbl := (List.mem_of_getElem? (i := 509) (by decide +kernel))
theorem kW_14_0 : u_lay (q_on 14) (q_T 14) 0 ∈ lw_tbl := (List.mem_of_getElem? (i := 1665) (by decide +kernel))
theorem kW_14_1 : u_lay (q_on 14) (q_T 14) 1 ∈ lw_tbl := (List.mem_of_getElem? (i := 1667) (by decide +kernel))
theorem kW_14_2 : u_lay (q_on 14) (q_T 14) 2 ∈ lw_tbl := (List.mem_of_getElem? (i := 1669) (by decide +kernel))
theorem kW_14_3 : u_lay (q_on 14) (q_T 14) 3 ∈ lw_tbl := (List.mem_of_getElem? (i := 1671) (by decide +kernel))
theorem kW_14_4 : u_lay (q_on 14) (q_T 14) 4 ∈ lw_tbl := (List.mem_of_getElem? (i := 1673) (by decide +kernel))
theorem kW_14_5 : u_lay (q_on 14) (q_T 14) 5 ∈ lw_tbl := (List.mem_of_getElem? (i := 1675) (by decide +kernel))
theorem kW_14_6 : u_lay (q_on 14) (q_T 14) 6 ∈ lw_tbl := (List.mem_of_getElem? (i := 1677) (by decide +kernel))
theorem kW_14_7 : u_lay (q_on 14) (q_T 14) 7 ∈ lw_tbl := (List.mem_of_getElem? (i := 1679) (by decide +kernel))
theorem kW_14_8 : u_lay (q_on 14) (q_T 14) 8 ∈ lw_tbl := (List.mem_of_getElem? (i := 1681) (by decide +kernel))
theorem kW_14_9 : u_lay (q_on 14) (q_T 14) 9 ∈ lw_tbl := (List.mem_of_getElem? (i := 1683) (by decide +kernel))
theorem kW_14_10 : u_lay (q_on 14) (q_T 14) 10 ∈ lw_tbl := (List.mem_of_getElem? (i := 1685) (by decide +kernel))
theorem kW_14_11 : u_lay (q_on 14) (q_T 14) 11 ∈ lw_tbl := (List.mem_of_getElem? (i := 1687) (by decide +kernel))
theorem kW_14_12 : u_lay (q_on 14) (q_T 14) 12 ∈ lw_tbl := (List.mem_of_getElem? (i := 1689) (by decide +kernel))
theorem kW_14_13 : u_lay (q_on 14) (q_T 14) 13 ∈ lw_tbl := (List.mem_of_getElem? (i := 1691) (by decide +kernel))
theorem kW_14_14 : u_lay (q_on 14) (q_T 14) 14 ∈ lw_tbl := (List.mem_of_getElem? (i := 1693) (by decide +kernel))
theorem kW_14_15 : u_lay (q_on 14) (q_T 14) 15 ∈ lw_tbl := (List.mem_of_getElem? (i := 1695) (by decide +kernel))
theorem kW_14_16 : u_lay (q_on 14) (q_T 14) 16 ∈ lw_tbl := (List.mem_of_getElem? (i := 1697) (by decide +kernel))
theorem kW_14_17 : u_lay (q_on 14) (q_T 14) 17 ∈ lw_tbl := (List.mem_of_getElem? (i := 1699) (by decide +kernel))
theorem kW_14_18 : u_lay (q_on 14) (q_T 14) 18 ∈ lw_tbl := (List.mem_of_getElem? (i := 1701) (by decide +kernel))
theorem kW_14_19 : u_lay (q_on 14) (q_T 14) 19 ∈ lw_tbl := (List.mem_of_getElem? (i := 1703) (by decide +kernel))
theorem kW_14_20 : u_lay (q_on 14) (q_T 14) 20 ∈ lw_tbl := (List.mem_of_getElem? (i := 1705) (by decide +kernel))
theorem kW_14_21 : u_lay (q_on 14) (q_T 14) 21 ∈ lw_tbl := (List.mem_of_getElem? (i := 1707) (by decide +kernel))
theorem kW_14_22 : u_lay (q_on 14) (q_T 14) 22 ∈ lw_tbl := (List.mem_of_getElem? (i := 1709) (by decide +kernel))
theorem kW_14_23 : u_lay (q_on 14) (q_T 14) 23 ∈ lw_tbl := (List.mem_of_getElem? (i := 1711) (by decide +kernel))
theorem kW_14_24 : u_lay (q_on 14) (q_T 14) 24 ∈ lw_tbl := (List.mem_of_getElem? (i := 1713) (by decide +kernel))
theorem kW_14_25 : u_lay (q_on 14) (q_T 14) 25 ∈ lw_tbl := (List.mem_of_getElem? (i := 1715) (by decide +kernel))
theorem kW_14_26 : u_lay (q_on 14) (q_T 14) 26 ∈ lw_tbl := (List.mem_of_getElem? (i := 1717) (by decide +kernel))
theorem kW_14_27 : u_lay (q_on 14) (q_T 14) 27 ∈ lw_tbl := (List.mem_of_getElem? (i := 1719) (by decide +kernel))
theorem kW_14_28 : u_lay (q_on 14) (q_T 14) 28 ∈ lw_tbl := (List.mem_of_getElem? (i := 1721) (by decide +kernel))
theorem kW_14_29 : u_lay (q_on 14) (q_T 14) 29 ∈ lw_tbl := (List.mem_of_getElem? (i := 1723) (by decide +kernel))
theorem kW_14_30 : u_lay (q_on 14) (q_T 14) 30 ∈ lw_tbl := (List.mem_of_getElem? (i := 1725) (by decide +kernel))
theorem kW_14_31 : u_lay (q_on 14) (q_T 14) 31 ∈ lw_tbl := (List.mem_of_getElem? (i := 1727) (by decide +kernel))
theorem kW_14_32 : u_lay (q_on 14) (q_T 14) 32 ∈ lw_tbl := (List.mem_of_getElem? (i := 1729) (by decide +kernel))
theorem kW_14_33 : u_lay (q_on 14) (q_T 14) 33 ∈ lw_tbl := (List.mem_of_getElem? (i := 1731) (by decide +kernel))
theorem kW_14_34 : u_lay (q_on 14) (q_T 14) 34 ∈ lw_tbl := (List.mem_of_getElem? (i := 1733) (by decide +kernel))
theorem kW_14_35 : u_lay (q_on 14) (q_T 14) 35 ∈ lw_tbl := (List.mem_of_getElem? (i := 1735) (by decide +kernel))
theorem kW_14_36 : u_lay (q_on 14) (q_T 14) 36 ∈ lw_tbl := (List.mem_of_getElem? (i := 1737) (by decide +kernel))
theorem kW_14_37 : u_lay (q_on 14) (q_T 14) 37 ∈ lw_tbl := (List.mem_of_getElem? (i := 1739) (by decide +kernel))
theorem kW_14_38 : u_lay (q_on 14) (q_T 14) 38 ∈ lw_tbl := (List.mem_of_getElem? (i := 1741) (by decide +kernel))
theorem kW_14_39 : u_lay (q_on 14) (q_T 14) 39 ∈ lw_tbl := (List.mem_of_getElem? (i := 1743) (by decide +kernel))
theorem kW_14_40 : u_lay (q_on 14) (q_T 14) 40 ∈ lw_tbl := (List.mem_of_getElem? (i := 1745) (by decide +kernel))
theorem kW_14_41 : u_lay (q_on 14) (q_T 14) 41 ∈ lw_tbl := (List.mem_of_getElem? (i := 1747) (by decide +kernel))
theorem kW_14_42 : u_lay (q_on 14) (q_T 14) 42 ∈ lw_tbl := (List.mem_of_getElem? (i := 1749) (by decide +kernel))
theorem kW_14_43 : u_lay (q_on 14) (q_T 14) 43 ∈ lw_tbl := (List.mem_of_getElem? (i := 1751) (by decide +kernel))
theorem kW_14_44 : u_lay (q_on 14) (q_T 14) 44 ∈ lw_tbl := (List.mem_of_getElem? (i := 1753) (by decide +kernel))
theorem kW_14_45 : u_lay (q_on 14) (q_T 14) 45 ∈ lw_tbl := (List.mem_of_getElem? (i := 1755) (by decide +kernel))
theorem kW_14_46 : u_lay (q_on 14) (q_T 14) 46 ∈ lw_tbl := (List.mem_of_getElem? (i := 1757) (by decide +kernel))
theorem kW_14_47 : u_lay (q_on 14) (q_T 14) 47 ∈ lw_tbl := (List.mem_of_getElem? (i := 1759) (by decide +kernel))
theorem kW_14_48 : u_lay (q_on 14) (q_T 14) 48 ∈ lw_tbl := (List.mem_of_getElem? (i := 1761) (by decide +kernel))
theorem kW_14_49 : u_lay (q_on 14) (q_T 14) 49 ∈ lw_tbl := (List.mem_of_getElem? (i := 1763) (by decide +kernel))
theorem kW_14_50 : u_lay (q_on 14) (q_T 14) 50 ∈ lw_tbl := (List.mem_of_getElem? (i := 1765) (by decide +kernel))
theorem kW_14_51 : u_lay (q_on 14) (q_T 14) 51 ∈ lw_tbl := (List.mem_of_getElem? (i := 1767) (by decide +kernel))
theorem kW_14_52 : u_lay (q_on 14) (q_T 14) 52 ∈ lw_tbl := (List.mem_of_getElem? (i := 1769) (by decide +kernel))
theorem kW_14_53 : u_lay (q_on 14) (q_T 14) 53 ∈ lw_tbl := (List.mem_of_getElem? (i := 1771) (by decide +kernel))
theorem kW_14_54 : u_lay (q_on 14) (q_T 14) 54 ∈ lw_tbl := (List.mem_of_getElem? (i := 1773) (by decide +kernel))
theorem kW_14_55 : u_lay (q_on 14) (q_T 14) 55 ∈ lw_tbl := (List.mem_of_getElem? (i := 1775) (by decide +kernel))
theorem kW_14_56 : u_lay (q_on 14) (q_T 14) 56 ∈ lw_tbl := (List.mem_of_getElem? (i := 1777) (by decide +kernel))
theorem kW_14_57 : u_lay (q_on 14) (q_T 14) 57 ∈ lw_tbl := (List.mem_of_getElem? (i := 1779) (by decide +kernel))
theorem kW_14_58 : u_lay (q_on 14) (q_T 14) 58 ∈ lw_tbl := (List.mem_of_getElem? (i := 1781) (by decide +kernel))
theorem kW_14_59 : u_lay (q_on 14) (q_T 14) 59 ∈ lw_tbl := (List.mem_of_getElem? (i := 1783) (by decide +kernel))
theorem kW_14_60 : u_lay (q_on 14) (q_T 14) 60 ∈ lw_tbl := (List.mem_of_getElem? (i := 1785) (by decide +kernel))
theorem kW_14_61 : u_lay (q_on 14) (q_T 14) 61 ∈ lw_tbl := (List.mem_of_getElem? (i := 1787) (by decide +kernel))
theorem kW_14_62 : u_lay (q_on 14) (q_T 14) 62 ∈ lw_tbl := (List.mem_of_getElem? (i := 1789) (by decide +kernel))
theorem kW_14_63 : u_lay (q_on 14) (q_T 14) 63 ∈ lw_tbl := (List.mem_of_getElem? (i := 1791) (by decide +kernel))
theorem kW_14_64 : u_lay (q_on 14) (q_T 14) 64 ∈ lw_tbl := (List.mem_of_getElem? (i := 1793) (by decide +kernel))
theorem kW_14_65 : u_lay (q_on 14) (q_T 14) 65 ∈ lw_tbl := (List.mem_of_getElem? (i := 1795) (by decide +kernel))
theorem kW_14_66 : u_lay (q_on 14) (q_T 14) 66 ∈ lw_tbl := (List.mem_of_getElem? (i := 1797) (by decide +kernel))
theorem kW_14_67 : u_lay (q_on 14) (q_T 14) 67 ∈ lw_tbl := (List.mem_of_getElem? (i := 1799) (by decide +kernel))
theorem kW_14_68 : u_lay (q_on 14) (q_T 14) 68 ∈ lw_tbl := (List.mem_of_getElem? (i := 1801) (by decide +kernel))
theorem kW_14_69 : u_lay (q_on 14) (q_T 14) 69 ∈ lw_tbl := (List.mem_of_getElem? (i := 1803) (by decide +kernel))
theorem kW_14_70 : u_lay (q_on 14) (q_T 14) 70 ∈ lw_tbl := (List.mem_of_getElem? (i := 1805) (by decide +kernel))
theorem kW_14_71 : u_lay (q_on 14) (q_T 14) 71 ∈ lw_tbl := (List.mem_of_getElem? (i := 1807) (by decide +kernel))
theorem kW_14_72 : u_lay (q_on 14) (q_T 14) 72 ∈ lw_tbl := (List.mem_of_getElem? (i := 1809) (by decide +kernel))
theorem kW_14_73 : u_lay (q_on 14) (q_T 14) 73 ∈ lw_tbl := (List.mem_of_getElem? (i := 1811) (by decide +kernel))
theorem kW_14_74 : u_lay (q_on 14) (q_T 14) 74 ∈ lw_tbl := (List.mem_of_getElem? (i := 1813) (by decide +kernel))
theorem kW_14_75 : u_lay (q_on 14) (q_T 14) 75 ∈ lw_tbl := (List.mem_of_getElem? (i := 1815) (by decide +kernel))
theorem kW_14_76 : u_lay (q_on 14) (q_T 14) 76 ∈ lw_tbl := (List.mem_of_getElem? (i := 1817) (by decide +kernel))
theorem kW_14_77 : u_lay (q_on 14) (q_T 14) 77 ∈ lw_tbl := (List.mem_of_getElem? (i := 1819) (by decide +kernel))
theorem kW_14_78 : u_lay (q_on 14) (q_T 14) 78 ∈ lw_tbl := (List.mem_of_getElem? (i := 1821) (by decide +kernel))
theorem kW_14_79 : u_lay (q_on 14) (q_T 14) 79 ∈ lw_tbl := (List.mem_of_getElem? (i := 1823) (by decide +kernel))
theorem kW : ∀ v k : Nat, v < 15 → k < q_N v → u_lay (q_on v) (q_T v) k ∈ lw_tbl := by
  intro v k h hk
  match v, h with
  | 0, _ => exact match k, hk with
    | 0, _ => kW_0_0
    | 1, _ => kW_0_1
    | 2, _ => kW_0_2
    | k + 3, hk => absurd hk (by show ¬ k + 3 < 3; omega)
  | 1, _ => exact match k, hk with
    | 0, _ => kW_1_0
    | 1, _ => kW_1_1
    | k + 2, hk => absurd hk (by show ¬ k + 2 < 2; omega)
  | 2, _ => exact match k, hk with
    | 0, _ => kW_2_0
    | 1, _ => kW_2_1
    | k + 2, hk => absurd hk (by show ¬ k + 2 < 2; omega)
  | 3, _ => exact match k, hk with
    | 0, _ => kW_3_0
    | 1, _ => kW_3_1
    | 2, _ => kW_3_2
    | 3, _ => kW_3_3
    | k + 4, hk => absurd hk (by show ¬ k + 4 < 4; omega)
  | 4, _ => exact match k, hk with
    | 0, _ => kW_4_0
    | 1, _ => kW_4_1
    | 2, _ => kW_4_2
    | 3, _ => kW_4_3
    | 4, _ => kW_4_4
    | 5, _ => kW_4_5
    | k + 6, hk => absurd hk (by show ¬ k + 6 < 6; omega)
  | 5, _ => exact match k, hk with
    | 0, _ => kW_5_0
    | 1, _ => kW_5_1
    | 2, _ => kW_5_2
    | 3, _ => kW_5_3
    | 4, _ => kW_5_4
    | 5, _ => kW_5_5
    | 6, _ => kW_5_6
    | 7, _ => kW_5_7
    | 8, _ => kW_5_8
    | 9, _ => kW_5_9
    | 10, _ => kW_5_10
    | 11, _ => kW_5_11
    | 12, _ => kW_5_12
    | 13, _ => kW_5_13
    | 14, _ => kW_5_14
    | 15, _ => kW_5_15
    | 16, _ => kW_5_16
    | k + 17, hk => absurd hk (by show ¬ k + 17 < 17; omega)
  | 6, _ => exact match k, hk with
    | 0, _ => kW_6_0
    | 1, _ => kW_6_1
    | 2, _ => kW_6_2
    | 3, _ => kW_6_3
    | 4, _ => kW_6_4
    | 5, _ => kW_6_5
    | k + 6, hk => absurd hk (by show ¬ k + 6 < 6; omega)
  | 7, _ => exact match k, hk with
    | 0, _ => kW_7_0
    | 1, _ => kW_7_1
    | 2, _ => kW_7_2
    | 3, _ => kW_7_3
    | 4, _ => kW_7_4
    | 5, _ => kW_7_5
    | 6, _ => kW_7_6
    | 7, _ => kW_7_7
    | 8, _ => kW_7_8
    | 9, _ => kW_7_9
    | k + 10, hk => absurd hk (by show ¬ k + 10 < 10; omega)
  | 8, _ => exact match k, hk with
    | 0, _ => kW_8_0
    | 1, _ => kW_8_1
    | 2, _ => kW_8_2
    | 3, _ => kW_8_3
    | k + 4, hk => absurd hk (by show ¬ k + 4 < 4; omega)
  | 9, _ => exact match k, hk with
    | 0, _ => kW_9_0
    | 1, _ => kW_9_1
    | 2, _ => kW_9_2
    | k + 3, hk => absurd hk (by show ¬ k + 3 < 3; omega)
  | 10, _ => exact match k, hk with
    | 0, _ => kW_10_0
    | 1, _ => kW_10_1
    | 2, _ => kW_10_2
    | 3, _ => kW_10_3
    | 4, _ => kW_10_4
    | 5, _ => kW_10_5
    | 6, _ => kW_10_6
    | 7, _ => kW_10_7
    | k + 8, hk => absurd hk (by show ¬ k + 8 < 8; omega)
  | 11, _ => exact match k, hk with
    | 0, _ => kW_11_0
    | 1, _ => kW_11_1
    | 2, _ => kW_11_2
    | 3, _ => kW_11_3
    | k + 4, hk => absurd hk (by show ¬ k + 4 < 4; omega)
  | 12, _ => exact match k, hk with
    | 0, _ => kW_12_0
    | 1, _ => kW_12_1
    | 2, _ => kW_12_2
    | 3, _ => kW_12_3
    | 4, _ => kW_12_4
    | 5, _ => kW_12_5
    | 6, _ => kW_12_6
    | 7, _ => kW_12_7
    | 8, _ => kW_12_8
    | k + 9, hk => absurd hk (by show ¬ k + 9 < 9; omega)
  | 13, _ => exact match k, hk with
    | 0, _ => kW_13_0
    | 1, _ => kW_13_1
    | 2, _ => kW_13_2
    | 3, _ => kW_13_3
    | 4, _ => kW_13_4
    | 5, _ => kW_13_5
    | 6, _ => kW_13_6
    | 7, _ => kW_13_7
    | 8, _ => kW_13_8
    | 9, _ => kW_13_9
    | 10, _ => kW_13_10
    | 11, _ => kW_13_11
    | 12, _ => kW_13_12
    | 13, _ => kW_13_13
    | 14, _ => kW_13_14
    | 15, _ => kW_13_15
    | 16, _ => kW_13_16
    | 17, _ => kW_13_17
    | 18, _ => kW_13_18
    | 19, _ => kW_13_19
    | k + 20, hk => absurd hk (by show ¬ k + 20 < 20; omega)
  | 14, _ => exact match k, hk with
    | 0, _ => kW_14_0
    | 1, _ => kW_14_1
    | 2, _ => kW_14_2
    | 3, _ => kW_14_3
    | 4, _ => kW_14_4
    | 5, _ => kW_14_5
    | 6, _ => kW_14_6
    | 7, _ => kW_14_7
    | 8, _ => kW_14_8
    | 9, _ => kW_14_9
    | 10, _ => kW_14_10
    | 11, _ => kW_14_11
    | 12, _ => kW_14_12
    | 13, _ => kW_14_13
    | 14, _ => kW_14_14
    | 15, _ => kW_14_15
    | 16, _ => kW_14_16
    | 17, _ => kW_14_17
    | 18, _ => kW_14_18
    | 19, _ => kW_14_19
    | 20, _ => kW_14_20
    | 21, _ => kW_14_21
    | 22, _ => kW_14_22
    | 23, _ => kW_14_23
    | 24, _ => kW_14_24
    | 25, _ => kW_14_25
    | 26, _ => kW_14_26
    | 27, _ => kW_14_27
    | 28, _ => kW_14_28
    | 29, _ => kW_14_29
    | 30, _ => kW_14_30
    | 31, _ => kW_14_31
    | 32, _ => kW_14_32
    | 33, _ => kW_14_33
    | 34, _ => kW_14_34
    | 35, _ => kW_14_35
    | 36, _ => kW_14_36
    | 37, _ => kW_14_37
    | 38, _ => kW_14_38
    | 39, _ => kW_14_39
    | 40, _ => kW_14_40
    | 41, _ => kW_14_41
    | 42, _ => kW_14_42
    | 43, _ => kW_14_43
    | 44, _ => kW_14_44
    | 45, _ => kW_14_45
    | 46, _ => kW_14_46
    | 47, _ => kW_14_47
    | 48, _ => kW_14_48
    | 49, _ => kW_14_49
    | 50, _ => kW_14_50
    | 51, _ => kW_14_51
    | 52, _ => kW_14_52
    | 53, _ => kW_14_53
    | 54, _ => kW_14_54
    | 55, _ => kW_14_55
    | 56, _ => kW_14_56
    | 57, _ => kW_14_57
    | 58, _ => kW_14_58
    | 59, _ => kW_14_59
    | 60, _ => kW_14_60
    | 61, _ => kW_14_61
    | 62, _ => kW_14_62
    | 63, _ => kW_14_63
    | 64, _ => kW_14_64
    | 65, _ => kW_14_65
    | 66, _ => kW_14_66
    | 67, _ => kW_14_67
    | 68, _ => kW_14_68
    | 69, _ => kW_14_69
    | 70, _ => kW_14_70
    | 71, _ => kW_14_71
    | 72, _ => kW_14_72
    | 73, _ => kW_14_73
    | 74, _ => kW_14_74
    | 75, _ => kW_14_75
    | 76, _ => kW_14_76
    | 77, _ => kW_14_77
    | 78, _ => kW_14_78
    | 79, _ => kW_14_79
    | k + 80, hk => absurd hk (by show ¬ k + 80 < 80; omega)
  | n + 15, h => exact absurd h (by omega)
theorem kTy : ∀ v k : Nat, v < 15 → k < q_N v → parseFieldDescriptor (q_T v k).2.2.1 = some (q_Ty v k) := by
  intro v k h hk
  match v, h with
  | 0, _ => exact tyJx4a65c_ok k hk
  | 1, _ => exact tyX0_ok k hk
  | 2, _ => exact tyX1_ok k hk
  | 3, _ => exact tyX2_ok k hk
  | 4, _ => exact tyX3_ok k hk
  | 5, _ => exact tyX4_ok k hk
  | 6, _ => exact tyX5_ok k hk
  | 7, _ => exact tyX6_ok k hk
  | 8, _ => exact tyX7_ok k hk
  | 9, _ => exact tyX8_ok k hk
  | 10, _ => exact tyX9_ok k hk
  | 11, _ => exact tyX10_ok k hk
  | 12, _ => exact tyX11_ok k hk
  | 13, _ => exact tyX12_ok k hk
  | 14, _ => exact tyX13_ok k hk
  | n + 15, h => exact absurd h (by omega)
theorem kNm : ∀ v : Nat, v < 15 → ∀ a, a < q_N v → ∀ b, b < q_N v → a ≠ b → (q_T v a).2.1 ≠ (q_T v b).2.1 := by
  intro v h
  match v, h with
  | 0, _ => exact nmJx4a65c
  | 1, _ => exact nmX0
  | 2, _ => exact nmX1
  | 3, _ => exact nmX2
  | 4, _ => exact nmX3
  | 5, _ => exact nmX4
  | 6, _ => exact nmX5
  | 7, _ => exact nmX6
  | 8, _ => exact nmX7
  | 9, _ => exact nmX8
  | 10, _ => exact nmX9
  | 11, _ => exact nmX10
  | 12, _ => exact nmX11
  | 13, _ => exact nmX12
  | 14, _ => exact nmX13
  | n + 15, h => exact absurd h (by omega)
def q_lX (o i : Nat) : Option (Nat × Nat × Nat) := match o, i with
  | 13, 422 => some (1, 424, 426)
  | 13, 439 => some (2, 441, 443)
  | 13, 429 => some (3, 431, 433)
  | 13, 434 => some (4, 436, 438)
  | 13, 444 => some (5, 446, 448)
  | _, _ => none
def q_xn : Nat → String := fun k => match k with
  | 1 => "java/lang/IllegalArgumentException"
  | 2 => "java/lang/UnsupportedOperationException"
  | 3 => "java/lang/IndexOutOfBoundsException"
  | 4 => "java/util/NoSuchElementException"
  | _ => "java/lang/IllegalStateException"
def q_lH (o i : Nat) : Option Nat := match o, i with
  | 20, 13 => some 1
  | 20, 15 => some 2
  | 20, 24 => some 3
  | 20, 26 => some 4
  | 20, 100 => some 5
  | _, _ => none
theorem kH : ∀ (o i v : Nat), q_lH o i = some v → Cond.classLink (q_on o) i (q_xn v) ∈ lw_tbl := by
  intro o i v h; unfold q_lH at h; split at h
  · cases h; exact (List.mem_of_getElem? (i := 621) (by decide +kernel))
  · cases h; exact (List.mem_of_getElem? (i := 622) (by decide +kernel))
  · cases h; exact (List.mem_of_getElem? (i := 827) (by decide +kernel))
  · cases h; exact (List.mem_of_getElem? (i := 828) (by decide +kernel))
  · cases h; exact (List.mem_of_getElem? (i := 1384) (by decide +kernel))
  · cases h
def q_py : Nat → MethodName := fun k => match k with
  | 0 => ⟨"java/lang/Object", "<init>", "()V"⟩
  | 1 => ⟨"java/lang/Math", "max", "(II)I"⟩
  | 2 => ⟨"java/lang/Math", "min", "(II)I"⟩
  | 3 => ⟨"java/lang/Math", "floorMod", "(II)I"⟩
  | 4 => ⟨"java/lang/System", "arraycopy", "(Ljava/lang/Object;ILjava/lang/Object;II)V"⟩
  | 5 => ⟨"[I", "clone", "()Ljava/lang/Object;"⟩
  | 6 => ⟨"java/util/ArrayList", "<init>", "()V"⟩
  | 7 => ⟨"java/util/ArrayList", "size", "()I"⟩
  | 8 => ⟨"java/util/ArrayList", "get", "(I)Ljava/lang/Object;"⟩
  | 9 => ⟨"java/util/ArrayList", "add", "(Ljava/lang/Object;)Z"⟩
  | 10 => ⟨"java/lang/String", "length", "()I"⟩
  | _ => ⟨"java/lang/String", "charAt", "(I)C"⟩
def q_lP (o i : Nat) : Option Nat := match o, i with
  | 13, 1 => some 0
  | 11, 3 => some 0
  | 9, 3 => some 0
  | 9, 9 => some 1
  | 2, 3 => some 0
  | 2, 15 => some 5
  | 4, 3 => some 0
  | 10, 3 => some 0
  | 3, 3 => some 0
  | 12, 3 => some 0
  | 1, 3 => some 0
  | 13, 85 => some 6
  | 7, 3 => some 0
  | 8, 1 => some 0
  | 6, 3 => some 0
  | 3, 42 => some 2
  | 13, 237 => some 7
  | 13, 449 => some 8
  | 11, 36 => some 10
  | 11, 41 => some 11
  | 13, 456 => some 2
  | 4, 38 => some 1
  | 10, 45 => some 2
  | 10, 84 => some 4
  | 12, 29 => some 2
  | 12, 51 => some 1
  | 2, 23 => some 4
  | 5, 3 => some 0
  | 5, 34 => some 1
  | 13, 453 => some 9
  | 22, 304 => some 2
  | 22, 150 => some 4
  | 13, 520 => some 1
  | 7, 53 => some 1
  | 8, 40 => some 3
  | 8, 35 => some 2
  | 14, 3 => some 0
  | 14, 181 => some 10
  | 14, 187 => some 11
  | 14, 238 => some 1
  | 14, 305 => some 2
  | 14, 462 => some 3
  | _, _ => none
theorem kP : ∀ (o i v : Nat), q_lP o i = some v → Cond.methodLink (q_on o) i (q_py v) ∈ lw_tbl := by
  intro o i v h; unfold q_lP at h; split at h
  · cases h; exact (List.mem_of_getElem? (i := 123) (by decide +kernel))
  · cases h; exact (List.mem_of_getElem? (i := 131) (by decide +kernel))
  · cases h; exact (List.mem_of_getElem? (i := 156) (by decide +kernel))
  · cases h; exact (List.mem_of_getElem? (i := 157) (by decide +kernel))
  · cases h; exact (List.mem_of_getElem? (i := 179) (by decide +kernel))
  · cases h; exact (List.mem_of_getElem? (i := 182) (by decide +kernel))
  · cases h; exact (List.mem_of_getElem? (i := 201) (by decide +kernel))
  · cases h; exact (List.mem_of_getElem? (i := 231) (by decide +kernel))
  · cases h; exact (List.mem_of_getElem? (i := 265) (by decide +kernel))
  · cases h; exact (List.mem_of_getElem? (i := 285) (by decide +kernel))
  · cases h; exact (List.mem_of_getElem? (i := 324) (by decide +kernel))
  · cases h; exact (List.mem_of_getElem? (i := 337) (by decide +kernel))
  · cases h; exact (List.mem_of_getElem? (i := 366) (by decide +kernel))
  · cases h; exact (List.mem_of_getElem? (i := 404) (by decide +kernel))
  · cases h; exact (List.mem_of_getElem? (i := 427) (by decide +kernel))
  · cases h; exact (List.mem_of_getElem? (i := 568) (by decide +kernel))
  · cases h; exact (List.mem_of_getElem? (i := 595) (by decide +kernel))
  · cases h; exact (List.mem_of_getElem? (i := 603) (by decide +kernel))
  · cases h; exact (List.mem_of_getElem? (i := 766) (by decide +kernel))
  · cases h; exact (List.mem_of_getElem? (i := 776) (by decide +kernel))
  · cases h; exact (List.mem_of_getElem? (i := 879) (by decide +kernel))
  · cases h; exact (List.mem_of_getElem? (i := 888) (by decide +kernel))
  · cases h; exact (List.mem_of_getElem? (i := 931) (by decide +kernel))
  · cases h; exact (List.mem_of_getElem? (i := 941) (by decide +kernel))
  · cases h; exact (List.mem_of_getElem? (i := 1012) (by decide +kernel))
  · cases h; exact (List.mem_of_getElem? (i := 1028) (by decide +kernel))
  · cases h; exact (List.mem_of_getElem? (i := 1092) (by decide +kernel))
  · cases h; exact (List.mem_of_getElem? (i := 1149) (by decide +kernel))
  · cases h; exact (List.mem_of_getElem? (i := 1152) (by decide +kernel))
  · cases h; exact (List.mem_of_getElem? (i := 1235) (by decide +kernel))
  · cases h; exact (List.mem_of_getElem? (i := 1292) (by decide +kernel))
  · cases h; exact (List.mem_of_getElem? (i := 1293) (by decide +kernel))
  · cases h; exact (List.mem_of_getElem? (i := 1458) (by decide +kernel))
  · cases h; exact (List.mem_of_getElem? (i := 1494) (by decide +kernel))
  · cases h; exact (List.mem_of_getElem? (i := 1560) (by decide +kernel))
  · cases h; exact (List.mem_of_getElem? (i := 1563) (by decide +kernel))
  · cases h; exact (List.mem_of_getElem? (i := 1584) (by decide +kernel))
  · cases h; exact (List.mem_of_getElem? (i := 1875) (by decide +kernel))
  · cases h; exact (List.mem_of_getElem? (i := 1876) (by decide +kernel))
  · cases h; exact (List.mem_of_getElem? (i := 1927) (by decide +kernel))
  · cases h; exact (List.mem_of_getElem? (i := 1981) (by decide +kernel))
  · cases h; exact (List.mem_of_getElem? (i := 2191) (by decide +kernel))
  · cases h
def q_lS (o i : Nat) : Option Nat := match o, i with
  | 2, 9 => some 1
  | 10, 73 => some 2
  | _, _ => none
