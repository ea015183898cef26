theorem dX0_init_0 : decode cX0_init 0 = .ok (.aload_n 0, 1) := by decide +kernel
theorem dX0_init_1 : decode cX0_init 1 = .ok (.invokespecial 3, 3) := by decide +kernel
theorem dX0_init_4 : decode cX0_init 4 = .ok (.aload_n 0, 1) := by decide +kernel
theorem dX0_init_5 : decode cX0_init 5 = .ok (.bipush 40, 2) := by decide +kernel
theorem dX0_init_7 : decode cX0_init 7 = .ok (.newarray .int, 2) := by decide +kernel
theorem dX0_init_9 : decode cX0_init 9 = .ok (.putfield 11, 3) := by decide +kernel
theorem dX0_init_12 : decode cX0_init 12 = .ok (.return_, 1) := by decide +kernel
theorem dX0_add_0 : decode cX0_add 0 = .ok (.aload_n 0, 1) := by decide +kernel
theorem dX0_add_1 : decode cX0_add 1 = .ok (.getfield 15, 3) := by decide +kernel
theorem dX0_add_4 : decode cX0_add 4 = .ok (.bipush 40, 2) := by decide +kernel
theorem dX0_add_6 : decode cX0_add 6 = .ok (.if_icmp .lt 5, 3) := by decide +kernel
theorem dX0_add_9 : decode cX0_add 9 = .ok (.iconst (-1), 1) := by decide +kernel
theorem dX0_add_10 : decode cX0_add 10 = .ok (.ireturn, 1) := by decide +kernel
theorem dX0_add_11 : decode cX0_add 11 = .ok (.aload_n 0, 1) := by decide +kernel
theorem dX0_add_12 : decode cX0_add 12 = .ok (.getfield 15, 3) := by decide +kernel
theorem dX0_add_15 : decode cX0_add 15 = .ok (.istore_n 2, 1) := by decide +kernel
theorem dX0_add_16 : decode cX0_add 16 = .ok (.iload_n 2, 1) := by decide +kernel
theorem dX0_add_17 : decode cX0_add 17 = .ok (.ifCond .le 35, 3) := by decide +kernel
theorem dX0_add_20 : decode cX0_add 20 = .ok (.aload_n 0, 1) := by decide +kernel
theorem dX0_add_21 : decode cX0_add 21 = .ok (.getfield 11, 3) := by decide +kernel
theorem dX0_add_24 : decode cX0_add 24 = .ok (.iload_n 2, 1) := by decide +kernel
theorem dX0_add_25 : decode cX0_add 25 = .ok (.iconst 1, 1) := by decide +kernel
theorem dX0_add_26 : decode cX0_add 26 = .ok (.isub, 1) := by decide +kernel
theorem dX0_add_27 : decode cX0_add 27 = .ok (.iaload, 1) := by decide +kernel
theorem dX0_add_28 : decode cX0_add 28 = .ok (.iload_n 1, 1) := by decide +kernel
theorem dX0_add_29 : decode cX0_add 29 = .ok (.if_icmp .le 23, 3) := by decide +kernel
theorem dX0_add_32 : decode cX0_add 32 = .ok (.aload_n 0, 1) := by decide +kernel
theorem dX0_add_33 : decode cX0_add 33 = .ok (.getfield 11, 3) := by decide +kernel
theorem dX0_add_36 : decode cX0_add 36 = .ok (.iload_n 2, 1) := by decide +kernel
theorem dX0_add_37 : decode cX0_add 37 = .ok (.aload_n 0, 1) := by decide +kernel
theorem dX0_add_38 : decode cX0_add 38 = .ok (.getfield 11, 3) := by decide +kernel
theorem dX0_add_41 : decode cX0_add 41 = .ok (.iload_n 2, 1) := by decide +kernel
theorem dX0_add_42 : decode cX0_add 42 = .ok (.iconst 1, 1) := by decide +kernel
theorem dX0_add_43 : decode cX0_add 43 = .ok (.isub, 1) := by decide +kernel
theorem dX0_add_44 : decode cX0_add 44 = .ok (.iaload, 1) := by decide +kernel
theorem dX0_add_45 : decode cX0_add 45 = .ok (.iastore, 1) := by decide +kernel
theorem dX0_add_46 : decode cX0_add 46 = .ok (.iinc 2 (-1), 3) := by decide +kernel
theorem dX0_add_49 : decode cX0_add 49 = .ok (.goto (-33), 3) := by decide +kernel
theorem dX0_add_52 : decode cX0_add 52 = .ok (.aload_n 0, 1) := by decide +kernel
theorem dX0_add_53 : decode cX0_add 53 = .ok (.getfield 11, 3) := by decide +kernel
theorem dX0_add_56 : decode cX0_add 56 = .ok (.iload_n 2, 1) := by decide +kernel
theorem dX0_add_57 : decode cX0_add 57 = .ok (.iload_n 1, 1) := by decide +kernel
theorem dX0_add_58 : decode cX0_add 58 = .ok (.iastore, 1) := by decide +kernel
theorem dX0_add_59 : decode cX0_add 59 = .ok (.aload_n 0, 1) := by decide +kernel
theorem dX0_add_60 : decode cX0_add 60 = .ok (.dup, 1) := by decide +kernel
theorem dX0_add_61 : decode cX0_add 61 = .ok (.getfield 15, 3) := by decide +kernel
theorem dX0_add_64 : decode cX0_add 64 = .ok (.iconst 1, 1) := by decide +kernel
theorem dX0_add_65 : decode cX0_add 65 = .ok (.iadd, 1) := by decide +kernel
theorem dX0_add_66 : decode cX0_add 66 = .ok (.putfield 15, 3) := by decide +kernel
theorem dX0_add_69 : decode cX0_add 69 = .ok (.aload_n 0, 1) := by decide +kernel
theorem dX0_add_70 : decode cX0_add 70 = .ok (.getfield 15, 3) := by decide +kernel
theorem dX0_add_73 : decode cX0_add 73 = .ok (.ireturn, 1) := by decide +kernel
theorem dX0_leastSpread_0 : decode cX0_leastSpread 0 = .ok (.iconst 0, 1) := by decide +kernel
theorem dX0_leastSpread_1 : decode cX0_leastSpread 1 = .ok (.istore_n 2, 1) := by decide +kernel
theorem dX0_leastSpread_2 : decode cX0_leastSpread 2 = .ok (.iload_n 2, 1) := by decide +kernel
theorem dX0_leastSpread_3 : decode cX0_leastSpread 3 = .ok (.sipush 255, 3) := by decide +kernel
theorem dX0_leastSpread_6 : decode cX0_leastSpread 6 = .ok (.if_icmp .ge 20, 3) := by decide +kernel
theorem dX0_leastSpread_9 : decode cX0_leastSpread 9 = .ok (.aload_n 0, 1) := by decide +kernel
theorem dX0_leastSpread_10 : decode cX0_leastSpread 10 = .ok (.iload_n 2, 1) := by decide +kernel
theorem dX0_leastSpread_11 : decode cX0_leastSpread 11 = .ok (.invokevirtual 19, 3) := by decide +kernel
theorem dX0_leastSpread_14 : decode cX0_leastSpread 14 = .ok (.iload_n 1, 1) := by decide +kernel
theorem dX0_leastSpread_15 : decode cX0_leastSpread 15 = .ok (.if_icmp .gt 5, 3) := by decide +kernel
theorem dX0_leastSpread_18 : decode cX0_leastSpread 18 = .ok (.iload_n 2, 1) := by decide +kernel
theorem dX0_leastSpread_19 : decode cX0_leastSpread 19 = .ok (.ireturn, 1) := by decide +kernel
theorem dX0_leastSpread_20 : decode cX0_leastSpread 20 = .ok (.iinc 2 1, 3) := by decide +kernel
theorem dX0_leastSpread_23 : decode cX0_leastSpread 23 = .ok (.goto (-21), 3) := by decide +kernel
theorem dX0_leastSpread_26 : decode cX0_leastSpread 26 = .ok (.sipush 255, 3) := by decide +kernel
theorem dX0_leastSpread_29 : decode cX0_leastSpread 29 = .ok (.ireturn, 1) := by decide +kernel
theorem dX0_sorts_0 : decode cX0_sorts 0 = .ok (.iconst 0, 1) := by decide +kernel
theorem dX0_sorts_1 : decode cX0_sorts 1 = .ok (.istore_n 2, 1) := by decide +kernel
theorem dX0_sorts_2 : decode cX0_sorts 2 = .ok (.iconst 0, 1) := by decide +kernel
theorem dX0_sorts_3 : decode cX0_sorts 3 = .ok (.istore_n 3, 1) := by decide +kernel
theorem dX0_sorts_4 : decode cX0_sorts 4 = .ok (.iconst 0, 1) := by decide +kernel
theorem dX0_sorts_5 : decode cX0_sorts 5 = .ok (.istore 4, 2) := by decide +kernel
theorem dX0_sorts_7 : decode cX0_sorts 7 = .ok (.iload 4, 2) := by decide +kernel
theorem dX0_sorts_9 : decode cX0_sorts 9 = .ok (.aload_n 0, 1) := by decide +kernel
theorem dX0_sorts_10 : decode cX0_sorts 10 = .ok (.getfield 15, 3) := by decide +kernel
theorem dX0_sorts_13 : decode cX0_sorts 13 = .ok (.if_icmp .ge 38, 3) := by decide +kernel
theorem dX0_sorts_16 : decode cX0_sorts 16 = .ok (.iload 4, 2) := by decide +kernel
theorem dX0_sorts_18 : decode cX0_sorts 18 = .ok (.ifCond .eq 21, 3) := by decide +kernel
theorem dX0_sorts_21 : decode cX0_sorts 21 = .ok (.aload_n 0, 1) := by decide +kernel
theorem dX0_sorts_22 : decode cX0_sorts 22 = .ok (.getfield 11, 3) := by decide +kernel
theorem dX0_sorts_25 : decode cX0_sorts 25 = .ok (.iload 4, 2) := by decide +kernel
theorem dX0_sorts_27 : decode cX0_sorts 27 = .ok (.iaload, 1) := by decide +kernel
theorem dX0_sorts_28 : decode cX0_sorts 28 = .ok (.aload_n 0, 1) := by decide +kernel
theorem dX0_sorts_29 : decode cX0_sorts 29 = .ok (.getfield 11, 3) := by decide +kernel
theorem dX0_sorts_32 : decode cX0_sorts 32 = .ok (.iload_n 3, 1) := by decide +kernel
theorem dX0_sorts_33 : decode cX0_sorts 33 = .ok (.iaload, 1) := by decide +kernel
theorem dX0_sorts_34 : decode cX0_sorts 34 = .ok (.isub, 1) := by decide +kernel
theorem dX0_sorts_35 : decode cX0_sorts 35 = .ok (.iload_n 1, 1) := by decide +kernel
theorem dX0_sorts_36 : decode cX0_sorts 36 = .ok (.if_icmp .le 9, 3) := by decide +kernel
theorem dX0_sorts_39 : decode cX0_sorts 39 = .ok (.iinc 2 1, 3) := by decide +kernel
theorem dX0_sorts_42 : decode cX0_sorts 42 = .ok (.iload 4, 2) := by decide +kernel
theorem dX0_sorts_44 : decode cX0_sorts 44 = .ok (.istore_n 3, 1) := by decide +kernel
theorem dX0_sorts_45 : decode cX0_sorts 45 = .ok (.iinc 4 1, 3) := by decide +kernel
theorem dX0_sorts_48 : decode cX0_sorts 48 = .ok (.goto (-41), 3) := by decide +kernel
theorem dX0_sorts_51 : decode cX0_sorts 51 = .ok (.iload_n 2, 1) := by decide +kernel
theorem dX0_sorts_52 : decode cX0_sorts 52 = .ok (.ireturn, 1) := by decide +kernel
theorem dX0_fullPacks_0 : decode cX0_fullPacks 0 = .ok (.iload_n 1, 1) := by decide +kernel
theorem dX0_fullPacks_1 : decode cX0_fullPacks 1 = .ok (.ifCond .gt 5, 3) := by decide +kernel
theorem dX0_fullPacks_4 : decode cX0_fullPacks 4 = .ok (.iconst 0, 1) := by decide +kernel
theorem dX0_fullPacks_5 : decode cX0_fullPacks 5 = .ok (.ireturn, 1) := by decide +kernel
theorem dX0_fullPacks_6 : decode cX0_fullPacks 6 = .ok (.iconst 0, 1) := by decide +kernel
theorem dX0_fullPacks_7 : decode cX0_fullPacks 7 = .ok (.istore_n 3, 1) := by decide +kernel
theorem dX0_fullPacks_8 : decode cX0_fullPacks 8 = .ok (.iconst 0, 1) := by decide +kernel
theorem dX0_fullPacks_9 : decode cX0_fullPacks 9 = .ok (.istore 4, 2) := by decide +kernel
theorem dX0_fullPacks_11 : decode cX0_fullPacks 11 = .ok (.iconst 1, 1) := by decide +kernel
theorem dX0_fullPacks_12 : decode cX0_fullPacks 12 = .ok (.istore 5, 2) := by decide +kernel
theorem dX0_fullPacks_14 : decode cX0_fullPacks 14 = .ok (.iload 5, 2) := by decide +kernel
theorem dX0_fullPacks_16 : decode cX0_fullPacks 16 = .ok (.aload_n 0, 1) := by decide +kernel
theorem dX0_fullPacks_17 : decode cX0_fullPacks 17 = .ok (.getfield 15, 3) := by decide +kernel
theorem dX0_fullPacks_20 : decode cX0_fullPacks 20 = .ok (.if_icmp .gt 51, 3) := by decide +kernel
theorem dX0_fullPacks_23 : decode cX0_fullPacks 23 = .ok (.iload 5, 2) := by decide +kernel
theorem dX0_fullPacks_25 : decode cX0_fullPacks 25 = .ok (.aload_n 0, 1) := by decide +kernel
theorem dX0_fullPacks_26 : decode cX0_fullPacks 26 = .ok (.getfield 15, 3) := by decide +kernel
theorem dX0_fullPacks_29 : decode cX0_fullPacks 29 = .ok (.if_icmp .eq 22, 3) := by decide +kernel
theorem dX0_fullPacks_32 : decode cX0_fullPacks 32 = .ok (.aload_n 0, 1) := by decide +kernel
theorem dX0_fullPacks_33 : decode cX0_fullPacks 33 = .ok (.getfield 11, 3) := by decide +kernel
theorem dX0_fullPacks_36 : decode cX0_fullPacks 36 = .ok (.iload 5, 2) := by decide +kernel
theorem dX0_fullPacks_38 : decode cX0_fullPacks 38 = .ok (.iaload, 1) := by decide +kernel
theorem dX0_fullPacks_39 : decode cX0_fullPacks 39 = .ok (.aload_n 0, 1) := by decide +kernel
theorem dX0_fullPacks_40 : decode cX0_fullPacks 40 = .ok (.getfield 11, 3) := by decide +kernel
theorem dX0_fullPacks_43 : decode cX0_fullPacks 43 = .ok (.iload 4, 2) := by decide +kernel
theorem dX0_fullPacks_45 : decode cX0_fullPacks 45 = .ok (.iaload, 1) := by decide +kernel
theorem dX0_fullPacks_46 : decode cX0_fullPacks 46 = .ok (.isub, 1) := by decide +kernel
theorem dX0_fullPacks_47 : decode cX0_fullPacks 47 = .ok (.iload_n 2, 1) := by decide +kernel
theorem dX0_fullPacks_48 : decode cX0_fullPacks 48 = .ok (.if_icmp .le 17, 3) := by decide +kernel
theorem dX0_fullPacks_51 : decode cX0_fullPacks 51 = .ok (.iload_n 3, 1) := by decide +kernel
theorem dX0_fullPacks_52 : decode cX0_fullPacks 52 = .ok (.iload 5, 2) := by decide +kernel
theorem dX0_fullPacks_54 : decode cX0_fullPacks 54 = .ok (.iload 4, 2) := by decide +kernel
theorem dX0_fullPacks_56 : decode cX0_fullPacks 56 = .ok (.isub, 1) := by decide +kernel
theorem dX0_fullPacks_57 : decode cX0_fullPacks 57 = .ok (.iload_n 1, 1) := by decide +kernel
theorem dX0_fullPacks_58 : decode cX0_fullPacks 58 = .ok (.idiv, 1) := by decide +kernel
theorem dX0_fullPacks_59 : decode cX0_fullPacks 59 = .ok (.iadd, 1) := by decide +kernel
theorem dX0_fullPacks_60 : decode cX0_fullPacks 60 = .ok (.istore_n 3, 1) := by decide +kernel
theorem dX0_fullPacks_61 : decode cX0_fullPacks 61 = .ok (.iload 5, 2) := by decide +kernel
theorem dX0_fullPacks_63 : decode cX0_fullPacks 63 = .ok (.istore 4, 2) := by decide +kernel
theorem dX0_fullPacks_65 : decode cX0_fullPacks 65 = .ok (.iinc 5 1, 3) := by decide +kernel
theorem dX0_fullPacks_68 : decode cX0_fullPacks 68 = .ok (.goto (-54), 3) := by decide +kernel
theorem dX0_fullPacks_71 : decode cX0_fullPacks 71 = .ok (.iload_n 3, 1) := by decide +kernel
theorem dX0_fullPacks_72 : decode cX0_fullPacks 72 = .ok (.ireturn, 1) := by decide +kernel
theorem dX1_init_0 : decode cX1_init 0 = .ok (.aload_n 0, 1) := by decide +kernel
theorem dX1_init_1 : decode cX1_init 1 = .ok (.invokespecial 3, 3) := by decide +kernel
theorem dX1_init_4 : decode cX1_init 4 = .ok (.aload_n 0, 1) := by decide +kernel
theorem dX1_init_5 : decode cX1_init 5 = .ok (.getstatic 9, 3) := by decide +kernel
theorem dX1_init_8 : decode cX1_init 8 = .ok (.invokevirtual 15, 3) := by decide +kernel
theorem dX1_init_11 : decode cX1_init 11 = .ok (.checkcast 16, 3) := by decide +kernel
theorem dX1_init_14 : decode cX1_init 14 = .ok (.putfield 20, 3) := by decide +kernel
theorem dX1_init_17 : decode cX1_init 17 = .ok (.return_, 1) := by decide +kernel
theorem dX1_value_0 : decode cX1_value 0 = .ok (.iload_n 1, 1) := by decide +kernel
theorem dX1_value_1 : decode cX1_value 1 = .ok (.ifCond .lt 21, 3) := by decide +kernel
theorem dX1_value_4 : decode cX1_value 4 = .ok (.iload_n 1, 1) := by decide +kernel
theorem dX1_value_5 : decode cX1_value 5 = .ok (.aload_n 0, 1) := by decide +kernel
theorem dX1_value_6 : decode cX1_value 6 = .ok (.getfield 20, 3) := by decide +kernel
theorem dX1_value_9 : decode cX1_value 9 = .ok (.arraylength, 1) := by decide +kernel
theorem dX1_value_10 : decode cX1_value 10 = .ok (.if_icmp .ge 12, 3) := by decide +kernel
theorem dX1_value_13 : decode cX1_value 13 = .ok (.aload_n 0, 1) := by decide +kernel
theorem dX1_value_14 : decode cX1_value 14 = .ok (.getfield 20, 3) := by decide +kernel
theorem dX1_value_17 : decode cX1_value 17 = .ok (.iload_n 1, 1) := by decide +kernel
theorem dX1_value_18 : decode cX1_value 18 = .ok (.iaload, 1) := by decide +kernel
theorem dX1_value_19 : decode cX1_value 19 = .ok (.goto 4, 3) := by decide +kernel
theorem dX1_value_22 : decode cX1_value 22 = .ok (.iconst (-1), 1) := by decide +kernel
theorem dX1_value_23 : decode cX1_value 23 = .ok (.ireturn, 1) := by decide +kernel
theorem dX1_read_0 : decode cX1_read 0 = .ok (.getstatic 9, 3) := by decide +kernel
theorem dX1_read_3 : decode cX1_read 3 = .ok (.iconst 0, 1) := by decide +kernel
theorem dX1_read_4 : decode cX1_read 4 = .ok (.aload_n 0, 1) := by decide +kernel
theorem dX1_read_5 : decode cX1_read 5 = .ok (.getfield 20, 3) := by decide +kernel
theorem dX1_read_8 : decode cX1_read 8 = .ok (.iconst 0, 1) := by decide +kernel
theorem dX1_read_9 : decode cX1_read 9 = .ok (.aload_n 0, 1) := by decide +kernel
theorem dX1_read_10 : decode cX1_read 10 = .ok (.getfield 20, 3) := by decide +kernel
theorem dX1_read_13 : decode cX1_read 13 = .ok (.arraylength, 1) := by decide +kernel
theorem dX1_read_14 : decode cX1_read 14 = .ok (.invokestatic 23, 3) := by decide +kernel
theorem dX1_read_17 : decode cX1_read 17 = .ok (.aload_n 0, 1) := by decide +kernel
theorem dX1_read_18 : decode cX1_read 18 = .ok (.iconst 0, 1) := by decide +kernel
theorem dX1_read_19 : decode cX1_read 19 = .ok (.putfield 29, 3) := by decide +kernel
theorem dX1_read_22 : decode cX1_read 22 = .ok (.aload_n 1, 1) := by decide +kernel
theorem dX1_read_23 : decode cX1_read 23 = .ok (.invokevirtual 33, 3) := by decide +kernel
theorem dX1_read_26 : decode cX1_read 26 = .ok (.ifCond .ne 7, 3) := by decide +kernel
theorem dX1_read_29 : decode cX1_read 29 = .ok (.iconst 1, 1) := by decide +kernel
theorem dX1_read_30 : decode cX1_read 30 = .ok (.goto 4, 3) := by decide +kernel
theorem dX1_read_33 : decode cX1_read 33 = .ok (.iconst 0, 1) := by decide +kernel
theorem dX1_read_34 : decode cX1_read 34 = .ok (.istore_n 2, 1) := by decide +kernel
theorem dX1_read_35 : decode cX1_read 35 = .ok (.iconst 0, 1) := by decide +kernel
theorem dX1_read_36 : decode cX1_read 36 = .ok (.istore_n 3, 1) := by decide +kernel
theorem dX1_read_37 : decode cX1_read 37 = .ok (.iload_n 3, 1) := by decide +kernel
theorem dX1_read_38 : decode cX1_read 38 = .ok (.bipush 24, 2) := by decide +kernel
theorem dX1_read_40 : decode cX1_read 40 = .ok (.if_icmp .gt 23, 3) := by decide +kernel
theorem dX1_read_43 : decode cX1_read 43 = .ok (.iload_n 2, 1) := by decide +kernel
theorem dX1_read_44 : decode cX1_read 44 = .ok (.ifCond .eq 19, 3) := by decide +kernel
theorem dX1_read_47 : decode cX1_read 47 = .ok (.aload_n 0, 1) := by decide +kernel
theorem dX1_read_48 : decode cX1_read 48 = .ok (.aload_n 1, 1) := by decide +kernel
theorem dX1_read_49 : decode cX1_read 49 = .ok (.invokevirtual 39, 3) := by decide +kernel
theorem dX1_read_52 : decode cX1_read 52 = .ok (.aload_n 1, 1) := by decide +kernel
theorem dX1_read_53 : decode cX1_read 53 = .ok (.invokevirtual 43, 3) := by decide +kernel
theorem dX1_read_56 : decode cX1_read 56 = .ok (.istore_n 2, 1) := by decide +kernel
theorem dX1_read_57 : decode cX1_read 57 = .ok (.iinc 3 1, 3) := by decide +kernel
theorem dX1_read_60 : decode cX1_read 60 = .ok (.goto (-23), 3) := by decide +kernel
theorem dX1_read_63 : decode cX1_read 63 = .ok (.return_, 1) := by decide +kernel
theorem dX1_readRule_0 : decode cX1_readRule 0 = .ok (.aload_n 0, 1) := by decide +kernel
theorem dX1_readRule_1 : decode cX1_readRule 1 = .ok (.getfield 29, 3) := by decide +kernel
theorem dX1_readRule_4 : decode cX1_readRule 4 = .ok (.bipush 24, 2) := by decide +kernel
theorem dX1_readRule_6 : decode cX1_readRule 6 = .ok (.if_icmp .lt 8, 3) := by decide +kernel
theorem dX1_readRule_9 : decode cX1_readRule 9 = .ok (.aload_n 1, 1) := by decide +kernel
theorem dX1_readRule_10 : decode cX1_readRule 10 = .ok (.invokevirtual 46, 3) := by decide +kernel
theorem dX1_readRule_13 : decode cX1_readRule 13 = .ok (.return_, 1) := by decide +kernel
theorem dX1_readRule_14 : decode cX1_readRule 14 = .ok (.aload_n 0, 1) := by decide +kernel
theorem dX1_readRule_15 : decode cX1_readRule 15 = .ok (.dup, 1) := by decide +kernel
theorem dX1_readRule_16 : decode cX1_readRule 16 = .ok (.getfield 29, 3) := by decide +kernel
theorem dX1_readRule_19 : decode cX1_readRule 19 = .ok (.iconst 1, 1) := by decide +kernel
theorem dX1_readRule_20 : decode cX1_readRule 20 = .ok (.iadd, 1) := by decide +kernel
theorem dX1_readRule_21 : decode cX1_readRule 21 = .ok (.putfield 29, 3) := by decide +kernel
theorem dX1_readRule_24 : decode cX1_readRule 24 = .ok (.aload_n 1, 1) := by decide +kernel
theorem dX1_readRule_25 : decode cX1_readRule 25 = .ok (.ldc 49, 2) := by decide +kernel
theorem dX1_readRule_27 : decode cX1_readRule 27 = .ok (.invokevirtual 51, 3) := by decide +kernel
theorem dX1_readRule_30 : decode cX1_readRule 30 = .ok (.tableswitch 137 0 6 #[42, 54, 62, 80, 93, 101, 119], 42) := by decide +kernel
theorem dX1_readRule_72 : decode cX1_readRule 72 = .ok (.aload_n 0, 1) := by decide +kernel
theorem dX1_readRule_73 : decode cX1_readRule 73 = .ok (.aload_n 1, 1) := by decide +kernel
theorem dX1_readRule_74 : decode cX1_readRule 74 = .ok (.iconst 0, 1) := by decide +kernel
theorem dX1_readRule_75 : decode cX1_readRule 75 = .ok (.iconst 0, 1) := by decide +kernel
theorem dX1_readRule_76 : decode cX1_readRule 76 = .ok (.bipush 100, 2) := by decide +kernel
theorem dX1_readRule_78 : decode cX1_readRule 78 = .ok (.invokevirtual 55, 3) := by decide +kernel
theorem dX1_readRule_81 : decode cX1_readRule 81 = .ok (.goto 86, 3) := by decide +kernel
theorem dX1_readRule_84 : decode cX1_readRule 84 = .ok (.aload_n 0, 1) := by decide +kernel
theorem dX1_readRule_85 : decode cX1_readRule 85 = .ok (.aload_n 1, 1) := by decide +kernel
theorem dX1_readRule_86 : decode cX1_readRule 86 = .ok (.invokevirtual 59, 3) := by decide +kernel
theorem dX1_readRule_89 : decode cX1_readRule 89 = .ok (.goto 78, 3) := by decide +kernel
theorem dX1_readRule_92 : decode cX1_readRule 92 = .ok (.aload_n 0, 1) := by decide +kernel
theorem dX1_readRule_93 : decode cX1_readRule 93 = .ok (.getfield 20, 3) := by decide +kernel
theorem dX1_readRule_96 : decode cX1_readRule 96 = .ok (.bipush 8, 2) := by decide +kernel
theorem dX1_readRule_98 : decode cX1_readRule 98 = .ok (.aload_n 1, 1) := by decide +kernel
theorem dX1_readRule_99 : decode cX1_readRule 99 = .ok (.iconst 3, 1) := by decide +kernel
theorem dX1_readRule_100 : decode cX1_readRule 100 = .ok (.iconst 1, 1) := by decide +kernel
theorem dX1_readRule_101 : decode cX1_readRule 101 = .ok (.bipush 20, 2) := by decide +kernel
theorem dX1_readRule_103 : decode cX1_readRule 103 = .ok (.invokevirtual 62, 3) := by decide +kernel
theorem dX1_readRule_106 : decode cX1_readRule 106 = .ok (.iastore, 1) := by decide +kernel
theorem dX1_readRule_107 : decode cX1_readRule 107 = .ok (.goto 60, 3) := by decide +kernel
theorem dX1_readRule_110 : decode cX1_readRule 110 = .ok (.aload_n 0, 1) := by decide +kernel
theorem dX1_readRule_111 : decode cX1_readRule 111 = .ok (.aload_n 1, 1) := by decide +kernel
theorem dX1_readRule_112 : decode cX1_readRule 112 = .ok (.bipush 9, 2) := by decide +kernel
theorem dX1_readRule_114 : decode cX1_readRule 114 = .ok (.iconst 1, 1) := by decide +kernel
theorem dX1_readRule_115 : decode cX1_readRule 115 = .ok (.bipush 60, 2) := by decide +kernel
theorem dX1_readRule_117 : decode cX1_readRule 117 = .ok (.invokevirtual 55, 3) := by decide +kernel
theorem dX1_readRule_120 : decode cX1_readRule 120 = .ok (.goto 47, 3) := by decide +kernel
theorem dX1_readRule_123 : decode cX1_readRule 123 = .ok (.aload_n 0, 1) := by decide +kernel
theorem dX1_readRule_124 : decode cX1_readRule 124 = .ok (.aload_n 1, 1) := by decide +kernel
theorem dX1_readRule_125 : decode cX1_readRule 125 = .ok (.invokevirtual 66, 3) := by decide +kernel
theorem dX1_readRule_128 : decode cX1_readRule 128 = .ok (.goto 39, 3) := by decide +kernel
theorem dX1_readRule_131 : decode cX1_readRule 131 = .ok (.aload_n 0, 1) := by decide +kernel
theorem dX1_readRule_132 : decode cX1_readRule 132 = .ok (.getfield 20, 3) := by decide +kernel
theorem dX1_readRule_135 : decode cX1_readRule 135 = .ok (.bipush 16, 2) := by decide +kernel
theorem dX1_readRule_137 : decode cX1_readRule 137 = .ok (.aload_n 1, 1) := by decide +kernel
theorem dX1_readRule_138 : decode cX1_readRule 138 = .ok (.iconst 3, 1) := by decide +kernel
theorem dX1_readRule_139 : decode cX1_readRule 139 = .ok (.iconst 1, 1) := by decide +kernel
theorem dX1_readRule_140 : decode cX1_readRule 140 = .ok (.bipush 20, 2) := by decide +kernel
theorem dX1_readRule_142 : decode cX1_readRule 142 = .ok (.invokevirtual 62, 3) := by decide +kernel
theorem dX1_readRule_145 : decode cX1_readRule 145 = .ok (.iastore, 1) := by decide +kernel
theorem dX1_readRule_146 : decode cX1_readRule 146 = .ok (.goto 21, 3) := by decide +kernel
theorem dX1_readRule_149 : decode cX1_readRule 149 = .ok (.aload_n 0, 1) := by decide +kernel
theorem dX1_readRule_150 : decode cX1_readRule 150 = .ok (.getfield 20, 3) := by decide +kernel
theorem dX1_readRule_153 : decode cX1_readRule 153 = .ok (.bipush 17, 2) := by decide +kernel
theorem dX1_readRule_155 : decode cX1_readRule 155 = .ok (.aload_n 1, 1) := by decide +kernel
theorem dX1_readRule_156 : decode cX1_readRule 156 = .ok (.iconst 3, 1) := by decide +kernel
theorem dX1_readRule_157 : decode cX1_readRule 157 = .ok (.iconst 0, 1) := by decide +kernel
theorem dX1_readRule_158 : decode cX1_readRule 158 = .ok (.bipush 50, 2) := by decide +kernel
theorem dX1_readRule_160 : decode cX1_readRule 160 = .ok (.invokevirtual 62, 3) := by decide +kernel
theorem dX1_readRule_163 : decode cX1_readRule 163 = .ok (.iastore, 1) := by decide +kernel
theorem dX1_readRule_164 : decode cX1_readRule 164 = .ok (.goto 3, 3) := by decide +kernel
theorem dX1_readRule_167 : decode cX1_readRule 167 = .ok (.return_, 1) := by decide +kernel
theorem dX1_readOfBath_0 : decode cX1_readOfBath 0 = .ok (.aload_n 1, 1) := by decide +kernel
theorem dX1_readOfBath_1 : decode cX1_readOfBath 1 = .ok (.ldc 69, 2) := by decide +kernel
theorem dX1_readOfBath_3 : decode cX1_readOfBath 3 = .ok (.invokevirtual 51, 3) := by decide +kernel
theorem dX1_readOfBath_6 : decode cX1_readOfBath 6 = .ok (.istore 5, 2) := by decide +kernel
theorem dX1_readOfBath_8 : decode cX1_readOfBath 8 = .ok (.aload_n 1, 1) := by decide +kernel
theorem dX1_readOfBath_9 : decode cX1_readOfBath 9 = .ok (.iconst 3, 1) := by decide +kernel
theorem dX1_readOfBath_10 : decode cX1_readOfBath 10 = .ok (.iload_n 3, 1) := by decide +kernel
theorem dX1_readOfBath_11 : decode cX1_readOfBath 11 = .ok (.iload 4, 2) := by decide +kernel
theorem dX1_readOfBath_13 : decode cX1_readOfBath 13 = .ok (.invokevirtual 62, 3) := by decide +kernel
theorem dX1_readOfBath_16 : decode cX1_readOfBath 16 = .ok (.istore 6, 2) := by decide +kernel
theorem dX1_readOfBath_18 : decode cX1_readOfBath 18 = .ok (.iload 5, 2) := by decide +kernel
theorem dX1_readOfBath_20 : decode cX1_readOfBath 20 = .ok (.iconst (-1), 1) := by decide +kernel
theorem dX1_readOfBath_21 : decode cX1_readOfBath 21 = .ok (.if_icmp .eq 14, 3) := by decide +kernel
theorem dX1_readOfBath_24 : decode cX1_readOfBath 24 = .ok (.aload_n 0, 1) := by decide +kernel
theorem dX1_readOfBath_25 : decode cX1_readOfBath 25 = .ok (.getfield 20, 3) := by decide +kernel
theorem dX1_readOfBath_28 : decode cX1_readOfBath 28 = .ok (.iload_n 2, 1) := by decide +kernel
theorem dX1_readOfBath_29 : decode cX1_readOfBath 29 = .ok (.iload 5, 2) := by decide +kernel
theorem dX1_readOfBath_31 : decode cX1_readOfBath 31 = .ok (.iadd, 1) := by decide +kernel
theorem dX1_readOfBath_32 : decode cX1_readOfBath 32 = .ok (.iload 6, 2) := by decide +kernel
theorem dX1_readOfBath_34 : decode cX1_readOfBath 34 = .ok (.iastore, 1) := by decide +kernel
theorem dX1_readOfBath_35 : decode cX1_readOfBath 35 = .ok (.return_, 1) := by decide +kernel
theorem dX1_readPours_0 : decode cX1_readPours 0 = .ok (.aload_n 1, 1) := by decide +kernel
theorem dX1_readPours_1 : decode cX1_readPours 1 = .ok (.ldc 69, 2) := by decide +kernel
theorem dX1_readPours_3 : decode cX1_readPours 3 = .ok (.invokevirtual 51, 3) := by decide +kernel
theorem dX1_readPours_6 : decode cX1_readPours 6 = .ok (.istore_n 2, 1) := by decide +kernel
theorem dX1_readPours_7 : decode cX1_readPours 7 = .ok (.aload_n 1, 1) := by decide +kernel
theorem dX1_readPours_8 : decode cX1_readPours 8 = .ok (.ldc 71, 2) := by decide +kernel
theorem dX1_readPours_10 : decode cX1_readPours 10 = .ok (.invokevirtual 51, 3) := by decide +kernel
theorem dX1_readPours_13 : decode cX1_readPours 13 = .ok (.ifCond .ne 13, 3) := by decide +kernel
theorem dX1_readPours_16 : decode cX1_readPours 16 = .ok (.aload_n 1, 1) := by decide +kernel
theorem dX1_readPours_17 : decode cX1_readPours 17 = .ok (.iconst 3, 1) := by decide +kernel
theorem dX1_readPours_18 : decode cX1_readPours 18 = .ok (.iconst 0, 1) := by decide +kernel
theorem dX1_readPours_19 : decode cX1_readPours 19 = .ok (.iconst 4, 1) := by decide +kernel
theorem dX1_readPours_20 : decode cX1_readPours 20 = .ok (.invokevirtual 62, 3) := by decide +kernel
theorem dX1_readPours_23 : decode cX1_readPours 23 = .ok (.goto 4, 3) := by decide +kernel
theorem dX1_readPours_26 : decode cX1_readPours 26 = .ok (.iconst (-1), 1) := by decide +kernel
theorem dX1_readPours_27 : decode cX1_readPours 27 = .ok (.istore_n 3, 1) := by decide +kernel
theorem dX1_readPours_28 : decode cX1_readPours 28 = .ok (.iload_n 2, 1) := by decide +kernel
theorem dX1_readPours_29 : decode cX1_readPours 29 = .ok (.iconst (-1), 1) := by decide +kernel
theorem dX1_readPours_30 : decode cX1_readPours 30 = .ok (.if_icmp .eq 12, 3) := by decide +kernel
theorem dX1_readPours_33 : decode cX1_readPours 33 = .ok (.aload_n 0, 1) := by decide +kernel
theorem dX1_readPours_34 : decode cX1_readPours 34 = .ok (.getfield 20, 3) := by decide +kernel
theorem dX1_readPours_37 : decode cX1_readPours 37 = .ok (.iconst 4, 1) := by decide +kernel
theorem dX1_readPours_38 : decode cX1_readPours 38 = .ok (.iload_n 2, 1) := by decide +kernel
theorem dX1_readPours_39 : decode cX1_readPours 39 = .ok (.iadd, 1) := by decide +kernel
theorem dX1_readPours_40 : decode cX1_readPours 40 = .ok (.iload_n 3, 1) := by decide +kernel
theorem dX1_readPours_41 : decode cX1_readPours 41 = .ok (.iastore, 1) := by decide +kernel
theorem dX1_readPours_42 : decode cX1_readPours 42 = .ok (.return_, 1) := by decide +kernel
theorem dX1_readAgain_0 : decode cX1_readAgain 0 = .ok (.aload_n 0, 1) := by decide +kernel
theorem dX1_readAgain_1 : decode cX1_readAgain 1 = .ok (.getfield 20, 3) := by decide +kernel
theorem dX1_readAgain_4 : decode cX1_readAgain 4 = .ok (.bipush 13, 2) := by decide +kernel
theorem dX1_readAgain_6 : decode cX1_readAgain 6 = .ok (.aload_n 1, 1) := by decide +kernel
theorem dX1_readAgain_7 : decode cX1_readAgain 7 = .ok (.iconst 3, 1) := by decide +kernel
theorem dX1_readAgain_8 : decode cX1_readAgain 8 = .ok (.iconst 0, 1) := by decide +kernel
theorem dX1_readAgain_9 : decode cX1_readAgain 9 = .ok (.iconst 5, 1) := by decide +kernel
theorem dX1_readAgain_10 : decode cX1_readAgain 10 = .ok (.invokevirtual 62, 3) := by decide +kernel
theorem dX1_readAgain_13 : decode cX1_readAgain 13 = .ok (.iastore, 1) := by decide +kernel
theorem dX1_readAgain_14 : decode cX1_readAgain 14 = .ok (.aload_n 1, 1) := by decide +kernel
theorem dX1_readAgain_15 : decode cX1_readAgain 15 = .ok (.ldc 73, 2) := by decide +kernel
theorem dX1_readAgain_17 : decode cX1_readAgain 17 = .ok (.invokevirtual 51, 3) := by decide +kernel
theorem dX1_readAgain_20 : decode cX1_readAgain 20 = .ok (.pop, 1) := by decide +kernel
theorem dX1_readAgain_21 : decode cX1_readAgain 21 = .ok (.aload_n 1, 1) := by decide +kernel
theorem dX1_readAgain_22 : decode cX1_readAgain 22 = .ok (.ldc 75, 2) := by decide +kernel
theorem dX1_readAgain_24 : decode cX1_readAgain 24 = .ok (.invokevirtual 51, 3) := by decide +kernel
theorem dX1_readAgain_27 : decode cX1_readAgain 27 = .ok (.pop, 1) := by decide +kernel
theorem dX1_readAgain_28 : decode cX1_readAgain 28 = .ok (.aload_n 0, 1) := by decide +kernel
theorem dX1_readAgain_29 : decode cX1_readAgain 29 = .ok (.getfield 20, 3) := by decide +kernel
theorem dX1_readAgain_32 : decode cX1_readAgain 32 = .ok (.bipush 14, 2) := by decide +kernel
theorem dX1_readAgain_34 : decode cX1_readAgain 34 = .ok (.aload_n 1, 1) := by decide +kernel
theorem dX1_readAgain_35 : decode cX1_readAgain 35 = .ok (.ldc 77, 2) := by decide +kernel
theorem dX1_readAgain_37 : decode cX1_readAgain 37 = .ok (.invokevirtual 51, 3) := by decide +kernel
theorem dX1_readAgain_40 : decode cX1_readAgain 40 = .ok (.iastore, 1) := by decide +kernel
theorem dX1_readAgain_41 : decode cX1_readAgain 41 = .ok (.aload_n 0, 1) := by decide +kernel
theorem dX1_readAgain_42 : decode cX1_readAgain 42 = .ok (.getfield 20, 3) := by decide +kernel
theorem dX1_readAgain_45 : decode cX1_readAgain 45 = .ok (.bipush 15, 2) := by decide +kernel
theorem dX1_readAgain_47 : decode cX1_readAgain 47 = .ok (.aload_n 1, 1) := by decide +kernel
theorem dX1_readAgain_48 : decode cX1_readAgain 48 = .ok (.iconst 3, 1) := by decide +kernel
theorem dX1_readAgain_49 : decode cX1_readAgain 49 = .ok (.iconst 1, 1) := by decide +kernel
theorem dX1_readAgain_50 : decode cX1_readAgain 50 = .ok (.bipush 20, 2) := by decide +kernel
theorem dX1_readAgain_52 : decode cX1_readAgain 52 = .ok (.invokevirtual 62, 3) := by decide +kernel
theorem dX1_readAgain_55 : decode cX1_readAgain 55 = .ok (.iastore, 1) := by decide +kernel
theorem dX1_readAgain_56 : decode cX1_readAgain 56 = .ok (.return_, 1) := by decide +kernel
theorem dX2_init_0 : decode cX2_init 0 = .ok (.aload_n 0, 1) := by decide +kernel
theorem dX2_init_1 : decode cX2_init 1 = .ok (.invokespecial 3, 3) := by decide +kernel
theorem dX2_init_4 : decode cX2_init 4 = .ok (.aload_n 0, 1) := by decide +kernel
theorem dX2_init_5 : decode cX2_init 5 = .ok (.bipush 36, 2) := by decide +kernel
theorem dX2_init_7 : decode cX2_init 7 = .ok (.newarray .int, 2) := by decide +kernel
theorem dX2_init_9 : decode cX2_init 9 = .ok (.putfield 11, 3) := by decide +kernel
theorem dX2_init_12 : decode cX2_init 12 = .ok (.aload_n 0, 1) := by decide +kernel
theorem dX2_init_13 : decode cX2_init 13 = .ok (.bipush 9, 2) := by decide +kernel
theorem dX2_init_15 : decode cX2_init 15 = .ok (.newarray .int, 2) := by decide +kernel
theorem dX2_init_17 : decode cX2_init 17 = .ok (.putfield 15, 3) := by decide +kernel
theorem dX2_init_20 : decode cX2_init 20 = .ok (.aload_n 0, 1) := by decide +kernel
theorem dX2_init_21 : decode cX2_init 21 = .ok (.sipush 4608, 3) := by decide +kernel
theorem dX2_init_24 : decode cX2_init 24 = .ok (.newarray .int, 2) := by decide +kernel
theorem dX2_init_26 : decode cX2_init 26 = .ok (.putfield 18, 3) := by decide +kernel
theorem dX2_init_29 : decode cX2_init 29 = .ok (.return_, 1) := by decide +kernel
theorem dX2_tell_0 : decode cX2_tell 0 = .ok (.aload_n 0, 1) := by decide +kernel
theorem dX2_tell_1 : decode cX2_tell 1 = .ok (.getfield 11, 3) := by decide +kernel
theorem dX2_tell_4 : decode cX2_tell 4 = .ok (.iload_n 1, 1) := by decide +kernel
theorem dX2_tell_5 : decode cX2_tell 5 = .ok (.bipush 6, 2) := by decide +kernel
theorem dX2_tell_7 : decode cX2_tell 7 = .ok (.imul, 1) := by decide +kernel
theorem dX2_tell_8 : decode cX2_tell 8 = .ok (.iload_n 2, 1) := by decide +kernel
theorem dX2_tell_9 : decode cX2_tell 9 = .ok (.iadd, 1) := by decide +kernel
theorem dX2_tell_10 : decode cX2_tell 10 = .ok (.iload_n 3, 1) := by decide +kernel
theorem dX2_tell_11 : decode cX2_tell 11 = .ok (.iastore, 1) := by decide +kernel
theorem dX2_tell_12 : decode cX2_tell 12 = .ok (.return_, 1) := by decide +kernel
theorem dX2_between_0 : decode cX2_between 0 = .ok (.iload_n 1, 1) := by decide +kernel
theorem dX2_between_1 : decode cX2_between 1 = .ok (.iconst (-1), 1) := by decide +kernel
theorem dX2_between_2 : decode cX2_between 2 = .ok (.if_icmp .ne 7, 3) := by decide +kernel
theorem dX2_between_5 : decode cX2_between 5 = .ok (.iconst 0, 1) := by decide +kernel
theorem dX2_between_6 : decode cX2_between 6 = .ok (.goto 14, 3) := by decide +kernel
theorem dX2_between_9 : decode cX2_between 9 = .ok (.aload_n 0, 1) := by decide +kernel
theorem dX2_between_10 : decode cX2_between 10 = .ok (.getfield 11, 3) := by decide +kernel
theorem dX2_between_13 : decode cX2_between 13 = .ok (.iload_n 1, 1) := by decide +kernel
theorem dX2_between_14 : decode cX2_between 14 = .ok (.bipush 6, 2) := by decide +kernel
theorem dX2_between_16 : decode cX2_between 16 = .ok (.imul, 1) := by decide +kernel
theorem dX2_between_17 : decode cX2_between 17 = .ok (.iload_n 2, 1) := by decide +kernel
theorem dX2_between_18 : decode cX2_between 18 = .ok (.iadd, 1) := by decide +kernel
theorem dX2_between_19 : decode cX2_between 19 = .ok (.iaload, 1) := by decide +kernel
theorem dX2_between_20 : decode cX2_between 20 = .ok (.ireturn, 1) := by decide +kernel
theorem dX2_addBatch_0 : decode cX2_addBatch 0 = .ok (.aload_n 0, 1) := by decide +kernel
theorem dX2_addBatch_1 : decode cX2_addBatch 1 = .ok (.getfield 21, 3) := by decide +kernel
theorem dX2_addBatch_4 : decode cX2_addBatch 4 = .ok (.bipush 9, 2) := by decide +kernel
theorem dX2_addBatch_6 : decode cX2_addBatch 6 = .ok (.if_icmp .lt 5, 3) := by decide +kernel
theorem dX2_addBatch_9 : decode cX2_addBatch 9 = .ok (.iconst (-1), 1) := by decide +kernel
theorem dX2_addBatch_10 : decode cX2_addBatch 10 = .ok (.ireturn, 1) := by decide +kernel
theorem dX2_addBatch_11 : decode cX2_addBatch 11 = .ok (.aload_n 0, 1) := by decide +kernel
theorem dX2_addBatch_12 : decode cX2_addBatch 12 = .ok (.getfield 15, 3) := by decide +kernel
theorem dX2_addBatch_15 : decode cX2_addBatch 15 = .ok (.aload_n 0, 1) := by decide +kernel
theorem dX2_addBatch_16 : decode cX2_addBatch 16 = .ok (.getfield 21, 3) := by decide +kernel
theorem dX2_addBatch_19 : decode cX2_addBatch 19 = .ok (.iload_n 1, 1) := by decide +kernel
theorem dX2_addBatch_20 : decode cX2_addBatch 20 = .ok (.iastore, 1) := by decide +kernel
theorem dX2_addBatch_21 : decode cX2_addBatch 21 = .ok (.aload_n 0, 1) := by decide +kernel
theorem dX2_addBatch_22 : decode cX2_addBatch 22 = .ok (.dup, 1) := by decide +kernel
theorem dX2_addBatch_23 : decode cX2_addBatch 23 = .ok (.getfield 21, 3) := by decide +kernel
theorem dX2_addBatch_26 : decode cX2_addBatch 26 = .ok (.iconst 1, 1) := by decide +kernel
theorem dX2_addBatch_27 : decode cX2_addBatch 27 = .ok (.iadd, 1) := by decide +kernel
theorem dX2_addBatch_28 : decode cX2_addBatch 28 = .ok (.putfield 21, 3) := by decide +kernel
theorem dX2_addBatch_31 : decode cX2_addBatch 31 = .ok (.aload_n 0, 1) := by decide +kernel
theorem dX2_addBatch_32 : decode cX2_addBatch 32 = .ok (.getfield 21, 3) := by decide +kernel
theorem dX2_addBatch_35 : decode cX2_addBatch 35 = .ok (.ireturn, 1) := by decide +kernel
theorem dX2_leastSum_0 : decode cX2_leastSum 0 = .ok (.aload_n 0, 1) := by decide +kernel
theorem dX2_leastSum_1 : decode cX2_leastSum 1 = .ok (.getfield 21, 3) := by decide +kernel
theorem dX2_leastSum_4 : decode cX2_leastSum 4 = .ok (.ifCond .ne 5, 3) := by decide +kernel
theorem dX2_leastSum_7 : decode cX2_leastSum 7 = .ok (.iconst 0, 1) := by decide +kernel
theorem dX2_leastSum_8 : decode cX2_leastSum 8 = .ok (.ireturn, 1) := by decide +kernel
theorem dX2_leastSum_9 : decode cX2_leastSum 9 = .ok (.aload_n 0, 1) := by decide +kernel
theorem dX2_leastSum_10 : decode cX2_leastSum 10 = .ok (.getfield 18, 3) := by decide +kernel
theorem dX2_leastSum_13 : decode cX2_leastSum 13 = .ok (.iconst (-1), 1) := by decide +kernel
theorem dX2_leastSum_14 : decode cX2_leastSum 14 = .ok (.invokestatic 25, 3) := by decide +kernel
theorem dX2_leastSum_17 : decode cX2_leastSum 17 = .ok (.iconst 0, 1) := by decide +kernel
theorem dX2_leastSum_18 : decode cX2_leastSum 18 = .ok (.istore_n 1, 1) := by decide +kernel
theorem dX2_leastSum_19 : decode cX2_leastSum 19 = .ok (.iload_n 1, 1) := by decide +kernel
theorem dX2_leastSum_20 : decode cX2_leastSum 20 = .ok (.aload_n 0, 1) := by decide +kernel
theorem dX2_leastSum_21 : decode cX2_leastSum 21 = .ok (.getfield 21, 3) := by decide +kernel
theorem dX2_leastSum_24 : decode cX2_leastSum 24 = .ok (.if_icmp .ge 23, 3) := by decide +kernel
theorem dX2_leastSum_27 : decode cX2_leastSum 27 = .ok (.aload_n 0, 1) := by decide +kernel
theorem dX2_leastSum_28 : decode cX2_leastSum 28 = .ok (.getfield 18, 3) := by decide +kernel
theorem dX2_leastSum_31 : decode cX2_leastSum 31 = .ok (.iconst 1, 1) := by decide +kernel
theorem dX2_leastSum_32 : decode cX2_leastSum 32 = .ok (.iload_n 1, 1) := by decide +kernel
theorem dX2_leastSum_33 : decode cX2_leastSum 33 = .ok (.ishl, 1) := by decide +kernel
theorem dX2_leastSum_34 : decode cX2_leastSum 34 = .ok (.bipush 9, 2) := by decide +kernel
theorem dX2_leastSum_36 : decode cX2_leastSum 36 = .ok (.imul, 1) := by decide +kernel
theorem dX2_leastSum_37 : decode cX2_leastSum 37 = .ok (.iload_n 1, 1) := by decide +kernel
theorem dX2_leastSum_38 : decode cX2_leastSum 38 = .ok (.iadd, 1) := by decide +kernel
theorem dX2_leastSum_39 : decode cX2_leastSum 39 = .ok (.iconst 0, 1) := by decide +kernel
theorem dX2_leastSum_40 : decode cX2_leastSum 40 = .ok (.iastore, 1) := by decide +kernel
theorem dX2_leastSum_41 : decode cX2_leastSum 41 = .ok (.iinc 1 1, 3) := by decide +kernel
theorem dX2_leastSum_44 : decode cX2_leastSum 44 = .ok (.goto (-25), 3) := by decide +kernel
theorem dX2_leastSum_47 : decode cX2_leastSum 47 = .ok (.iconst 1, 1) := by decide +kernel
theorem dX2_leastSum_48 : decode cX2_leastSum 48 = .ok (.aload_n 0, 1) := by decide +kernel
theorem dX2_leastSum_49 : decode cX2_leastSum 49 = .ok (.getfield 21, 3) := by decide +kernel
theorem dX2_leastSum_52 : decode cX2_leastSum 52 = .ok (.ishl, 1) := by decide +kernel
theorem dX2_leastSum_53 : decode cX2_leastSum 53 = .ok (.iconst 1, 1) := by decide +kernel
theorem dX2_leastSum_54 : decode cX2_leastSum 54 = .ok (.isub, 1) := by decide +kernel
theorem dX2_leastSum_55 : decode cX2_leastSum 55 = .ok (.istore_n 1, 1) := by decide +kernel
theorem dX2_leastSum_56 : decode cX2_leastSum 56 = .ok (.iconst 1, 1) := by decide +kernel
theorem dX2_leastSum_57 : decode cX2_leastSum 57 = .ok (.istore_n 2, 1) := by decide +kernel
theorem dX2_leastSum_58 : decode cX2_leastSum 58 = .ok (.iload_n 2, 1) := by decide +kernel
theorem dX2_leastSum_59 : decode cX2_leastSum 59 = .ok (.iload_n 1, 1) := by decide +kernel
theorem dX2_leastSum_60 : decode cX2_leastSum 60 = .ok (.if_icmp .ge 46, 3) := by decide +kernel
theorem dX2_leastSum_63 : decode cX2_leastSum 63 = .ok (.iconst 0, 1) := by decide +kernel
theorem dX2_leastSum_64 : decode cX2_leastSum 64 = .ok (.istore_n 3, 1) := by decide +kernel
theorem dX2_leastSum_65 : decode cX2_leastSum 65 = .ok (.iload_n 3, 1) := by decide +kernel
theorem dX2_leastSum_66 : decode cX2_leastSum 66 = .ok (.aload_n 0, 1) := by decide +kernel
theorem dX2_leastSum_67 : decode cX2_leastSum 67 = .ok (.getfield 21, 3) := by decide +kernel
theorem dX2_leastSum_70 : decode cX2_leastSum 70 = .ok (.if_icmp .ge 30, 3) := by decide +kernel
theorem dX2_leastSum_73 : decode cX2_leastSum 73 = .ok (.aload_n 0, 1) := by decide +kernel
theorem dX2_leastSum_74 : decode cX2_leastSum 74 = .ok (.getfield 18, 3) := by decide +kernel
theorem dX2_leastSum_77 : decode cX2_leastSum 77 = .ok (.iload_n 2, 1) := by decide +kernel
theorem dX2_leastSum_78 : decode cX2_leastSum 78 = .ok (.bipush 9, 2) := by decide +kernel
theorem dX2_leastSum_80 : decode cX2_leastSum 80 = .ok (.imul, 1) := by decide +kernel
theorem dX2_leastSum_81 : decode cX2_leastSum 81 = .ok (.iload_n 3, 1) := by decide +kernel
theorem dX2_leastSum_82 : decode cX2_leastSum 82 = .ok (.iadd, 1) := by decide +kernel
theorem dX2_leastSum_83 : decode cX2_leastSum 83 = .ok (.iaload, 1) := by decide +kernel
theorem dX2_leastSum_84 : decode cX2_leastSum 84 = .ok (.iconst (-1), 1) := by decide +kernel
theorem dX2_leastSum_85 : decode cX2_leastSum 85 = .ok (.if_icmp .eq 9, 3) := by decide +kernel
theorem dX2_leastSum_88 : decode cX2_leastSum 88 = .ok (.aload_n 0, 1) := by decide +kernel
theorem dX2_leastSum_89 : decode cX2_leastSum 89 = .ok (.iload_n 2, 1) := by decide +kernel
theorem dX2_leastSum_90 : decode cX2_leastSum 90 = .ok (.iload_n 3, 1) := by decide +kernel
theorem dX2_leastSum_91 : decode cX2_leastSum 91 = .ok (.invokevirtual 31, 3) := by decide +kernel
theorem dX2_leastSum_94 : decode cX2_leastSum 94 = .ok (.iinc 3 1, 3) := by decide +kernel
theorem dX2_leastSum_97 : decode cX2_leastSum 97 = .ok (.goto (-32), 3) := by decide +kernel
theorem dX2_leastSum_100 : decode cX2_leastSum 100 = .ok (.iinc 2 1, 3) := by decide +kernel
theorem dX2_leastSum_103 : decode cX2_leastSum 103 = .ok (.goto (-45), 3) := by decide +kernel
theorem dX2_leastSum_106 : decode cX2_leastSum 106 = .ok (.iconst (-1), 1) := by decide +kernel
theorem dX2_leastSum_107 : decode cX2_leastSum 107 = .ok (.istore_n 2, 1) := by decide +kernel
theorem dX2_leastSum_108 : decode cX2_leastSum 108 = .ok (.iconst 0, 1) := by decide +kernel
theorem dX2_leastSum_109 : decode cX2_leastSum 109 = .ok (.istore_n 3, 1) := by decide +kernel
theorem dX2_leastSum_110 : decode cX2_leastSum 110 = .ok (.iload_n 3, 1) := by decide +kernel
theorem dX2_leastSum_111 : decode cX2_leastSum 111 = .ok (.aload_n 0, 1) := by decide +kernel
theorem dX2_leastSum_112 : decode cX2_leastSum 112 = .ok (.getfield 21, 3) := by decide +kernel
theorem dX2_leastSum_115 : decode cX2_leastSum 115 = .ok (.if_icmp .ge 25, 3) := by decide +kernel
theorem dX2_leastSum_118 : decode cX2_leastSum 118 = .ok (.iload_n 2, 1) := by decide +kernel
theorem dX2_leastSum_119 : decode cX2_leastSum 119 = .ok (.aload_n 0, 1) := by decide +kernel
theorem dX2_leastSum_120 : decode cX2_leastSum 120 = .ok (.getfield 18, 3) := by decide +kernel
theorem dX2_leastSum_123 : decode cX2_leastSum 123 = .ok (.iload_n 1, 1) := by decide +kernel
theorem dX2_leastSum_124 : decode cX2_leastSum 124 = .ok (.bipush 9, 2) := by decide +kernel
theorem dX2_leastSum_126 : decode cX2_leastSum 126 = .ok (.imul, 1) := by decide +kernel
theorem dX2_leastSum_127 : decode cX2_leastSum 127 = .ok (.iload_n 3, 1) := by decide +kernel
theorem dX2_leastSum_128 : decode cX2_leastSum 128 = .ok (.iadd, 1) := by decide +kernel
theorem dX2_leastSum_129 : decode cX2_leastSum 129 = .ok (.iaload, 1) := by decide +kernel
theorem dX2_leastSum_130 : decode cX2_leastSum 130 = .ok (.invokestatic 35, 3) := by decide +kernel
theorem dX2_leastSum_133 : decode cX2_leastSum 133 = .ok (.istore_n 2, 1) := by decide +kernel
theorem dX2_leastSum_134 : decode cX2_leastSum 134 = .ok (.iinc 3 1, 3) := by decide +kernel
theorem dX2_leastSum_137 : decode cX2_leastSum 137 = .ok (.goto (-27), 3) := by decide +kernel
theorem dX2_leastSum_140 : decode cX2_leastSum 140 = .ok (.iload_n 2, 1) := by decide +kernel
theorem dX2_leastSum_141 : decode cX2_leastSum 141 = .ok (.ireturn, 1) := by decide +kernel
theorem dX2_goOn_0 : decode cX2_goOn 0 = .ok (.aload_n 0, 1) := by decide +kernel
theorem dX2_goOn_1 : decode cX2_goOn 1 = .ok (.getfield 18, 3) := by decide +kernel
theorem dX2_goOn_4 : decode cX2_goOn 4 = .ok (.iload_n 1, 1) := by decide +kernel
theorem dX2_goOn_5 : decode cX2_goOn 5 = .ok (.bipush 9, 2) := by decide +kernel
theorem dX2_goOn_7 : decode cX2_goOn 7 = .ok (.imul, 1) := by decide +kernel
theorem dX2_goOn_8 : decode cX2_goOn 8 = .ok (.iload_n 2, 1) := by decide +kernel
theorem dX2_goOn_9 : decode cX2_goOn 9 = .ok (.iadd, 1) := by decide +kernel
theorem dX2_goOn_10 : decode cX2_goOn 10 = .ok (.iaload, 1) := by decide +kernel
theorem dX2_goOn_11 : decode cX2_goOn 11 = .ok (.istore_n 3, 1) := by decide +kernel
theorem dX2_goOn_12 : decode cX2_goOn 12 = .ok (.iconst 0, 1) := by decide +kernel
theorem dX2_goOn_13 : decode cX2_goOn 13 = .ok (.istore 4, 2) := by decide +kernel
theorem dX2_goOn_15 : decode cX2_goOn 15 = .ok (.iload 4, 2) := by decide +kernel
theorem dX2_goOn_17 : decode cX2_goOn 17 = .ok (.aload_n 0, 1) := by decide +kernel
theorem dX2_goOn_18 : decode cX2_goOn 18 = .ok (.getfield 21, 3) := by decide +kernel
theorem dX2_goOn_21 : decode cX2_goOn 21 = .ok (.if_icmp .ge 78, 3) := by decide +kernel
theorem dX2_goOn_24 : decode cX2_goOn 24 = .ok (.aload_n 0, 1) := by decide +kernel
theorem dX2_goOn_25 : decode cX2_goOn 25 = .ok (.aload_n 0, 1) := by decide +kernel
theorem dX2_goOn_26 : decode cX2_goOn 26 = .ok (.getfield 15, 3) := by decide +kernel
theorem dX2_goOn_29 : decode cX2_goOn 29 = .ok (.iload_n 2, 1) := by decide +kernel
theorem dX2_goOn_30 : decode cX2_goOn 30 = .ok (.iaload, 1) := by decide +kernel
theorem dX2_goOn_31 : decode cX2_goOn 31 = .ok (.aload_n 0, 1) := by decide +kernel
theorem dX2_goOn_32 : decode cX2_goOn 32 = .ok (.getfield 15, 3) := by decide +kernel
theorem dX2_goOn_35 : decode cX2_goOn 35 = .ok (.iload 4, 2) := by decide +kernel
theorem dX2_goOn_37 : decode cX2_goOn 37 = .ok (.iaload, 1) := by decide +kernel
theorem dX2_goOn_38 : decode cX2_goOn 38 = .ok (.invokevirtual 39, 3) := by decide +kernel
theorem dX2_goOn_41 : decode cX2_goOn 41 = .ok (.istore 5, 2) := by decide +kernel
theorem dX2_goOn_43 : decode cX2_goOn 43 = .ok (.iload_n 1, 1) := by decide +kernel
theorem dX2_goOn_44 : decode cX2_goOn 44 = .ok (.iconst 1, 1) := by decide +kernel
theorem dX2_goOn_45 : decode cX2_goOn 45 = .ok (.iload 4, 2) := by decide +kernel
theorem dX2_goOn_47 : decode cX2_goOn 47 = .ok (.ishl, 1) := by decide +kernel
theorem dX2_goOn_48 : decode cX2_goOn 48 = .ok (.iand, 1) := by decide +kernel
theorem dX2_goOn_49 : decode cX2_goOn 49 = .ok (.ifCond .ne 44, 3) := by decide +kernel
theorem dX2_goOn_52 : decode cX2_goOn 52 = .ok (.iload 5, 2) := by decide +kernel
theorem dX2_goOn_54 : decode cX2_goOn 54 = .ok (.iconst (-1), 1) := by decide +kernel
theorem dX2_goOn_55 : decode cX2_goOn 55 = .ok (.if_icmp .eq 38, 3) := by decide +kernel
theorem dX2_goOn_58 : decode cX2_goOn 58 = .ok (.iload_n 1, 1) := by decide +kernel
theorem dX2_goOn_59 : decode cX2_goOn 59 = .ok (.iconst 1, 1) := by decide +kernel
theorem dX2_goOn_60 : decode cX2_goOn 60 = .ok (.iload 4, 2) := by decide +kernel
theorem dX2_goOn_62 : decode cX2_goOn 62 = .ok (.ishl, 1) := by decide +kernel
theorem dX2_goOn_63 : decode cX2_goOn 63 = .ok (.ior, 1) := by decide +kernel
theorem dX2_goOn_64 : decode cX2_goOn 64 = .ok (.bipush 9, 2) := by decide +kernel
theorem dX2_goOn_66 : decode cX2_goOn 66 = .ok (.imul, 1) := by decide +kernel
theorem dX2_goOn_67 : decode cX2_goOn 67 = .ok (.iload 4, 2) := by decide +kernel
theorem dX2_goOn_69 : decode cX2_goOn 69 = .ok (.iadd, 1) := by decide +kernel
theorem dX2_goOn_70 : decode cX2_goOn 70 = .ok (.istore 6, 2) := by decide +kernel
theorem dX2_goOn_72 : decode cX2_goOn 72 = .ok (.aload_n 0, 1) := by decide +kernel
theorem dX2_goOn_73 : decode cX2_goOn 73 = .ok (.getfield 18, 3) := by decide +kernel
theorem dX2_goOn_76 : decode cX2_goOn 76 = .ok (.iload 6, 2) := by decide +kernel
theorem dX2_goOn_78 : decode cX2_goOn 78 = .ok (.aload_n 0, 1) := by decide +kernel
theorem dX2_goOn_79 : decode cX2_goOn 79 = .ok (.getfield 18, 3) := by decide +kernel
theorem dX2_goOn_82 : decode cX2_goOn 82 = .ok (.iload 6, 2) := by decide +kernel
theorem dX2_goOn_84 : decode cX2_goOn 84 = .ok (.iaload, 1) := by decide +kernel
theorem dX2_goOn_85 : decode cX2_goOn 85 = .ok (.iload_n 3, 1) := by decide +kernel
theorem dX2_goOn_86 : decode cX2_goOn 86 = .ok (.iload 5, 2) := by decide +kernel
theorem dX2_goOn_88 : decode cX2_goOn 88 = .ok (.iadd, 1) := by decide +kernel
theorem dX2_goOn_89 : decode cX2_goOn 89 = .ok (.invokestatic 35, 3) := by decide +kernel
theorem dX2_goOn_92 : decode cX2_goOn 92 = .ok (.iastore, 1) := by decide +kernel
theorem dX2_goOn_93 : decode cX2_goOn 93 = .ok (.iinc 4 1, 3) := by decide +kernel
theorem dX2_goOn_96 : decode cX2_goOn 96 = .ok (.goto (-81), 3) := by decide +kernel
theorem dX2_goOn_99 : decode cX2_goOn 99 = .ok (.return_, 1) := by decide +kernel
theorem dX2_lesser_0 : decode cX2_lesser 0 = .ok (.iload_n 0, 1) := by decide +kernel
theorem dX2_lesser_1 : decode cX2_lesser 1 = .ok (.iconst (-1), 1) := by decide +kernel
theorem dX2_lesser_2 : decode cX2_lesser 2 = .ok (.if_icmp .ne 5, 3) := by decide +kernel
theorem dX2_lesser_5 : decode cX2_lesser 5 = .ok (.iload_n 1, 1) := by decide +kernel
theorem dX2_lesser_6 : decode cX2_lesser 6 = .ok (.ireturn, 1) := by decide +kernel
theorem dX2_lesser_7 : decode cX2_lesser 7 = .ok (.iload_n 1, 1) := by decide +kernel
theorem dX2_lesser_8 : decode cX2_lesser 8 = .ok (.iconst (-1), 1) := by decide +kernel
theorem dX2_lesser_9 : decode cX2_lesser 9 = .ok (.if_icmp .ne 7, 3) := by decide +kernel
theorem dX2_lesser_12 : decode cX2_lesser 12 = .ok (.iload_n 0, 1) := by decide +kernel
theorem dX2_lesser_13 : decode cX2_lesser 13 = .ok (.goto 8, 3) := by decide +kernel
theorem dX2_lesser_16 : decode cX2_lesser 16 = .ok (.iload_n 0, 1) := by decide +kernel
theorem dX2_lesser_17 : decode cX2_lesser 17 = .ok (.iload_n 1, 1) := by decide +kernel
theorem dX2_lesser_18 : decode cX2_lesser 18 = .ok (.invokestatic 42, 3) := by decide +kernel
theorem dX2_lesser_21 : decode cX2_lesser 21 = .ok (.ireturn, 1) := by decide +kernel
theorem dX3_init_0 : decode cX3_init 0 = .ok (.aload_n 0, 1) := by decide +kernel
theorem dX3_init_1 : decode cX3_init 1 = .ok (.invokespecial 3, 3) := by decide +kernel
theorem dX3_init_4 : decode cX3_init 4 = .ok (.return_, 1) := by decide +kernel
theorem dX3_begin_0 : decode cX3_begin 0 = .ok (.aload_n 0, 1) := by decide +kernel
theorem dX3_begin_1 : decode cX3_begin 1 = .ok (.iload_n 1, 1) := by decide +kernel
theorem dX3_begin_2 : decode cX3_begin 2 = .ok (.putfield 9, 3) := by decide +kernel
theorem dX3_begin_5 : decode cX3_begin 5 = .ok (.aload_n 0, 1) := by decide +kernel
theorem dX3_begin_6 : decode cX3_begin 6 = .ok (.iload_n 1, 1) := by decide +kernel
theorem dX3_begin_7 : decode cX3_begin 7 = .ok (.putfield 15, 3) := by decide +kernel
theorem dX3_begin_10 : decode cX3_begin 10 = .ok (.aload_n 0, 1) := by decide +kernel
theorem dX3_begin_11 : decode cX3_begin 11 = .ok (.iload_n 2, 1) := by decide +kernel
theorem dX3_begin_12 : decode cX3_begin 12 = .ok (.putfield 18, 3) := by decide +kernel
theorem dX3_begin_15 : decode cX3_begin 15 = .ok (.aload_n 0, 1) := by decide +kernel
theorem dX3_begin_16 : decode cX3_begin 16 = .ok (.iload_n 2, 1) := by decide +kernel
theorem dX3_begin_17 : decode cX3_begin 17 = .ok (.putfield 21, 3) := by decide +kernel
theorem dX3_begin_20 : decode cX3_begin 20 = .ok (.aload_n 0, 1) := by decide +kernel
theorem dX3_begin_21 : decode cX3_begin 21 = .ok (.iconst 0, 1) := by decide +kernel
theorem dX3_begin_22 : decode cX3_begin 22 = .ok (.putfield 24, 3) := by decide +kernel
theorem dX3_begin_25 : decode cX3_begin 25 = .ok (.aload_n 0, 1) := by decide +kernel
theorem dX3_begin_26 : decode cX3_begin 26 = .ok (.iload_n 3, 1) := by decide +kernel
theorem dX3_begin_27 : decode cX3_begin 27 = .ok (.putfield 28, 3) := by decide +kernel
theorem dX3_begin_30 : decode cX3_begin 30 = .ok (.return_, 1) := by decide +kernel
theorem dX3_copy_0 : decode cX3_copy 0 = .ok (.aload_n 0, 1) := by decide +kernel
theorem dX3_copy_1 : decode cX3_copy 1 = .ok (.aload_n 1, 1) := by decide +kernel
theorem dX3_copy_2 : decode cX3_copy 2 = .ok (.getfield 9, 3) := by decide +kernel
theorem dX3_copy_5 : decode cX3_copy 5 = .ok (.putfield 9, 3) := by decide +kernel
theorem dX3_copy_8 : decode cX3_copy 8 = .ok (.aload_n 0, 1) := by decide +kernel
theorem dX3_copy_9 : decode cX3_copy 9 = .ok (.aload_n 1, 1) := by decide +kernel
theorem dX3_copy_10 : decode cX3_copy 10 = .ok (.getfield 15, 3) := by decide +kernel
theorem dX3_copy_13 : decode cX3_copy 13 = .ok (.putfield 15, 3) := by decide +kernel
theorem dX3_copy_16 : decode cX3_copy 16 = .ok (.aload_n 0, 1) := by decide +kernel
theorem dX3_copy_17 : decode cX3_copy 17 = .ok (.aload_n 1, 1) := by decide +kernel
theorem dX3_copy_18 : decode cX3_copy 18 = .ok (.getfield 18, 3) := by decide +kernel
theorem dX3_copy_21 : decode cX3_copy 21 = .ok (.putfield 18, 3) := by decide +kernel
theorem dX3_copy_24 : decode cX3_copy 24 = .ok (.aload_n 0, 1) := by decide +kernel
theorem dX3_copy_25 : decode cX3_copy 25 = .ok (.aload_n 1, 1) := by decide +kernel
theorem dX3_copy_26 : decode cX3_copy 26 = .ok (.getfield 21, 3) := by decide +kernel
theorem dX3_copy_29 : decode cX3_copy 29 = .ok (.putfield 21, 3) := by decide +kernel
theorem dX3_copy_32 : decode cX3_copy 32 = .ok (.aload_n 0, 1) := by decide +kernel
theorem dX3_copy_33 : decode cX3_copy 33 = .ok (.aload_n 1, 1) := by decide +kernel
theorem dX3_copy_34 : decode cX3_copy 34 = .ok (.getfield 24, 3) := by decide +kernel
theorem dX3_copy_37 : decode cX3_copy 37 = .ok (.putfield 24, 3) := by decide +kernel
theorem dX3_copy_40 : decode cX3_copy 40 = .ok (.aload_n 0, 1) := by decide +kernel
theorem dX3_copy_41 : decode cX3_copy 41 = .ok (.aload_n 1, 1) := by decide +kernel
theorem dX3_copy_42 : decode cX3_copy 42 = .ok (.getfield 28, 3) := by decide +kernel
theorem dX3_copy_45 : decode cX3_copy 45 = .ok (.putfield 28, 3) := by decide +kernel
theorem dX3_copy_48 : decode cX3_copy 48 = .ok (.return_, 1) := by decide +kernel
theorem dX3_take_0 : decode cX3_take 0 = .ok (.iload_n 1, 1) := by decide +kernel
theorem dX3_take_1 : decode cX3_take 1 = .ok (.tableswitch 112 0 2 #[27, 38, 70], 27) := by decide +kernel
theorem dX3_take_28 : decode cX3_take 28 = .ok (.aload_n 0, 1) := by decide +kernel
theorem dX3_take_29 : decode cX3_take 29 = .ok (.iload_n 2, 1) := by decide +kernel
theorem dX3_take_30 : decode cX3_take 30 = .ok (.iconst 2, 1) := by decide +kernel
theorem dX3_take_31 : decode cX3_take 31 = .ok (.idiv, 1) := by decide +kernel
theorem dX3_take_32 : decode cX3_take 32 = .ok (.iload_n 2, 1) := by decide +kernel
theorem dX3_take_33 : decode cX3_take 33 = .ok (.invokevirtual 31, 3) := by decide +kernel
theorem dX3_take_36 : decode cX3_take 36 = .ok (.goto 82, 3) := by decide +kernel
theorem dX3_take_39 : decode cX3_take 39 = .ok (.aload_n 0, 1) := by decide +kernel
theorem dX3_take_40 : decode cX3_take 40 = .ok (.iload_n 2, 1) := by decide +kernel
theorem dX3_take_41 : decode cX3_take 41 = .ok (.iload_n 2, 1) := by decide +kernel
theorem dX3_take_42 : decode cX3_take 42 = .ok (.iconst 3, 1) := by decide +kernel
theorem dX3_take_43 : decode cX3_take 43 = .ok (.iadd, 1) := by decide +kernel
theorem dX3_take_44 : decode cX3_take 44 = .ok (.invokevirtual 31, 3) := by decide +kernel
theorem dX3_take_47 : decode cX3_take 47 = .ok (.aload_n 0, 1) := by decide +kernel
theorem dX3_take_48 : decode cX3_take 48 = .ok (.iload_n 2, 1) := by decide +kernel
theorem dX3_take_49 : decode cX3_take 49 = .ok (.iload_n 2, 1) := by decide +kernel
theorem dX3_take_50 : decode cX3_take 50 = .ok (.iconst 2, 1) := by decide +kernel
theorem dX3_take_51 : decode cX3_take 51 = .ok (.iadd, 1) := by decide +kernel
theorem dX3_take_52 : decode cX3_take 52 = .ok (.invokevirtual 35, 3) := by decide +kernel
theorem dX3_take_55 : decode cX3_take 55 = .ok (.aload_n 0, 1) := by decide +kernel
theorem dX3_take_56 : decode cX3_take 56 = .ok (.getfield 24, 3) := by decide +kernel
theorem dX3_take_59 : decode cX3_take 59 = .ok (.ifCond .eq 59, 3) := by decide +kernel
theorem dX3_take_62 : decode cX3_take 62 = .ok (.aload_n 0, 1) := by decide +kernel
theorem dX3_take_63 : decode cX3_take 63 = .ok (.iconst 5, 1) := by decide +kernel
theorem dX3_take_64 : decode cX3_take 64 = .ok (.iconst 5, 1) := by decide +kernel
theorem dX3_take_65 : decode cX3_take 65 = .ok (.invokevirtual 35, 3) := by decide +kernel
theorem dX3_take_68 : decode cX3_take 68 = .ok (.goto 50, 3) := by decide +kernel
theorem dX3_take_71 : decode cX3_take 71 = .ok (.aload_n 0, 1) := by decide +kernel
theorem dX3_take_72 : decode cX3_take 72 = .ok (.iconst 0, 1) := by decide +kernel
theorem dX3_take_73 : decode cX3_take 73 = .ok (.iconst 2, 1) := by decide +kernel
theorem dX3_take_74 : decode cX3_take 74 = .ok (.iload_n 2, 1) := by decide +kernel
theorem dX3_take_75 : decode cX3_take 75 = .ok (.imul, 1) := by decide +kernel
theorem dX3_take_76 : decode cX3_take 76 = .ok (.aload_n 0, 1) := by decide +kernel
theorem dX3_take_77 : decode cX3_take 77 = .ok (.getfield 28, 3) := by decide +kernel
theorem dX3_take_80 : decode cX3_take 80 = .ok (.isub, 1) := by decide +kernel
theorem dX3_take_81 : decode cX3_take 81 = .ok (.invokestatic 38, 3) := by decide +kernel
theorem dX3_take_84 : decode cX3_take 84 = .ok (.iconst 0, 1) := by decide +kernel
theorem dX3_take_85 : decode cX3_take 85 = .ok (.iconst 3, 1) := by decide +kernel
theorem dX3_take_86 : decode cX3_take 86 = .ok (.iload_n 2, 1) := by decide +kernel
theorem dX3_take_87 : decode cX3_take 87 = .ok (.imul, 1) := by decide +kernel
theorem dX3_take_88 : decode cX3_take 88 = .ok (.aload_n 0, 1) := by decide +kernel
theorem dX3_take_89 : decode cX3_take 89 = .ok (.getfield 28, 3) := by decide +kernel
theorem dX3_take_92 : decode cX3_take 92 = .ok (.isub, 1) := by decide +kernel
theorem dX3_take_93 : decode cX3_take 93 = .ok (.invokestatic 38, 3) := by decide +kernel
theorem dX3_take_96 : decode cX3_take 96 = .ok (.invokevirtual 31, 3) := by decide +kernel
theorem dX3_take_99 : decode cX3_take 99 = .ok (.aload_n 0, 1) := by decide +kernel
theorem dX3_take_100 : decode cX3_take 100 = .ok (.iconst 0, 1) := by decide +kernel
theorem dX3_take_101 : decode cX3_take 101 = .ok (.iload_n 2, 1) := by decide +kernel
theorem dX3_take_102 : decode cX3_take 102 = .ok (.invokevirtual 35, 3) := by decide +kernel
theorem dX3_take_105 : decode cX3_take 105 = .ok (.aload_n 0, 1) := by decide +kernel
theorem dX3_take_106 : decode cX3_take 106 = .ok (.iconst 1, 1) := by decide +kernel
theorem dX3_take_107 : decode cX3_take 107 = .ok (.putfield 24, 3) := by decide +kernel
theorem dX3_take_110 : decode cX3_take 110 = .ok (.goto 8, 3) := by decide +kernel
theorem dX3_take_113 : decode cX3_take 113 = .ok (.aload_n 0, 1) := by decide +kernel
theorem dX3_take_114 : decode cX3_take 114 = .ok (.iconst 0, 1) := by decide +kernel
theorem dX3_take_115 : decode cX3_take 115 = .ok (.putfield 24, 3) := by decide +kernel
theorem dX3_take_118 : decode cX3_take 118 = .ok (.return_, 1) := by decide +kernel
theorem dX3_fade_0 : decode cX3_fade 0 = .ok (.aload_n 0, 1) := by decide +kernel
theorem dX3_fade_1 : decode cX3_fade 1 = .ok (.iconst 0, 1) := by decide +kernel
theorem dX3_fade_2 : decode cX3_fade 2 = .ok (.aload_n 0, 1) := by decide +kernel
theorem dX3_fade_3 : decode cX3_fade 3 = .ok (.getfield 9, 3) := by decide +kernel
theorem dX3_fade_6 : decode cX3_fade 6 = .ok (.iload_n 2, 1) := by decide +kernel
theorem dX3_fade_7 : decode cX3_fade 7 = .ok (.isub, 1) := by decide +kernel
theorem dX3_fade_8 : decode cX3_fade 8 = .ok (.invokestatic 38, 3) := by decide +kernel
theorem dX3_fade_11 : decode cX3_fade 11 = .ok (.putfield 9, 3) := by decide +kernel
theorem dX3_fade_14 : decode cX3_fade 14 = .ok (.aload_n 0, 1) := by decide +kernel
theorem dX3_fade_15 : decode cX3_fade 15 = .ok (.iconst 0, 1) := by decide +kernel
theorem dX3_fade_16 : decode cX3_fade 16 = .ok (.aload_n 0, 1) := by decide +kernel
theorem dX3_fade_17 : decode cX3_fade 17 = .ok (.getfield 15, 3) := by decide +kernel
theorem dX3_fade_20 : decode cX3_fade 20 = .ok (.iload_n 1, 1) := by decide +kernel
theorem dX3_fade_21 : decode cX3_fade 21 = .ok (.isub, 1) := by decide +kernel
theorem dX3_fade_22 : decode cX3_fade 22 = .ok (.invokestatic 38, 3) := by decide +kernel
theorem dX3_fade_25 : decode cX3_fade 25 = .ok (.putfield 15, 3) := by decide +kernel
theorem dX3_fade_28 : decode cX3_fade 28 = .ok (.return_, 1) := by decide +kernel
theorem dX3_wear_0 : decode cX3_wear 0 = .ok (.aload_n 0, 1) := by decide +kernel
theorem dX3_wear_1 : decode cX3_wear 1 = .ok (.iconst 0, 1) := by decide +kernel
theorem dX3_wear_2 : decode cX3_wear 2 = .ok (.aload_n 0, 1) := by decide +kernel
theorem dX3_wear_3 : decode cX3_wear 3 = .ok (.getfield 18, 3) := by decide +kernel
theorem dX3_wear_6 : decode cX3_wear 6 = .ok (.iload_n 2, 1) := by decide +kernel
theorem dX3_wear_7 : decode cX3_wear 7 = .ok (.isub, 1) := by decide +kernel
theorem dX3_wear_8 : decode cX3_wear 8 = .ok (.invokestatic 38, 3) := by decide +kernel
theorem dX3_wear_11 : decode cX3_wear 11 = .ok (.putfield 18, 3) := by decide +kernel
theorem dX3_wear_14 : decode cX3_wear 14 = .ok (.aload_n 0, 1) := by decide +kernel
theorem dX3_wear_15 : decode cX3_wear 15 = .ok (.iconst 0, 1) := by decide +kernel
theorem dX3_wear_16 : decode cX3_wear 16 = .ok (.aload_n 0, 1) := by decide +kernel
theorem dX3_wear_17 : decode cX3_wear 17 = .ok (.getfield 21, 3) := by decide +kernel
theorem dX3_wear_20 : decode cX3_wear 20 = .ok (.iload_n 1, 1) := by decide +kernel
theorem dX3_wear_21 : decode cX3_wear 21 = .ok (.isub, 1) := by decide +kernel
theorem dX3_wear_22 : decode cX3_wear 22 = .ok (.invokestatic 38, 3) := by decide +kernel
theorem dX3_wear_25 : decode cX3_wear 25 = .ok (.putfield 21, 3) := by decide +kernel
theorem dX3_wear_28 : decode cX3_wear 28 = .ok (.return_, 1) := by decide +kernel
theorem dX3_surelyMeets_0 : decode cX3_surelyMeets 0 = .ok (.aload_n 0, 1) := by decide +kernel
theorem dX3_surelyMeets_1 : decode cX3_surelyMeets 1 = .ok (.getfield 9, 3) := by decide +kernel
theorem dX3_surelyMeets_4 : decode cX3_surelyMeets 4 = .ok (.iload_n 1, 1) := by decide +kernel
theorem dX3_surelyMeets_5 : decode cX3_surelyMeets 5 = .ok (.if_icmp .lt 30, 3) := by decide +kernel
theorem dX3_surelyMeets_8 : decode cX3_surelyMeets 8 = .ok (.aload_n 0, 1) := by decide +kernel
theorem dX3_surelyMeets_9 : decode cX3_surelyMeets 9 = .ok (.getfield 15, 3) := by decide +kernel
theorem dX3_surelyMeets_12 : decode cX3_surelyMeets 12 = .ok (.iload_n 2, 1) := by decide +kernel
theorem dX3_surelyMeets_13 : decode cX3_surelyMeets 13 = .ok (.if_icmp .gt 22, 3) := by decide +kernel
theorem dX3_surelyMeets_16 : decode cX3_surelyMeets 16 = .ok (.aload_n 0, 1) := by decide +kernel
theorem dX3_surelyMeets_17 : decode cX3_surelyMeets 17 = .ok (.getfield 18, 3) := by decide +kernel
theorem dX3_surelyMeets_20 : decode cX3_surelyMeets 20 = .ok (.iload_n 3, 1) := by decide +kernel
theorem dX3_surelyMeets_21 : decode cX3_surelyMeets 21 = .ok (.if_icmp .lt 14, 3) := by decide +kernel
theorem dX3_surelyMeets_24 : decode cX3_surelyMeets 24 = .ok (.aload_n 0, 1) := by decide +kernel
theorem dX3_surelyMeets_25 : decode cX3_surelyMeets 25 = .ok (.getfield 24, 3) := by decide +kernel
theorem dX3_surelyMeets_28 : decode cX3_surelyMeets 28 = .ok (.ifCond .ne 7, 3) := by decide +kernel
theorem dX3_surelyMeets_31 : decode cX3_surelyMeets 31 = .ok (.iconst 1, 1) := by decide +kernel
theorem dX3_surelyMeets_32 : decode cX3_surelyMeets 32 = .ok (.goto 4, 3) := by decide +kernel
theorem dX3_surelyMeets_35 : decode cX3_surelyMeets 35 = .ok (.iconst 0, 1) := by decide +kernel
theorem dX3_surelyMeets_36 : decode cX3_surelyMeets 36 = .ok (.ireturn, 1) := by decide +kernel
theorem dX3_part_0 : decode cX3_part 0 = .ok (.iload_n 1, 1) := by decide +kernel
theorem dX3_part_1 : decode cX3_part 1 = .ok (.tableswitch 51 0 3 #[31, 36, 41, 46], 31) := by decide +kernel
theorem dX3_part_32 : decode cX3_part 32 = .ok (.aload_n 0, 1) := by decide +kernel
theorem dX3_part_33 : decode cX3_part 33 = .ok (.getfield 9, 3) := by decide +kernel
theorem dX3_part_36 : decode cX3_part 36 = .ok (.ireturn, 1) := by decide +kernel
theorem dX3_part_37 : decode cX3_part 37 = .ok (.aload_n 0, 1) := by decide +kernel
theorem dX3_part_38 : decode cX3_part 38 = .ok (.getfield 15, 3) := by decide +kernel
theorem dX3_part_41 : decode cX3_part 41 = .ok (.ireturn, 1) := by decide +kernel
theorem dX3_part_42 : decode cX3_part 42 = .ok (.aload_n 0, 1) := by decide +kernel
theorem dX3_part_43 : decode cX3_part 43 = .ok (.getfield 18, 3) := by decide +kernel
theorem dX3_part_46 : decode cX3_part 46 = .ok (.ireturn, 1) := by decide +kernel
theorem dX3_part_47 : decode cX3_part 47 = .ok (.aload_n 0, 1) := by decide +kernel
theorem dX3_part_48 : decode cX3_part 48 = .ok (.getfield 21, 3) := by decide +kernel
theorem dX3_part_51 : decode cX3_part 51 = .ok (.ireturn, 1) := by decide +kernel
theorem dX3_part_52 : decode cX3_part 52 = .ok (.aload_n 0, 1) := by decide +kernel
theorem dX3_part_53 : decode cX3_part 53 = .ok (.getfield 24, 3) := by decide +kernel
theorem dX3_part_56 : decode cX3_part 56 = .ok (.ifCond .eq 7, 3) := by decide +kernel
theorem dX3_part_59 : decode cX3_part 59 = .ok (.iconst 1, 1) := by decide +kernel
theorem dX3_part_60 : decode cX3_part 60 = .ok (.goto 4, 3) := by decide +kernel
theorem dX3_part_63 : decode cX3_part 63 = .ok (.iconst 0, 1) := by decide +kernel
theorem dX3_part_64 : decode cX3_part 64 = .ok (.ireturn, 1) := by decide +kernel
theorem dX4_init_0 : decode cX4_init 0 = .ok (.aload_n 0, 1) := by decide +kernel
theorem dX4_init_1 : decode cX4_init 1 = .ok (.invokespecial 3, 3) := by decide +kernel
theorem dX4_init_4 : decode cX4_init 4 = .ok (.aload_n 0, 1) := by decide +kernel
theorem dX4_init_5 : decode cX4_init 5 = .ok (.new 9, 3) := by decide +kernel
theorem dX4_init_8 : decode cX4_init 8 = .ok (.dup, 1) := by decide +kernel
theorem dX4_init_9 : decode cX4_init 9 = .ok (.invokespecial 11, 3) := by decide +kernel
theorem dX4_init_12 : decode cX4_init 12 = .ok (.putfield 12, 3) := by decide +kernel
theorem dX4_init_15 : decode cX4_init 15 = .ok (.aload_n 0, 1) := by decide +kernel
theorem dX4_init_16 : decode cX4_init 16 = .ok (.iconst 0, 1) := by decide +kernel
theorem dX4_init_17 : decode cX4_init 17 = .ok (.putfield 18, 3) := by decide +kernel
theorem dX4_init_20 : decode cX4_init 20 = .ok (.aload_n 0, 1) := by decide +kernel
theorem dX4_init_21 : decode cX4_init 21 = .ok (.iconst (-1), 1) := by decide +kernel
theorem dX4_init_22 : decode cX4_init 22 = .ok (.putfield 22, 3) := by decide +kernel
theorem dX4_init_25 : decode cX4_init 25 = .ok (.aload_n 0, 1) := by decide +kernel
theorem dX4_init_26 : decode cX4_init 26 = .ok (.iconst (-1), 1) := by decide +kernel
theorem dX4_init_27 : decode cX4_init 27 = .ok (.putfield 25, 3) := by decide +kernel
theorem dX4_init_30 : decode cX4_init 30 = .ok (.aload_n 0, 1) := by decide +kernel
theorem dX4_init_31 : decode cX4_init 31 = .ok (.iconst (-1), 1) := by decide +kernel
theorem dX4_init_32 : decode cX4_init 32 = .ok (.putfield 28, 3) := by decide +kernel
theorem dX4_init_35 : decode cX4_init 35 = .ok (.aload_n 0, 1) := by decide +kernel
theorem dX4_init_36 : decode cX4_init 36 = .ok (.iload_n 1, 1) := by decide +kernel
theorem dX4_init_37 : decode cX4_init 37 = .ok (.putfield 31, 3) := by decide +kernel
theorem dX4_init_40 : decode cX4_init 40 = .ok (.aload_n 0, 1) := by decide +kernel
theorem dX4_init_41 : decode cX4_init 41 = .ok (.iconst 0, 1) := by decide +kernel
theorem dX4_init_42 : decode cX4_init 42 = .ok (.iload_n 2, 1) := by decide +kernel
theorem dX4_init_43 : decode cX4_init 43 = .ok (.invokestatic 34, 3) := by decide +kernel
theorem dX4_init_46 : decode cX4_init 46 = .ok (.putfield 40, 3) := by decide +kernel
theorem dX4_init_49 : decode cX4_init 49 = .ok (.aload_n 0, 1) := by decide +kernel
theorem dX4_init_50 : decode cX4_init 50 = .ok (.iload_n 3, 1) := by decide +kernel
theorem dX4_init_51 : decode cX4_init 51 = .ok (.putfield 43, 3) := by decide +kernel
theorem dX4_init_54 : decode cX4_init 54 = .ok (.aload_n 0, 1) := by decide +kernel
theorem dX4_init_55 : decode cX4_init 55 = .ok (.iload 4, 2) := by decide +kernel
theorem dX4_init_57 : decode cX4_init 57 = .ok (.putfield 46, 3) := by decide +kernel
theorem dX4_init_60 : decode cX4_init 60 = .ok (.aload_n 0, 1) := by decide +kernel
theorem dX4_init_61 : decode cX4_init 61 = .ok (.new 49, 3) := by decide +kernel
theorem dX4_init_64 : decode cX4_init 64 = .ok (.dup, 1) := by decide +kernel
theorem dX4_init_65 : decode cX4_init 65 = .ok (.iload 5, 2) := by decide +kernel
theorem dX4_init_67 : decode cX4_init 67 = .ok (.invokespecial 51, 3) := by decide +kernel
theorem dX4_init_70 : decode cX4_init 70 = .ok (.putfield 54, 3) := by decide +kernel
theorem dX4_init_73 : decode cX4_init 73 = .ok (.aload_n 0, 1) := by decide +kernel
theorem dX4_init_74 : decode cX4_init 74 = .ok (.aload_n 0, 1) := by decide +kernel
theorem dX4_init_75 : decode cX4_init 75 = .ok (.getfield 40, 3) := by decide +kernel
theorem dX4_init_78 : decode cX4_init 78 = .ok (.newarray .int, 2) := by decide +kernel
theorem dX4_init_80 : decode cX4_init 80 = .ok (.putfield 58, 3) := by decide +kernel
theorem dX4_init_83 : decode cX4_init 83 = .ok (.aload_n 0, 1) := by decide +kernel
theorem dX4_init_84 : decode cX4_init 84 = .ok (.aload_n 0, 1) := by decide +kernel
theorem dX4_init_85 : decode cX4_init 85 = .ok (.getfield 40, 3) := by decide +kernel
theorem dX4_init_88 : decode cX4_init 88 = .ok (.newarray .int, 2) := by decide +kernel
theorem dX4_init_90 : decode cX4_init 90 = .ok (.putfield 62, 3) := by decide +kernel
theorem dX4_init_93 : decode cX4_init 93 = .ok (.aload_n 0, 1) := by decide +kernel
theorem dX4_init_94 : decode cX4_init 94 = .ok (.getfield 62, 3) := by decide +kernel
theorem dX4_init_97 : decode cX4_init 97 = .ok (.iconst (-1), 1) := by decide +kernel
theorem dX4_init_98 : decode cX4_init 98 = .ok (.invokestatic 65, 3) := by decide +kernel
theorem dX4_init_101 : decode cX4_init 101 = .ok (.return_, 1) := by decide +kernel
theorem dX4_wishFor_0 : decode cX4_wishFor 0 = .ok (.aload_n 0, 1) := by decide +kernel
theorem dX4_wishFor_1 : decode cX4_wishFor 1 = .ok (.iload_n 1, 1) := by decide +kernel
theorem dX4_wishFor_2 : decode cX4_wishFor 2 = .ok (.putfield 71, 3) := by decide +kernel
theorem dX4_wishFor_5 : decode cX4_wishFor 5 = .ok (.aload_n 0, 1) := by decide +kernel
theorem dX4_wishFor_6 : decode cX4_wishFor 6 = .ok (.iload_n 2, 1) := by decide +kernel
theorem dX4_wishFor_7 : decode cX4_wishFor 7 = .ok (.putfield 74, 3) := by decide +kernel
theorem dX4_wishFor_10 : decode cX4_wishFor 10 = .ok (.aload_n 0, 1) := by decide +kernel
theorem dX4_wishFor_11 : decode cX4_wishFor 11 = .ok (.iload_n 3, 1) := by decide +kernel
theorem dX4_wishFor_12 : decode cX4_wishFor 12 = .ok (.putfield 77, 3) := by decide +kernel
theorem dX4_wishFor_15 : decode cX4_wishFor 15 = .ok (.return_, 1) := by decide +kernel
theorem dX4_isStillHere_0 : decode cX4_isStillHere 0 = .ok (.aload_n 0, 1) := by decide +kernel
theorem dX4_isStillHere_1 : decode cX4_isStillHere 1 = .ok (.getfield 58, 3) := by decide +kernel
theorem dX4_isStillHere_4 : decode cX4_isStillHere 4 = .ok (.iload_n 1, 1) := by decide +kernel
theorem dX4_isStillHere_5 : decode cX4_isStillHere 5 = .ok (.iaload, 1) := by decide +kernel
theorem dX4_isStillHere_6 : decode cX4_isStillHere 6 = .ok (.ifCond .ne 7, 3) := by decide +kernel
theorem dX4_isStillHere_9 : decode cX4_isStillHere 9 = .ok (.iconst 1, 1) := by decide +kernel
theorem dX4_isStillHere_10 : decode cX4_isStillHere 10 = .ok (.goto 4, 3) := by decide +kernel
theorem dX4_isStillHere_13 : decode cX4_isStillHere 13 = .ok (.iconst 0, 1) := by decide +kernel
theorem dX4_isStillHere_14 : decode cX4_isStillHere 14 = .ok (.ireturn, 1) := by decide +kernel
theorem dX4_setDelivered_0 : decode cX4_setDelivered 0 = .ok (.iload_n 1, 1) := by decide +kernel
theorem dX4_setDelivered_1 : decode cX4_setDelivered 1 = .ok (.ifCond .lt 18, 3) := by decide +kernel
theorem dX4_setDelivered_4 : decode cX4_setDelivered 4 = .ok (.iload_n 1, 1) := by decide +kernel
theorem dX4_setDelivered_5 : decode cX4_setDelivered 5 = .ok (.aload_n 0, 1) := by decide +kernel
theorem dX4_setDelivered_6 : decode cX4_setDelivered 6 = .ok (.getfield 40, 3) := by decide +kernel
theorem dX4_setDelivered_9 : decode cX4_setDelivered 9 = .ok (.if_icmp .ge 10, 3) := by decide +kernel
theorem dX4_setDelivered_12 : decode cX4_setDelivered 12 = .ok (.aload_n 0, 1) := by decide +kernel
theorem dX4_setDelivered_13 : decode cX4_setDelivered 13 = .ok (.getfield 58, 3) := by decide +kernel
theorem dX4_setDelivered_16 : decode cX4_setDelivered 16 = .ok (.iload_n 1, 1) := by decide +kernel
theorem dX4_setDelivered_17 : decode cX4_setDelivered 17 = .ok (.iconst 2, 1) := by decide +kernel
theorem dX4_setDelivered_18 : decode cX4_setDelivered 18 = .ok (.iastore, 1) := by decide +kernel
theorem dX4_setDelivered_19 : decode cX4_setDelivered 19 = .ok (.return_, 1) := by decide +kernel
theorem dX4_countPlaced_0 : decode cX4_countPlaced 0 = .ok (.iconst 0, 1) := by decide +kernel
theorem dX4_countPlaced_1 : decode cX4_countPlaced 1 = .ok (.istore_n 2, 1) := by decide +kernel
theorem dX4_countPlaced_2 : decode cX4_countPlaced 2 = .ok (.iconst 0, 1) := by decide +kernel
theorem dX4_countPlaced_3 : decode cX4_countPlaced 3 = .ok (.istore_n 3, 1) := by decide +kernel
theorem dX4_countPlaced_4 : decode cX4_countPlaced 4 = .ok (.iload_n 3, 1) := by decide +kernel
theorem dX4_countPlaced_5 : decode cX4_countPlaced 5 = .ok (.aload_n 0, 1) := by decide +kernel
theorem dX4_countPlaced_6 : decode cX4_countPlaced 6 = .ok (.getfield 40, 3) := by decide +kernel
theorem dX4_countPlaced_9 : decode cX4_countPlaced 9 = .ok (.if_icmp .ge 22, 3) := by decide +kernel
theorem dX4_countPlaced_12 : decode cX4_countPlaced 12 = .ok (.aload_n 0, 1) := by decide +kernel
theorem dX4_countPlaced_13 : decode cX4_countPlaced 13 = .ok (.getfield 58, 3) := by decide +kernel
theorem dX4_countPlaced_16 : decode cX4_countPlaced 16 = .ok (.iload_n 3, 1) := by decide +kernel
theorem dX4_countPlaced_17 : decode cX4_countPlaced 17 = .ok (.iaload, 1) := by decide +kernel
theorem dX4_countPlaced_18 : decode cX4_countPlaced 18 = .ok (.iload_n 1, 1) := by decide +kernel
theorem dX4_countPlaced_19 : decode cX4_countPlaced 19 = .ok (.if_icmp .ne 6, 3) := by decide +kernel
theorem dX4_countPlaced_22 : decode cX4_countPlaced 22 = .ok (.iinc 2 1, 3) := by decide +kernel
theorem dX4_countPlaced_25 : decode cX4_countPlaced 25 = .ok (.iinc 3 1, 3) := by decide +kernel
theorem dX4_countPlaced_28 : decode cX4_countPlaced 28 = .ok (.goto (-24), 3) := by decide +kernel
theorem dX4_countPlaced_31 : decode cX4_countPlaced 31 = .ok (.iload_n 2, 1) := by decide +kernel
theorem dX4_countPlaced_32 : decode cX4_countPlaced 32 = .ok (.ireturn, 1) := by decide +kernel
theorem dX4_judge_0 : decode cX4_judge 0 = .ok (.iload_n 1, 1) := by decide +kernel
theorem dX4_judge_1 : decode cX4_judge 1 = .ok (.iconst (-1), 1) := by decide +kernel
theorem dX4_judge_2 : decode cX4_judge 2 = .ok (.if_icmp .ne 5, 3) := by decide +kernel
theorem dX4_judge_5 : decode cX4_judge 5 = .ok (.iconst 0, 1) := by decide +kernel
theorem dX4_judge_6 : decode cX4_judge 6 = .ok (.ireturn, 1) := by decide +kernel
theorem dX4_judge_7 : decode cX4_judge 7 = .ok (.iload_n 1, 1) := by decide +kernel
theorem dX4_judge_8 : decode cX4_judge 8 = .ok (.aload_n 0, 1) := by decide +kernel
theorem dX4_judge_9 : decode cX4_judge 9 = .ok (.getfield 74, 3) := by decide +kernel
theorem dX4_judge_12 : decode cX4_judge 12 = .ok (.if_icmp .le 5, 3) := by decide +kernel
theorem dX4_judge_15 : decode cX4_judge 15 = .ok (.iconst 3, 1) := by decide +kernel
theorem dX4_judge_16 : decode cX4_judge 16 = .ok (.ireturn, 1) := by decide +kernel
theorem dX4_judge_17 : decode cX4_judge 17 = .ok (.iload_n 1, 1) := by decide +kernel
theorem dX4_judge_18 : decode cX4_judge 18 = .ok (.aload_n 0, 1) := by decide +kernel
theorem dX4_judge_19 : decode cX4_judge 19 = .ok (.getfield 71, 3) := by decide +kernel
theorem dX4_judge_22 : decode cX4_judge 22 = .ok (.if_icmp .ge 7, 3) := by decide +kernel
theorem dX4_judge_25 : decode cX4_judge 25 = .ok (.iconst 1, 1) := by decide +kernel
theorem dX4_judge_26 : decode cX4_judge 26 = .ok (.goto 4, 3) := by decide +kernel
theorem dX4_judge_29 : decode cX4_judge 29 = .ok (.iconst 2, 1) := by decide +kernel
theorem dX4_judge_30 : decode cX4_judge 30 = .ok (.ireturn, 1) := by decide +kernel
theorem dX5_init_0 : decode cX5_init 0 = .ok (.aload_n 0, 1) := by decide +kernel
theorem dX5_init_1 : decode cX5_init 1 = .ok (.invokespecial 3, 3) := by decide +kernel
theorem dX5_init_4 : decode cX5_init 4 = .ok (.aload_n 0, 1) := by decide +kernel
theorem dX5_init_5 : decode cX5_init 5 = .ok (.bipush 40, 2) := by decide +kernel
theorem dX5_init_7 : decode cX5_init 7 = .ok (.newarray .int, 2) := by decide +kernel
theorem dX5_init_9 : decode cX5_init 9 = .ok (.putfield 9, 3) := by decide +kernel
theorem dX5_init_12 : decode cX5_init 12 = .ok (.aload_n 0, 1) := by decide +kernel
theorem dX5_init_13 : decode cX5_init 13 = .ok (.iconst (-1), 1) := by decide +kernel
theorem dX5_init_14 : decode cX5_init 14 = .ok (.putfield 15, 3) := by decide +kernel
theorem dX5_init_17 : decode cX5_init 17 = .ok (.aload_n 0, 1) := by decide +kernel
theorem dX5_init_18 : decode cX5_init 18 = .ok (.iconst (-1), 1) := by decide +kernel
theorem dX5_init_19 : decode cX5_init 19 = .ok (.putfield 19, 3) := by decide +kernel
theorem dX5_init_22 : decode cX5_init 22 = .ok (.return_, 1) := by decide +kernel
theorem dX5_enqueue_0 : decode cX5_enqueue 0 = .ok (.aload_n 0, 1) := by decide +kernel
theorem dX5_enqueue_1 : decode cX5_enqueue 1 = .ok (.getfield 22, 3) := by decide +kernel
theorem dX5_enqueue_4 : decode cX5_enqueue 4 = .ok (.aload_n 0, 1) := by decide +kernel
theorem dX5_enqueue_5 : decode cX5_enqueue 5 = .ok (.getfield 9, 3) := by decide +kernel
theorem dX5_enqueue_8 : decode cX5_enqueue 8 = .ok (.arraylength, 1) := by decide +kernel
theorem dX5_enqueue_9 : decode cX5_enqueue 9 = .ok (.if_icmp .ge 23, 3) := by decide +kernel
theorem dX5_enqueue_12 : decode cX5_enqueue 12 = .ok (.aload_n 0, 1) := by decide +kernel
theorem dX5_enqueue_13 : decode cX5_enqueue 13 = .ok (.getfield 9, 3) := by decide +kernel
theorem dX5_enqueue_16 : decode cX5_enqueue 16 = .ok (.aload_n 0, 1) := by decide +kernel
theorem dX5_enqueue_17 : decode cX5_enqueue 17 = .ok (.getfield 22, 3) := by decide +kernel
theorem dX5_enqueue_20 : decode cX5_enqueue 20 = .ok (.iload_n 1, 1) := by decide +kernel
theorem dX5_enqueue_21 : decode cX5_enqueue 21 = .ok (.iastore, 1) := by decide +kernel
theorem dX5_enqueue_22 : decode cX5_enqueue 22 = .ok (.aload_n 0, 1) := by decide +kernel
theorem dX5_enqueue_23 : decode cX5_enqueue 23 = .ok (.dup, 1) := by decide +kernel
theorem dX5_enqueue_24 : decode cX5_enqueue 24 = .ok (.getfield 22, 3) := by decide +kernel
theorem dX5_enqueue_27 : decode cX5_enqueue 27 = .ok (.iconst 1, 1) := by decide +kernel
theorem dX5_enqueue_28 : decode cX5_enqueue 28 = .ok (.iadd, 1) := by decide +kernel
theorem dX5_enqueue_29 : decode cX5_enqueue 29 = .ok (.putfield 22, 3) := by decide +kernel
theorem dX5_enqueue_32 : decode cX5_enqueue 32 = .ok (.return_, 1) := by decide +kernel
theorem dX5_takeIn_0 : decode cX5_takeIn 0 = .ok (.aload_n 0, 1) := by decide +kernel
theorem dX5_takeIn_1 : decode cX5_takeIn 1 = .ok (.aload_n 0, 1) := by decide +kernel
theorem dX5_takeIn_2 : decode cX5_takeIn 2 = .ok (.getfield 9, 3) := by decide +kernel
theorem dX5_takeIn_5 : decode cX5_takeIn 5 = .ok (.iload_n 1, 1) := by decide +kernel
theorem dX5_takeIn_6 : decode cX5_takeIn 6 = .ok (.iaload, 1) := by decide +kernel
theorem dX5_takeIn_7 : decode cX5_takeIn 7 = .ok (.putfield 15, 3) := by decide +kernel
theorem dX5_takeIn_10 : decode cX5_takeIn 10 = .ok (.aload_n 0, 1) := by decide +kernel
theorem dX5_takeIn_11 : decode cX5_takeIn 11 = .ok (.iload_n 2, 1) := by decide +kernel
theorem dX5_takeIn_12 : decode cX5_takeIn 12 = .ok (.putfield 19, 3) := by decide +kernel
theorem dX5_takeIn_15 : decode cX5_takeIn 15 = .ok (.aload_n 0, 1) := by decide +kernel
theorem dX5_takeIn_16 : decode cX5_takeIn 16 = .ok (.dup, 1) := by decide +kernel
theorem dX5_takeIn_17 : decode cX5_takeIn 17 = .ok (.getfield 22, 3) := by decide +kernel
theorem dX5_takeIn_20 : decode cX5_takeIn 20 = .ok (.iconst 1, 1) := by decide +kernel
theorem dX5_takeIn_21 : decode cX5_takeIn 21 = .ok (.isub, 1) := by decide +kernel
theorem dX5_takeIn_22 : decode cX5_takeIn 22 = .ok (.putfield 22, 3) := by decide +kernel
theorem dX5_takeIn_25 : decode cX5_takeIn 25 = .ok (.iload_n 1, 1) := by decide +kernel
theorem dX5_takeIn_26 : decode cX5_takeIn 26 = .ok (.istore_n 3, 1) := by decide +kernel
theorem dX5_takeIn_27 : decode cX5_takeIn 27 = .ok (.iload_n 3, 1) := by decide +kernel
theorem dX5_takeIn_28 : decode cX5_takeIn 28 = .ok (.aload_n 0, 1) := by decide +kernel
theorem dX5_takeIn_29 : decode cX5_takeIn 29 = .ok (.getfield 22, 3) := by decide +kernel
theorem dX5_takeIn_32 : decode cX5_takeIn 32 = .ok (.if_icmp .ge 23, 3) := by decide +kernel
theorem dX5_takeIn_35 : decode cX5_takeIn 35 = .ok (.aload_n 0, 1) := by decide +kernel
theorem dX5_takeIn_36 : decode cX5_takeIn 36 = .ok (.getfield 9, 3) := by decide +kernel
theorem dX5_takeIn_39 : decode cX5_takeIn 39 = .ok (.iload_n 3, 1) := by decide +kernel
theorem dX5_takeIn_40 : decode cX5_takeIn 40 = .ok (.aload_n 0, 1) := by decide +kernel
theorem dX5_takeIn_41 : decode cX5_takeIn 41 = .ok (.getfield 9, 3) := by decide +kernel
theorem dX5_takeIn_44 : decode cX5_takeIn 44 = .ok (.iload_n 3, 1) := by decide +kernel
theorem dX5_takeIn_45 : decode cX5_takeIn 45 = .ok (.iconst 1, 1) := by decide +kernel
theorem dX5_takeIn_46 : decode cX5_takeIn 46 = .ok (.iadd, 1) := by decide +kernel
theorem dX5_takeIn_47 : decode cX5_takeIn 47 = .ok (.iaload, 1) := by decide +kernel
theorem dX5_takeIn_48 : decode cX5_takeIn 48 = .ok (.iastore, 1) := by decide +kernel
theorem dX5_takeIn_49 : decode cX5_takeIn 49 = .ok (.iinc 3 1, 3) := by decide +kernel
theorem dX5_takeIn_52 : decode cX5_takeIn 52 = .ok (.goto (-25), 3) := by decide +kernel
theorem dX5_takeIn_55 : decode cX5_takeIn 55 = .ok (.return_, 1) := by decide +kernel
theorem dX6_init_0 : decode cX6_init 0 = .ok (.aload_n 0, 1) := by decide +kernel
theorem dX6_init_1 : decode cX6_init 1 = .ok (.invokespecial 3, 3) := by decide +kernel
theorem dX6_init_4 : decode cX6_init 4 = .ok (.aload_n 0, 1) := by decide +kernel
theorem dX6_init_5 : decode cX6_init 5 = .ok (.sipush 250, 3) := by decide +kernel
theorem dX6_init_8 : decode cX6_init 8 = .ok (.newarray .int, 2) := by decide +kernel
theorem dX6_init_10 : decode cX6_init 10 = .ok (.putfield 9, 3) := by decide +kernel
theorem dX6_init_13 : decode cX6_init 13 = .ok (.aload_n 0, 1) := by decide +kernel
theorem dX6_init_14 : decode cX6_init 14 = .ok (.sipush 250, 3) := by decide +kernel
theorem dX6_init_17 : decode cX6_init 17 = .ok (.newarray .int, 2) := by decide +kernel
theorem dX6_init_19 : decode cX6_init 19 = .ok (.putfield 15, 3) := by decide +kernel
theorem dX6_init_22 : decode cX6_init 22 = .ok (.aload_n 0, 1) := by decide +kernel
theorem dX6_init_23 : decode cX6_init 23 = .ok (.sipush 250, 3) := by decide +kernel
theorem dX6_init_26 : decode cX6_init 26 = .ok (.newarray .int, 2) := by decide +kernel
theorem dX6_init_28 : decode cX6_init 28 = .ok (.putfield 18, 3) := by decide +kernel
theorem dX6_init_31 : decode cX6_init 31 = .ok (.aload_n 0, 1) := by decide +kernel
theorem dX6_init_32 : decode cX6_init 32 = .ok (.sipush 250, 3) := by decide +kernel
theorem dX6_init_35 : decode cX6_init 35 = .ok (.newarray .int, 2) := by decide +kernel
theorem dX6_init_37 : decode cX6_init 37 = .ok (.putfield 21, 3) := by decide +kernel
theorem dX6_init_40 : decode cX6_init 40 = .ok (.aload_n 0, 1) := by decide +kernel
theorem dX6_init_41 : decode cX6_init 41 = .ok (.sipush 250, 3) := by decide +kernel
theorem dX6_init_44 : decode cX6_init 44 = .ok (.newarray .int, 2) := by decide +kernel
theorem dX6_init_46 : decode cX6_init 46 = .ok (.putfield 24, 3) := by decide +kernel
theorem dX6_init_49 : decode cX6_init 49 = .ok (.aload_n 0, 1) := by decide +kernel
theorem dX6_init_50 : decode cX6_init 50 = .ok (.sipush 250, 3) := by decide +kernel
theorem dX6_init_53 : decode cX6_init 53 = .ok (.newarray .int, 2) := by decide +kernel
theorem dX6_init_55 : decode cX6_init 55 = .ok (.putfield 27, 3) := by decide +kernel
theorem dX6_init_58 : decode cX6_init 58 = .ok (.aload_n 0, 1) := by decide +kernel
theorem dX6_init_59 : decode cX6_init 59 = .ok (.sipush 257, 3) := by decide +kernel
theorem dX6_init_62 : decode cX6_init 62 = .ok (.newarray .int, 2) := by decide +kernel
theorem dX6_init_64 : decode cX6_init 64 = .ok (.putfield 30, 3) := by decide +kernel
theorem dX6_init_67 : decode cX6_init 67 = .ok (.return_, 1) := by decide +kernel
theorem dX6_tell_0 : decode cX6_tell 0 = .ok (.aload_n 0, 1) := by decide +kernel
theorem dX6_tell_1 : decode cX6_tell 1 = .ok (.getfield 33, 3) := by decide +kernel
theorem dX6_tell_4 : decode cX6_tell 4 = .ok (.sipush 250, 3) := by decide +kernel
theorem dX6_tell_7 : decode cX6_tell 7 = .ok (.if_icmp .lt 5, 3) := by decide +kernel
theorem dX6_tell_10 : decode cX6_tell 10 = .ok (.iconst (-1), 1) := by decide +kernel
theorem dX6_tell_11 : decode cX6_tell 11 = .ok (.ireturn, 1) := by decide +kernel
theorem dX6_tell_12 : decode cX6_tell 12 = .ok (.aload_n 0, 1) := by decide +kernel
theorem dX6_tell_13 : decode cX6_tell 13 = .ok (.getfield 9, 3) := by decide +kernel
theorem dX6_tell_16 : decode cX6_tell 16 = .ok (.aload_n 0, 1) := by decide +kernel
theorem dX6_tell_17 : decode cX6_tell 17 = .ok (.getfield 33, 3) := by decide +kernel
theorem dX6_tell_20 : decode cX6_tell 20 = .ok (.iload_n 1, 1) := by decide +kernel
theorem dX6_tell_21 : decode cX6_tell 21 = .ok (.iastore, 1) := by decide +kernel
theorem dX6_tell_22 : decode cX6_tell 22 = .ok (.aload_n 0, 1) := by decide +kernel
theorem dX6_tell_23 : decode cX6_tell 23 = .ok (.getfield 15, 3) := by decide +kernel
theorem dX6_tell_26 : decode cX6_tell 26 = .ok (.aload_n 0, 1) := by decide +kernel
theorem dX6_tell_27 : decode cX6_tell 27 = .ok (.getfield 33, 3) := by decide +kernel
theorem dX6_tell_30 : decode cX6_tell 30 = .ok (.iload_n 2, 1) := by decide +kernel
theorem dX6_tell_31 : decode cX6_tell 31 = .ok (.iastore, 1) := by decide +kernel
theorem dX6_tell_32 : decode cX6_tell 32 = .ok (.aload_n 0, 1) := by decide +kernel
theorem dX6_tell_33 : decode cX6_tell 33 = .ok (.getfield 18, 3) := by decide +kernel
theorem dX6_tell_36 : decode cX6_tell 36 = .ok (.aload_n 0, 1) := by decide +kernel
theorem dX6_tell_37 : decode cX6_tell 37 = .ok (.getfield 33, 3) := by decide +kernel
theorem dX6_tell_40 : decode cX6_tell 40 = .ok (.iload_n 3, 1) := by decide +kernel
theorem dX6_tell_41 : decode cX6_tell 41 = .ok (.iastore, 1) := by decide +kernel
theorem dX6_tell_42 : decode cX6_tell 42 = .ok (.aload_n 0, 1) := by decide +kernel
theorem dX6_tell_43 : decode cX6_tell 43 = .ok (.dup, 1) := by decide +kernel
theorem dX6_tell_44 : decode cX6_tell 44 = .ok (.getfield 33, 3) := by decide +kernel
theorem dX6_tell_47 : decode cX6_tell 47 = .ok (.iconst 1, 1) := by decide +kernel
theorem dX6_tell_48 : decode cX6_tell 48 = .ok (.iadd, 1) := by decide +kernel
theorem dX6_tell_49 : decode cX6_tell 49 = .ok (.putfield 33, 3) := by decide +kernel
theorem dX6_tell_52 : decode cX6_tell 52 = .ok (.aload_n 0, 1) := by decide +kernel
theorem dX6_tell_53 : decode cX6_tell 53 = .ok (.getfield 33, 3) := by decide +kernel
theorem dX6_tell_56 : decode cX6_tell 56 = .ok (.iconst 1, 1) := by decide +kernel
theorem dX6_tell_57 : decode cX6_tell 57 = .ok (.isub, 1) := by decide +kernel
theorem dX6_tell_58 : decode cX6_tell 58 = .ok (.ireturn, 1) := by decide +kernel
theorem dX6_shadeOn_0 : decode cX6_shadeOn 0 = .ok (.iload_n 1, 1) := by decide +kernel
theorem dX6_shadeOn_1 : decode cX6_shadeOn 1 = .ok (.istore_n 3, 1) := by decide +kernel
theorem dX6_shadeOn_2 : decode cX6_shadeOn 2 = .ok (.iconst 0, 1) := by decide +kernel
theorem dX6_shadeOn_3 : decode cX6_shadeOn 3 = .ok (.istore 4, 2) := by decide +kernel
theorem dX6_shadeOn_5 : decode cX6_shadeOn 5 = .ok (.iload 4, 2) := by decide +kernel
theorem dX6_shadeOn_7 : decode cX6_shadeOn 7 = .ok (.aload_n 0, 1) := by decide +kernel
theorem dX6_shadeOn_8 : decode cX6_shadeOn 8 = .ok (.getfield 33, 3) := by decide +kernel
theorem dX6_shadeOn_11 : decode cX6_shadeOn 11 = .ok (.if_icmp .ge 45, 3) := by decide +kernel
theorem dX6_shadeOn_14 : decode cX6_shadeOn 14 = .ok (.iload_n 3, 1) := by decide +kernel
theorem dX6_shadeOn_15 : decode cX6_shadeOn 15 = .ok (.ifCond .lt 41, 3) := by decide +kernel
theorem dX6_shadeOn_18 : decode cX6_shadeOn 18 = .ok (.iload_n 3, 1) := by decide +kernel
theorem dX6_shadeOn_19 : decode cX6_shadeOn 19 = .ok (.aload_n 0, 1) := by decide +kernel
theorem dX6_shadeOn_20 : decode cX6_shadeOn 20 = .ok (.getfield 33, 3) := by decide +kernel
theorem dX6_shadeOn_23 : decode cX6_shadeOn 23 = .ok (.if_icmp .ge 33, 3) := by decide +kernel
theorem dX6_shadeOn_26 : decode cX6_shadeOn 26 = .ok (.aload_n 0, 1) := by decide +kernel
theorem dX6_shadeOn_27 : decode cX6_shadeOn 27 = .ok (.getfield 15, 3) := by decide +kernel
theorem dX6_shadeOn_30 : decode cX6_shadeOn 30 = .ok (.iload_n 3, 1) := by decide +kernel
theorem dX6_shadeOn_31 : decode cX6_shadeOn 31 = .ok (.iaload, 1) := by decide +kernel
theorem dX6_shadeOn_32 : decode cX6_shadeOn 32 = .ok (.iload_n 2, 1) := by decide +kernel
theorem dX6_shadeOn_33 : decode cX6_shadeOn 33 = .ok (.if_icmp .gt 10, 3) := by decide +kernel
theorem dX6_shadeOn_36 : decode cX6_shadeOn 36 = .ok (.aload_n 0, 1) := by decide +kernel
theorem dX6_shadeOn_37 : decode cX6_shadeOn 37 = .ok (.getfield 9, 3) := by decide +kernel
theorem dX6_shadeOn_40 : decode cX6_shadeOn 40 = .ok (.iload_n 3, 1) := by decide +kernel
theorem dX6_shadeOn_41 : decode cX6_shadeOn 41 = .ok (.iaload, 1) := by decide +kernel
theorem dX6_shadeOn_42 : decode cX6_shadeOn 42 = .ok (.ireturn, 1) := by decide +kernel
theorem dX6_shadeOn_43 : decode cX6_shadeOn 43 = .ok (.aload_n 0, 1) := by decide +kernel
theorem dX6_shadeOn_44 : decode cX6_shadeOn 44 = .ok (.getfield 18, 3) := by decide +kernel
theorem dX6_shadeOn_47 : decode cX6_shadeOn 47 = .ok (.iload_n 3, 1) := by decide +kernel
theorem dX6_shadeOn_48 : decode cX6_shadeOn 48 = .ok (.iaload, 1) := by decide +kernel
theorem dX6_shadeOn_49 : decode cX6_shadeOn 49 = .ok (.istore_n 3, 1) := by decide +kernel
theorem dX6_shadeOn_50 : decode cX6_shadeOn 50 = .ok (.iinc 4 1, 3) := by decide +kernel
theorem dX6_shadeOn_53 : decode cX6_shadeOn 53 = .ok (.goto (-48), 3) := by decide +kernel
theorem dX6_shadeOn_56 : decode cX6_shadeOn 56 = .ok (.iconst (-1), 1) := by decide +kernel
theorem dX6_shadeOn_57 : decode cX6_shadeOn 57 = .ok (.ireturn, 1) := by decide +kernel
theorem dX6_gatherNone_0 : decode cX6_gatherNone 0 = .ok (.aload_n 0, 1) := by decide +kernel
theorem dX6_gatherNone_1 : decode cX6_gatherNone 1 = .ok (.iconst 0, 1) := by decide +kernel
theorem dX6_gatherNone_2 : decode cX6_gatherNone 2 = .ok (.putfield 37, 3) := by decide +kernel
theorem dX6_gatherNone_5 : decode cX6_gatherNone 5 = .ok (.return_, 1) := by decide +kernel
theorem dX6_gather_0 : decode cX6_gather 0 = .ok (.aload_n 0, 1) := by decide +kernel
theorem dX6_gather_1 : decode cX6_gather 1 = .ok (.getfield 37, 3) := by decide +kernel
theorem dX6_gather_4 : decode cX6_gather 4 = .ok (.sipush 250, 3) := by decide +kernel
theorem dX6_gather_7 : decode cX6_gather 7 = .ok (.if_icmp .ge 33, 3) := by decide +kernel
theorem dX6_gather_10 : decode cX6_gather 10 = .ok (.aload_n 0, 1) := by decide +kernel
theorem dX6_gather_11 : decode cX6_gather 11 = .ok (.getfield 21, 3) := by decide +kernel
theorem dX6_gather_14 : decode cX6_gather 14 = .ok (.aload_n 0, 1) := by decide +kernel
theorem dX6_gather_15 : decode cX6_gather 15 = .ok (.getfield 37, 3) := by decide +kernel
theorem dX6_gather_18 : decode cX6_gather 18 = .ok (.iload_n 1, 1) := by decide +kernel
theorem dX6_gather_19 : decode cX6_gather 19 = .ok (.bipush 12, 2) := by decide +kernel
theorem dX6_gather_21 : decode cX6_gather 21 = .ok (.ishl, 1) := by decide +kernel
theorem dX6_gather_22 : decode cX6_gather 22 = .ok (.iload_n 2, 1) := by decide +kernel
theorem dX6_gather_23 : decode cX6_gather 23 = .ok (.bipush 6, 2) := by decide +kernel
theorem dX6_gather_25 : decode cX6_gather 25 = .ok (.ishl, 1) := by decide +kernel
theorem dX6_gather_26 : decode cX6_gather 26 = .ok (.iadd, 1) := by decide +kernel
theorem dX6_gather_27 : decode cX6_gather 27 = .ok (.iload_n 3, 1) := by decide +kernel
theorem dX6_gather_28 : decode cX6_gather 28 = .ok (.iadd, 1) := by decide +kernel
theorem dX6_gather_29 : decode cX6_gather 29 = .ok (.iastore, 1) := by decide +kernel
theorem dX6_gather_30 : decode cX6_gather 30 = .ok (.aload_n 0, 1) := by decide +kernel
theorem dX6_gather_31 : decode cX6_gather 31 = .ok (.dup, 1) := by decide +kernel
theorem dX6_gather_32 : decode cX6_gather 32 = .ok (.getfield 37, 3) := by decide +kernel
theorem dX6_gather_35 : decode cX6_gather 35 = .ok (.iconst 1, 1) := by decide +kernel
theorem dX6_gather_36 : decode cX6_gather 36 = .ok (.iadd, 1) := by decide +kernel
theorem dX6_gather_37 : decode cX6_gather 37 = .ok (.putfield 37, 3) := by decide +kernel
theorem dX6_gather_40 : decode cX6_gather 40 = .ok (.return_, 1) := by decide +kernel
theorem dX6_putInOrder_0 : decode cX6_putInOrder 0 = .ok (.aload_n 0, 1) := by decide +kernel
theorem dX6_putInOrder_1 : decode cX6_putInOrder 1 = .ok (.getfield 30, 3) := by decide +kernel
theorem dX6_putInOrder_4 : decode cX6_putInOrder 4 = .ok (.iconst 0, 1) := by decide +kernel
theorem dX6_putInOrder_5 : decode cX6_putInOrder 5 = .ok (.invokestatic 40, 3) := by decide +kernel
theorem dX6_putInOrder_8 : decode cX6_putInOrder 8 = .ok (.iconst 0, 1) := by decide +kernel
theorem dX6_putInOrder_9 : decode cX6_putInOrder 9 = .ok (.istore_n 1, 1) := by decide +kernel
theorem dX6_putInOrder_10 : decode cX6_putInOrder 10 = .ok (.iload_n 1, 1) := by decide +kernel
theorem dX6_putInOrder_11 : decode cX6_putInOrder 11 = .ok (.aload_n 0, 1) := by decide +kernel
theorem dX6_putInOrder_12 : decode cX6_putInOrder 12 = .ok (.getfield 37, 3) := by decide +kernel
theorem dX6_putInOrder_15 : decode cX6_putInOrder 15 = .ok (.if_icmp .ge 29, 3) := by decide +kernel
theorem dX6_putInOrder_18 : decode cX6_putInOrder 18 = .ok (.aload_n 0, 1) := by decide +kernel
theorem dX6_putInOrder_19 : decode cX6_putInOrder 19 = .ok (.getfield 30, 3) := by decide +kernel
theorem dX6_putInOrder_22 : decode cX6_putInOrder 22 = .ok (.aload_n 0, 1) := by decide +kernel
theorem dX6_putInOrder_23 : decode cX6_putInOrder 23 = .ok (.getfield 21, 3) := by decide +kernel
theorem dX6_putInOrder_26 : decode cX6_putInOrder 26 = .ok (.iload_n 1, 1) := by decide +kernel
theorem dX6_putInOrder_27 : decode cX6_putInOrder 27 = .ok (.iaload, 1) := by decide +kernel
theorem dX6_putInOrder_28 : decode cX6_putInOrder 28 = .ok (.invokestatic 46, 3) := by decide +kernel
theorem dX6_putInOrder_31 : decode cX6_putInOrder 31 = .ok (.iconst 1, 1) := by decide +kernel
theorem dX6_putInOrder_32 : decode cX6_putInOrder 32 = .ok (.iadd, 1) := by decide +kernel
theorem dX6_putInOrder_33 : decode cX6_putInOrder 33 = .ok (.dup2, 1) := by decide +kernel
theorem dX6_putInOrder_34 : decode cX6_putInOrder 34 = .ok (.iaload, 1) := by decide +kernel
theorem dX6_putInOrder_35 : decode cX6_putInOrder 35 = .ok (.iconst 1, 1) := by decide +kernel
theorem dX6_putInOrder_36 : decode cX6_putInOrder 36 = .ok (.iadd, 1) := by decide +kernel
theorem dX6_putInOrder_37 : decode cX6_putInOrder 37 = .ok (.iastore, 1) := by decide +kernel
theorem dX6_putInOrder_38 : decode cX6_putInOrder 38 = .ok (.iinc 1 1, 3) := by decide +kernel
theorem dX6_putInOrder_41 : decode cX6_putInOrder 41 = .ok (.goto (-31), 3) := by decide +kernel
theorem dX6_putInOrder_44 : decode cX6_putInOrder 44 = .ok (.iconst 1, 1) := by decide +kernel
theorem dX6_putInOrder_45 : decode cX6_putInOrder 45 = .ok (.istore_n 1, 1) := by decide +kernel
theorem dX6_putInOrder_46 : decode cX6_putInOrder 46 = .ok (.iload_n 1, 1) := by decide +kernel
theorem dX6_putInOrder_47 : decode cX6_putInOrder 47 = .ok (.sipush 255, 3) := by decide +kernel
theorem dX6_putInOrder_50 : decode cX6_putInOrder 50 = .ok (.if_icmp .gt 26, 3) := by decide +kernel
theorem dX6_putInOrder_53 : decode cX6_putInOrder 53 = .ok (.aload_n 0, 1) := by decide +kernel
theorem dX6_putInOrder_54 : decode cX6_putInOrder 54 = .ok (.getfield 30, 3) := by decide +kernel
theorem dX6_putInOrder_57 : decode cX6_putInOrder 57 = .ok (.iload_n 1, 1) := by decide +kernel
theorem dX6_putInOrder_58 : decode cX6_putInOrder 58 = .ok (.dup2, 1) := by decide +kernel
theorem dX6_putInOrder_59 : decode cX6_putInOrder 59 = .ok (.iaload, 1) := by decide +kernel
theorem dX6_putInOrder_60 : decode cX6_putInOrder 60 = .ok (.aload_n 0, 1) := by decide +kernel
theorem dX6_putInOrder_61 : decode cX6_putInOrder 61 = .ok (.getfield 30, 3) := by decide +kernel
theorem dX6_putInOrder_64 : decode cX6_putInOrder 64 = .ok (.iload_n 1, 1) := by decide +kernel
theorem dX6_putInOrder_65 : decode cX6_putInOrder 65 = .ok (.iconst 1, 1) := by decide +kernel
theorem dX6_putInOrder_66 : decode cX6_putInOrder 66 = .ok (.isub, 1) := by decide +kernel
theorem dX6_putInOrder_67 : decode cX6_putInOrder 67 = .ok (.iaload, 1) := by decide +kernel
theorem dX6_putInOrder_68 : decode cX6_putInOrder 68 = .ok (.iadd, 1) := by decide +kernel
theorem dX6_putInOrder_69 : decode cX6_putInOrder 69 = .ok (.iastore, 1) := by decide +kernel
theorem dX6_putInOrder_70 : decode cX6_putInOrder 70 = .ok (.iinc 1 1, 3) := by decide +kernel
theorem dX6_putInOrder_73 : decode cX6_putInOrder 73 = .ok (.goto (-27), 3) := by decide +kernel
theorem dX6_putInOrder_76 : decode cX6_putInOrder 76 = .ok (.iconst 0, 1) := by decide +kernel
theorem dX6_putInOrder_77 : decode cX6_putInOrder 77 = .ok (.istore_n 1, 1) := by decide +kernel
theorem dX6_putInOrder_78 : decode cX6_putInOrder 78 = .ok (.iload_n 1, 1) := by decide +kernel
theorem dX6_putInOrder_79 : decode cX6_putInOrder 79 = .ok (.aload_n 0, 1) := by decide +kernel
theorem dX6_putInOrder_80 : decode cX6_putInOrder 80 = .ok (.getfield 37, 3) := by decide +kernel
theorem dX6_putInOrder_83 : decode cX6_putInOrder 83 = .ok (.if_icmp .ge 46, 3) := by decide +kernel
theorem dX6_putInOrder_86 : decode cX6_putInOrder 86 = .ok (.aload_n 0, 1) := by decide +kernel
theorem dX6_putInOrder_87 : decode cX6_putInOrder 87 = .ok (.getfield 21, 3) := by decide +kernel
theorem dX6_putInOrder_90 : decode cX6_putInOrder 90 = .ok (.iload_n 1, 1) := by decide +kernel
theorem dX6_putInOrder_91 : decode cX6_putInOrder 91 = .ok (.iaload, 1) := by decide +kernel
theorem dX6_putInOrder_92 : decode cX6_putInOrder 92 = .ok (.invokestatic 46, 3) := by decide +kernel
theorem dX6_putInOrder_95 : decode cX6_putInOrder 95 = .ok (.istore_n 2, 1) := by decide +kernel
theorem dX6_putInOrder_96 : decode cX6_putInOrder 96 = .ok (.aload_n 0, 1) := by decide +kernel
theorem dX6_putInOrder_97 : decode cX6_putInOrder 97 = .ok (.getfield 24, 3) := by decide +kernel
theorem dX6_putInOrder_100 : decode cX6_putInOrder 100 = .ok (.aload_n 0, 1) := by decide +kernel
theorem dX6_putInOrder_101 : decode cX6_putInOrder 101 = .ok (.getfield 30, 3) := by decide +kernel
theorem dX6_putInOrder_104 : decode cX6_putInOrder 104 = .ok (.iload_n 2, 1) := by decide +kernel
theorem dX6_putInOrder_105 : decode cX6_putInOrder 105 = .ok (.iaload, 1) := by decide +kernel
theorem dX6_putInOrder_106 : decode cX6_putInOrder 106 = .ok (.aload_n 0, 1) := by decide +kernel
theorem dX6_putInOrder_107 : decode cX6_putInOrder 107 = .ok (.getfield 21, 3) := by decide +kernel
theorem dX6_putInOrder_110 : decode cX6_putInOrder 110 = .ok (.iload_n 1, 1) := by decide +kernel
theorem dX6_putInOrder_111 : decode cX6_putInOrder 111 = .ok (.iaload, 1) := by decide +kernel
theorem dX6_putInOrder_112 : decode cX6_putInOrder 112 = .ok (.iastore, 1) := by decide +kernel
theorem dX6_putInOrder_113 : decode cX6_putInOrder 113 = .ok (.aload_n 0, 1) := by decide +kernel
theorem dX6_putInOrder_114 : decode cX6_putInOrder 114 = .ok (.getfield 30, 3) := by decide +kernel
theorem dX6_putInOrder_117 : decode cX6_putInOrder 117 = .ok (.iload_n 2, 1) := by decide +kernel
theorem dX6_putInOrder_118 : decode cX6_putInOrder 118 = .ok (.dup2, 1) := by decide +kernel
theorem dX6_putInOrder_119 : decode cX6_putInOrder 119 = .ok (.iaload, 1) := by decide +kernel
theorem dX6_putInOrder_120 : decode cX6_putInOrder 120 = .ok (.iconst 1, 1) := by decide +kernel
theorem dX6_putInOrder_121 : decode cX6_putInOrder 121 = .ok (.iadd, 1) := by decide +kernel
theorem dX6_putInOrder_122 : decode cX6_putInOrder 122 = .ok (.iastore, 1) := by decide +kernel
theorem dX6_putInOrder_123 : decode cX6_putInOrder 123 = .ok (.iinc 1 1, 3) := by decide +kernel
theorem dX6_putInOrder_126 : decode cX6_putInOrder 126 = .ok (.goto (-48), 3) := by decide +kernel
theorem dX6_putInOrder_129 : decode cX6_putInOrder 129 = .ok (.return_, 1) := by decide +kernel
theorem dX6_shadeOf_0 : decode cX6_shadeOf 0 = .ok (.iload_n 0, 1) := by decide +kernel
theorem dX6_shadeOf_1 : decode cX6_shadeOf 1 = .ok (.bipush 12, 2) := by decide +kernel
theorem dX6_shadeOf_3 : decode cX6_shadeOf 3 = .ok (.iushr, 1) := by decide +kernel
theorem dX6_shadeOf_4 : decode cX6_shadeOf 4 = .ok (.sipush 255, 3) := by decide +kernel
theorem dX6_shadeOf_7 : decode cX6_shadeOf 7 = .ok (.iand, 1) := by decide +kernel
theorem dX6_shadeOf_8 : decode cX6_shadeOf 8 = .ok (.ireturn, 1) := by decide +kernel
theorem dX6_formPacks_0 : decode cX6_formPacks 0 = .ok (.aload_n 0, 1) := by decide +kernel
theorem dX6_formPacks_1 : decode cX6_formPacks 1 = .ok (.invokevirtual 50, 3) := by decide +kernel
theorem dX6_formPacks_4 : decode cX6_formPacks 4 = .ok (.iconst 1, 1) := by decide +kernel
theorem dX6_formPacks_5 : decode cX6_formPacks 5 = .ok (.iload_n 1, 1) := by decide +kernel
theorem dX6_formPacks_6 : decode cX6_formPacks 6 = .ok (.invokestatic 53, 3) := by decide +kernel
theorem dX6_formPacks_9 : decode cX6_formPacks 9 = .ok (.istore_n 3, 1) := by decide +kernel
theorem dX6_formPacks_10 : decode cX6_formPacks 10 = .ok (.iconst 0, 1) := by decide +kernel
theorem dX6_formPacks_11 : decode cX6_formPacks 11 = .ok (.istore 4, 2) := by decide +kernel
theorem dX6_formPacks_13 : decode cX6_formPacks 13 = .ok (.iconst 0, 1) := by decide +kernel
theorem dX6_formPacks_14 : decode cX6_formPacks 14 = .ok (.istore 5, 2) := by decide +kernel
theorem dX6_formPacks_16 : decode cX6_formPacks 16 = .ok (.iload 5, 2) := by decide +kernel
theorem dX6_formPacks_18 : decode cX6_formPacks 18 = .ok (.iload_n 3, 1) := by decide +kernel
theorem dX6_formPacks_19 : decode cX6_formPacks 19 = .ok (.iadd, 1) := by decide +kernel
theorem dX6_formPacks_20 : decode cX6_formPacks 20 = .ok (.aload_n 0, 1) := by decide +kernel
theorem dX6_formPacks_21 : decode cX6_formPacks 21 = .ok (.getfield 37, 3) := by decide +kernel
theorem dX6_formPacks_24 : decode cX6_formPacks 24 = .ok (.if_icmp .gt 59, 3) := by decide +kernel
theorem dX6_formPacks_27 : decode cX6_formPacks 27 = .ok (.aload_n 0, 1) := by decide +kernel
theorem dX6_formPacks_28 : decode cX6_formPacks 28 = .ok (.getfield 24, 3) := by decide +kernel
theorem dX6_formPacks_31 : decode cX6_formPacks 31 = .ok (.iload 5, 2) := by decide +kernel
theorem dX6_formPacks_33 : decode cX6_formPacks 33 = .ok (.iload_n 3, 1) := by decide +kernel
theorem dX6_formPacks_34 : decode cX6_formPacks 34 = .ok (.iadd, 1) := by decide +kernel
theorem dX6_formPacks_35 : decode cX6_formPacks 35 = .ok (.iconst 1, 1) := by decide +kernel
theorem dX6_formPacks_36 : decode cX6_formPacks 36 = .ok (.isub, 1) := by decide +kernel
theorem dX6_formPacks_37 : decode cX6_formPacks 37 = .ok (.iaload, 1) := by decide +kernel
theorem dX6_formPacks_38 : decode cX6_formPacks 38 = .ok (.invokestatic 46, 3) := by decide +kernel
theorem dX6_formPacks_41 : decode cX6_formPacks 41 = .ok (.aload_n 0, 1) := by decide +kernel
theorem dX6_formPacks_42 : decode cX6_formPacks 42 = .ok (.getfield 24, 3) := by decide +kernel
theorem dX6_formPacks_45 : decode cX6_formPacks 45 = .ok (.iload 5, 2) := by decide +kernel
theorem dX6_formPacks_47 : decode cX6_formPacks 47 = .ok (.iaload, 1) := by decide +kernel
theorem dX6_formPacks_48 : decode cX6_formPacks 48 = .ok (.invokestatic 46, 3) := by decide +kernel
theorem dX6_formPacks_51 : decode cX6_formPacks 51 = .ok (.isub, 1) := by decide +kernel
theorem dX6_formPacks_52 : decode cX6_formPacks 52 = .ok (.iload_n 2, 1) := by decide +kernel
theorem dX6_formPacks_53 : decode cX6_formPacks 53 = .ok (.if_icmp .gt 24, 3) := by decide +kernel
theorem dX6_formPacks_56 : decode cX6_formPacks 56 = .ok (.aload_n 0, 1) := by decide +kernel
theorem dX6_formPacks_57 : decode cX6_formPacks 57 = .ok (.getfield 27, 3) := by decide +kernel
theorem dX6_formPacks_60 : decode cX6_formPacks 60 = .ok (.iload 4, 2) := by decide +kernel
theorem dX6_formPacks_62 : decode cX6_formPacks 62 = .ok (.iload 5, 2) := by decide +kernel
theorem dX6_formPacks_64 : decode cX6_formPacks 64 = .ok (.iastore, 1) := by decide +kernel
theorem dX6_formPacks_65 : decode cX6_formPacks 65 = .ok (.iinc 4 1, 3) := by decide +kernel
theorem dX6_formPacks_68 : decode cX6_formPacks 68 = .ok (.iload 5, 2) := by decide +kernel
theorem dX6_formPacks_70 : decode cX6_formPacks 70 = .ok (.iload_n 3, 1) := by decide +kernel
theorem dX6_formPacks_71 : decode cX6_formPacks 71 = .ok (.iadd, 1) := by decide +kernel
theorem dX6_formPacks_72 : decode cX6_formPacks 72 = .ok (.istore 5, 2) := by decide +kernel
theorem dX6_formPacks_74 : decode cX6_formPacks 74 = .ok (.goto (-58), 3) := by decide +kernel
theorem dX6_formPacks_77 : decode cX6_formPacks 77 = .ok (.iinc 5 1, 3) := by decide +kernel
theorem dX6_formPacks_80 : decode cX6_formPacks 80 = .ok (.goto (-64), 3) := by decide +kernel
theorem dX6_formPacks_83 : decode cX6_formPacks 83 = .ok (.iload 4, 2) := by decide +kernel
theorem dX6_formPacks_85 : decode cX6_formPacks 85 = .ok (.ireturn, 1) := by decide +kernel
theorem dX6_packBegin_0 : decode cX6_packBegin 0 = .ok (.iload_n 1, 1) := by decide +kernel
theorem dX6_packBegin_1 : decode cX6_packBegin 1 = .ok (.ifCond .lt 21, 3) := by decide +kernel
theorem dX6_packBegin_4 : decode cX6_packBegin 4 = .ok (.iload_n 1, 1) := by decide +kernel
theorem dX6_packBegin_5 : decode cX6_packBegin 5 = .ok (.aload_n 0, 1) := by decide +kernel
theorem dX6_packBegin_6 : decode cX6_packBegin 6 = .ok (.getfield 27, 3) := by decide +kernel
theorem dX6_packBegin_9 : decode cX6_packBegin 9 = .ok (.arraylength, 1) := by decide +kernel
theorem dX6_packBegin_10 : decode cX6_packBegin 10 = .ok (.if_icmp .ge 12, 3) := by decide +kernel
theorem dX6_packBegin_13 : decode cX6_packBegin 13 = .ok (.aload_n 0, 1) := by decide +kernel
theorem dX6_packBegin_14 : decode cX6_packBegin 14 = .ok (.getfield 27, 3) := by decide +kernel
theorem dX6_packBegin_17 : decode cX6_packBegin 17 = .ok (.iload_n 1, 1) := by decide +kernel
theorem dX6_packBegin_18 : decode cX6_packBegin 18 = .ok (.iaload, 1) := by decide +kernel
theorem dX6_packBegin_19 : decode cX6_packBegin 19 = .ok (.goto 4, 3) := by decide +kernel
theorem dX6_packBegin_22 : decode cX6_packBegin 22 = .ok (.iconst 0, 1) := by decide +kernel
theorem dX6_packBegin_23 : decode cX6_packBegin 23 = .ok (.ireturn, 1) := by decide +kernel
theorem dX6_lotOf_0 : decode cX6_lotOf 0 = .ok (.iload_n 1, 1) := by decide +kernel
theorem dX6_lotOf_1 : decode cX6_lotOf 1 = .ok (.ifCond .lt 26, 3) := by decide +kernel
theorem dX6_lotOf_4 : decode cX6_lotOf 4 = .ok (.iload_n 1, 1) := by decide +kernel
theorem dX6_lotOf_5 : decode cX6_lotOf 5 = .ok (.aload_n 0, 1) := by decide +kernel
theorem dX6_lotOf_6 : decode cX6_lotOf 6 = .ok (.getfield 37, 3) := by decide +kernel
theorem dX6_lotOf_9 : decode cX6_lotOf 9 = .ok (.if_icmp .ge 18, 3) := by decide +kernel
theorem dX6_lotOf_12 : decode cX6_lotOf 12 = .ok (.aload_n 0, 1) := by decide +kernel
theorem dX6_lotOf_13 : decode cX6_lotOf 13 = .ok (.getfield 24, 3) := by decide +kernel
theorem dX6_lotOf_16 : decode cX6_lotOf 16 = .ok (.iload_n 1, 1) := by decide +kernel
theorem dX6_lotOf_17 : decode cX6_lotOf 17 = .ok (.iaload, 1) := by decide +kernel
theorem dX6_lotOf_18 : decode cX6_lotOf 18 = .ok (.bipush 6, 2) := by decide +kernel
theorem dX6_lotOf_20 : decode cX6_lotOf 20 = .ok (.iushr, 1) := by decide +kernel
theorem dX6_lotOf_21 : decode cX6_lotOf 21 = .ok (.bipush 63, 2) := by decide +kernel
theorem dX6_lotOf_23 : decode cX6_lotOf 23 = .ok (.iand, 1) := by decide +kernel
theorem dX6_lotOf_24 : decode cX6_lotOf 24 = .ok (.goto 4, 3) := by decide +kernel
theorem dX6_lotOf_27 : decode cX6_lotOf 27 = .ok (.iconst (-1), 1) := by decide +kernel
theorem dX6_lotOf_28 : decode cX6_lotOf 28 = .ok (.ireturn, 1) := by decide +kernel
theorem dX6_pieceOf_0 : decode cX6_pieceOf 0 = .ok (.iload_n 1, 1) := by decide +kernel
theorem dX6_pieceOf_1 : decode cX6_pieceOf 1 = .ok (.ifCond .lt 23, 3) := by decide +kernel
theorem dX6_pieceOf_4 : decode cX6_pieceOf 4 = .ok (.iload_n 1, 1) := by decide +kernel
theorem dX6_pieceOf_5 : decode cX6_pieceOf 5 = .ok (.aload_n 0, 1) := by decide +kernel
theorem dX6_pieceOf_6 : decode cX6_pieceOf 6 = .ok (.getfield 37, 3) := by decide +kernel
theorem dX6_pieceOf_9 : decode cX6_pieceOf 9 = .ok (.if_icmp .ge 15, 3) := by decide +kernel
theorem dX6_pieceOf_12 : decode cX6_pieceOf 12 = .ok (.aload_n 0, 1) := by decide +kernel
theorem dX6_pieceOf_13 : decode cX6_pieceOf 13 = .ok (.getfield 24, 3) := by decide +kernel
theorem dX6_pieceOf_16 : decode cX6_pieceOf 16 = .ok (.iload_n 1, 1) := by decide +kernel
theorem dX6_pieceOf_17 : decode cX6_pieceOf 17 = .ok (.iaload, 1) := by decide +kernel
theorem dX6_pieceOf_18 : decode cX6_pieceOf 18 = .ok (.bipush 63, 2) := by decide +kernel
theorem dX6_pieceOf_20 : decode cX6_pieceOf 20 = .ok (.iand, 1) := by decide +kernel
theorem dX6_pieceOf_21 : decode cX6_pieceOf 21 = .ok (.goto 4, 3) := by decide +kernel
theorem dX6_pieceOf_24 : decode cX6_pieceOf 24 = .ok (.iconst (-1), 1) := by decide +kernel
theorem dX6_pieceOf_25 : decode cX6_pieceOf 25 = .ok (.ireturn, 1) := by decide +kernel
theorem dX7_init_0 : decode cX7_init 0 = .ok (.aload_n 0, 1) := by decide +kernel
theorem dX7_init_1 : decode cX7_init 1 = .ok (.invokespecial 1, 3) := by decide +kernel
theorem dX7_init_4 : decode cX7_init 4 = .ok (.aload_n 0, 1) := by decide +kernel
theorem dX7_init_5 : decode cX7_init 5 = .ok (.bipush 24, 2) := by decide +kernel
theorem dX7_init_7 : decode cX7_init 7 = .ok (.newarray .int, 2) := by decide +kernel
theorem dX7_init_9 : decode cX7_init 9 = .ok (.putfield 9, 3) := by decide +kernel
theorem dX7_init_12 : decode cX7_init 12 = .ok (.aload_n 0, 1) := by decide +kernel
theorem dX7_init_13 : decode cX7_init 13 = .ok (.iconst 1, 1) := by decide +kernel
theorem dX7_init_14 : decode cX7_init 14 = .ok (.putfield 13, 3) := by decide +kernel
theorem dX7_init_17 : decode cX7_init 17 = .ok (.aload_n 0, 1) := by decide +kernel
theorem dX7_init_18 : decode cX7_init 18 = .ok (.iconst 1, 1) := by decide +kernel
theorem dX7_init_19 : decode cX7_init 19 = .ok (.putfield 17, 3) := by decide +kernel
theorem dX7_init_22 : decode cX7_init 22 = .ok (.aload_n 0, 1) := by decide +kernel
theorem dX7_init_23 : decode cX7_init 23 = .ok (.iconst 2, 1) := by decide +kernel
theorem dX7_init_24 : decode cX7_init 24 = .ok (.bipush 96, 2) := by decide +kernel
theorem dX7_init_26 : decode cX7_init 26 = .ok (.multianewarray 20 2, 4) := by decide +kernel
theorem dX7_init_30 : decode cX7_init 30 = .ok (.putfield 22, 3) := by decide +kernel
theorem dX7_init_33 : decode cX7_init 33 = .ok (.return_, 1) := by decide +kernel
theorem dX7_beginPattern_0 : decode cX7_beginPattern 0 = .ok (.aload_n 0, 1) := by decide +kernel
theorem dX7_beginPattern_1 : decode cX7_beginPattern 1 = .ok (.iload_n 1, 1) := by decide +kernel
theorem dX7_beginPattern_2 : decode cX7_beginPattern 2 = .ok (.putfield 13, 3) := by decide +kernel
theorem dX7_beginPattern_5 : decode cX7_beginPattern 5 = .ok (.aload_n 0, 1) := by decide +kernel
theorem dX7_beginPattern_6 : decode cX7_beginPattern 6 = .ok (.iload_n 2, 1) := by decide +kernel
theorem dX7_beginPattern_7 : decode cX7_beginPattern 7 = .ok (.putfield 17, 3) := by decide +kernel
theorem dX7_beginPattern_10 : decode cX7_beginPattern 10 = .ok (.aload_n 0, 1) := by decide +kernel
theorem dX7_beginPattern_11 : decode cX7_beginPattern 11 = .ok (.getfield 9, 3) := by decide +kernel
theorem dX7_beginPattern_14 : decode cX7_beginPattern 14 = .ok (.iconst 0, 1) := by decide +kernel
theorem dX7_beginPattern_15 : decode cX7_beginPattern 15 = .ok (.invokestatic 25, 3) := by decide +kernel
theorem dX7_beginPattern_18 : decode cX7_beginPattern 18 = .ok (.return_, 1) := by decide +kernel
theorem dX7_setHeat_0 : decode cX7_setHeat 0 = .ok (.iload_n 2, 1) := by decide +kernel
theorem dX7_setHeat_1 : decode cX7_setHeat 1 = .ok (.bipush 6, 2) := by decide +kernel
theorem dX7_setHeat_3 : decode cX7_setHeat 3 = .ok (.imul, 1) := by decide +kernel
theorem dX7_setHeat_4 : decode cX7_setHeat 4 = .ok (.iload_n 1, 1) := by decide +kernel
theorem dX7_setHeat_5 : decode cX7_setHeat 5 = .ok (.iadd, 1) := by decide +kernel
theorem dX7_setHeat_6 : decode cX7_setHeat 6 = .ok (.istore 4, 2) := by decide +kernel
theorem dX7_setHeat_8 : decode cX7_setHeat 8 = .ok (.aload_n 0, 1) := by decide +kernel
theorem dX7_setHeat_9 : decode cX7_setHeat 9 = .ok (.getfield 9, 3) := by decide +kernel
theorem dX7_setHeat_12 : decode cX7_setHeat 12 = .ok (.iload 4, 2) := by decide +kernel
theorem dX7_setHeat_14 : decode cX7_setHeat 14 = .ok (.iaload, 1) := by decide +kernel
theorem dX7_setHeat_15 : decode cX7_setHeat 15 = .ok (.iload_n 3, 1) := by decide +kernel
theorem dX7_setHeat_16 : decode cX7_setHeat 16 = .ok (.if_icmp .eq 7, 3) := by decide +kernel
theorem dX7_setHeat_19 : decode cX7_setHeat 19 = .ok (.iconst 1, 1) := by decide +kernel
theorem dX7_setHeat_20 : decode cX7_setHeat 20 = .ok (.goto 4, 3) := by decide +kernel
theorem dX7_setHeat_23 : decode cX7_setHeat 23 = .ok (.iconst 0, 1) := by decide +kernel
theorem dX7_setHeat_24 : decode cX7_setHeat 24 = .ok (.istore 5, 2) := by decide +kernel
theorem dX7_setHeat_26 : decode cX7_setHeat 26 = .ok (.aload_n 0, 1) := by decide +kernel
theorem dX7_setHeat_27 : decode cX7_setHeat 27 = .ok (.getfield 9, 3) := by decide +kernel
theorem dX7_setHeat_30 : decode cX7_setHeat 30 = .ok (.iload 4, 2) := by decide +kernel
theorem dX7_setHeat_32 : decode cX7_setHeat 32 = .ok (.iload_n 3, 1) := by decide +kernel
theorem dX7_setHeat_33 : decode cX7_setHeat 33 = .ok (.iastore, 1) := by decide +kernel
theorem dX7_setHeat_34 : decode cX7_setHeat 34 = .ok (.iload 5, 2) := by decide +kernel
theorem dX7_setHeat_36 : decode cX7_setHeat 36 = .ok (.ireturn, 1) := by decide +kernel
theorem dX7_burnOne_0 : decode cX7_burnOne 0 = .ok (.aload_n 0, 1) := by decide +kernel
theorem dX7_burnOne_1 : decode cX7_burnOne 1 = .ok (.getfield 22, 3) := by decide +kernel
theorem dX7_burnOne_4 : decode cX7_burnOne 4 = .ok (.iload_n 1, 1) := by decide +kernel
theorem dX7_burnOne_5 : decode cX7_burnOne 5 = .ok (.aaload, 1) := by decide +kernel
theorem dX7_burnOne_6 : decode cX7_burnOne 6 = .ok (.astore 4, 2) := by decide +kernel
theorem dX7_burnOne_8 : decode cX7_burnOne 8 = .ok (.iconst 0, 1) := by decide +kernel
theorem dX7_burnOne_9 : decode cX7_burnOne 9 = .ok (.istore 5, 2) := by decide +kernel
theorem dX7_burnOne_11 : decode cX7_burnOne 11 = .ok (.iload 5, 2) := by decide +kernel
theorem dX7_burnOne_13 : decode cX7_burnOne 13 = .ok (.bipush 8, 2) := by decide +kernel
theorem dX7_burnOne_15 : decode cX7_burnOne 15 = .ok (.if_icmp .ge 63, 3) := by decide +kernel
theorem dX7_burnOne_18 : decode cX7_burnOne 18 = .ok (.iconst 0, 1) := by decide +kernel
theorem dX7_burnOne_19 : decode cX7_burnOne 19 = .ok (.istore 6, 2) := by decide +kernel
theorem dX7_burnOne_21 : decode cX7_burnOne 21 = .ok (.iload 6, 2) := by decide +kernel
theorem dX7_burnOne_23 : decode cX7_burnOne 23 = .ok (.bipush 12, 2) := by decide +kernel
theorem dX7_burnOne_25 : decode cX7_burnOne 25 = .ok (.if_icmp .ge 47, 3) := by decide +kernel
theorem dX7_burnOne_28 : decode cX7_burnOne 28 = .ok (.iload 5, 2) := by decide +kernel
theorem dX7_burnOne_30 : decode cX7_burnOne 30 = .ok (.bipush 12, 2) := by decide +kernel
theorem dX7_burnOne_32 : decode cX7_burnOne 32 = .ok (.imul, 1) := by decide +kernel
theorem dX7_burnOne_33 : decode cX7_burnOne 33 = .ok (.iload 6, 2) := by decide +kernel
theorem dX7_burnOne_35 : decode cX7_burnOne 35 = .ok (.iadd, 1) := by decide +kernel
theorem dX7_burnOne_36 : decode cX7_burnOne 36 = .ok (.istore 7, 2) := by decide +kernel
theorem dX7_burnOne_38 : decode cX7_burnOne 38 = .ok (.aload 4, 2) := by decide +kernel
theorem dX7_burnOne_40 : decode cX7_burnOne 40 = .ok (.iload 7, 2) := by decide +kernel
theorem dX7_burnOne_42 : decode cX7_burnOne 42 = .ok (.bipush 99, 2) := by decide +kernel
theorem dX7_burnOne_44 : decode cX7_burnOne 44 = .ok (.aload 4, 2) := by decide +kernel
theorem dX7_burnOne_46 : decode cX7_burnOne 46 = .ok (.iload 7, 2) := by decide +kernel
theorem dX7_burnOne_48 : decode cX7_burnOne 48 = .ok (.iaload, 1) := by decide +kernel
theorem dX7_burnOne_49 : decode cX7_burnOne 49 = .ok (.aload_n 0, 1) := by decide +kernel
theorem dX7_burnOne_50 : decode cX7_burnOne 50 = .ok (.iload 6, 2) := by decide +kernel
theorem dX7_burnOne_52 : decode cX7_burnOne 52 = .ok (.iload_n 2, 1) := by decide +kernel
theorem dX7_burnOne_53 : decode cX7_burnOne 53 = .ok (.isub, 1) := by decide +kernel
theorem dX7_burnOne_54 : decode cX7_burnOne 54 = .ok (.iload 5, 2) := by decide +kernel
theorem dX7_burnOne_56 : decode cX7_burnOne 56 = .ok (.iload_n 3, 1) := by decide +kernel
theorem dX7_burnOne_57 : decode cX7_burnOne 57 = .ok (.isub, 1) := by decide +kernel
theorem dX7_burnOne_58 : decode cX7_burnOne 58 = .ok (.invokevirtual 31, 3) := by decide +kernel
theorem dX7_burnOne_61 : decode cX7_burnOne 61 = .ok (.iadd, 1) := by decide +kernel
theorem dX7_burnOne_62 : decode cX7_burnOne 62 = .ok (.invokestatic 35, 3) := by decide +kernel
theorem dX7_burnOne_65 : decode cX7_burnOne 65 = .ok (.iastore, 1) := by decide +kernel
theorem dX7_burnOne_66 : decode cX7_burnOne 66 = .ok (.iinc 6 1, 3) := by decide +kernel
theorem dX7_burnOne_69 : decode cX7_burnOne 69 = .ok (.goto (-48), 3) := by decide +kernel
theorem dX7_burnOne_72 : decode cX7_burnOne 72 = .ok (.iinc 5 1, 3) := by decide +kernel
theorem dX7_burnOne_75 : decode cX7_burnOne 75 = .ok (.goto (-64), 3) := by decide +kernel
theorem dX7_burnOne_78 : decode cX7_burnOne 78 = .ok (.return_, 1) := by decide +kernel
theorem dX7_heatAt_0 : decode cX7_heatAt 0 = .ok (.aload_n 0, 1) := by decide +kernel
theorem dX7_heatAt_1 : decode cX7_heatAt 1 = .ok (.getfield 13, 3) := by decide +kernel
theorem dX7_heatAt_4 : decode cX7_heatAt 4 = .ok (.ifCond .le 10, 3) := by decide +kernel
theorem dX7_heatAt_7 : decode cX7_heatAt 7 = .ok (.aload_n 0, 1) := by decide +kernel
theorem dX7_heatAt_8 : decode cX7_heatAt 8 = .ok (.getfield 17, 3) := by decide +kernel
theorem dX7_heatAt_11 : decode cX7_heatAt 11 = .ok (.ifCond .gt 5, 3) := by decide +kernel
theorem dX7_heatAt_14 : decode cX7_heatAt 14 = .ok (.iconst 0, 1) := by decide +kernel
theorem dX7_heatAt_15 : decode cX7_heatAt 15 = .ok (.ireturn, 1) := by decide +kernel
theorem dX7_heatAt_16 : decode cX7_heatAt 16 = .ok (.aload_n 0, 1) := by decide +kernel
theorem dX7_heatAt_17 : decode cX7_heatAt 17 = .ok (.getfield 9, 3) := by decide +kernel
theorem dX7_heatAt_20 : decode cX7_heatAt 20 = .ok (.iload_n 2, 1) := by decide +kernel
theorem dX7_heatAt_21 : decode cX7_heatAt 21 = .ok (.aload_n 0, 1) := by decide +kernel
theorem dX7_heatAt_22 : decode cX7_heatAt 22 = .ok (.getfield 17, 3) := by decide +kernel
theorem dX7_heatAt_25 : decode cX7_heatAt 25 = .ok (.invokestatic 40, 3) := by decide +kernel
theorem dX7_heatAt_28 : decode cX7_heatAt 28 = .ok (.bipush 6, 2) := by decide +kernel
theorem dX7_heatAt_30 : decode cX7_heatAt 30 = .ok (.imul, 1) := by decide +kernel
theorem dX7_heatAt_31 : decode cX7_heatAt 31 = .ok (.iload_n 1, 1) := by decide +kernel
theorem dX7_heatAt_32 : decode cX7_heatAt 32 = .ok (.aload_n 0, 1) := by decide +kernel
theorem dX7_heatAt_33 : decode cX7_heatAt 33 = .ok (.getfield 13, 3) := by decide +kernel
theorem dX7_heatAt_36 : decode cX7_heatAt 36 = .ok (.invokestatic 40, 3) := by decide +kernel
theorem dX7_heatAt_39 : decode cX7_heatAt 39 = .ok (.iadd, 1) := by decide +kernel
theorem dX7_heatAt_40 : decode cX7_heatAt 40 = .ok (.iaload, 1) := by decide +kernel
theorem dX7_heatAt_41 : decode cX7_heatAt 41 = .ok (.ireturn, 1) := by decide +kernel
theorem dX7_unlike_0 : decode cX7_unlike 0 = .ok (.iconst 0, 1) := by decide +kernel
theorem dX7_unlike_1 : decode cX7_unlike 1 = .ok (.istore_n 2, 1) := by decide +kernel
theorem dX7_unlike_2 : decode cX7_unlike 2 = .ok (.iconst 0, 1) := by decide +kernel
theorem dX7_unlike_3 : decode cX7_unlike 3 = .ok (.istore_n 3, 1) := by decide +kernel
theorem dX7_unlike_4 : decode cX7_unlike 4 = .ok (.iload_n 3, 1) := by decide +kernel
theorem dX7_unlike_5 : decode cX7_unlike 5 = .ok (.bipush 8, 2) := by decide +kernel
theorem dX7_unlike_7 : decode cX7_unlike 7 = .ok (.if_icmp .ge 55, 3) := by decide +kernel
theorem dX7_unlike_10 : decode cX7_unlike 10 = .ok (.aload_n 0, 1) := by decide +kernel
theorem dX7_unlike_11 : decode cX7_unlike 11 = .ok (.getfield 22, 3) := by decide +kernel
theorem dX7_unlike_14 : decode cX7_unlike 14 = .ok (.iconst 0, 1) := by decide +kernel
theorem dX7_unlike_15 : decode cX7_unlike 15 = .ok (.aaload, 1) := by decide +kernel
theorem dX7_unlike_16 : decode cX7_unlike 16 = .ok (.iload_n 3, 1) := by decide +kernel
theorem dX7_unlike_17 : decode cX7_unlike 17 = .ok (.bipush 12, 2) := by decide +kernel
theorem dX7_unlike_19 : decode cX7_unlike 19 = .ok (.imul, 1) := by decide +kernel
theorem dX7_unlike_20 : decode cX7_unlike 20 = .ok (.bipush 12, 2) := by decide +kernel
theorem dX7_unlike_22 : decode cX7_unlike 22 = .ok (.iadd, 1) := by decide +kernel
theorem dX7_unlike_23 : decode cX7_unlike 23 = .ok (.iconst 1, 1) := by decide +kernel
theorem dX7_unlike_24 : decode cX7_unlike 24 = .ok (.isub, 1) := by decide +kernel
theorem dX7_unlike_25 : decode cX7_unlike 25 = .ok (.iaload, 1) := by decide +kernel
theorem dX7_unlike_26 : decode cX7_unlike 26 = .ok (.istore 4, 2) := by decide +kernel
theorem dX7_unlike_28 : decode cX7_unlike 28 = .ok (.aload_n 0, 1) := by decide +kernel
theorem dX7_unlike_29 : decode cX7_unlike 29 = .ok (.getfield 22, 3) := by decide +kernel
theorem dX7_unlike_32 : decode cX7_unlike 32 = .ok (.iconst 1, 1) := by decide +kernel
theorem dX7_unlike_33 : decode cX7_unlike 33 = .ok (.aaload, 1) := by decide +kernel
theorem dX7_unlike_34 : decode cX7_unlike 34 = .ok (.iload_n 3, 1) := by decide +kernel
theorem dX7_unlike_35 : decode cX7_unlike 35 = .ok (.iload_n 1, 1) := by decide +kernel
theorem dX7_unlike_36 : decode cX7_unlike 36 = .ok (.iadd, 1) := by decide +kernel
theorem dX7_unlike_37 : decode cX7_unlike 37 = .ok (.bipush 8, 2) := by decide +kernel
theorem dX7_unlike_39 : decode cX7_unlike 39 = .ok (.irem, 1) := by decide +kernel
theorem dX7_unlike_40 : decode cX7_unlike 40 = .ok (.bipush 12, 2) := by decide +kernel
theorem dX7_unlike_42 : decode cX7_unlike 42 = .ok (.imul, 1) := by decide +kernel
theorem dX7_unlike_43 : decode cX7_unlike 43 = .ok (.iaload, 1) := by decide +kernel
theorem dX7_unlike_44 : decode cX7_unlike 44 = .ok (.istore 5, 2) := by decide +kernel
theorem dX7_unlike_46 : decode cX7_unlike 46 = .ok (.iload 4, 2) := by decide +kernel
theorem dX7_unlike_48 : decode cX7_unlike 48 = .ok (.iload 5, 2) := by decide +kernel
theorem dX7_unlike_50 : decode cX7_unlike 50 = .ok (.if_icmp .eq 6, 3) := by decide +kernel
theorem dX7_unlike_53 : decode cX7_unlike 53 = .ok (.iinc 2 1, 3) := by decide +kernel
theorem dX7_unlike_56 : decode cX7_unlike 56 = .ok (.iinc 3 1, 3) := by decide +kernel
theorem dX7_unlike_59 : decode cX7_unlike 59 = .ok (.goto (-55), 3) := by decide +kernel
theorem dX7_unlike_62 : decode cX7_unlike 62 = .ok (.iload_n 2, 1) := by decide +kernel
theorem dX7_unlike_63 : decode cX7_unlike 63 = .ok (.ireturn, 1) := by decide +kernel
theorem dX7_bestTurn_0 : decode cX7_bestTurn 0 = .ok (.iconst 0, 1) := by decide +kernel
theorem dX7_bestTurn_1 : decode cX7_bestTurn 1 = .ok (.istore_n 1, 1) := by decide +kernel
theorem dX7_bestTurn_2 : decode cX7_bestTurn 2 = .ok (.iconst 1, 1) := by decide +kernel
theorem dX7_bestTurn_3 : decode cX7_bestTurn 3 = .ok (.istore_n 2, 1) := by decide +kernel
theorem dX7_bestTurn_4 : decode cX7_bestTurn 4 = .ok (.iload_n 2, 1) := by decide +kernel
theorem dX7_bestTurn_5 : decode cX7_bestTurn 5 = .ok (.bipush 8, 2) := by decide +kernel
theorem dX7_bestTurn_7 : decode cX7_bestTurn 7 = .ok (.if_icmp .ge 24, 3) := by decide +kernel
theorem dX7_bestTurn_10 : decode cX7_bestTurn 10 = .ok (.aload_n 0, 1) := by decide +kernel
theorem dX7_bestTurn_11 : decode cX7_bestTurn 11 = .ok (.iload_n 2, 1) := by decide +kernel
theorem dX7_bestTurn_12 : decode cX7_bestTurn 12 = .ok (.invokevirtual 43, 3) := by decide +kernel
theorem dX7_bestTurn_15 : decode cX7_bestTurn 15 = .ok (.aload_n 0, 1) := by decide +kernel
theorem dX7_bestTurn_16 : decode cX7_bestTurn 16 = .ok (.iload_n 1, 1) := by decide +kernel
theorem dX7_bestTurn_17 : decode cX7_bestTurn 17 = .ok (.invokevirtual 43, 3) := by decide +kernel
theorem dX7_bestTurn_20 : decode cX7_bestTurn 20 = .ok (.if_icmp .ge 5, 3) := by decide +kernel
theorem dX7_bestTurn_23 : decode cX7_bestTurn 23 = .ok (.iload_n 2, 1) := by decide +kernel
theorem dX7_bestTurn_24 : decode cX7_bestTurn 24 = .ok (.istore_n 1, 1) := by decide +kernel
theorem dX7_bestTurn_25 : decode cX7_bestTurn 25 = .ok (.iinc 2 1, 3) := by decide +kernel
theorem dX7_bestTurn_28 : decode cX7_bestTurn 28 = .ok (.goto (-24), 3) := by decide +kernel
theorem dX7_bestTurn_31 : decode cX7_bestTurn 31 = .ok (.iload_n 1, 1) := by decide +kernel
theorem dX7_bestTurn_32 : decode cX7_bestTurn 32 = .ok (.ireturn, 1) := by decide +kernel
theorem dX8_init_0 : decode cX8_init 0 = .ok (.aload_n 0, 1) := by decide +kernel
theorem dX8_init_1 : decode cX8_init 1 = .ok (.invokespecial 3, 3) := by decide +kernel
theorem dX8_init_4 : decode cX8_init 4 = .ok (.iconst 0, 1) := by decide +kernel
theorem dX8_init_5 : decode cX8_init 5 = .ok (.iload_n 1, 1) := by decide +kernel
theorem dX8_init_6 : decode cX8_init 6 = .ok (.invokestatic 9, 3) := by decide +kernel
theorem dX8_init_9 : decode cX8_init 9 = .ok (.istore_n 2, 1) := by decide +kernel
theorem dX8_init_10 : decode cX8_init 10 = .ok (.aload_n 0, 1) := by decide +kernel
theorem dX8_init_11 : decode cX8_init 11 = .ok (.iload_n 2, 1) := by decide +kernel
theorem dX8_init_12 : decode cX8_init 12 = .ok (.newarray .int, 2) := by decide +kernel
theorem dX8_init_14 : decode cX8_init 14 = .ok (.putfield 15, 3) := by decide +kernel
theorem dX8_init_17 : decode cX8_init 17 = .ok (.aload_n 0, 1) := by decide +kernel
theorem dX8_init_18 : decode cX8_init 18 = .ok (.iload_n 2, 1) := by decide +kernel
theorem dX8_init_19 : decode cX8_init 19 = .ok (.newarray .int, 2) := by decide +kernel
theorem dX8_init_21 : decode cX8_init 21 = .ok (.putfield 21, 3) := by decide +kernel
theorem dX8_init_24 : decode cX8_init 24 = .ok (.return_, 1) := by decide +kernel
theorem dX8_read_0 : decode cX8_read 0 = .ok (.aload_n 0, 1) := by decide +kernel
theorem dX8_read_1 : decode cX8_read 1 = .ok (.iconst 0, 1) := by decide +kernel
theorem dX8_read_2 : decode cX8_read 2 = .ok (.putfield 24, 3) := by decide +kernel
theorem dX8_read_5 : decode cX8_read 5 = .ok (.aload_n 1, 1) := by decide +kernel
theorem dX8_read_6 : decode cX8_read 6 = .ok (.invokevirtual 28, 3) := by decide +kernel
theorem dX8_read_9 : decode cX8_read 9 = .ok (.ifCond .ne 7, 3) := by decide +kernel
theorem dX8_read_12 : decode cX8_read 12 = .ok (.iconst 1, 1) := by decide +kernel
theorem dX8_read_13 : decode cX8_read 13 = .ok (.goto 4, 3) := by decide +kernel
theorem dX8_read_16 : decode cX8_read 16 = .ok (.iconst 0, 1) := by decide +kernel
theorem dX8_read_17 : decode cX8_read 17 = .ok (.istore_n 2, 1) := by decide +kernel
theorem dX8_read_18 : decode cX8_read 18 = .ok (.iconst 0, 1) := by decide +kernel
theorem dX8_read_19 : decode cX8_read 19 = .ok (.istore_n 3, 1) := by decide +kernel
theorem dX8_read_20 : decode cX8_read 20 = .ok (.iload_n 3, 1) := by decide +kernel
theorem dX8_read_21 : decode cX8_read 21 = .ok (.bipush 20, 2) := by decide +kernel
theorem dX8_read_23 : decode cX8_read 23 = .ok (.if_icmp .gt 23, 3) := by decide +kernel
theorem dX8_read_26 : decode cX8_read 26 = .ok (.iload_n 2, 1) := by decide +kernel
theorem dX8_read_27 : decode cX8_read 27 = .ok (.ifCond .eq 19, 3) := by decide +kernel
theorem dX8_read_30 : decode cX8_read 30 = .ok (.aload_n 0, 1) := by decide +kernel
theorem dX8_read_31 : decode cX8_read 31 = .ok (.aload_n 1, 1) := by decide +kernel
theorem dX8_read_32 : decode cX8_read 32 = .ok (.invokevirtual 34, 3) := by decide +kernel
theorem dX8_read_35 : decode cX8_read 35 = .ok (.aload_n 1, 1) := by decide +kernel
theorem dX8_read_36 : decode cX8_read 36 = .ok (.invokevirtual 38, 3) := by decide +kernel
theorem dX8_read_39 : decode cX8_read 39 = .ok (.istore_n 2, 1) := by decide +kernel
theorem dX8_read_40 : decode cX8_read 40 = .ok (.iinc 3 1, 3) := by decide +kernel
theorem dX8_read_43 : decode cX8_read 43 = .ok (.goto (-23), 3) := by decide +kernel
theorem dX8_read_46 : decode cX8_read 46 = .ok (.return_, 1) := by decide +kernel
theorem dX8_readBath_0 : decode cX8_readBath 0 = .ok (.aload_n 0, 1) := by decide +kernel
theorem dX8_readBath_1 : decode cX8_readBath 1 = .ok (.getfield 24, 3) := by decide +kernel
theorem dX8_readBath_4 : decode cX8_readBath 4 = .ok (.aload_n 0, 1) := by decide +kernel
theorem dX8_readBath_5 : decode cX8_readBath 5 = .ok (.getfield 15, 3) := by decide +kernel
theorem dX8_readBath_8 : decode cX8_readBath 8 = .ok (.arraylength, 1) := by decide +kernel
theorem dX8_readBath_9 : decode cX8_readBath 9 = .ok (.if_icmp .lt 8, 3) := by decide +kernel
theorem dX8_readBath_12 : decode cX8_readBath 12 = .ok (.aload_n 1, 1) := by decide +kernel
theorem dX8_readBath_13 : decode cX8_readBath 13 = .ok (.invokevirtual 41, 3) := by decide +kernel
theorem dX8_readBath_16 : decode cX8_readBath 16 = .ok (.return_, 1) := by decide +kernel
theorem dX8_readBath_17 : decode cX8_readBath 17 = .ok (.aload_n 1, 1) := by decide +kernel
theorem dX8_readBath_18 : decode cX8_readBath 18 = .ok (.ldc 44, 2) := by decide +kernel
theorem dX8_readBath_20 : decode cX8_readBath 20 = .ok (.invokevirtual 46, 3) := by decide +kernel
theorem dX8_readBath_23 : decode cX8_readBath 23 = .ok (.istore_n 2, 1) := by decide +kernel
theorem dX8_readBath_24 : decode cX8_readBath 24 = .ok (.iload_n 2, 1) := by decide +kernel
theorem dX8_readBath_25 : decode cX8_readBath 25 = .ok (.iconst 3, 1) := by decide +kernel
theorem dX8_readBath_26 : decode cX8_readBath 26 = .ok (.if_icmp .ne 7, 3) := by decide +kernel
theorem dX8_readBath_29 : decode cX8_readBath 29 = .ok (.iconst 1, 1) := by decide +kernel
theorem dX8_readBath_30 : decode cX8_readBath 30 = .ok (.goto 11, 3) := by decide +kernel
theorem dX8_readBath_33 : decode cX8_readBath 33 = .ok (.aload_n 1, 1) := by decide +kernel
theorem dX8_readBath_34 : decode cX8_readBath 34 = .ok (.iconst 2, 1) := by decide +kernel
theorem dX8_readBath_35 : decode cX8_readBath 35 = .ok (.iconst 1, 1) := by decide +kernel
theorem dX8_readBath_36 : decode cX8_readBath 36 = .ok (.bipush 20, 2) := by decide +kernel
theorem dX8_readBath_38 : decode cX8_readBath 38 = .ok (.invokevirtual 50, 3) := by decide +kernel
theorem dX8_readBath_41 : decode cX8_readBath 41 = .ok (.istore_n 3, 1) := by decide +kernel
theorem dX8_readBath_42 : decode cX8_readBath 42 = .ok (.aload_n 1, 1) := by decide +kernel
theorem dX8_readBath_43 : decode cX8_readBath 43 = .ok (.getfield 54, 3) := by decide +kernel
theorem dX8_readBath_46 : decode cX8_readBath 46 = .ok (.iconst (-1), 1) := by decide +kernel
theorem dX8_readBath_47 : decode cX8_readBath 47 = .ok (.if_icmp .ne 9, 3) := by decide +kernel
theorem dX8_readBath_50 : decode cX8_readBath 50 = .ok (.aload_n 0, 1) := by decide +kernel
theorem dX8_readBath_51 : decode cX8_readBath 51 = .ok (.iload_n 2, 1) := by decide +kernel
theorem dX8_readBath_52 : decode cX8_readBath 52 = .ok (.iload_n 3, 1) := by decide +kernel
theorem dX8_readBath_53 : decode cX8_readBath 53 = .ok (.invokevirtual 57, 3) := by decide +kernel
theorem dX8_readBath_56 : decode cX8_readBath 56 = .ok (.return_, 1) := by decide +kernel
theorem dX8_add_0 : decode cX8_add 0 = .ok (.aload_n 0, 1) := by decide +kernel
theorem dX8_add_1 : decode cX8_add 1 = .ok (.getfield 24, 3) := by decide +kernel
theorem dX8_add_4 : decode cX8_add 4 = .ok (.aload_n 0, 1) := by decide +kernel
theorem dX8_add_5 : decode cX8_add 5 = .ok (.getfield 15, 3) := by decide +kernel
theorem dX8_add_8 : decode cX8_add 8 = .ok (.arraylength, 1) := by decide +kernel
theorem dX8_add_9 : decode cX8_add 9 = .ok (.if_icmp .ge 33, 3) := by decide +kernel
theorem dX8_add_12 : decode cX8_add 12 = .ok (.aload_n 0, 1) := by decide +kernel
theorem dX8_add_13 : decode cX8_add 13 = .ok (.getfield 15, 3) := by decide +kernel
theorem dX8_add_16 : decode cX8_add 16 = .ok (.aload_n 0, 1) := by decide +kernel
theorem dX8_add_17 : decode cX8_add 17 = .ok (.getfield 24, 3) := by decide +kernel
theorem dX8_add_20 : decode cX8_add 20 = .ok (.iload_n 1, 1) := by decide +kernel
theorem dX8_add_21 : decode cX8_add 21 = .ok (.iastore, 1) := by decide +kernel
theorem dX8_add_22 : decode cX8_add 22 = .ok (.aload_n 0, 1) := by decide +kernel
theorem dX8_add_23 : decode cX8_add 23 = .ok (.getfield 21, 3) := by decide +kernel
theorem dX8_add_26 : decode cX8_add 26 = .ok (.aload_n 0, 1) := by decide +kernel
theorem dX8_add_27 : decode cX8_add 27 = .ok (.getfield 24, 3) := by decide +kernel
theorem dX8_add_30 : decode cX8_add 30 = .ok (.iload_n 2, 1) := by decide +kernel
theorem dX8_add_31 : decode cX8_add 31 = .ok (.iastore, 1) := by decide +kernel
theorem dX8_add_32 : decode cX8_add 32 = .ok (.aload_n 0, 1) := by decide +kernel
theorem dX8_add_33 : decode cX8_add 33 = .ok (.dup, 1) := by decide +kernel
theorem dX8_add_34 : decode cX8_add 34 = .ok (.getfield 24, 3) := by decide +kernel
theorem dX8_add_37 : decode cX8_add 37 = .ok (.iconst 1, 1) := by decide +kernel
theorem dX8_add_38 : decode cX8_add 38 = .ok (.iadd, 1) := by decide +kernel
theorem dX8_add_39 : decode cX8_add 39 = .ok (.putfield 24, 3) := by decide +kernel
theorem dX8_add_42 : decode cX8_add 42 = .ok (.return_, 1) := by decide +kernel
theorem dX8_setOnly_0 : decode cX8_setOnly 0 = .ok (.aload_n 0, 1) := by decide +kernel
theorem dX8_setOnly_1 : decode cX8_setOnly 1 = .ok (.iconst 0, 1) := by decide +kernel
theorem dX8_setOnly_2 : decode cX8_setOnly 2 = .ok (.putfield 24, 3) := by decide +kernel
theorem dX8_setOnly_5 : decode cX8_setOnly 5 = .ok (.aload_n 0, 1) := by decide +kernel
theorem dX8_setOnly_6 : decode cX8_setOnly 6 = .ok (.iload_n 1, 1) := by decide +kernel
theorem dX8_setOnly_7 : decode cX8_setOnly 7 = .ok (.iload_n 2, 1) := by decide +kernel
theorem dX8_setOnly_8 : decode cX8_setOnly 8 = .ok (.invokevirtual 57, 3) := by decide +kernel
theorem dX8_setOnly_11 : decode cX8_setOnly 11 = .ok (.return_, 1) := by decide +kernel
theorem dX8_copy_0 : decode cX8_copy 0 = .ok (.aload_n 0, 1) := by decide +kernel
theorem dX8_copy_1 : decode cX8_copy 1 = .ok (.iconst 0, 1) := by decide +kernel
theorem dX8_copy_2 : decode cX8_copy 2 = .ok (.putfield 24, 3) := by decide +kernel
theorem dX8_copy_5 : decode cX8_copy 5 = .ok (.iconst 0, 1) := by decide +kernel
theorem dX8_copy_6 : decode cX8_copy 6 = .ok (.istore_n 2, 1) := by decide +kernel
theorem dX8_copy_7 : decode cX8_copy 7 = .ok (.iload_n 2, 1) := by decide +kernel
theorem dX8_copy_8 : decode cX8_copy 8 = .ok (.aload_n 1, 1) := by decide +kernel
theorem dX8_copy_9 : decode cX8_copy 9 = .ok (.getfield 24, 3) := by decide +kernel
theorem dX8_copy_12 : decode cX8_copy 12 = .ok (.if_icmp .ge 25, 3) := by decide +kernel
theorem dX8_copy_15 : decode cX8_copy 15 = .ok (.aload_n 0, 1) := by decide +kernel
theorem dX8_copy_16 : decode cX8_copy 16 = .ok (.aload_n 1, 1) := by decide +kernel
theorem dX8_copy_17 : decode cX8_copy 17 = .ok (.getfield 15, 3) := by decide +kernel
theorem dX8_copy_20 : decode cX8_copy 20 = .ok (.iload_n 2, 1) := by decide +kernel
theorem dX8_copy_21 : decode cX8_copy 21 = .ok (.iaload, 1) := by decide +kernel
theorem dX8_copy_22 : decode cX8_copy 22 = .ok (.aload_n 1, 1) := by decide +kernel
theorem dX8_copy_23 : decode cX8_copy 23 = .ok (.getfield 21, 3) := by decide +kernel
theorem dX8_copy_26 : decode cX8_copy 26 = .ok (.iload_n 2, 1) := by decide +kernel
theorem dX8_copy_27 : decode cX8_copy 27 = .ok (.iaload, 1) := by decide +kernel
theorem dX8_copy_28 : decode cX8_copy 28 = .ok (.invokevirtual 57, 3) := by decide +kernel
theorem dX8_copy_31 : decode cX8_copy 31 = .ok (.iinc 2 1, 3) := by decide +kernel
theorem dX8_copy_34 : decode cX8_copy 34 = .ok (.goto (-27), 3) := by decide +kernel
theorem dX8_copy_37 : decode cX8_copy 37 = .ok (.return_, 1) := by decide +kernel
theorem dX8_bathAt_0 : decode cX8_bathAt 0 = .ok (.iload_n 1, 1) := by decide +kernel
theorem dX8_bathAt_1 : decode cX8_bathAt 1 = .ok (.ifCond .lt 20, 3) := by decide +kernel
theorem dX8_bathAt_4 : decode cX8_bathAt 4 = .ok (.iload_n 1, 1) := by decide +kernel
theorem dX8_bathAt_5 : decode cX8_bathAt 5 = .ok (.aload_n 0, 1) := by decide +kernel
theorem dX8_bathAt_6 : decode cX8_bathAt 6 = .ok (.getfield 24, 3) := by decide +kernel
theorem dX8_bathAt_9 : decode cX8_bathAt 9 = .ok (.if_icmp .ge 12, 3) := by decide +kernel
theorem dX8_bathAt_12 : decode cX8_bathAt 12 = .ok (.aload_n 0, 1) := by decide +kernel
theorem dX8_bathAt_13 : decode cX8_bathAt 13 = .ok (.getfield 15, 3) := by decide +kernel
theorem dX8_bathAt_16 : decode cX8_bathAt 16 = .ok (.iload_n 1, 1) := by decide +kernel
theorem dX8_bathAt_17 : decode cX8_bathAt 17 = .ok (.iaload, 1) := by decide +kernel
theorem dX8_bathAt_18 : decode cX8_bathAt 18 = .ok (.goto 4, 3) := by decide +kernel
theorem dX8_bathAt_21 : decode cX8_bathAt 21 = .ok (.iconst 3, 1) := by decide +kernel
theorem dX8_bathAt_22 : decode cX8_bathAt 22 = .ok (.ireturn, 1) := by decide +kernel
theorem dX8_amountAt_0 : decode cX8_amountAt 0 = .ok (.iload_n 1, 1) := by decide +kernel
theorem dX8_amountAt_1 : decode cX8_amountAt 1 = .ok (.ifCond .lt 20, 3) := by decide +kernel
theorem dX8_amountAt_4 : decode cX8_amountAt 4 = .ok (.iload_n 1, 1) := by decide +kernel
theorem dX8_amountAt_5 : decode cX8_amountAt 5 = .ok (.aload_n 0, 1) := by decide +kernel
theorem dX8_amountAt_6 : decode cX8_amountAt 6 = .ok (.getfield 24, 3) := by decide +kernel
theorem dX8_amountAt_9 : decode cX8_amountAt 9 = .ok (.if_icmp .ge 12, 3) := by decide +kernel
theorem dX8_amountAt_12 : decode cX8_amountAt 12 = .ok (.aload_n 0, 1) := by decide +kernel
theorem dX8_amountAt_13 : decode cX8_amountAt 13 = .ok (.getfield 21, 3) := by decide +kernel
theorem dX8_amountAt_16 : decode cX8_amountAt 16 = .ok (.iload_n 1, 1) := by decide +kernel
theorem dX8_amountAt_17 : decode cX8_amountAt 17 = .ok (.iaload, 1) := by decide +kernel
theorem dX8_amountAt_18 : decode cX8_amountAt 18 = .ok (.goto 4, 3) := by decide +kernel
theorem dX8_amountAt_21 : decode cX8_amountAt 21 = .ok (.iconst 1, 1) := by decide +kernel
theorem dX8_amountAt_22 : decode cX8_amountAt 22 = .ok (.ireturn, 1) := by decide +kernel
theorem dX8_price_0 : decode cX8_price 0 = .ok (.iconst 0, 1) := by decide +kernel
theorem dX8_price_1 : decode cX8_price 1 = .ok (.istore_n 1, 1) := by decide +kernel
theorem dX8_price_2 : decode cX8_price 2 = .ok (.iconst 0, 1) := by decide +kernel
theorem dX8_price_3 : decode cX8_price 3 = .ok (.istore_n 2, 1) := by decide +kernel
theorem dX8_price_4 : decode cX8_price 4 = .ok (.iload_n 2, 1) := by decide +kernel
theorem dX8_price_5 : decode cX8_price 5 = .ok (.aload_n 0, 1) := by decide +kernel
theorem dX8_price_6 : decode cX8_price 6 = .ok (.getfield 24, 3) := by decide +kernel
theorem dX8_price_9 : decode cX8_price 9 = .ok (.if_icmp .ge 27, 3) := by decide +kernel
theorem dX8_price_12 : decode cX8_price 12 = .ok (.iload_n 1, 1) := by decide +kernel
theorem dX8_price_13 : decode cX8_price 13 = .ok (.aload_n 0, 1) := by decide +kernel
theorem dX8_price_14 : decode cX8_price 14 = .ok (.getfield 15, 3) := by decide +kernel
theorem dX8_price_17 : decode cX8_price 17 = .ok (.iload_n 2, 1) := by decide +kernel
theorem dX8_price_18 : decode cX8_price 18 = .ok (.iaload, 1) := by decide +kernel
theorem dX8_price_19 : decode cX8_price 19 = .ok (.aload_n 0, 1) := by decide +kernel
theorem dX8_price_20 : decode cX8_price 20 = .ok (.getfield 21, 3) := by decide +kernel
theorem dX8_price_23 : decode cX8_price 23 = .ok (.iload_n 2, 1) := by decide +kernel
theorem dX8_price_24 : decode cX8_price 24 = .ok (.iaload, 1) := by decide +kernel
theorem dX8_price_25 : decode cX8_price 25 = .ok (.invokestatic 61, 3) := by decide +kernel
theorem dX8_price_28 : decode cX8_price 28 = .ok (.iadd, 1) := by decide +kernel
theorem dX8_price_29 : decode cX8_price 29 = .ok (.istore_n 1, 1) := by decide +kernel
theorem dX8_price_30 : decode cX8_price 30 = .ok (.iinc 2 1, 3) := by decide +kernel
theorem dX8_price_33 : decode cX8_price 33 = .ok (.goto (-29), 3) := by decide +kernel
theorem dX8_price_36 : decode cX8_price 36 = .ok (.iload_n 1, 1) := by decide +kernel
theorem dX8_price_37 : decode cX8_price 37 = .ok (.ireturn, 1) := by decide +kernel
theorem dX8_priceOf_0 : decode cX8_priceOf 0 = .ok (.iload_n 0, 1) := by decide +kernel
theorem dX8_priceOf_1 : decode cX8_priceOf 1 = .ok (.tableswitch 39 0 2 #[27, 29, 33], 27) := by decide +kernel
theorem dX8_priceOf_28 : decode cX8_priceOf 28 = .ok (.iload_n 1, 1) := by decide +kernel
theorem dX8_priceOf_29 : decode cX8_priceOf 29 = .ok (.ireturn, 1) := by decide +kernel
theorem dX8_priceOf_30 : decode cX8_priceOf 30 = .ok (.iconst 3, 1) := by decide +kernel
theorem dX8_priceOf_31 : decode cX8_priceOf 31 = .ok (.iload_n 1, 1) := by decide +kernel
theorem dX8_priceOf_32 : decode cX8_priceOf 32 = .ok (.imul, 1) := by decide +kernel
theorem dX8_priceOf_33 : decode cX8_priceOf 33 = .ok (.ireturn, 1) := by decide +kernel
theorem dX8_priceOf_34 : decode cX8_priceOf 34 = .ok (.iconst 2, 1) := by decide +kernel
theorem dX8_priceOf_35 : decode cX8_priceOf 35 = .ok (.iload_n 1, 1) := by decide +kernel
theorem dX8_priceOf_36 : decode cX8_priceOf 36 = .ok (.imul, 1) := by decide +kernel
theorem dX8_priceOf_37 : decode cX8_priceOf 37 = .ok (.iconst 1, 1) := by decide +kernel
theorem dX8_priceOf_38 : decode cX8_priceOf 38 = .ok (.iadd, 1) := by decide +kernel
theorem dX8_priceOf_39 : decode cX8_priceOf 39 = .ok (.ireturn, 1) := by decide +kernel
theorem dX8_priceOf_40 : decode cX8_priceOf 40 = .ok (.iconst 1, 1) := by decide +kernel
theorem dX8_priceOf_41 : decode cX8_priceOf 41 = .ok (.ireturn, 1) := by decide +kernel
theorem dX8_soil_0 : decode cX8_soil 0 = .ok (.iload_n 0, 1) := by decide +kernel
theorem dX8_soil_1 : decode cX8_soil 1 = .ok (.tableswitch 39 0 2 #[27, 29, 33], 27) := by decide +kernel
theorem dX8_soil_28 : decode cX8_soil 28 = .ok (.iload_n 1, 1) := by decide +kernel
theorem dX8_soil_29 : decode cX8_soil 29 = .ok (.ireturn, 1) := by decide +kernel
theorem dX8_soil_30 : decode cX8_soil 30 = .ok (.iconst 2, 1) := by decide +kernel
theorem dX8_soil_31 : decode cX8_soil 31 = .ok (.iload_n 1, 1) := by decide +kernel
theorem dX8_soil_32 : decode cX8_soil 32 = .ok (.imul, 1) := by decide +kernel
theorem dX8_soil_33 : decode cX8_soil 33 = .ok (.ireturn, 1) := by decide +kernel
theorem dX8_soil_34 : decode cX8_soil 34 = .ok (.iconst 3, 1) := by decide +kernel
theorem dX8_soil_35 : decode cX8_soil 35 = .ok (.iload_n 1, 1) := by decide +kernel
theorem dX8_soil_36 : decode cX8_soil 36 = .ok (.imul, 1) := by decide +kernel
theorem dX8_soil_37 : decode cX8_soil 37 = .ok (.iconst 5, 1) := by decide +kernel
theorem dX8_soil_38 : decode cX8_soil 38 = .ok (.iadd, 1) := by decide +kernel
theorem dX8_soil_39 : decode cX8_soil 39 = .ok (.ireturn, 1) := by decide +kernel
theorem dX8_soil_40 : decode cX8_soil 40 = .ok (.iconst 1, 1) := by decide +kernel
theorem dX8_soil_41 : decode cX8_soil 41 = .ok (.ireturn, 1) := by decide +kernel
theorem dX9_init_0 : decode cX9_init 0 = .ok (.aload_n 0, 1) := by decide +kernel
theorem dX9_init_1 : decode cX9_init 1 = .ok (.invokespecial 3, 3) := by decide +kernel
theorem dX9_init_4 : decode cX9_init 4 = .ok (.aload_n 0, 1) := by decide +kernel
theorem dX9_init_5 : decode cX9_init 5 = .ok (.bipush 7, 2) := by decide +kernel
theorem dX9_init_7 : decode cX9_init 7 = .ok (.anewarray 11, 3) := by decide +kernel
theorem dX9_init_10 : decode cX9_init 10 = .ok (.putfield 13, 3) := by decide +kernel
theorem dX9_init_13 : decode cX9_init 13 = .ok (.aload_n 0, 1) := by decide +kernel
theorem dX9_init_14 : decode cX9_init 14 = .ok (.bipush 6, 2) := by decide +kernel
theorem dX9_init_16 : decode cX9_init 16 = .ok (.newarray .int, 2) := by decide +kernel
theorem dX9_init_18 : decode cX9_init 18 = .ok (.putfield 17, 3) := by decide +kernel
theorem dX9_init_21 : decode cX9_init 21 = .ok (.aload_n 0, 1) := by decide +kernel
theorem dX9_init_22 : decode cX9_init 22 = .ok (.bipush 6, 2) := by decide +kernel
theorem dX9_init_24 : decode cX9_init 24 = .ok (.newarray .int, 2) := by decide +kernel
theorem dX9_init_26 : decode cX9_init 26 = .ok (.putfield 21, 3) := by decide +kernel
theorem dX9_init_29 : decode cX9_init 29 = .ok (.aload_n 0, 1) := by decide +kernel
theorem dX9_init_30 : decode cX9_init 30 = .ok (.iconst (-1), 1) := by decide +kernel
theorem dX9_init_31 : decode cX9_init 31 = .ok (.putfield 24, 3) := by decide +kernel
theorem dX9_init_34 : decode cX9_init 34 = .ok (.iconst 0, 1) := by decide +kernel
theorem dX9_init_35 : decode cX9_init 35 = .ok (.istore_n 1, 1) := by decide +kernel
theorem dX9_init_36 : decode cX9_init 36 = .ok (.iload_n 1, 1) := by decide +kernel
theorem dX9_init_37 : decode cX9_init 37 = .ok (.bipush 6, 2) := by decide +kernel
theorem dX9_init_39 : decode cX9_init 39 = .ok (.if_icmp .gt 22, 3) := by decide +kernel
theorem dX9_init_42 : decode cX9_init 42 = .ok (.aload_n 0, 1) := by decide +kernel
theorem dX9_init_43 : decode cX9_init 43 = .ok (.getfield 13, 3) := by decide +kernel
theorem dX9_init_46 : decode cX9_init 46 = .ok (.iload_n 1, 1) := by decide +kernel
theorem dX9_init_47 : decode cX9_init 47 = .ok (.new 11, 3) := by decide +kernel
theorem dX9_init_50 : decode cX9_init 50 = .ok (.dup, 1) := by decide +kernel
theorem dX9_init_51 : decode cX9_init 51 = .ok (.invokespecial 28, 3) := by decide +kernel
theorem dX9_init_54 : decode cX9_init 54 = .ok (.aastore, 1) := by decide +kernel
theorem dX9_init_55 : decode cX9_init 55 = .ok (.iinc 1 1, 3) := by decide +kernel
theorem dX9_init_58 : decode cX9_init 58 = .ok (.goto (-22), 3) := by decide +kernel
theorem dX9_init_61 : decode cX9_init 61 = .ok (.return_, 1) := by decide +kernel
theorem dX9_wishFor_0 : decode cX9_wishFor 0 = .ok (.aload_n 0, 1) := by decide +kernel
theorem dX9_wishFor_1 : decode cX9_wishFor 1 = .ok (.iload_n 1, 1) := by decide +kernel
theorem dX9_wishFor_2 : decode cX9_wishFor 2 = .ok (.putfield 29, 3) := by decide +kernel
theorem dX9_wishFor_5 : decode cX9_wishFor 5 = .ok (.aload_n 0, 1) := by decide +kernel
theorem dX9_wishFor_6 : decode cX9_wishFor 6 = .ok (.iload_n 2, 1) := by decide +kernel
theorem dX9_wishFor_7 : decode cX9_wishFor 7 = .ok (.putfield 32, 3) := by decide +kernel
theorem dX9_wishFor_10 : decode cX9_wishFor 10 = .ok (.aload_n 0, 1) := by decide +kernel
theorem dX9_wishFor_11 : decode cX9_wishFor 11 = .ok (.iload_n 3, 1) := by decide +kernel
theorem dX9_wishFor_12 : decode cX9_wishFor 12 = .ok (.putfield 35, 3) := by decide +kernel
theorem dX9_wishFor_15 : decode cX9_wishFor 15 = .ok (.return_, 1) := by decide +kernel
theorem dX9_run_0 : decode cX9_run 0 = .ok (.aload_n 0, 1) := by decide +kernel
theorem dX9_run_1 : decode cX9_run 1 = .ok (.iconst (-1), 1) := by decide +kernel
theorem dX9_run_2 : decode cX9_run 2 = .ok (.putfield 24, 3) := by decide +kernel
theorem dX9_run_5 : decode cX9_run 5 = .ok (.aload_n 0, 1) := by decide +kernel
theorem dX9_run_6 : decode cX9_run 6 = .ok (.iconst 0, 1) := by decide +kernel
theorem dX9_run_7 : decode cX9_run 7 = .ok (.putfield 38, 3) := by decide +kernel
theorem dX9_run_10 : decode cX9_run 10 = .ok (.aload_n 0, 1) := by decide +kernel
theorem dX9_run_11 : decode cX9_run 11 = .ok (.getfield 13, 3) := by decide +kernel
theorem dX9_run_14 : decode cX9_run 14 = .ok (.iconst 0, 1) := by decide +kernel
theorem dX9_run_15 : decode cX9_run 15 = .ok (.aaload, 1) := by decide +kernel
theorem dX9_run_16 : decode cX9_run 16 = .ok (.aload_n 1, 1) := by decide +kernel
theorem dX9_run_17 : decode cX9_run 17 = .ok (.invokevirtual 41, 3) := by decide +kernel
theorem dX9_run_20 : decode cX9_run 20 = .ok (.aload_n 0, 1) := by decide +kernel
theorem dX9_run_21 : decode cX9_run 21 = .ok (.iconst 0, 1) := by decide +kernel
theorem dX9_run_22 : decode cX9_run 22 = .ok (.iload_n 2, 1) := by decide +kernel
theorem dX9_run_23 : decode cX9_run 23 = .ok (.bipush 6, 2) := by decide +kernel
theorem dX9_run_25 : decode cX9_run 25 = .ok (.invokestatic 45, 3) := by decide +kernel
theorem dX9_run_28 : decode cX9_run 28 = .ok (.iconst 0, 1) := by decide +kernel
theorem dX9_run_29 : decode cX9_run 29 = .ok (.invokevirtual 51, 3) := by decide +kernel
theorem dX9_run_32 : decode cX9_run 32 = .ok (.return_, 1) := by decide +kernel
theorem dX9_bestBath_0 : decode cX9_bestBath 0 = .ok (.aload_n 0, 1) := by decide +kernel
theorem dX9_bestBath_1 : decode cX9_bestBath 1 = .ok (.getfield 24, 3) := by decide +kernel
theorem dX9_bestBath_4 : decode cX9_bestBath 4 = .ok (.iconst (-1), 1) := by decide +kernel
theorem dX9_bestBath_5 : decode cX9_bestBath 5 = .ok (.if_icmp .eq 24, 3) := by decide +kernel
theorem dX9_bestBath_8 : decode cX9_bestBath 8 = .ok (.iload_n 1, 1) := by decide +kernel
theorem dX9_bestBath_9 : decode cX9_bestBath 9 = .ok (.ifCond .lt 20, 3) := by decide +kernel
theorem dX9_bestBath_12 : decode cX9_bestBath 12 = .ok (.iload_n 1, 1) := by decide +kernel
theorem dX9_bestBath_13 : decode cX9_bestBath 13 = .ok (.aload_n 0, 1) := by decide +kernel
theorem dX9_bestBath_14 : decode cX9_bestBath 14 = .ok (.getfield 38, 3) := by decide +kernel
theorem dX9_bestBath_17 : decode cX9_bestBath 17 = .ok (.if_icmp .ge 12, 3) := by decide +kernel
theorem dX9_bestBath_20 : decode cX9_bestBath 20 = .ok (.aload_n 0, 1) := by decide +kernel
theorem dX9_bestBath_21 : decode cX9_bestBath 21 = .ok (.getfield 21, 3) := by decide +kernel
theorem dX9_bestBath_24 : decode cX9_bestBath 24 = .ok (.iload_n 1, 1) := by decide +kernel
theorem dX9_bestBath_25 : decode cX9_bestBath 25 = .ok (.iaload, 1) := by decide +kernel
theorem dX9_bestBath_26 : decode cX9_bestBath 26 = .ok (.goto 4, 3) := by decide +kernel
theorem dX9_bestBath_29 : decode cX9_bestBath 29 = .ok (.iconst (-1), 1) := by decide +kernel
theorem dX9_bestBath_30 : decode cX9_bestBath 30 = .ok (.ireturn, 1) := by decide +kernel
theorem dX9_descend_0 : decode cX9_descend 0 = .ok (.aload_n 0, 1) := by decide +kernel
theorem dX9_descend_1 : decode cX9_descend 1 = .ok (.getfield 13, 3) := by decide +kernel
theorem dX9_descend_4 : decode cX9_descend 4 = .ok (.iload_n 1, 1) := by decide +kernel
theorem dX9_descend_5 : decode cX9_descend 5 = .ok (.aaload, 1) := by decide +kernel
theorem dX9_descend_6 : decode cX9_descend 6 = .ok (.astore 4, 2) := by decide +kernel
theorem dX9_descend_8 : decode cX9_descend 8 = .ok (.aload 4, 2) := by decide +kernel
theorem dX9_descend_10 : decode cX9_descend 10 = .ok (.getfield 55, 3) := by decide +kernel
theorem dX9_descend_13 : decode cX9_descend 13 = .ok (.aload_n 0, 1) := by decide +kernel
theorem dX9_descend_14 : decode cX9_descend 14 = .ok (.getfield 29, 3) := by decide +kernel
theorem dX9_descend_17 : decode cX9_descend 17 = .ok (.if_icmp .lt 15, 3) := by decide +kernel
theorem dX9_descend_20 : decode cX9_descend 20 = .ok (.aload 4, 2) := by decide +kernel
theorem dX9_descend_22 : decode cX9_descend 22 = .ok (.getfield 58, 3) := by decide +kernel
theorem dX9_descend_25 : decode cX9_descend 25 = .ok (.aload_n 0, 1) := by decide +kernel
theorem dX9_descend_26 : decode cX9_descend 26 = .ok (.getfield 35, 3) := by decide +kernel
theorem dX9_descend_29 : decode cX9_descend 29 = .ok (.if_icmp .ge 4, 3) := by decide +kernel
theorem dX9_descend_32 : decode cX9_descend 32 = .ok (.return_, 1) := by decide +kernel
theorem dX9_descend_33 : decode cX9_descend 33 = .ok (.aload 4, 2) := by decide +kernel
theorem dX9_descend_35 : decode cX9_descend 35 = .ok (.aload_n 0, 1) := by decide +kernel
theorem dX9_descend_36 : decode cX9_descend 36 = .ok (.getfield 29, 3) := by decide +kernel
theorem dX9_descend_39 : decode cX9_descend 39 = .ok (.aload_n 0, 1) := by decide +kernel
theorem dX9_descend_40 : decode cX9_descend 40 = .ok (.getfield 32, 3) := by decide +kernel
theorem dX9_descend_43 : decode cX9_descend 43 = .ok (.aload_n 0, 1) := by decide +kernel
theorem dX9_descend_44 : decode cX9_descend 44 = .ok (.getfield 35, 3) := by decide +kernel
theorem dX9_descend_47 : decode cX9_descend 47 = .ok (.invokevirtual 61, 3) := by decide +kernel
theorem dX9_descend_50 : decode cX9_descend 50 = .ok (.ifCond .eq 9, 3) := by decide +kernel
theorem dX9_descend_53 : decode cX9_descend 53 = .ok (.aload_n 0, 1) := by decide +kernel
theorem dX9_descend_54 : decode cX9_descend 54 = .ok (.iload_n 1, 1) := by decide +kernel
theorem dX9_descend_55 : decode cX9_descend 55 = .ok (.iload_n 3, 1) := by decide +kernel
theorem dX9_descend_56 : decode cX9_descend 56 = .ok (.invokevirtual 65, 3) := by decide +kernel
theorem dX9_descend_59 : decode cX9_descend 59 = .ok (.iload_n 1, 1) := by decide +kernel
theorem dX9_descend_60 : decode cX9_descend 60 = .ok (.iload_n 2, 1) := by decide +kernel
theorem dX9_descend_61 : decode cX9_descend 61 = .ok (.if_icmp .ge 19, 3) := by decide +kernel
theorem dX9_descend_64 : decode cX9_descend 64 = .ok (.aload_n 0, 1) := by decide +kernel
theorem dX9_descend_65 : decode cX9_descend 65 = .ok (.getfield 24, 3) := by decide +kernel
theorem dX9_descend_68 : decode cX9_descend 68 = .ok (.iconst (-1), 1) := by decide +kernel
theorem dX9_descend_69 : decode cX9_descend 69 = .ok (.if_icmp .eq 12, 3) := by decide +kernel
theorem dX9_descend_72 : decode cX9_descend 72 = .ok (.iload_n 3, 1) := by decide +kernel
theorem dX9_descend_73 : decode cX9_descend 73 = .ok (.aload_n 0, 1) := by decide +kernel
theorem dX9_descend_74 : decode cX9_descend 74 = .ok (.getfield 24, 3) := by decide +kernel
theorem dX9_descend_77 : decode cX9_descend 77 = .ok (.if_icmp .lt 4, 3) := by decide +kernel
theorem dX9_descend_80 : decode cX9_descend 80 = .ok (.return_, 1) := by decide +kernel
theorem dX9_descend_81 : decode cX9_descend 81 = .ok (.iconst 0, 1) := by decide +kernel
theorem dX9_descend_82 : decode cX9_descend 82 = .ok (.istore 5, 2) := by decide +kernel
theorem dX9_descend_84 : decode cX9_descend 84 = .ok (.iload 5, 2) := by decide +kernel
theorem dX9_descend_86 : decode cX9_descend 86 = .ok (.iconst 3, 1) := by decide +kernel
theorem dX9_descend_87 : decode cX9_descend 87 = .ok (.if_icmp .gt 84, 3) := by decide +kernel
theorem dX9_descend_90 : decode cX9_descend 90 = .ok (.iload 5, 2) := by decide +kernel
theorem dX9_descend_92 : decode cX9_descend 92 = .ok (.iconst 3, 1) := by decide +kernel
theorem dX9_descend_93 : decode cX9_descend 93 = .ok (.if_icmp .ne 11, 3) := by decide +kernel
theorem dX9_descend_96 : decode cX9_descend 96 = .ok (.aload 4, 2) := by decide +kernel
theorem dX9_descend_98 : decode cX9_descend 98 = .ok (.getfield 69, 3) := by decide +kernel
theorem dX9_descend_101 : decode cX9_descend 101 = .ok (.ifCond .eq 64, 3) := by decide +kernel
theorem dX9_descend_104 : decode cX9_descend 104 = .ok (.aload_n 0, 1) := by decide +kernel
theorem dX9_descend_105 : decode cX9_descend 105 = .ok (.getfield 17, 3) := by decide +kernel
theorem dX9_descend_108 : decode cX9_descend 108 = .ok (.iload_n 1, 1) := by decide +kernel
theorem dX9_descend_109 : decode cX9_descend 109 = .ok (.iload 5, 2) := by decide +kernel
theorem dX9_descend_111 : decode cX9_descend 111 = .ok (.iastore, 1) := by decide +kernel
theorem dX9_descend_112 : decode cX9_descend 112 = .ok (.aload_n 0, 1) := by decide +kernel
theorem dX9_descend_113 : decode cX9_descend 113 = .ok (.getfield 13, 3) := by decide +kernel
theorem dX9_descend_116 : decode cX9_descend 116 = .ok (.iload_n 1, 1) := by decide +kernel
theorem dX9_descend_117 : decode cX9_descend 117 = .ok (.iconst 1, 1) := by decide +kernel
theorem dX9_descend_118 : decode cX9_descend 118 = .ok (.iadd, 1) := by decide +kernel
theorem dX9_descend_119 : decode cX9_descend 119 = .ok (.aaload, 1) := by decide +kernel
theorem dX9_descend_120 : decode cX9_descend 120 = .ok (.aload 4, 2) := by decide +kernel
theorem dX9_descend_122 : decode cX9_descend 122 = .ok (.invokevirtual 41, 3) := by decide +kernel
theorem dX9_descend_125 : decode cX9_descend 125 = .ok (.aload_n 0, 1) := by decide +kernel
theorem dX9_descend_126 : decode cX9_descend 126 = .ok (.getfield 13, 3) := by decide +kernel
theorem dX9_descend_129 : decode cX9_descend 129 = .ok (.iload_n 1, 1) := by decide +kernel
theorem dX9_descend_130 : decode cX9_descend 130 = .ok (.iconst 1, 1) := by decide +kernel
theorem dX9_descend_131 : decode cX9_descend 131 = .ok (.iadd, 1) := by decide +kernel
theorem dX9_descend_132 : decode cX9_descend 132 = .ok (.aaload, 1) := by decide +kernel
theorem dX9_descend_133 : decode cX9_descend 133 = .ok (.iload 5, 2) := by decide +kernel
theorem dX9_descend_135 : decode cX9_descend 135 = .ok (.getstatic 73, 3) := by decide +kernel
theorem dX9_descend_138 : decode cX9_descend 138 = .ok (.iload 5, 2) := by decide +kernel
theorem dX9_descend_140 : decode cX9_descend 140 = .ok (.iaload, 1) := by decide +kernel
theorem dX9_descend_141 : decode cX9_descend 141 = .ok (.invokevirtual 76, 3) := by decide +kernel
theorem dX9_descend_144 : decode cX9_descend 144 = .ok (.aload_n 0, 1) := by decide +kernel
theorem dX9_descend_145 : decode cX9_descend 145 = .ok (.iload_n 1, 1) := by decide +kernel
theorem dX9_descend_146 : decode cX9_descend 146 = .ok (.iconst 1, 1) := by decide +kernel
theorem dX9_descend_147 : decode cX9_descend 147 = .ok (.iadd, 1) := by decide +kernel
theorem dX9_descend_148 : decode cX9_descend 148 = .ok (.iload_n 2, 1) := by decide +kernel
theorem dX9_descend_149 : decode cX9_descend 149 = .ok (.iload_n 3, 1) := by decide +kernel
theorem dX9_descend_150 : decode cX9_descend 150 = .ok (.iload 5, 2) := by decide +kernel
theorem dX9_descend_152 : decode cX9_descend 152 = .ok (.getstatic 73, 3) := by decide +kernel
theorem dX9_descend_155 : decode cX9_descend 155 = .ok (.iload 5, 2) := by decide +kernel
theorem dX9_descend_157 : decode cX9_descend 157 = .ok (.iaload, 1) := by decide +kernel
theorem dX9_descend_158 : decode cX9_descend 158 = .ok (.invokestatic 79, 3) := by decide +kernel
theorem dX9_descend_161 : decode cX9_descend 161 = .ok (.iadd, 1) := by decide +kernel
theorem dX9_descend_162 : decode cX9_descend 162 = .ok (.invokevirtual 51, 3) := by decide +kernel
theorem dX9_descend_165 : decode cX9_descend 165 = .ok (.iinc 5 1, 3) := by decide +kernel
theorem dX9_descend_168 : decode cX9_descend 168 = .ok (.goto (-84), 3) := by decide +kernel
theorem dX9_descend_171 : decode cX9_descend 171 = .ok (.return_, 1) := by decide +kernel
theorem dX9_keepIfBetter_0 : decode cX9_keepIfBetter 0 = .ok (.aload_n 0, 1) := by decide +kernel
theorem dX9_keepIfBetter_1 : decode cX9_keepIfBetter 1 = .ok (.getfield 24, 3) := by decide +kernel
theorem dX9_keepIfBetter_4 : decode cX9_keepIfBetter 4 = .ok (.iconst (-1), 1) := by decide +kernel
theorem dX9_keepIfBetter_5 : decode cX9_keepIfBetter 5 = .ok (.if_icmp .eq 27, 3) := by decide +kernel
theorem dX9_keepIfBetter_8 : decode cX9_keepIfBetter 8 = .ok (.iload_n 2, 1) := by decide +kernel
theorem dX9_keepIfBetter_9 : decode cX9_keepIfBetter 9 = .ok (.aload_n 0, 1) := by decide +kernel
theorem dX9_keepIfBetter_10 : decode cX9_keepIfBetter 10 = .ok (.getfield 24, 3) := by decide +kernel
theorem dX9_keepIfBetter_13 : decode cX9_keepIfBetter 13 = .ok (.if_icmp .lt 19, 3) := by decide +kernel
theorem dX9_keepIfBetter_16 : decode cX9_keepIfBetter 16 = .ok (.iload_n 2, 1) := by decide +kernel
theorem dX9_keepIfBetter_17 : decode cX9_keepIfBetter 17 = .ok (.aload_n 0, 1) := by decide +kernel
theorem dX9_keepIfBetter_18 : decode cX9_keepIfBetter 18 = .ok (.getfield 24, 3) := by decide +kernel
theorem dX9_keepIfBetter_21 : decode cX9_keepIfBetter 21 = .ok (.if_icmp .ne 35, 3) := by decide +kernel
theorem dX9_keepIfBetter_24 : decode cX9_keepIfBetter 24 = .ok (.iload_n 1, 1) := by decide +kernel
theorem dX9_keepIfBetter_25 : decode cX9_keepIfBetter 25 = .ok (.aload_n 0, 1) := by decide +kernel
theorem dX9_keepIfBetter_26 : decode cX9_keepIfBetter 26 = .ok (.getfield 38, 3) := by decide +kernel
theorem dX9_keepIfBetter_29 : decode cX9_keepIfBetter 29 = .ok (.if_icmp .ge 27, 3) := by decide +kernel
theorem dX9_keepIfBetter_32 : decode cX9_keepIfBetter 32 = .ok (.aload_n 0, 1) := by decide +kernel
theorem dX9_keepIfBetter_33 : decode cX9_keepIfBetter 33 = .ok (.iload_n 2, 1) := by decide +kernel
theorem dX9_keepIfBetter_34 : decode cX9_keepIfBetter 34 = .ok (.putfield 24, 3) := by decide +kernel
theorem dX9_keepIfBetter_37 : decode cX9_keepIfBetter 37 = .ok (.aload_n 0, 1) := by decide +kernel
theorem dX9_keepIfBetter_38 : decode cX9_keepIfBetter 38 = .ok (.iload_n 1, 1) := by decide +kernel
theorem dX9_keepIfBetter_39 : decode cX9_keepIfBetter 39 = .ok (.putfield 38, 3) := by decide +kernel
theorem dX9_keepIfBetter_42 : decode cX9_keepIfBetter 42 = .ok (.aload_n 0, 1) := by decide +kernel
theorem dX9_keepIfBetter_43 : decode cX9_keepIfBetter 43 = .ok (.getfield 17, 3) := by decide +kernel
theorem dX9_keepIfBetter_46 : decode cX9_keepIfBetter 46 = .ok (.iconst 0, 1) := by decide +kernel
theorem dX9_keepIfBetter_47 : decode cX9_keepIfBetter 47 = .ok (.aload_n 0, 1) := by decide +kernel
theorem dX9_keepIfBetter_48 : decode cX9_keepIfBetter 48 = .ok (.getfield 21, 3) := by decide +kernel
theorem dX9_keepIfBetter_51 : decode cX9_keepIfBetter 51 = .ok (.iconst 0, 1) := by decide +kernel
theorem dX9_keepIfBetter_52 : decode cX9_keepIfBetter 52 = .ok (.iload_n 1, 1) := by decide +kernel
theorem dX9_keepIfBetter_53 : decode cX9_keepIfBetter 53 = .ok (.invokestatic 84, 3) := by decide +kernel
theorem dX9_keepIfBetter_56 : decode cX9_keepIfBetter 56 = .ok (.return_, 1) := by decide +kernel
theorem dX10_init_0 : decode cX10_init 0 = .ok (.aload_n 0, 1) := by decide +kernel
theorem dX10_init_1 : decode cX10_init 1 = .ok (.invokespecial 3, 3) := by decide +kernel
theorem dX10_init_4 : decode cX10_init 4 = .ok (.aload_n 0, 1) := by decide +kernel
theorem dX10_init_5 : decode cX10_init 5 = .ok (.sipush 400, 3) := by decide +kernel
theorem dX10_init_8 : decode cX10_init 8 = .ok (.newarray .byte, 2) := by decide +kernel
theorem dX10_init_10 : decode cX10_init 10 = .ok (.putfield 11, 3) := by decide +kernel
theorem dX10_init_13 : decode cX10_init 13 = .ok (.aload_n 0, 1) := by decide +kernel
theorem dX10_init_14 : decode cX10_init 14 = .ok (.iconst (-1), 1) := by decide +kernel
theorem dX10_init_15 : decode cX10_init 15 = .ok (.putfield 15, 3) := by decide +kernel
theorem dX10_init_18 : decode cX10_init 18 = .ok (.return_, 1) := by decide +kernel
theorem dX10_hasRoom_0 : decode cX10_hasRoom 0 = .ok (.aload_n 0, 1) := by decide +kernel
theorem dX10_hasRoom_1 : decode cX10_hasRoom 1 = .ok (.getfield 19, 3) := by decide +kernel
theorem dX10_hasRoom_4 : decode cX10_hasRoom 4 = .ok (.bipush 20, 2) := by decide +kernel
theorem dX10_hasRoom_6 : decode cX10_hasRoom 6 = .ok (.iadd, 1) := by decide +kernel
theorem dX10_hasRoom_7 : decode cX10_hasRoom 7 = .ok (.sipush 400, 3) := by decide +kernel
theorem dX10_hasRoom_10 : decode cX10_hasRoom 10 = .ok (.if_icmp .gt 7, 3) := by decide +kernel
theorem dX10_hasRoom_13 : decode cX10_hasRoom 13 = .ok (.iconst 1, 1) := by decide +kernel
theorem dX10_hasRoom_14 : decode cX10_hasRoom 14 = .ok (.goto 4, 3) := by decide +kernel
theorem dX10_hasRoom_17 : decode cX10_hasRoom 17 = .ok (.iconst 0, 1) := by decide +kernel
theorem dX10_hasRoom_18 : decode cX10_hasRoom 18 = .ok (.ireturn, 1) := by decide +kernel
theorem dX10_append_0 : decode cX10_append 0 = .ok (.bipush 24, 2) := by decide +kernel
theorem dX10_append_2 : decode cX10_append 2 = .ok (.istore_n 2, 1) := by decide +kernel
theorem dX10_append_3 : decode cX10_append 3 = .ok (.iload_n 2, 1) := by decide +kernel
theorem dX10_append_4 : decode cX10_append 4 = .ok (.ifCond .lt 42, 3) := by decide +kernel
theorem dX10_append_7 : decode cX10_append 7 = .ok (.aload_n 0, 1) := by decide +kernel
theorem dX10_append_8 : decode cX10_append 8 = .ok (.getfield 19, 3) := by decide +kernel
theorem dX10_append_11 : decode cX10_append 11 = .ok (.sipush 400, 3) := by decide +kernel
theorem dX10_append_14 : decode cX10_append 14 = .ok (.if_icmp .ge 32, 3) := by decide +kernel
theorem dX10_append_17 : decode cX10_append 17 = .ok (.aload_n 0, 1) := by decide +kernel
theorem dX10_append_18 : decode cX10_append 18 = .ok (.getfield 11, 3) := by decide +kernel
theorem dX10_append_21 : decode cX10_append 21 = .ok (.aload_n 0, 1) := by decide +kernel
theorem dX10_append_22 : decode cX10_append 22 = .ok (.getfield 19, 3) := by decide +kernel
theorem dX10_append_25 : decode cX10_append 25 = .ok (.iload_n 1, 1) := by decide +kernel
theorem dX10_append_26 : decode cX10_append 26 = .ok (.iload_n 2, 1) := by decide +kernel
theorem dX10_append_27 : decode cX10_append 27 = .ok (.iushr, 1) := by decide +kernel
theorem dX10_append_28 : decode cX10_append 28 = .ok (.i2b, 1) := by decide +kernel
theorem dX10_append_29 : decode cX10_append 29 = .ok (.bastore, 1) := by decide +kernel
theorem dX10_append_30 : decode cX10_append 30 = .ok (.aload_n 0, 1) := by decide +kernel
theorem dX10_append_31 : decode cX10_append 31 = .ok (.dup, 1) := by decide +kernel
theorem dX10_append_32 : decode cX10_append 32 = .ok (.getfield 19, 3) := by decide +kernel
theorem dX10_append_35 : decode cX10_append 35 = .ok (.iconst 1, 1) := by decide +kernel
theorem dX10_append_36 : decode cX10_append 36 = .ok (.iadd, 1) := by decide +kernel
theorem dX10_append_37 : decode cX10_append 37 = .ok (.putfield 19, 3) := by decide +kernel
theorem dX10_append_40 : decode cX10_append 40 = .ok (.iinc 2 (-8), 3) := by decide +kernel
theorem dX10_append_43 : decode cX10_append 43 = .ok (.goto (-40), 3) := by decide +kernel
theorem dX10_append_46 : decode cX10_append 46 = .ok (.return_, 1) := by decide +kernel
theorem dX10_open_0 : decode cX10_open 0 = .ok (.aload_n 0, 1) := by decide +kernel
theorem dX10_open_1 : decode cX10_open 1 = .ok (.iconst 0, 1) := by decide +kernel
theorem dX10_open_2 : decode cX10_open 2 = .ok (.putfield 22, 3) := by decide +kernel
theorem dX10_open_5 : decode cX10_open 5 = .ok (.aload_n 0, 1) := by decide +kernel
theorem dX10_open_6 : decode cX10_open 6 = .ok (.iconst (-1), 1) := by decide +kernel
theorem dX10_open_7 : decode cX10_open 7 = .ok (.putfield 15, 3) := by decide +kernel
theorem dX10_open_10 : decode cX10_open 10 = .ok (.return_, 1) := by decide +kernel
theorem dX10_isBlank_0 : decode cX10_isBlank 0 = .ok (.aload_n 0, 1) := by decide +kernel
theorem dX10_isBlank_1 : decode cX10_isBlank 1 = .ok (.invokevirtual 25, 3) := by decide +kernel
theorem dX10_isBlank_4 : decode cX10_isBlank 4 = .ok (.aload_n 0, 1) := by decide +kernel
theorem dX10_isBlank_5 : decode cX10_isBlank 5 = .ok (.getfield 22, 3) := by decide +kernel
theorem dX10_isBlank_8 : decode cX10_isBlank 8 = .ok (.aload_n 0, 1) := by decide +kernel
theorem dX10_isBlank_9 : decode cX10_isBlank 9 = .ok (.getfield 19, 3) := by decide +kernel
theorem dX10_isBlank_12 : decode cX10_isBlank 12 = .ok (.if_icmp .lt 7, 3) := by decide +kernel
theorem dX10_isBlank_15 : decode cX10_isBlank 15 = .ok (.iconst 1, 1) := by decide +kernel
theorem dX10_isBlank_16 : decode cX10_isBlank 16 = .ok (.goto 4, 3) := by decide +kernel
theorem dX10_isBlank_19 : decode cX10_isBlank 19 = .ok (.iconst 0, 1) := by decide +kernel
theorem dX10_isBlank_20 : decode cX10_isBlank 20 = .ok (.ireturn, 1) := by decide +kernel
theorem dX10_skipBlanks_0 : decode cX10_skipBlanks 0 = .ok (.aload_n 0, 1) := by decide +kernel
theorem dX10_skipBlanks_1 : decode cX10_skipBlanks 1 = .ok (.getfield 22, 3) := by decide +kernel
theorem dX10_skipBlanks_4 : decode cX10_skipBlanks 4 = .ok (.aload_n 0, 1) := by decide +kernel
theorem dX10_skipBlanks_5 : decode cX10_skipBlanks 5 = .ok (.getfield 19, 3) := by decide +kernel
theorem dX10_skipBlanks_8 : decode cX10_skipBlanks 8 = .ok (.if_icmp .ge 30, 3) := by decide +kernel
theorem dX10_skipBlanks_11 : decode cX10_skipBlanks 11 = .ok (.aload_n 0, 1) := by decide +kernel
theorem dX10_skipBlanks_12 : decode cX10_skipBlanks 12 = .ok (.getfield 11, 3) := by decide +kernel
theorem dX10_skipBlanks_15 : decode cX10_skipBlanks 15 = .ok (.aload_n 0, 1) := by decide +kernel
theorem dX10_skipBlanks_16 : decode cX10_skipBlanks 16 = .ok (.getfield 22, 3) := by decide +kernel
theorem dX10_skipBlanks_19 : decode cX10_skipBlanks 19 = .ok (.baload, 1) := by decide +kernel
theorem dX10_skipBlanks_20 : decode cX10_skipBlanks 20 = .ok (.bipush 32, 2) := by decide +kernel
theorem dX10_skipBlanks_22 : decode cX10_skipBlanks 22 = .ok (.if_icmp .ne 16, 3) := by decide +kernel
theorem dX10_skipBlanks_25 : decode cX10_skipBlanks 25 = .ok (.aload_n 0, 1) := by decide +kernel
theorem dX10_skipBlanks_26 : decode cX10_skipBlanks 26 = .ok (.dup, 1) := by decide +kernel
theorem dX10_skipBlanks_27 : decode cX10_skipBlanks 27 = .ok (.getfield 22, 3) := by decide +kernel
theorem dX10_skipBlanks_30 : decode cX10_skipBlanks 30 = .ok (.iconst 1, 1) := by decide +kernel
theorem dX10_skipBlanks_31 : decode cX10_skipBlanks 31 = .ok (.iadd, 1) := by decide +kernel
theorem dX10_skipBlanks_32 : decode cX10_skipBlanks 32 = .ok (.putfield 22, 3) := by decide +kernel
theorem dX10_skipBlanks_35 : decode cX10_skipBlanks 35 = .ok (.goto (-35), 3) := by decide +kernel
theorem dX10_skipBlanks_38 : decode cX10_skipBlanks 38 = .ok (.return_, 1) := by decide +kernel
theorem dX10_refuseNext_0 : decode cX10_refuseNext 0 = .ok (.aload_n 0, 1) := by decide +kernel
theorem dX10_refuseNext_1 : decode cX10_refuseNext 1 = .ok (.invokevirtual 25, 3) := by decide +kernel
theorem dX10_refuseNext_4 : decode cX10_refuseNext 4 = .ok (.aload_n 0, 1) := by decide +kernel
theorem dX10_refuseNext_5 : decode cX10_refuseNext 5 = .ok (.aload_n 0, 1) := by decide +kernel
theorem dX10_refuseNext_6 : decode cX10_refuseNext 6 = .ok (.getfield 22, 3) := by decide +kernel
theorem dX10_refuseNext_9 : decode cX10_refuseNext 9 = .ok (.invokevirtual 28, 3) := by decide +kernel
theorem dX10_refuseNext_12 : decode cX10_refuseNext 12 = .ok (.return_, 1) := by decide +kernel
theorem dX10_refuse_0 : decode cX10_refuse 0 = .ok (.aload_n 0, 1) := by decide +kernel
theorem dX10_refuse_1 : decode cX10_refuse 1 = .ok (.getfield 15, 3) := by decide +kernel
theorem dX10_refuse_4 : decode cX10_refuse 4 = .ok (.iconst (-1), 1) := by decide +kernel
theorem dX10_refuse_5 : decode cX10_refuse 5 = .ok (.if_icmp .ne 8, 3) := by decide +kernel
theorem dX10_refuse_8 : decode cX10_refuse 8 = .ok (.aload_n 0, 1) := by decide +kernel
theorem dX10_refuse_9 : decode cX10_refuse 9 = .ok (.iload_n 1, 1) := by decide +kernel
theorem dX10_refuse_10 : decode cX10_refuse 10 = .ok (.putfield 15, 3) := by decide +kernel
theorem dX10_refuse_13 : decode cX10_refuse 13 = .ok (.return_, 1) := by decide +kernel
theorem dX10_pick_0 : decode cX10_pick 0 = .ok (.aload_n 0, 1) := by decide +kernel
theorem dX10_pick_1 : decode cX10_pick 1 = .ok (.getfield 15, 3) := by decide +kernel
theorem dX10_pick_4 : decode cX10_pick 4 = .ok (.iconst (-1), 1) := by decide +kernel
theorem dX10_pick_5 : decode cX10_pick 5 = .ok (.if_icmp .eq 5, 3) := by decide +kernel
theorem dX10_pick_8 : decode cX10_pick 8 = .ok (.iconst (-1), 1) := by decide +kernel
theorem dX10_pick_9 : decode cX10_pick 9 = .ok (.ireturn, 1) := by decide +kernel
theorem dX10_pick_10 : decode cX10_pick 10 = .ok (.aload_n 0, 1) := by decide +kernel
theorem dX10_pick_11 : decode cX10_pick 11 = .ok (.invokevirtual 25, 3) := by decide +kernel
theorem dX10_pick_14 : decode cX10_pick 14 = .ok (.aload_n 0, 1) := by decide +kernel
theorem dX10_pick_15 : decode cX10_pick 15 = .ok (.getfield 22, 3) := by decide +kernel
theorem dX10_pick_18 : decode cX10_pick 18 = .ok (.istore_n 2, 1) := by decide +kernel
theorem dX10_pick_19 : decode cX10_pick 19 = .ok (.aload_n 0, 1) := by decide +kernel
theorem dX10_pick_20 : decode cX10_pick 20 = .ok (.getfield 22, 3) := by decide +kernel
theorem dX10_pick_23 : decode cX10_pick 23 = .ok (.aload_n 0, 1) := by decide +kernel
theorem dX10_pick_24 : decode cX10_pick 24 = .ok (.getfield 19, 3) := by decide +kernel
theorem dX10_pick_27 : decode cX10_pick 27 = .ok (.if_icmp .ge 44, 3) := by decide +kernel
theorem dX10_pick_30 : decode cX10_pick 30 = .ok (.aload_n 0, 1) := by decide +kernel
theorem dX10_pick_31 : decode cX10_pick 31 = .ok (.getfield 11, 3) := by decide +kernel
theorem dX10_pick_34 : decode cX10_pick 34 = .ok (.aload_n 0, 1) := by decide +kernel
theorem dX10_pick_35 : decode cX10_pick 35 = .ok (.getfield 22, 3) := by decide +kernel
theorem dX10_pick_38 : decode cX10_pick 38 = .ok (.baload, 1) := by decide +kernel
theorem dX10_pick_39 : decode cX10_pick 39 = .ok (.bipush 97, 2) := by decide +kernel
theorem dX10_pick_41 : decode cX10_pick 41 = .ok (.if_icmp .lt 30, 3) := by decide +kernel
theorem dX10_pick_44 : decode cX10_pick 44 = .ok (.aload_n 0, 1) := by decide +kernel
theorem dX10_pick_45 : decode cX10_pick 45 = .ok (.getfield 11, 3) := by decide +kernel
theorem dX10_pick_48 : decode cX10_pick 48 = .ok (.aload_n 0, 1) := by decide +kernel
theorem dX10_pick_49 : decode cX10_pick 49 = .ok (.getfield 22, 3) := by decide +kernel
theorem dX10_pick_52 : decode cX10_pick 52 = .ok (.baload, 1) := by decide +kernel
theorem dX10_pick_53 : decode cX10_pick 53 = .ok (.bipush 122, 2) := by decide +kernel
theorem dX10_pick_55 : decode cX10_pick 55 = .ok (.if_icmp .gt 16, 3) := by decide +kernel
theorem dX10_pick_58 : decode cX10_pick 58 = .ok (.aload_n 0, 1) := by decide +kernel
theorem dX10_pick_59 : decode cX10_pick 59 = .ok (.dup, 1) := by decide +kernel
theorem dX10_pick_60 : decode cX10_pick 60 = .ok (.getfield 22, 3) := by decide +kernel
theorem dX10_pick_63 : decode cX10_pick 63 = .ok (.iconst 1, 1) := by decide +kernel
theorem dX10_pick_64 : decode cX10_pick 64 = .ok (.iadd, 1) := by decide +kernel
theorem dX10_pick_65 : decode cX10_pick 65 = .ok (.putfield 22, 3) := by decide +kernel
theorem dX10_pick_68 : decode cX10_pick 68 = .ok (.goto (-49), 3) := by decide +kernel
theorem dX10_pick_71 : decode cX10_pick 71 = .ok (.aload_n 0, 1) := by decide +kernel
theorem dX10_pick_72 : decode cX10_pick 72 = .ok (.aload_n 1, 1) := by decide +kernel
theorem dX10_pick_73 : decode cX10_pick 73 = .ok (.iload_n 2, 1) := by decide +kernel
theorem dX10_pick_74 : decode cX10_pick 74 = .ok (.invokevirtual 32, 3) := by decide +kernel
theorem dX10_pick_77 : decode cX10_pick 77 = .ok (.istore_n 3, 1) := by decide +kernel
theorem dX10_pick_78 : decode cX10_pick 78 = .ok (.iload_n 3, 1) := by decide +kernel
theorem dX10_pick_79 : decode cX10_pick 79 = .ok (.iconst (-1), 1) := by decide +kernel
theorem dX10_pick_80 : decode cX10_pick 80 = .ok (.if_icmp .ne 8, 3) := by decide +kernel
theorem dX10_pick_83 : decode cX10_pick 83 = .ok (.aload_n 0, 1) := by decide +kernel
theorem dX10_pick_84 : decode cX10_pick 84 = .ok (.iload_n 2, 1) := by decide +kernel
theorem dX10_pick_85 : decode cX10_pick 85 = .ok (.invokevirtual 28, 3) := by decide +kernel
theorem dX10_pick_88 : decode cX10_pick 88 = .ok (.iload_n 3, 1) := by decide +kernel
theorem dX10_pick_89 : decode cX10_pick 89 = .ok (.ireturn, 1) := by decide +kernel
theorem dX10_placeAmong_0 : decode cX10_placeAmong 0 = .ok (.iconst 0, 1) := by decide +kernel
theorem dX10_placeAmong_1 : decode cX10_placeAmong 1 = .ok (.istore_n 3, 1) := by decide +kernel
theorem dX10_placeAmong_2 : decode cX10_placeAmong 2 = .ok (.iconst 0, 1) := by decide +kernel
theorem dX10_placeAmong_3 : decode cX10_placeAmong 3 = .ok (.istore 4, 2) := by decide +kernel
theorem dX10_placeAmong_5 : decode cX10_placeAmong 5 = .ok (.iconst 0, 1) := by decide +kernel
theorem dX10_placeAmong_6 : decode cX10_placeAmong 6 = .ok (.istore 5, 2) := by decide +kernel
theorem dX10_placeAmong_8 : decode cX10_placeAmong 8 = .ok (.iload 5, 2) := by decide +kernel
theorem dX10_placeAmong_10 : decode cX10_placeAmong 10 = .ok (.aload_n 1, 1) := by decide +kernel
theorem dX10_placeAmong_11 : decode cX10_placeAmong 11 = .ok (.invokevirtual 36, 3) := by decide +kernel
theorem dX10_placeAmong_14 : decode cX10_placeAmong 14 = .ok (.if_icmp .ge 86, 3) := by decide +kernel
theorem dX10_placeAmong_17 : decode cX10_placeAmong 17 = .ok (.aload_n 1, 1) := by decide +kernel
theorem dX10_placeAmong_18 : decode cX10_placeAmong 18 = .ok (.iload 5, 2) := by decide +kernel
theorem dX10_placeAmong_20 : decode cX10_placeAmong 20 = .ok (.invokevirtual 41, 3) := by decide +kernel
theorem dX10_placeAmong_23 : decode cX10_placeAmong 23 = .ok (.bipush 32, 2) := by decide +kernel
theorem dX10_placeAmong_25 : decode cX10_placeAmong 25 = .ok (.if_icmp .ne 25, 3) := by decide +kernel
theorem dX10_placeAmong_28 : decode cX10_placeAmong 28 = .ok (.iload 4, 2) := by decide +kernel
theorem dX10_placeAmong_30 : decode cX10_placeAmong 30 = .ok (.aload_n 0, 1) := by decide +kernel
theorem dX10_placeAmong_31 : decode cX10_placeAmong 31 = .ok (.getfield 22, 3) := by decide +kernel
theorem dX10_placeAmong_34 : decode cX10_placeAmong 34 = .ok (.iload_n 2, 1) := by decide +kernel
theorem dX10_placeAmong_35 : decode cX10_placeAmong 35 = .ok (.isub, 1) := by decide +kernel
theorem dX10_placeAmong_36 : decode cX10_placeAmong 36 = .ok (.if_icmp .ne 5, 3) := by decide +kernel
theorem dX10_placeAmong_39 : decode cX10_placeAmong 39 = .ok (.iload_n 3, 1) := by decide +kernel
theorem dX10_placeAmong_40 : decode cX10_placeAmong 40 = .ok (.ireturn, 1) := by decide +kernel
theorem dX10_placeAmong_41 : decode cX10_placeAmong 41 = .ok (.iinc 3 1, 3) := by decide +kernel
theorem dX10_placeAmong_44 : decode cX10_placeAmong 44 = .ok (.iconst 0, 1) := by decide +kernel
theorem dX10_placeAmong_45 : decode cX10_placeAmong 45 = .ok (.istore 4, 2) := by decide +kernel
theorem dX10_placeAmong_47 : decode cX10_placeAmong 47 = .ok (.goto 47, 3) := by decide +kernel
theorem dX10_placeAmong_50 : decode cX10_placeAmong 50 = .ok (.iload 4, 2) := by decide +kernel
theorem dX10_placeAmong_52 : decode cX10_placeAmong 52 = .ok (.iconst (-1), 1) := by decide +kernel
theorem dX10_placeAmong_53 : decode cX10_placeAmong 53 = .ok (.if_icmp .eq 38, 3) := by decide +kernel
theorem dX10_placeAmong_56 : decode cX10_placeAmong 56 = .ok (.iload_n 2, 1) := by decide +kernel
theorem dX10_placeAmong_57 : decode cX10_placeAmong 57 = .ok (.iload 4, 2) := by decide +kernel
theorem dX10_placeAmong_59 : decode cX10_placeAmong 59 = .ok (.iadd, 1) := by decide +kernel
theorem dX10_placeAmong_60 : decode cX10_placeAmong 60 = .ok (.aload_n 0, 1) := by decide +kernel
theorem dX10_placeAmong_61 : decode cX10_placeAmong 61 = .ok (.getfield 22, 3) := by decide +kernel
theorem dX10_placeAmong_64 : decode cX10_placeAmong 64 = .ok (.if_icmp .ge 27, 3) := by decide +kernel
theorem dX10_placeAmong_67 : decode cX10_placeAmong 67 = .ok (.aload_n 0, 1) := by decide +kernel
theorem dX10_placeAmong_68 : decode cX10_placeAmong 68 = .ok (.getfield 11, 3) := by decide +kernel
theorem dX10_placeAmong_71 : decode cX10_placeAmong 71 = .ok (.iload_n 2, 1) := by decide +kernel
theorem dX10_placeAmong_72 : decode cX10_placeAmong 72 = .ok (.iload 4, 2) := by decide +kernel
theorem dX10_placeAmong_74 : decode cX10_placeAmong 74 = .ok (.iadd, 1) := by decide +kernel
theorem dX10_placeAmong_75 : decode cX10_placeAmong 75 = .ok (.baload, 1) := by decide +kernel
theorem dX10_placeAmong_76 : decode cX10_placeAmong 76 = .ok (.aload_n 1, 1) := by decide +kernel
theorem dX10_placeAmong_77 : decode cX10_placeAmong 77 = .ok (.iload 5, 2) := by decide +kernel
theorem dX10_placeAmong_79 : decode cX10_placeAmong 79 = .ok (.invokevirtual 41, 3) := by decide +kernel
theorem dX10_placeAmong_82 : decode cX10_placeAmong 82 = .ok (.if_icmp .ne 9, 3) := by decide +kernel
theorem dX10_placeAmong_85 : decode cX10_placeAmong 85 = .ok (.iinc 4 1, 3) := by decide +kernel
theorem dX10_placeAmong_88 : decode cX10_placeAmong 88 = .ok (.goto 6, 3) := by decide +kernel
theorem dX10_placeAmong_91 : decode cX10_placeAmong 91 = .ok (.iconst (-1), 1) := by decide +kernel
theorem dX10_placeAmong_92 : decode cX10_placeAmong 92 = .ok (.istore 4, 2) := by decide +kernel
theorem dX10_placeAmong_94 : decode cX10_placeAmong 94 = .ok (.iinc 5 1, 3) := by decide +kernel
theorem dX10_placeAmong_97 : decode cX10_placeAmong 97 = .ok (.goto (-89), 3) := by decide +kernel
theorem dX10_placeAmong_100 : decode cX10_placeAmong 100 = .ok (.iload 4, 2) := by decide +kernel
theorem dX10_placeAmong_102 : decode cX10_placeAmong 102 = .ok (.aload_n 0, 1) := by decide +kernel
theorem dX10_placeAmong_103 : decode cX10_placeAmong 103 = .ok (.getfield 22, 3) := by decide +kernel
theorem dX10_placeAmong_106 : decode cX10_placeAmong 106 = .ok (.iload_n 2, 1) := by decide +kernel
theorem dX10_placeAmong_107 : decode cX10_placeAmong 107 = .ok (.isub, 1) := by decide +kernel
theorem dX10_placeAmong_108 : decode cX10_placeAmong 108 = .ok (.if_icmp .ne 7, 3) := by decide +kernel
theorem dX10_placeAmong_111 : decode cX10_placeAmong 111 = .ok (.iload_n 3, 1) := by decide +kernel
theorem dX10_placeAmong_112 : decode cX10_placeAmong 112 = .ok (.goto 4, 3) := by decide +kernel
theorem dX10_placeAmong_115 : decode cX10_placeAmong 115 = .ok (.iconst (-1), 1) := by decide +kernel
theorem dX10_placeAmong_116 : decode cX10_placeAmong 116 = .ok (.ireturn, 1) := by decide +kernel
theorem dX10_number_0 : decode cX10_number 0 = .ok (.aload_n 0, 1) := by decide +kernel
theorem dX10_number_1 : decode cX10_number 1 = .ok (.getfield 15, 3) := by decide +kernel
theorem dX10_number_4 : decode cX10_number 4 = .ok (.iconst (-1), 1) := by decide +kernel
theorem dX10_number_5 : decode cX10_number 5 = .ok (.if_icmp .eq 5, 3) := by decide +kernel
theorem dX10_number_8 : decode cX10_number 8 = .ok (.iconst (-1), 1) := by decide +kernel
theorem dX10_number_9 : decode cX10_number 9 = .ok (.ireturn, 1) := by decide +kernel
theorem dX10_number_10 : decode cX10_number 10 = .ok (.aload_n 0, 1) := by decide +kernel
theorem dX10_number_11 : decode cX10_number 11 = .ok (.invokevirtual 25, 3) := by decide +kernel
theorem dX10_number_14 : decode cX10_number 14 = .ok (.aload_n 0, 1) := by decide +kernel
theorem dX10_number_15 : decode cX10_number 15 = .ok (.getfield 22, 3) := by decide +kernel
theorem dX10_number_18 : decode cX10_number 18 = .ok (.istore 4, 2) := by decide +kernel
theorem dX10_number_20 : decode cX10_number 20 = .ok (.iconst 0, 1) := by decide +kernel
theorem dX10_number_21 : decode cX10_number 21 = .ok (.istore 5, 2) := by decide +kernel
theorem dX10_number_23 : decode cX10_number 23 = .ok (.aload_n 0, 1) := by decide +kernel
theorem dX10_number_24 : decode cX10_number 24 = .ok (.getfield 22, 3) := by decide +kernel
theorem dX10_number_27 : decode cX10_number 27 = .ok (.aload_n 0, 1) := by decide +kernel
theorem dX10_number_28 : decode cX10_number 28 = .ok (.getfield 19, 3) := by decide +kernel
theorem dX10_number_31 : decode cX10_number 31 = .ok (.if_icmp .ge 75, 3) := by decide +kernel
theorem dX10_number_34 : decode cX10_number 34 = .ok (.aload_n 0, 1) := by decide +kernel
theorem dX10_number_35 : decode cX10_number 35 = .ok (.getfield 11, 3) := by decide +kernel
theorem dX10_number_38 : decode cX10_number 38 = .ok (.aload_n 0, 1) := by decide +kernel
theorem dX10_number_39 : decode cX10_number 39 = .ok (.getfield 22, 3) := by decide +kernel
theorem dX10_number_42 : decode cX10_number 42 = .ok (.baload, 1) := by decide +kernel
theorem dX10_number_43 : decode cX10_number 43 = .ok (.bipush 48, 2) := by decide +kernel
theorem dX10_number_45 : decode cX10_number 45 = .ok (.if_icmp .lt 61, 3) := by decide +kernel
theorem dX10_number_48 : decode cX10_number 48 = .ok (.aload_n 0, 1) := by decide +kernel
theorem dX10_number_49 : decode cX10_number 49 = .ok (.getfield 11, 3) := by decide +kernel
theorem dX10_number_52 : decode cX10_number 52 = .ok (.aload_n 0, 1) := by decide +kernel
theorem dX10_number_53 : decode cX10_number 53 = .ok (.getfield 22, 3) := by decide +kernel
theorem dX10_number_56 : decode cX10_number 56 = .ok (.baload, 1) := by decide +kernel
theorem dX10_number_57 : decode cX10_number 57 = .ok (.bipush 57, 2) := by decide +kernel
theorem dX10_number_59 : decode cX10_number 59 = .ok (.if_icmp .gt 47, 3) := by decide +kernel
theorem dX10_number_62 : decode cX10_number 62 = .ok (.aload_n 0, 1) := by decide +kernel
theorem dX10_number_63 : decode cX10_number 63 = .ok (.getfield 22, 3) := by decide +kernel
theorem dX10_number_66 : decode cX10_number 66 = .ok (.iload 4, 2) := by decide +kernel
theorem dX10_number_68 : decode cX10_number 68 = .ok (.isub, 1) := by decide +kernel
theorem dX10_number_69 : decode cX10_number 69 = .ok (.iload_n 1, 1) := by decide +kernel
theorem dX10_number_70 : decode cX10_number 70 = .ok (.if_icmp .ge 23, 3) := by decide +kernel
theorem dX10_number_73 : decode cX10_number 73 = .ok (.iload 5, 2) := by decide +kernel
theorem dX10_number_75 : decode cX10_number 75 = .ok (.bipush 10, 2) := by decide +kernel
theorem dX10_number_77 : decode cX10_number 77 = .ok (.imul, 1) := by decide +kernel
theorem dX10_number_78 : decode cX10_number 78 = .ok (.aload_n 0, 1) := by decide +kernel
theorem dX10_number_79 : decode cX10_number 79 = .ok (.getfield 11, 3) := by decide +kernel
theorem dX10_number_82 : decode cX10_number 82 = .ok (.aload_n 0, 1) := by decide +kernel
theorem dX10_number_83 : decode cX10_number 83 = .ok (.getfield 22, 3) := by decide +kernel
theorem dX10_number_86 : decode cX10_number 86 = .ok (.baload, 1) := by decide +kernel
theorem dX10_number_87 : decode cX10_number 87 = .ok (.bipush 48, 2) := by decide +kernel
theorem dX10_number_89 : decode cX10_number 89 = .ok (.isub, 1) := by decide +kernel
theorem dX10_number_90 : decode cX10_number 90 = .ok (.iadd, 1) := by decide +kernel
theorem dX10_number_91 : decode cX10_number 91 = .ok (.istore 5, 2) := by decide +kernel
theorem dX10_number_93 : decode cX10_number 93 = .ok (.aload_n 0, 1) := by decide +kernel
theorem dX10_number_94 : decode cX10_number 94 = .ok (.dup, 1) := by decide +kernel
theorem dX10_number_95 : decode cX10_number 95 = .ok (.getfield 22, 3) := by decide +kernel
theorem dX10_number_98 : decode cX10_number 98 = .ok (.iconst 1, 1) := by decide +kernel
theorem dX10_number_99 : decode cX10_number 99 = .ok (.iadd, 1) := by decide +kernel
theorem dX10_number_100 : decode cX10_number 100 = .ok (.putfield 22, 3) := by decide +kernel
theorem dX10_number_103 : decode cX10_number 103 = .ok (.goto (-80), 3) := by decide +kernel
theorem dX10_number_106 : decode cX10_number 106 = .ok (.aload_n 0, 1) := by decide +kernel
theorem dX10_number_107 : decode cX10_number 107 = .ok (.getfield 22, 3) := by decide +kernel
theorem dX10_number_110 : decode cX10_number 110 = .ok (.iload 4, 2) := by decide +kernel
theorem dX10_number_112 : decode cX10_number 112 = .ok (.isub, 1) := by decide +kernel
theorem dX10_number_113 : decode cX10_number 113 = .ok (.istore 6, 2) := by decide +kernel
theorem dX10_number_115 : decode cX10_number 115 = .ok (.iload 6, 2) := by decide +kernel
theorem dX10_number_117 : decode cX10_number 117 = .ok (.ifCond .eq 21, 3) := by decide +kernel
theorem dX10_number_120 : decode cX10_number 120 = .ok (.iload 6, 2) := by decide +kernel
theorem dX10_number_122 : decode cX10_number 122 = .ok (.iload_n 1, 1) := by decide +kernel
theorem dX10_number_123 : decode cX10_number 123 = .ok (.if_icmp .gt 15, 3) := by decide +kernel
theorem dX10_number_126 : decode cX10_number 126 = .ok (.iload 5, 2) := by decide +kernel
theorem dX10_number_128 : decode cX10_number 128 = .ok (.iload_n 2, 1) := by decide +kernel
theorem dX10_number_129 : decode cX10_number 129 = .ok (.if_icmp .lt 9, 3) := by decide +kernel
theorem dX10_number_132 : decode cX10_number 132 = .ok (.iload 5, 2) := by decide +kernel
theorem dX10_number_134 : decode cX10_number 134 = .ok (.iload_n 3, 1) := by decide +kernel
theorem dX10_number_135 : decode cX10_number 135 = .ok (.if_icmp .le 11, 3) := by decide +kernel
theorem dX10_number_138 : decode cX10_number 138 = .ok (.aload_n 0, 1) := by decide +kernel
theorem dX10_number_139 : decode cX10_number 139 = .ok (.iload 4, 2) := by decide +kernel
theorem dX10_number_141 : decode cX10_number 141 = .ok (.invokevirtual 28, 3) := by decide +kernel
theorem dX10_number_144 : decode cX10_number 144 = .ok (.iconst (-1), 1) := by decide +kernel
theorem dX10_number_145 : decode cX10_number 145 = .ok (.ireturn, 1) := by decide +kernel
theorem dX10_number_146 : decode cX10_number 146 = .ok (.iload 5, 2) := by decide +kernel
theorem dX10_number_148 : decode cX10_number 148 = .ok (.ireturn, 1) := by decide +kernel
theorem dX10_goesOn_0 : decode cX10_goesOn 0 = .ok (.aload_n 0, 1) := by decide +kernel
theorem dX10_goesOn_1 : decode cX10_goesOn 1 = .ok (.getfield 15, 3) := by decide +kernel
theorem dX10_goesOn_4 : decode cX10_goesOn 4 = .ok (.iconst (-1), 1) := by decide +kernel
theorem dX10_goesOn_5 : decode cX10_goesOn 5 = .ok (.if_icmp .eq 5, 3) := by decide +kernel
theorem dX10_goesOn_8 : decode cX10_goesOn 8 = .ok (.iconst 0, 1) := by decide +kernel
theorem dX10_goesOn_9 : decode cX10_goesOn 9 = .ok (.ireturn, 1) := by decide +kernel
theorem dX10_goesOn_10 : decode cX10_goesOn 10 = .ok (.aload_n 0, 1) := by decide +kernel
theorem dX10_goesOn_11 : decode cX10_goesOn 11 = .ok (.invokevirtual 25, 3) := by decide +kernel
theorem dX10_goesOn_14 : decode cX10_goesOn 14 = .ok (.aload_n 0, 1) := by decide +kernel
theorem dX10_goesOn_15 : decode cX10_goesOn 15 = .ok (.getfield 22, 3) := by decide +kernel
theorem dX10_goesOn_18 : decode cX10_goesOn 18 = .ok (.aload_n 0, 1) := by decide +kernel
theorem dX10_goesOn_19 : decode cX10_goesOn 19 = .ok (.getfield 19, 3) := by decide +kernel
theorem dX10_goesOn_22 : decode cX10_goesOn 22 = .ok (.if_icmp .lt 5, 3) := by decide +kernel
theorem dX10_goesOn_25 : decode cX10_goesOn 25 = .ok (.iconst 0, 1) := by decide +kernel
theorem dX10_goesOn_26 : decode cX10_goesOn 26 = .ok (.ireturn, 1) := by decide +kernel
theorem dX10_goesOn_27 : decode cX10_goesOn 27 = .ok (.aload_n 0, 1) := by decide +kernel
theorem dX10_goesOn_28 : decode cX10_goesOn 28 = .ok (.getfield 11, 3) := by decide +kernel
theorem dX10_goesOn_31 : decode cX10_goesOn 31 = .ok (.aload_n 0, 1) := by decide +kernel
theorem dX10_goesOn_32 : decode cX10_goesOn 32 = .ok (.getfield 22, 3) := by decide +kernel
theorem dX10_goesOn_35 : decode cX10_goesOn 35 = .ok (.baload, 1) := by decide +kernel
theorem dX10_goesOn_36 : decode cX10_goesOn 36 = .ok (.bipush 59, 2) := by decide +kernel
theorem dX10_goesOn_38 : decode cX10_goesOn 38 = .ok (.if_icmp .eq 13, 3) := by decide +kernel
theorem dX10_goesOn_41 : decode cX10_goesOn 41 = .ok (.aload_n 0, 1) := by decide +kernel
theorem dX10_goesOn_42 : decode cX10_goesOn 42 = .ok (.aload_n 0, 1) := by decide +kernel
theorem dX10_goesOn_43 : decode cX10_goesOn 43 = .ok (.getfield 22, 3) := by decide +kernel
theorem dX10_goesOn_46 : decode cX10_goesOn 46 = .ok (.invokevirtual 28, 3) := by decide +kernel
theorem dX10_goesOn_49 : decode cX10_goesOn 49 = .ok (.iconst 0, 1) := by decide +kernel
theorem dX10_goesOn_50 : decode cX10_goesOn 50 = .ok (.ireturn, 1) := by decide +kernel
theorem dX10_goesOn_51 : decode cX10_goesOn 51 = .ok (.aload_n 0, 1) := by decide +kernel
theorem dX10_goesOn_52 : decode cX10_goesOn 52 = .ok (.dup, 1) := by decide +kernel
theorem dX10_goesOn_53 : decode cX10_goesOn 53 = .ok (.getfield 22, 3) := by decide +kernel
theorem dX10_goesOn_56 : decode cX10_goesOn 56 = .ok (.iconst 1, 1) := by decide +kernel
theorem dX10_goesOn_57 : decode cX10_goesOn 57 = .ok (.iadd, 1) := by decide +kernel
theorem dX10_goesOn_58 : decode cX10_goesOn 58 = .ok (.putfield 22, 3) := by decide +kernel
theorem dX10_goesOn_61 : decode cX10_goesOn 61 = .ok (.iconst 1, 1) := by decide +kernel
theorem dX10_goesOn_62 : decode cX10_goesOn 62 = .ok (.ireturn, 1) := by decide +kernel
theorem dX11_init_0 : decode cX11_init 0 = .ok (.aload_n 0, 1) := by decide +kernel
theorem dX11_init_1 : decode cX11_init 1 = .ok (.invokespecial 3, 3) := by decide +kernel
theorem dX11_init_4 : decode cX11_init 4 = .ok (.aload_n 0, 1) := by decide +kernel
theorem dX11_init_5 : decode cX11_init 5 = .ok (.iconst 5, 1) := by decide +kernel
theorem dX11_init_6 : decode cX11_init 6 = .ok (.newarray .int, 2) := by decide +kernel
theorem dX11_init_8 : decode cX11_init 8 = .ok (.putfield 11, 3) := by decide +kernel
theorem dX11_init_11 : decode cX11_init 11 = .ok (.aload_n 0, 1) := by decide +kernel
theorem dX11_init_12 : decode cX11_init 12 = .ok (.iconst 5, 1) := by decide +kernel
theorem dX11_init_13 : decode cX11_init 13 = .ok (.newarray .int, 2) := by decide +kernel
theorem dX11_init_15 : decode cX11_init 15 = .ok (.putfield 15, 3) := by decide +kernel
theorem dX11_init_18 : decode cX11_init 18 = .ok (.aload_n 0, 1) := by decide +kernel
theorem dX11_init_19 : decode cX11_init 19 = .ok (.iconst 5, 1) := by decide +kernel
theorem dX11_init_20 : decode cX11_init 20 = .ok (.newarray .int, 2) := by decide +kernel
theorem dX11_init_22 : decode cX11_init 22 = .ok (.putfield 18, 3) := by decide +kernel
theorem dX11_init_25 : decode cX11_init 25 = .ok (.return_, 1) := by decide +kernel
theorem dX11_add_0 : decode cX11_add 0 = .ok (.aload_n 0, 1) := by decide +kernel
theorem dX11_add_1 : decode cX11_add 1 = .ok (.getfield 11, 3) := by decide +kernel
theorem dX11_add_4 : decode cX11_add 4 = .ok (.aload_n 0, 1) := by decide +kernel
theorem dX11_add_5 : decode cX11_add 5 = .ok (.getfield 21, 3) := by decide +kernel
theorem dX11_add_8 : decode cX11_add 8 = .ok (.iload_n 1, 1) := by decide +kernel
theorem dX11_add_9 : decode cX11_add 9 = .ok (.iastore, 1) := by decide +kernel
theorem dX11_add_10 : decode cX11_add 10 = .ok (.aload_n 0, 1) := by decide +kernel
theorem dX11_add_11 : decode cX11_add 11 = .ok (.dup, 1) := by decide +kernel
theorem dX11_add_12 : decode cX11_add 12 = .ok (.getfield 21, 3) := by decide +kernel
theorem dX11_add_15 : decode cX11_add 15 = .ok (.iconst 1, 1) := by decide +kernel
theorem dX11_add_16 : decode cX11_add 16 = .ok (.iadd, 1) := by decide +kernel
theorem dX11_add_17 : decode cX11_add 17 = .ok (.putfield 21, 3) := by decide +kernel
theorem dX11_add_20 : decode cX11_add 20 = .ok (.aload_n 0, 1) := by decide +kernel
theorem dX11_add_21 : decode cX11_add 21 = .ok (.getfield 21, 3) := by decide +kernel
theorem dX11_add_24 : decode cX11_add 24 = .ok (.iconst 1, 1) := by decide +kernel
theorem dX11_add_25 : decode cX11_add 25 = .ok (.isub, 1) := by decide +kernel
theorem dX11_add_26 : decode cX11_add 26 = .ok (.ireturn, 1) := by decide +kernel
theorem dX11_part_0 : decode cX11_part 0 = .ok (.iload_n 2, 1) := by decide +kernel
theorem dX11_part_1 : decode cX11_part 1 = .ok (.lookupswitch 41 #[(0, 27), (1, 34)], 27) := by decide +kernel
theorem dX11_part_28 : decode cX11_part 28 = .ok (.aload_n 0, 1) := by decide +kernel
theorem dX11_part_29 : decode cX11_part 29 = .ok (.getfield 11, 3) := by decide +kernel
theorem dX11_part_32 : decode cX11_part 32 = .ok (.iload_n 1, 1) := by decide +kernel
theorem dX11_part_33 : decode cX11_part 33 = .ok (.iaload, 1) := by decide +kernel
theorem dX11_part_34 : decode cX11_part 34 = .ok (.ireturn, 1) := by decide +kernel
theorem dX11_part_35 : decode cX11_part 35 = .ok (.aload_n 0, 1) := by decide +kernel
theorem dX11_part_36 : decode cX11_part 36 = .ok (.getfield 15, 3) := by decide +kernel
theorem dX11_part_39 : decode cX11_part 39 = .ok (.iload_n 1, 1) := by decide +kernel
theorem dX11_part_40 : decode cX11_part 40 = .ok (.iaload, 1) := by decide +kernel
theorem dX11_part_41 : decode cX11_part 41 = .ok (.ireturn, 1) := by decide +kernel
theorem dX11_part_42 : decode cX11_part 42 = .ok (.aload_n 0, 1) := by decide +kernel
theorem dX11_part_43 : decode cX11_part 43 = .ok (.getfield 18, 3) := by decide +kernel
theorem dX11_part_46 : decode cX11_part 46 = .ok (.iload_n 1, 1) := by decide +kernel
theorem dX11_part_47 : decode cX11_part 47 = .ok (.iaload, 1) := by decide +kernel
theorem dX11_part_48 : decode cX11_part 48 = .ok (.ireturn, 1) := by decide +kernel
theorem dX11_dirtInTanks_0 : decode cX11_dirtInTanks 0 = .ok (.iconst 0, 1) := by decide +kernel
theorem dX11_dirtInTanks_1 : decode cX11_dirtInTanks 1 = .ok (.istore_n 1, 1) := by decide +kernel
theorem dX11_dirtInTanks_2 : decode cX11_dirtInTanks 2 = .ok (.iconst 0, 1) := by decide +kernel
theorem dX11_dirtInTanks_3 : decode cX11_dirtInTanks 3 = .ok (.istore_n 2, 1) := by decide +kernel
theorem dX11_dirtInTanks_4 : decode cX11_dirtInTanks 4 = .ok (.iload_n 2, 1) := by decide +kernel
theorem dX11_dirtInTanks_5 : decode cX11_dirtInTanks 5 = .ok (.aload_n 0, 1) := by decide +kernel
theorem dX11_dirtInTanks_6 : decode cX11_dirtInTanks 6 = .ok (.getfield 21, 3) := by decide +kernel
theorem dX11_dirtInTanks_9 : decode cX11_dirtInTanks 9 = .ok (.if_icmp .ge 18, 3) := by decide +kernel
theorem dX11_dirtInTanks_12 : decode cX11_dirtInTanks 12 = .ok (.iload_n 1, 1) := by decide +kernel
theorem dX11_dirtInTanks_13 : decode cX11_dirtInTanks 13 = .ok (.aload_n 0, 1) := by decide +kernel
theorem dX11_dirtInTanks_14 : decode cX11_dirtInTanks 14 = .ok (.getfield 18, 3) := by decide +kernel
theorem dX11_dirtInTanks_17 : decode cX11_dirtInTanks 17 = .ok (.iload_n 2, 1) := by decide +kernel
theorem dX11_dirtInTanks_18 : decode cX11_dirtInTanks 18 = .ok (.iaload, 1) := by decide +kernel
theorem dX11_dirtInTanks_19 : decode cX11_dirtInTanks 19 = .ok (.iadd, 1) := by decide +kernel
theorem dX11_dirtInTanks_20 : decode cX11_dirtInTanks 20 = .ok (.istore_n 1, 1) := by decide +kernel
theorem dX11_dirtInTanks_21 : decode cX11_dirtInTanks 21 = .ok (.iinc 2 1, 3) := by decide +kernel
theorem dX11_dirtInTanks_24 : decode cX11_dirtInTanks 24 = .ok (.goto (-20), 3) := by decide +kernel
theorem dX11_dirtInTanks_27 : decode cX11_dirtInTanks 27 = .ok (.iload_n 1, 1) := by decide +kernel
theorem dX11_dirtInTanks_28 : decode cX11_dirtInTanks 28 = .ok (.ireturn, 1) := by decide +kernel
theorem dX11_takeOut_0 : decode cX11_takeOut 0 = .ok (.iload_n 1, 1) := by decide +kernel
theorem dX11_takeOut_1 : decode cX11_takeOut 1 = .ok (.istore_n 3, 1) := by decide +kernel
theorem dX11_takeOut_2 : decode cX11_takeOut 2 = .ok (.iconst 0, 1) := by decide +kernel
theorem dX11_takeOut_3 : decode cX11_takeOut 3 = .ok (.istore 4, 2) := by decide +kernel
theorem dX11_takeOut_5 : decode cX11_takeOut 5 = .ok (.iconst 0, 1) := by decide +kernel
theorem dX11_takeOut_6 : decode cX11_takeOut 6 = .ok (.istore 5, 2) := by decide +kernel
theorem dX11_takeOut_8 : decode cX11_takeOut 8 = .ok (.iload 5, 2) := by decide +kernel
theorem dX11_takeOut_10 : decode cX11_takeOut 10 = .ok (.aload_n 0, 1) := by decide +kernel
theorem dX11_takeOut_11 : decode cX11_takeOut 11 = .ok (.getfield 21, 3) := by decide +kernel
theorem dX11_takeOut_14 : decode cX11_takeOut 14 = .ok (.if_icmp .ge 99, 3) := by decide +kernel
theorem dX11_takeOut_17 : decode cX11_takeOut 17 = .ok (.iload_n 3, 1) := by decide +kernel
theorem dX11_takeOut_18 : decode cX11_takeOut 18 = .ok (.ifCond .le 95, 3) := by decide +kernel
theorem dX11_takeOut_21 : decode cX11_takeOut 21 = .ok (.aload_n 0, 1) := by decide +kernel
theorem dX11_takeOut_22 : decode cX11_takeOut 22 = .ok (.iload_n 2, 1) := by decide +kernel
theorem dX11_takeOut_23 : decode cX11_takeOut 23 = .ok (.invokevirtual 25, 3) := by decide +kernel
theorem dX11_takeOut_26 : decode cX11_takeOut 26 = .ok (.istore 6, 2) := by decide +kernel
theorem dX11_takeOut_28 : decode cX11_takeOut 28 = .ok (.iload 6, 2) := by decide +kernel
theorem dX11_takeOut_30 : decode cX11_takeOut 30 = .ok (.iconst (-1), 1) := by decide +kernel
theorem dX11_takeOut_31 : decode cX11_takeOut 31 = .ok (.if_icmp .ne 6, 3) := by decide +kernel
theorem dX11_takeOut_34 : decode cX11_takeOut 34 = .ok (.goto 79, 3) := by decide +kernel
theorem dX11_takeOut_37 : decode cX11_takeOut 37 = .ok (.iload_n 3, 1) := by decide +kernel
theorem dX11_takeOut_38 : decode cX11_takeOut 38 = .ok (.aload_n 0, 1) := by decide +kernel
theorem dX11_takeOut_39 : decode cX11_takeOut 39 = .ok (.getfield 15, 3) := by decide +kernel
theorem dX11_takeOut_42 : decode cX11_takeOut 42 = .ok (.iload 6, 2) := by decide +kernel
theorem dX11_takeOut_44 : decode cX11_takeOut 44 = .ok (.iaload, 1) := by decide +kernel
theorem dX11_takeOut_45 : decode cX11_takeOut 45 = .ok (.invokestatic 29, 3) := by decide +kernel
theorem dX11_takeOut_48 : decode cX11_takeOut 48 = .ok (.istore 7, 2) := by decide +kernel
theorem dX11_takeOut_50 : decode cX11_takeOut 50 = .ok (.aload_n 0, 1) := by decide +kernel
theorem dX11_takeOut_51 : decode cX11_takeOut 51 = .ok (.getfield 18, 3) := by decide +kernel
theorem dX11_takeOut_54 : decode cX11_takeOut 54 = .ok (.iload 6, 2) := by decide +kernel
theorem dX11_takeOut_56 : decode cX11_takeOut 56 = .ok (.iaload, 1) := by decide +kernel
theorem dX11_takeOut_57 : decode cX11_takeOut 57 = .ok (.iload 7, 2) := by decide +kernel
theorem dX11_takeOut_59 : decode cX11_takeOut 59 = .ok (.aload_n 0, 1) := by decide +kernel
theorem dX11_takeOut_60 : decode cX11_takeOut 60 = .ok (.getfield 15, 3) := by decide +kernel
theorem dX11_takeOut_63 : decode cX11_takeOut 63 = .ok (.iload 6, 2) := by decide +kernel
theorem dX11_takeOut_65 : decode cX11_takeOut 65 = .ok (.iaload, 1) := by decide +kernel
theorem dX11_takeOut_66 : decode cX11_takeOut 66 = .ok (.invokestatic 35, 3) := by decide +kernel
theorem dX11_takeOut_69 : decode cX11_takeOut 69 = .ok (.istore 8, 2) := by decide +kernel
theorem dX11_takeOut_71 : decode cX11_takeOut 71 = .ok (.aload_n 0, 1) := by decide +kernel
theorem dX11_takeOut_72 : decode cX11_takeOut 72 = .ok (.getfield 15, 3) := by decide +kernel
theorem dX11_takeOut_75 : decode cX11_takeOut 75 = .ok (.iload 6, 2) := by decide +kernel
theorem dX11_takeOut_77 : decode cX11_takeOut 77 = .ok (.dup2, 1) := by decide +kernel
theorem dX11_takeOut_78 : decode cX11_takeOut 78 = .ok (.iaload, 1) := by decide +kernel
theorem dX11_takeOut_79 : decode cX11_takeOut 79 = .ok (.iload 7, 2) := by decide +kernel
theorem dX11_takeOut_81 : decode cX11_takeOut 81 = .ok (.isub, 1) := by decide +kernel
theorem dX11_takeOut_82 : decode cX11_takeOut 82 = .ok (.iastore, 1) := by decide +kernel
theorem dX11_takeOut_83 : decode cX11_takeOut 83 = .ok (.aload_n 0, 1) := by decide +kernel
theorem dX11_takeOut_84 : decode cX11_takeOut 84 = .ok (.getfield 18, 3) := by decide +kernel
theorem dX11_takeOut_87 : decode cX11_takeOut 87 = .ok (.iload 6, 2) := by decide +kernel
theorem dX11_takeOut_89 : decode cX11_takeOut 89 = .ok (.dup2, 1) := by decide +kernel
theorem dX11_takeOut_90 : decode cX11_takeOut 90 = .ok (.iaload, 1) := by decide +kernel
theorem dX11_takeOut_91 : decode cX11_takeOut 91 = .ok (.iload 8, 2) := by decide +kernel
theorem dX11_takeOut_93 : decode cX11_takeOut 93 = .ok (.isub, 1) := by decide +kernel
theorem dX11_takeOut_94 : decode cX11_takeOut 94 = .ok (.iastore, 1) := by decide +kernel
theorem dX11_takeOut_95 : decode cX11_takeOut 95 = .ok (.iload_n 3, 1) := by decide +kernel
theorem dX11_takeOut_96 : decode cX11_takeOut 96 = .ok (.iload 7, 2) := by decide +kernel
theorem dX11_takeOut_98 : decode cX11_takeOut 98 = .ok (.isub, 1) := by decide +kernel
theorem dX11_takeOut_99 : decode cX11_takeOut 99 = .ok (.istore_n 3, 1) := by decide +kernel
theorem dX11_takeOut_100 : decode cX11_takeOut 100 = .ok (.iload 4, 2) := by decide +kernel
theorem dX11_takeOut_102 : decode cX11_takeOut 102 = .ok (.iload 8, 2) := by decide +kernel
theorem dX11_takeOut_104 : decode cX11_takeOut 104 = .ok (.iadd, 1) := by decide +kernel
theorem dX11_takeOut_105 : decode cX11_takeOut 105 = .ok (.istore 4, 2) := by decide +kernel
theorem dX11_takeOut_107 : decode cX11_takeOut 107 = .ok (.iinc 5 1, 3) := by decide +kernel
theorem dX11_takeOut_110 : decode cX11_takeOut 110 = .ok (.goto (-102), 3) := by decide +kernel
theorem dX11_takeOut_113 : decode cX11_takeOut 113 = .ok (.aload_n 0, 1) := by decide +kernel
theorem dX11_takeOut_114 : decode cX11_takeOut 114 = .ok (.iload_n 3, 1) := by decide +kernel
theorem dX11_takeOut_115 : decode cX11_takeOut 115 = .ok (.putfield 39, 3) := by decide +kernel
theorem dX11_takeOut_118 : decode cX11_takeOut 118 = .ok (.aload_n 0, 1) := by decide +kernel
theorem dX11_takeOut_119 : decode cX11_takeOut 119 = .ok (.dup, 1) := by decide +kernel
theorem dX11_takeOut_120 : decode cX11_takeOut 120 = .ok (.getfield 42, 3) := by decide +kernel
theorem dX11_takeOut_123 : decode cX11_takeOut 123 = .ok (.iload_n 3, 1) := by decide +kernel
theorem dX11_takeOut_124 : decode cX11_takeOut 124 = .ok (.iadd, 1) := by decide +kernel
theorem dX11_takeOut_125 : decode cX11_takeOut 125 = .ok (.putfield 42, 3) := by decide +kernel
theorem dX11_takeOut_128 : decode cX11_takeOut 128 = .ok (.iload 4, 2) := by decide +kernel
theorem dX11_takeOut_130 : decode cX11_takeOut 130 = .ok (.ireturn, 1) := by decide +kernel
theorem dX11_dirtiest_0 : decode cX11_dirtiest 0 = .ok (.iconst (-1), 1) := by decide +kernel
theorem dX11_dirtiest_1 : decode cX11_dirtiest 1 = .ok (.istore_n 2, 1) := by decide +kernel
theorem dX11_dirtiest_2 : decode cX11_dirtiest 2 = .ok (.iconst 0, 1) := by decide +kernel
theorem dX11_dirtiest_3 : decode cX11_dirtiest 3 = .ok (.istore_n 3, 1) := by decide +kernel
theorem dX11_dirtiest_4 : decode cX11_dirtiest 4 = .ok (.iload_n 3, 1) := by decide +kernel
theorem dX11_dirtiest_5 : decode cX11_dirtiest 5 = .ok (.aload_n 0, 1) := by decide +kernel
theorem dX11_dirtiest_6 : decode cX11_dirtiest 6 = .ok (.getfield 21, 3) := by decide +kernel
theorem dX11_dirtiest_9 : decode cX11_dirtiest 9 = .ok (.if_icmp .ge 71, 3) := by decide +kernel
theorem dX11_dirtiest_12 : decode cX11_dirtiest 12 = .ok (.aload_n 0, 1) := by decide +kernel
theorem dX11_dirtiest_13 : decode cX11_dirtiest 13 = .ok (.getfield 15, 3) := by decide +kernel
theorem dX11_dirtiest_16 : decode cX11_dirtiest 16 = .ok (.iload_n 3, 1) := by decide +kernel
theorem dX11_dirtiest_17 : decode cX11_dirtiest 17 = .ok (.iaload, 1) := by decide +kernel
theorem dX11_dirtiest_18 : decode cX11_dirtiest 18 = .ok (.ifCond .le 32, 3) := by decide +kernel
theorem dX11_dirtiest_21 : decode cX11_dirtiest 21 = .ok (.ldc2_w 45, 3) := by decide +kernel
theorem dX11_dirtiest_24 : decode cX11_dirtiest 24 = .ok (.aload_n 0, 1) := by decide +kernel
theorem dX11_dirtiest_25 : decode cX11_dirtiest 25 = .ok (.getfield 18, 3) := by decide +kernel
theorem dX11_dirtiest_28 : decode cX11_dirtiest 28 = .ok (.iload_n 3, 1) := by decide +kernel
theorem dX11_dirtiest_29 : decode cX11_dirtiest 29 = .ok (.iaload, 1) := by decide +kernel
theorem dX11_dirtiest_30 : decode cX11_dirtiest 30 = .ok (.i2l, 1) := by decide +kernel
theorem dX11_dirtiest_31 : decode cX11_dirtiest 31 = .ok (.lmul, 1) := by decide +kernel
theorem dX11_dirtiest_32 : decode cX11_dirtiest 32 = .ok (.iload_n 1, 1) := by decide +kernel
theorem dX11_dirtiest_33 : decode cX11_dirtiest 33 = .ok (.i2l, 1) := by decide +kernel
theorem dX11_dirtiest_34 : decode cX11_dirtiest 34 = .ok (.aload_n 0, 1) := by decide +kernel
theorem dX11_dirtiest_35 : decode cX11_dirtiest 35 = .ok (.getfield 15, 3) := by decide +kernel
theorem dX11_dirtiest_38 : decode cX11_dirtiest 38 = .ok (.iload_n 3, 1) := by decide +kernel
theorem dX11_dirtiest_39 : decode cX11_dirtiest 39 = .ok (.iaload, 1) := by decide +kernel
theorem dX11_dirtiest_40 : decode cX11_dirtiest 40 = .ok (.i2l, 1) := by decide +kernel
theorem dX11_dirtiest_41 : decode cX11_dirtiest 41 = .ok (.lmul, 1) := by decide +kernel
theorem dX11_dirtiest_42 : decode cX11_dirtiest 42 = .ok (.lcmp, 1) := by decide +kernel
theorem dX11_dirtiest_43 : decode cX11_dirtiest 43 = .ok (.ifCond .gt 7, 3) := by decide +kernel
theorem dX11_dirtiest_46 : decode cX11_dirtiest 46 = .ok (.iconst 1, 1) := by decide +kernel
theorem dX11_dirtiest_47 : decode cX11_dirtiest 47 = .ok (.goto 4, 3) := by decide +kernel
theorem dX11_dirtiest_50 : decode cX11_dirtiest 50 = .ok (.iconst 0, 1) := by decide +kernel
theorem dX11_dirtiest_51 : decode cX11_dirtiest 51 = .ok (.istore 4, 2) := by decide +kernel
theorem dX11_dirtiest_53 : decode cX11_dirtiest 53 = .ok (.iload 4, 2) := by decide +kernel
theorem dX11_dirtiest_55 : decode cX11_dirtiest 55 = .ok (.ifCond .eq 19, 3) := by decide +kernel
theorem dX11_dirtiest_58 : decode cX11_dirtiest 58 = .ok (.iload_n 2, 1) := by decide +kernel
theorem dX11_dirtiest_59 : decode cX11_dirtiest 59 = .ok (.iconst (-1), 1) := by decide +kernel
theorem dX11_dirtiest_60 : decode cX11_dirtiest 60 = .ok (.if_icmp .eq 12, 3) := by decide +kernel
theorem dX11_dirtiest_63 : decode cX11_dirtiest 63 = .ok (.aload_n 0, 1) := by decide +kernel
theorem dX11_dirtiest_64 : decode cX11_dirtiest 64 = .ok (.iload_n 3, 1) := by decide +kernel
theorem dX11_dirtiest_65 : decode cX11_dirtiest 65 = .ok (.iload_n 2, 1) := by decide +kernel
theorem dX11_dirtiest_66 : decode cX11_dirtiest 66 = .ok (.invokevirtual 47, 3) := by decide +kernel
theorem dX11_dirtiest_69 : decode cX11_dirtiest 69 = .ok (.ifCond .eq 5, 3) := by decide +kernel
theorem dX11_dirtiest_72 : decode cX11_dirtiest 72 = .ok (.iload_n 3, 1) := by decide +kernel
theorem dX11_dirtiest_73 : decode cX11_dirtiest 73 = .ok (.istore_n 2, 1) := by decide +kernel
theorem dX11_dirtiest_74 : decode cX11_dirtiest 74 = .ok (.iinc 3 1, 3) := by decide +kernel
theorem dX11_dirtiest_77 : decode cX11_dirtiest 77 = .ok (.goto (-73), 3) := by decide +kernel
theorem dX11_dirtiest_80 : decode cX11_dirtiest 80 = .ok (.iload_n 2, 1) := by decide +kernel
theorem dX11_dirtiest_81 : decode cX11_dirtiest 81 = .ok (.ireturn, 1) := by decide +kernel
theorem dX11_isDirtier_0 : decode cX11_isDirtier 0 = .ok (.aload_n 0, 1) := by decide +kernel
theorem dX11_isDirtier_1 : decode cX11_isDirtier 1 = .ok (.getfield 18, 3) := by decide +kernel
theorem dX11_isDirtier_4 : decode cX11_isDirtier 4 = .ok (.iload_n 1, 1) := by decide +kernel
theorem dX11_isDirtier_5 : decode cX11_isDirtier 5 = .ok (.iaload, 1) := by decide +kernel
theorem dX11_isDirtier_6 : decode cX11_isDirtier 6 = .ok (.i2l, 1) := by decide +kernel
theorem dX11_isDirtier_7 : decode cX11_isDirtier 7 = .ok (.aload_n 0, 1) := by decide +kernel
theorem dX11_isDirtier_8 : decode cX11_isDirtier 8 = .ok (.getfield 15, 3) := by decide +kernel
theorem dX11_isDirtier_11 : decode cX11_isDirtier 11 = .ok (.iload_n 2, 1) := by decide +kernel
theorem dX11_isDirtier_12 : decode cX11_isDirtier 12 = .ok (.iaload, 1) := by decide +kernel
theorem dX11_isDirtier_13 : decode cX11_isDirtier 13 = .ok (.i2l, 1) := by decide +kernel
theorem dX11_isDirtier_14 : decode cX11_isDirtier 14 = .ok (.lmul, 1) := by decide +kernel
theorem dX11_isDirtier_15 : decode cX11_isDirtier 15 = .ok (.aload_n 0, 1) := by decide +kernel
theorem dX11_isDirtier_16 : decode cX11_isDirtier 16 = .ok (.getfield 18, 3) := by decide +kernel
theorem dX11_isDirtier_19 : decode cX11_isDirtier 19 = .ok (.iload_n 2, 1) := by decide +kernel
theorem dX11_isDirtier_20 : decode cX11_isDirtier 20 = .ok (.iaload, 1) := by decide +kernel
theorem dX11_isDirtier_21 : decode cX11_isDirtier 21 = .ok (.i2l, 1) := by decide +kernel
theorem dX11_isDirtier_22 : decode cX11_isDirtier 22 = .ok (.aload_n 0, 1) := by decide +kernel
theorem dX11_isDirtier_23 : decode cX11_isDirtier 23 = .ok (.getfield 15, 3) := by decide +kernel
theorem dX11_isDirtier_26 : decode cX11_isDirtier 26 = .ok (.iload_n 1, 1) := by decide +kernel
theorem dX11_isDirtier_27 : decode cX11_isDirtier 27 = .ok (.iaload, 1) := by decide +kernel
theorem dX11_isDirtier_28 : decode cX11_isDirtier 28 = .ok (.i2l, 1) := by decide +kernel
theorem dX11_isDirtier_29 : decode cX11_isDirtier 29 = .ok (.lmul, 1) := by decide +kernel
theorem dX11_isDirtier_30 : decode cX11_isDirtier 30 = .ok (.lcmp, 1) := by decide +kernel
theorem dX11_isDirtier_31 : decode cX11_isDirtier 31 = .ok (.ifCond .le 7, 3) := by decide +kernel
theorem dX11_isDirtier_34 : decode cX11_isDirtier 34 = .ok (.iconst 1, 1) := by decide +kernel
theorem dX11_isDirtier_35 : decode cX11_isDirtier 35 = .ok (.goto 4, 3) := by decide +kernel
theorem dX11_isDirtier_38 : decode cX11_isDirtier 38 = .ok (.iconst 0, 1) := by decide +kernel
theorem dX11_isDirtier_39 : decode cX11_isDirtier 39 = .ok (.ireturn, 1) := by decide +kernel
theorem dX11_partUp_0 : decode cX11_partUp 0 = .ok (.iload_n 2, 1) := by decide +kernel
theorem dX11_partUp_1 : decode cX11_partUp 1 = .ok (.ifCond .gt 7, 3) := by decide +kernel
theorem dX11_partUp_4 : decode cX11_partUp 4 = .ok (.iconst 0, 1) := by decide +kernel
theorem dX11_partUp_5 : decode cX11_partUp 5 = .ok (.goto 17, 3) := by decide +kernel
theorem dX11_partUp_8 : decode cX11_partUp 8 = .ok (.iload_n 0, 1) := by decide +kernel
theorem dX11_partUp_9 : decode cX11_partUp 9 = .ok (.i2l, 1) := by decide +kernel
theorem dX11_partUp_10 : decode cX11_partUp 10 = .ok (.iload_n 1, 1) := by decide +kernel
theorem dX11_partUp_11 : decode cX11_partUp 11 = .ok (.i2l, 1) := by decide +kernel
theorem dX11_partUp_12 : decode cX11_partUp 12 = .ok (.lmul, 1) := by decide +kernel
theorem dX11_partUp_13 : decode cX11_partUp 13 = .ok (.iload_n 2, 1) := by decide +kernel
theorem dX11_partUp_14 : decode cX11_partUp 14 = .ok (.i2l, 1) := by decide +kernel
theorem dX11_partUp_15 : decode cX11_partUp 15 = .ok (.ladd, 1) := by decide +kernel
theorem dX11_partUp_16 : decode cX11_partUp 16 = .ok (.lconst 1, 1) := by decide +kernel
theorem dX11_partUp_17 : decode cX11_partUp 17 = .ok (.lsub, 1) := by decide +kernel
theorem dX11_partUp_18 : decode cX11_partUp 18 = .ok (.iload_n 2, 1) := by decide +kernel
theorem dX11_partUp_19 : decode cX11_partUp 19 = .ok (.i2l, 1) := by decide +kernel
theorem dX11_partUp_20 : decode cX11_partUp 20 = .ok (.ldiv, 1) := by decide +kernel
theorem dX11_partUp_21 : decode cX11_partUp 21 = .ok (.l2i, 1) := by decide +kernel
theorem dX11_partUp_22 : decode cX11_partUp 22 = .ok (.ireturn, 1) := by decide +kernel
theorem dX11_putIn_0 : decode cX11_putIn 0 = .ok (.iconst 0, 1) := by decide +kernel
theorem dX11_putIn_1 : decode cX11_putIn 1 = .ok (.aload_n 0, 1) := by decide +kernel
theorem dX11_putIn_2 : decode cX11_putIn 2 = .ok (.getfield 15, 3) := by decide +kernel
theorem dX11_putIn_5 : decode cX11_putIn 5 = .ok (.iload_n 1, 1) := by decide +kernel
theorem dX11_putIn_6 : decode cX11_putIn 6 = .ok (.iaload, 1) := by decide +kernel
theorem dX11_putIn_7 : decode cX11_putIn 7 = .ok (.iload_n 2, 1) := by decide +kernel
theorem dX11_putIn_8 : decode cX11_putIn 8 = .ok (.iadd, 1) := by decide +kernel
theorem dX11_putIn_9 : decode cX11_putIn 9 = .ok (.aload_n 0, 1) := by decide +kernel
theorem dX11_putIn_10 : decode cX11_putIn 10 = .ok (.getfield 11, 3) := by decide +kernel
theorem dX11_putIn_13 : decode cX11_putIn 13 = .ok (.iload_n 1, 1) := by decide +kernel
theorem dX11_putIn_14 : decode cX11_putIn 14 = .ok (.iaload, 1) := by decide +kernel
theorem dX11_putIn_15 : decode cX11_putIn 15 = .ok (.isub, 1) := by decide +kernel
theorem dX11_putIn_16 : decode cX11_putIn 16 = .ok (.invokestatic 51, 3) := by decide +kernel
theorem dX11_putIn_19 : decode cX11_putIn 19 = .ok (.istore 4, 2) := by decide +kernel
theorem dX11_putIn_21 : decode cX11_putIn 21 = .ok (.iload_n 3, 1) := by decide +kernel
theorem dX11_putIn_22 : decode cX11_putIn 22 = .ok (.iload 4, 2) := by decide +kernel
theorem dX11_putIn_24 : decode cX11_putIn 24 = .ok (.iload_n 2, 1) := by decide +kernel
theorem dX11_putIn_25 : decode cX11_putIn 25 = .ok (.invokestatic 35, 3) := by decide +kernel
theorem dX11_putIn_28 : decode cX11_putIn 28 = .ok (.istore 5, 2) := by decide +kernel
theorem dX11_putIn_30 : decode cX11_putIn 30 = .ok (.aload_n 0, 1) := by decide +kernel
theorem dX11_putIn_31 : decode cX11_putIn 31 = .ok (.getfield 15, 3) := by decide +kernel
theorem dX11_putIn_34 : decode cX11_putIn 34 = .ok (.iload_n 1, 1) := by decide +kernel
theorem dX11_putIn_35 : decode cX11_putIn 35 = .ok (.dup2, 1) := by decide +kernel
theorem dX11_putIn_36 : decode cX11_putIn 36 = .ok (.iaload, 1) := by decide +kernel
theorem dX11_putIn_37 : decode cX11_putIn 37 = .ok (.iload_n 2, 1) := by decide +kernel
theorem dX11_putIn_38 : decode cX11_putIn 38 = .ok (.iload 4, 2) := by decide +kernel
theorem dX11_putIn_40 : decode cX11_putIn 40 = .ok (.isub, 1) := by decide +kernel
theorem dX11_putIn_41 : decode cX11_putIn 41 = .ok (.iadd, 1) := by decide +kernel
theorem dX11_putIn_42 : decode cX11_putIn 42 = .ok (.iastore, 1) := by decide +kernel
theorem dX11_putIn_43 : decode cX11_putIn 43 = .ok (.aload_n 0, 1) := by decide +kernel
theorem dX11_putIn_44 : decode cX11_putIn 44 = .ok (.getfield 18, 3) := by decide +kernel
theorem dX11_putIn_47 : decode cX11_putIn 47 = .ok (.iload_n 1, 1) := by decide +kernel
theorem dX11_putIn_48 : decode cX11_putIn 48 = .ok (.dup2, 1) := by decide +kernel
theorem dX11_putIn_49 : decode cX11_putIn 49 = .ok (.iaload, 1) := by decide +kernel
theorem dX11_putIn_50 : decode cX11_putIn 50 = .ok (.iload_n 3, 1) := by decide +kernel
theorem dX11_putIn_51 : decode cX11_putIn 51 = .ok (.iload 5, 2) := by decide +kernel
theorem dX11_putIn_53 : decode cX11_putIn 53 = .ok (.isub, 1) := by decide +kernel
theorem dX11_putIn_54 : decode cX11_putIn 54 = .ok (.iadd, 1) := by decide +kernel
theorem dX11_putIn_55 : decode cX11_putIn 55 = .ok (.iastore, 1) := by decide +kernel
theorem dX11_putIn_56 : decode cX11_putIn 56 = .ok (.aload_n 0, 1) := by decide +kernel
theorem dX11_putIn_57 : decode cX11_putIn 57 = .ok (.iload 4, 2) := by decide +kernel
theorem dX11_putIn_59 : decode cX11_putIn 59 = .ok (.iload 5, 2) := by decide +kernel
theorem dX11_putIn_61 : decode cX11_putIn 61 = .ok (.invokevirtual 54, 3) := by decide +kernel
theorem dX11_putIn_64 : decode cX11_putIn 64 = .ok (.iload 4, 2) := by decide +kernel
theorem dX11_putIn_66 : decode cX11_putIn 66 = .ok (.ireturn, 1) := by decide +kernel
theorem dX11_runOff_0 : decode cX11_runOff 0 = .ok (.aload_n 0, 1) := by decide +kernel
theorem dX11_runOff_1 : decode cX11_runOff 1 = .ok (.dup, 1) := by decide +kernel
theorem dX11_runOff_2 : decode cX11_runOff 2 = .ok (.getfield 58, 3) := by decide +kernel
theorem dX11_runOff_5 : decode cX11_runOff 5 = .ok (.iload_n 1, 1) := by decide +kernel
theorem dX11_runOff_6 : decode cX11_runOff 6 = .ok (.iadd, 1) := by decide +kernel
theorem dX11_runOff_7 : decode cX11_runOff 7 = .ok (.putfield 58, 3) := by decide +kernel
theorem dX11_runOff_10 : decode cX11_runOff 10 = .ok (.aload_n 0, 1) := by decide +kernel
theorem dX11_runOff_11 : decode cX11_runOff 11 = .ok (.dup, 1) := by decide +kernel
theorem dX11_runOff_12 : decode cX11_runOff 12 = .ok (.getfield 61, 3) := by decide +kernel
theorem dX11_runOff_15 : decode cX11_runOff 15 = .ok (.iload_n 2, 1) := by decide +kernel
theorem dX11_runOff_16 : decode cX11_runOff 16 = .ok (.iadd, 1) := by decide +kernel
theorem dX11_runOff_17 : decode cX11_runOff 17 = .ok (.putfield 61, 3) := by decide +kernel
theorem dX11_runOff_20 : decode cX11_runOff 20 = .ok (.return_, 1) := by decide +kernel
theorem dX11_giveBack_0 : decode cX11_giveBack 0 = .ok (.iload_n 1, 1) := by decide +kernel
theorem dX11_giveBack_1 : decode cX11_giveBack 1 = .ok (.ifCond .lt 22, 3) := by decide +kernel
theorem dX11_giveBack_4 : decode cX11_giveBack 4 = .ok (.iload_n 1, 1) := by decide +kernel
theorem dX11_giveBack_5 : decode cX11_giveBack 5 = .ok (.aload_n 0, 1) := by decide +kernel
theorem dX11_giveBack_6 : decode cX11_giveBack 6 = .ok (.getfield 21, 3) := by decide +kernel
theorem dX11_giveBack_9 : decode cX11_giveBack 9 = .ok (.if_icmp .ge 14, 3) := by decide +kernel
theorem dX11_giveBack_12 : decode cX11_giveBack 12 = .ok (.aload_n 0, 1) := by decide +kernel
theorem dX11_giveBack_13 : decode cX11_giveBack 13 = .ok (.iload_n 1, 1) := by decide +kernel
theorem dX11_giveBack_14 : decode cX11_giveBack 14 = .ok (.iload_n 2, 1) := by decide +kernel
theorem dX11_giveBack_15 : decode cX11_giveBack 15 = .ok (.iload_n 3, 1) := by decide +kernel
theorem dX11_giveBack_16 : decode cX11_giveBack 16 = .ok (.invokevirtual 64, 3) := by decide +kernel
theorem dX11_giveBack_19 : decode cX11_giveBack 19 = .ok (.pop, 1) := by decide +kernel
theorem dX11_giveBack_20 : decode cX11_giveBack 20 = .ok (.goto 9, 3) := by decide +kernel
theorem dX11_giveBack_23 : decode cX11_giveBack 23 = .ok (.aload_n 0, 1) := by decide +kernel
theorem dX11_giveBack_24 : decode cX11_giveBack 24 = .ok (.iload_n 2, 1) := by decide +kernel
theorem dX11_giveBack_25 : decode cX11_giveBack 25 = .ok (.iload_n 3, 1) := by decide +kernel
theorem dX11_giveBack_26 : decode cX11_giveBack 26 = .ok (.invokevirtual 54, 3) := by decide +kernel
theorem dX11_giveBack_29 : decode cX11_giveBack 29 = .ok (.return_, 1) := by decide +kernel
theorem dX11_washOut_0 : decode cX11_washOut 0 = .ok (.aload_n 0, 1) := by decide +kernel
theorem dX11_washOut_1 : decode cX11_washOut 1 = .ok (.dup, 1) := by decide +kernel
theorem dX11_washOut_2 : decode cX11_washOut 2 = .ok (.getfield 42, 3) := by decide +kernel
theorem dX11_washOut_5 : decode cX11_washOut 5 = .ok (.iload_n 1, 1) := by decide +kernel
theorem dX11_washOut_6 : decode cX11_washOut 6 = .ok (.iadd, 1) := by decide +kernel
theorem dX11_washOut_7 : decode cX11_washOut 7 = .ok (.putfield 42, 3) := by decide +kernel
theorem dX11_washOut_10 : decode cX11_washOut 10 = .ok (.aload_n 0, 1) := by decide +kernel
theorem dX11_washOut_11 : decode cX11_washOut 11 = .ok (.iload_n 1, 1) := by decide +kernel
theorem dX11_washOut_12 : decode cX11_washOut 12 = .ok (.iload_n 1, 1) := by decide +kernel
theorem dX11_washOut_13 : decode cX11_washOut 13 = .ok (.invokevirtual 54, 3) := by decide +kernel
theorem dX11_washOut_16 : decode cX11_washOut 16 = .ok (.return_, 1) := by decide +kernel
theorem dX12_init_0 : decode cX12_init 0 = .ok (.aload_n 0, 1) := by decide +kernel
theorem dX12_init_1 : decode cX12_init 1 = .ok (.invokespecial 1, 3) := by decide +kernel
theorem dX12_init_4 : decode cX12_init 4 = .ok (.aload_n 0, 1) := by decide +kernel
theorem dX12_init_5 : decode cX12_init 5 = .ok (.new 7, 3) := by decide +kernel
theorem dX12_init_8 : decode cX12_init 8 = .ok (.dup, 1) := by decide +kernel
theorem dX12_init_9 : decode cX12_init 9 = .ok (.invokespecial 9, 3) := by decide +kernel
theorem dX12_init_12 : decode cX12_init 12 = .ok (.putfield 10, 3) := by decide +kernel
theorem dX12_init_15 : decode cX12_init 15 = .ok (.aload_n 0, 1) := by decide +kernel
theorem dX12_init_16 : decode cX12_init 16 = .ok (.bipush 6, 2) := by decide +kernel
theorem dX12_init_18 : decode cX12_init 18 = .ok (.anewarray 16, 3) := by decide +kernel
theorem dX12_init_21 : decode cX12_init 21 = .ok (.putfield 18, 3) := by decide +kernel
theorem dX12_init_24 : decode cX12_init 24 = .ok (.aload_n 0, 1) := by decide +kernel
theorem dX12_init_25 : decode cX12_init 25 = .ok (.new 22, 3) := by decide +kernel
theorem dX12_init_28 : decode cX12_init 28 = .ok (.dup, 1) := by decide +kernel
theorem dX12_init_29 : decode cX12_init 29 = .ok (.bipush 20, 2) := by decide +kernel
theorem dX12_init_31 : decode cX12_init 31 = .ok (.invokespecial 24, 3) := by decide +kernel
theorem dX12_init_34 : decode cX12_init 34 = .ok (.putfield 27, 3) := by decide +kernel
theorem dX12_init_37 : decode cX12_init 37 = .ok (.aload_n 0, 1) := by decide +kernel
theorem dX12_init_38 : decode cX12_init 38 = .ok (.new 22, 3) := by decide +kernel
theorem dX12_init_41 : decode cX12_init 41 = .ok (.dup, 1) := by decide +kernel
theorem dX12_init_42 : decode cX12_init 42 = .ok (.bipush 20, 2) := by decide +kernel
theorem dX12_init_44 : decode cX12_init 44 = .ok (.invokespecial 24, 3) := by decide +kernel
theorem dX12_init_47 : decode cX12_init 47 = .ok (.putfield 31, 3) := by decide +kernel
theorem dX12_init_50 : decode cX12_init 50 = .ok (.aload_n 0, 1) := by decide +kernel
theorem dX12_init_51 : decode cX12_init 51 = .ok (.new 34, 3) := by decide +kernel
theorem dX12_init_54 : decode cX12_init 54 = .ok (.dup, 1) := by decide +kernel
theorem dX12_init_55 : decode cX12_init 55 = .ok (.invokespecial 36, 3) := by decide +kernel
theorem dX12_init_58 : decode cX12_init 58 = .ok (.putfield 37, 3) := by decide +kernel
theorem dX12_init_61 : decode cX12_init 61 = .ok (.aload_n 0, 1) := by decide +kernel
theorem dX12_init_62 : decode cX12_init 62 = .ok (.new 34, 3) := by decide +kernel
theorem dX12_init_65 : decode cX12_init 65 = .ok (.dup, 1) := by decide +kernel
theorem dX12_init_66 : decode cX12_init 66 = .ok (.invokespecial 36, 3) := by decide +kernel
theorem dX12_init_69 : decode cX12_init 69 = .ok (.putfield 41, 3) := by decide +kernel
theorem dX12_init_72 : decode cX12_init 72 = .ok (.aload_n 0, 1) := by decide +kernel
theorem dX12_init_73 : decode cX12_init 73 = .ok (.new 16, 3) := by decide +kernel
theorem dX12_init_76 : decode cX12_init 76 = .ok (.dup, 1) := by decide +kernel
theorem dX12_init_77 : decode cX12_init 77 = .ok (.invokespecial 44, 3) := by decide +kernel
theorem dX12_init_80 : decode cX12_init 80 = .ok (.putfield 45, 3) := by decide +kernel
theorem dX12_init_83 : decode cX12_init 83 = .ok (.aload_n 0, 1) := by decide +kernel
theorem dX12_init_84 : decode cX12_init 84 = .ok (.new 49, 3) := by decide +kernel
theorem dX12_init_87 : decode cX12_init 87 = .ok (.dup, 1) := by decide +kernel
theorem dX12_init_88 : decode cX12_init 88 = .ok (.invokespecial 51, 3) := by decide +kernel
theorem dX12_init_91 : decode cX12_init 91 = .ok (.putfield 52, 3) := by decide +kernel
theorem dX12_init_94 : decode cX12_init 94 = .ok (.aload_n 0, 1) := by decide +kernel
theorem dX12_init_95 : decode cX12_init 95 = .ok (.new 56, 3) := by decide +kernel
theorem dX12_init_98 : decode cX12_init 98 = .ok (.dup, 1) := by decide +kernel
theorem dX12_init_99 : decode cX12_init 99 = .ok (.invokespecial 58, 3) := by decide +kernel
theorem dX12_init_102 : decode cX12_init 102 = .ok (.putfield 59, 3) := by decide +kernel
theorem dX12_init_105 : decode cX12_init 105 = .ok (.aload_n 0, 1) := by decide +kernel
theorem dX12_init_106 : decode cX12_init 106 = .ok (.new 63, 3) := by decide +kernel
theorem dX12_init_109 : decode cX12_init 109 = .ok (.dup, 1) := by decide +kernel
theorem dX12_init_110 : decode cX12_init 110 = .ok (.invokespecial 65, 3) := by decide +kernel
theorem dX12_init_113 : decode cX12_init 113 = .ok (.putfield 66, 3) := by decide +kernel
theorem dX12_init_116 : decode cX12_init 116 = .ok (.aload_n 0, 1) := by decide +kernel
theorem dX12_init_117 : decode cX12_init 117 = .ok (.new 70, 3) := by decide +kernel
theorem dX12_init_120 : decode cX12_init 120 = .ok (.dup, 1) := by decide +kernel
theorem dX12_init_121 : decode cX12_init 121 = .ok (.invokespecial 72, 3) := by decide +kernel
theorem dX12_init_124 : decode cX12_init 124 = .ok (.putfield 73, 3) := by decide +kernel
theorem dX12_init_127 : decode cX12_init 127 = .ok (.aload_n 0, 1) := by decide +kernel
theorem dX12_init_128 : decode cX12_init 128 = .ok (.iconst 4, 1) := by decide +kernel
theorem dX12_init_129 : decode cX12_init 129 = .ok (.anewarray 77, 3) := by decide +kernel
theorem dX12_init_132 : decode cX12_init 132 = .ok (.putfield 79, 3) := by decide +kernel
theorem dX12_init_135 : decode cX12_init 135 = .ok (.aload_n 0, 1) := by decide +kernel
theorem dX12_init_136 : decode cX12_init 136 = .ok (.new 83, 3) := by decide +kernel
theorem dX12_init_139 : decode cX12_init 139 = .ok (.dup, 1) := by decide +kernel
theorem dX12_init_140 : decode cX12_init 140 = .ok (.invokespecial 85, 3) := by decide +kernel
theorem dX12_init_143 : decode cX12_init 143 = .ok (.putfield 86, 3) := by decide +kernel
theorem dX12_init_146 : decode cX12_init 146 = .ok (.aload_n 0, 1) := by decide +kernel
theorem dX12_init_147 : decode cX12_init 147 = .ok (.new 90, 3) := by decide +kernel
theorem dX12_init_150 : decode cX12_init 150 = .ok (.dup, 1) := by decide +kernel
theorem dX12_init_151 : decode cX12_init 151 = .ok (.invokespecial 92, 3) := by decide +kernel
theorem dX12_init_154 : decode cX12_init 154 = .ok (.putfield 93, 3) := by decide +kernel
theorem dX12_init_157 : decode cX12_init 157 = .ok (.aload_n 0, 1) := by decide +kernel
theorem dX12_init_158 : decode cX12_init 158 = .ok (.new 97, 3) := by decide +kernel
theorem dX12_init_161 : decode cX12_init 161 = .ok (.dup, 1) := by decide +kernel
theorem dX12_init_162 : decode cX12_init 162 = .ok (.invokespecial 99, 3) := by decide +kernel
theorem dX12_init_165 : decode cX12_init 165 = .ok (.putfield 100, 3) := by decide +kernel
theorem dX12_init_168 : decode cX12_init 168 = .ok (.iconst 0, 1) := by decide +kernel
theorem dX12_init_169 : decode cX12_init 169 = .ok (.istore_n 1, 1) := by decide +kernel
theorem dX12_init_170 : decode cX12_init 170 = .ok (.iload_n 1, 1) := by decide +kernel
theorem dX12_init_171 : decode cX12_init 171 = .ok (.bipush 6, 2) := by decide +kernel
theorem dX12_init_173 : decode cX12_init 173 = .ok (.if_icmp .ge 22, 3) := by decide +kernel
theorem dX12_init_176 : decode cX12_init 176 = .ok (.aload_n 0, 1) := by decide +kernel
theorem dX12_init_177 : decode cX12_init 177 = .ok (.getfield 18, 3) := by decide +kernel
theorem dX12_init_180 : decode cX12_init 180 = .ok (.iload_n 1, 1) := by decide +kernel
theorem dX12_init_181 : decode cX12_init 181 = .ok (.new 16, 3) := by decide +kernel
theorem dX12_init_184 : decode cX12_init 184 = .ok (.dup, 1) := by decide +kernel
theorem dX12_init_185 : decode cX12_init 185 = .ok (.invokespecial 44, 3) := by decide +kernel
theorem dX12_init_188 : decode cX12_init 188 = .ok (.aastore, 1) := by decide +kernel
theorem dX12_init_189 : decode cX12_init 189 = .ok (.iinc 1 1, 3) := by decide +kernel
theorem dX12_init_192 : decode cX12_init 192 = .ok (.goto (-22), 3) := by decide +kernel
theorem dX12_init_195 : decode cX12_init 195 = .ok (.iconst 0, 1) := by decide +kernel
theorem dX12_init_196 : decode cX12_init 196 = .ok (.istore_n 1, 1) := by decide +kernel
theorem dX12_init_197 : decode cX12_init 197 = .ok (.iload_n 1, 1) := by decide +kernel
theorem dX12_init_198 : decode cX12_init 198 = .ok (.iconst 4, 1) := by decide +kernel
theorem dX12_init_199 : decode cX12_init 199 = .ok (.if_icmp .ge 22, 3) := by decide +kernel
theorem dX12_init_202 : decode cX12_init 202 = .ok (.aload_n 0, 1) := by decide +kernel
theorem dX12_init_203 : decode cX12_init 203 = .ok (.getfield 79, 3) := by decide +kernel
theorem dX12_init_206 : decode cX12_init 206 = .ok (.iload_n 1, 1) := by decide +kernel
theorem dX12_init_207 : decode cX12_init 207 = .ok (.new 77, 3) := by decide +kernel
theorem dX12_init_210 : decode cX12_init 210 = .ok (.dup, 1) := by decide +kernel
theorem dX12_init_211 : decode cX12_init 211 = .ok (.invokespecial 104, 3) := by decide +kernel
theorem dX12_init_214 : decode cX12_init 214 = .ok (.aastore, 1) := by decide +kernel
theorem dX12_init_215 : decode cX12_init 215 = .ok (.iinc 1 1, 3) := by decide +kernel
theorem dX12_init_218 : decode cX12_init 218 = .ok (.goto (-21), 3) := by decide +kernel
theorem dX12_init_221 : decode cX12_init 221 = .ok (.return_, 1) := by decide +kernel
theorem dX12_feed_0 : decode cX12_feed 0 = .ok (.aload_n 0, 1) := by decide +kernel
theorem dX12_feed_1 : decode cX12_feed 1 = .ok (.getfield 10, 3) := by decide +kernel
theorem dX12_feed_4 : decode cX12_feed 4 = .ok (.invokevirtual 105, 3) := by decide +kernel
theorem dX12_feed_7 : decode cX12_feed 7 = .ok (.ifCond .ne 5, 3) := by decide +kernel
theorem dX12_feed_10 : decode cX12_feed 10 = .ok (.iconst (-1), 1) := by decide +kernel
theorem dX12_feed_11 : decode cX12_feed 11 = .ok (.ireturn, 1) := by decide +kernel
theorem dX12_feed_12 : decode cX12_feed 12 = .ok (.aload_n 0, 1) := by decide +kernel
theorem dX12_feed_13 : decode cX12_feed 13 = .ok (.getfield 10, 3) := by decide +kernel
theorem dX12_feed_16 : decode cX12_feed 16 = .ok (.iload_n 1, 1) := by decide +kernel
theorem dX12_feed_17 : decode cX12_feed 17 = .ok (.invokevirtual 109, 3) := by decide +kernel
theorem dX12_feed_20 : decode cX12_feed 20 = .ok (.aload_n 0, 1) := by decide +kernel
theorem dX12_feed_21 : decode cX12_feed 21 = .ok (.getfield 10, 3) := by decide +kernel
theorem dX12_feed_24 : decode cX12_feed 24 = .ok (.iload_n 2, 1) := by decide +kernel
theorem dX12_feed_25 : decode cX12_feed 25 = .ok (.invokevirtual 109, 3) := by decide +kernel
theorem dX12_feed_28 : decode cX12_feed 28 = .ok (.aload_n 0, 1) := by decide +kernel
theorem dX12_feed_29 : decode cX12_feed 29 = .ok (.getfield 10, 3) := by decide +kernel
theorem dX12_feed_32 : decode cX12_feed 32 = .ok (.iload_n 3, 1) := by decide +kernel
theorem dX12_feed_33 : decode cX12_feed 33 = .ok (.invokevirtual 109, 3) := by decide +kernel
theorem dX12_feed_36 : decode cX12_feed 36 = .ok (.aload_n 0, 1) := by decide +kernel
theorem dX12_feed_37 : decode cX12_feed 37 = .ok (.getfield 10, 3) := by decide +kernel
theorem dX12_feed_40 : decode cX12_feed 40 = .ok (.iload 4, 2) := by decide +kernel
theorem dX12_feed_42 : decode cX12_feed 42 = .ok (.invokevirtual 109, 3) := by decide +kernel
theorem dX12_feed_45 : decode cX12_feed 45 = .ok (.aload_n 0, 1) := by decide +kernel
theorem dX12_feed_46 : decode cX12_feed 46 = .ok (.getfield 10, 3) := by decide +kernel
theorem dX12_feed_49 : decode cX12_feed 49 = .ok (.iload 5, 2) := by decide +kernel
theorem dX12_feed_51 : decode cX12_feed 51 = .ok (.invokevirtual 109, 3) := by decide +kernel
theorem dX12_feed_54 : decode cX12_feed 54 = .ok (.aload_n 0, 1) := by decide +kernel
theorem dX12_feed_55 : decode cX12_feed 55 = .ok (.getfield 10, 3) := by decide +kernel
theorem dX12_feed_58 : decode cX12_feed 58 = .ok (.getfield 112, 3) := by decide +kernel
theorem dX12_feed_61 : decode cX12_feed 61 = .ok (.ireturn, 1) := by decide +kernel
theorem dX12_end_0 : decode cX12_end 0 = .ok (.iload_n 1, 1) := by decide +kernel
theorem dX12_end_1 : decode cX12_end 1 = .ok (.iconst 0, 1) := by decide +kernel
theorem dX12_end_2 : decode cX12_end 2 = .ok (.aload_n 0, 1) := by decide +kernel
theorem dX12_end_3 : decode cX12_end 3 = .ok (.getfield 10, 3) := by decide +kernel
theorem dX12_end_6 : decode cX12_end 6 = .ok (.getfield 112, 3) := by decide +kernel
theorem dX12_end_9 : decode cX12_end 9 = .ok (.invokestatic 116, 3) := by decide +kernel
theorem dX12_end_12 : decode cX12_end 12 = .ok (.ifCond .ne 5, 3) := by decide +kernel
theorem dX12_end_15 : decode cX12_end 15 = .ok (.iconst 0, 1) := by decide +kernel
theorem dX12_end_16 : decode cX12_end 16 = .ok (.ireturn, 1) := by decide +kernel
theorem dX12_end_17 : decode cX12_end 17 = .ok (.aload_n 0, 1) := by decide +kernel
theorem dX12_end_18 : decode cX12_end 18 = .ok (.getfield 10, 3) := by decide +kernel
theorem dX12_end_21 : decode cX12_end 21 = .ok (.iload_n 1, 1) := by decide +kernel
theorem dX12_end_22 : decode cX12_end 22 = .ok (.putfield 112, 3) := by decide +kernel
theorem dX12_end_25 : decode cX12_end 25 = .ok (.iconst 1, 1) := by decide +kernel
theorem dX12_end_26 : decode cX12_end 26 = .ok (.ireturn, 1) := by decide +kernel
theorem dX12_cloth_0 : decode cX12_cloth 0 = .ok (.iload_n 1, 1) := by decide +kernel
theorem dX12_cloth_1 : decode cX12_cloth 1 = .ok (.iconst 0, 1) := by decide +kernel
theorem dX12_cloth_2 : decode cX12_cloth 2 = .ok (.sipush 255, 3) := by decide +kernel
theorem dX12_cloth_5 : decode cX12_cloth 5 = .ok (.invokestatic 116, 3) := by decide +kernel
theorem dX12_cloth_8 : decode cX12_cloth 8 = .ok (.ifCond .eq 28, 3) := by decide +kernel
theorem dX12_cloth_11 : decode cX12_cloth 11 = .ok (.iload_n 2, 1) := by decide +kernel
theorem dX12_cloth_12 : decode cX12_cloth 12 = .ok (.iconst 0, 1) := by decide +kernel
theorem dX12_cloth_13 : decode cX12_cloth 13 = .ok (.sipush 255, 3) := by decide +kernel
theorem dX12_cloth_16 : decode cX12_cloth 16 = .ok (.invokestatic 116, 3) := by decide +kernel
theorem dX12_cloth_19 : decode cX12_cloth 19 = .ok (.ifCond .eq 17, 3) := by decide +kernel
theorem dX12_cloth_22 : decode cX12_cloth 22 = .ok (.iload_n 3, 1) := by decide +kernel
theorem dX12_cloth_23 : decode cX12_cloth 23 = .ok (.iconst 0, 1) := by decide +kernel
theorem dX12_cloth_24 : decode cX12_cloth 24 = .ok (.bipush 9, 2) := by decide +kernel
theorem dX12_cloth_26 : decode cX12_cloth 26 = .ok (.invokestatic 116, 3) := by decide +kernel
theorem dX12_cloth_29 : decode cX12_cloth 29 = .ok (.ifCond .eq 7, 3) := by decide +kernel
theorem dX12_cloth_32 : decode cX12_cloth 32 = .ok (.iconst 1, 1) := by decide +kernel
theorem dX12_cloth_33 : decode cX12_cloth 33 = .ok (.goto 4, 3) := by decide +kernel
theorem dX12_cloth_36 : decode cX12_cloth 36 = .ok (.iconst 0, 1) := by decide +kernel
theorem dX12_cloth_37 : decode cX12_cloth 37 = .ok (.invokestatic 120, 3) := by decide +kernel
theorem dX12_cloth_40 : decode cX12_cloth 40 = .ok (.aload_n 0, 1) := by decide +kernel
theorem dX12_cloth_41 : decode cX12_cloth 41 = .ok (.getfield 124, 3) := by decide +kernel
theorem dX12_cloth_44 : decode cX12_cloth 44 = .ok (.bipush 6, 2) := by decide +kernel
theorem dX12_cloth_46 : decode cX12_cloth 46 = .ok (.invokestatic 127, 3) := by decide +kernel
theorem dX12_cloth_49 : decode cX12_cloth 49 = .ok (.aload_n 0, 1) := by decide +kernel
theorem dX12_cloth_50 : decode cX12_cloth 50 = .ok (.getfield 18, 3) := by decide +kernel
theorem dX12_cloth_53 : decode cX12_cloth 53 = .ok (.aload_n 0, 1) := by decide +kernel
theorem dX12_cloth_54 : decode cX12_cloth 54 = .ok (.getfield 124, 3) := by decide +kernel
theorem dX12_cloth_57 : decode cX12_cloth 57 = .ok (.aaload, 1) := by decide +kernel
theorem dX12_cloth_58 : decode cX12_cloth 58 = .ok (.iload_n 1, 1) := by decide +kernel
theorem dX12_cloth_59 : decode cX12_cloth 59 = .ok (.iload_n 2, 1) := by decide +kernel
theorem dX12_cloth_60 : decode cX12_cloth 60 = .ok (.iload_n 3, 1) := by decide +kernel
theorem dX12_cloth_61 : decode cX12_cloth 61 = .ok (.invokevirtual 131, 3) := by decide +kernel
theorem dX12_cloth_64 : decode cX12_cloth 64 = .ok (.aload_n 0, 1) := by decide +kernel
theorem dX12_cloth_65 : decode cX12_cloth 65 = .ok (.dup, 1) := by decide +kernel
theorem dX12_cloth_66 : decode cX12_cloth 66 = .ok (.getfield 124, 3) := by decide +kernel
theorem dX12_cloth_69 : decode cX12_cloth 69 = .ok (.dup_x1, 1) := by decide +kernel
theorem dX12_cloth_70 : decode cX12_cloth 70 = .ok (.iconst 1, 1) := by decide +kernel
theorem dX12_cloth_71 : decode cX12_cloth 71 = .ok (.iadd, 1) := by decide +kernel
theorem dX12_cloth_72 : decode cX12_cloth 72 = .ok (.putfield 124, 3) := by decide +kernel
theorem dX12_cloth_75 : decode cX12_cloth 75 = .ok (.ireturn, 1) := by decide +kernel
theorem dX12_recipe_0 : decode cX12_recipe 0 = .ok (.aload_n 0, 1) := by decide +kernel
theorem dX12_recipe_1 : decode cX12_recipe 1 = .ok (.getfield 10, 3) := by decide +kernel
theorem dX12_recipe_4 : decode cX12_recipe 4 = .ok (.invokevirtual 135, 3) := by decide +kernel
theorem dX12_recipe_7 : decode cX12_recipe 7 = .ok (.aload_n 0, 1) := by decide +kernel
theorem dX12_recipe_8 : decode cX12_recipe 8 = .ok (.getfield 31, 3) := by decide +kernel
theorem dX12_recipe_11 : decode cX12_recipe 11 = .ok (.aload_n 0, 1) := by decide +kernel
theorem dX12_recipe_12 : decode cX12_recipe 12 = .ok (.getfield 10, 3) := by decide +kernel
theorem dX12_recipe_15 : decode cX12_recipe 15 = .ok (.invokevirtual 138, 3) := by decide +kernel
theorem dX12_recipe_18 : decode cX12_recipe 18 = .ok (.aload_n 0, 1) := by decide +kernel
theorem dX12_recipe_19 : decode cX12_recipe 19 = .ok (.getfield 10, 3) := by decide +kernel
theorem dX12_recipe_22 : decode cX12_recipe 22 = .ok (.iconst 0, 1) := by decide +kernel
theorem dX12_recipe_23 : decode cX12_recipe 23 = .ok (.putfield 112, 3) := by decide +kernel
theorem dX12_recipe_26 : decode cX12_recipe 26 = .ok (.aload_n 0, 1) := by decide +kernel
theorem dX12_recipe_27 : decode cX12_recipe 27 = .ok (.getfield 10, 3) := by decide +kernel
theorem dX12_recipe_30 : decode cX12_recipe 30 = .ok (.getfield 142, 3) := by decide +kernel
theorem dX12_recipe_33 : decode cX12_recipe 33 = .ok (.iconst (-1), 1) := by decide +kernel
theorem dX12_recipe_34 : decode cX12_recipe 34 = .ok (.if_icmp .ne 7, 3) := by decide +kernel
theorem dX12_recipe_37 : decode cX12_recipe 37 = .ok (.iconst 1, 1) := by decide +kernel
theorem dX12_recipe_38 : decode cX12_recipe 38 = .ok (.goto 4, 3) := by decide +kernel
theorem dX12_recipe_41 : decode cX12_recipe 41 = .ok (.iconst 0, 1) := by decide +kernel
theorem dX12_recipe_42 : decode cX12_recipe 42 = .ok (.invokestatic 120, 3) := by decide +kernel
theorem dX12_recipe_45 : decode cX12_recipe 45 = .ok (.aload_n 0, 1) := by decide +kernel
theorem dX12_recipe_46 : decode cX12_recipe 46 = .ok (.getfield 27, 3) := by decide +kernel
theorem dX12_recipe_49 : decode cX12_recipe 49 = .ok (.astore_n 1, 1) := by decide +kernel
theorem dX12_recipe_50 : decode cX12_recipe 50 = .ok (.aload_n 0, 1) := by decide +kernel
theorem dX12_recipe_51 : decode cX12_recipe 51 = .ok (.aload_n 0, 1) := by decide +kernel
theorem dX12_recipe_52 : decode cX12_recipe 52 = .ok (.getfield 31, 3) := by decide +kernel
theorem dX12_recipe_55 : decode cX12_recipe 55 = .ok (.putfield 27, 3) := by decide +kernel
theorem dX12_recipe_58 : decode cX12_recipe 58 = .ok (.aload_n 0, 1) := by decide +kernel
theorem dX12_recipe_59 : decode cX12_recipe 59 = .ok (.aload_n 1, 1) := by decide +kernel
theorem dX12_recipe_60 : decode cX12_recipe 60 = .ok (.putfield 31, 3) := by decide +kernel
theorem dX12_recipe_63 : decode cX12_recipe 63 = .ok (.aload_n 0, 1) := by decide +kernel
theorem dX12_recipe_64 : decode cX12_recipe 64 = .ok (.getfield 27, 3) := by decide +kernel
theorem dX12_recipe_67 : decode cX12_recipe 67 = .ok (.getfield 145, 3) := by decide +kernel
theorem dX12_recipe_70 : decode cX12_recipe 70 = .ok (.ireturn, 1) := by decide +kernel
theorem dX12_fault_0 : decode cX12_fault 0 = .ok (.aload_n 0, 1) := by decide +kernel
theorem dX12_fault_1 : decode cX12_fault 1 = .ok (.getfield 10, 3) := by decide +kernel
theorem dX12_fault_4 : decode cX12_fault 4 = .ok (.getfield 142, 3) := by decide +kernel
theorem dX12_fault_7 : decode cX12_fault 7 = .ok (.ireturn, 1) := by decide +kernel
theorem dX12_look_0 : decode cX12_look 0 = .ok (.iload_n 1, 1) := by decide +kernel
theorem dX12_look_1 : decode cX12_look 1 = .ok (.aload_n 0, 1) := by decide +kernel
theorem dX12_look_2 : decode cX12_look 2 = .ok (.getfield 124, 3) := by decide +kernel
theorem dX12_look_5 : decode cX12_look 5 = .ok (.invokestatic 146, 3) := by decide +kernel
theorem dX12_look_8 : decode cX12_look 8 = .ok (.iload_n 2, 1) := by decide +kernel
theorem dX12_look_9 : decode cX12_look 9 = .ok (.ifCond .lt 7, 3) := by decide +kernel
theorem dX12_look_12 : decode cX12_look 12 = .ok (.iconst 1, 1) := by decide +kernel
theorem dX12_look_13 : decode cX12_look 13 = .ok (.goto 4, 3) := by decide +kernel
theorem dX12_look_16 : decode cX12_look 16 = .ok (.iconst 0, 1) := by decide +kernel
theorem dX12_look_17 : decode cX12_look 17 = .ok (.invokestatic 120, 3) := by decide +kernel
theorem dX12_look_20 : decode cX12_look 20 = .ok (.iload_n 3, 1) := by decide +kernel
theorem dX12_look_21 : decode cX12_look 21 = .ok (.iconst 4, 1) := by decide +kernel
theorem dX12_look_22 : decode cX12_look 22 = .ok (.invokestatic 149, 3) := by decide +kernel
theorem dX12_look_25 : decode cX12_look 25 = .ok (.aload_n 0, 1) := by decide +kernel
theorem dX12_look_26 : decode cX12_look 26 = .ok (.iload_n 1, 1) := by decide +kernel
theorem dX12_look_27 : decode cX12_look 27 = .ok (.iload_n 2, 1) := by decide +kernel
theorem dX12_look_28 : decode cX12_look 28 = .ok (.invokevirtual 152, 3) := by decide +kernel
theorem dX12_look_31 : decode cX12_look 31 = .ok (.aload_n 0, 1) := by decide +kernel
theorem dX12_look_32 : decode cX12_look 32 = .ok (.getfield 45, 3) := by decide +kernel
theorem dX12_look_35 : decode cX12_look 35 = .ok (.iload_n 3, 1) := by decide +kernel
theorem dX12_look_36 : decode cX12_look 36 = .ok (.invokevirtual 155, 3) := by decide +kernel
theorem dX12_look_39 : decode cX12_look 39 = .ok (.ireturn, 1) := by decide +kernel
theorem dX12_cost_0 : decode cX12_cost 0 = .ok (.aload_n 0, 1) := by decide +kernel
theorem dX12_cost_1 : decode cX12_cost 1 = .ok (.getfield 27, 3) := by decide +kernel
theorem dX12_cost_4 : decode cX12_cost 4 = .ok (.invokevirtual 159, 3) := by decide +kernel
theorem dX12_cost_7 : decode cX12_cost 7 = .ok (.ireturn, 1) := by decide +kernel
theorem dX12_meets_0 : decode cX12_meets 0 = .ok (.iload_n 1, 1) := by decide +kernel
theorem dX12_meets_1 : decode cX12_meets 1 = .ok (.aload_n 0, 1) := by decide +kernel
theorem dX12_meets_2 : decode cX12_meets 2 = .ok (.getfield 124, 3) := by decide +kernel
theorem dX12_meets_5 : decode cX12_meets 5 = .ok (.invokestatic 146, 3) := by decide +kernel
theorem dX12_meets_8 : decode cX12_meets 8 = .ok (.iload_n 2, 1) := by decide +kernel
theorem dX12_meets_9 : decode cX12_meets 9 = .ok (.iload_n 3, 1) := by decide +kernel
theorem dX12_meets_10 : decode cX12_meets 10 = .ok (.iload 4, 2) := by decide +kernel
theorem dX12_meets_12 : decode cX12_meets 12 = .ok (.invokestatic 163, 3) := by decide +kernel
theorem dX12_meets_15 : decode cX12_meets 15 = .ok (.aload_n 0, 1) := by decide +kernel
theorem dX12_meets_16 : decode cX12_meets 16 = .ok (.iload_n 1, 1) := by decide +kernel
theorem dX12_meets_17 : decode cX12_meets 17 = .ok (.aload_n 0, 1) := by decide +kernel
theorem dX12_meets_18 : decode cX12_meets 18 = .ok (.getfield 27, 3) := by decide +kernel
theorem dX12_meets_21 : decode cX12_meets 21 = .ok (.getfield 145, 3) := by decide +kernel
theorem dX12_meets_24 : decode cX12_meets 24 = .ok (.invokevirtual 152, 3) := by decide +kernel
theorem dX12_meets_27 : decode cX12_meets 27 = .ok (.aload_n 0, 1) := by decide +kernel
theorem dX12_meets_28 : decode cX12_meets 28 = .ok (.getfield 45, 3) := by decide +kernel
theorem dX12_meets_31 : decode cX12_meets 31 = .ok (.iload_n 2, 1) := by decide +kernel
theorem dX12_meets_32 : decode cX12_meets 32 = .ok (.iload_n 3, 1) := by decide +kernel
theorem dX12_meets_33 : decode cX12_meets 33 = .ok (.iload 4, 2) := by decide +kernel
theorem dX12_meets_35 : decode cX12_meets 35 = .ok (.invokevirtual 166, 3) := by decide +kernel
theorem dX12_meets_38 : decode cX12_meets 38 = .ok (.ireturn, 1) := by decide +kernel
theorem dX12_cheapest_0 : decode cX12_cheapest 0 = .ok (.aload_n 0, 1) := by decide +kernel
theorem dX12_cheapest_1 : decode cX12_cheapest 1 = .ok (.iload_n 1, 1) := by decide +kernel
theorem dX12_cheapest_2 : decode cX12_cheapest 2 = .ok (.iload_n 2, 1) := by decide +kernel
theorem dX12_cheapest_3 : decode cX12_cheapest 3 = .ok (.iload_n 3, 1) := by decide +kernel
theorem dX12_cheapest_4 : decode cX12_cheapest 4 = .ok (.iload 4, 2) := by decide +kernel
theorem dX12_cheapest_6 : decode cX12_cheapest 6 = .ok (.iload 5, 2) := by decide +kernel
theorem dX12_cheapest_8 : decode cX12_cheapest 8 = .ok (.invokevirtual 169, 3) := by decide +kernel
theorem dX12_cheapest_11 : decode cX12_cheapest 11 = .ok (.aload_n 0, 1) := by decide +kernel
theorem dX12_cheapest_12 : decode cX12_cheapest 12 = .ok (.getfield 52, 3) := by decide +kernel
theorem dX12_cheapest_15 : decode cX12_cheapest 15 = .ok (.getfield 173, 3) := by decide +kernel
theorem dX12_cheapest_18 : decode cX12_cheapest 18 = .ok (.ireturn, 1) := by decide +kernel
theorem dX12_bath_0 : decode cX12_bath 0 = .ok (.aload_n 0, 1) := by decide +kernel
theorem dX12_bath_1 : decode cX12_bath 1 = .ok (.iload_n 1, 1) := by decide +kernel
theorem dX12_bath_2 : decode cX12_bath 2 = .ok (.iload_n 2, 1) := by decide +kernel
theorem dX12_bath_3 : decode cX12_bath 3 = .ok (.iload_n 3, 1) := by decide +kernel
theorem dX12_bath_4 : decode cX12_bath 4 = .ok (.iload 4, 2) := by decide +kernel
theorem dX12_bath_6 : decode cX12_bath 6 = .ok (.iload 5, 2) := by decide +kernel
theorem dX12_bath_8 : decode cX12_bath 8 = .ok (.invokevirtual 169, 3) := by decide +kernel
theorem dX12_bath_11 : decode cX12_bath 11 = .ok (.aload_n 0, 1) := by decide +kernel
theorem dX12_bath_12 : decode cX12_bath 12 = .ok (.getfield 52, 3) := by decide +kernel
theorem dX12_bath_15 : decode cX12_bath 15 = .ok (.iload 6, 2) := by decide +kernel
theorem dX12_bath_17 : decode cX12_bath 17 = .ok (.invokevirtual 176, 3) := by decide +kernel
theorem dX12_bath_20 : decode cX12_bath 20 = .ok (.ireturn, 1) := by decide +kernel
theorem dX12_carry_0 : decode cX12_carry 0 = .ok (.iload_n 1, 1) := by decide +kernel
theorem dX12_carry_1 : decode cX12_carry 1 = .ok (.bipush 6, 2) := by decide +kernel
theorem dX12_carry_3 : decode cX12_carry 3 = .ok (.invokestatic 146, 3) := by decide +kernel
theorem dX12_carry_6 : decode cX12_carry 6 = .ok (.iload_n 2, 1) := by decide +kernel
theorem dX12_carry_7 : decode cX12_carry 7 = .ok (.bipush 6, 2) := by decide +kernel
theorem dX12_carry_9 : decode cX12_carry 9 = .ok (.invokestatic 146, 3) := by decide +kernel
theorem dX12_carry_12 : decode cX12_carry 12 = .ok (.iload_n 3, 1) := by decide +kernel
theorem dX12_carry_13 : decode cX12_carry 13 = .ok (.iconst (-1), 1) := by decide +kernel
theorem dX12_carry_14 : decode cX12_carry 14 = .ok (.bipush 100, 2) := by decide +kernel
theorem dX12_carry_16 : decode cX12_carry 16 = .ok (.invokestatic 116, 3) := by decide +kernel
theorem dX12_carry_19 : decode cX12_carry 19 = .ok (.ifCond .eq 12, 3) := by decide +kernel
theorem dX12_carry_22 : decode cX12_carry 22 = .ok (.iload_n 1, 1) := by decide +kernel
theorem dX12_carry_23 : decode cX12_carry 23 = .ok (.iload_n 2, 1) := by decide +kernel
theorem dX12_carry_24 : decode cX12_carry 24 = .ok (.if_icmp .eq 7, 3) := by decide +kernel
theorem dX12_carry_27 : decode cX12_carry 27 = .ok (.iconst 1, 1) := by decide +kernel
theorem dX12_carry_28 : decode cX12_carry 28 = .ok (.goto 4, 3) := by decide +kernel
theorem dX12_carry_31 : decode cX12_carry 31 = .ok (.iconst 0, 1) := by decide +kernel
theorem dX12_carry_32 : decode cX12_carry 32 = .ok (.invokestatic 120, 3) := by decide +kernel
theorem dX12_carry_35 : decode cX12_carry 35 = .ok (.aload_n 0, 1) := by decide +kernel
theorem dX12_carry_36 : decode cX12_carry 36 = .ok (.getfield 59, 3) := by decide +kernel
theorem dX12_carry_39 : decode cX12_carry 39 = .ok (.iload_n 1, 1) := by decide +kernel
theorem dX12_carry_40 : decode cX12_carry 40 = .ok (.iload_n 2, 1) := by decide +kernel
theorem dX12_carry_41 : decode cX12_carry 41 = .ok (.iload_n 3, 1) := by decide +kernel
theorem dX12_carry_42 : decode cX12_carry 42 = .ok (.invokevirtual 179, 3) := by decide +kernel
theorem dX12_carry_45 : decode cX12_carry 45 = .ok (.return_, 1) := by decide +kernel
theorem dX12_batch_0 : decode cX12_batch 0 = .ok (.iload_n 1, 1) := by decide +kernel
theorem dX12_batch_1 : decode cX12_batch 1 = .ok (.bipush 6, 2) := by decide +kernel
theorem dX12_batch_3 : decode cX12_batch 3 = .ok (.invokestatic 146, 3) := by decide +kernel
theorem dX12_batch_6 : decode cX12_batch 6 = .ok (.aload_n 0, 1) := by decide +kernel
theorem dX12_batch_7 : decode cX12_batch 7 = .ok (.getfield 59, 3) := by decide +kernel
theorem dX12_batch_10 : decode cX12_batch 10 = .ok (.iload_n 1, 1) := by decide +kernel
theorem dX12_batch_11 : decode cX12_batch 11 = .ok (.invokevirtual 182, 3) := by decide +kernel
theorem dX12_batch_14 : decode cX12_batch 14 = .ok (.ireturn, 1) := by decide +kernel
theorem dX12_order_0 : decode cX12_order 0 = .ok (.aload_n 0, 1) := by decide +kernel
theorem dX12_order_1 : decode cX12_order 1 = .ok (.getfield 59, 3) := by decide +kernel
theorem dX12_order_4 : decode cX12_order 4 = .ok (.invokevirtual 185, 3) := by decide +kernel
theorem dX12_order_7 : decode cX12_order 7 = .ok (.ireturn, 1) := by decide +kernel
theorem dX12_clear_0 : decode cX12_clear 0 = .ok (.aload_n 0, 1) := by decide +kernel
theorem dX12_clear_1 : decode cX12_clear 1 = .ok (.getfield 59, 3) := by decide +kernel
theorem dX12_clear_4 : decode cX12_clear 4 = .ok (.getfield 188, 3) := by decide +kernel
theorem dX12_clear_7 : decode cX12_clear 7 = .ok (.istore_n 1, 1) := by decide +kernel
theorem dX12_clear_8 : decode cX12_clear 8 = .ok (.aload_n 0, 1) := by decide +kernel
theorem dX12_clear_9 : decode cX12_clear 9 = .ok (.getfield 59, 3) := by decide +kernel
theorem dX12_clear_12 : decode cX12_clear 12 = .ok (.iconst 0, 1) := by decide +kernel
theorem dX12_clear_13 : decode cX12_clear 13 = .ok (.putfield 188, 3) := by decide +kernel
theorem dX12_clear_16 : decode cX12_clear 16 = .ok (.iload_n 1, 1) := by decide +kernel
theorem dX12_clear_17 : decode cX12_clear 17 = .ok (.ireturn, 1) := by decide +kernel
theorem dX12_tank_0 : decode cX12_tank 0 = .ok (.iload_n 1, 1) := by decide +kernel
theorem dX12_tank_1 : decode cX12_tank 1 = .ok (.iconst 1, 1) := by decide +kernel
theorem dX12_tank_2 : decode cX12_tank 2 = .ok (.sipush 1000, 3) := by decide +kernel
theorem dX12_tank_5 : decode cX12_tank 5 = .ok (.invokestatic 116, 3) := by decide +kernel
theorem dX12_tank_8 : decode cX12_tank 8 = .ok (.invokestatic 120, 3) := by decide +kernel
theorem dX12_tank_11 : decode cX12_tank 11 = .ok (.aload_n 0, 1) := by decide +kernel
theorem dX12_tank_12 : decode cX12_tank 12 = .ok (.getfield 66, 3) := by decide +kernel
theorem dX12_tank_15 : decode cX12_tank 15 = .ok (.getfield 191, 3) := by decide +kernel
theorem dX12_tank_18 : decode cX12_tank 18 = .ok (.iconst 5, 1) := by decide +kernel
theorem dX12_tank_19 : decode cX12_tank 19 = .ok (.invokestatic 127, 3) := by decide +kernel
theorem dX12_tank_22 : decode cX12_tank 22 = .ok (.aload_n 0, 1) := by decide +kernel
theorem dX12_tank_23 : decode cX12_tank 23 = .ok (.getfield 66, 3) := by decide +kernel
theorem dX12_tank_26 : decode cX12_tank 26 = .ok (.iload_n 1, 1) := by decide +kernel
theorem dX12_tank_27 : decode cX12_tank 27 = .ok (.invokevirtual 194, 3) := by decide +kernel
theorem dX12_tank_30 : decode cX12_tank 30 = .ok (.ireturn, 1) := by decide +kernel
theorem dX12_draw_0 : decode cX12_draw 0 = .ok (.iload_n 1, 1) := by decide +kernel
theorem dX12_draw_1 : decode cX12_draw 1 = .ok (.iconst 1, 1) := by decide +kernel
theorem dX12_draw_2 : decode cX12_draw 2 = .ok (.sipush 1000, 3) := by decide +kernel
theorem dX12_draw_5 : decode cX12_draw 5 = .ok (.invokestatic 116, 3) := by decide +kernel
theorem dX12_draw_8 : decode cX12_draw 8 = .ok (.ifCond .eq 17, 3) := by decide +kernel
theorem dX12_draw_11 : decode cX12_draw 11 = .ok (.iload_n 2, 1) := by decide +kernel
theorem dX12_draw_12 : decode cX12_draw 12 = .ok (.iconst 0, 1) := by decide +kernel
theorem dX12_draw_13 : decode cX12_draw 13 = .ok (.bipush 100, 2) := by decide +kernel
theorem dX12_draw_15 : decode cX12_draw 15 = .ok (.invokestatic 116, 3) := by decide +kernel
theorem dX12_draw_18 : decode cX12_draw 18 = .ok (.ifCond .eq 7, 3) := by decide +kernel
theorem dX12_draw_21 : decode cX12_draw 21 = .ok (.iconst 1, 1) := by decide +kernel
theorem dX12_draw_22 : decode cX12_draw 22 = .ok (.goto 4, 3) := by decide +kernel
theorem dX12_draw_25 : decode cX12_draw 25 = .ok (.iconst 0, 1) := by decide +kernel
theorem dX12_draw_26 : decode cX12_draw 26 = .ok (.invokestatic 120, 3) := by decide +kernel
theorem dX12_draw_29 : decode cX12_draw 29 = .ok (.aload_n 0, 1) := by decide +kernel
theorem dX12_draw_30 : decode cX12_draw 30 = .ok (.getfield 66, 3) := by decide +kernel
theorem dX12_draw_33 : decode cX12_draw 33 = .ok (.dup, 1) := by decide +kernel
theorem dX12_draw_34 : decode cX12_draw 34 = .ok (.getfield 197, 3) := by decide +kernel
theorem dX12_draw_37 : decode cX12_draw 37 = .ok (.aload_n 0, 1) := by decide +kernel
theorem dX12_draw_38 : decode cX12_draw 38 = .ok (.getfield 66, 3) := by decide +kernel
theorem dX12_draw_41 : decode cX12_draw 41 = .ok (.iload_n 1, 1) := by decide +kernel
theorem dX12_draw_42 : decode cX12_draw 42 = .ok (.iload_n 2, 1) := by decide +kernel
theorem dX12_draw_43 : decode cX12_draw 43 = .ok (.invokevirtual 200, 3) := by decide +kernel
theorem dX12_draw_46 : decode cX12_draw 46 = .ok (.iadd, 1) := by decide +kernel
theorem dX12_draw_47 : decode cX12_draw 47 = .ok (.putfield 197, 3) := by decide +kernel
theorem dX12_draw_50 : decode cX12_draw 50 = .ok (.aload_n 0, 1) := by decide +kernel
theorem dX12_draw_51 : decode cX12_draw 51 = .ok (.getfield 66, 3) := by decide +kernel
theorem dX12_draw_54 : decode cX12_draw 54 = .ok (.getfield 204, 3) := by decide +kernel
theorem dX12_draw_57 : decode cX12_draw 57 = .ok (.ireturn, 1) := by decide +kernel
theorem dX12_pour_0 : decode cX12_pour 0 = .ok (.iload_n 1, 1) := by decide +kernel
theorem dX12_pour_1 : decode cX12_pour 1 = .ok (.aload_n 0, 1) := by decide +kernel
theorem dX12_pour_2 : decode cX12_pour 2 = .ok (.getfield 66, 3) := by decide +kernel
theorem dX12_pour_5 : decode cX12_pour 5 = .ok (.getfield 191, 3) := by decide +kernel
theorem dX12_pour_8 : decode cX12_pour 8 = .ok (.invokestatic 146, 3) := by decide +kernel
theorem dX12_pour_11 : decode cX12_pour 11 = .ok (.iload_n 2, 1) := by decide +kernel
theorem dX12_pour_12 : decode cX12_pour 12 = .ok (.iconst 1, 1) := by decide +kernel
theorem dX12_pour_13 : decode cX12_pour 13 = .ok (.sipush 1000, 3) := by decide +kernel
theorem dX12_pour_16 : decode cX12_pour 16 = .ok (.invokestatic 116, 3) := by decide +kernel
theorem dX12_pour_19 : decode cX12_pour 19 = .ok (.ifCond .eq 17, 3) := by decide +kernel
theorem dX12_pour_22 : decode cX12_pour 22 = .ok (.iload_n 3, 1) := by decide +kernel
theorem dX12_pour_23 : decode cX12_pour 23 = .ok (.iconst 0, 1) := by decide +kernel
theorem dX12_pour_24 : decode cX12_pour 24 = .ok (.ldc 207, 2) := by decide +kernel
theorem dX12_pour_26 : decode cX12_pour 26 = .ok (.invokestatic 116, 3) := by decide +kernel
theorem dX12_pour_29 : decode cX12_pour 29 = .ok (.ifCond .eq 7, 3) := by decide +kernel
theorem dX12_pour_32 : decode cX12_pour 32 = .ok (.iconst 1, 1) := by decide +kernel
theorem dX12_pour_33 : decode cX12_pour 33 = .ok (.goto 4, 3) := by decide +kernel
theorem dX12_pour_36 : decode cX12_pour 36 = .ok (.iconst 0, 1) := by decide +kernel
theorem dX12_pour_37 : decode cX12_pour 37 = .ok (.invokestatic 120, 3) := by decide +kernel
theorem dX12_pour_40 : decode cX12_pour 40 = .ok (.aload_n 0, 1) := by decide +kernel
theorem dX12_pour_41 : decode cX12_pour 41 = .ok (.getfield 66, 3) := by decide +kernel
theorem dX12_pour_44 : decode cX12_pour 44 = .ok (.iload_n 1, 1) := by decide +kernel
theorem dX12_pour_45 : decode cX12_pour 45 = .ok (.iload_n 2, 1) := by decide +kernel
theorem dX12_pour_46 : decode cX12_pour 46 = .ok (.iload_n 3, 1) := by decide +kernel
theorem dX12_pour_47 : decode cX12_pour 47 = .ok (.invokevirtual 208, 3) := by decide +kernel
theorem dX12_pour_50 : decode cX12_pour 50 = .ok (.ireturn, 1) := by decide +kernel
theorem dX12_has_0 : decode cX12_has 0 = .ok (.iload_n 1, 1) := by decide +kernel
theorem dX12_has_1 : decode cX12_has 1 = .ok (.aload_n 0, 1) := by decide +kernel
theorem dX12_has_2 : decode cX12_has 2 = .ok (.getfield 66, 3) := by decide +kernel
theorem dX12_has_5 : decode cX12_has 5 = .ok (.getfield 191, 3) := by decide +kernel
theorem dX12_has_8 : decode cX12_has 8 = .ok (.invokestatic 146, 3) := by decide +kernel
theorem dX12_has_11 : decode cX12_has 11 = .ok (.iload_n 2, 1) := by decide +kernel
theorem dX12_has_12 : decode cX12_has 12 = .ok (.iconst 2, 1) := by decide +kernel
theorem dX12_has_13 : decode cX12_has 13 = .ok (.invokestatic 149, 3) := by decide +kernel
theorem dX12_has_16 : decode cX12_has 16 = .ok (.aload_n 0, 1) := by decide +kernel
theorem dX12_has_17 : decode cX12_has 17 = .ok (.getfield 66, 3) := by decide +kernel
theorem dX12_has_20 : decode cX12_has 20 = .ok (.iload_n 1, 1) := by decide +kernel
theorem dX12_has_21 : decode cX12_has 21 = .ok (.iload_n 2, 1) := by decide +kernel
theorem dX12_has_22 : decode cX12_has 22 = .ok (.invokevirtual 212, 3) := by decide +kernel
theorem dX12_has_25 : decode cX12_has 25 = .ok (.ireturn, 1) := by decide +kernel
theorem dX12_garment_0 : decode cX12_garment 0 = .ok (.iload_n 1, 1) := by decide +kernel
theorem dX12_garment_1 : decode cX12_garment 1 = .ok (.iconst 0, 1) := by decide +kernel
theorem dX12_garment_2 : decode cX12_garment 2 = .ok (.sipush 255, 3) := by decide +kernel
theorem dX12_garment_5 : decode cX12_garment 5 = .ok (.invokestatic 116, 3) := by decide +kernel
theorem dX12_garment_8 : decode cX12_garment 8 = .ok (.invokestatic 120, 3) := by decide +kernel
theorem dX12_garment_11 : decode cX12_garment 11 = .ok (.aload_n 0, 1) := by decide +kernel
theorem dX12_garment_12 : decode cX12_garment 12 = .ok (.getfield 73, 3) := by decide +kernel
theorem dX12_garment_15 : decode cX12_garment 15 = .ok (.iload_n 1, 1) := by decide +kernel
theorem dX12_garment_16 : decode cX12_garment 16 = .ok (.invokevirtual 214, 3) := by decide +kernel
theorem dX12_garment_19 : decode cX12_garment 19 = .ok (.ireturn, 1) := by decide +kernel
theorem dX12_spread_0 : decode cX12_spread 0 = .ok (.iload_n 1, 1) := by decide +kernel
theorem dX12_spread_1 : decode cX12_spread 1 = .ok (.iconst 1, 1) := by decide +kernel
theorem dX12_spread_2 : decode cX12_spread 2 = .ok (.bipush 10, 2) := by decide +kernel
theorem dX12_spread_4 : decode cX12_spread 4 = .ok (.invokestatic 116, 3) := by decide +kernel
theorem dX12_spread_7 : decode cX12_spread 7 = .ok (.invokestatic 120, 3) := by decide +kernel
theorem dX12_spread_10 : decode cX12_spread 10 = .ok (.aload_n 0, 1) := by decide +kernel
theorem dX12_spread_11 : decode cX12_spread 11 = .ok (.getfield 73, 3) := by decide +kernel
theorem dX12_spread_14 : decode cX12_spread 14 = .ok (.iload_n 1, 1) := by decide +kernel
theorem dX12_spread_15 : decode cX12_spread 15 = .ok (.invokevirtual 215, 3) := by decide +kernel
theorem dX12_spread_18 : decode cX12_spread 18 = .ok (.ireturn, 1) := by decide +kernel
theorem dX12_packs_0 : decode cX12_packs 0 = .ok (.iload_n 1, 1) := by decide +kernel
theorem dX12_packs_1 : decode cX12_packs 1 = .ok (.iconst 1, 1) := by decide +kernel
theorem dX12_packs_2 : decode cX12_packs 2 = .ok (.bipush 20, 2) := by decide +kernel
theorem dX12_packs_4 : decode cX12_packs 4 = .ok (.invokestatic 116, 3) := by decide +kernel
theorem dX12_packs_7 : decode cX12_packs 7 = .ok (.ifCond .eq 11, 3) := by decide +kernel
theorem dX12_packs_10 : decode cX12_packs 10 = .ok (.iload_n 2, 1) := by decide +kernel
theorem dX12_packs_11 : decode cX12_packs 11 = .ok (.ifCond .lt 7, 3) := by decide +kernel
theorem dX12_packs_14 : decode cX12_packs 14 = .ok (.iconst 1, 1) := by decide +kernel
theorem dX12_packs_15 : decode cX12_packs 15 = .ok (.goto 4, 3) := by decide +kernel
theorem dX12_packs_18 : decode cX12_packs 18 = .ok (.iconst 0, 1) := by decide +kernel
theorem dX12_packs_19 : decode cX12_packs 19 = .ok (.invokestatic 120, 3) := by decide +kernel
theorem dX12_packs_22 : decode cX12_packs 22 = .ok (.aload_n 0, 1) := by decide +kernel
theorem dX12_packs_23 : decode cX12_packs 23 = .ok (.getfield 73, 3) := by decide +kernel
theorem dX12_packs_26 : decode cX12_packs 26 = .ok (.iload_n 1, 1) := by decide +kernel
theorem dX12_packs_27 : decode cX12_packs 27 = .ok (.iload_n 2, 1) := by decide +kernel
theorem dX12_packs_28 : decode cX12_packs 28 = .ok (.invokevirtual 218, 3) := by decide +kernel
theorem dX12_packs_31 : decode cX12_packs 31 = .ok (.istore 4, 2) := by decide +kernel
theorem dX12_packs_33 : decode cX12_packs 33 = .ok (.iload_n 3, 1) := by decide +kernel
theorem dX12_packs_34 : decode cX12_packs 34 = .ok (.ifCond .eq 18, 3) := by decide +kernel
theorem dX12_packs_37 : decode cX12_packs 37 = .ok (.aload_n 0, 1) := by decide +kernel
theorem dX12_packs_38 : decode cX12_packs 38 = .ok (.getfield 73, 3) := by decide +kernel
theorem dX12_packs_41 : decode cX12_packs 41 = .ok (.getfield 221, 3) := by decide +kernel
theorem dX12_packs_44 : decode cX12_packs 44 = .ok (.iload 4, 2) := by decide +kernel
theorem dX12_packs_46 : decode cX12_packs 46 = .ok (.iload_n 1, 1) := by decide +kernel
theorem dX12_packs_47 : decode cX12_packs 47 = .ok (.imul, 1) := by decide +kernel
theorem dX12_packs_48 : decode cX12_packs 48 = .ok (.isub, 1) := by decide +kernel
theorem dX12_packs_49 : decode cX12_packs 49 = .ok (.goto 5, 3) := by decide +kernel
theorem dX12_packs_52 : decode cX12_packs 52 = .ok (.iload 4, 2) := by decide +kernel
theorem dX12_packs_54 : decode cX12_packs 54 = .ok (.ireturn, 1) := by decide +kernel
theorem dX12_house_0 : decode cX12_house 0 = .ok (.aload_n 0, 1) := by decide +kernel
theorem dX12_house_1 : decode cX12_house 1 = .ok (.getfield 10, 3) := by decide +kernel
theorem dX12_house_4 : decode cX12_house 4 = .ok (.invokevirtual 135, 3) := by decide +kernel
theorem dX12_house_7 : decode cX12_house 7 = .ok (.aload_n 0, 1) := by decide +kernel
theorem dX12_house_8 : decode cX12_house 8 = .ok (.getfield 41, 3) := by decide +kernel
theorem dX12_house_11 : decode cX12_house 11 = .ok (.aload_n 0, 1) := by decide +kernel
theorem dX12_house_12 : decode cX12_house 12 = .ok (.getfield 10, 3) := by decide +kernel
theorem dX12_house_15 : decode cX12_house 15 = .ok (.invokevirtual 224, 3) := by decide +kernel
theorem dX12_house_18 : decode cX12_house 18 = .ok (.aload_n 0, 1) := by decide +kernel
theorem dX12_house_19 : decode cX12_house 19 = .ok (.getfield 10, 3) := by decide +kernel
theorem dX12_house_22 : decode cX12_house 22 = .ok (.iconst 0, 1) := by decide +kernel
theorem dX12_house_23 : decode cX12_house 23 = .ok (.putfield 112, 3) := by decide +kernel
theorem dX12_house_26 : decode cX12_house 26 = .ok (.aload_n 0, 1) := by decide +kernel
theorem dX12_house_27 : decode cX12_house 27 = .ok (.getfield 10, 3) := by decide +kernel
theorem dX12_house_30 : decode cX12_house 30 = .ok (.getfield 142, 3) := by decide +kernel
theorem dX12_house_33 : decode cX12_house 33 = .ok (.iconst (-1), 1) := by decide +kernel
theorem dX12_house_34 : decode cX12_house 34 = .ok (.if_icmp .ne 7, 3) := by decide +kernel
theorem dX12_house_37 : decode cX12_house 37 = .ok (.iconst 1, 1) := by decide +kernel
theorem dX12_house_38 : decode cX12_house 38 = .ok (.goto 4, 3) := by decide +kernel
theorem dX12_house_41 : decode cX12_house 41 = .ok (.iconst 0, 1) := by decide +kernel
theorem dX12_house_42 : decode cX12_house 42 = .ok (.invokestatic 120, 3) := by decide +kernel
theorem dX12_house_45 : decode cX12_house 45 = .ok (.aload_n 0, 1) := by decide +kernel
theorem dX12_house_46 : decode cX12_house 46 = .ok (.getfield 37, 3) := by decide +kernel
theorem dX12_house_49 : decode cX12_house 49 = .ok (.astore_n 1, 1) := by decide +kernel
theorem dX12_house_50 : decode cX12_house 50 = .ok (.aload_n 0, 1) := by decide +kernel
theorem dX12_house_51 : decode cX12_house 51 = .ok (.aload_n 0, 1) := by decide +kernel
theorem dX12_house_52 : decode cX12_house 52 = .ok (.getfield 41, 3) := by decide +kernel
theorem dX12_house_55 : decode cX12_house 55 = .ok (.putfield 37, 3) := by decide +kernel
theorem dX12_house_58 : decode cX12_house 58 = .ok (.aload_n 0, 1) := by decide +kernel
theorem dX12_house_59 : decode cX12_house 59 = .ok (.aload_n 1, 1) := by decide +kernel
theorem dX12_house_60 : decode cX12_house 60 = .ok (.putfield 41, 3) := by decide +kernel
theorem dX12_house_63 : decode cX12_house 63 = .ok (.aload_n 0, 1) := by decide +kernel
theorem dX12_house_64 : decode cX12_house 64 = .ok (.getfield 37, 3) := by decide +kernel
theorem dX12_house_67 : decode cX12_house 67 = .ok (.getfield 225, 3) := by decide +kernel
theorem dX12_house_70 : decode cX12_house 70 = .ok (.ireturn, 1) := by decide +kernel
theorem dX12_tells_0 : decode cX12_tells 0 = .ok (.iload_n 1, 1) := by decide +kernel
theorem dX12_tells_1 : decode cX12_tells 1 = .ok (.bipush 17, 2) := by decide +kernel
theorem dX12_tells_3 : decode cX12_tells 3 = .ok (.invokestatic 149, 3) := by decide +kernel
theorem dX12_tells_6 : decode cX12_tells 6 = .ok (.aload_n 0, 1) := by decide +kernel
theorem dX12_tells_7 : decode cX12_tells 7 = .ok (.getfield 37, 3) := by decide +kernel
theorem dX12_tells_10 : decode cX12_tells 10 = .ok (.iload_n 1, 1) := by decide +kernel
theorem dX12_tells_11 : decode cX12_tells 11 = .ok (.invokevirtual 228, 3) := by decide +kernel
theorem dX12_tells_14 : decode cX12_tells 14 = .ok (.ireturn, 1) := by decide +kernel
theorem dX12_machine_0 : decode cX12_machine 0 = .ok (.iload_n 1, 1) := by decide +kernel
theorem dX12_machine_1 : decode cX12_machine 1 = .ok (.iconst 1, 1) := by decide +kernel
theorem dX12_machine_2 : decode cX12_machine 2 = .ok (.bipush 60, 2) := by decide +kernel
theorem dX12_machine_4 : decode cX12_machine 4 = .ok (.invokestatic 116, 3) := by decide +kernel
theorem dX12_machine_7 : decode cX12_machine 7 = .ok (.invokestatic 120, 3) := by decide +kernel
theorem dX12_machine_10 : decode cX12_machine 10 = .ok (.aload_n 0, 1) := by decide +kernel
theorem dX12_machine_11 : decode cX12_machine 11 = .ok (.getfield 231, 3) := by decide +kernel
theorem dX12_machine_14 : decode cX12_machine 14 = .ok (.iconst 4, 1) := by decide +kernel
theorem dX12_machine_15 : decode cX12_machine 15 = .ok (.invokestatic 127, 3) := by decide +kernel
theorem dX12_machine_18 : decode cX12_machine 18 = .ok (.aload_n 0, 1) := by decide +kernel
theorem dX12_machine_19 : decode cX12_machine 19 = .ok (.getfield 79, 3) := by decide +kernel
theorem dX12_machine_22 : decode cX12_machine 22 = .ok (.aload_n 0, 1) := by decide +kernel
theorem dX12_machine_23 : decode cX12_machine 23 = .ok (.getfield 231, 3) := by decide +kernel
theorem dX12_machine_26 : decode cX12_machine 26 = .ok (.aaload, 1) := by decide +kernel
theorem dX12_machine_27 : decode cX12_machine 27 = .ok (.iload_n 1, 1) := by decide +kernel
theorem dX12_machine_28 : decode cX12_machine 28 = .ok (.putfield 234, 3) := by decide +kernel
theorem dX12_machine_31 : decode cX12_machine 31 = .ok (.aload_n 0, 1) := by decide +kernel
theorem dX12_machine_32 : decode cX12_machine 32 = .ok (.dup, 1) := by decide +kernel
theorem dX12_machine_33 : decode cX12_machine 33 = .ok (.getfield 231, 3) := by decide +kernel
theorem dX12_machine_36 : decode cX12_machine 36 = .ok (.dup_x1, 1) := by decide +kernel
theorem dX12_machine_37 : decode cX12_machine 37 = .ok (.iconst 1, 1) := by decide +kernel
theorem dX12_machine_38 : decode cX12_machine 38 = .ok (.iadd, 1) := by decide +kernel
theorem dX12_machine_39 : decode cX12_machine 39 = .ok (.putfield 231, 3) := by decide +kernel
theorem dX12_machine_42 : decode cX12_machine 42 = .ok (.ireturn, 1) := by decide +kernel
theorem dX12_lot_0 : decode cX12_lot 0 = .ok (.iload_n 1, 1) := by decide +kernel
theorem dX12_lot_1 : decode cX12_lot 1 = .ok (.aload_n 0, 1) := by decide +kernel
theorem dX12_lot_2 : decode cX12_lot 2 = .ok (.getfield 124, 3) := by decide +kernel
theorem dX12_lot_5 : decode cX12_lot 5 = .ok (.invokestatic 146, 3) := by decide +kernel
theorem dX12_lot_8 : decode cX12_lot 8 = .ok (.iload_n 3, 1) := by decide +kernel
theorem dX12_lot_9 : decode cX12_lot 9 = .ok (.bipush 6, 2) := by decide +kernel
theorem dX12_lot_11 : decode cX12_lot 11 = .ok (.invokestatic 146, 3) := by decide +kernel
theorem dX12_lot_14 : decode cX12_lot 14 = .ok (.iload_n 2, 1) := by decide +kernel
theorem dX12_lot_15 : decode cX12_lot 15 = .ok (.iconst 1, 1) := by decide +kernel
theorem dX12_lot_16 : decode cX12_lot 16 = .ok (.bipush 60, 2) := by decide +kernel
theorem dX12_lot_18 : decode cX12_lot 18 = .ok (.invokestatic 116, 3) := by decide +kernel
theorem dX12_lot_21 : decode cX12_lot 21 = .ok (.invokestatic 120, 3) := by decide +kernel
theorem dX12_lot_24 : decode cX12_lot 24 = .ok (.iload 4, 2) := by decide +kernel
theorem dX12_lot_26 : decode cX12_lot 26 = .ok (.iload 5, 2) := by decide +kernel
theorem dX12_lot_28 : decode cX12_lot 28 = .ok (.iload 6, 2) := by decide +kernel
theorem dX12_lot_30 : decode cX12_lot 30 = .ok (.invokestatic 163, 3) := by decide +kernel
theorem dX12_lot_33 : decode cX12_lot 33 = .ok (.iload 7, 2) := by decide +kernel
theorem dX12_lot_35 : decode cX12_lot 35 = .ok (.iconst 0, 1) := by decide +kernel
theorem dX12_lot_36 : decode cX12_lot 36 = .ok (.sipush 400, 3) := by decide +kernel
theorem dX12_lot_39 : decode cX12_lot 39 = .ok (.invokestatic 116, 3) := by decide +kernel
theorem dX12_lot_42 : decode cX12_lot 42 = .ok (.invokestatic 120, 3) := by decide +kernel
theorem dX12_lot_45 : decode cX12_lot 45 = .ok (.aload_n 0, 1) := by decide +kernel
theorem dX12_lot_46 : decode cX12_lot 46 = .ok (.getfield 86, 3) := by decide +kernel
theorem dX12_lot_49 : decode cX12_lot 49 = .ok (.invokevirtual 237, 3) := by decide +kernel
theorem dX12_lot_52 : decode cX12_lot 52 = .ok (.bipush 40, 2) := by decide +kernel
theorem dX12_lot_54 : decode cX12_lot 54 = .ok (.invokestatic 127, 3) := by decide +kernel
theorem dX12_lot_57 : decode cX12_lot 57 = .ok (.new 239, 3) := by decide +kernel
theorem dX12_lot_60 : decode cX12_lot 60 = .ok (.dup, 1) := by decide +kernel
theorem dX12_lot_61 : decode cX12_lot 61 = .ok (.iload_n 1, 1) := by decide +kernel
theorem dX12_lot_62 : decode cX12_lot 62 = .ok (.iload_n 2, 1) := by decide +kernel
theorem dX12_lot_63 : decode cX12_lot 63 = .ok (.iload_n 3, 1) := by decide +kernel
theorem dX12_lot_64 : decode cX12_lot 64 = .ok (.iload 7, 2) := by decide +kernel
theorem dX12_lot_66 : decode cX12_lot 66 = .ok (.aload_n 0, 1) := by decide +kernel
theorem dX12_lot_67 : decode cX12_lot 67 = .ok (.getfield 27, 3) := by decide +kernel
theorem dX12_lot_70 : decode cX12_lot 70 = .ok (.getfield 145, 3) := by decide +kernel
theorem dX12_lot_73 : decode cX12_lot 73 = .ok (.invokespecial 241, 3) := by decide +kernel
theorem dX12_lot_76 : decode cX12_lot 76 = .ok (.astore 8, 2) := by decide +kernel
theorem dX12_lot_78 : decode cX12_lot 78 = .ok (.aload 8, 2) := by decide +kernel
theorem dX12_lot_80 : decode cX12_lot 80 = .ok (.iload 4, 2) := by decide +kernel
theorem dX12_lot_82 : decode cX12_lot 82 = .ok (.iload 5, 2) := by decide +kernel
theorem dX12_lot_84 : decode cX12_lot 84 = .ok (.iload 6, 2) := by decide +kernel
theorem dX12_lot_86 : decode cX12_lot 86 = .ok (.invokevirtual 243, 3) := by decide +kernel
theorem dX12_lot_89 : decode cX12_lot 89 = .ok (.aload 8, 2) := by decide +kernel
theorem dX12_lot_91 : decode cX12_lot 91 = .ok (.getfield 246, 3) := by decide +kernel
theorem dX12_lot_94 : decode cX12_lot 94 = .ok (.aload_n 0, 1) := by decide +kernel
theorem dX12_lot_95 : decode cX12_lot 95 = .ok (.getfield 27, 3) := by decide +kernel
theorem dX12_lot_98 : decode cX12_lot 98 = .ok (.invokevirtual 247, 3) := by decide +kernel
theorem dX12_lot_101 : decode cX12_lot 101 = .ok (.aload 8, 2) := by decide +kernel
theorem dX12_lot_103 : decode cX12_lot 103 = .ok (.getfield 251, 3) := by decide +kernel
theorem dX12_lot_106 : decode cX12_lot 106 = .ok (.aload_n 0, 1) := by decide +kernel
theorem dX12_lot_107 : decode cX12_lot 107 = .ok (.getfield 18, 3) := by decide +kernel
theorem dX12_lot_110 : decode cX12_lot 110 = .ok (.iload_n 1, 1) := by decide +kernel
theorem dX12_lot_111 : decode cX12_lot 111 = .ok (.aaload, 1) := by decide +kernel
theorem dX12_lot_112 : decode cX12_lot 112 = .ok (.invokevirtual 254, 3) := by decide +kernel
theorem dX12_lot_115 : decode cX12_lot 115 = .ok (.aload_n 0, 1) := by decide +kernel
theorem dX12_lot_116 : decode cX12_lot 116 = .ok (.aload 8, 2) := by decide +kernel
theorem dX12_lot_118 : decode cX12_lot 118 = .ok (.invokevirtual 257, 3) := by decide +kernel
theorem dX12_lot_121 : decode cX12_lot 121 = .ok (.ireturn, 1) := by decide +kernel
theorem dX12_load_0 : decode cX12_load 0 = .ok (.aload_n 0, 1) := by decide +kernel
theorem dX12_load_1 : decode cX12_load 1 = .ok (.iload_n 1, 1) := by decide +kernel
theorem dX12_load_2 : decode cX12_load 2 = .ok (.invokevirtual 261, 3) := by decide +kernel
theorem dX12_load_5 : decode cX12_load 5 = .ok (.astore_n 3, 1) := by decide +kernel
theorem dX12_load_6 : decode cX12_load 6 = .ok (.iload_n 2, 1) := by decide +kernel
theorem dX12_load_7 : decode cX12_load 7 = .ok (.aload_n 0, 1) := by decide +kernel
theorem dX12_load_8 : decode cX12_load 8 = .ok (.getfield 231, 3) := by decide +kernel
theorem dX12_load_11 : decode cX12_load 11 = .ok (.invokestatic 146, 3) := by decide +kernel
theorem dX12_load_14 : decode cX12_load 14 = .ok (.aload_n 0, 1) := by decide +kernel
theorem dX12_load_15 : decode cX12_load 15 = .ok (.getfield 79, 3) := by decide +kernel
theorem dX12_load_18 : decode cX12_load 18 = .ok (.iload_n 2, 1) := by decide +kernel
theorem dX12_load_19 : decode cX12_load 19 = .ok (.aaload, 1) := by decide +kernel
theorem dX12_load_20 : decode cX12_load 20 = .ok (.astore 4, 2) := by decide +kernel
theorem dX12_load_22 : decode cX12_load 22 = .ok (.aload_n 3, 1) := by decide +kernel
theorem dX12_load_23 : decode cX12_load 23 = .ok (.getfield 265, 3) := by decide +kernel
theorem dX12_load_26 : decode cX12_load 26 = .ok (.ifCond .ne 15, 3) := by decide +kernel
theorem dX12_load_29 : decode cX12_load 29 = .ok (.aload_n 3, 1) := by decide +kernel
theorem dX12_load_30 : decode cX12_load 30 = .ok (.getfield 268, 3) := by decide +kernel
theorem dX12_load_33 : decode cX12_load 33 = .ok (.aload 4, 2) := by decide +kernel
theorem dX12_load_35 : decode cX12_load 35 = .ok (.getfield 234, 3) := by decide +kernel
theorem dX12_load_38 : decode cX12_load 38 = .ok (.if_icmp .le 5, 3) := by decide +kernel
theorem dX12_load_41 : decode cX12_load 41 = .ok (.iconst 0, 1) := by decide +kernel
theorem dX12_load_42 : decode cX12_load 42 = .ok (.ireturn, 1) := by decide +kernel
theorem dX12_load_43 : decode cX12_load 43 = .ok (.aload 4, 2) := by decide +kernel
theorem dX12_load_45 : decode cX12_load 45 = .ok (.iload_n 1, 1) := by decide +kernel
theorem dX12_load_46 : decode cX12_load 46 = .ok (.invokevirtual 271, 3) := by decide +kernel
theorem dX12_load_49 : decode cX12_load 49 = .ok (.aload_n 3, 1) := by decide +kernel
theorem dX12_load_50 : decode cX12_load 50 = .ok (.iconst 1, 1) := by decide +kernel
theorem dX12_load_51 : decode cX12_load 51 = .ok (.putfield 265, 3) := by decide +kernel
theorem dX12_load_54 : decode cX12_load 54 = .ok (.aload_n 3, 1) := by decide +kernel
theorem dX12_load_55 : decode cX12_load 55 = .ok (.iload_n 2, 1) := by decide +kernel
theorem dX12_load_56 : decode cX12_load 56 = .ok (.putfield 274, 3) := by decide +kernel
theorem dX12_load_59 : decode cX12_load 59 = .ok (.iconst 1, 1) := by decide +kernel
theorem dX12_load_60 : decode cX12_load 60 = .ok (.ireturn, 1) := by decide +kernel
theorem dX12_days_0 : decode cX12_days 0 = .ok (.iload_n 1, 1) := by decide +kernel
theorem dX12_days_1 : decode cX12_days 1 = .ok (.iconst 0, 1) := by decide +kernel
theorem dX12_days_2 : decode cX12_days 2 = .ok (.bipush 60, 2) := by decide +kernel
theorem dX12_days_4 : decode cX12_days 4 = .ok (.invokestatic 116, 3) := by decide +kernel
theorem dX12_days_7 : decode cX12_days 7 = .ok (.invokestatic 120, 3) := by decide +kernel
theorem dX12_days_10 : decode cX12_days 10 = .ok (.iconst 0, 1) := by decide +kernel
theorem dX12_days_11 : decode cX12_days 11 = .ok (.istore_n 2, 1) := by decide +kernel
theorem dX12_days_12 : decode cX12_days 12 = .ok (.iload_n 2, 1) := by decide +kernel
theorem dX12_days_13 : decode cX12_days 13 = .ok (.iload_n 1, 1) := by decide +kernel
theorem dX12_days_14 : decode cX12_days 14 = .ok (.if_icmp .ge 55, 3) := by decide +kernel
theorem dX12_days_17 : decode cX12_days 17 = .ok (.aload_n 0, 1) := by decide +kernel
theorem dX12_days_18 : decode cX12_days 18 = .ok (.getfield 277, 3) := by decide +kernel
theorem dX12_days_21 : decode cX12_days 21 = .ok (.sipush 400, 3) := by decide +kernel
theorem dX12_days_24 : decode cX12_days 24 = .ok (.if_icmp .ge 45, 3) := by decide +kernel
theorem dX12_days_27 : decode cX12_days 27 = .ok (.aload_n 0, 1) := by decide +kernel
theorem dX12_days_28 : decode cX12_days 28 = .ok (.dup, 1) := by decide +kernel
theorem dX12_days_29 : decode cX12_days 29 = .ok (.getfield 277, 3) := by decide +kernel
theorem dX12_days_32 : decode cX12_days 32 = .ok (.iconst 1, 1) := by decide +kernel
theorem dX12_days_33 : decode cX12_days 33 = .ok (.iadd, 1) := by decide +kernel
theorem dX12_days_34 : decode cX12_days 34 = .ok (.putfield 277, 3) := by decide +kernel
theorem dX12_days_37 : decode cX12_days 37 = .ok (.iconst 0, 1) := by decide +kernel
theorem dX12_days_38 : decode cX12_days 38 = .ok (.istore_n 3, 1) := by decide +kernel
theorem dX12_days_39 : decode cX12_days 39 = .ok (.iload_n 3, 1) := by decide +kernel
theorem dX12_days_40 : decode cX12_days 40 = .ok (.aload_n 0, 1) := by decide +kernel
theorem dX12_days_41 : decode cX12_days 41 = .ok (.getfield 231, 3) := by decide +kernel
theorem dX12_days_44 : decode cX12_days 44 = .ok (.if_icmp .ge 19, 3) := by decide +kernel
theorem dX12_days_47 : decode cX12_days 47 = .ok (.aload_n 0, 1) := by decide +kernel
theorem dX12_days_48 : decode cX12_days 48 = .ok (.aload_n 0, 1) := by decide +kernel
theorem dX12_days_49 : decode cX12_days 49 = .ok (.getfield 79, 3) := by decide +kernel
theorem dX12_days_52 : decode cX12_days 52 = .ok (.iload_n 3, 1) := by decide +kernel
theorem dX12_days_53 : decode cX12_days 53 = .ok (.aaload, 1) := by decide +kernel
theorem dX12_days_54 : decode cX12_days 54 = .ok (.invokevirtual 280, 3) := by decide +kernel
theorem dX12_days_57 : decode cX12_days 57 = .ok (.iinc 3 1, 3) := by decide +kernel
theorem dX12_days_60 : decode cX12_days 60 = .ok (.goto (-21), 3) := by decide +kernel
theorem dX12_days_63 : decode cX12_days 63 = .ok (.iinc 2 1, 3) := by decide +kernel
theorem dX12_days_66 : decode cX12_days 66 = .ok (.goto (-54), 3) := by decide +kernel
theorem dX12_days_69 : decode cX12_days 69 = .ok (.aload_n 0, 1) := by decide +kernel
theorem dX12_days_70 : decode cX12_days 70 = .ok (.getfield 277, 3) := by decide +kernel
theorem dX12_days_73 : decode cX12_days 73 = .ok (.ireturn, 1) := by decide +kernel
theorem dX12_led_0 : decode cX12_led 0 = .ok (.aload_n 0, 1) := by decide +kernel
theorem dX12_led_1 : decode cX12_led 1 = .ok (.iload_n 1, 1) := by decide +kernel
theorem dX12_led_2 : decode cX12_led 2 = .ok (.invokevirtual 261, 3) := by decide +kernel
theorem dX12_led_5 : decode cX12_led 5 = .ok (.astore_n 3, 1) := by decide +kernel
theorem dX12_led_6 : decode cX12_led 6 = .ok (.iload_n 2, 1) := by decide +kernel
theorem dX12_led_7 : decode cX12_led 7 = .ok (.bipush 15, 2) := by decide +kernel
theorem dX12_led_9 : decode cX12_led 9 = .ok (.invokestatic 149, 3) := by decide +kernel
theorem dX12_led_12 : decode cX12_led 12 = .ok (.iload_n 2, 1) := by decide +kernel
theorem dX12_led_13 : decode cX12_led 13 = .ok (.tableswitch 162 0 15 #[79, 84, 89, 94, 102, 162, 162, 162, 162, 162, 107, 112, 117, 123, 129, 157], 79) := by decide +kernel
theorem dX12_led_92 : decode cX12_led 92 = .ok (.aload_n 3, 1) := by decide +kernel
theorem dX12_led_93 : decode cX12_led 93 = .ok (.getfield 265, 3) := by decide +kernel
theorem dX12_led_96 : decode cX12_led 96 = .ok (.ireturn, 1) := by decide +kernel
theorem dX12_led_97 : decode cX12_led 97 = .ok (.aload_n 3, 1) := by decide +kernel
theorem dX12_led_98 : decode cX12_led 98 = .ok (.getfield 274, 3) := by decide +kernel
theorem dX12_led_101 : decode cX12_led 101 = .ok (.ireturn, 1) := by decide +kernel
theorem dX12_led_102 : decode cX12_led 102 = .ok (.aload_n 3, 1) := by decide +kernel
theorem dX12_led_103 : decode cX12_led 103 = .ok (.getfield 284, 3) := by decide +kernel
theorem dX12_led_106 : decode cX12_led 106 = .ok (.ireturn, 1) := by decide +kernel
theorem dX12_led_107 : decode cX12_led 107 = .ok (.aload_n 3, 1) := by decide +kernel
theorem dX12_led_108 : decode cX12_led 108 = .ok (.getfield 246, 3) := by decide +kernel
theorem dX12_led_111 : decode cX12_led 111 = .ok (.getfield 145, 3) := by decide +kernel
theorem dX12_led_114 : decode cX12_led 114 = .ok (.ireturn, 1) := by decide +kernel
theorem dX12_led_115 : decode cX12_led 115 = .ok (.aload_n 3, 1) := by decide +kernel
theorem dX12_led_116 : decode cX12_led 116 = .ok (.getfield 287, 3) := by decide +kernel
theorem dX12_led_119 : decode cX12_led 119 = .ok (.ireturn, 1) := by decide +kernel
theorem dX12_led_120 : decode cX12_led 120 = .ok (.aload_n 3, 1) := by decide +kernel
theorem dX12_led_121 : decode cX12_led 121 = .ok (.getfield 290, 3) := by decide +kernel
theorem dX12_led_124 : decode cX12_led 124 = .ok (.ireturn, 1) := by decide +kernel
theorem dX12_led_125 : decode cX12_led 125 = .ok (.aload_n 3, 1) := by decide +kernel
theorem dX12_led_126 : decode cX12_led 126 = .ok (.getfield 268, 3) := by decide +kernel
theorem dX12_led_129 : decode cX12_led 129 = .ok (.ireturn, 1) := by decide +kernel
theorem dX12_led_130 : decode cX12_led 130 = .ok (.aload_n 3, 1) := by decide +kernel
theorem dX12_led_131 : decode cX12_led 131 = .ok (.iconst 0, 1) := by decide +kernel
theorem dX12_led_132 : decode cX12_led 132 = .ok (.invokevirtual 293, 3) := by decide +kernel
theorem dX12_led_135 : decode cX12_led 135 = .ok (.ireturn, 1) := by decide +kernel
theorem dX12_led_136 : decode cX12_led 136 = .ok (.aload_n 3, 1) := by decide +kernel
theorem dX12_led_137 : decode cX12_led 137 = .ok (.iconst 2, 1) := by decide +kernel
theorem dX12_led_138 : decode cX12_led 138 = .ok (.invokevirtual 293, 3) := by decide +kernel
theorem dX12_led_141 : decode cX12_led 141 = .ok (.ireturn, 1) := by decide +kernel
theorem dX12_led_142 : decode cX12_led 142 = .ok (.aload_n 3, 1) := by decide +kernel
theorem dX12_led_143 : decode cX12_led 143 = .ok (.getfield 251, 3) := by decide +kernel
theorem dX12_led_146 : decode cX12_led 146 = .ok (.aload_n 3, 1) := by decide +kernel
theorem dX12_led_147 : decode cX12_led 147 = .ok (.getfield 296, 3) := by decide +kernel
theorem dX12_led_150 : decode cX12_led 150 = .ok (.aload_n 3, 1) := by decide +kernel
theorem dX12_led_151 : decode cX12_led 151 = .ok (.getfield 299, 3) := by decide +kernel
theorem dX12_led_154 : decode cX12_led 154 = .ok (.aload_n 3, 1) := by decide +kernel
theorem dX12_led_155 : decode cX12_led 155 = .ok (.getfield 302, 3) := by decide +kernel
theorem dX12_led_158 : decode cX12_led 158 = .ok (.invokevirtual 166, 3) := by decide +kernel
theorem dX12_led_161 : decode cX12_led 161 = .ok (.ifCond .eq 7, 3) := by decide +kernel
theorem dX12_led_164 : decode cX12_led 164 = .ok (.iconst 1, 1) := by decide +kernel
theorem dX12_led_165 : decode cX12_led 165 = .ok (.goto 4, 3) := by decide +kernel
theorem dX12_led_168 : decode cX12_led 168 = .ok (.iconst 0, 1) := by decide +kernel
theorem dX12_led_169 : decode cX12_led 169 = .ok (.ireturn, 1) := by decide +kernel
theorem dX12_led_170 : decode cX12_led 170 = .ok (.aload_n 3, 1) := by decide +kernel
theorem dX12_led_171 : decode cX12_led 171 = .ok (.getfield 305, 3) := by decide +kernel
theorem dX12_led_174 : decode cX12_led 174 = .ok (.ireturn, 1) := by decide +kernel
theorem dX12_led_175 : decode cX12_led 175 = .ok (.aload_n 3, 1) := by decide +kernel
theorem dX12_led_176 : decode cX12_led 176 = .ok (.getfield 251, 3) := by decide +kernel
theorem dX12_led_179 : decode cX12_led 179 = .ok (.iload_n 2, 1) := by decide +kernel
theorem dX12_led_180 : decode cX12_led 180 = .ok (.iconst 5, 1) := by decide +kernel
theorem dX12_led_181 : decode cX12_led 181 = .ok (.isub, 1) := by decide +kernel
theorem dX12_led_182 : decode cX12_led 182 = .ok (.invokevirtual 155, 3) := by decide +kernel
theorem dX12_led_185 : decode cX12_led 185 = .ok (.ireturn, 1) := by decide +kernel
theorem dX12_works_0 : decode cX12_works 0 = .ok (.iload_n 1, 1) := by decide +kernel
theorem dX12_works_1 : decode cX12_works 1 = .ok (.aload_n 0, 1) := by decide +kernel
theorem dX12_works_2 : decode cX12_works 2 = .ok (.getfield 231, 3) := by decide +kernel
theorem dX12_works_5 : decode cX12_works 5 = .ok (.invokestatic 146, 3) := by decide +kernel
theorem dX12_works_8 : decode cX12_works 8 = .ok (.iload_n 2, 1) := by decide +kernel
theorem dX12_works_9 : decode cX12_works 9 = .ok (.iconst 4, 1) := by decide +kernel
theorem dX12_works_10 : decode cX12_works 10 = .ok (.invokestatic 149, 3) := by decide +kernel
theorem dX12_works_13 : decode cX12_works 13 = .ok (.aload_n 0, 1) := by decide +kernel
theorem dX12_works_14 : decode cX12_works 14 = .ok (.getfield 79, 3) := by decide +kernel
theorem dX12_works_17 : decode cX12_works 17 = .ok (.iload_n 1, 1) := by decide +kernel
theorem dX12_works_18 : decode cX12_works 18 = .ok (.aaload, 1) := by decide +kernel
theorem dX12_works_19 : decode cX12_works 19 = .ok (.astore_n 3, 1) := by decide +kernel
theorem dX12_works_20 : decode cX12_works 20 = .ok (.iload_n 2, 1) := by decide +kernel
theorem dX12_works_21 : decode cX12_works 21 = .ok (.tableswitch 51 0 3 #[31, 36, 41, 46], 31) := by decide +kernel
theorem dX12_works_52 : decode cX12_works 52 = .ok (.aload_n 3, 1) := by decide +kernel
theorem dX12_works_53 : decode cX12_works 53 = .ok (.getfield 234, 3) := by decide +kernel
theorem dX12_works_56 : decode cX12_works 56 = .ok (.ireturn, 1) := by decide +kernel
theorem dX12_works_57 : decode cX12_works 57 = .ok (.aload_n 3, 1) := by decide +kernel
theorem dX12_works_58 : decode cX12_works 58 = .ok (.getfield 308, 3) := by decide +kernel
theorem dX12_works_61 : decode cX12_works 61 = .ok (.ireturn, 1) := by decide +kernel
theorem dX12_works_62 : decode cX12_works 62 = .ok (.aload_n 3, 1) := by decide +kernel
theorem dX12_works_63 : decode cX12_works 63 = .ok (.getfield 311, 3) := by decide +kernel
theorem dX12_works_66 : decode cX12_works 66 = .ok (.ireturn, 1) := by decide +kernel
theorem dX12_works_67 : decode cX12_works 67 = .ok (.aload_n 3, 1) := by decide +kernel
theorem dX12_works_68 : decode cX12_works 68 = .ok (.getfield 314, 3) := by decide +kernel
theorem dX12_works_71 : decode cX12_works 71 = .ok (.ireturn, 1) := by decide +kernel
theorem dX12_works_72 : decode cX12_works 72 = .ok (.aload_n 3, 1) := by decide +kernel
theorem dX12_works_73 : decode cX12_works 73 = .ok (.getfield 317, 3) := by decide +kernel
theorem dX12_works_76 : decode cX12_works 76 = .ok (.ireturn, 1) := by decide +kernel
theorem dX12_measure_0 : decode cX12_measure 0 = .ok (.aload_n 0, 1) := by decide +kernel
theorem dX12_measure_1 : decode cX12_measure 1 = .ok (.iload_n 1, 1) := by decide +kernel
theorem dX12_measure_2 : decode cX12_measure 2 = .ok (.invokevirtual 261, 3) := by decide +kernel
theorem dX12_measure_5 : decode cX12_measure 5 = .ok (.astore 4, 2) := by decide +kernel
theorem dX12_measure_7 : decode cX12_measure 7 = .ok (.iload_n 2, 1) := by decide +kernel
theorem dX12_measure_8 : decode cX12_measure 8 = .ok (.aload 4, 2) := by decide +kernel
theorem dX12_measure_10 : decode cX12_measure 10 = .ok (.getfield 268, 3) := by decide +kernel
theorem dX12_measure_13 : decode cX12_measure 13 = .ok (.invokestatic 146, 3) := by decide +kernel
theorem dX12_measure_16 : decode cX12_measure 16 = .ok (.aload 4, 2) := by decide +kernel
theorem dX12_measure_18 : decode cX12_measure 18 = .ok (.invokestatic 320, 3) := by decide +kernel
theorem dX12_measure_21 : decode cX12_measure 21 = .ok (.iload_n 3, 1) := by decide +kernel
theorem dX12_measure_22 : decode cX12_measure 22 = .ok (.iconst 0, 1) := by decide +kernel
theorem dX12_measure_23 : decode cX12_measure 23 = .ok (.sipush 255, 3) := by decide +kernel
theorem dX12_measure_26 : decode cX12_measure 26 = .ok (.invokestatic 116, 3) := by decide +kernel
theorem dX12_measure_29 : decode cX12_measure 29 = .ok (.invokestatic 120, 3) := by decide +kernel
theorem dX12_measure_32 : decode cX12_measure 32 = .ok (.aload_n 0, 1) := by decide +kernel
theorem dX12_measure_33 : decode cX12_measure 33 = .ok (.getfield 93, 3) := by decide +kernel
theorem dX12_measure_36 : decode cX12_measure 36 = .ok (.iload_n 3, 1) := by decide +kernel
theorem dX12_measure_37 : decode cX12_measure 37 = .ok (.aload_n 0, 1) := by decide +kernel
theorem dX12_measure_38 : decode cX12_measure 38 = .ok (.getfield 277, 3) := by decide +kernel
theorem dX12_measure_41 : decode cX12_measure 41 = .ok (.aload 4, 2) := by decide +kernel
theorem dX12_measure_43 : decode cX12_measure 43 = .ok (.getfield 324, 3) := by decide +kernel
theorem dX12_measure_46 : decode cX12_measure 46 = .ok (.iload_n 2, 1) := by decide +kernel
theorem dX12_measure_47 : decode cX12_measure 47 = .ok (.iaload, 1) := by decide +kernel
theorem dX12_measure_48 : decode cX12_measure 48 = .ok (.invokevirtual 328, 3) := by decide +kernel
theorem dX12_measure_51 : decode cX12_measure 51 = .ok (.istore 5, 2) := by decide +kernel
theorem dX12_measure_53 : decode cX12_measure 53 = .ok (.iload 5, 2) := by decide +kernel
theorem dX12_measure_55 : decode cX12_measure 55 = .ok (.iconst (-1), 1) := by decide +kernel
theorem dX12_measure_56 : decode cX12_measure 56 = .ok (.if_icmp .eq 48, 3) := by decide +kernel
theorem dX12_measure_59 : decode cX12_measure 59 = .ok (.aload 4, 2) := by decide +kernel
theorem dX12_measure_61 : decode cX12_measure 61 = .ok (.getfield 324, 3) := by decide +kernel
theorem dX12_measure_64 : decode cX12_measure 64 = .ok (.iload_n 2, 1) := by decide +kernel
theorem dX12_measure_65 : decode cX12_measure 65 = .ok (.iload 5, 2) := by decide +kernel
theorem dX12_measure_67 : decode cX12_measure 67 = .ok (.iastore, 1) := by decide +kernel
theorem dX12_measure_68 : decode cX12_measure 68 = .ok (.iload_n 3, 1) := by decide +kernel
theorem dX12_measure_69 : decode cX12_measure 69 = .ok (.aload 4, 2) := by decide +kernel
theorem dX12_measure_71 : decode cX12_measure 71 = .ok (.getfield 251, 3) := by decide +kernel
theorem dX12_measure_74 : decode cX12_measure 74 = .ok (.getfield 330, 3) := by decide +kernel
theorem dX12_measure_77 : decode cX12_measure 77 = .ok (.aload 4, 2) := by decide +kernel
theorem dX12_measure_79 : decode cX12_measure 79 = .ok (.getfield 251, 3) := by decide +kernel
theorem dX12_measure_82 : decode cX12_measure 82 = .ok (.getfield 333, 3) := by decide +kernel
theorem dX12_measure_85 : decode cX12_measure 85 = .ok (.invokestatic 116, 3) := by decide +kernel
theorem dX12_measure_88 : decode cX12_measure 88 = .ok (.ifCond .ne 16, 3) := by decide +kernel
theorem dX12_measure_91 : decode cX12_measure 91 = .ok (.aload_n 0, 1) := by decide +kernel
theorem dX12_measure_92 : decode cX12_measure 92 = .ok (.getfield 93, 3) := by decide +kernel
theorem dX12_measure_95 : decode cX12_measure 95 = .ok (.dup, 1) := by decide +kernel
theorem dX12_measure_96 : decode cX12_measure 96 = .ok (.getfield 336, 3) := by decide +kernel
theorem dX12_measure_99 : decode cX12_measure 99 = .ok (.iconst 1, 1) := by decide +kernel
theorem dX12_measure_100 : decode cX12_measure 100 = .ok (.iadd, 1) := by decide +kernel
theorem dX12_measure_101 : decode cX12_measure 101 = .ok (.putfield 336, 3) := by decide +kernel
theorem dX12_measure_104 : decode cX12_measure 104 = .ok (.iload 5, 2) := by decide +kernel
theorem dX12_measure_106 : decode cX12_measure 106 = .ok (.ireturn, 1) := by decide +kernel
theorem dX12_known_0 : decode cX12_known 0 = .ok (.aload_n 0, 1) := by decide +kernel
theorem dX12_known_1 : decode cX12_known 1 = .ok (.iload_n 1, 1) := by decide +kernel
theorem dX12_known_2 : decode cX12_known 2 = .ok (.invokevirtual 261, 3) := by decide +kernel
theorem dX12_known_5 : decode cX12_known 5 = .ok (.astore 4, 2) := by decide +kernel
theorem dX12_known_7 : decode cX12_known 7 = .ok (.iload_n 2, 1) := by decide +kernel
theorem dX12_known_8 : decode cX12_known 8 = .ok (.aload 4, 2) := by decide +kernel
theorem dX12_known_10 : decode cX12_known 10 = .ok (.getfield 268, 3) := by decide +kernel
theorem dX12_known_13 : decode cX12_known 13 = .ok (.invokestatic 146, 3) := by decide +kernel
theorem dX12_known_16 : decode cX12_known 16 = .ok (.aload_n 0, 1) := by decide +kernel
theorem dX12_known_17 : decode cX12_known 17 = .ok (.aload 4, 2) := by decide +kernel
theorem dX12_known_19 : decode cX12_known 19 = .ok (.iload_n 2, 1) := by decide +kernel
theorem dX12_known_20 : decode cX12_known 20 = .ok (.iload_n 3, 1) := by decide +kernel
theorem dX12_known_21 : decode cX12_known 21 = .ok (.invokevirtual 339, 3) := by decide +kernel
theorem dX12_known_24 : decode cX12_known 24 = .ok (.ireturn, 1) := by decide +kernel
theorem dX12_sorted_0 : decode cX12_sorted 0 = .ok (.aload_n 0, 1) := by decide +kernel
theorem dX12_sorted_1 : decode cX12_sorted 1 = .ok (.iload_n 1, 1) := by decide +kernel
theorem dX12_sorted_2 : decode cX12_sorted 2 = .ok (.invokevirtual 261, 3) := by decide +kernel
theorem dX12_sorted_5 : decode cX12_sorted 5 = .ok (.astore 4, 2) := by decide +kernel
theorem dX12_sorted_7 : decode cX12_sorted 7 = .ok (.iload_n 3, 1) := by decide +kernel
theorem dX12_sorted_8 : decode cX12_sorted 8 = .ok (.iconst 3, 1) := by decide +kernel
theorem dX12_sorted_9 : decode cX12_sorted 9 = .ok (.invokestatic 149, 3) := by decide +kernel
theorem dX12_sorted_12 : decode cX12_sorted 12 = .ok (.iconst 0, 1) := by decide +kernel
theorem dX12_sorted_13 : decode cX12_sorted 13 = .ok (.istore 5, 2) := by decide +kernel
theorem dX12_sorted_15 : decode cX12_sorted 15 = .ok (.iconst 0, 1) := by decide +kernel
theorem dX12_sorted_16 : decode cX12_sorted 16 = .ok (.istore 6, 2) := by decide +kernel
theorem dX12_sorted_18 : decode cX12_sorted 18 = .ok (.iload 6, 2) := by decide +kernel
theorem dX12_sorted_20 : decode cX12_sorted 20 = .ok (.aload 4, 2) := by decide +kernel
theorem dX12_sorted_22 : decode cX12_sorted 22 = .ok (.getfield 268, 3) := by decide +kernel
theorem dX12_sorted_25 : decode cX12_sorted 25 = .ok (.if_icmp .ge 35, 3) := by decide +kernel
theorem dX12_sorted_28 : decode cX12_sorted 28 = .ok (.aload 4, 2) := by decide +kernel
theorem dX12_sorted_30 : decode cX12_sorted 30 = .ok (.iload 6, 2) := by decide +kernel
theorem dX12_sorted_32 : decode cX12_sorted 32 = .ok (.invokevirtual 343, 3) := by decide +kernel
theorem dX12_sorted_35 : decode cX12_sorted 35 = .ok (.ifCond .eq 19, 3) := by decide +kernel
theorem dX12_sorted_38 : decode cX12_sorted 38 = .ok (.aload_n 0, 1) := by decide +kernel
theorem dX12_sorted_39 : decode cX12_sorted 39 = .ok (.aload 4, 2) := by decide +kernel
theorem dX12_sorted_41 : decode cX12_sorted 41 = .ok (.iload 6, 2) := by decide +kernel
theorem dX12_sorted_43 : decode cX12_sorted 43 = .ok (.iload_n 2, 1) := by decide +kernel
theorem dX12_sorted_44 : decode cX12_sorted 44 = .ok (.invokevirtual 339, 3) := by decide +kernel
theorem dX12_sorted_47 : decode cX12_sorted 47 = .ok (.iload_n 3, 1) := by decide +kernel
theorem dX12_sorted_48 : decode cX12_sorted 48 = .ok (.if_icmp .ne 6, 3) := by decide +kernel
theorem dX12_sorted_51 : decode cX12_sorted 51 = .ok (.iinc 5 1, 3) := by decide +kernel
theorem dX12_sorted_54 : decode cX12_sorted 54 = .ok (.iinc 6 1, 3) := by decide +kernel
theorem dX12_sorted_57 : decode cX12_sorted 57 = .ok (.goto (-39), 3) := by decide +kernel
theorem dX12_sorted_60 : decode cX12_sorted 60 = .ok (.iload 5, 2) := by decide +kernel
theorem dX12_sorted_62 : decode cX12_sorted 62 = .ok (.ireturn, 1) := by decide +kernel
theorem dX12_again_0 : decode cX12_again 0 = .ok (.aload_n 0, 1) := by decide +kernel
theorem dX12_again_1 : decode cX12_again 1 = .ok (.iload_n 1, 1) := by decide +kernel
theorem dX12_again_2 : decode cX12_again 2 = .ok (.invokevirtual 261, 3) := by decide +kernel
theorem dX12_again_5 : decode cX12_again 5 = .ok (.astore_n 2, 1) := by decide +kernel
theorem dX12_again_6 : decode cX12_again 6 = .ok (.aload_n 2, 1) := by decide +kernel
theorem dX12_again_7 : decode cX12_again 7 = .ok (.invokestatic 320, 3) := by decide +kernel
theorem dX12_again_10 : decode cX12_again 10 = .ok (.aload_n 0, 1) := by decide +kernel
theorem dX12_again_11 : decode cX12_again 11 = .ok (.iload_n 1, 1) := by decide +kernel
theorem dX12_again_12 : decode cX12_again 12 = .ok (.aload_n 0, 1) := by decide +kernel
theorem dX12_again_13 : decode cX12_again 13 = .ok (.getfield 277, 3) := by decide +kernel
theorem dX12_again_16 : decode cX12_again 16 = .ok (.iconst 3, 1) := by decide +kernel
theorem dX12_again_17 : decode cX12_again 17 = .ok (.invokevirtual 347, 3) := by decide +kernel
theorem dX12_again_20 : decode cX12_again 20 = .ok (.istore_n 3, 1) := by decide +kernel
theorem dX12_again_21 : decode cX12_again 21 = .ok (.aload_n 2, 1) := by decide +kernel
theorem dX12_again_22 : decode cX12_again 22 = .ok (.getfield 350, 3) := by decide +kernel
theorem dX12_again_25 : decode cX12_again 25 = .ok (.aload_n 0, 1) := by decide +kernel
theorem dX12_again_26 : decode cX12_again 26 = .ok (.getfield 37, 3) := by decide +kernel
theorem dX12_again_29 : decode cX12_again 29 = .ok (.bipush 13, 2) := by decide +kernel
theorem dX12_again_31 : decode cX12_again 31 = .ok (.invokevirtual 228, 3) := by decide +kernel
theorem dX12_again_34 : decode cX12_again 34 = .ok (.if_icmp .ge 19, 3) := by decide +kernel
theorem dX12_again_37 : decode cX12_again 37 = .ok (.iload_n 3, 1) := by decide +kernel
theorem dX12_again_38 : decode cX12_again 38 = .ok (.ifCond .eq 15, 3) := by decide +kernel
theorem dX12_again_41 : decode cX12_again 41 = .ok (.aload_n 0, 1) := by decide +kernel
theorem dX12_again_42 : decode cX12_again 42 = .ok (.getfield 86, 3) := by decide +kernel
theorem dX12_again_45 : decode cX12_again 45 = .ok (.invokevirtual 237, 3) := by decide +kernel
theorem dX12_again_48 : decode cX12_again 48 = .ok (.bipush 40, 2) := by decide +kernel
theorem dX12_again_50 : decode cX12_again 50 = .ok (.if_icmp .lt 5, 3) := by decide +kernel
theorem dX12_again_53 : decode cX12_again 53 = .ok (.iconst (-1), 1) := by decide +kernel
theorem dX12_again_54 : decode cX12_again 54 = .ok (.ireturn, 1) := by decide +kernel
theorem dX12_again_55 : decode cX12_again 55 = .ok (.new 239, 3) := by decide +kernel
theorem dX12_again_58 : decode cX12_again 58 = .ok (.dup, 1) := by decide +kernel
theorem dX12_again_59 : decode cX12_again 59 = .ok (.aload_n 2, 1) := by decide +kernel
theorem dX12_again_60 : decode cX12_again 60 = .ok (.getfield 305, 3) := by decide +kernel
theorem dX12_again_63 : decode cX12_again 63 = .ok (.iload_n 3, 1) := by decide +kernel
theorem dX12_again_64 : decode cX12_again 64 = .ok (.aload_n 2, 1) := by decide +kernel
theorem dX12_again_65 : decode cX12_again 65 = .ok (.getfield 353, 3) := by decide +kernel
theorem dX12_again_68 : decode cX12_again 68 = .ok (.aload_n 2, 1) := by decide +kernel
theorem dX12_again_69 : decode cX12_again 69 = .ok (.getfield 356, 3) := by decide +kernel
theorem dX12_again_72 : decode cX12_again 72 = .ok (.iconst 1, 1) := by decide +kernel
theorem dX12_again_73 : decode cX12_again 73 = .ok (.invokespecial 241, 3) := by decide +kernel
theorem dX12_again_76 : decode cX12_again 76 = .ok (.astore 4, 2) := by decide +kernel
theorem dX12_again_78 : decode cX12_again 78 = .ok (.aload 4, 2) := by decide +kernel
theorem dX12_again_80 : decode cX12_again 80 = .ok (.aload_n 2, 1) := by decide +kernel
theorem dX12_again_81 : decode cX12_again 81 = .ok (.getfield 296, 3) := by decide +kernel
theorem dX12_again_84 : decode cX12_again 84 = .ok (.aload_n 2, 1) := by decide +kernel
theorem dX12_again_85 : decode cX12_again 85 = .ok (.getfield 299, 3) := by decide +kernel
theorem dX12_again_88 : decode cX12_again 88 = .ok (.aload_n 2, 1) := by decide +kernel
theorem dX12_again_89 : decode cX12_again 89 = .ok (.getfield 302, 3) := by decide +kernel
theorem dX12_again_92 : decode cX12_again 92 = .ok (.invokevirtual 243, 3) := by decide +kernel
theorem dX12_again_95 : decode cX12_again 95 = .ok (.aload 4, 2) := by decide +kernel
theorem dX12_again_97 : decode cX12_again 97 = .ok (.getfield 246, 3) := by decide +kernel
theorem dX12_again_100 : decode cX12_again 100 = .ok (.aload_n 0, 1) := by decide +kernel
theorem dX12_again_101 : decode cX12_again 101 = .ok (.getfield 37, 3) := by decide +kernel
theorem dX12_again_104 : decode cX12_again 104 = .ok (.bipush 14, 2) := by decide +kernel
theorem dX12_again_106 : decode cX12_again 106 = .ok (.invokevirtual 228, 3) := by decide +kernel
theorem dX12_again_109 : decode cX12_again 109 = .ok (.aload_n 0, 1) := by decide +kernel
theorem dX12_again_110 : decode cX12_again 110 = .ok (.getfield 37, 3) := by decide +kernel
theorem dX12_again_113 : decode cX12_again 113 = .ok (.bipush 15, 2) := by decide +kernel
theorem dX12_again_115 : decode cX12_again 115 = .ok (.invokevirtual 228, 3) := by decide +kernel
theorem dX12_again_118 : decode cX12_again 118 = .ok (.invokevirtual 359, 3) := by decide +kernel
theorem dX12_again_121 : decode cX12_again 121 = .ok (.aload 4, 2) := by decide +kernel
theorem dX12_again_123 : decode cX12_again 123 = .ok (.iload_n 1, 1) := by decide +kernel
theorem dX12_again_124 : decode cX12_again 124 = .ok (.putfield 290, 3) := by decide +kernel
theorem dX12_again_127 : decode cX12_again 127 = .ok (.aload 4, 2) := by decide +kernel
theorem dX12_again_129 : decode cX12_again 129 = .ok (.aload_n 2, 1) := by decide +kernel
theorem dX12_again_130 : decode cX12_again 130 = .ok (.getfield 350, 3) := by decide +kernel
theorem dX12_again_133 : decode cX12_again 133 = .ok (.iconst 1, 1) := by decide +kernel
theorem dX12_again_134 : decode cX12_again 134 = .ok (.iadd, 1) := by decide +kernel
theorem dX12_again_135 : decode cX12_again 135 = .ok (.putfield 350, 3) := by decide +kernel
theorem dX12_again_138 : decode cX12_again 138 = .ok (.aload 4, 2) := by decide +kernel
theorem dX12_again_140 : decode cX12_again 140 = .ok (.getfield 251, 3) := by decide +kernel
theorem dX12_again_143 : decode cX12_again 143 = .ok (.aload_n 2, 1) := by decide +kernel
theorem dX12_again_144 : decode cX12_again 144 = .ok (.getfield 251, 3) := by decide +kernel
theorem dX12_again_147 : decode cX12_again 147 = .ok (.invokevirtual 254, 3) := by decide +kernel
theorem dX12_again_150 : decode cX12_again 150 = .ok (.aload_n 0, 1) := by decide +kernel
theorem dX12_again_151 : decode cX12_again 151 = .ok (.aload_n 2, 1) := by decide +kernel
theorem dX12_again_152 : decode cX12_again 152 = .ok (.aload 4, 2) := by decide +kernel
theorem dX12_again_154 : decode cX12_again 154 = .ok (.getfield 251, 3) := by decide +kernel
theorem dX12_again_157 : decode cX12_again 157 = .ok (.invokevirtual 362, 3) := by decide +kernel
theorem dX12_again_160 : decode cX12_again 160 = .ok (.aload_n 0, 1) := by decide +kernel
theorem dX12_again_161 : decode cX12_again 161 = .ok (.aload 4, 2) := by decide +kernel
theorem dX12_again_163 : decode cX12_again 163 = .ok (.invokevirtual 257, 3) := by decide +kernel
theorem dX12_again_166 : decode cX12_again 166 = .ok (.ireturn, 1) := by decide +kernel
theorem dX12_deliver_0 : decode cX12_deliver 0 = .ok (.iload_n 1, 1) := by decide +kernel
theorem dX12_deliver_1 : decode cX12_deliver 1 = .ok (.aload_n 0, 1) := by decide +kernel
theorem dX12_deliver_2 : decode cX12_deliver 2 = .ok (.getfield 124, 3) := by decide +kernel
theorem dX12_deliver_5 : decode cX12_deliver 5 = .ok (.invokestatic 146, 3) := by decide +kernel
theorem dX12_deliver_8 : decode cX12_deliver 8 = .ok (.iload_n 2, 1) := by decide +kernel
theorem dX12_deliver_9 : decode cX12_deliver 9 = .ok (.iconst 1, 1) := by decide +kernel
theorem dX12_deliver_10 : decode cX12_deliver 10 = .ok (.bipush 20, 2) := by decide +kernel
theorem dX12_deliver_12 : decode cX12_deliver 12 = .ok (.invokestatic 116, 3) := by decide +kernel
theorem dX12_deliver_15 : decode cX12_deliver 15 = .ok (.invokestatic 120, 3) := by decide +kernel
theorem dX12_deliver_18 : decode cX12_deliver 18 = .ok (.aload_n 0, 1) := by decide +kernel
theorem dX12_deliver_19 : decode cX12_deliver 19 = .ok (.iload_n 1, 1) := by decide +kernel
theorem dX12_deliver_20 : decode cX12_deliver 20 = .ok (.invokevirtual 366, 3) := by decide +kernel
theorem dX12_deliver_23 : decode cX12_deliver 23 = .ok (.iload_n 2, 1) := by decide +kernel
theorem dX12_deliver_24 : decode cX12_deliver 24 = .ok (.if_icmp .ge 5, 3) := by decide +kernel
theorem dX12_deliver_27 : decode cX12_deliver 27 = .ok (.iconst (-1), 1) := by decide +kernel
theorem dX12_deliver_28 : decode cX12_deliver 28 = .ok (.ireturn, 1) := by decide +kernel
theorem dX12_deliver_29 : decode cX12_deliver 29 = .ok (.iconst 0, 1) := by decide +kernel
theorem dX12_deliver_30 : decode cX12_deliver 30 = .ok (.istore_n 3, 1) := by decide +kernel
theorem dX12_deliver_31 : decode cX12_deliver 31 = .ok (.iconst 0, 1) := by decide +kernel
theorem dX12_deliver_32 : decode cX12_deliver 32 = .ok (.istore 4, 2) := by decide +kernel
theorem dX12_deliver_34 : decode cX12_deliver 34 = .ok (.iload 4, 2) := by decide +kernel
theorem dX12_deliver_36 : decode cX12_deliver 36 = .ok (.iload_n 2, 1) := by decide +kernel
theorem dX12_deliver_37 : decode cX12_deliver 37 = .ok (.if_icmp .ge 25, 3) := by decide +kernel
theorem dX12_deliver_40 : decode cX12_deliver 40 = .ok (.iload_n 3, 1) := by decide +kernel
theorem dX12_deliver_41 : decode cX12_deliver 41 = .ok (.aload_n 0, 1) := by decide +kernel
theorem dX12_deliver_42 : decode cX12_deliver 42 = .ok (.aload_n 0, 1) := by decide +kernel
theorem dX12_deliver_43 : decode cX12_deliver 43 = .ok (.getfield 93, 3) := by decide +kernel
theorem dX12_deliver_46 : decode cX12_deliver 46 = .ok (.iload 4, 2) := by decide +kernel
theorem dX12_deliver_48 : decode cX12_deliver 48 = .ok (.invokevirtual 369, 3) := by decide +kernel
theorem dX12_deliver_51 : decode cX12_deliver 51 = .ok (.invokevirtual 372, 3) := by decide +kernel
theorem dX12_deliver_54 : decode cX12_deliver 54 = .ok (.iadd, 1) := by decide +kernel
theorem dX12_deliver_55 : decode cX12_deliver 55 = .ok (.istore_n 3, 1) := by decide +kernel
theorem dX12_deliver_56 : decode cX12_deliver 56 = .ok (.iinc 4 1, 3) := by decide +kernel
theorem dX12_deliver_59 : decode cX12_deliver 59 = .ok (.goto (-25), 3) := by decide +kernel
theorem dX12_deliver_62 : decode cX12_deliver 62 = .ok (.aload_n 0, 1) := by decide +kernel
theorem dX12_deliver_63 : decode cX12_deliver 63 = .ok (.dup, 1) := by decide +kernel
theorem dX12_deliver_64 : decode cX12_deliver 64 = .ok (.getfield 375, 3) := by decide +kernel
theorem dX12_deliver_67 : decode cX12_deliver 67 = .ok (.iload_n 2, 1) := by decide +kernel
theorem dX12_deliver_68 : decode cX12_deliver 68 = .ok (.iadd, 1) := by decide +kernel
theorem dX12_deliver_69 : decode cX12_deliver 69 = .ok (.putfield 375, 3) := by decide +kernel
theorem dX12_deliver_72 : decode cX12_deliver 72 = .ok (.aload_n 0, 1) := by decide +kernel
theorem dX12_deliver_73 : decode cX12_deliver 73 = .ok (.dup, 1) := by decide +kernel
theorem dX12_deliver_74 : decode cX12_deliver 74 = .ok (.getfield 378, 3) := by decide +kernel
theorem dX12_deliver_77 : decode cX12_deliver 77 = .ok (.iload_n 3, 1) := by decide +kernel
theorem dX12_deliver_78 : decode cX12_deliver 78 = .ok (.iadd, 1) := by decide +kernel
theorem dX12_deliver_79 : decode cX12_deliver 79 = .ok (.putfield 378, 3) := by decide +kernel
theorem dX12_deliver_82 : decode cX12_deliver 82 = .ok (.iload_n 3, 1) := by decide +kernel
theorem dX12_deliver_83 : decode cX12_deliver 83 = .ok (.ireturn, 1) := by decide +kernel
theorem dX12_ready_0 : decode cX12_ready 0 = .ok (.iload_n 1, 1) := by decide +kernel
theorem dX12_ready_1 : decode cX12_ready 1 = .ok (.aload_n 0, 1) := by decide +kernel
theorem dX12_ready_2 : decode cX12_ready 2 = .ok (.getfield 124, 3) := by decide +kernel
theorem dX12_ready_5 : decode cX12_ready 5 = .ok (.invokestatic 146, 3) := by decide +kernel
theorem dX12_ready_8 : decode cX12_ready 8 = .ok (.aload_n 0, 1) := by decide +kernel
theorem dX12_ready_9 : decode cX12_ready 9 = .ok (.iload_n 1, 1) := by decide +kernel
theorem dX12_ready_10 : decode cX12_ready 10 = .ok (.invokevirtual 366, 3) := by decide +kernel
theorem dX12_ready_13 : decode cX12_ready 13 = .ok (.ireturn, 1) := by decide +kernel
theorem dX12_pattern_0 : decode cX12_pattern 0 = .ok (.iload_n 1, 1) := by decide +kernel
theorem dX12_pattern_1 : decode cX12_pattern 1 = .ok (.iconst 1, 1) := by decide +kernel
theorem dX12_pattern_2 : decode cX12_pattern 2 = .ok (.bipush 6, 2) := by decide +kernel
theorem dX12_pattern_4 : decode cX12_pattern 4 = .ok (.invokestatic 116, 3) := by decide +kernel
theorem dX12_pattern_7 : decode cX12_pattern 7 = .ok (.ifCond .eq 16, 3) := by decide +kernel
theorem dX12_pattern_10 : decode cX12_pattern 10 = .ok (.iload_n 2, 1) := by decide +kernel
theorem dX12_pattern_11 : decode cX12_pattern 11 = .ok (.iconst 1, 1) := by decide +kernel
theorem dX12_pattern_12 : decode cX12_pattern 12 = .ok (.iconst 4, 1) := by decide +kernel
theorem dX12_pattern_13 : decode cX12_pattern 13 = .ok (.invokestatic 116, 3) := by decide +kernel
theorem dX12_pattern_16 : decode cX12_pattern 16 = .ok (.ifCond .eq 7, 3) := by decide +kernel
theorem dX12_pattern_19 : decode cX12_pattern 19 = .ok (.iconst 1, 1) := by decide +kernel
theorem dX12_pattern_20 : decode cX12_pattern 20 = .ok (.goto 4, 3) := by decide +kernel
theorem dX12_pattern_23 : decode cX12_pattern 23 = .ok (.iconst 0, 1) := by decide +kernel
theorem dX12_pattern_24 : decode cX12_pattern 24 = .ok (.invokestatic 120, 3) := by decide +kernel
theorem dX12_pattern_27 : decode cX12_pattern 27 = .ok (.aload_n 0, 1) := by decide +kernel
theorem dX12_pattern_28 : decode cX12_pattern 28 = .ok (.getfield 100, 3) := by decide +kernel
theorem dX12_pattern_31 : decode cX12_pattern 31 = .ok (.iload_n 1, 1) := by decide +kernel
theorem dX12_pattern_32 : decode cX12_pattern 32 = .ok (.iload_n 2, 1) := by decide +kernel
theorem dX12_pattern_33 : decode cX12_pattern 33 = .ok (.invokevirtual 381, 3) := by decide +kernel
theorem dX12_pattern_36 : decode cX12_pattern 36 = .ok (.return_, 1) := by decide +kernel
theorem dX12_heat_0 : decode cX12_heat 0 = .ok (.iload_n 1, 1) := by decide +kernel
theorem dX12_heat_1 : decode cX12_heat 1 = .ok (.iconst 0, 1) := by decide +kernel
theorem dX12_heat_2 : decode cX12_heat 2 = .ok (.aload_n 0, 1) := by decide +kernel
theorem dX12_heat_3 : decode cX12_heat 3 = .ok (.getfield 100, 3) := by decide +kernel
theorem dX12_heat_6 : decode cX12_heat 6 = .ok (.getfield 384, 3) := by decide +kernel
theorem dX12_heat_9 : decode cX12_heat 9 = .ok (.iconst 1, 1) := by decide +kernel
theorem dX12_heat_10 : decode cX12_heat 10 = .ok (.isub, 1) := by decide +kernel
theorem dX12_heat_11 : decode cX12_heat 11 = .ok (.invokestatic 116, 3) := by decide +kernel
theorem dX12_heat_14 : decode cX12_heat 14 = .ok (.ifCond .eq 34, 3) := by decide +kernel
theorem dX12_heat_17 : decode cX12_heat 17 = .ok (.iload_n 2, 1) := by decide +kernel
theorem dX12_heat_18 : decode cX12_heat 18 = .ok (.iconst 0, 1) := by decide +kernel
theorem dX12_heat_19 : decode cX12_heat 19 = .ok (.aload_n 0, 1) := by decide +kernel
theorem dX12_heat_20 : decode cX12_heat 20 = .ok (.getfield 100, 3) := by decide +kernel
theorem dX12_heat_23 : decode cX12_heat 23 = .ok (.getfield 387, 3) := by decide +kernel
theorem dX12_heat_26 : decode cX12_heat 26 = .ok (.iconst 1, 1) := by decide +kernel
theorem dX12_heat_27 : decode cX12_heat 27 = .ok (.isub, 1) := by decide +kernel
theorem dX12_heat_28 : decode cX12_heat 28 = .ok (.invokestatic 116, 3) := by decide +kernel
theorem dX12_heat_31 : decode cX12_heat 31 = .ok (.ifCond .eq 17, 3) := by decide +kernel
theorem dX12_heat_34 : decode cX12_heat 34 = .ok (.iload_n 3, 1) := by decide +kernel
theorem dX12_heat_35 : decode cX12_heat 35 = .ok (.iconst 0, 1) := by decide +kernel
theorem dX12_heat_36 : decode cX12_heat 36 = .ok (.bipush 9, 2) := by decide +kernel
theorem dX12_heat_38 : decode cX12_heat 38 = .ok (.invokestatic 116, 3) := by decide +kernel
theorem dX12_heat_41 : decode cX12_heat 41 = .ok (.ifCond .eq 7, 3) := by decide +kernel
theorem dX12_heat_44 : decode cX12_heat 44 = .ok (.iconst 1, 1) := by decide +kernel
theorem dX12_heat_45 : decode cX12_heat 45 = .ok (.goto 4, 3) := by decide +kernel
theorem dX12_heat_48 : decode cX12_heat 48 = .ok (.iconst 0, 1) := by decide +kernel
theorem dX12_heat_49 : decode cX12_heat 49 = .ok (.invokestatic 120, 3) := by decide +kernel
theorem dX12_heat_52 : decode cX12_heat 52 = .ok (.aload_n 0, 1) := by decide +kernel
theorem dX12_heat_53 : decode cX12_heat 53 = .ok (.getfield 100, 3) := by decide +kernel
theorem dX12_heat_56 : decode cX12_heat 56 = .ok (.iload_n 1, 1) := by decide +kernel
theorem dX12_heat_57 : decode cX12_heat 57 = .ok (.iload_n 2, 1) := by decide +kernel
theorem dX12_heat_58 : decode cX12_heat 58 = .ok (.iload_n 3, 1) := by decide +kernel
theorem dX12_heat_59 : decode cX12_heat 59 = .ok (.invokevirtual 390, 3) := by decide +kernel
theorem dX12_heat_62 : decode cX12_heat 62 = .ok (.ireturn, 1) := by decide +kernel
theorem dX12_burn_0 : decode cX12_burn 0 = .ok (.iload_n 1, 1) := by decide +kernel
theorem dX12_burn_1 : decode cX12_burn 1 = .ok (.iconst 2, 1) := by decide +kernel
theorem dX12_burn_2 : decode cX12_burn 2 = .ok (.invokestatic 146, 3) := by decide +kernel
theorem dX12_burn_5 : decode cX12_burn 5 = .ok (.iload_n 2, 1) := by decide +kernel
theorem dX12_burn_6 : decode cX12_burn 6 = .ok (.iconst 0, 1) := by decide +kernel
theorem dX12_burn_7 : decode cX12_burn 7 = .ok (.iconst 5, 1) := by decide +kernel
theorem dX12_burn_8 : decode cX12_burn 8 = .ok (.invokestatic 116, 3) := by decide +kernel
theorem dX12_burn_11 : decode cX12_burn 11 = .ok (.ifCond .eq 16, 3) := by decide +kernel
theorem dX12_burn_14 : decode cX12_burn 14 = .ok (.iload_n 3, 1) := by decide +kernel
theorem dX12_burn_15 : decode cX12_burn 15 = .ok (.iconst 0, 1) := by decide +kernel
theorem dX12_burn_16 : decode cX12_burn 16 = .ok (.iconst 3, 1) := by decide +kernel
theorem dX12_burn_17 : decode cX12_burn 17 = .ok (.invokestatic 116, 3) := by decide +kernel
theorem dX12_burn_20 : decode cX12_burn 20 = .ok (.ifCond .eq 7, 3) := by decide +kernel
theorem dX12_burn_23 : decode cX12_burn 23 = .ok (.iconst 1, 1) := by decide +kernel
theorem dX12_burn_24 : decode cX12_burn 24 = .ok (.goto 4, 3) := by decide +kernel
theorem dX12_burn_27 : decode cX12_burn 27 = .ok (.iconst 0, 1) := by decide +kernel
theorem dX12_burn_28 : decode cX12_burn 28 = .ok (.invokestatic 120, 3) := by decide +kernel
theorem dX12_burn_31 : decode cX12_burn 31 = .ok (.aload_n 0, 1) := by decide +kernel
theorem dX12_burn_32 : decode cX12_burn 32 = .ok (.getfield 100, 3) := by decide +kernel
theorem dX12_burn_35 : decode cX12_burn 35 = .ok (.iload_n 1, 1) := by decide +kernel
theorem dX12_burn_36 : decode cX12_burn 36 = .ok (.iload_n 2, 1) := by decide +kernel
theorem dX12_burn_37 : decode cX12_burn 37 = .ok (.iload_n 3, 1) := by decide +kernel
theorem dX12_burn_38 : decode cX12_burn 38 = .ok (.invokevirtual 393, 3) := by decide +kernel
theorem dX12_burn_41 : decode cX12_burn 41 = .ok (.return_, 1) := by decide +kernel
theorem dX12_burned_0 : decode cX12_burned 0 = .ok (.iload_n 1, 1) := by decide +kernel
theorem dX12_burned_1 : decode cX12_burned 1 = .ok (.iconst 2, 1) := by decide +kernel
theorem dX12_burned_2 : decode cX12_burned 2 = .ok (.invokestatic 146, 3) := by decide +kernel
theorem dX12_burned_5 : decode cX12_burned 5 = .ok (.iload_n 2, 1) := by decide +kernel
theorem dX12_burned_6 : decode cX12_burned 6 = .ok (.iconst 0, 1) := by decide +kernel
theorem dX12_burned_7 : decode cX12_burned 7 = .ok (.bipush 11, 2) := by decide +kernel
theorem dX12_burned_9 : decode cX12_burned 9 = .ok (.invokestatic 116, 3) := by decide +kernel
theorem dX12_burned_12 : decode cX12_burned 12 = .ok (.ifCond .eq 17, 3) := by decide +kernel
theorem dX12_burned_15 : decode cX12_burned 15 = .ok (.iload_n 3, 1) := by decide +kernel
theorem dX12_burned_16 : decode cX12_burned 16 = .ok (.iconst 0, 1) := by decide +kernel
theorem dX12_burned_17 : decode cX12_burned 17 = .ok (.bipush 7, 2) := by decide +kernel
theorem dX12_burned_19 : decode cX12_burned 19 = .ok (.invokestatic 116, 3) := by decide +kernel
theorem dX12_burned_22 : decode cX12_burned 22 = .ok (.ifCond .eq 7, 3) := by decide +kernel
theorem dX12_burned_25 : decode cX12_burned 25 = .ok (.iconst 1, 1) := by decide +kernel
theorem dX12_burned_26 : decode cX12_burned 26 = .ok (.goto 4, 3) := by decide +kernel
theorem dX12_burned_29 : decode cX12_burned 29 = .ok (.iconst 0, 1) := by decide +kernel
theorem dX12_burned_30 : decode cX12_burned 30 = .ok (.invokestatic 120, 3) := by decide +kernel
theorem dX12_burned_33 : decode cX12_burned 33 = .ok (.aload_n 0, 1) := by decide +kernel
theorem dX12_burned_34 : decode cX12_burned 34 = .ok (.getfield 100, 3) := by decide +kernel
theorem dX12_burned_37 : decode cX12_burned 37 = .ok (.getfield 396, 3) := by decide +kernel
theorem dX12_burned_40 : decode cX12_burned 40 = .ok (.iload_n 1, 1) := by decide +kernel
theorem dX12_burned_41 : decode cX12_burned 41 = .ok (.aaload, 1) := by decide +kernel
theorem dX12_burned_42 : decode cX12_burned 42 = .ok (.iload_n 3, 1) := by decide +kernel
theorem dX12_burned_43 : decode cX12_burned 43 = .ok (.bipush 12, 2) := by decide +kernel
theorem dX12_burned_45 : decode cX12_burned 45 = .ok (.imul, 1) := by decide +kernel
theorem dX12_burned_46 : decode cX12_burned 46 = .ok (.iload_n 2, 1) := by decide +kernel
theorem dX12_burned_47 : decode cX12_burned 47 = .ok (.iadd, 1) := by decide +kernel
theorem dX12_burned_48 : decode cX12_burned 48 = .ok (.iaload, 1) := by decide +kernel
theorem dX12_burned_49 : decode cX12_burned 49 = .ok (.ireturn, 1) := by decide +kernel
theorem dX12_seam_0 : decode cX12_seam 0 = .ok (.iload_n 1, 1) := by decide +kernel
theorem dX12_seam_1 : decode cX12_seam 1 = .ok (.iconst 0, 1) := by decide +kernel
theorem dX12_seam_2 : decode cX12_seam 2 = .ok (.bipush 7, 2) := by decide +kernel
theorem dX12_seam_4 : decode cX12_seam 4 = .ok (.invokestatic 116, 3) := by decide +kernel
theorem dX12_seam_7 : decode cX12_seam 7 = .ok (.invokestatic 120, 3) := by decide +kernel
theorem dX12_seam_10 : decode cX12_seam 10 = .ok (.aload_n 0, 1) := by decide +kernel
theorem dX12_seam_11 : decode cX12_seam 11 = .ok (.getfield 100, 3) := by decide +kernel
theorem dX12_seam_14 : decode cX12_seam 14 = .ok (.iload_n 1, 1) := by decide +kernel
theorem dX12_seam_15 : decode cX12_seam 15 = .ok (.invokevirtual 400, 3) := by decide +kernel
theorem dX12_seam_18 : decode cX12_seam 18 = .ok (.ireturn, 1) := by decide +kernel
theorem dX12_shift_0 : decode cX12_shift 0 = .ok (.aload_n 0, 1) := by decide +kernel
theorem dX12_shift_1 : decode cX12_shift 1 = .ok (.getfield 100, 3) := by decide +kernel
theorem dX12_shift_4 : decode cX12_shift 4 = .ok (.invokevirtual 403, 3) := by decide +kernel
theorem dX12_shift_7 : decode cX12_shift 7 = .ok (.ireturn, 1) := by decide +kernel
theorem dX12_count_0 : decode cX12_count 0 = .ok (.iload_n 1, 1) := by decide +kernel
theorem dX12_count_1 : decode cX12_count 1 = .ok (.tableswitch 225 0 18 #[91, 96, 104, 112, 120, 128, 136, 144, 152, 160, 168, 173, 178, 186, 191, 199, 207, 212, 217], 91) := by decide +kernel
theorem dX12_count_92 : decode cX12_count 92 = .ok (.aload_n 0, 1) := by decide +kernel
theorem dX12_count_93 : decode cX12_count 93 = .ok (.getfield 124, 3) := by decide +kernel
theorem dX12_count_96 : decode cX12_count 96 = .ok (.ireturn, 1) := by decide +kernel
theorem dX12_count_97 : decode cX12_count 97 = .ok (.aload_n 0, 1) := by decide +kernel
theorem dX12_count_98 : decode cX12_count 98 = .ok (.getfield 27, 3) := by decide +kernel
theorem dX12_count_101 : decode cX12_count 101 = .ok (.getfield 145, 3) := by decide +kernel
theorem dX12_count_104 : decode cX12_count 104 = .ok (.ireturn, 1) := by decide +kernel
theorem dX12_count_105 : decode cX12_count 105 = .ok (.aload_n 0, 1) := by decide +kernel
theorem dX12_count_106 : decode cX12_count 106 = .ok (.getfield 59, 3) := by decide +kernel
theorem dX12_count_109 : decode cX12_count 109 = .ok (.getfield 188, 3) := by decide +kernel
theorem dX12_count_112 : decode cX12_count 112 = .ok (.ireturn, 1) := by decide +kernel
theorem dX12_count_113 : decode cX12_count 113 = .ok (.aload_n 0, 1) := by decide +kernel
theorem dX12_count_114 : decode cX12_count 114 = .ok (.getfield 66, 3) := by decide +kernel
theorem dX12_count_117 : decode cX12_count 117 = .ok (.getfield 191, 3) := by decide +kernel
theorem dX12_count_120 : decode cX12_count 120 = .ok (.ireturn, 1) := by decide +kernel
theorem dX12_count_121 : decode cX12_count 121 = .ok (.aload_n 0, 1) := by decide +kernel
theorem dX12_count_122 : decode cX12_count 122 = .ok (.getfield 66, 3) := by decide +kernel
theorem dX12_count_125 : decode cX12_count 125 = .ok (.getfield 406, 3) := by decide +kernel
theorem dX12_count_128 : decode cX12_count 128 = .ok (.ireturn, 1) := by decide +kernel
theorem dX12_count_129 : decode cX12_count 129 = .ok (.aload_n 0, 1) := by decide +kernel
theorem dX12_count_130 : decode cX12_count 130 = .ok (.getfield 66, 3) := by decide +kernel
theorem dX12_count_133 : decode cX12_count 133 = .ok (.getfield 409, 3) := by decide +kernel
theorem dX12_count_136 : decode cX12_count 136 = .ok (.ireturn, 1) := by decide +kernel
theorem dX12_count_137 : decode cX12_count 137 = .ok (.aload_n 0, 1) := by decide +kernel
theorem dX12_count_138 : decode cX12_count 138 = .ok (.getfield 66, 3) := by decide +kernel
theorem dX12_count_141 : decode cX12_count 141 = .ok (.invokevirtual 412, 3) := by decide +kernel
theorem dX12_count_144 : decode cX12_count 144 = .ok (.ireturn, 1) := by decide +kernel
theorem dX12_count_145 : decode cX12_count 145 = .ok (.aload_n 0, 1) := by decide +kernel
theorem dX12_count_146 : decode cX12_count 146 = .ok (.getfield 66, 3) := by decide +kernel
theorem dX12_count_149 : decode cX12_count 149 = .ok (.getfield 197, 3) := by decide +kernel
theorem dX12_count_152 : decode cX12_count 152 = .ok (.ireturn, 1) := by decide +kernel
theorem dX12_count_153 : decode cX12_count 153 = .ok (.aload_n 0, 1) := by decide +kernel
theorem dX12_count_154 : decode cX12_count 154 = .ok (.getfield 66, 3) := by decide +kernel
theorem dX12_count_157 : decode cX12_count 157 = .ok (.getfield 415, 3) := by decide +kernel
theorem dX12_count_160 : decode cX12_count 160 = .ok (.ireturn, 1) := by decide +kernel
theorem dX12_count_161 : decode cX12_count 161 = .ok (.aload_n 0, 1) := by decide +kernel
theorem dX12_count_162 : decode cX12_count 162 = .ok (.getfield 73, 3) := by decide +kernel
theorem dX12_count_165 : decode cX12_count 165 = .ok (.getfield 221, 3) := by decide +kernel
theorem dX12_count_168 : decode cX12_count 168 = .ok (.ireturn, 1) := by decide +kernel
theorem dX12_count_169 : decode cX12_count 169 = .ok (.aload_n 0, 1) := by decide +kernel
theorem dX12_count_170 : decode cX12_count 170 = .ok (.getfield 277, 3) := by decide +kernel
theorem dX12_count_173 : decode cX12_count 173 = .ok (.ireturn, 1) := by decide +kernel
theorem dX12_count_174 : decode cX12_count 174 = .ok (.aload_n 0, 1) := by decide +kernel
theorem dX12_count_175 : decode cX12_count 175 = .ok (.getfield 231, 3) := by decide +kernel
theorem dX12_count_178 : decode cX12_count 178 = .ok (.ireturn, 1) := by decide +kernel
theorem dX12_count_179 : decode cX12_count 179 = .ok (.aload_n 0, 1) := by decide +kernel
theorem dX12_count_180 : decode cX12_count 180 = .ok (.getfield 86, 3) := by decide +kernel
theorem dX12_count_183 : decode cX12_count 183 = .ok (.invokevirtual 237, 3) := by decide +kernel
theorem dX12_count_186 : decode cX12_count 186 = .ok (.ireturn, 1) := by decide +kernel
theorem dX12_count_187 : decode cX12_count 187 = .ok (.aload_n 0, 1) := by decide +kernel
theorem dX12_count_188 : decode cX12_count 188 = .ok (.invokevirtual 418, 3) := by decide +kernel
theorem dX12_count_191 : decode cX12_count 191 = .ok (.ireturn, 1) := by decide +kernel
theorem dX12_count_192 : decode cX12_count 192 = .ok (.aload_n 0, 1) := by decide +kernel
theorem dX12_count_193 : decode cX12_count 193 = .ok (.getfield 93, 3) := by decide +kernel
theorem dX12_count_196 : decode cX12_count 196 = .ok (.getfield 421, 3) := by decide +kernel
theorem dX12_count_199 : decode cX12_count 199 = .ok (.ireturn, 1) := by decide +kernel
theorem dX12_count_200 : decode cX12_count 200 = .ok (.aload_n 0, 1) := by decide +kernel
theorem dX12_count_201 : decode cX12_count 201 = .ok (.getfield 93, 3) := by decide +kernel
theorem dX12_count_204 : decode cX12_count 204 = .ok (.getfield 336, 3) := by decide +kernel
theorem dX12_count_207 : decode cX12_count 207 = .ok (.ireturn, 1) := by decide +kernel
theorem dX12_count_208 : decode cX12_count 208 = .ok (.aload_n 0, 1) := by decide +kernel
theorem dX12_count_209 : decode cX12_count 209 = .ok (.getfield 375, 3) := by decide +kernel
theorem dX12_count_212 : decode cX12_count 212 = .ok (.ireturn, 1) := by decide +kernel
theorem dX12_count_213 : decode cX12_count 213 = .ok (.aload_n 0, 1) := by decide +kernel
theorem dX12_count_214 : decode cX12_count 214 = .ok (.getfield 378, 3) := by decide +kernel
theorem dX12_count_217 : decode cX12_count 217 = .ok (.ireturn, 1) := by decide +kernel
theorem dX12_count_218 : decode cX12_count 218 = .ok (.aload_n 0, 1) := by decide +kernel
theorem dX12_count_219 : decode cX12_count 219 = .ok (.getfield 37, 3) := by decide +kernel
theorem dX12_count_222 : decode cX12_count 222 = .ok (.getfield 225, 3) := by decide +kernel
theorem dX12_count_225 : decode cX12_count 225 = .ok (.ireturn, 1) := by decide +kernel
theorem dX12_count_226 : decode cX12_count 226 = .ok (.iconst (-1), 1) := by decide +kernel
theorem dX12_count_227 : decode cX12_count 227 = .ok (.ireturn, 1) := by decide +kernel
theorem dX12_within_0 : decode cX12_within 0 = .ok (.iload_n 0, 1) := by decide +kernel
theorem dX12_within_1 : decode cX12_within 1 = .ok (.iload_n 1, 1) := by decide +kernel
theorem dX12_within_2 : decode cX12_within 2 = .ok (.if_icmp .lt 12, 3) := by decide +kernel
theorem dX12_within_5 : decode cX12_within 5 = .ok (.iload_n 0, 1) := by decide +kernel
theorem dX12_within_6 : decode cX12_within 6 = .ok (.iload_n 2, 1) := by decide +kernel
theorem dX12_within_7 : decode cX12_within 7 = .ok (.if_icmp .gt 7, 3) := by decide +kernel
theorem dX12_within_10 : decode cX12_within 10 = .ok (.iconst 1, 1) := by decide +kernel
theorem dX12_within_11 : decode cX12_within 11 = .ok (.goto 4, 3) := by decide +kernel
theorem dX12_within_14 : decode cX12_within 14 = .ok (.iconst 0, 1) := by decide +kernel
theorem dX12_within_15 : decode cX12_within 15 = .ok (.ireturn, 1) := by decide +kernel
theorem dX12_need_0 : decode cX12_need 0 = .ok (.iload_n 0, 1) := by decide +kernel
theorem dX12_need_1 : decode cX12_need 1 = .ok (.ifCond .ne 14, 3) := by decide +kernel
theorem dX12_need_4 : decode cX12_need 4 = .ok (.new 422, 3) := by decide +kernel
theorem dX12_need_7 : decode cX12_need 7 = .ok (.dup, 1) := by decide +kernel
theorem dX12_need_8 : decode cX12_need 8 = .ok (.ldc_w 424, 3) := by decide +kernel
theorem dX12_need_11 : decode cX12_need 11 = .ok (.invokespecial 426, 3) := by decide +kernel
theorem dX12_need_14 : decode cX12_need 14 = .ok (.athrow, 1) := by decide +kernel
theorem dX12_need_15 : decode cX12_need 15 = .ok (.return_, 1) := by decide +kernel
theorem dX12_needIndex_0 : decode cX12_needIndex 0 = .ok (.iload_n 0, 1) := by decide +kernel
theorem dX12_needIndex_1 : decode cX12_needIndex 1 = .ok (.ifCond .lt 8, 3) := by decide +kernel
theorem dX12_needIndex_4 : decode cX12_needIndex 4 = .ok (.iload_n 0, 1) := by decide +kernel
theorem dX12_needIndex_5 : decode cX12_needIndex 5 = .ok (.iload_n 1, 1) := by decide +kernel
theorem dX12_needIndex_6 : decode cX12_needIndex 6 = .ok (.if_icmp .lt 14, 3) := by decide +kernel
theorem dX12_needIndex_9 : decode cX12_needIndex 9 = .ok (.new 429, 3) := by decide +kernel
theorem dX12_needIndex_12 : decode cX12_needIndex 12 = .ok (.dup, 1) := by decide +kernel
theorem dX12_needIndex_13 : decode cX12_needIndex 13 = .ok (.ldc_w 431, 3) := by decide +kernel
theorem dX12_needIndex_16 : decode cX12_needIndex 16 = .ok (.invokespecial 433, 3) := by decide +kernel
theorem dX12_needIndex_19 : decode cX12_needIndex 19 = .ok (.athrow, 1) := by decide +kernel
theorem dX12_needIndex_20 : decode cX12_needIndex 20 = .ok (.return_, 1) := by decide +kernel
theorem dX12_needWhat_0 : decode cX12_needWhat 0 = .ok (.iload_n 0, 1) := by decide +kernel
theorem dX12_needWhat_1 : decode cX12_needWhat 1 = .ok (.ifCond .lt 8, 3) := by decide +kernel
theorem dX12_needWhat_4 : decode cX12_needWhat 4 = .ok (.iload_n 0, 1) := by decide +kernel
theorem dX12_needWhat_5 : decode cX12_needWhat 5 = .ok (.iload_n 1, 1) := by decide +kernel
theorem dX12_needWhat_6 : decode cX12_needWhat 6 = .ok (.if_icmp .le 14, 3) := by decide +kernel
theorem dX12_needWhat_9 : decode cX12_needWhat 9 = .ok (.new 434, 3) := by decide +kernel
theorem dX12_needWhat_12 : decode cX12_needWhat 12 = .ok (.dup, 1) := by decide +kernel
theorem dX12_needWhat_13 : decode cX12_needWhat 13 = .ok (.ldc_w 436, 3) := by decide +kernel
theorem dX12_needWhat_16 : decode cX12_needWhat 16 = .ok (.invokespecial 438, 3) := by decide +kernel
theorem dX12_needWhat_19 : decode cX12_needWhat 19 = .ok (.athrow, 1) := by decide +kernel
theorem dX12_needWhat_20 : decode cX12_needWhat 20 = .ok (.return_, 1) := by decide +kernel
theorem dX12_needRoom_0 : decode cX12_needRoom 0 = .ok (.iload_n 0, 1) := by decide +kernel
theorem dX12_needRoom_1 : decode cX12_needRoom 1 = .ok (.iload_n 1, 1) := by decide +kernel
theorem dX12_needRoom_2 : decode cX12_needRoom 2 = .ok (.if_icmp .lt 14, 3) := by decide +kernel
theorem dX12_needRoom_5 : decode cX12_needRoom 5 = .ok (.new 439, 3) := by decide +kernel
theorem dX12_needRoom_8 : decode cX12_needRoom 8 = .ok (.dup, 1) := by decide +kernel
theorem dX12_needRoom_9 : decode cX12_needRoom 9 = .ok (.ldc_w 441, 3) := by decide +kernel
theorem dX12_needRoom_12 : decode cX12_needRoom 12 = .ok (.invokespecial 443, 3) := by decide +kernel
theorem dX12_needRoom_15 : decode cX12_needRoom 15 = .ok (.athrow, 1) := by decide +kernel
theorem dX12_needRoom_16 : decode cX12_needRoom 16 = .ok (.return_, 1) := by decide +kernel
theorem dX12_needWish_0 : decode cX12_needWish 0 = .ok (.iconst 0, 1) := by decide +kernel
theorem dX12_needWish_1 : decode cX12_needWish 1 = .ok (.iload_n 0, 1) := by decide +kernel
theorem dX12_needWish_2 : decode cX12_needWish 2 = .ok (.if_icmp .gt 30, 3) := by decide +kernel
theorem dX12_needWish_5 : decode cX12_needWish 5 = .ok (.iload_n 0, 1) := by decide +kernel
theorem dX12_needWish_6 : decode cX12_needWish 6 = .ok (.iload_n 1, 1) := by decide +kernel
theorem dX12_needWish_7 : decode cX12_needWish 7 = .ok (.if_icmp .gt 25, 3) := by decide +kernel
theorem dX12_needWish_10 : decode cX12_needWish 10 = .ok (.iload_n 1, 1) := by decide +kernel
theorem dX12_needWish_11 : decode cX12_needWish 11 = .ok (.sipush 255, 3) := by decide +kernel
theorem dX12_needWish_14 : decode cX12_needWish 14 = .ok (.if_icmp .gt 18, 3) := by decide +kernel
theorem dX12_needWish_17 : decode cX12_needWish 17 = .ok (.iload_n 2, 1) := by decide +kernel
theorem dX12_needWish_18 : decode cX12_needWish 18 = .ok (.iconst 0, 1) := by decide +kernel
theorem dX12_needWish_19 : decode cX12_needWish 19 = .ok (.sipush 255, 3) := by decide +kernel
theorem dX12_needWish_22 : decode cX12_needWish 22 = .ok (.invokestatic 116, 3) := by decide +kernel
theorem dX12_needWish_25 : decode cX12_needWish 25 = .ok (.ifCond .eq 7, 3) := by decide +kernel
theorem dX12_needWish_28 : decode cX12_needWish 28 = .ok (.iconst 1, 1) := by decide +kernel
theorem dX12_needWish_29 : decode cX12_needWish 29 = .ok (.goto 4, 3) := by decide +kernel
theorem dX12_needWish_32 : decode cX12_needWish 32 = .ok (.iconst 0, 1) := by decide +kernel
theorem dX12_needWish_33 : decode cX12_needWish 33 = .ok (.invokestatic 120, 3) := by decide +kernel
theorem dX12_needWish_36 : decode cX12_needWish 36 = .ok (.return_, 1) := by decide +kernel
theorem dX12_needWashed_0 : decode cX12_needWashed 0 = .ok (.aload_n 0, 1) := by decide +kernel
theorem dX12_needWashed_1 : decode cX12_needWashed 1 = .ok (.getfield 265, 3) := by decide +kernel
theorem dX12_needWashed_4 : decode cX12_needWashed 4 = .ok (.iconst 3, 1) := by decide +kernel
theorem dX12_needWashed_5 : decode cX12_needWashed 5 = .ok (.if_icmp .eq 14, 3) := by decide +kernel
theorem dX12_needWashed_8 : decode cX12_needWashed 8 = .ok (.new 444, 3) := by decide +kernel
theorem dX12_needWashed_11 : decode cX12_needWashed 11 = .ok (.dup, 1) := by decide +kernel
theorem dX12_needWashed_12 : decode cX12_needWashed 12 = .ok (.ldc_w 446, 3) := by decide +kernel
theorem dX12_needWashed_15 : decode cX12_needWashed 15 = .ok (.invokespecial 448, 3) := by decide +kernel
theorem dX12_needWashed_18 : decode cX12_needWashed 18 = .ok (.athrow, 1) := by decide +kernel
theorem dX12_needWashed_19 : decode cX12_needWashed 19 = .ok (.return_, 1) := by decide +kernel
theorem dX12_lotAt_0 : decode cX12_lotAt 0 = .ok (.iload_n 1, 1) := by decide +kernel
theorem dX12_lotAt_1 : decode cX12_lotAt 1 = .ok (.aload_n 0, 1) := by decide +kernel
theorem dX12_lotAt_2 : decode cX12_lotAt 2 = .ok (.getfield 86, 3) := by decide +kernel
theorem dX12_lotAt_5 : decode cX12_lotAt 5 = .ok (.invokevirtual 237, 3) := by decide +kernel
theorem dX12_lotAt_8 : decode cX12_lotAt 8 = .ok (.invokestatic 146, 3) := by decide +kernel
theorem dX12_lotAt_11 : decode cX12_lotAt 11 = .ok (.aload_n 0, 1) := by decide +kernel
theorem dX12_lotAt_12 : decode cX12_lotAt 12 = .ok (.getfield 86, 3) := by decide +kernel
theorem dX12_lotAt_15 : decode cX12_lotAt 15 = .ok (.iload_n 1, 1) := by decide +kernel
theorem dX12_lotAt_16 : decode cX12_lotAt 16 = .ok (.invokevirtual 449, 3) := by decide +kernel
theorem dX12_lotAt_19 : decode cX12_lotAt 19 = .ok (.checkcast 239, 3) := by decide +kernel
theorem dX12_lotAt_22 : decode cX12_lotAt 22 = .ok (.areturn, 1) := by decide +kernel
theorem dX12_addLot_0 : decode cX12_addLot 0 = .ok (.aload_n 0, 1) := by decide +kernel
theorem dX12_addLot_1 : decode cX12_addLot 1 = .ok (.getfield 86, 3) := by decide +kernel
theorem dX12_addLot_4 : decode cX12_addLot 4 = .ok (.aload_n 1, 1) := by decide +kernel
theorem dX12_addLot_5 : decode cX12_addLot 5 = .ok (.invokevirtual 453, 3) := by decide +kernel
theorem dX12_addLot_8 : decode cX12_addLot 8 = .ok (.pop, 1) := by decide +kernel
theorem dX12_addLot_9 : decode cX12_addLot 9 = .ok (.aload_n 0, 1) := by decide +kernel
theorem dX12_addLot_10 : decode cX12_addLot 10 = .ok (.getfield 86, 3) := by decide +kernel
theorem dX12_addLot_13 : decode cX12_addLot 13 = .ok (.invokevirtual 237, 3) := by decide +kernel
theorem dX12_addLot_16 : decode cX12_addLot 16 = .ok (.iconst 1, 1) := by decide +kernel
theorem dX12_addLot_17 : decode cX12_addLot 17 = .ok (.isub, 1) := by decide +kernel
theorem dX12_addLot_18 : decode cX12_addLot 18 = .ok (.ireturn, 1) := by decide +kernel
theorem dX12_tryRecipe_0 : decode cX12_tryRecipe 0 = .ok (.aload_n 0, 1) := by decide +kernel
theorem dX12_tryRecipe_1 : decode cX12_tryRecipe 1 = .ok (.getfield 45, 3) := by decide +kernel
theorem dX12_tryRecipe_4 : decode cX12_tryRecipe 4 = .ok (.aload_n 0, 1) := by decide +kernel
theorem dX12_tryRecipe_5 : decode cX12_tryRecipe 5 = .ok (.getfield 18, 3) := by decide +kernel
theorem dX12_tryRecipe_8 : decode cX12_tryRecipe 8 = .ok (.iload_n 1, 1) := by decide +kernel
theorem dX12_tryRecipe_9 : decode cX12_tryRecipe 9 = .ok (.aaload, 1) := by decide +kernel
theorem dX12_tryRecipe_10 : decode cX12_tryRecipe 10 = .ok (.invokevirtual 254, 3) := by decide +kernel
theorem dX12_tryRecipe_13 : decode cX12_tryRecipe 13 = .ok (.iload_n 2, 1) := by decide +kernel
theorem dX12_tryRecipe_14 : decode cX12_tryRecipe 14 = .ok (.aload_n 0, 1) := by decide +kernel
theorem dX12_tryRecipe_15 : decode cX12_tryRecipe 15 = .ok (.getfield 27, 3) := by decide +kernel
theorem dX12_tryRecipe_18 : decode cX12_tryRecipe 18 = .ok (.getfield 145, 3) := by decide +kernel
theorem dX12_tryRecipe_21 : decode cX12_tryRecipe 21 = .ok (.invokestatic 456, 3) := by decide +kernel
theorem dX12_tryRecipe_24 : decode cX12_tryRecipe 24 = .ok (.istore_n 3, 1) := by decide +kernel
theorem dX12_tryRecipe_25 : decode cX12_tryRecipe 25 = .ok (.iconst 0, 1) := by decide +kernel
theorem dX12_tryRecipe_26 : decode cX12_tryRecipe 26 = .ok (.istore 4, 2) := by decide +kernel
theorem dX12_tryRecipe_28 : decode cX12_tryRecipe 28 = .ok (.iload 4, 2) := by decide +kernel
theorem dX12_tryRecipe_30 : decode cX12_tryRecipe 30 = .ok (.iload_n 3, 1) := by decide +kernel
theorem dX12_tryRecipe_31 : decode cX12_tryRecipe 31 = .ok (.if_icmp .ge 36, 3) := by decide +kernel
theorem dX12_tryRecipe_34 : decode cX12_tryRecipe 34 = .ok (.aload_n 0, 1) := by decide +kernel
theorem dX12_tryRecipe_35 : decode cX12_tryRecipe 35 = .ok (.getfield 45, 3) := by decide +kernel
theorem dX12_tryRecipe_38 : decode cX12_tryRecipe 38 = .ok (.aload_n 0, 1) := by decide +kernel
theorem dX12_tryRecipe_39 : decode cX12_tryRecipe 39 = .ok (.getfield 27, 3) := by decide +kernel
theorem dX12_tryRecipe_42 : decode cX12_tryRecipe 42 = .ok (.getfield 461, 3) := by decide +kernel
theorem dX12_tryRecipe_45 : decode cX12_tryRecipe 45 = .ok (.iload 4, 2) := by decide +kernel
theorem dX12_tryRecipe_47 : decode cX12_tryRecipe 47 = .ok (.iaload, 1) := by decide +kernel
theorem dX12_tryRecipe_48 : decode cX12_tryRecipe 48 = .ok (.aload_n 0, 1) := by decide +kernel
theorem dX12_tryRecipe_49 : decode cX12_tryRecipe 49 = .ok (.getfield 27, 3) := by decide +kernel
theorem dX12_tryRecipe_52 : decode cX12_tryRecipe 52 = .ok (.getfield 464, 3) := by decide +kernel
theorem dX12_tryRecipe_55 : decode cX12_tryRecipe 55 = .ok (.iload 4, 2) := by decide +kernel
theorem dX12_tryRecipe_57 : decode cX12_tryRecipe 57 = .ok (.iaload, 1) := by decide +kernel
theorem dX12_tryRecipe_58 : decode cX12_tryRecipe 58 = .ok (.invokevirtual 467, 3) := by decide +kernel
theorem dX12_tryRecipe_61 : decode cX12_tryRecipe 61 = .ok (.iinc 4 1, 3) := by decide +kernel
theorem dX12_tryRecipe_64 : decode cX12_tryRecipe 64 = .ok (.goto (-36), 3) := by decide +kernel
theorem dX12_tryRecipe_67 : decode cX12_tryRecipe 67 = .ok (.return_, 1) := by decide +kernel
theorem dX12_searchFor_0 : decode cX12_searchFor 0 = .ok (.iload_n 1, 1) := by decide +kernel
theorem dX12_searchFor_1 : decode cX12_searchFor 1 = .ok (.aload_n 0, 1) := by decide +kernel
theorem dX12_searchFor_2 : decode cX12_searchFor 2 = .ok (.getfield 124, 3) := by decide +kernel
theorem dX12_searchFor_5 : decode cX12_searchFor 5 = .ok (.invokestatic 146, 3) := by decide +kernel
theorem dX12_searchFor_8 : decode cX12_searchFor 8 = .ok (.iload_n 2, 1) := by decide +kernel
theorem dX12_searchFor_9 : decode cX12_searchFor 9 = .ok (.iload_n 3, 1) := by decide +kernel
theorem dX12_searchFor_10 : decode cX12_searchFor 10 = .ok (.iload 4, 2) := by decide +kernel
theorem dX12_searchFor_12 : decode cX12_searchFor 12 = .ok (.invokestatic 163, 3) := by decide +kernel
theorem dX12_searchFor_15 : decode cX12_searchFor 15 = .ok (.iload 5, 2) := by decide +kernel
theorem dX12_searchFor_17 : decode cX12_searchFor 17 = .ok (.iconst 0, 1) := by decide +kernel
theorem dX12_searchFor_18 : decode cX12_searchFor 18 = .ok (.bipush 6, 2) := by decide +kernel
theorem dX12_searchFor_20 : decode cX12_searchFor 20 = .ok (.invokestatic 116, 3) := by decide +kernel
theorem dX12_searchFor_23 : decode cX12_searchFor 23 = .ok (.invokestatic 120, 3) := by decide +kernel
theorem dX12_searchFor_26 : decode cX12_searchFor 26 = .ok (.aload_n 0, 1) := by decide +kernel
theorem dX12_searchFor_27 : decode cX12_searchFor 27 = .ok (.getfield 52, 3) := by decide +kernel
theorem dX12_searchFor_30 : decode cX12_searchFor 30 = .ok (.iload_n 2, 1) := by decide +kernel
theorem dX12_searchFor_31 : decode cX12_searchFor 31 = .ok (.iload_n 3, 1) := by decide +kernel
theorem dX12_searchFor_32 : decode cX12_searchFor 32 = .ok (.iload 4, 2) := by decide +kernel
theorem dX12_searchFor_34 : decode cX12_searchFor 34 = .ok (.invokevirtual 470, 3) := by decide +kernel
theorem dX12_searchFor_37 : decode cX12_searchFor 37 = .ok (.aload_n 0, 1) := by decide +kernel
theorem dX12_searchFor_38 : decode cX12_searchFor 38 = .ok (.getfield 52, 3) := by decide +kernel
theorem dX12_searchFor_41 : decode cX12_searchFor 41 = .ok (.aload_n 0, 1) := by decide +kernel
theorem dX12_searchFor_42 : decode cX12_searchFor 42 = .ok (.getfield 18, 3) := by decide +kernel
theorem dX12_searchFor_45 : decode cX12_searchFor 45 = .ok (.iload_n 1, 1) := by decide +kernel
theorem dX12_searchFor_46 : decode cX12_searchFor 46 = .ok (.aaload, 1) := by decide +kernel
theorem dX12_searchFor_47 : decode cX12_searchFor 47 = .ok (.iload 5, 2) := by decide +kernel
theorem dX12_searchFor_49 : decode cX12_searchFor 49 = .ok (.invokevirtual 471, 3) := by decide +kernel
theorem dX12_searchFor_52 : decode cX12_searchFor 52 = .ok (.return_, 1) := by decide +kernel
theorem dX12_workDay_0 : decode cX12_workDay 0 = .ok (.sipush 480, 3) := by decide +kernel
theorem dX12_workDay_3 : decode cX12_workDay 3 = .ok (.istore_n 2, 1) := by decide +kernel
theorem dX12_workDay_4 : decode cX12_workDay 4 = .ok (.iconst 0, 1) := by decide +kernel
theorem dX12_workDay_5 : decode cX12_workDay 5 = .ok (.istore_n 3, 1) := by decide +kernel
theorem dX12_workDay_6 : decode cX12_workDay 6 = .ok (.iload_n 3, 1) := by decide +kernel
theorem dX12_workDay_7 : decode cX12_workDay 7 = .ok (.sipush 1000, 3) := by decide +kernel
theorem dX12_workDay_10 : decode cX12_workDay 10 = .ok (.if_icmp .ge 38, 3) := by decide +kernel
theorem dX12_workDay_13 : decode cX12_workDay 13 = .ok (.iload_n 2, 1) := by decide +kernel
theorem dX12_workDay_14 : decode cX12_workDay 14 = .ok (.iconst (-1), 1) := by decide +kernel
theorem dX12_workDay_15 : decode cX12_workDay 15 = .ok (.if_icmp .eq 33, 3) := by decide +kernel
theorem dX12_workDay_18 : decode cX12_workDay 18 = .ok (.aload_n 1, 1) := by decide +kernel
theorem dX12_workDay_19 : decode cX12_workDay 19 = .ok (.getfield 308, 3) := by decide +kernel
theorem dX12_workDay_22 : decode cX12_workDay 22 = .ok (.iconst (-1), 1) := by decide +kernel
theorem dX12_workDay_23 : decode cX12_workDay 23 = .ok (.if_icmp .ne 12, 3) := by decide +kernel
theorem dX12_workDay_26 : decode cX12_workDay 26 = .ok (.aload_n 0, 1) := by decide +kernel
theorem dX12_workDay_27 : decode cX12_workDay 27 = .ok (.aload_n 1, 1) := by decide +kernel
theorem dX12_workDay_28 : decode cX12_workDay 28 = .ok (.iload_n 2, 1) := by decide +kernel
theorem dX12_workDay_29 : decode cX12_workDay 29 = .ok (.invokevirtual 475, 3) := by decide +kernel
theorem dX12_workDay_32 : decode cX12_workDay 32 = .ok (.goto 9, 3) := by decide +kernel
theorem dX12_workDay_35 : decode cX12_workDay 35 = .ok (.aload_n 0, 1) := by decide +kernel
theorem dX12_workDay_36 : decode cX12_workDay 36 = .ok (.aload_n 1, 1) := by decide +kernel
theorem dX12_workDay_37 : decode cX12_workDay 37 = .ok (.iload_n 2, 1) := by decide +kernel
theorem dX12_workDay_38 : decode cX12_workDay 38 = .ok (.invokevirtual 479, 3) := by decide +kernel
theorem dX12_workDay_41 : decode cX12_workDay 41 = .ok (.istore_n 2, 1) := by decide +kernel
theorem dX12_workDay_42 : decode cX12_workDay 42 = .ok (.iinc 3 1, 3) := by decide +kernel
theorem dX12_workDay_45 : decode cX12_workDay 45 = .ok (.goto (-39), 3) := by decide +kernel
theorem dX12_workDay_48 : decode cX12_workDay 48 = .ok (.return_, 1) := by decide +kernel
theorem dX12_takeNext_0 : decode cX12_takeNext 0 = .ok (.aload_n 0, 1) := by decide +kernel
theorem dX12_takeNext_1 : decode cX12_takeNext 1 = .ok (.aload_n 1, 1) := by decide +kernel
theorem dX12_takeNext_2 : decode cX12_takeNext 2 = .ok (.invokevirtual 482, 3) := by decide +kernel
theorem dX12_takeNext_5 : decode cX12_takeNext 5 = .ok (.istore_n 3, 1) := by decide +kernel
theorem dX12_takeNext_6 : decode cX12_takeNext 6 = .ok (.iload_n 3, 1) := by decide +kernel
theorem dX12_takeNext_7 : decode cX12_takeNext 7 = .ok (.iconst (-1), 1) := by decide +kernel
theorem dX12_takeNext_8 : decode cX12_takeNext 8 = .ok (.if_icmp .ne 5, 3) := by decide +kernel
theorem dX12_takeNext_11 : decode cX12_takeNext 11 = .ok (.iconst (-1), 1) := by decide +kernel
theorem dX12_takeNext_12 : decode cX12_takeNext 12 = .ok (.ireturn, 1) := by decide +kernel
theorem dX12_takeNext_13 : decode cX12_takeNext 13 = .ok (.aload_n 0, 1) := by decide +kernel
theorem dX12_takeNext_14 : decode cX12_takeNext 14 = .ok (.aload_n 1, 1) := by decide +kernel
theorem dX12_takeNext_15 : decode cX12_takeNext 15 = .ok (.getfield 486, 3) := by decide +kernel
theorem dX12_takeNext_18 : decode cX12_takeNext 18 = .ok (.iload_n 3, 1) := by decide +kernel
theorem dX12_takeNext_19 : decode cX12_takeNext 19 = .ok (.iaload, 1) := by decide +kernel
theorem dX12_takeNext_20 : decode cX12_takeNext 20 = .ok (.invokevirtual 261, 3) := by decide +kernel
theorem dX12_takeNext_23 : decode cX12_takeNext 23 = .ok (.astore 4, 2) := by decide +kernel
theorem dX12_takeNext_25 : decode cX12_takeNext 25 = .ok (.aload_n 0, 1) := by decide +kernel
theorem dX12_takeNext_26 : decode cX12_takeNext 26 = .ok (.getfield 59, 3) := by decide +kernel
theorem dX12_takeNext_29 : decode cX12_takeNext 29 = .ok (.aload_n 1, 1) := by decide +kernel
theorem dX12_takeNext_30 : decode cX12_takeNext 30 = .ok (.getfield 314, 3) := by decide +kernel
theorem dX12_takeNext_33 : decode cX12_takeNext 33 = .ok (.aload 4, 2) := by decide +kernel
theorem dX12_takeNext_35 : decode cX12_takeNext 35 = .ok (.getfield 353, 3) := by decide +kernel
theorem dX12_takeNext_38 : decode cX12_takeNext 38 = .ok (.invokevirtual 489, 3) := by decide +kernel
theorem dX12_takeNext_41 : decode cX12_takeNext 41 = .ok (.istore 5, 2) := by decide +kernel
theorem dX12_takeNext_43 : decode cX12_takeNext 43 = .ok (.iload 5, 2) := by decide +kernel
theorem dX12_takeNext_45 : decode cX12_takeNext 45 = .ok (.iload_n 2, 1) := by decide +kernel
theorem dX12_takeNext_46 : decode cX12_takeNext 46 = .ok (.if_icmp .le 5, 3) := by decide +kernel
theorem dX12_takeNext_49 : decode cX12_takeNext 49 = .ok (.iconst (-1), 1) := by decide +kernel
theorem dX12_takeNext_50 : decode cX12_takeNext 50 = .ok (.ireturn, 1) := by decide +kernel
theorem dX12_takeNext_51 : decode cX12_takeNext 51 = .ok (.aload_n 1, 1) := by decide +kernel
theorem dX12_takeNext_52 : decode cX12_takeNext 52 = .ok (.iload_n 3, 1) := by decide +kernel
theorem dX12_takeNext_53 : decode cX12_takeNext 53 = .ok (.aload 4, 2) := by decide +kernel
theorem dX12_takeNext_55 : decode cX12_takeNext 55 = .ok (.getfield 353, 3) := by decide +kernel
theorem dX12_takeNext_58 : decode cX12_takeNext 58 = .ok (.invokevirtual 492, 3) := by decide +kernel
theorem dX12_takeNext_61 : decode cX12_takeNext 61 = .ok (.aload_n 1, 1) := by decide +kernel
theorem dX12_takeNext_62 : decode cX12_takeNext 62 = .ok (.dup, 1) := by decide +kernel
theorem dX12_takeNext_63 : decode cX12_takeNext 63 = .ok (.getfield 317, 3) := by decide +kernel
theorem dX12_takeNext_66 : decode cX12_takeNext 66 = .ok (.iload 5, 2) := by decide +kernel
theorem dX12_takeNext_68 : decode cX12_takeNext 68 = .ok (.iadd, 1) := by decide +kernel
theorem dX12_takeNext_69 : decode cX12_takeNext 69 = .ok (.putfield 317, 3) := by decide +kernel
theorem dX12_takeNext_72 : decode cX12_takeNext 72 = .ok (.aload_n 0, 1) := by decide +kernel
theorem dX12_takeNext_73 : decode cX12_takeNext 73 = .ok (.getfield 66, 3) := by decide +kernel
theorem dX12_takeNext_76 : decode cX12_takeNext 76 = .ok (.iload 5, 2) := by decide +kernel
theorem dX12_takeNext_78 : decode cX12_takeNext 78 = .ok (.invokevirtual 495, 3) := by decide +kernel
theorem dX12_takeNext_81 : decode cX12_takeNext 81 = .ok (.aload 4, 2) := by decide +kernel
theorem dX12_takeNext_83 : decode cX12_takeNext 83 = .ok (.iconst 2, 1) := by decide +kernel
theorem dX12_takeNext_84 : decode cX12_takeNext 84 = .ok (.putfield 265, 3) := by decide +kernel
theorem dX12_takeNext_87 : decode cX12_takeNext 87 = .ok (.aload_n 0, 1) := by decide +kernel
theorem dX12_takeNext_88 : decode cX12_takeNext 88 = .ok (.aload_n 1, 1) := by decide +kernel
theorem dX12_takeNext_89 : decode cX12_takeNext 89 = .ok (.aload 4, 2) := by decide +kernel
theorem dX12_takeNext_91 : decode cX12_takeNext 91 = .ok (.invokevirtual 498, 3) := by decide +kernel
theorem dX12_takeNext_94 : decode cX12_takeNext 94 = .ok (.iload_n 2, 1) := by decide +kernel
theorem dX12_takeNext_95 : decode cX12_takeNext 95 = .ok (.iload 5, 2) := by decide +kernel
theorem dX12_takeNext_97 : decode cX12_takeNext 97 = .ok (.isub, 1) := by decide +kernel
theorem dX12_takeNext_98 : decode cX12_takeNext 98 = .ok (.ireturn, 1) := by decide +kernel
theorem dX12_firstNotBarred_0 : decode cX12_firstNotBarred 0 = .ok (.iconst 0, 1) := by decide +kernel
theorem dX12_firstNotBarred_1 : decode cX12_firstNotBarred 1 = .ok (.istore_n 2, 1) := by decide +kernel
theorem dX12_firstNotBarred_2 : decode cX12_firstNotBarred 2 = .ok (.iload_n 2, 1) := by decide +kernel
theorem dX12_firstNotBarred_3 : decode cX12_firstNotBarred 3 = .ok (.aload_n 1, 1) := by decide +kernel
theorem dX12_firstNotBarred_4 : decode cX12_firstNotBarred 4 = .ok (.getfield 311, 3) := by decide +kernel
theorem dX12_firstNotBarred_7 : decode cX12_firstNotBarred 7 = .ok (.if_icmp .ge 39, 3) := by decide +kernel
theorem dX12_firstNotBarred_10 : decode cX12_firstNotBarred 10 = .ok (.aload_n 0, 1) := by decide +kernel
theorem dX12_firstNotBarred_11 : decode cX12_firstNotBarred 11 = .ok (.getfield 59, 3) := by decide +kernel
theorem dX12_firstNotBarred_14 : decode cX12_firstNotBarred 14 = .ok (.aload_n 1, 1) := by decide +kernel
theorem dX12_firstNotBarred_15 : decode cX12_firstNotBarred 15 = .ok (.getfield 314, 3) := by decide +kernel
theorem dX12_firstNotBarred_18 : decode cX12_firstNotBarred 18 = .ok (.aload_n 0, 1) := by decide +kernel
theorem dX12_firstNotBarred_19 : decode cX12_firstNotBarred 19 = .ok (.aload_n 1, 1) := by decide +kernel
theorem dX12_firstNotBarred_20 : decode cX12_firstNotBarred 20 = .ok (.getfield 486, 3) := by decide +kernel
theorem dX12_firstNotBarred_23 : decode cX12_firstNotBarred 23 = .ok (.iload_n 2, 1) := by decide +kernel
theorem dX12_firstNotBarred_24 : decode cX12_firstNotBarred 24 = .ok (.iaload, 1) := by decide +kernel
theorem dX12_firstNotBarred_25 : decode cX12_firstNotBarred 25 = .ok (.invokevirtual 261, 3) := by decide +kernel
theorem dX12_firstNotBarred_28 : decode cX12_firstNotBarred 28 = .ok (.getfield 353, 3) := by decide +kernel
theorem dX12_firstNotBarred_31 : decode cX12_firstNotBarred 31 = .ok (.invokevirtual 489, 3) := by decide +kernel
theorem dX12_firstNotBarred_34 : decode cX12_firstNotBarred 34 = .ok (.iconst (-1), 1) := by decide +kernel
theorem dX12_firstNotBarred_35 : decode cX12_firstNotBarred 35 = .ok (.if_icmp .eq 5, 3) := by decide +kernel
theorem dX12_firstNotBarred_38 : decode cX12_firstNotBarred 38 = .ok (.iload_n 2, 1) := by decide +kernel
theorem dX12_firstNotBarred_39 : decode cX12_firstNotBarred 39 = .ok (.ireturn, 1) := by decide +kernel
theorem dX12_firstNotBarred_40 : decode cX12_firstNotBarred 40 = .ok (.iinc 2 1, 3) := by decide +kernel
theorem dX12_firstNotBarred_43 : decode cX12_firstNotBarred 43 = .ok (.goto (-41), 3) := by decide +kernel
theorem dX12_firstNotBarred_46 : decode cX12_firstNotBarred 46 = .ok (.iconst (-1), 1) := by decide +kernel
theorem dX12_firstNotBarred_47 : decode cX12_firstNotBarred 47 = .ok (.ireturn, 1) := by decide +kernel
theorem dX12_doNextBath_0 : decode cX12_doNextBath 0 = .ok (.aload_n 0, 1) := by decide +kernel
theorem dX12_doNextBath_1 : decode cX12_doNextBath 1 = .ok (.aload_n 1, 1) := by decide +kernel
theorem dX12_doNextBath_2 : decode cX12_doNextBath 2 = .ok (.getfield 308, 3) := by decide +kernel
theorem dX12_doNextBath_5 : decode cX12_doNextBath 5 = .ok (.invokevirtual 261, 3) := by decide +kernel
theorem dX12_doNextBath_8 : decode cX12_doNextBath 8 = .ok (.astore_n 3, 1) := by decide +kernel
theorem dX12_doNextBath_9 : decode cX12_doNextBath 9 = .ok (.aload_n 3, 1) := by decide +kernel
theorem dX12_doNextBath_10 : decode cX12_doNextBath 10 = .ok (.getfield 246, 3) := by decide +kernel
theorem dX12_doNextBath_13 : decode cX12_doNextBath 13 = .ok (.aload_n 3, 1) := by decide +kernel
theorem dX12_doNextBath_14 : decode cX12_doNextBath 14 = .ok (.getfield 284, 3) := by decide +kernel
theorem dX12_doNextBath_17 : decode cX12_doNextBath 17 = .ok (.invokevirtual 502, 3) := by decide +kernel
theorem dX12_doNextBath_20 : decode cX12_doNextBath 20 = .ok (.istore 4, 2) := by decide +kernel
theorem dX12_doNextBath_22 : decode cX12_doNextBath 22 = .ok (.aload_n 3, 1) := by decide +kernel
theorem dX12_doNextBath_23 : decode cX12_doNextBath 23 = .ok (.getfield 246, 3) := by decide +kernel
theorem dX12_doNextBath_26 : decode cX12_doNextBath 26 = .ok (.aload_n 3, 1) := by decide +kernel
theorem dX12_doNextBath_27 : decode cX12_doNextBath 27 = .ok (.getfield 284, 3) := by decide +kernel
theorem dX12_doNextBath_30 : decode cX12_doNextBath 30 = .ok (.invokevirtual 505, 3) := by decide +kernel
theorem dX12_doNextBath_33 : decode cX12_doNextBath 33 = .ok (.istore 5, 2) := by decide +kernel
theorem dX12_doNextBath_35 : decode cX12_doNextBath 35 = .ok (.aload_n 0, 1) := by decide +kernel
theorem dX12_doNextBath_36 : decode cX12_doNextBath 36 = .ok (.getfield 37, 3) := by decide +kernel
theorem dX12_doNextBath_39 : decode cX12_doNextBath 39 = .ok (.bipush 9, 2) := by decide +kernel
theorem dX12_doNextBath_41 : decode cX12_doNextBath 41 = .ok (.iload 4, 2) := by decide +kernel
theorem dX12_doNextBath_43 : decode cX12_doNextBath 43 = .ok (.iadd, 1) := by decide +kernel
theorem dX12_doNextBath_44 : decode cX12_doNextBath 44 = .ok (.invokevirtual 228, 3) := by decide +kernel
theorem dX12_doNextBath_47 : decode cX12_doNextBath 47 = .ok (.iload 5, 2) := by decide +kernel
theorem dX12_doNextBath_49 : decode cX12_doNextBath 49 = .ok (.imul, 1) := by decide +kernel
theorem dX12_doNextBath_50 : decode cX12_doNextBath 50 = .ok (.istore 6, 2) := by decide +kernel
theorem dX12_doNextBath_52 : decode cX12_doNextBath 52 = .ok (.iload 6, 2) := by decide +kernel
theorem dX12_doNextBath_54 : decode cX12_doNextBath 54 = .ok (.iload_n 2, 1) := by decide +kernel
theorem dX12_doNextBath_55 : decode cX12_doNextBath 55 = .ok (.if_icmp .le 5, 3) := by decide +kernel
theorem dX12_doNextBath_58 : decode cX12_doNextBath 58 = .ok (.iconst (-1), 1) := by decide +kernel
theorem dX12_doNextBath_59 : decode cX12_doNextBath 59 = .ok (.ireturn, 1) := by decide +kernel
theorem dX12_doNextBath_60 : decode cX12_doNextBath 60 = .ok (.aload_n 3, 1) := by decide +kernel
theorem dX12_doNextBath_61 : decode cX12_doNextBath 61 = .ok (.getfield 268, 3) := by decide +kernel
theorem dX12_doNextBath_64 : decode cX12_doNextBath 64 = .ok (.aload_n 0, 1) := by decide +kernel
theorem dX12_doNextBath_65 : decode cX12_doNextBath 65 = .ok (.getfield 37, 3) := by decide +kernel
theorem dX12_doNextBath_68 : decode cX12_doNextBath 68 = .ok (.bipush 8, 2) := by decide +kernel
theorem dX12_doNextBath_70 : decode cX12_doNextBath 70 = .ok (.invokevirtual 228, 3) := by decide +kernel
theorem dX12_doNextBath_73 : decode cX12_doNextBath 73 = .ok (.imul, 1) := by decide +kernel
theorem dX12_doNextBath_74 : decode cX12_doNextBath 74 = .ok (.istore 7, 2) := by decide +kernel
theorem dX12_doNextBath_76 : decode cX12_doNextBath 76 = .ok (.aload_n 0, 1) := by decide +kernel
theorem dX12_doNextBath_77 : decode cX12_doNextBath 77 = .ok (.getfield 66, 3) := by decide +kernel
theorem dX12_doNextBath_80 : decode cX12_doNextBath 80 = .ok (.iload 7, 2) := by decide +kernel
theorem dX12_doNextBath_82 : decode cX12_doNextBath 82 = .ok (.aload_n 0, 1) := by decide +kernel
theorem dX12_doNextBath_83 : decode cX12_doNextBath 83 = .ok (.getfield 37, 3) := by decide +kernel
theorem dX12_doNextBath_86 : decode cX12_doNextBath 86 = .ok (.iconst 0, 1) := by decide +kernel
theorem dX12_doNextBath_87 : decode cX12_doNextBath 87 = .ok (.iload 4, 2) := by decide +kernel
theorem dX12_doNextBath_89 : decode cX12_doNextBath 89 = .ok (.iadd, 1) := by decide +kernel
theorem dX12_doNextBath_90 : decode cX12_doNextBath 90 = .ok (.invokevirtual 228, 3) := by decide +kernel
theorem dX12_doNextBath_93 : decode cX12_doNextBath 93 = .ok (.invokevirtual 200, 3) := by decide +kernel
theorem dX12_doNextBath_96 : decode cX12_doNextBath 96 = .ok (.istore 8, 2) := by decide +kernel
theorem dX12_doNextBath_98 : decode cX12_doNextBath 98 = .ok (.aload_n 3, 1) := by decide +kernel
theorem dX12_doNextBath_99 : decode cX12_doNextBath 99 = .ok (.getfield 251, 3) := by decide +kernel
theorem dX12_doNextBath_102 : decode cX12_doNextBath 102 = .ok (.iload 4, 2) := by decide +kernel
theorem dX12_doNextBath_104 : decode cX12_doNextBath 104 = .ok (.iload 5, 2) := by decide +kernel
theorem dX12_doNextBath_106 : decode cX12_doNextBath 106 = .ok (.invokevirtual 467, 3) := by decide +kernel
theorem dX12_doNextBath_109 : decode cX12_doNextBath 109 = .ok (.aload_n 3, 1) := by decide +kernel
theorem dX12_doNextBath_110 : decode cX12_doNextBath 110 = .ok (.dup, 1) := by decide +kernel
theorem dX12_doNextBath_111 : decode cX12_doNextBath 111 = .ok (.getfield 284, 3) := by decide +kernel
theorem dX12_doNextBath_114 : decode cX12_doNextBath 114 = .ok (.iconst 1, 1) := by decide +kernel
theorem dX12_doNextBath_115 : decode cX12_doNextBath 115 = .ok (.iadd, 1) := by decide +kernel
theorem dX12_doNextBath_116 : decode cX12_doNextBath 116 = .ok (.putfield 284, 3) := by decide +kernel
theorem dX12_doNextBath_119 : decode cX12_doNextBath 119 = .ok (.aload_n 0, 1) := by decide +kernel
theorem dX12_doNextBath_120 : decode cX12_doNextBath 120 = .ok (.getfield 66, 3) := by decide +kernel
theorem dX12_doNextBath_123 : decode cX12_doNextBath 123 = .ok (.aload_n 0, 1) := by decide +kernel
theorem dX12_doNextBath_124 : decode cX12_doNextBath 124 = .ok (.getfield 37, 3) := by decide +kernel
theorem dX12_doNextBath_127 : decode cX12_doNextBath 127 = .ok (.iconst 4, 1) := by decide +kernel
theorem dX12_doNextBath_128 : decode cX12_doNextBath 128 = .ok (.iload 4, 2) := by decide +kernel
theorem dX12_doNextBath_130 : decode cX12_doNextBath 130 = .ok (.iadd, 1) := by decide +kernel
theorem dX12_doNextBath_131 : decode cX12_doNextBath 131 = .ok (.invokevirtual 228, 3) := by decide +kernel
theorem dX12_doNextBath_134 : decode cX12_doNextBath 134 = .ok (.iload 7, 2) := by decide +kernel
theorem dX12_doNextBath_136 : decode cX12_doNextBath 136 = .ok (.iload 8, 2) := by decide +kernel
theorem dX12_doNextBath_138 : decode cX12_doNextBath 138 = .ok (.aload_n 3, 1) := by decide +kernel
theorem dX12_doNextBath_139 : decode cX12_doNextBath 139 = .ok (.getfield 268, 3) := by decide +kernel
theorem dX12_doNextBath_142 : decode cX12_doNextBath 142 = .ok (.iload 4, 2) := by decide +kernel
theorem dX12_doNextBath_144 : decode cX12_doNextBath 144 = .ok (.iload 5, 2) := by decide +kernel
theorem dX12_doNextBath_146 : decode cX12_doNextBath 146 = .ok (.invokestatic 508, 3) := by decide +kernel
theorem dX12_doNextBath_149 : decode cX12_doNextBath 149 = .ok (.imul, 1) := by decide +kernel
theorem dX12_doNextBath_150 : decode cX12_doNextBath 150 = .ok (.iadd, 1) := by decide +kernel
theorem dX12_doNextBath_151 : decode cX12_doNextBath 151 = .ok (.invokevirtual 511, 3) := by decide +kernel
theorem dX12_doNextBath_154 : decode cX12_doNextBath 154 = .ok (.aload_n 1, 1) := by decide +kernel
theorem dX12_doNextBath_155 : decode cX12_doNextBath 155 = .ok (.dup, 1) := by decide +kernel
theorem dX12_doNextBath_156 : decode cX12_doNextBath 156 = .ok (.getfield 317, 3) := by decide +kernel
theorem dX12_doNextBath_159 : decode cX12_doNextBath 159 = .ok (.iload 6, 2) := by decide +kernel
theorem dX12_doNextBath_161 : decode cX12_doNextBath 161 = .ok (.iadd, 1) := by decide +kernel
theorem dX12_doNextBath_162 : decode cX12_doNextBath 162 = .ok (.putfield 317, 3) := by decide +kernel
theorem dX12_doNextBath_165 : decode cX12_doNextBath 165 = .ok (.aload_n 0, 1) := by decide +kernel
theorem dX12_doNextBath_166 : decode cX12_doNextBath 166 = .ok (.aload_n 1, 1) := by decide +kernel
theorem dX12_doNextBath_167 : decode cX12_doNextBath 167 = .ok (.aload_n 3, 1) := by decide +kernel
theorem dX12_doNextBath_168 : decode cX12_doNextBath 168 = .ok (.invokevirtual 498, 3) := by decide +kernel
theorem dX12_doNextBath_171 : decode cX12_doNextBath 171 = .ok (.iload_n 2, 1) := by decide +kernel
theorem dX12_doNextBath_172 : decode cX12_doNextBath 172 = .ok (.iload 6, 2) := by decide +kernel
theorem dX12_doNextBath_174 : decode cX12_doNextBath 174 = .ok (.isub, 1) := by decide +kernel
theorem dX12_doNextBath_175 : decode cX12_doNextBath 175 = .ok (.ireturn, 1) := by decide +kernel
theorem dX12_finishIfNoneLeft_0 : decode cX12_finishIfNoneLeft 0 = .ok (.aload_n 2, 1) := by decide +kernel
theorem dX12_finishIfNoneLeft_1 : decode cX12_finishIfNoneLeft 1 = .ok (.getfield 284, 3) := by decide +kernel
theorem dX12_finishIfNoneLeft_4 : decode cX12_finishIfNoneLeft 4 = .ok (.aload_n 2, 1) := by decide +kernel
theorem dX12_finishIfNoneLeft_5 : decode cX12_finishIfNoneLeft 5 = .ok (.getfield 246, 3) := by decide +kernel
theorem dX12_finishIfNoneLeft_8 : decode cX12_finishIfNoneLeft 8 = .ok (.getfield 145, 3) := by decide +kernel
theorem dX12_finishIfNoneLeft_11 : decode cX12_finishIfNoneLeft 11 = .ok (.if_icmp .lt 26, 3) := by decide +kernel
theorem dX12_finishIfNoneLeft_14 : decode cX12_finishIfNoneLeft 14 = .ok (.aload_n 2, 1) := by decide +kernel
theorem dX12_finishIfNoneLeft_15 : decode cX12_finishIfNoneLeft 15 = .ok (.iconst 3, 1) := by decide +kernel
theorem dX12_finishIfNoneLeft_16 : decode cX12_finishIfNoneLeft 16 = .ok (.putfield 265, 3) := by decide +kernel
theorem dX12_finishIfNoneLeft_19 : decode cX12_finishIfNoneLeft 19 = .ok (.aload_n 2, 1) := by decide +kernel
theorem dX12_finishIfNoneLeft_20 : decode cX12_finishIfNoneLeft 20 = .ok (.iconst (-1), 1) := by decide +kernel
theorem dX12_finishIfNoneLeft_21 : decode cX12_finishIfNoneLeft 21 = .ok (.putfield 274, 3) := by decide +kernel
theorem dX12_finishIfNoneLeft_24 : decode cX12_finishIfNoneLeft 24 = .ok (.aload_n 2, 1) := by decide +kernel
theorem dX12_finishIfNoneLeft_25 : decode cX12_finishIfNoneLeft 25 = .ok (.aload_n 0, 1) := by decide +kernel
theorem dX12_finishIfNoneLeft_26 : decode cX12_finishIfNoneLeft 26 = .ok (.getfield 277, 3) := by decide +kernel
theorem dX12_finishIfNoneLeft_29 : decode cX12_finishIfNoneLeft 29 = .ok (.putfield 287, 3) := by decide +kernel
theorem dX12_finishIfNoneLeft_32 : decode cX12_finishIfNoneLeft 32 = .ok (.aload_n 1, 1) := by decide +kernel
theorem dX12_finishIfNoneLeft_33 : decode cX12_finishIfNoneLeft 33 = .ok (.iconst (-1), 1) := by decide +kernel
theorem dX12_finishIfNoneLeft_34 : decode cX12_finishIfNoneLeft 34 = .ok (.putfield 308, 3) := by decide +kernel
theorem dX12_finishIfNoneLeft_37 : decode cX12_finishIfNoneLeft 37 = .ok (.return_, 1) := by decide +kernel
theorem dX12_countWashed_0 : decode cX12_countWashed 0 = .ok (.iconst 0, 1) := by decide +kernel
theorem dX12_countWashed_1 : decode cX12_countWashed 1 = .ok (.istore_n 1, 1) := by decide +kernel
theorem dX12_countWashed_2 : decode cX12_countWashed 2 = .ok (.iconst 0, 1) := by decide +kernel
theorem dX12_countWashed_3 : decode cX12_countWashed 3 = .ok (.istore_n 2, 1) := by decide +kernel
theorem dX12_countWashed_4 : decode cX12_countWashed 4 = .ok (.iload_n 2, 1) := by decide +kernel
theorem dX12_countWashed_5 : decode cX12_countWashed 5 = .ok (.aload_n 0, 1) := by decide +kernel
theorem dX12_countWashed_6 : decode cX12_countWashed 6 = .ok (.getfield 86, 3) := by decide +kernel
theorem dX12_countWashed_9 : decode cX12_countWashed 9 = .ok (.invokevirtual 237, 3) := by decide +kernel
theorem dX12_countWashed_12 : decode cX12_countWashed 12 = .ok (.if_icmp .ge 30, 3) := by decide +kernel
theorem dX12_countWashed_15 : decode cX12_countWashed 15 = .ok (.aload_n 0, 1) := by decide +kernel
theorem dX12_countWashed_16 : decode cX12_countWashed 16 = .ok (.getfield 86, 3) := by decide +kernel
theorem dX12_countWashed_19 : decode cX12_countWashed 19 = .ok (.iload_n 2, 1) := by decide +kernel
theorem dX12_countWashed_20 : decode cX12_countWashed 20 = .ok (.invokevirtual 449, 3) := by decide +kernel
theorem dX12_countWashed_23 : decode cX12_countWashed 23 = .ok (.checkcast 239, 3) := by decide +kernel
theorem dX12_countWashed_26 : decode cX12_countWashed 26 = .ok (.getfield 265, 3) := by decide +kernel
theorem dX12_countWashed_29 : decode cX12_countWashed 29 = .ok (.iconst 3, 1) := by decide +kernel
theorem dX12_countWashed_30 : decode cX12_countWashed 30 = .ok (.if_icmp .ne 6, 3) := by decide +kernel
theorem dX12_countWashed_33 : decode cX12_countWashed 33 = .ok (.iinc 1 1, 3) := by decide +kernel
theorem dX12_countWashed_36 : decode cX12_countWashed 36 = .ok (.iinc 2 1, 3) := by decide +kernel
theorem dX12_countWashed_39 : decode cX12_countWashed 39 = .ok (.goto (-35), 3) := by decide +kernel
theorem dX12_countWashed_42 : decode cX12_countWashed 42 = .ok (.iload_n 1, 1) := by decide +kernel
theorem dX12_countWashed_43 : decode cX12_countWashed 43 = .ok (.ireturn, 1) := by decide +kernel
theorem dX12_judged_0 : decode cX12_judged 0 = .ok (.aload_n 1, 1) := by decide +kernel
theorem dX12_judged_1 : decode cX12_judged 1 = .ok (.aload_n 0, 1) := by decide +kernel
theorem dX12_judged_2 : decode cX12_judged 2 = .ok (.getfield 93, 3) := by decide +kernel
theorem dX12_judged_5 : decode cX12_judged 5 = .ok (.aload_n 1, 1) := by decide +kernel
theorem dX12_judged_6 : decode cX12_judged 6 = .ok (.getfield 324, 3) := by decide +kernel
theorem dX12_judged_9 : decode cX12_judged 9 = .ok (.iload_n 2, 1) := by decide +kernel
theorem dX12_judged_10 : decode cX12_judged 10 = .ok (.iaload, 1) := by decide +kernel
theorem dX12_judged_11 : decode cX12_judged 11 = .ok (.iload_n 3, 1) := by decide +kernel
theorem dX12_judged_12 : decode cX12_judged 12 = .ok (.invokevirtual 514, 3) := by decide +kernel
theorem dX12_judged_15 : decode cX12_judged 15 = .ok (.invokevirtual 517, 3) := by decide +kernel
theorem dX12_judged_18 : decode cX12_judged 18 = .ok (.ireturn, 1) := by decide +kernel
theorem dX12_moveDark_0 : decode cX12_moveDark 0 = .ok (.sipush 255, 3) := by decide +kernel
theorem dX12_moveDark_3 : decode cX12_moveDark 3 = .ok (.istore_n 3, 1) := by decide +kernel
theorem dX12_moveDark_4 : decode cX12_moveDark 4 = .ok (.iconst 0, 1) := by decide +kernel
theorem dX12_moveDark_5 : decode cX12_moveDark 5 = .ok (.istore 4, 2) := by decide +kernel
theorem dX12_moveDark_7 : decode cX12_moveDark 7 = .ok (.iconst 0, 1) := by decide +kernel
theorem dX12_moveDark_8 : decode cX12_moveDark 8 = .ok (.istore 5, 2) := by decide +kernel
theorem dX12_moveDark_10 : decode cX12_moveDark 10 = .ok (.iload 5, 2) := by decide +kernel
theorem dX12_moveDark_12 : decode cX12_moveDark 12 = .ok (.aload_n 1, 1) := by decide +kernel
theorem dX12_moveDark_13 : decode cX12_moveDark 13 = .ok (.getfield 268, 3) := by decide +kernel
theorem dX12_moveDark_16 : decode cX12_moveDark 16 = .ok (.if_icmp .ge 77, 3) := by decide +kernel
theorem dX12_moveDark_19 : decode cX12_moveDark 19 = .ok (.aload_n 1, 1) := by decide +kernel
theorem dX12_moveDark_20 : decode cX12_moveDark 20 = .ok (.iload 5, 2) := by decide +kernel
theorem dX12_moveDark_22 : decode cX12_moveDark 22 = .ok (.invokevirtual 343, 3) := by decide +kernel
theorem dX12_moveDark_25 : decode cX12_moveDark 25 = .ok (.ifCond .eq 62, 3) := by decide +kernel
theorem dX12_moveDark_28 : decode cX12_moveDark 28 = .ok (.aload_n 0, 1) := by decide +kernel
theorem dX12_moveDark_29 : decode cX12_moveDark 29 = .ok (.aload_n 1, 1) := by decide +kernel
theorem dX12_moveDark_30 : decode cX12_moveDark 30 = .ok (.iload 5, 2) := by decide +kernel
theorem dX12_moveDark_32 : decode cX12_moveDark 32 = .ok (.aload_n 0, 1) := by decide +kernel
theorem dX12_moveDark_33 : decode cX12_moveDark 33 = .ok (.getfield 277, 3) := by decide +kernel
theorem dX12_moveDark_36 : decode cX12_moveDark 36 = .ok (.invokevirtual 339, 3) := by decide +kernel
theorem dX12_moveDark_39 : decode cX12_moveDark 39 = .ok (.iconst 3, 1) := by decide +kernel
theorem dX12_moveDark_40 : decode cX12_moveDark 40 = .ok (.if_icmp .ne 47, 3) := by decide +kernel
theorem dX12_moveDark_43 : decode cX12_moveDark 43 = .ok (.aload_n 0, 1) := by decide +kernel
theorem dX12_moveDark_44 : decode cX12_moveDark 44 = .ok (.getfield 93, 3) := by decide +kernel
theorem dX12_moveDark_47 : decode cX12_moveDark 47 = .ok (.aload_n 1, 1) := by decide +kernel
theorem dX12_moveDark_48 : decode cX12_moveDark 48 = .ok (.getfield 324, 3) := by decide +kernel
theorem dX12_moveDark_51 : decode cX12_moveDark 51 = .ok (.iload 5, 2) := by decide +kernel
theorem dX12_moveDark_53 : decode cX12_moveDark 53 = .ok (.iaload, 1) := by decide +kernel
theorem dX12_moveDark_54 : decode cX12_moveDark 54 = .ok (.aload_n 0, 1) := by decide +kernel
theorem dX12_moveDark_55 : decode cX12_moveDark 55 = .ok (.getfield 277, 3) := by decide +kernel
theorem dX12_moveDark_58 : decode cX12_moveDark 58 = .ok (.invokevirtual 514, 3) := by decide +kernel
theorem dX12_moveDark_61 : decode cX12_moveDark 61 = .ok (.istore 6, 2) := by decide +kernel
theorem dX12_moveDark_63 : decode cX12_moveDark 63 = .ok (.iload_n 3, 1) := by decide +kernel
theorem dX12_moveDark_64 : decode cX12_moveDark 64 = .ok (.iload 6, 2) := by decide +kernel
theorem dX12_moveDark_66 : decode cX12_moveDark 66 = .ok (.invokestatic 456, 3) := by decide +kernel
theorem dX12_moveDark_69 : decode cX12_moveDark 69 = .ok (.istore_n 3, 1) := by decide +kernel
theorem dX12_moveDark_70 : decode cX12_moveDark 70 = .ok (.iload 4, 2) := by decide +kernel
theorem dX12_moveDark_72 : decode cX12_moveDark 72 = .ok (.iload 6, 2) := by decide +kernel
theorem dX12_moveDark_74 : decode cX12_moveDark 74 = .ok (.invokestatic 520, 3) := by decide +kernel
theorem dX12_moveDark_77 : decode cX12_moveDark 77 = .ok (.istore 4, 2) := by decide +kernel
theorem dX12_moveDark_79 : decode cX12_moveDark 79 = .ok (.aload_n 1, 1) := by decide +kernel
theorem dX12_moveDark_80 : decode cX12_moveDark 80 = .ok (.getfield 523, 3) := by decide +kernel
theorem dX12_moveDark_83 : decode cX12_moveDark 83 = .ok (.iload 5, 2) := by decide +kernel
theorem dX12_moveDark_85 : decode cX12_moveDark 85 = .ok (.iconst 1, 1) := by decide +kernel
theorem dX12_moveDark_86 : decode cX12_moveDark 86 = .ok (.iastore, 1) := by decide +kernel
theorem dX12_moveDark_87 : decode cX12_moveDark 87 = .ok (.iinc 5 1, 3) := by decide +kernel
theorem dX12_moveDark_90 : decode cX12_moveDark 90 = .ok (.goto (-80), 3) := by decide +kernel
theorem dX12_moveDark_93 : decode cX12_moveDark 93 = .ok (.aload_n 2, 1) := by decide +kernel
theorem dX12_moveDark_94 : decode cX12_moveDark 94 = .ok (.iload_n 3, 1) := by decide +kernel
theorem dX12_moveDark_95 : decode cX12_moveDark 95 = .ok (.putfield 330, 3) := by decide +kernel
theorem dX12_moveDark_98 : decode cX12_moveDark 98 = .ok (.aload_n 2, 1) := by decide +kernel
theorem dX12_moveDark_99 : decode cX12_moveDark 99 = .ok (.iload 4, 2) := by decide +kernel
theorem dX12_moveDark_101 : decode cX12_moveDark 101 = .ok (.putfield 333, 3) := by decide +kernel
theorem dX12_moveDark_104 : decode cX12_moveDark 104 = .ok (.return_, 1) := by decide +kernel
theorem dX12_findPacks_0 : decode cX12_findPacks 0 = .ok (.aload_n 0, 1) := by decide +kernel
theorem dX12_findPacks_1 : decode cX12_findPacks 1 = .ok (.getfield 93, 3) := by decide +kernel
theorem dX12_findPacks_4 : decode cX12_findPacks 4 = .ok (.invokevirtual 526, 3) := by decide +kernel
theorem dX12_findPacks_7 : decode cX12_findPacks 7 = .ok (.iconst 0, 1) := by decide +kernel
theorem dX12_findPacks_8 : decode cX12_findPacks 8 = .ok (.istore_n 2, 1) := by decide +kernel
theorem dX12_findPacks_9 : decode cX12_findPacks 9 = .ok (.iload_n 2, 1) := by decide +kernel
theorem dX12_findPacks_10 : decode cX12_findPacks 10 = .ok (.aload_n 0, 1) := by decide +kernel
theorem dX12_findPacks_11 : decode cX12_findPacks 11 = .ok (.getfield 86, 3) := by decide +kernel
theorem dX12_findPacks_14 : decode cX12_findPacks 14 = .ok (.invokevirtual 237, 3) := by decide +kernel
theorem dX12_findPacks_17 : decode cX12_findPacks 17 = .ok (.if_icmp .ge 43, 3) := by decide +kernel
theorem dX12_findPacks_20 : decode cX12_findPacks 20 = .ok (.aload_n 0, 1) := by decide +kernel
theorem dX12_findPacks_21 : decode cX12_findPacks 21 = .ok (.getfield 86, 3) := by decide +kernel
theorem dX12_findPacks_24 : decode cX12_findPacks 24 = .ok (.iload_n 2, 1) := by decide +kernel
theorem dX12_findPacks_25 : decode cX12_findPacks 25 = .ok (.invokevirtual 449, 3) := by decide +kernel
theorem dX12_findPacks_28 : decode cX12_findPacks 28 = .ok (.checkcast 239, 3) := by decide +kernel
theorem dX12_findPacks_31 : decode cX12_findPacks 31 = .ok (.astore_n 3, 1) := by decide +kernel
theorem dX12_findPacks_32 : decode cX12_findPacks 32 = .ok (.aload_n 3, 1) := by decide +kernel
theorem dX12_findPacks_33 : decode cX12_findPacks 33 = .ok (.getfield 305, 3) := by decide +kernel
theorem dX12_findPacks_36 : decode cX12_findPacks 36 = .ok (.iload_n 1, 1) := by decide +kernel
theorem dX12_findPacks_37 : decode cX12_findPacks 37 = .ok (.if_icmp .ne 17, 3) := by decide +kernel
theorem dX12_findPacks_40 : decode cX12_findPacks 40 = .ok (.aload_n 3, 1) := by decide +kernel
theorem dX12_findPacks_41 : decode cX12_findPacks 41 = .ok (.getfield 265, 3) := by decide +kernel
theorem dX12_findPacks_44 : decode cX12_findPacks 44 = .ok (.iconst 3, 1) := by decide +kernel
theorem dX12_findPacks_45 : decode cX12_findPacks 45 = .ok (.if_icmp .ne 9, 3) := by decide +kernel
theorem dX12_findPacks_48 : decode cX12_findPacks 48 = .ok (.aload_n 0, 1) := by decide +kernel
theorem dX12_findPacks_49 : decode cX12_findPacks 49 = .ok (.iload_n 2, 1) := by decide +kernel
theorem dX12_findPacks_50 : decode cX12_findPacks 50 = .ok (.aload_n 3, 1) := by decide +kernel
theorem dX12_findPacks_51 : decode cX12_findPacks 51 = .ok (.invokevirtual 529, 3) := by decide +kernel
theorem dX12_findPacks_54 : decode cX12_findPacks 54 = .ok (.iinc 2 1, 3) := by decide +kernel
theorem dX12_findPacks_57 : decode cX12_findPacks 57 = .ok (.goto (-48), 3) := by decide +kernel
theorem dX12_findPacks_60 : decode cX12_findPacks 60 = .ok (.aload_n 0, 1) := by decide +kernel
theorem dX12_findPacks_61 : decode cX12_findPacks 61 = .ok (.getfield 93, 3) := by decide +kernel
theorem dX12_findPacks_64 : decode cX12_findPacks 64 = .ok (.aload_n 0, 1) := by decide +kernel
theorem dX12_findPacks_65 : decode cX12_findPacks 65 = .ok (.getfield 37, 3) := by decide +kernel
theorem dX12_findPacks_68 : decode cX12_findPacks 68 = .ok (.bipush 16, 2) := by decide +kernel
theorem dX12_findPacks_70 : decode cX12_findPacks 70 = .ok (.invokevirtual 228, 3) := by decide +kernel
theorem dX12_findPacks_73 : decode cX12_findPacks 73 = .ok (.aload_n 0, 1) := by decide +kernel
theorem dX12_findPacks_74 : decode cX12_findPacks 74 = .ok (.getfield 37, 3) := by decide +kernel
theorem dX12_findPacks_77 : decode cX12_findPacks 77 = .ok (.bipush 17, 2) := by decide +kernel
theorem dX12_findPacks_79 : decode cX12_findPacks 79 = .ok (.invokevirtual 228, 3) := by decide +kernel
theorem dX12_findPacks_82 : decode cX12_findPacks 82 = .ok (.invokevirtual 533, 3) := by decide +kernel
theorem dX12_findPacks_85 : decode cX12_findPacks 85 = .ok (.ireturn, 1) := by decide +kernel
theorem dX12_gatherGood_0 : decode cX12_gatherGood 0 = .ok (.iconst 0, 1) := by decide +kernel
theorem dX12_gatherGood_1 : decode cX12_gatherGood 1 = .ok (.istore_n 3, 1) := by decide +kernel
theorem dX12_gatherGood_2 : decode cX12_gatherGood 2 = .ok (.iload_n 3, 1) := by decide +kernel
theorem dX12_gatherGood_3 : decode cX12_gatherGood 3 = .ok (.aload_n 2, 1) := by decide +kernel
theorem dX12_gatherGood_4 : decode cX12_gatherGood 4 = .ok (.getfield 268, 3) := by decide +kernel
theorem dX12_gatherGood_7 : decode cX12_gatherGood 7 = .ok (.if_icmp .ge 57, 3) := by decide +kernel
theorem dX12_gatherGood_10 : decode cX12_gatherGood 10 = .ok (.aload_n 2, 1) := by decide +kernel
theorem dX12_gatherGood_11 : decode cX12_gatherGood 11 = .ok (.iload_n 3, 1) := by decide +kernel
theorem dX12_gatherGood_12 : decode cX12_gatherGood 12 = .ok (.invokevirtual 343, 3) := by decide +kernel
theorem dX12_gatherGood_15 : decode cX12_gatherGood 15 = .ok (.ifCond .eq 43, 3) := by decide +kernel
theorem dX12_gatherGood_18 : decode cX12_gatherGood 18 = .ok (.aload_n 0, 1) := by decide +kernel
theorem dX12_gatherGood_19 : decode cX12_gatherGood 19 = .ok (.aload_n 2, 1) := by decide +kernel
theorem dX12_gatherGood_20 : decode cX12_gatherGood 20 = .ok (.iload_n 3, 1) := by decide +kernel
theorem dX12_gatherGood_21 : decode cX12_gatherGood 21 = .ok (.aload_n 0, 1) := by decide +kernel
theorem dX12_gatherGood_22 : decode cX12_gatherGood 22 = .ok (.getfield 277, 3) := by decide +kernel
theorem dX12_gatherGood_25 : decode cX12_gatherGood 25 = .ok (.invokevirtual 339, 3) := by decide +kernel
theorem dX12_gatherGood_28 : decode cX12_gatherGood 28 = .ok (.iconst 2, 1) := by decide +kernel
theorem dX12_gatherGood_29 : decode cX12_gatherGood 29 = .ok (.if_icmp .ne 29, 3) := by decide +kernel
theorem dX12_gatherGood_32 : decode cX12_gatherGood 32 = .ok (.aload_n 0, 1) := by decide +kernel
theorem dX12_gatherGood_33 : decode cX12_gatherGood 33 = .ok (.getfield 93, 3) := by decide +kernel
theorem dX12_gatherGood_36 : decode cX12_gatherGood 36 = .ok (.aload_n 0, 1) := by decide +kernel
theorem dX12_gatherGood_37 : decode cX12_gatherGood 37 = .ok (.getfield 93, 3) := by decide +kernel
theorem dX12_gatherGood_40 : decode cX12_gatherGood 40 = .ok (.aload_n 2, 1) := by decide +kernel
theorem dX12_gatherGood_41 : decode cX12_gatherGood 41 = .ok (.getfield 324, 3) := by decide +kernel
theorem dX12_gatherGood_44 : decode cX12_gatherGood 44 = .ok (.iload_n 3, 1) := by decide +kernel
theorem dX12_gatherGood_45 : decode cX12_gatherGood 45 = .ok (.iaload, 1) := by decide +kernel
theorem dX12_gatherGood_46 : decode cX12_gatherGood 46 = .ok (.aload_n 0, 1) := by decide +kernel
theorem dX12_gatherGood_47 : decode cX12_gatherGood 47 = .ok (.getfield 277, 3) := by decide +kernel
theorem dX12_gatherGood_50 : decode cX12_gatherGood 50 = .ok (.invokevirtual 514, 3) := by decide +kernel
theorem dX12_gatherGood_53 : decode cX12_gatherGood 53 = .ok (.iload_n 1, 1) := by decide +kernel
theorem dX12_gatherGood_54 : decode cX12_gatherGood 54 = .ok (.iload_n 3, 1) := by decide +kernel
theorem dX12_gatherGood_55 : decode cX12_gatherGood 55 = .ok (.invokevirtual 536, 3) := by decide +kernel
theorem dX12_gatherGood_58 : decode cX12_gatherGood 58 = .ok (.iinc 3 1, 3) := by decide +kernel
theorem dX12_gatherGood_61 : decode cX12_gatherGood 61 = .ok (.goto (-59), 3) := by decide +kernel
theorem dX12_gatherGood_64 : decode cX12_gatherGood 64 = .ok (.return_, 1) := by decide +kernel
theorem dX12_deliverPack_0 : decode cX12_deliverPack 0 = .ok (.iconst 0, 1) := by decide +kernel
theorem dX12_deliverPack_1 : decode cX12_deliverPack 1 = .ok (.istore_n 2, 1) := by decide +kernel
theorem dX12_deliverPack_2 : decode cX12_deliverPack 2 = .ok (.iload_n 1, 1) := by decide +kernel
theorem dX12_deliverPack_3 : decode cX12_deliverPack 3 = .ok (.aload_n 0, 1) := by decide +kernel
theorem dX12_deliverPack_4 : decode cX12_deliverPack 4 = .ok (.getfield 37, 3) := by decide +kernel
theorem dX12_deliverPack_7 : decode cX12_deliverPack 7 = .ok (.bipush 16, 2) := by decide +kernel
theorem dX12_deliverPack_9 : decode cX12_deliverPack 9 = .ok (.invokevirtual 228, 3) := by decide +kernel
theorem dX12_deliverPack_12 : decode cX12_deliverPack 12 = .ok (.iadd, 1) := by decide +kernel
theorem dX12_deliverPack_13 : decode cX12_deliverPack 13 = .ok (.istore_n 3, 1) := by decide +kernel
theorem dX12_deliverPack_14 : decode cX12_deliverPack 14 = .ok (.iload_n 1, 1) := by decide +kernel
theorem dX12_deliverPack_15 : decode cX12_deliverPack 15 = .ok (.istore 4, 2) := by decide +kernel
theorem dX12_deliverPack_17 : decode cX12_deliverPack 17 = .ok (.iload 4, 2) := by decide +kernel
theorem dX12_deliverPack_19 : decode cX12_deliverPack 19 = .ok (.iload_n 3, 1) := by decide +kernel
theorem dX12_deliverPack_20 : decode cX12_deliverPack 20 = .ok (.if_icmp .ge 53, 3) := by decide +kernel
theorem dX12_deliverPack_23 : decode cX12_deliverPack 23 = .ok (.aload_n 0, 1) := by decide +kernel
theorem dX12_deliverPack_24 : decode cX12_deliverPack 24 = .ok (.aload_n 0, 1) := by decide +kernel
theorem dX12_deliverPack_25 : decode cX12_deliverPack 25 = .ok (.getfield 93, 3) := by decide +kernel
theorem dX12_deliverPack_28 : decode cX12_deliverPack 28 = .ok (.iload 4, 2) := by decide +kernel
theorem dX12_deliverPack_30 : decode cX12_deliverPack 30 = .ok (.invokevirtual 539, 3) := by decide +kernel
theorem dX12_deliverPack_33 : decode cX12_deliverPack 33 = .ok (.invokevirtual 261, 3) := by decide +kernel
theorem dX12_deliverPack_36 : decode cX12_deliverPack 36 = .ok (.astore 5, 2) := by decide +kernel
theorem dX12_deliverPack_38 : decode cX12_deliverPack 38 = .ok (.aload 5, 2) := by decide +kernel
theorem dX12_deliverPack_40 : decode cX12_deliverPack 40 = .ok (.aload_n 0, 1) := by decide +kernel
theorem dX12_deliverPack_41 : decode cX12_deliverPack 41 = .ok (.getfield 93, 3) := by decide +kernel
theorem dX12_deliverPack_44 : decode cX12_deliverPack 44 = .ok (.iload 4, 2) := by decide +kernel
theorem dX12_deliverPack_46 : decode cX12_deliverPack 46 = .ok (.invokevirtual 542, 3) := by decide +kernel
theorem dX12_deliverPack_49 : decode cX12_deliverPack 49 = .ok (.invokevirtual 545, 3) := by decide +kernel
theorem dX12_deliverPack_52 : decode cX12_deliverPack 52 = .ok (.aload_n 0, 1) := by decide +kernel
theorem dX12_deliverPack_53 : decode cX12_deliverPack 53 = .ok (.getfield 277, 3) := by decide +kernel
theorem dX12_deliverPack_56 : decode cX12_deliverPack 56 = .ok (.aload 5, 2) := by decide +kernel
theorem dX12_deliverPack_58 : decode cX12_deliverPack 58 = .ok (.getfield 356, 3) := by decide +kernel
theorem dX12_deliverPack_61 : decode cX12_deliverPack 61 = .ok (.if_icmp .le 6, 3) := by decide +kernel
theorem dX12_deliverPack_64 : decode cX12_deliverPack 64 = .ok (.iinc 2 1, 3) := by decide +kernel
theorem dX12_deliverPack_67 : decode cX12_deliverPack 67 = .ok (.iinc 4 1, 3) := by decide +kernel
theorem dX12_deliverPack_70 : decode cX12_deliverPack 70 = .ok (.goto (-53), 3) := by decide +kernel
theorem dX12_deliverPack_73 : decode cX12_deliverPack 73 = .ok (.iload_n 2, 1) := by decide +kernel
theorem dX12_deliverPack_74 : decode cX12_deliverPack 74 = .ok (.ireturn, 1) := by decide +kernel
theorem dJ7_fill_53178_0 : decode cJ7_fill_53178 0 = .ok (.iconst 0, 1) := by decide +kernel
theorem dJ7_fill_53178_1 : decode cJ7_fill_53178 1 = .ok (.istore_n 2, 1) := by decide +kernel
theorem dJ7_fill_53178_2 : decode cJ7_fill_53178 2 = .ok (.aload_n 0, 1) := by decide +kernel
theorem dJ7_fill_53178_3 : decode cJ7_fill_53178 3 = .ok (.arraylength, 1) := by decide +kernel
theorem dJ7_fill_53178_4 : decode cJ7_fill_53178 4 = .ok (.istore_n 3, 1) := by decide +kernel
theorem dJ7_fill_53178_5 : decode cJ7_fill_53178 5 = .ok (.iload_n 2, 1) := by decide +kernel
theorem dJ7_fill_53178_6 : decode cJ7_fill_53178 6 = .ok (.iload_n 3, 1) := by decide +kernel
theorem dJ7_fill_53178_7 : decode cJ7_fill_53178 7 = .ok (.if_icmp .ge 13, 3) := by decide +kernel
theorem dJ7_fill_53178_10 : decode cJ7_fill_53178 10 = .ok (.aload_n 0, 1) := by decide +kernel
theorem dJ7_fill_53178_11 : decode cJ7_fill_53178 11 = .ok (.iload_n 2, 1) := by decide +kernel
theorem dJ7_fill_53178_12 : decode cJ7_fill_53178 12 = .ok (.iload_n 1, 1) := by decide +kernel
theorem dJ7_fill_53178_13 : decode cJ7_fill_53178 13 = .ok (.iastore, 1) := by decide +kernel
theorem dJ7_fill_53178_14 : decode cJ7_fill_53178 14 = .ok (.iinc 2 1, 3) := by decide +kernel
theorem dJ7_fill_53178_17 : decode cJ7_fill_53178 17 = .ok (.goto (-12), 3) := by decide +kernel
theorem dJ7_fill_53178_20 : decode cJ7_fill_53178 20 = .ok (.return_, 1) := by decide +kernel
