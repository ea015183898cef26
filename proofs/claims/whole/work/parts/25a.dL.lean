theorem dL_cloth_0 : decode cL_cloth 0 = .ok (.aload 4, 2) := by decide +kernel
theorem dL_cloth_2 : decode cL_cloth 2 = .ok (.iconst 0, 1) := by decide +kernel
theorem dL_cloth_3 : decode cL_cloth 3 = .ok (.aload_n 0, 1) := by decide +kernel
theorem dL_cloth_4 : decode cL_cloth 4 = .ok (.iload_n 1, 1) := by decide +kernel
theorem dL_cloth_5 : decode cL_cloth 5 = .ok (.iload_n 2, 1) := by decide +kernel
theorem dL_cloth_6 : decode cL_cloth 6 = .ok (.iload_n 3, 1) := by decide +kernel
theorem dL_cloth_7 : decode cL_cloth 7 = .ok (.invokevirtual 7, 3) := by decide +kernel
theorem dL_cloth_10 : decode cL_cloth 10 = .ok (.i2l, 1) := by decide +kernel
theorem dL_cloth_11 : decode cL_cloth 11 = .ok (.lastore, 1) := by decide +kernel
theorem dL_cloth_12 : decode cL_cloth 12 = .ok (.goto 11, 3) := by decide +kernel
theorem dL_cloth_15 : decode cL_cloth 15 = .ok (.astore 5, 2) := by decide +kernel
theorem dL_cloth_17 : decode cL_cloth 17 = .ok (.iconst 1, 1) := by decide +kernel
theorem dL_cloth_18 : decode cL_cloth 18 = .ok (.ireturn, 1) := by decide +kernel
theorem dL_cloth_19 : decode cL_cloth 19 = .ok (.astore 5, 2) := by decide +kernel
theorem dL_cloth_21 : decode cL_cloth 21 = .ok (.iconst 2, 1) := by decide +kernel
theorem dL_cloth_22 : decode cL_cloth 22 = .ok (.ireturn, 1) := by decide +kernel
theorem dL_cloth_23 : decode cL_cloth 23 = .ok (.iconst 0, 1) := by decide +kernel
theorem dL_cloth_24 : decode cL_cloth 24 = .ok (.ireturn, 1) := by decide +kernel
theorem dL_recipe_0 : decode cL_recipe 0 = .ok (.aload_n 1, 1) := by decide +kernel
theorem dL_recipe_1 : decode cL_recipe 1 = .ok (.iconst 0, 1) := by decide +kernel
theorem dL_recipe_2 : decode cL_recipe 2 = .ok (.aload_n 0, 1) := by decide +kernel
theorem dL_recipe_3 : decode cL_recipe 3 = .ok (.invokevirtual 17, 3) := by decide +kernel
theorem dL_recipe_6 : decode cL_recipe 6 = .ok (.i2l, 1) := by decide +kernel
theorem dL_recipe_7 : decode cL_recipe 7 = .ok (.lastore, 1) := by decide +kernel
theorem dL_recipe_8 : decode cL_recipe 8 = .ok (.goto 6, 3) := by decide +kernel
theorem dL_recipe_11 : decode cL_recipe 11 = .ok (.astore_n 2, 1) := by decide +kernel
theorem dL_recipe_12 : decode cL_recipe 12 = .ok (.iconst 1, 1) := by decide +kernel
theorem dL_recipe_13 : decode cL_recipe 13 = .ok (.ireturn, 1) := by decide +kernel
theorem dL_recipe_14 : decode cL_recipe 14 = .ok (.iconst 0, 1) := by decide +kernel
theorem dL_recipe_15 : decode cL_recipe 15 = .ok (.ireturn, 1) := by decide +kernel
theorem dL_look_0 : decode cL_look 0 = .ok (.aload 4, 2) := by decide +kernel
theorem dL_look_2 : decode cL_look 2 = .ok (.iconst 0, 1) := by decide +kernel
theorem dL_look_3 : decode cL_look 3 = .ok (.aload_n 0, 1) := by decide +kernel
theorem dL_look_4 : decode cL_look 4 = .ok (.iload_n 1, 1) := by decide +kernel
theorem dL_look_5 : decode cL_look 5 = .ok (.iload_n 2, 1) := by decide +kernel
theorem dL_look_6 : decode cL_look 6 = .ok (.iload_n 3, 1) := by decide +kernel
theorem dL_look_7 : decode cL_look 7 = .ok (.invokevirtual 21, 3) := by decide +kernel
theorem dL_look_10 : decode cL_look 10 = .ok (.i2l, 1) := by decide +kernel
theorem dL_look_11 : decode cL_look 11 = .ok (.lastore, 1) := by decide +kernel
theorem dL_look_12 : decode cL_look 12 = .ok (.goto 15, 3) := by decide +kernel
theorem dL_look_15 : decode cL_look 15 = .ok (.astore 5, 2) := by decide +kernel
theorem dL_look_17 : decode cL_look 17 = .ok (.iconst 1, 1) := by decide +kernel
theorem dL_look_18 : decode cL_look 18 = .ok (.ireturn, 1) := by decide +kernel
theorem dL_look_19 : decode cL_look 19 = .ok (.astore 5, 2) := by decide +kernel
theorem dL_look_21 : decode cL_look 21 = .ok (.iconst 2, 1) := by decide +kernel
theorem dL_look_22 : decode cL_look 22 = .ok (.ireturn, 1) := by decide +kernel
theorem dL_look_23 : decode cL_look 23 = .ok (.astore 5, 2) := by decide +kernel
theorem dL_look_25 : decode cL_look 25 = .ok (.iconst 3, 1) := by decide +kernel
theorem dL_look_26 : decode cL_look 26 = .ok (.ireturn, 1) := by decide +kernel
theorem dL_look_27 : decode cL_look 27 = .ok (.iconst 0, 1) := by decide +kernel
theorem dL_look_28 : decode cL_look 28 = .ok (.ireturn, 1) := by decide +kernel
theorem dL_meets_0 : decode cL_meets 0 = .ok (.aload 5, 2) := by decide +kernel
theorem dL_meets_2 : decode cL_meets 2 = .ok (.iconst 0, 1) := by decide +kernel
theorem dL_meets_3 : decode cL_meets 3 = .ok (.aload_n 0, 1) := by decide +kernel
theorem dL_meets_4 : decode cL_meets 4 = .ok (.iload_n 1, 1) := by decide +kernel
theorem dL_meets_5 : decode cL_meets 5 = .ok (.iload_n 2, 1) := by decide +kernel
theorem dL_meets_6 : decode cL_meets 6 = .ok (.iload_n 3, 1) := by decide +kernel
theorem dL_meets_7 : decode cL_meets 7 = .ok (.iload 4, 2) := by decide +kernel
theorem dL_meets_9 : decode cL_meets 9 = .ok (.invokevirtual 28, 3) := by decide +kernel
theorem dL_meets_12 : decode cL_meets 12 = .ok (.ifCond .eq 7, 3) := by decide +kernel
theorem dL_meets_15 : decode cL_meets 15 = .ok (.lconst 1, 1) := by decide +kernel
theorem dL_meets_16 : decode cL_meets 16 = .ok (.goto 4, 3) := by decide +kernel
theorem dL_meets_19 : decode cL_meets 19 = .ok (.lconst 0, 1) := by decide +kernel
theorem dL_meets_20 : decode cL_meets 20 = .ok (.lastore, 1) := by decide +kernel
theorem dL_meets_21 : decode cL_meets 21 = .ok (.goto 11, 3) := by decide +kernel
theorem dL_meets_24 : decode cL_meets 24 = .ok (.astore 6, 2) := by decide +kernel
theorem dL_meets_26 : decode cL_meets 26 = .ok (.iconst 1, 1) := by decide +kernel
theorem dL_meets_27 : decode cL_meets 27 = .ok (.ireturn, 1) := by decide +kernel
theorem dL_meets_28 : decode cL_meets 28 = .ok (.astore 6, 2) := by decide +kernel
theorem dL_meets_30 : decode cL_meets 30 = .ok (.iconst 2, 1) := by decide +kernel
theorem dL_meets_31 : decode cL_meets 31 = .ok (.ireturn, 1) := by decide +kernel
theorem dL_meets_32 : decode cL_meets 32 = .ok (.iconst 0, 1) := by decide +kernel
theorem dL_meets_33 : decode cL_meets 33 = .ok (.ireturn, 1) := by decide +kernel
theorem dL_cheapest_0 : decode cL_cheapest 0 = .ok (.aload 6, 2) := by decide +kernel
theorem dL_cheapest_2 : decode cL_cheapest 2 = .ok (.iconst 0, 1) := by decide +kernel
theorem dL_cheapest_3 : decode cL_cheapest 3 = .ok (.aload_n 0, 1) := by decide +kernel
theorem dL_cheapest_4 : decode cL_cheapest 4 = .ok (.iload_n 1, 1) := by decide +kernel
theorem dL_cheapest_5 : decode cL_cheapest 5 = .ok (.iload_n 2, 1) := by decide +kernel
theorem dL_cheapest_6 : decode cL_cheapest 6 = .ok (.iload_n 3, 1) := by decide +kernel
theorem dL_cheapest_7 : decode cL_cheapest 7 = .ok (.iload 4, 2) := by decide +kernel
theorem dL_cheapest_9 : decode cL_cheapest 9 = .ok (.iload 5, 2) := by decide +kernel
theorem dL_cheapest_11 : decode cL_cheapest 11 = .ok (.invokevirtual 32, 3) := by decide +kernel
theorem dL_cheapest_14 : decode cL_cheapest 14 = .ok (.i2l, 1) := by decide +kernel
theorem dL_cheapest_15 : decode cL_cheapest 15 = .ok (.lastore, 1) := by decide +kernel
theorem dL_cheapest_16 : decode cL_cheapest 16 = .ok (.goto 11, 3) := by decide +kernel
theorem dL_cheapest_19 : decode cL_cheapest 19 = .ok (.astore 7, 2) := by decide +kernel
theorem dL_cheapest_21 : decode cL_cheapest 21 = .ok (.iconst 1, 1) := by decide +kernel
theorem dL_cheapest_22 : decode cL_cheapest 22 = .ok (.ireturn, 1) := by decide +kernel
theorem dL_cheapest_23 : decode cL_cheapest 23 = .ok (.astore 7, 2) := by decide +kernel
theorem dL_cheapest_25 : decode cL_cheapest 25 = .ok (.iconst 2, 1) := by decide +kernel
theorem dL_cheapest_26 : decode cL_cheapest 26 = .ok (.ireturn, 1) := by decide +kernel
theorem dL_cheapest_27 : decode cL_cheapest 27 = .ok (.iconst 0, 1) := by decide +kernel
theorem dL_cheapest_28 : decode cL_cheapest 28 = .ok (.ireturn, 1) := by decide +kernel
theorem dL_bath_0 : decode cL_bath 0 = .ok (.aload 7, 2) := by decide +kernel
theorem dL_bath_2 : decode cL_bath 2 = .ok (.iconst 0, 1) := by decide +kernel
theorem dL_bath_3 : decode cL_bath 3 = .ok (.aload_n 0, 1) := by decide +kernel
theorem dL_bath_4 : decode cL_bath 4 = .ok (.iload_n 1, 1) := by decide +kernel
theorem dL_bath_5 : decode cL_bath 5 = .ok (.iload_n 2, 1) := by decide +kernel
theorem dL_bath_6 : decode cL_bath 6 = .ok (.iload_n 3, 1) := by decide +kernel
theorem dL_bath_7 : decode cL_bath 7 = .ok (.iload 4, 2) := by decide +kernel
theorem dL_bath_9 : decode cL_bath 9 = .ok (.iload 5, 2) := by decide +kernel
theorem dL_bath_11 : decode cL_bath 11 = .ok (.iload 6, 2) := by decide +kernel
theorem dL_bath_13 : decode cL_bath 13 = .ok (.invokevirtual 36, 3) := by decide +kernel
theorem dL_bath_16 : decode cL_bath 16 = .ok (.i2l, 1) := by decide +kernel
theorem dL_bath_17 : decode cL_bath 17 = .ok (.lastore, 1) := by decide +kernel
theorem dL_bath_18 : decode cL_bath 18 = .ok (.goto 11, 3) := by decide +kernel
theorem dL_bath_21 : decode cL_bath 21 = .ok (.astore 8, 2) := by decide +kernel
theorem dL_bath_23 : decode cL_bath 23 = .ok (.iconst 1, 1) := by decide +kernel
theorem dL_bath_24 : decode cL_bath 24 = .ok (.ireturn, 1) := by decide +kernel
theorem dL_bath_25 : decode cL_bath 25 = .ok (.astore 8, 2) := by decide +kernel
theorem dL_bath_27 : decode cL_bath 27 = .ok (.iconst 2, 1) := by decide +kernel
theorem dL_bath_28 : decode cL_bath 28 = .ok (.ireturn, 1) := by decide +kernel
theorem dL_bath_29 : decode cL_bath 29 = .ok (.iconst 0, 1) := by decide +kernel
theorem dL_bath_30 : decode cL_bath 30 = .ok (.ireturn, 1) := by decide +kernel
theorem dL_carry_0 : decode cL_carry 0 = .ok (.aload_n 0, 1) := by decide +kernel
theorem dL_carry_1 : decode cL_carry 1 = .ok (.iload_n 1, 1) := by decide +kernel
theorem dL_carry_2 : decode cL_carry 2 = .ok (.iload_n 2, 1) := by decide +kernel
theorem dL_carry_3 : decode cL_carry 3 = .ok (.iload_n 3, 1) := by decide +kernel
theorem dL_carry_4 : decode cL_carry 4 = .ok (.invokevirtual 40, 3) := by decide +kernel
theorem dL_carry_7 : decode cL_carry 7 = .ok (.goto 11, 3) := by decide +kernel
theorem dL_carry_10 : decode cL_carry 10 = .ok (.astore 4, 2) := by decide +kernel
theorem dL_carry_12 : decode cL_carry 12 = .ok (.iconst 1, 1) := by decide +kernel
theorem dL_carry_13 : decode cL_carry 13 = .ok (.ireturn, 1) := by decide +kernel
theorem dL_carry_14 : decode cL_carry 14 = .ok (.astore 4, 2) := by decide +kernel
theorem dL_carry_16 : decode cL_carry 16 = .ok (.iconst 2, 1) := by decide +kernel
theorem dL_carry_17 : decode cL_carry 17 = .ok (.ireturn, 1) := by decide +kernel
theorem dL_carry_18 : decode cL_carry 18 = .ok (.iconst 0, 1) := by decide +kernel
theorem dL_carry_19 : decode cL_carry 19 = .ok (.ireturn, 1) := by decide +kernel
theorem dL_batch_0 : decode cL_batch 0 = .ok (.aload_n 2, 1) := by decide +kernel
theorem dL_batch_1 : decode cL_batch 1 = .ok (.iconst 0, 1) := by decide +kernel
theorem dL_batch_2 : decode cL_batch 2 = .ok (.aload_n 0, 1) := by decide +kernel
theorem dL_batch_3 : decode cL_batch 3 = .ok (.iload_n 1, 1) := by decide +kernel
theorem dL_batch_4 : decode cL_batch 4 = .ok (.invokevirtual 44, 3) := by decide +kernel
theorem dL_batch_7 : decode cL_batch 7 = .ok (.i2l, 1) := by decide +kernel
theorem dL_batch_8 : decode cL_batch 8 = .ok (.lastore, 1) := by decide +kernel
theorem dL_batch_9 : decode cL_batch 9 = .ok (.goto 6, 3) := by decide +kernel
theorem dL_batch_12 : decode cL_batch 12 = .ok (.astore_n 3, 1) := by decide +kernel
theorem dL_batch_13 : decode cL_batch 13 = .ok (.iconst 1, 1) := by decide +kernel
theorem dL_batch_14 : decode cL_batch 14 = .ok (.ireturn, 1) := by decide +kernel
theorem dL_batch_15 : decode cL_batch 15 = .ok (.iconst 0, 1) := by decide +kernel
theorem dL_batch_16 : decode cL_batch 16 = .ok (.ireturn, 1) := by decide +kernel
theorem dL_tank_0 : decode cL_tank 0 = .ok (.aload_n 2, 1) := by decide +kernel
theorem dL_tank_1 : decode cL_tank 1 = .ok (.iconst 0, 1) := by decide +kernel
theorem dL_tank_2 : decode cL_tank 2 = .ok (.aload_n 0, 1) := by decide +kernel
theorem dL_tank_3 : decode cL_tank 3 = .ok (.iload_n 1, 1) := by decide +kernel
theorem dL_tank_4 : decode cL_tank 4 = .ok (.invokevirtual 48, 3) := by decide +kernel
theorem dL_tank_7 : decode cL_tank 7 = .ok (.i2l, 1) := by decide +kernel
theorem dL_tank_8 : decode cL_tank 8 = .ok (.lastore, 1) := by decide +kernel
theorem dL_tank_9 : decode cL_tank 9 = .ok (.goto 9, 3) := by decide +kernel
theorem dL_tank_12 : decode cL_tank 12 = .ok (.astore_n 3, 1) := by decide +kernel
theorem dL_tank_13 : decode cL_tank 13 = .ok (.iconst 1, 1) := by decide +kernel
theorem dL_tank_14 : decode cL_tank 14 = .ok (.ireturn, 1) := by decide +kernel
theorem dL_tank_15 : decode cL_tank 15 = .ok (.astore_n 3, 1) := by decide +kernel
theorem dL_tank_16 : decode cL_tank 16 = .ok (.iconst 2, 1) := by decide +kernel
theorem dL_tank_17 : decode cL_tank 17 = .ok (.ireturn, 1) := by decide +kernel
theorem dL_tank_18 : decode cL_tank 18 = .ok (.iconst 0, 1) := by decide +kernel
theorem dL_tank_19 : decode cL_tank 19 = .ok (.ireturn, 1) := by decide +kernel
theorem dL_draw_0 : decode cL_draw 0 = .ok (.aload_n 3, 1) := by decide +kernel
theorem dL_draw_1 : decode cL_draw 1 = .ok (.iconst 0, 1) := by decide +kernel
theorem dL_draw_2 : decode cL_draw 2 = .ok (.aload_n 0, 1) := by decide +kernel
theorem dL_draw_3 : decode cL_draw 3 = .ok (.iload_n 1, 1) := by decide +kernel
theorem dL_draw_4 : decode cL_draw 4 = .ok (.iload_n 2, 1) := by decide +kernel
theorem dL_draw_5 : decode cL_draw 5 = .ok (.invokevirtual 51, 3) := by decide +kernel
theorem dL_draw_8 : decode cL_draw 8 = .ok (.i2l, 1) := by decide +kernel
theorem dL_draw_9 : decode cL_draw 9 = .ok (.lastore, 1) := by decide +kernel
theorem dL_draw_10 : decode cL_draw 10 = .ok (.goto 7, 3) := by decide +kernel
theorem dL_draw_13 : decode cL_draw 13 = .ok (.astore 4, 2) := by decide +kernel
theorem dL_draw_15 : decode cL_draw 15 = .ok (.iconst 1, 1) := by decide +kernel
theorem dL_draw_16 : decode cL_draw 16 = .ok (.ireturn, 1) := by decide +kernel
theorem dL_draw_17 : decode cL_draw 17 = .ok (.iconst 0, 1) := by decide +kernel
theorem dL_draw_18 : decode cL_draw 18 = .ok (.ireturn, 1) := by decide +kernel
theorem dL_pour_0 : decode cL_pour 0 = .ok (.aload 4, 2) := by decide +kernel
theorem dL_pour_2 : decode cL_pour 2 = .ok (.iconst 0, 1) := by decide +kernel
theorem dL_pour_3 : decode cL_pour 3 = .ok (.aload_n 0, 1) := by decide +kernel
theorem dL_pour_4 : decode cL_pour 4 = .ok (.iload_n 1, 1) := by decide +kernel
theorem dL_pour_5 : decode cL_pour 5 = .ok (.iload_n 2, 1) := by decide +kernel
theorem dL_pour_6 : decode cL_pour 6 = .ok (.iload_n 3, 1) := by decide +kernel
theorem dL_pour_7 : decode cL_pour 7 = .ok (.invokevirtual 55, 3) := by decide +kernel
theorem dL_pour_10 : decode cL_pour 10 = .ok (.i2l, 1) := by decide +kernel
theorem dL_pour_11 : decode cL_pour 11 = .ok (.lastore, 1) := by decide +kernel
theorem dL_pour_12 : decode cL_pour 12 = .ok (.goto 11, 3) := by decide +kernel
theorem dL_pour_15 : decode cL_pour 15 = .ok (.astore 5, 2) := by decide +kernel
theorem dL_pour_17 : decode cL_pour 17 = .ok (.iconst 1, 1) := by decide +kernel
theorem dL_pour_18 : decode cL_pour 18 = .ok (.ireturn, 1) := by decide +kernel
theorem dL_pour_19 : decode cL_pour 19 = .ok (.astore 5, 2) := by decide +kernel
theorem dL_pour_21 : decode cL_pour 21 = .ok (.iconst 2, 1) := by decide +kernel
theorem dL_pour_22 : decode cL_pour 22 = .ok (.ireturn, 1) := by decide +kernel
theorem dL_pour_23 : decode cL_pour 23 = .ok (.iconst 0, 1) := by decide +kernel
theorem dL_pour_24 : decode cL_pour 24 = .ok (.ireturn, 1) := by decide +kernel
theorem dL_has_0 : decode cL_has 0 = .ok (.aload_n 3, 1) := by decide +kernel
theorem dL_has_1 : decode cL_has 1 = .ok (.iconst 0, 1) := by decide +kernel
theorem dL_has_2 : decode cL_has 2 = .ok (.aload_n 0, 1) := by decide +kernel
theorem dL_has_3 : decode cL_has 3 = .ok (.iload_n 1, 1) := by decide +kernel
theorem dL_has_4 : decode cL_has 4 = .ok (.iload_n 2, 1) := by decide +kernel
theorem dL_has_5 : decode cL_has 5 = .ok (.invokevirtual 58, 3) := by decide +kernel
theorem dL_has_8 : decode cL_has 8 = .ok (.i2l, 1) := by decide +kernel
theorem dL_has_9 : decode cL_has 9 = .ok (.lastore, 1) := by decide +kernel
theorem dL_has_10 : decode cL_has 10 = .ok (.goto 11, 3) := by decide +kernel
theorem dL_has_13 : decode cL_has 13 = .ok (.astore 4, 2) := by decide +kernel
theorem dL_has_15 : decode cL_has 15 = .ok (.iconst 1, 1) := by decide +kernel
theorem dL_has_16 : decode cL_has 16 = .ok (.ireturn, 1) := by decide +kernel
theorem dL_has_17 : decode cL_has 17 = .ok (.astore 4, 2) := by decide +kernel
theorem dL_has_19 : decode cL_has 19 = .ok (.iconst 2, 1) := by decide +kernel
theorem dL_has_20 : decode cL_has 20 = .ok (.ireturn, 1) := by decide +kernel
theorem dL_has_21 : decode cL_has 21 = .ok (.iconst 0, 1) := by decide +kernel
theorem dL_has_22 : decode cL_has 22 = .ok (.ireturn, 1) := by decide +kernel
theorem dL_garment_0 : decode cL_garment 0 = .ok (.aload_n 2, 1) := by decide +kernel
theorem dL_garment_1 : decode cL_garment 1 = .ok (.iconst 0, 1) := by decide +kernel
theorem dL_garment_2 : decode cL_garment 2 = .ok (.aload_n 0, 1) := by decide +kernel
theorem dL_garment_3 : decode cL_garment 3 = .ok (.iload_n 1, 1) := by decide +kernel
theorem dL_garment_4 : decode cL_garment 4 = .ok (.invokevirtual 61, 3) := by decide +kernel
theorem dL_garment_7 : decode cL_garment 7 = .ok (.i2l, 1) := by decide +kernel
theorem dL_garment_8 : decode cL_garment 8 = .ok (.lastore, 1) := by decide +kernel
theorem dL_garment_9 : decode cL_garment 9 = .ok (.goto 6, 3) := by decide +kernel
theorem dL_garment_12 : decode cL_garment 12 = .ok (.astore_n 3, 1) := by decide +kernel
theorem dL_garment_13 : decode cL_garment 13 = .ok (.iconst 1, 1) := by decide +kernel
theorem dL_garment_14 : decode cL_garment 14 = .ok (.ireturn, 1) := by decide +kernel
theorem dL_garment_15 : decode cL_garment 15 = .ok (.iconst 0, 1) := by decide +kernel
theorem dL_garment_16 : decode cL_garment 16 = .ok (.ireturn, 1) := by decide +kernel
theorem dL_spread_0 : decode cL_spread 0 = .ok (.aload_n 2, 1) := by decide +kernel
theorem dL_spread_1 : decode cL_spread 1 = .ok (.iconst 0, 1) := by decide +kernel
theorem dL_spread_2 : decode cL_spread 2 = .ok (.aload_n 0, 1) := by decide +kernel
theorem dL_spread_3 : decode cL_spread 3 = .ok (.iload_n 1, 1) := by decide +kernel
theorem dL_spread_4 : decode cL_spread 4 = .ok (.invokevirtual 64, 3) := by decide +kernel
theorem dL_spread_7 : decode cL_spread 7 = .ok (.i2l, 1) := by decide +kernel
theorem dL_spread_8 : decode cL_spread 8 = .ok (.lastore, 1) := by decide +kernel
theorem dL_spread_9 : decode cL_spread 9 = .ok (.goto 6, 3) := by decide +kernel
theorem dL_spread_12 : decode cL_spread 12 = .ok (.astore_n 3, 1) := by decide +kernel
theorem dL_spread_13 : decode cL_spread 13 = .ok (.iconst 1, 1) := by decide +kernel
theorem dL_spread_14 : decode cL_spread 14 = .ok (.ireturn, 1) := by decide +kernel
theorem dL_spread_15 : decode cL_spread 15 = .ok (.iconst 0, 1) := by decide +kernel
theorem dL_spread_16 : decode cL_spread 16 = .ok (.ireturn, 1) := by decide +kernel
theorem dL_packs_0 : decode cL_packs 0 = .ok (.aload 4, 2) := by decide +kernel
theorem dL_packs_2 : decode cL_packs 2 = .ok (.iconst 0, 1) := by decide +kernel
theorem dL_packs_3 : decode cL_packs 3 = .ok (.aload_n 0, 1) := by decide +kernel
theorem dL_packs_4 : decode cL_packs 4 = .ok (.iload_n 1, 1) := by decide +kernel
theorem dL_packs_5 : decode cL_packs 5 = .ok (.iload_n 2, 1) := by decide +kernel
theorem dL_packs_6 : decode cL_packs 6 = .ok (.iload_n 3, 1) := by decide +kernel
theorem dL_packs_7 : decode cL_packs 7 = .ok (.invokevirtual 67, 3) := by decide +kernel
theorem dL_packs_10 : decode cL_packs 10 = .ok (.i2l, 1) := by decide +kernel
theorem dL_packs_11 : decode cL_packs 11 = .ok (.lastore, 1) := by decide +kernel
theorem dL_packs_12 : decode cL_packs 12 = .ok (.goto 7, 3) := by decide +kernel
theorem dL_packs_15 : decode cL_packs 15 = .ok (.astore 5, 2) := by decide +kernel
theorem dL_packs_17 : decode cL_packs 17 = .ok (.iconst 1, 1) := by decide +kernel
theorem dL_packs_18 : decode cL_packs 18 = .ok (.ireturn, 1) := by decide +kernel
theorem dL_packs_19 : decode cL_packs 19 = .ok (.iconst 0, 1) := by decide +kernel
theorem dL_packs_20 : decode cL_packs 20 = .ok (.ireturn, 1) := by decide +kernel
theorem dL_house_0 : decode cL_house 0 = .ok (.aload_n 1, 1) := by decide +kernel
theorem dL_house_1 : decode cL_house 1 = .ok (.iconst 0, 1) := by decide +kernel
theorem dL_house_2 : decode cL_house 2 = .ok (.aload_n 0, 1) := by decide +kernel
theorem dL_house_3 : decode cL_house 3 = .ok (.invokevirtual 71, 3) := by decide +kernel
theorem dL_house_6 : decode cL_house 6 = .ok (.i2l, 1) := by decide +kernel
theorem dL_house_7 : decode cL_house 7 = .ok (.lastore, 1) := by decide +kernel
theorem dL_house_8 : decode cL_house 8 = .ok (.goto 6, 3) := by decide +kernel
theorem dL_house_11 : decode cL_house 11 = .ok (.astore_n 2, 1) := by decide +kernel
theorem dL_house_12 : decode cL_house 12 = .ok (.iconst 1, 1) := by decide +kernel
theorem dL_house_13 : decode cL_house 13 = .ok (.ireturn, 1) := by decide +kernel
theorem dL_house_14 : decode cL_house 14 = .ok (.iconst 0, 1) := by decide +kernel
theorem dL_house_15 : decode cL_house 15 = .ok (.ireturn, 1) := by decide +kernel
theorem dL_tells_0 : decode cL_tells 0 = .ok (.aload_n 2, 1) := by decide +kernel
theorem dL_tells_1 : decode cL_tells 1 = .ok (.iconst 0, 1) := by decide +kernel
theorem dL_tells_2 : decode cL_tells 2 = .ok (.aload_n 0, 1) := by decide +kernel
theorem dL_tells_3 : decode cL_tells 3 = .ok (.iload_n 1, 1) := by decide +kernel
theorem dL_tells_4 : decode cL_tells 4 = .ok (.invokevirtual 74, 3) := by decide +kernel
theorem dL_tells_7 : decode cL_tells 7 = .ok (.i2l, 1) := by decide +kernel
theorem dL_tells_8 : decode cL_tells 8 = .ok (.lastore, 1) := by decide +kernel
theorem dL_tells_9 : decode cL_tells 9 = .ok (.goto 6, 3) := by decide +kernel
theorem dL_tells_12 : decode cL_tells 12 = .ok (.astore_n 3, 1) := by decide +kernel
theorem dL_tells_13 : decode cL_tells 13 = .ok (.iconst 1, 1) := by decide +kernel
theorem dL_tells_14 : decode cL_tells 14 = .ok (.ireturn, 1) := by decide +kernel
theorem dL_tells_15 : decode cL_tells 15 = .ok (.iconst 0, 1) := by decide +kernel
theorem dL_tells_16 : decode cL_tells 16 = .ok (.ireturn, 1) := by decide +kernel
theorem dL_machine_0 : decode cL_machine 0 = .ok (.aload_n 2, 1) := by decide +kernel
theorem dL_machine_1 : decode cL_machine 1 = .ok (.iconst 0, 1) := by decide +kernel
theorem dL_machine_2 : decode cL_machine 2 = .ok (.aload_n 0, 1) := by decide +kernel
theorem dL_machine_3 : decode cL_machine 3 = .ok (.iload_n 1, 1) := by decide +kernel
theorem dL_machine_4 : decode cL_machine 4 = .ok (.invokevirtual 77, 3) := by decide +kernel
theorem dL_machine_7 : decode cL_machine 7 = .ok (.i2l, 1) := by decide +kernel
theorem dL_machine_8 : decode cL_machine 8 = .ok (.lastore, 1) := by decide +kernel
theorem dL_machine_9 : decode cL_machine 9 = .ok (.goto 9, 3) := by decide +kernel
theorem dL_machine_12 : decode cL_machine 12 = .ok (.astore_n 3, 1) := by decide +kernel
theorem dL_machine_13 : decode cL_machine 13 = .ok (.iconst 1, 1) := by decide +kernel
theorem dL_machine_14 : decode cL_machine 14 = .ok (.ireturn, 1) := by decide +kernel
theorem dL_machine_15 : decode cL_machine 15 = .ok (.astore_n 3, 1) := by decide +kernel
theorem dL_machine_16 : decode cL_machine 16 = .ok (.iconst 2, 1) := by decide +kernel
theorem dL_machine_17 : decode cL_machine 17 = .ok (.ireturn, 1) := by decide +kernel
theorem dL_machine_18 : decode cL_machine 18 = .ok (.iconst 0, 1) := by decide +kernel
theorem dL_machine_19 : decode cL_machine 19 = .ok (.ireturn, 1) := by decide +kernel
theorem dL_lot_0 : decode cL_lot 0 = .ok (.aload 8, 2) := by decide +kernel
theorem dL_lot_2 : decode cL_lot 2 = .ok (.iconst 0, 1) := by decide +kernel
theorem dL_lot_3 : decode cL_lot 3 = .ok (.aload_n 0, 1) := by decide +kernel
theorem dL_lot_4 : decode cL_lot 4 = .ok (.iload_n 1, 1) := by decide +kernel
theorem dL_lot_5 : decode cL_lot 5 = .ok (.iload_n 2, 1) := by decide +kernel
theorem dL_lot_6 : decode cL_lot 6 = .ok (.iload_n 3, 1) := by decide +kernel
theorem dL_lot_7 : decode cL_lot 7 = .ok (.iload 4, 2) := by decide +kernel
theorem dL_lot_9 : decode cL_lot 9 = .ok (.iload 5, 2) := by decide +kernel
theorem dL_lot_11 : decode cL_lot 11 = .ok (.iload 6, 2) := by decide +kernel
theorem dL_lot_13 : decode cL_lot 13 = .ok (.iload 7, 2) := by decide +kernel
theorem dL_lot_15 : decode cL_lot 15 = .ok (.invokevirtual 80, 3) := by decide +kernel
theorem dL_lot_18 : decode cL_lot 18 = .ok (.i2l, 1) := by decide +kernel
theorem dL_lot_19 : decode cL_lot 19 = .ok (.lastore, 1) := by decide +kernel
theorem dL_lot_20 : decode cL_lot 20 = .ok (.goto 15, 3) := by decide +kernel
theorem dL_lot_23 : decode cL_lot 23 = .ok (.astore 9, 2) := by decide +kernel
theorem dL_lot_25 : decode cL_lot 25 = .ok (.iconst 1, 1) := by decide +kernel
theorem dL_lot_26 : decode cL_lot 26 = .ok (.ireturn, 1) := by decide +kernel
theorem dL_lot_27 : decode cL_lot 27 = .ok (.astore 9, 2) := by decide +kernel
theorem dL_lot_29 : decode cL_lot 29 = .ok (.iconst 2, 1) := by decide +kernel
theorem dL_lot_30 : decode cL_lot 30 = .ok (.ireturn, 1) := by decide +kernel
theorem dL_lot_31 : decode cL_lot 31 = .ok (.astore 9, 2) := by decide +kernel
theorem dL_lot_33 : decode cL_lot 33 = .ok (.iconst 3, 1) := by decide +kernel
theorem dL_lot_34 : decode cL_lot 34 = .ok (.ireturn, 1) := by decide +kernel
theorem dL_lot_35 : decode cL_lot 35 = .ok (.iconst 0, 1) := by decide +kernel
theorem dL_lot_36 : decode cL_lot 36 = .ok (.ireturn, 1) := by decide +kernel
theorem dL_load_0 : decode cL_load 0 = .ok (.aload_n 3, 1) := by decide +kernel
theorem dL_load_1 : decode cL_load 1 = .ok (.iconst 0, 1) := by decide +kernel
theorem dL_load_2 : decode cL_load 2 = .ok (.aload_n 0, 1) := by decide +kernel
theorem dL_load_3 : decode cL_load 3 = .ok (.iload_n 1, 1) := by decide +kernel
theorem dL_load_4 : decode cL_load 4 = .ok (.iload_n 2, 1) := by decide +kernel
theorem dL_load_5 : decode cL_load 5 = .ok (.invokevirtual 84, 3) := by decide +kernel
theorem dL_load_8 : decode cL_load 8 = .ok (.ifCond .eq 7, 3) := by decide +kernel
theorem dL_load_11 : decode cL_load 11 = .ok (.lconst 1, 1) := by decide +kernel
theorem dL_load_12 : decode cL_load 12 = .ok (.goto 4, 3) := by decide +kernel
theorem dL_load_15 : decode cL_load 15 = .ok (.lconst 0, 1) := by decide +kernel
theorem dL_load_16 : decode cL_load 16 = .ok (.lastore, 1) := by decide +kernel
theorem dL_load_17 : decode cL_load 17 = .ok (.goto 7, 3) := by decide +kernel
theorem dL_load_20 : decode cL_load 20 = .ok (.astore 4, 2) := by decide +kernel
theorem dL_load_22 : decode cL_load 22 = .ok (.iconst 1, 1) := by decide +kernel
theorem dL_load_23 : decode cL_load 23 = .ok (.ireturn, 1) := by decide +kernel
theorem dL_load_24 : decode cL_load 24 = .ok (.iconst 0, 1) := by decide +kernel
theorem dL_load_25 : decode cL_load 25 = .ok (.ireturn, 1) := by decide +kernel
theorem dL_days_0 : decode cL_days 0 = .ok (.aload_n 2, 1) := by decide +kernel
theorem dL_days_1 : decode cL_days 1 = .ok (.iconst 0, 1) := by decide +kernel
theorem dL_days_2 : decode cL_days 2 = .ok (.aload_n 0, 1) := by decide +kernel
theorem dL_days_3 : decode cL_days 3 = .ok (.iload_n 1, 1) := by decide +kernel
theorem dL_days_4 : decode cL_days 4 = .ok (.invokevirtual 88, 3) := by decide +kernel
theorem dL_days_7 : decode cL_days 7 = .ok (.i2l, 1) := by decide +kernel
theorem dL_days_8 : decode cL_days 8 = .ok (.lastore, 1) := by decide +kernel
theorem dL_days_9 : decode cL_days 9 = .ok (.goto 6, 3) := by decide +kernel
theorem dL_days_12 : decode cL_days 12 = .ok (.astore_n 3, 1) := by decide +kernel
theorem dL_days_13 : decode cL_days 13 = .ok (.iconst 1, 1) := by decide +kernel
theorem dL_days_14 : decode cL_days 14 = .ok (.ireturn, 1) := by decide +kernel
theorem dL_days_15 : decode cL_days 15 = .ok (.iconst 0, 1) := by decide +kernel
theorem dL_days_16 : decode cL_days 16 = .ok (.ireturn, 1) := by decide +kernel
theorem dL_led_0 : decode cL_led 0 = .ok (.aload_n 3, 1) := by decide +kernel
theorem dL_led_1 : decode cL_led 1 = .ok (.iconst 0, 1) := by decide +kernel
theorem dL_led_2 : decode cL_led 2 = .ok (.aload_n 0, 1) := by decide +kernel
theorem dL_led_3 : decode cL_led 3 = .ok (.iload_n 1, 1) := by decide +kernel
theorem dL_led_4 : decode cL_led 4 = .ok (.iload_n 2, 1) := by decide +kernel
theorem dL_led_5 : decode cL_led 5 = .ok (.invokevirtual 91, 3) := by decide +kernel
theorem dL_led_8 : decode cL_led 8 = .ok (.i2l, 1) := by decide +kernel
theorem dL_led_9 : decode cL_led 9 = .ok (.lastore, 1) := by decide +kernel
theorem dL_led_10 : decode cL_led 10 = .ok (.goto 11, 3) := by decide +kernel
theorem dL_led_13 : decode cL_led 13 = .ok (.astore 4, 2) := by decide +kernel
theorem dL_led_15 : decode cL_led 15 = .ok (.iconst 1, 1) := by decide +kernel
theorem dL_led_16 : decode cL_led 16 = .ok (.ireturn, 1) := by decide +kernel
theorem dL_led_17 : decode cL_led 17 = .ok (.astore 4, 2) := by decide +kernel
theorem dL_led_19 : decode cL_led 19 = .ok (.iconst 2, 1) := by decide +kernel
theorem dL_led_20 : decode cL_led 20 = .ok (.ireturn, 1) := by decide +kernel
theorem dL_led_21 : decode cL_led 21 = .ok (.iconst 0, 1) := by decide +kernel
theorem dL_led_22 : decode cL_led 22 = .ok (.ireturn, 1) := by decide +kernel
theorem dL_works_0 : decode cL_works 0 = .ok (.aload_n 3, 1) := by decide +kernel
theorem dL_works_1 : decode cL_works 1 = .ok (.iconst 0, 1) := by decide +kernel
theorem dL_works_2 : decode cL_works 2 = .ok (.aload_n 0, 1) := by decide +kernel
theorem dL_works_3 : decode cL_works 3 = .ok (.iload_n 1, 1) := by decide +kernel
theorem dL_works_4 : decode cL_works 4 = .ok (.iload_n 2, 1) := by decide +kernel
theorem dL_works_5 : decode cL_works 5 = .ok (.invokevirtual 94, 3) := by decide +kernel
theorem dL_works_8 : decode cL_works 8 = .ok (.i2l, 1) := by decide +kernel
theorem dL_works_9 : decode cL_works 9 = .ok (.lastore, 1) := by decide +kernel
theorem dL_works_10 : decode cL_works 10 = .ok (.goto 11, 3) := by decide +kernel
theorem dL_works_13 : decode cL_works 13 = .ok (.astore 4, 2) := by decide +kernel
theorem dL_works_15 : decode cL_works 15 = .ok (.iconst 1, 1) := by decide +kernel
theorem dL_works_16 : decode cL_works 16 = .ok (.ireturn, 1) := by decide +kernel
theorem dL_works_17 : decode cL_works 17 = .ok (.astore 4, 2) := by decide +kernel
theorem dL_works_19 : decode cL_works 19 = .ok (.iconst 2, 1) := by decide +kernel
theorem dL_works_20 : decode cL_works 20 = .ok (.ireturn, 1) := by decide +kernel
theorem dL_works_21 : decode cL_works 21 = .ok (.iconst 0, 1) := by decide +kernel
theorem dL_works_22 : decode cL_works 22 = .ok (.ireturn, 1) := by decide +kernel
theorem dL_measure_0 : decode cL_measure 0 = .ok (.aload 4, 2) := by decide +kernel
theorem dL_measure_2 : decode cL_measure 2 = .ok (.iconst 0, 1) := by decide +kernel
theorem dL_measure_3 : decode cL_measure 3 = .ok (.aload_n 0, 1) := by decide +kernel
theorem dL_measure_4 : decode cL_measure 4 = .ok (.iload_n 1, 1) := by decide +kernel
theorem dL_measure_5 : decode cL_measure 5 = .ok (.iload_n 2, 1) := by decide +kernel
theorem dL_measure_6 : decode cL_measure 6 = .ok (.iload_n 3, 1) := by decide +kernel
theorem dL_measure_7 : decode cL_measure 7 = .ok (.invokevirtual 97, 3) := by decide +kernel
theorem dL_measure_10 : decode cL_measure 10 = .ok (.i2l, 1) := by decide +kernel
theorem dL_measure_11 : decode cL_measure 11 = .ok (.lastore, 1) := by decide +kernel
theorem dL_measure_12 : decode cL_measure 12 = .ok (.goto 15, 3) := by decide +kernel
theorem dL_measure_15 : decode cL_measure 15 = .ok (.astore 5, 2) := by decide +kernel
theorem dL_measure_17 : decode cL_measure 17 = .ok (.iconst 1, 1) := by decide +kernel
theorem dL_measure_18 : decode cL_measure 18 = .ok (.ireturn, 1) := by decide +kernel
theorem dL_measure_19 : decode cL_measure 19 = .ok (.astore 5, 2) := by decide +kernel
theorem dL_measure_21 : decode cL_measure 21 = .ok (.iconst 2, 1) := by decide +kernel
theorem dL_measure_22 : decode cL_measure 22 = .ok (.ireturn, 1) := by decide +kernel
theorem dL_measure_23 : decode cL_measure 23 = .ok (.astore 5, 2) := by decide +kernel
theorem dL_measure_25 : decode cL_measure 25 = .ok (.iconst 3, 1) := by decide +kernel
theorem dL_measure_26 : decode cL_measure 26 = .ok (.ireturn, 1) := by decide +kernel
theorem dL_measure_27 : decode cL_measure 27 = .ok (.iconst 0, 1) := by decide +kernel
theorem dL_measure_28 : decode cL_measure 28 = .ok (.ireturn, 1) := by decide +kernel
theorem dL_known_0 : decode cL_known 0 = .ok (.aload 4, 2) := by decide +kernel
theorem dL_known_2 : decode cL_known 2 = .ok (.iconst 0, 1) := by decide +kernel
theorem dL_known_3 : decode cL_known 3 = .ok (.aload_n 0, 1) := by decide +kernel
theorem dL_known_4 : decode cL_known 4 = .ok (.iload_n 1, 1) := by decide +kernel
theorem dL_known_5 : decode cL_known 5 = .ok (.iload_n 2, 1) := by decide +kernel
theorem dL_known_6 : decode cL_known 6 = .ok (.iload_n 3, 1) := by decide +kernel
theorem dL_known_7 : decode cL_known 7 = .ok (.invokevirtual 102, 3) := by decide +kernel
theorem dL_known_10 : decode cL_known 10 = .ok (.i2l, 1) := by decide +kernel
theorem dL_known_11 : decode cL_known 11 = .ok (.lastore, 1) := by decide +kernel
theorem dL_known_12 : decode cL_known 12 = .ok (.goto 7, 3) := by decide +kernel
theorem dL_known_15 : decode cL_known 15 = .ok (.astore 5, 2) := by decide +kernel
theorem dL_known_17 : decode cL_known 17 = .ok (.iconst 1, 1) := by decide +kernel
theorem dL_known_18 : decode cL_known 18 = .ok (.ireturn, 1) := by decide +kernel
theorem dL_known_19 : decode cL_known 19 = .ok (.iconst 0, 1) := by decide +kernel
theorem dL_known_20 : decode cL_known 20 = .ok (.ireturn, 1) := by decide +kernel
theorem dL_sorted_0 : decode cL_sorted 0 = .ok (.aload 4, 2) := by decide +kernel
theorem dL_sorted_2 : decode cL_sorted 2 = .ok (.iconst 0, 1) := by decide +kernel
theorem dL_sorted_3 : decode cL_sorted 3 = .ok (.aload_n 0, 1) := by decide +kernel
theorem dL_sorted_4 : decode cL_sorted 4 = .ok (.iload_n 1, 1) := by decide +kernel
theorem dL_sorted_5 : decode cL_sorted 5 = .ok (.iload_n 2, 1) := by decide +kernel
theorem dL_sorted_6 : decode cL_sorted 6 = .ok (.iload_n 3, 1) := by decide +kernel
theorem dL_sorted_7 : decode cL_sorted 7 = .ok (.invokevirtual 105, 3) := by decide +kernel
theorem dL_sorted_10 : decode cL_sorted 10 = .ok (.i2l, 1) := by decide +kernel
theorem dL_sorted_11 : decode cL_sorted 11 = .ok (.lastore, 1) := by decide +kernel
theorem dL_sorted_12 : decode cL_sorted 12 = .ok (.goto 11, 3) := by decide +kernel
theorem dL_sorted_15 : decode cL_sorted 15 = .ok (.astore 5, 2) := by decide +kernel
theorem dL_sorted_17 : decode cL_sorted 17 = .ok (.iconst 1, 1) := by decide +kernel
theorem dL_sorted_18 : decode cL_sorted 18 = .ok (.ireturn, 1) := by decide +kernel
theorem dL_sorted_19 : decode cL_sorted 19 = .ok (.astore 5, 2) := by decide +kernel
theorem dL_sorted_21 : decode cL_sorted 21 = .ok (.iconst 2, 1) := by decide +kernel
theorem dL_sorted_22 : decode cL_sorted 22 = .ok (.ireturn, 1) := by decide +kernel
theorem dL_sorted_23 : decode cL_sorted 23 = .ok (.iconst 0, 1) := by decide +kernel
theorem dL_sorted_24 : decode cL_sorted 24 = .ok (.ireturn, 1) := by decide +kernel
theorem dL_again_0 : decode cL_again 0 = .ok (.aload_n 2, 1) := by decide +kernel
theorem dL_again_1 : decode cL_again 1 = .ok (.iconst 0, 1) := by decide +kernel
theorem dL_again_2 : decode cL_again 2 = .ok (.aload_n 0, 1) := by decide +kernel
theorem dL_again_3 : decode cL_again 3 = .ok (.iload_n 1, 1) := by decide +kernel
theorem dL_again_4 : decode cL_again 4 = .ok (.invokevirtual 108, 3) := by decide +kernel
theorem dL_again_7 : decode cL_again 7 = .ok (.i2l, 1) := by decide +kernel
theorem dL_again_8 : decode cL_again 8 = .ok (.lastore, 1) := by decide +kernel
theorem dL_again_9 : decode cL_again 9 = .ok (.goto 9, 3) := by decide +kernel
theorem dL_again_12 : decode cL_again 12 = .ok (.astore_n 3, 1) := by decide +kernel
theorem dL_again_13 : decode cL_again 13 = .ok (.iconst 1, 1) := by decide +kernel
theorem dL_again_14 : decode cL_again 14 = .ok (.ireturn, 1) := by decide +kernel
theorem dL_again_15 : decode cL_again 15 = .ok (.astore_n 3, 1) := by decide +kernel
theorem dL_again_16 : decode cL_again 16 = .ok (.iconst 2, 1) := by decide +kernel
theorem dL_again_17 : decode cL_again 17 = .ok (.ireturn, 1) := by decide +kernel
theorem dL_again_18 : decode cL_again 18 = .ok (.iconst 0, 1) := by decide +kernel
theorem dL_again_19 : decode cL_again 19 = .ok (.ireturn, 1) := by decide +kernel
theorem dL_deliver_0 : decode cL_deliver 0 = .ok (.aload_n 3, 1) := by decide +kernel
theorem dL_deliver_1 : decode cL_deliver 1 = .ok (.iconst 0, 1) := by decide +kernel
theorem dL_deliver_2 : decode cL_deliver 2 = .ok (.aload_n 0, 1) := by decide +kernel
theorem dL_deliver_3 : decode cL_deliver 3 = .ok (.iload_n 1, 1) := by decide +kernel
theorem dL_deliver_4 : decode cL_deliver 4 = .ok (.iload_n 2, 1) := by decide +kernel
theorem dL_deliver_5 : decode cL_deliver 5 = .ok (.invokevirtual 111, 3) := by decide +kernel
theorem dL_deliver_8 : decode cL_deliver 8 = .ok (.i2l, 1) := by decide +kernel
theorem dL_deliver_9 : decode cL_deliver 9 = .ok (.lastore, 1) := by decide +kernel
theorem dL_deliver_10 : decode cL_deliver 10 = .ok (.goto 11, 3) := by decide +kernel
theorem dL_deliver_13 : decode cL_deliver 13 = .ok (.astore 4, 2) := by decide +kernel
theorem dL_deliver_15 : decode cL_deliver 15 = .ok (.iconst 1, 1) := by decide +kernel
theorem dL_deliver_16 : decode cL_deliver 16 = .ok (.ireturn, 1) := by decide +kernel
theorem dL_deliver_17 : decode cL_deliver 17 = .ok (.astore 4, 2) := by decide +kernel
theorem dL_deliver_19 : decode cL_deliver 19 = .ok (.iconst 2, 1) := by decide +kernel
theorem dL_deliver_20 : decode cL_deliver 20 = .ok (.ireturn, 1) := by decide +kernel
theorem dL_deliver_21 : decode cL_deliver 21 = .ok (.iconst 0, 1) := by decide +kernel
theorem dL_deliver_22 : decode cL_deliver 22 = .ok (.ireturn, 1) := by decide +kernel
theorem dL_ready_0 : decode cL_ready 0 = .ok (.aload_n 2, 1) := by decide +kernel
theorem dL_ready_1 : decode cL_ready 1 = .ok (.iconst 0, 1) := by decide +kernel
theorem dL_ready_2 : decode cL_ready 2 = .ok (.aload_n 0, 1) := by decide +kernel
theorem dL_ready_3 : decode cL_ready 3 = .ok (.iload_n 1, 1) := by decide +kernel
theorem dL_ready_4 : decode cL_ready 4 = .ok (.invokevirtual 114, 3) := by decide +kernel
theorem dL_ready_7 : decode cL_ready 7 = .ok (.i2l, 1) := by decide +kernel
theorem dL_ready_8 : decode cL_ready 8 = .ok (.lastore, 1) := by decide +kernel
theorem dL_ready_9 : decode cL_ready 9 = .ok (.goto 6, 3) := by decide +kernel
theorem dL_ready_12 : decode cL_ready 12 = .ok (.astore_n 3, 1) := by decide +kernel
theorem dL_ready_13 : decode cL_ready 13 = .ok (.iconst 1, 1) := by decide +kernel
theorem dL_ready_14 : decode cL_ready 14 = .ok (.ireturn, 1) := by decide +kernel
theorem dL_ready_15 : decode cL_ready 15 = .ok (.iconst 0, 1) := by decide +kernel
theorem dL_ready_16 : decode cL_ready 16 = .ok (.ireturn, 1) := by decide +kernel
theorem dL_pattern_0 : decode cL_pattern 0 = .ok (.aload_n 0, 1) := by decide +kernel
theorem dL_pattern_1 : decode cL_pattern 1 = .ok (.iload_n 1, 1) := by decide +kernel
theorem dL_pattern_2 : decode cL_pattern 2 = .ok (.iload_n 2, 1) := by decide +kernel
theorem dL_pattern_3 : decode cL_pattern 3 = .ok (.invokevirtual 117, 3) := by decide +kernel
theorem dL_pattern_6 : decode cL_pattern 6 = .ok (.goto 6, 3) := by decide +kernel
theorem dL_pattern_9 : decode cL_pattern 9 = .ok (.astore_n 3, 1) := by decide +kernel
theorem dL_pattern_10 : decode cL_pattern 10 = .ok (.iconst 1, 1) := by decide +kernel
theorem dL_pattern_11 : decode cL_pattern 11 = .ok (.ireturn, 1) := by decide +kernel
theorem dL_pattern_12 : decode cL_pattern 12 = .ok (.iconst 0, 1) := by decide +kernel
theorem dL_pattern_13 : decode cL_pattern 13 = .ok (.ireturn, 1) := by decide +kernel
theorem dL_heat_0 : decode cL_heat 0 = .ok (.aload 4, 2) := by decide +kernel
theorem dL_heat_2 : decode cL_heat 2 = .ok (.iconst 0, 1) := by decide +kernel
theorem dL_heat_3 : decode cL_heat 3 = .ok (.aload_n 0, 1) := by decide +kernel
theorem dL_heat_4 : decode cL_heat 4 = .ok (.iload_n 1, 1) := by decide +kernel
theorem dL_heat_5 : decode cL_heat 5 = .ok (.iload_n 2, 1) := by decide +kernel
theorem dL_heat_6 : decode cL_heat 6 = .ok (.iload_n 3, 1) := by decide +kernel
theorem dL_heat_7 : decode cL_heat 7 = .ok (.invokevirtual 121, 3) := by decide +kernel
theorem dL_heat_10 : decode cL_heat 10 = .ok (.ifCond .eq 7, 3) := by decide +kernel
theorem dL_heat_13 : decode cL_heat 13 = .ok (.lconst 1, 1) := by decide +kernel
theorem dL_heat_14 : decode cL_heat 14 = .ok (.goto 4, 3) := by decide +kernel
theorem dL_heat_17 : decode cL_heat 17 = .ok (.lconst 0, 1) := by decide +kernel
theorem dL_heat_18 : decode cL_heat 18 = .ok (.lastore, 1) := by decide +kernel
theorem dL_heat_19 : decode cL_heat 19 = .ok (.goto 7, 3) := by decide +kernel
theorem dL_heat_22 : decode cL_heat 22 = .ok (.astore 5, 2) := by decide +kernel
theorem dL_heat_24 : decode cL_heat 24 = .ok (.iconst 1, 1) := by decide +kernel
theorem dL_heat_25 : decode cL_heat 25 = .ok (.ireturn, 1) := by decide +kernel
theorem dL_heat_26 : decode cL_heat 26 = .ok (.iconst 0, 1) := by decide +kernel
theorem dL_heat_27 : decode cL_heat 27 = .ok (.ireturn, 1) := by decide +kernel
theorem dL_burn_0 : decode cL_burn 0 = .ok (.aload_n 0, 1) := by decide +kernel
theorem dL_burn_1 : decode cL_burn 1 = .ok (.iload_n 1, 1) := by decide +kernel
theorem dL_burn_2 : decode cL_burn 2 = .ok (.iload_n 2, 1) := by decide +kernel
theorem dL_burn_3 : decode cL_burn 3 = .ok (.iload_n 3, 1) := by decide +kernel
theorem dL_burn_4 : decode cL_burn 4 = .ok (.invokevirtual 125, 3) := by decide +kernel
theorem dL_burn_7 : decode cL_burn 7 = .ok (.goto 11, 3) := by decide +kernel
theorem dL_burn_10 : decode cL_burn 10 = .ok (.astore 4, 2) := by decide +kernel
theorem dL_burn_12 : decode cL_burn 12 = .ok (.iconst 1, 1) := by decide +kernel
theorem dL_burn_13 : decode cL_burn 13 = .ok (.ireturn, 1) := by decide +kernel
theorem dL_burn_14 : decode cL_burn 14 = .ok (.astore 4, 2) := by decide +kernel
theorem dL_burn_16 : decode cL_burn 16 = .ok (.iconst 2, 1) := by decide +kernel
theorem dL_burn_17 : decode cL_burn 17 = .ok (.ireturn, 1) := by decide +kernel
theorem dL_burn_18 : decode cL_burn 18 = .ok (.iconst 0, 1) := by decide +kernel
theorem dL_burn_19 : decode cL_burn 19 = .ok (.ireturn, 1) := by decide +kernel
theorem dL_burned_0 : decode cL_burned 0 = .ok (.aload 4, 2) := by decide +kernel
theorem dL_burned_2 : decode cL_burned 2 = .ok (.iconst 0, 1) := by decide +kernel
theorem dL_burned_3 : decode cL_burned 3 = .ok (.aload_n 0, 1) := by decide +kernel
theorem dL_burned_4 : decode cL_burned 4 = .ok (.iload_n 1, 1) := by decide +kernel
theorem dL_burned_5 : decode cL_burned 5 = .ok (.iload_n 2, 1) := by decide +kernel
theorem dL_burned_6 : decode cL_burned 6 = .ok (.iload_n 3, 1) := by decide +kernel
theorem dL_burned_7 : decode cL_burned 7 = .ok (.invokevirtual 128, 3) := by decide +kernel
theorem dL_burned_10 : decode cL_burned 10 = .ok (.i2l, 1) := by decide +kernel
theorem dL_burned_11 : decode cL_burned 11 = .ok (.lastore, 1) := by decide +kernel
theorem dL_burned_12 : decode cL_burned 12 = .ok (.goto 11, 3) := by decide +kernel
theorem dL_burned_15 : decode cL_burned 15 = .ok (.astore 5, 2) := by decide +kernel
theorem dL_burned_17 : decode cL_burned 17 = .ok (.iconst 1, 1) := by decide +kernel
theorem dL_burned_18 : decode cL_burned 18 = .ok (.ireturn, 1) := by decide +kernel
theorem dL_burned_19 : decode cL_burned 19 = .ok (.astore 5, 2) := by decide +kernel
theorem dL_burned_21 : decode cL_burned 21 = .ok (.iconst 2, 1) := by decide +kernel
theorem dL_burned_22 : decode cL_burned 22 = .ok (.ireturn, 1) := by decide +kernel
theorem dL_burned_23 : decode cL_burned 23 = .ok (.iconst 0, 1) := by decide +kernel
theorem dL_burned_24 : decode cL_burned 24 = .ok (.ireturn, 1) := by decide +kernel
theorem dL_seam_0 : decode cL_seam 0 = .ok (.aload_n 2, 1) := by decide +kernel
theorem dL_seam_1 : decode cL_seam 1 = .ok (.iconst 0, 1) := by decide +kernel
theorem dL_seam_2 : decode cL_seam 2 = .ok (.aload_n 0, 1) := by decide +kernel
theorem dL_seam_3 : decode cL_seam 3 = .ok (.iload_n 1, 1) := by decide +kernel
theorem dL_seam_4 : decode cL_seam 4 = .ok (.invokevirtual 131, 3) := by decide +kernel
theorem dL_seam_7 : decode cL_seam 7 = .ok (.i2l, 1) := by decide +kernel
theorem dL_seam_8 : decode cL_seam 8 = .ok (.lastore, 1) := by decide +kernel
theorem dL_seam_9 : decode cL_seam 9 = .ok (.goto 6, 3) := by decide +kernel
theorem dL_seam_12 : decode cL_seam 12 = .ok (.astore_n 3, 1) := by decide +kernel
theorem dL_seam_13 : decode cL_seam 13 = .ok (.iconst 1, 1) := by decide +kernel
theorem dL_seam_14 : decode cL_seam 14 = .ok (.ireturn, 1) := by decide +kernel
theorem dL_seam_15 : decode cL_seam 15 = .ok (.iconst 0, 1) := by decide +kernel
theorem dL_seam_16 : decode cL_seam 16 = .ok (.ireturn, 1) := by decide +kernel
